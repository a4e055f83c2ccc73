/-! The model finds the parts -/
section OPEN
variable {N : Nat} {g : Nat → Nat} {f : Nat → Int32} {c : Nat}
theorem e_inside {a b : Nat} (ha : a < 2 ^ 31) (hb : b < 2 ^ 31) : ev (fun n => mM_inside n 0 [nI a, nI b]) (bI (decide (a ≠ b) && decide (dif a b = 0))) := by
  refine ev_s (fun n => mM_inside_e0 n _ _) ?_
  rw [nx_dif]
  by_cases h1 : a = b
  · rw [decide_eq_false (fun q => q h1)]
    exact ev_t (by rw [h1]) (ev_p _)
  · rw [decide_eq_true h1, Bool.true_and]
    refine ev_f (fun q => h1 ((nI_eq ha hb).mp q)) ?_
    by_cases h2 : dif a b = 0
    · rw [decide_eq_true h2]
      exact ev_t (by rw [h2]; rfl) (ev_p _)
    · rw [decide_eq_false h2]
      exact ev_f (fun q => h2 ((nI0 (dif_lt b ha)).mp q)) (ev_p _)
def mnP (own p t : Nat) : Bool := (decide (t ≠ own) && decide (dif t own = 0)) && decide (t = p)
def dpP (own p t : Nat) : Bool := (decide (t ≠ own) && decide (dif t own = 0)) && (decide (p ≠ t) && decide (dif p t = 0))
theorem e_ipL (h9 : N ≤ 9) (hc : c < 2 ^ N) (h0 : c ≠ 0) {ts : Nat → Int32} (ht : holds ts (stL N g c)) {own p : Nat} (ho : own < 2 ^ N) (hp : p < 512) : ∀ k j, j + k = (stL N g c).length → ∀ o m d : Bool, ev (fun n => mM_isPart N (nI (stL N g c).length) ts n 4 [nI p, nI own, bI o, bI m, bI d, nI j]) (bI ((o || (m || ((stL N g c).drop j).any (mnP own p))) && !(d || ((stL N g c).drop j).any (dpP own p))))
  | 0, j, h, o, m, d => by
    have hl := stL_len (g := g) h9 hc h0
    have h8 := pN8 h9
    rw [show j = (stL N g c).length by omega, List.drop_length]
    refine ev_s (fun n => mM_isPart_e4 N _ ts n _ _ _ _ _ _) ?_
    refine ev_t (nI_le (Nat.le_refl _) (by omega)) ?_
    have e10 : ev (fun n => mM_isPart N (nI (stL N g c).length) ts n 10 [bI d]) (bI (!d)) := by
      refine ev_s (fun n => mM_isPart_e10 N _ ts n _) ?_
      cases d
      · exact ev_t bI_f (ev_p _)
      · exact ev_f bI_t (ev_p _)
    cases o
    · refine ev_t bI_f ?_
      cases m
      · exact ev_t bI_f (ev_p _)
      · refine ev_f bI_t ?_
        simpa using e10
    · refine ev_f bI_t ?_
      simpa using e10
  | k + 1, j, h, o, m, d => by
    have hl := stL_len (g := g) h9 hc h0
    have h8 := pN8 h9
    have hj : j < (stL N g c).length := by omega
    have hT := st_lt (g := g) hc hj
    have ih := e_ipL h9 hc h0 ht ho hp k (j + 1) (by omega)
    have hp31 : p < 2 ^ 31 := by omega
    rw [drop_cons hj, List.any_cons, List.any_cons]
    have htj := ht j hj
    generalize hTe : (stL N g c).getD j 0 = t at hT htj ⊢
    generalize hrest : ((stL N g c).drop (j + 1)).any (mnP own p) = ra at ih ⊢
    generalize hrest2 : ((stL N g c).drop (j + 1)).any (dpP own p) = rd at ih ⊢
    -- block 7, with the new 'mine'
    have b7 : ∀ m2 : Bool, ev (fun n => mM_isPart N (nI (stL N g c).length) ts n 7 [nI p, nI own, bI o, bI d, nI j, bI (decide (t ≠ own) && decide (dif t own = 0)), bI m2]) (bI ((o || (m2 || ra)) && !(d || (dpP own p t || rd)))) := fun m2 => by
      have k8 : ev (fun n => mM_isPart N (nI (stL N g c).length) ts n 8 [nI p, nI own, bI o, bI m2, nI j]) (bI ((o || (m2 || ra)) && !(true || rd))) := by
        refine ev_s (fun n => mM_isPart_e8 N _ ts n _ _ _ _ _) ?_
        rw [nI_1]
        exact ih o m2 true
      have k9 : ev (fun n => mM_isPart N (nI (stL N g c).length) ts n 9 [nI p, nI own, bI o, bI m2, nI j]) (bI ((o || (m2 || ra)) && !(false || rd))) := by
        refine ev_s (fun n => mM_isPart_e9 N _ ts n _ _ _ _ _) ?_
        rw [nI_1]
        exact ih o m2 false
      refine ev_s (fun n => mM_isPart_e7 N _ ts n _ _ _ _ _ _ _) ?_
      unfold dpP
      cases d
      · refine ev_t bI_f ?_
        cases hbe : (decide (t ≠ own) && decide (dif t own = 0))
        · refine ev_t bI_f ?_
          simpa using k9
        · refine ev_f bI_t ?_
          refine ev_g (vp_in_nI (by omega) (by decide)) ?_
          rw [nI_clamp (show j < 2 ^ 31 by omega), htj]
          refine ev_b (e_inside hp31 (p31 h9 hT)) ?_
          cases hin : (decide (p ≠ t) && decide (dif p t = 0))
          · refine ev_t bI_f ?_
            simpa using k9
          · refine ev_f bI_t ?_
            simpa using k8
      · refine ev_f bI_t ?_
        simpa using k8
    refine ev_s (fun n => mM_isPart_e4 N _ ts n _ _ _ _ _ _) ?_
    refine ev_f (nI_ge hj (by omega)) ?_
    refine ev_g (vp_in_nI (by omega) (by decide)) ?_
    rw [nI_clamp (show j < 2 ^ 31 by omega), htj]
    refine ev_b (e_inside (p31 h9 hT) (p31 h9 ho)) ?_
    have k5 : ev (fun n => mM_isPart N (nI (stL N g c).length) ts n 5 [nI p, nI own, bI o, bI d, nI j, bI (decide (t ≠ own) && decide (dif t own = 0))]) (bI ((o || (true || ra)) && !(d || (dpP own p t || rd)))) := ev_s (fun n => mM_isPart_e5 N _ ts n _ _ _ _ _ _) (b7 true)
    have k6 : ev (fun n => mM_isPart N (nI (stL N g c).length) ts n 6 [nI p, nI own, bI o, bI d, nI j, bI (decide (t ≠ own) && decide (dif t own = 0))]) (bI ((o || (false || ra)) && !(d || (dpP own p t || rd)))) := ev_s (fun n => mM_isPart_e6 N _ ts n _ _ _ _ _ _) (b7 false)
    cases m
    · refine ev_t bI_f ?_
      unfold mnP
      cases hbe : (decide (t ≠ own) && decide (dif t own = 0))
      · refine ev_t bI_f ?_
        rw [hbe] at k6
        simpa using k6
      · refine ev_f bI_t ?_
        rw [hbe] at k5 k6
        refine ev_g (vp_in_nI (by omega) (by decide)) ?_
        by_cases e : t = p
        · refine ev_t (by rw [e]) ?_
          rw [decide_eq_true e]
          simpa using k5
        · refine ev_f (fun q => e ((nI_eq (p31 h9 hT) hp31).mp q)) ?_
          rw [decide_eq_false e]
          simpa using k6
    · refine ev_f bI_t ?_
      simpa using k5
theorem e_isPart (h9 : N ≤ 9) (hc : c < 2 ^ N) (h0 : c ≠ 0) {ts : Nat → Int32} (ht : holds ts (stL N g c)) {own p : Nat} (i : Nat) (ho : own < 2 ^ N) (hp : p < 512) : ev (fun n => mM_isPart N (nI (stL N g c).length) ts n 0 [nI p, nI own, nI c, bI (decide (i = 0))]) (bI (prtB (stL N g c) c own i p)) := by
  have hp31 : p < 2 ^ 31 := by omega
  have rest : ev (fun n => mM_isPart N (nI (stL N g c).length) ts n 1 [nI p, nI own]) (bI (((decide (pop p = 1) && decide (p &&& own ≠ 0)) || mineB (stL N g c) own p) && !deepB (stL N g c) own p)) := by
    have hp9 := pop_le9 p
    have fin : ∀ o : Bool, ev (fun n => mM_isPart N (nI (stL N g c).length) ts n 3 [nI p, nI own, bI o]) (bI ((o || mineB (stL N g c) own p) && !deepB (stL N g c) own p)) := fun o => by
      refine ev_s (fun n => mM_isPart_e3 N _ ts n _ _ _) ?_
      have := e_ipL (g := g) h9 hc h0 ht ho hp (stL N g c).length 0 (by omega) o false false
      rw [List.drop_zero, Bool.false_or, Bool.false_or] at this
      exact this
    have fin0 : ev (fun n => mM_isPart N (nI (stL N g c).length) ts n 2 [nI p, nI own]) (bI ((false || mineB (stL N g c) own p) && !deepB (stL N g c) own p)) := ev_s (fun n => mM_isPart_e2 N _ ts n _ _) (fin false)
    refine ev_s (fun n => mM_isPart_e1 N _ ts n _ _) ?_
    refine ev_b (e_Msize hp31) ?_
    by_cases q1 : pop p = 1
    · rw [decide_eq_true q1, Bool.true_and]
      refine ev_t (by rw [q1]; rfl) ?_
      rw [nx_and]
      by_cases q2 : p &&& own = 0
      · rw [decide_eq_false (fun q => q q2)]
        exact ev_t (by rw [q2]; rfl) fin0
      · rw [decide_eq_true q2]
        exact ev_f (fun q => q2 ((nI0 (Nat.lt_of_le_of_lt Nat.and_le_left hp31)).mp q)) (fin true)
    · rw [decide_eq_false q1]
      exact ev_f (fun q => q1 ((nI_eq (b := 1) (by omega) (by decide)).mp q)) fin0
  refine ev_s (fun n => mM_isPart_e0 N _ ts n _ _ _ _) ?_
  unfold prtB
  by_cases q1 : i = 0
  · rw [decide_eq_true q1, decide_eq_false (fun q => q q1), Bool.false_and, Bool.false_or]
    exact ev_f bI_t rest
  · rw [decide_eq_false q1, decide_eq_true q1, Bool.true_and]
    refine ev_t bI_f ?_
    rw [nx_dif]
    by_cases q2 : p = dif c own
    · rw [decide_eq_true q2]
      exact ev_t (by rw [q2]) (ev_p _)
    · rw [decide_eq_false q2, Bool.false_or]
      exact ev_f (fun q => q2 ((nI_eq hp31 (p31 h9 (dif_lt own hc))).mp q)) rest
theorem ptL_len (h9 : N ≤ 9) (hc : c < 2 ^ N) (h0 : c ≠ 0) {i : Nat} (hi : i < (nds N g c).length) : (ptL N g c ((nds N g c).getD i 0) i).length ≤ N := by
  obtain ⟨ps', r1, r2, r3⟩ := e_findParts (g := g) h9 hc h0 (ns := fun j => nI ((nds N g c).getD j 0)) (fun j _ => rfl) hi (fun _ => 0) 0
  exact r2
theorem e_opL (h9 : N ≤ 9) (hc : c < 2 ^ N) (h0 : c ≠ 0) {ts : Nat → Int32} (ht : holds ts (stL N g c)) {i : Nat} (hi : i < (nds N g c).length) (zn : Int32) (zs : Nat → Int32) : ∀ k p ys, p + k = 512 → 1 ≤ p → holds ys ((List.range p).filter (fun p => decide (1 ≤ p) && prtB (stL N g c) c ((nds N g c).getD i 0) i p)) → ∃ ys', holds ys' (ptL N g c ((nds N g c).getD i 0) i) ∧ ev (fun n => mM_open N f n 1 [nI i, nI ((nds N g c).getD i 0), nI c, nI p] zn zs (nI (stL N g c).length) ts (nI ((List.range p).filter (fun p => decide (1 ≤ p) && prtB (stL N g c) c ((nds N g c).getD i 0) i p)).length) ys) (1, zn, zs, nI (stL N g c).length, ts, nI (ptL N g c ((nds N g c).getD i 0) i).length, ys')
  | 0, p, ys, h, h1, hy => by
    rw [show p = 512 by omega] at hy ⊢
    refine ⟨ys, hy, ?_⟩
    refine ev_s (fun n => mM_open_e1 N f n _ _ _ _ _ _ _ _ _ _) ?_
    exact ev_t (by decide) (ev_p _)
  | k + 1, p, ys, h, h1, hy => by
    have hl := stL_len (g := g) h9 hc h0
    have h8 := pN8 h9
    have hlen : (nds N g c).length = (stL N g c).length + 1 := rfl
    have ho := sub_lt (ndOK_sub (nd_ok (N := N) (g := g) (c := c) hi)) hc
    have hf := range_filter_succ (fun p => decide (1 ≤ p) && prtB (stL N g c) c ((nds N g c).getD i 0) i p) p
    have hpt := ptL_len (g := g) h9 hc h0 hi
    have hx0 : nI i = 0 ↔ i = 0 := nI0 (by omega)
    have start : ∀ R, ev (fun n => mM_open N f n 2 [nI i, nI ((nds N g c).getD i 0), nI c, nI p, bI (decide (i = 0)), nI c, nI ((nds N g c).getD i 0), nI p] zn zs (nI (stL N g c).length) ts (nI ((List.range p).filter (fun p => decide (1 ≤ p) && prtB (stL N g c) c ((nds N g c).getD i 0) i p)).length) ys) R → ev (fun n => mM_open N f n 1 [nI i, nI ((nds N g c).getD i 0), nI c, nI p] zn zs (nI (stL N g c).length) ts (nI ((List.range p).filter (fun p => decide (1 ≤ p) && prtB (stL N g c) c ((nds N g c).getD i 0) i p)).length) ys) R := fun R hR => by
      refine ev_s (fun n => mM_open_e1 N f n _ _ _ _ _ _ _ _ _ _) ?_
      refine ev_f (fun q => absurd ((nI_leI (a := 512) (b := p) (by decide) (by omega)).mp q) (by omega)) ?_
      by_cases q : i = 0
      · rw [decide_eq_true q] at hR
        exact ev_t (hx0.mpr q) hR
      · rw [decide_eq_false q] at hR
        exact ev_f (fun r => q (hx0.mp r)) hR
    have hpart := e_isPart (g := g) h9 hc h0 ht (own := (nds N g c).getD i 0) (p := p) i ho (by omega)
    cases hq : prtB (stL N g c) c ((nds N g c).getD i 0) i p
    · rw [if_neg (by simp only [hq, Bool.and_false]; decide), List.append_nil] at hf
      rw [← hf] at hy
      obtain ⟨ys', r1, r2⟩ := e_opL h9 hc h0 ht hi zn zs k (p + 1) ys (by omega) (by omega) hy
      refine ⟨ys', r1, start _ ?_⟩
      refine ev_s (fun n => mM_open_e2 N f n _ _ _ _ _ _ _ _ _ _ _ _ _ _) ?_
      refine ev_b hpart ?_
      rw [hq, nI_1]
      rw [hf] at r2
      exact ev_t bI_f r2
    · rw [if_pos (by simp only [hq, Bool.and_true]; exact decide_eq_true h1)] at hf
      have hy2 := holds_push hy p
      rw [← hf] at hy2
      obtain ⟨ys', r1, r2⟩ := e_opL h9 hc h0 ht hi zn zs k (p + 1) _ (by omega) (by omega) hy2
      have hlen2 : ((List.range p).filter (fun p => decide (1 ≤ p) && prtB (stL N g c) c ((nds N g c).getD i 0) i p)).length < 9 := by
        have q1 := range_filter_le (fun p => decide (1 ≤ p) && prtB (stL N g c) c ((nds N g c).getD i 0) i p) (show p + 1 ≤ 512 by omega)
        rw [hf, List.length_append, List.length_singleton] at q1
        unfold ptL at hpt
        omega
      refine ⟨ys', r1, start _ ?_⟩
      refine ev_s (fun n => mM_open_e2 N f n _ _ _ _ _ _ _ _ _ _ _ _ _ _) ?_
      refine ev_b hpart ?_
      rw [hq]
      refine ev_f bI_t ?_
      refine ev_g (vp_in_nI (by omega) (by decide)) ?_
      rw [nI_1, nI_1, nI_clamp (by omega)]
      rw [hf, List.length_append, List.length_singleton] at r2
      exact r2
theorem e_open0 (h1 : 1 ≤ N) (h9 : N ≤ 9) (hg : Gr N g) (hn : Hn N g f) {v k : Int32} (hno : noNode N g v k) (zn tn yn : Int32) (zs ts ys : Nat → Int32) : ∃ zn' zs' tn' ts', ev (fun n => mM_open N f n 0 [v, k] zn zs tn ts yn ys) (0, zn', zs', tn', ts', yn, ys) := by
  obtain ⟨zn', zs', tn', ts', p1⟩ := e_nodeSet0 h1 h9 hg hn hno zn tn zs ts
  refine ⟨zn', zs', tn', ts', ev_s (fun n => mM_open_e0 N f n _ _ _ _ _ _ _ _) (ev_b p1 ?_)⟩
  exact ev_t rfl (ev_p _)
theorem e_open1 (h1 : 1 ≤ N) (h9 : N ≤ 9) (hg : Gr N g) (hn : Hn N g f) {v k : Int32} {j i : Nat} (ho : okNode N g v k j i) (zn tn yn : Int32) (zs ts ys : Nat → Int32) : ∃ zs' ts' ys', holds ts' (stL N g (cmp N g j)) ∧ holds ys' (ptL N g (cmp N g j) ((nds N g (cmp N g j)).getD i 0) i) ∧ ev (fun n => mM_open N f n 0 [v, k] zn zs tn ts yn ys) (1, nI (spL N g (cmp N g j)).length, zs', nI (stL N g (cmp N g j)).length, ts', nI (ptL N g (cmp N g j) ((nds N g (cmp N g j)).getD i 0) i).length, ys') := by
  obtain ⟨zs', ts', p1, p2, p3⟩ := e_nodeSet1 h1 h9 hg hn ho zn tn zs ts
  obtain ⟨hj, rfl, rfl, hi⟩ := ho
  have hc := cmp_lt h9 hg hj
  have h0 := cmp_ne h9 hg hj
  have e1 : (List.range 1).filter (fun p => decide (1 ≤ p) && prtB (stL N g (cmp N g j)) (cmp N g j) ((nds N g (cmp N g j)).getD i 0) i p) = [] := by
    rw [range_filter_succ]
    rfl
  obtain ⟨ys', r1, r2⟩ := e_opL (f := f) h9 hc h0 p2 hi (nI (spL N g (cmp N g j)).length) zs' 511 1 ys (by omega) (by omega) (by rw [e1]; exact holds_nil _)
  have hown := sub_lt (ndOK_sub (nd_ok (N := N) (g := g) (c := cmp N g j) hi)) hc
  refine ⟨zs', ts', ys', p2, r1, ev_s (fun n => mM_open_e0 N f n _ _ _ _ _ _ _ _) (ev_b p3 ?_)⟩
  refine ev_f (nI_m1 (p31 h9 hown)) ?_
  refine ev_b (e_Mcomp h1 h9 hg hn hj) ?_
  rw [e1] at r2
  exact r2
end OPEN
