/-! The class's tree: splits, nodes, and what is kept -/
def inn (c : Nat) : Nat := dif c (2 ^ least c)
theorem inn_tab : ∀ c, c < 512 → c ≠ 0 → nI c &&& (nI c - 1) = nI (inn c) := by decide +kernel
theorem inn_sub {c s : Nat} : sub s (inn c) ↔ sub s c ∧ s.testBit (least c) = false := by
  constructor
  · intro h
    refine ⟨fun i hi => dif_sub _ _ i (h i hi), ?_⟩
    cases hb : s.testBit (least c)
    · rfl
    · have := h _ hb
      unfold inn at this
      rw [dif_bit, bit_two.mpr rfl] at this
      simp at this
  · rintro ⟨h1, h2⟩ i hi
    unfold inn
    rw [dif_bit, h1 i hi, Bool.true_and]
    cases hb : (2 ^ least c).testBit i
    · rfl
    · rw [bit_two.mp hb] at h2
      rw [h2] at hi
      cases hi
theorem filter_stop {p : Nat → Bool} {a : Nat} (h : ∀ s, a ≤ s → p s = false) : ∀ k, (List.range (a + k)).filter p = (List.range a).filter p
  | 0 => rfl
  | k + 1 => by
    rw [← Nat.add_assoc, range_filter_succ, h (a + k) (by omega), if_neg (by decide), List.append_nil]
    exact filter_stop h k
section TREE
variable {N : Nat} {g : Nat → Nat} {f : Nat → Int32} {c : Nat}
theorem spP_inn {s : Nat} (h : spP N g c s = true) : sub s (inn c) := inn_sub.mpr ⟨spP_sub h, spP_least h⟩
theorem spL_inn (hc : c < 512) : (List.range (inn c + 1)).filter (spP N g c) = spL N g c := by
  have hi : inn c < 512 := dif_lt (N := 9) _ hc
  have h := filter_stop (p := spP N g c) (a := inn c + 1) (fun s hs => by
    cases hp : spP N g c s
    · rfl
    · have := sub_le (spP_inn hp)
      omega) (512 - (inn c + 1))
  rw [show inn c + 1 + (512 - (inn c + 1)) = 512 by omega] at h
  exact h.symm
theorem e_fs1 (h9 : N ≤ 9) (hg : Gr N g) (hn : Hn N g f) (hc : c < 2 ^ N) (h0 : c ≠ 0) : ∀ k s ss, s + k = inn c + 1 → holds ss ((List.range s).filter (spP N g c)) → ∃ ss', holds ss' (spL N g c) ∧ ev (fun n => mT_findSplits N f (nI c) n 1 [nI (inn c), nI s] ss (nI ((List.range s).filter (spP N g c)).length)) (ss', nI (spL N g c).length)
  | 0, s, ss, h, hz => by
    have hi : inn c < 512 := dif_lt (N := 9) _ (p512 h9 hc)
    have e : s = inn c + 1 := by omega
    rw [e, spL_inn (p512 h9 hc)] at hz
    refine ⟨ss, hz, ?_⟩
    rw [e, spL_inn (p512 h9 hc)]
    refine ev_s (fun n => mT_findSplits_e1 N f _ n _ _ _ _) ?_
    exact ev_t (nI_lt (by omega) (by omega)) (ev_p _)
  | k + 1, s, ss, h, hz => by
    have hi : inn c < 512 := dif_lt (N := 9) _ (p512 h9 hc)
    have hi2 : inn c < 2 ^ N := dif_lt _ hc
    have hf := range_filter_succ (spP N g c) s
    have hge : ¬ nI (inn c) < nI s := nI_nlt (by omega) (by omega)
    have hs31 : s < 2 ^ 31 := by omega
    by_cases hp : spP N g c s = true
    · rw [if_pos hp] at hf
      have hz2 := holds_push hz s
      rw [← hf] at hz2
      obtain ⟨ss', h1, h2⟩ := e_fs1 h9 hg hn hc h0 k (s + 1) _ (by omega) hz2
      refine ⟨ss', h1, ?_⟩
      have hlen : ((List.range s).filter (spP N g c)).length < 2 ^ (N - 1) := by
        have q1 := range_filter_le (spP N g c) (show s + 1 ≤ 512 by omega)
        have q2 := spL_len (g := g) h9 hc h0
        rw [hf, List.length_append, List.length_singleton] at q1
        unfold spL at q2
        omega
      have q3 : 2 ^ (N - 1) ≤ 2 ^ 8 := Nat.pow_le_pow_right (by decide) (by omega)
      refine ev_s (fun n => mT_findSplits_e1 N f _ n _ _ _ _) ?_
      refine ev_f hge ?_
      rw [nx_dif, nx_dif]
      refine ev_t (by rw [dif0.mpr (spP_inn hp)]; rfl) ?_
      refine ev_b (e_isSplit h9 hg hn (sub_lt (spP_sub hp) hc) (dif_lt s hc)) ?_
      have hsp : isSp N g s (dif c s) = true := by
        unfold spP at hp
        simp only [Bool.and_eq_true] at hp
        exact hp.2.2
      rw [hsp]
      refine ev_f bI_t ?_
      refine ev_g (vp_in_nI hlen (by omega)) ?_
      rw [nI_1, nI_1, nI_clamp (by omega)]
      rw [hf, List.length_append, List.length_singleton] at h2
      exact h2
    · rw [if_neg hp, List.append_nil] at hf
      rw [← hf] at hz
      obtain ⟨ss', h1, h2⟩ := e_fs1 h9 hg hn hc h0 k (s + 1) _ (by omega) hz
      refine ⟨ss', h1, ?_⟩
      rw [hf] at h2
      refine ev_s (fun n => mT_findSplits_e1 N f _ n _ _ _ _) ?_
      refine ev_f hge ?_
      rw [nx_dif, nx_dif, nI_1]
      by_cases b1 : dif s (inn c) = 0
      · refine ev_t (by rw [b1]; rfl) ?_
        have hsub := dif0.mp b1
        refine ev_b (e_isSplit h9 hg hn (sub_lt hsub hi2) (dif_lt s hc)) ?_
        cases b2 : isSp N g s (dif c s)
        · exact ev_t bI_f h2
        · exfalso
          apply hp
          have := inn_sub.mp hsub
          unfold spP
          rw [decide_eq_true (dif0.mpr this.1), this.2, b2]
          rfl
      · exact ev_f (fun q => b1 ((nI0 (dif_lt _ hs31)).mp q)) h2
theorem e_findSplits (h9 : N ≤ 9) (hg : Gr N g) (hn : Hn N g f) (hc : c < 2 ^ N) (h0 : c ≠ 0) (ss : Nat → Int32) (sc : Int32) : ∃ ss', holds ss' (spL N g c) ∧ ev (fun n => mT_findSplits N f (nI c) n 0 [] ss sc) (ss', nI (spL N g c).length) := by
  have hp0 : spP N g c 0 = false := by
    cases h : spP N g c 0
    · rfl
    · exact absurd (spP_pop h) (by rw [pop0]; omega)
  have e1 : (List.range 1).filter (spP N g c) = [] := by
    rw [range_filter_succ, hp0]
    rfl
  obtain ⟨ss', h1, h2⟩ := e_fs1 h9 hg hn hc h0 (inn c) 1 ss (by omega) (by rw [e1]; exact holds_nil _)
  refine ⟨ss', h1, ?_⟩
  refine ev_s (fun n => mT_findSplits_e0 N f _ n _ _) ?_
  refine ev_l ?_
  rw [inn_tab c (p512 h9 hc) h0]
  rw [e1] at h2
  exact h2
theorem e_strongL (h9 : N ≤ 9) (hc : c < 2 ^ N) (h0 : c ≠ 0) {ss : Nat → Int32} (hz : holds ss (spL N g c)) {x : Nat} (hx : x < 2 ^ N) : ∀ k i, i + k = (spL N g c).length → ev (fun n => mT_isStrong N ss (nI (spL N g c).length) n 1 [nI x, nI i]) (bI (((spL N g c).drop i).all (fun t => !crB x t)))
  | 0, i, h => by
    have hL := spL_len (g := g) h9 hc h0
    have q3 : 2 ^ (N - 1) ≤ 2 ^ 8 := Nat.pow_le_pow_right (by decide) (by omega)
    have e : i = (spL N g c).length := by omega
    rw [e, List.drop_length]
    refine ev_s (fun n => mT_isStrong_e1 N ss _ n _ _) ?_
    exact ev_t (nI_le (Nat.le_refl _) (by omega)) (ev_p _)
  | k + 1, i, h => by
    have hL := spL_len (g := g) h9 hc h0
    have q3 : 2 ^ (N - 1) ≤ 2 ^ 8 := Nat.pow_le_pow_right (by decide) (by omega)
    have hi : i < (spL N g c).length := by omega
    have ih := e_strongL h9 hc h0 hz hx k (i + 1) (by omega)
    have ht := spL_lt hc hi
    refine ev_s (fun n => mT_isStrong_e1 N ss _ n _ _) ?_
    refine ev_f (nI_ge hi (by omega)) ?_
    refine ev_g (vp_in_nI (by omega) (by omega)) ?_
    refine ev_l ?_
    rw [nI_clamp (n := i) (by omega), hz i hi, nx_and, nx_dif, nx_dif, nI_1, drop_cons hi, List.all_cons]
    generalize hT : (spL N g c).getD i 0 = t at ht ⊢
    have h1 : x &&& t < 2 ^ 31 := Nat.lt_of_le_of_lt Nat.and_le_left (p31 h9 hx)
    have h2 := p31 h9 (dif_lt t hx)
    have h3 := p31 h9 (dif_lt x ht)
    by_cases b1 : x &&& t = 0
    · rw [show crB x t = false from decide_eq_false (fun q => q.1 b1), Bool.not_false, Bool.true_and]
      exact ev_t ((nI0 h1).mpr b1) ih
    · refine ev_f (fun q => b1 ((nI0 h1).mp q)) ?_
      by_cases b2 : dif x t = 0
      · rw [show crB x t = false from decide_eq_false (fun q => q.2.1 b2), Bool.not_false, Bool.true_and]
        exact ev_t ((nI0 h2).mpr b2) ih
      · refine ev_f (fun q => b2 ((nI0 h2).mp q)) ?_
        by_cases b3 : dif t x = 0
        · rw [show crB x t = false from decide_eq_false (fun q => q.2.2 b3), Bool.not_false, Bool.true_and]
          exact ev_t ((nI0 h3).mpr b3) ih
        · rw [show crB x t = true from decide_eq_true ⟨b1, b2, b3⟩]
          exact ev_f (fun q => b3 ((nI0 h3).mp q)) (ev_p _)
theorem e_isStrong (h9 : N ≤ 9) (hc : c < 2 ^ N) (h0 : c ≠ 0) {ss : Nat → Int32} (hz : holds ss (spL N g c)) {x : Nat} (hx : x < 2 ^ N) : ev (fun n => mT_isStrong N ss (nI (spL N g c).length) n 0 [nI x]) (bI (strP (spL N g c) x)) := by
  refine ev_s (fun n => mT_isStrong_e0 N ss _ n _) ?_
  exact e_strongL h9 hc h0 hz hx (spL N g c).length 0 (by omega)
theorem e_fn1 (h9 : N ≤ 9) (hc : c < 2 ^ N) (h0 : c ≠ 0) {ss : Nat → Int32} (hz : holds ss (spL N g c)) : ∀ k i ns, i + k = (spL N g c).length → holds ns (c :: ((spL N g c).take i).filter (strP (spL N g c))) → ∃ ns', holds ns' (c :: stL N g c) ∧ ev (fun n => mT_findNodes N ss (nI (spL N g c).length) (nI c) n 1 [nI i] ns (nI ((((spL N g c).take i).filter (strP (spL N g c))).length + 1))) (ns', nI ((stL N g c).length + 1))
  | 0, i, ns, h, ht => by
    have hL := spL_len (g := g) h9 hc h0
    have q3 : 2 ^ (N - 1) ≤ 2 ^ 8 := Nat.pow_le_pow_right (by decide) (by omega)
    have e : i = (spL N g c).length := by omega
    rw [e] at ht ⊢
    rw [List.take_length] at ht ⊢
    refine ⟨ns, ht, ?_⟩
    refine ev_s (fun n => mT_findNodes_e1 N ss _ _ n _ _ _) ?_
    exact ev_t (nI_le (Nat.le_refl _) (by omega)) (ev_p _)
  | k + 1, i, ns, h, ht => by
    have hL := spL_len (g := g) h9 hc h0
    have q3 : 2 ^ (N - 1) ≤ 2 ^ 8 := Nat.pow_le_pow_right (by decide) (by omega)
    have hi : i < (spL N g c).length := by omega
    have hlen : (((spL N g c).take i).filter (strP (spL N g c))).length ≤ i := by
      refine Nat.le_trans (List.length_filter_le _ _) ?_
      rw [List.length_take]
      omega
    have hs := take_snoc hi
    cases hq : strP (spL N g c) ((spL N g c).getD i 0)
    · have ef : ((spL N g c).take (i + 1)).filter (strP (spL N g c)) = ((spL N g c).take i).filter (strP (spL N g c)) := by
        rw [hs, List.filter_append]
        simp only [List.filter_cons, hq, List.filter_nil]
        simp
      obtain ⟨ns', h1, h2⟩ := e_fn1 h9 hc h0 hz k (i + 1) ns (by omega) (by rw [ef]; exact ht)
      refine ⟨ns', h1, ?_⟩
      refine ev_s (fun n => mT_findNodes_e1 N ss _ _ n _ _ _) ?_
      refine ev_f (nI_ge hi (by omega)) ?_
      refine ev_g (vp_in_nI (by omega) (by omega)) ?_
      rw [nI_clamp (n := i) (by omega), hz i hi]
      refine ev_b (e_isStrong h9 hc h0 hz (spL_lt hc hi)) ?_
      rw [hq]
      refine ev_t bI_f ?_
      rw [nI_1]
      rw [ef] at h2
      exact h2
    · have ef : ((spL N g c).take (i + 1)).filter (strP (spL N g c)) = ((spL N g c).take i).filter (strP (spL N g c)) ++ [(spL N g c).getD i 0] := by
        rw [hs, List.filter_append]
        simp only [List.filter_cons, hq, List.filter_nil]
        simp
      have ht2 := holds_push ht ((spL N g c).getD i 0)
      rw [List.cons_append, ← ef, List.length_cons] at ht2
      obtain ⟨ns', h1, h2⟩ := e_fn1 h9 hc h0 hz k (i + 1) _ (by omega) ht2
      refine ⟨ns', h1, ?_⟩
      refine ev_s (fun n => mT_findNodes_e1 N ss _ _ n _ _ _) ?_
      refine ev_f (nI_ge hi (by omega)) ?_
      refine ev_g (vp_in_nI (by omega) (by omega)) ?_
      rw [nI_clamp (n := i) (by omega), hz i hi]
      refine ev_b (e_isStrong h9 hc h0 hz (spL_lt hc hi)) ?_
      rw [hq]
      refine ev_f bI_t ?_
      refine ev_g (vp_in_nI (by omega) (by omega)) (ev_g (vp_in_nI (by omega) (by omega)) ?_)
      rw [nI_1, nI_1, nI_clamp (by omega)]
      rw [ef, List.length_append, List.length_singleton] at h2
      exact h2
theorem e_findNodes (h9 : N ≤ 9) (hc : c < 2 ^ N) (h0 : c ≠ 0) {ss : Nat → Int32} (hz : holds ss (spL N g c)) (ns : Nat → Int32) (nc : Int32) : ∃ ns', holds ns' (c :: stL N g c) ∧ ev (fun n => mT_findNodes N ss (nI (spL N g c).length) (nI c) n 0 [] ns nc) (ns', nI ((stL N g c).length + 1)) := by
  have hst : holds (upd ns 0 (nI c)) [c] := by
    have := holds_push (holds_nil ns) c
    exact this
  obtain ⟨ns', h1, h2⟩ := e_fn1 h9 hc h0 hz (spL N g c).length 0 (upd ns 0 (nI c)) (by omega) hst
  refine ⟨ns', h1, ?_⟩
  refine ev_s (fun n => mT_findNodes_e0 N ss _ _ n _ _) ?_
  refine ev_g (vp_in_nI (n := 0) (Nat.two_pow_pos _) ?_) ?_
  · have q3 : 2 ^ (N - 1) ≤ 2 ^ 8 := Nat.pow_le_pow_right (by decide) (by omega)
    omega
  · exact h2
/-- what the tree keeps -/
def TC (N : Nat) (g : Nat → Nat) (ss : Nat → Int32) (sc : Int32) (ns : Nat → Int32) (nc wh : Int32) : Prop := wh = 0 ∨ ∃ c, c ≠ 0 ∧ c < 2 ^ N ∧ wh = nI c ∧ holds ss (spL N g c) ∧ sc = nI (spL N g c).length ∧ holds ns (c :: stL N g c) ∧ nc = nI ((stL N g c).length + 1)
theorem e_growFor (h9 : N ≤ 9) (hg : Gr N g) (hn : Hn N g f) (hc : c < 2 ^ N) (h0 : c ≠ 0) {ss : Nat → Int32} {sc : Int32} {ns : Nat → Int32} {nc wh : Int32} (hT : TC N g ss sc ns nc wh) : ∃ ss' ns', holds ss' (spL N g c) ∧ holds ns' (c :: stL N g c) ∧ ev (fun n => mT_growFor N f n 0 [nI c] ss sc ns nc wh) (ss', nI (spL N g c).length, ns', nI ((stL N g c).length + 1), nI c) := by
  by_cases e : wh = nI c
  · rcases hT with hT | ⟨c', h1, h2, h3, h4, h5, h6, h7⟩
    · exact absurd ((nI0 (p31 h9 hc)).mp (e.symm.trans hT)) h0
    · have e2 : c' = c := (nI_eq (p31 h9 h2) (p31 h9 hc)).mp (h3.symm.trans e)
      subst e2
      refine ⟨ss, ns, h4, h6, ?_⟩
      refine ev_s (fun n => mT_growFor_e0 N f n _ _ _ _ _ _) ?_
      refine ev_t e ?_
      rw [h5, h7, h3]
      exact ev_p _
  · obtain ⟨ss', h1, h2⟩ := e_findSplits h9 hg hn hc h0 ss sc
    obtain ⟨ns', h3, h4⟩ := e_findNodes h9 hc h0 h1 ns nc
    refine ⟨ss', ns', h1, h3, ?_⟩
    refine ev_s (fun n => mT_growFor_e0 N f n _ _ _ _ _ _) ?_
    refine ev_f e ?_
    refine ev_b h2 ?_
    exact ev_b h4 (ev_p _)
theorem cmp_lt (h9 : N ≤ 9) (hg : Gr N g) {v : Nat} (hv : v < N) : cmp N g v < 2 ^ N := (comp_spec h9 hg _ hv).2.1
theorem cmp_v (h9 : N ≤ 9) (hg : Gr N g) {v : Nat} (hv : v < N) : (cmp N g v).testBit v = true := (comp_spec h9 hg _ hv).2.2.1
theorem cmp_ne (h9 : N ≤ 9) (hg : Gr N g) {v : Nat} (hv : v < N) : cmp N g v ≠ 0 := fun e => by
  have := cmp_v h9 hg hv
  rw [e, Nat.zero_testBit] at this
  cases this
theorem e_treeOf (h1 : 1 ≤ N) (h9 : N ≤ 9) (hg : Gr N g) (hn : Hn N g f) {v : Nat} (hv : v < N) {ss : Nat → Int32} {sc : Int32} {ns : Nat → Int32} {nc wh : Int32} (hT : TC N g ss sc ns nc wh) : ∃ ss' ns', holds ss' (spL N g (cmp N g v)) ∧ holds ns' (cmp N g v :: stL N g (cmp N g v)) ∧ ev (fun n => mF_treeOf N f n 0 [nI v] ss sc ns nc wh) (ss', nI (spL N g (cmp N g v)).length, ns', nI ((stL N g (cmp N g v)).length + 1), nI (cmp N g v)) := by
  obtain ⟨ss', ns', q1, q2, q3⟩ := e_growFor h9 hg hn (cmp_lt h9 hg hv) (cmp_ne h9 hg hv) hT
  refine ⟨ss', ns', q1, q2, ?_⟩
  refine ev_s (fun n => mF_treeOf_e0 N f n _ _ _ _ _ _) ?_
  refine ev_b (e_compOf h1 h9 hg hn hv) ?_
  exact ev_b q3 (ev_p _)
theorem TC_of {ss : Nat → Int32} {ns : Nat → Int32} (h0 : c ≠ 0) (hc : c < 2 ^ N) (q1 : holds ss (spL N g c)) (q2 : holds ns (c :: stL N g c)) : TC N g ss (nI (spL N g c).length) ns (nI ((stL N g c).length + 1)) (nI c) := Or.inr ⟨c, h0, hc, rfl, q1, rfl, q2, rfl⟩
end TREE
