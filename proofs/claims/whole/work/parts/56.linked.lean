/-! linked: class against model -/
def lnk (N : Nat) (g : Nat → Nat) (c i v w : Nat) : Bool := decide (pw N g c ((nds N g c).getD i 0) v = pw N g c ((nds N g c).getD i 0) w) || jnd N g (pw N g c ((nds N g c).getD i 0) v) (pw N g c ((nds N g c).getD i 0) w)
def lkF (N : Nat) (g : Nat → Nat) (c v w : Nat) : Nat → Nat → Bool
  | 0, _ => true
  | k + 1, i => lnk N g c i v w && lkF N g c v w k (i + 1)
section LINKED
variable {N : Nat} {g : Nat → Nat} {f f2 : Nat → Int32} {c : Nat}
theorem pw_lt (hc : c < 2 ^ N) {i : Nat} (hi : i < (nds N g c).length) (v : Nat) : pw N g c ((nds N g c).getD i 0) v < 2 ^ N := sub_lt (pw_c (ndOK_sub (nd_ok (N := N) (g := g) (c := c) hi))) hc
theorem e_tlL (h9 : N ≤ 9) (hg : Gr N g) (hn : Hn N g f) (hc : c < 2 ^ N) (h0 : c ≠ 0) {ns : Nat → Int32} (hz : holds ns (nds N g c)) {v w : Nat} (hv : v < N) (hw : w < N) : ∀ k i, i + k = (nds N g c).length → ev (fun n => mT_links N f ns (nI (nds N g c).length) (nI c) n 1 [nI v, nI w, nI i]) (bI (lkF N g c v w k i))
  | 0, i, h => by
    have hl := stL_len (g := g) h9 hc h0
    have h8 := pN8 h9
    have hlen : (nds N g c).length = (stL N g c).length + 1 := rfl
    refine ev_s (fun n => mT_links_e1 N f ns _ _ n _ _ _) ?_
    exact ev_t (nI_le (by omega) (by omega)) (ev_p _)
  | k + 1, i, h => by
    have hl := stL_len (g := g) h9 hc h0
    have h8 := pN8 h9
    have hlen : (nds N g c).length = (stL N g c).length + 1 := rfl
    have hi : i < (nds N g c).length := by omega
    have ih := e_tlL h9 hg hn hc h0 hz hv hw k (i + 1) (by omega)
    refine ev_s (fun n => mT_links_e1 N f ns _ _ n _ _ _) ?_
    refine ev_f (nI_ge hi (by omega)) ?_
    refine ev_b (e_partWith h9 hc h0 hz hi hv) ?_
    refine ev_b (e_partWith h9 hc h0 hz hi hw) ?_
    have l1 := p31 h9 (pw_lt (g := g) hc hi v)
    have l2 := p31 h9 (pw_lt (g := g) hc hi w)
    unfold lkF lnk
    rw [nI_1]
    by_cases q : pw N g c ((nds N g c).getD i 0) v = pw N g c ((nds N g c).getD i 0) w
    · refine ev_t (by rw [q]) ?_
      rw [decide_eq_true q, Bool.true_or, Bool.true_and]
      exact ih
    · refine ev_f (fun r => q ((nI_eq l1 l2).mp r)) ?_
      rw [decide_eq_false q, Bool.false_or]
      refine ev_b (e_joined h9 hg hn l1 _) ?_
      cases hJ : jnd N g (pw N g c ((nds N g c).getD i 0) v) (pw N g c ((nds N g c).getD i 0) w)
      · exact ev_t bI_f (ev_p _)
      · rw [Bool.true_and]
        exact ev_f bI_t ih
theorem e_Tlinks (h9 : N ≤ 9) (hg : Gr N g) (hn : Hn N g f) (hc : c < 2 ^ N) (h0 : c ≠ 0) {ns : Nat → Int32} (hz : holds ns (nds N g c)) {v w : Nat} (hv : v < N) (hw : w < N) : ev (fun n => mT_links N f ns (nI (nds N g c).length) (nI c) n 0 [nI v, nI w]) (bI (lkF N g c v w (nds N g c).length 0)) := by
  refine ev_s (fun n => mT_links_e0 N f ns _ _ n _ _) ?_
  exact e_tlL h9 hg hn hc h0 hz hv hw _ 0 (by omega)
/-- where the part with x stands in the list -/
theorem PT_at (h9 : N ≤ 9) (hc : c < 2 ^ N) {i : Nat} (hi : i < (nds N g c).length) {x : Nat} (hx : c.testBit x = true) : ∃ a, a < (PT N g c i).length ∧ (PT N g c i).getD a 0 = pw N g c ((nds N g c).getD i 0) x ∧ ∀ j, j < (PT N g c i).length → ((PT N g c i).getD j 0).testBit x = true → j = a := by
  obtain ⟨a, h1, h2⟩ := mem_getD ((PT_mem h9 hc hi _).mpr ⟨x, hx, rfl⟩)
  refine ⟨a, h1, h2, fun j hj hb => ?_⟩
  obtain ⟨v, b1, b2⟩ := (PT_mem h9 hc hi _).mp (getD_mem hj)
  have e : (PT N g c i).getD j 0 = (PT N g c i).getD a 0 := by
    rw [b2] at hb
    rw [b2, h2]
    exact (pw_eq (p512 h9 hc) (ndOK_sub (nd_ok (N := N) (g := g) (c := c) hi)) hb).symm
  have hs : (PT N g c i).Pairwise (· < ·) := List.pairwise_lt_range.filter _
  rcases Nat.lt_trichotomy j a with q | q | q
  · have := getD_le hs q h1
    omega
  · exact q
  · have := getD_le hs q hj
    omega
theorem e_poL (h9 : N ≤ 9) {P : List Nat} {ys : Nat → Int32} (hy : holds ys P) (hP : P.length ≤ 9) (hb : ∀ i, i < P.length → P.getD i 0 < 2 ^ N) {x a : Nat} (hx : x < N) (ha : a < P.length) (hxa : (P.getD a 0).testBit x = true) (hu : ∀ j, j < P.length → (P.getD j 0).testBit x = true → j = a) : ∀ k j b, j + k = P.length → (j ≤ a ∨ b = a) → ev (fun n => mM_partOf N (nI P.length) ys n 1 [nI x, nI b, nI j]) (nI a)
  | 0, j, b, h, hj => by
    refine ev_s (fun n => mM_partOf_e1 N _ ys n _ _ _) ?_
    refine ev_t (nI_le (by omega) (by omega)) ?_
    rw [show b = a by omega]
    exact ev_p _
  | k + 1, j, b, h, hj => by
    have hjl : j < P.length := by omega
    refine ev_s (fun n => mM_partOf_e1 N _ ys n _ _ _) ?_
    refine ev_f (nI_ge hjl (by omega)) ?_
    refine ev_g (vp_in_nI (by omega) (by decide)) ?_
    rw [nI_clamp (by omega), hy j hjl, nx_bit (p31 h9 (hb j hjl)) (by omega), nI_1]
    cases hq : (P.getD j 0).testBit x
    · refine ev_f (by decide) ?_
      refine e_poL h9 hy hP hb hx ha hxa hu k (j + 1) b (by omega) ?_
      rcases hj with q | q
      · by_cases e : j = a
        · rw [e, hxa] at hq
          cases hq
        · exact Or.inl (by omega)
      · exact Or.inr q
    · refine ev_t (by decide) ?_
      exact e_poL h9 hy hP hb hx ha hxa hu k (j + 1) j (by omega) (Or.inr (hu j hjl hq))
theorem e_partOf (h9 : N ≤ 9) (hc : c < 2 ^ N) (h0 : c ≠ 0) {i : Nat} (hi : i < (nds N g c).length) {ys : Nat → Int32} (hy : holds ys (PT N g c i)) {x a : Nat} (hx : c.testBit x = true) (ha : a < (PT N g c i).length) (hpa : (PT N g c i).getD a 0 = pw N g c ((nds N g c).getD i 0) x) (hu : ∀ j, j < (PT N g c i).length → ((PT N g c i).getD j 0).testBit x = true → j = a) : ev (fun n => mM_partOf N (nI (PT N g c i).length) ys n 0 [nI x]) (nI a) := by
  have hlen := PT_len (g := g) h9 hc h0 hi
  refine ev_s (fun n => mM_partOf_e0 N _ ys n _) ?_
  exact e_poL h9 hy (by omega) (PT_lt h9 hc hi) (bit_lt hc hx) ha (by rw [hpa]; exact pw_self hx) hu (PT N g c i).length 0 0 (by omega) (Or.inl (Nat.zero_le _))
theorem e_mlL (h1 : 1 ≤ N) (h9 : N ≤ 9) (hg : Gr N g) (hn : Hn N g f) {v w : Nat} (hv : v < N) (hw : w < N) (hvw : (cmp N g v).testBit w = true) : ∀ k i, i + k = (nds N g (cmp N g v)).length → ∀ (b : Bool) (zn : Int32) (zs : Nat → Int32) (tn : Int32) (ts : Nat → Int32) (yn : Int32) (ys : Nat → Int32), ∃ (zn' : Int32) (zs' : Nat → Int32) (tn' : Int32) (ts' : Nat → Int32) (yn' : Int32) (ys' : Nat → Int32), ev (fun n => mM_linked N f n 1 [nI v, nI w, nI (nds N g (cmp N g v)).length, bI b, nI i] zn zs tn ts yn ys) (bI (b && lkF N g (cmp N g v) v w k i), zn', zs', tn', ts', yn', ys')
  | 0, i, h, b, zn, zs, tn, ts, yn, ys => by
    have hc := cmp_lt h9 hg hv
    have h0 := cmp_ne h9 hg hv
    have hl := stL_len (g := g) h9 hc h0
    have h8 := pN8 h9
    have hlen : (nds N g (cmp N g v)).length = (stL N g (cmp N g v)).length + 1 := rfl
    refine ⟨zn, zs, tn, ts, yn, ys, ?_⟩
    refine ev_s (fun n => mM_linked_e1 N f n _ _ _ _ _ _ _ _ _ _ _) ?_
    refine ev_t (nI_le (by omega) (by omega)) ?_
    unfold lkF
    rw [Bool.and_true]
    exact ev_z (bI_B b) (ev_p _)
  | k + 1, i, h, b, zn, zs, tn, ts, yn, ys => by
    have hc := cmp_lt h9 hg hv
    have h0 := cmp_ne h9 hg hv
    have hl := stL_len (g := g) h9 hc h0
    have h8 := pN8 h9
    have hlen : (nds N g (cmp N g v)).length = (stL N g (cmp N g v)).length + 1 := rfl
    have hi : i < (nds N g (cmp N g v)).length := by omega
    cases b
    · refine ⟨zn, zs, tn, ts, yn, ys, ?_⟩
      refine ev_s (fun n => mM_linked_e1 N f n _ _ _ _ _ _ _ _ _ _ _) ?_
      refine ev_f (nI_ge hi (by omega)) ?_
      refine ev_t bI_f ?_
      rw [Bool.false_and]
      exact ev_z (bI_B false) (ev_p _)
    · obtain ⟨zs1, ts1, ys1, p1, p2, p3⟩ := e_open1 h1 h9 hg hn (v := nI v) (k := nI i) (j := v) (i := i) ⟨hv, rfl, rfl, hi⟩ zn tn yn zs ts ys
      obtain ⟨a, a1, a2, a3⟩ := PT_at (g := g) h9 hc hi (cmp_v h9 hg hv)
      obtain ⟨d, d1, d2, d3⟩ := PT_at (g := g) h9 hc hi hvw
      have hlenP := PT_len (g := g) h9 hc h0 hi
      have ea := e_partOf h9 hc h0 hi p2 (cmp_v h9 hg hv) a1 a2 a3
      have ed := e_partOf h9 hc h0 hi p2 hvw d1 d2 d3
      obtain ⟨zn', zs', tn', ts', yn', ys', q⟩ := e_mlL h1 h9 hg hn hv hw hvw k (i + 1) (by omega) (lnk N g (cmp N g v) i v w) (nI (spL N g (cmp N g v)).length) zs1 (nI (stL N g (cmp N g v)).length) ts1 (nI (PT N g (cmp N g v) i).length) ys1
      refine ⟨zn', zs', tn', ts', yn', ys', ?_⟩
      unfold lkF
      rw [Bool.true_and]
      refine ev_s (fun n => mM_linked_e1 N f n _ _ _ _ _ _ _ _ _ _ _) ?_
      refine ev_f (nI_ge hi (by omega)) ?_
      refine ev_f bI_t ?_
      refine ev_b p3 ?_
      refine ev_b ea ?_
      refine ev_b ed ?_
      refine ev_f (by decide) ?_
      have k2 : lnk N g (cmp N g v) i v w = true → ev (fun n => mM_linked N f n 2 [nI v, nI w, nI (nds N g (cmp N g v)).length, nI i] (nI (spL N g (cmp N g v)).length) zs1 (nI (stL N g (cmp N g v)).length) ts1 (nI (PT N g (cmp N g v) i).length) ys1) (bI (lnk N g (cmp N g v) i v w && lkF N g (cmp N g v) v w k (i + 1)), zn', zs', tn', ts', yn', ys') := fun hq => by
        refine ev_s (fun n => mM_linked_e2 N f n _ _ _ _ _ _ _ _ _ _) ?_
        rw [nI_1]
        rw [hq] at q ⊢
        exact q
      have k3 : lnk N g (cmp N g v) i v w = false → ev (fun n => mM_linked N f n 3 [nI v, nI w, nI (nds N g (cmp N g v)).length, nI i] (nI (spL N g (cmp N g v)).length) zs1 (nI (stL N g (cmp N g v)).length) ts1 (nI (PT N g (cmp N g v) i).length) ys1) (bI (lnk N g (cmp N g v) i v w && lkF N g (cmp N g v) v w k (i + 1)), zn', zs', tn', ts', yn', ys') := fun hq => by
        refine ev_s (fun n => mM_linked_e3 N f n _ _ _ _ _ _ _ _ _ _) ?_
        rw [nI_1]
        rw [hq] at q ⊢
        exact q
      by_cases e : a = d
      · refine ev_t (by rw [e]) (k2 ?_)
        unfold lnk
        rw [← a2, ← d2, e, decide_eq_true rfl]
        rfl
      · have hne : ¬ pw N g (cmp N g v) ((nds N g (cmp N g v)).getD i 0) v = pw N g (cmp N g v) ((nds N g (cmp N g v)).getD i 0) w := fun r => by
          refine e (d3 a a1 ?_)
          rw [a2, r]
          exact pw_self hvw
        refine ev_f (fun r => e ((nI_eq (by omega) (by omega)).mp r)) ?_
        refine ev_g (vp_in_nI (by omega) (by decide)) (ev_g (vp_in_nI (by omega) (by decide)) ?_)
        have ha3 : ys1 (nI a).toNatClampNeg = nI (pw N g (cmp N g v) ((nds N g (cmp N g v)).getD i 0) v) := by
          rw [nI_clamp (by omega), p2 a a1]
          exact congrArg nI a2
        have hd3 : ys1 (nI d).toNatClampNeg = nI (pw N g (cmp N g v) ((nds N g (cmp N g v)).getD i 0) w) := by
          rw [nI_clamp (by omega), p2 d d1]
          exact congrArg nI d2
        rw [ha3, hd3]
        refine ev_b (e_Mjoined h9 hg hn _ (pw_lt (g := g) hc hi v)) ?_
        cases hJ : jnd N g (pw N g (cmp N g v) ((nds N g (cmp N g v)).getD i 0) v) (pw N g (cmp N g v) ((nds N g (cmp N g v)).getD i 0) w)
        · refine ev_t bI_f (k3 ?_)
          unfold lnk
          rw [hJ, decide_eq_false hne]
          rfl
        · refine ev_f bI_t (k2 ?_)
          unfold lnk
          rw [hJ]
          simp
theorem e_linked (h1 : 1 ≤ N) (h9 : N ≤ 9) (hg : Gr N g) (hn : Hn N g f) (hn2 : Hn N g f2) (a b : Int32) {ss : Nat → Int32} {sc : Int32} {ns : Nat → Int32} {nc wh : Int32} (hT : TC N g ss sc ns nc wh) (zn tn yn : Int32) (zs ts ys : Nat → Int32) : ∃ (r : Int32) (ss' : Nat → Int32) (sc' : Int32) (ns' : Nat → Int32) (nc' wh' zn' : Int32) (zs' : Nat → Int32) (tn' : Int32) (ts' : Nat → Int32) (yn' : Int32) (ys' : Nat → Int32), TC N g ss' sc' ns' nc' wh' ∧ ev (fun n => mF_linked N f n 0 [a, b] ss sc ns nc wh) (r, ss', sc', ns', nc', wh') ∧ ev (fun n => mM_linked N f2 n 0 [a, b] zn zs tn ts yn ys) (r, zn', zs', tn', ts', yn', ys') := by
  cases ha : isV N a
  · refine ⟨0, ss, sc, ns, nc, wh, zn, zs, tn, ts, yn, ys, hT, ev_s (fun n => mF_linked_e0 N f n _ _ _ _ _ _ _) (ev_b (e_has N a) ?_), ev_s (fun n => mM_linked_e0 N f2 n _ _ _ _ _ _ _ _) (ev_b (e_is N a) ?_)⟩
    · rw [ha]; exact ev_t bI_f (ev_p _)
    · rw [ha]; exact ev_t bI_f (ev_p _)
  · cases hb : isV N b
    · refine ⟨0, ss, sc, ns, nc, wh, zn, zs, tn, ts, yn, ys, hT, ev_s (fun n => mF_linked_e0 N f n _ _ _ _ _ _ _) (ev_b (e_has N a) ?_), ev_s (fun n => mM_linked_e0 N f2 n _ _ _ _ _ _ _ _) (ev_b (e_is N a) ?_)⟩
      · rw [ha]; refine ev_f bI_t (ev_b (e_has N b) ?_); rw [hb]; exact ev_t bI_f (ev_p _)
      · rw [ha]; refine ev_f bI_t (ev_b (e_is N b) ?_); rw [hb]; exact ev_t bI_f (ev_p _)
    · by_cases hab : a = b
      · refine ⟨0, ss, sc, ns, nc, wh, zn, zs, tn, ts, yn, ys, hT, ev_s (fun n => mF_linked_e0 N f n _ _ _ _ _ _ _) (ev_b (e_has N a) ?_), ev_s (fun n => mM_linked_e0 N f2 n _ _ _ _ _ _ _ _) (ev_b (e_is N a) ?_)⟩
        · rw [ha]; refine ev_f bI_t (ev_b (e_has N b) ?_); rw [hb]; exact ev_f bI_t (ev_t hab (ev_p _))
        · rw [ha]; refine ev_f bI_t (ev_b (e_is N b) ?_); rw [hb]; exact ev_f bI_t (ev_t hab (ev_p _))
      · obtain ⟨v, hv, rfl⟩ := isV_j h9 ha
        obtain ⟨w, hw, rfl⟩ := isV_j h9 hb
        have hc := cmp_lt h9 hg hv
        have h0 := cmp_ne h9 hg hv
        cases hvw : (cmp N g v).testBit w
        · refine ⟨0, ss, sc, ns, nc, wh, zn, zs, tn, ts, yn, ys, hT, ev_s (fun n => mF_linked_e0 N f n _ _ _ _ _ _ _) (ev_b (e_has N _) ?_), ev_s (fun n => mM_linked_e0 N f2 n _ _ _ _ _ _ _ _) (ev_b (e_is N _) ?_)⟩
          · rw [ha]; refine ev_f bI_t (ev_b (e_has N _) ?_); rw [hb]; refine ev_f bI_t (ev_f hab (ev_b (e_compOf h1 h9 hg hn hv) (ev_b (e_contains (p31 h9 hc) (by omega)) ?_)))
            rw [hvw]; exact ev_t bI_f (ev_p _)
          · rw [ha]; refine ev_f bI_t (ev_b (e_is N _) ?_); rw [hb]; refine ev_f bI_t (ev_f hab (ev_b (e_Mcomp h1 h9 hg hn2 hv) ?_))
            rw [nx_bit (p31 h9 hc) (by omega), hvw]; exact ev_t bI_f (ev_p _)
        · obtain ⟨ss', ns', q1, q2, q3⟩ := e_treeOf h1 h9 hg hn hv hT
          obtain ⟨zs1, ts1, p1, p2, p3⟩ := e_find h9 hg hn2 hc h0 zn tn zs ts
          obtain ⟨zn', zs', tn', ts', yn', ys', q⟩ := e_mlL h1 h9 hg hn2 hv hw hvw (nds N g (cmp N g v)).length 0 (by omega) true (nI (spL N g (cmp N g v)).length) zs1 (nI (stL N g (cmp N g v)).length) ts1 yn ys
          rw [Bool.true_and] at q
          have hlk := e_Tlinks h9 hg hn hc h0 q2 hv hw
          refine ⟨bI (lkF N g (cmp N g v) v w (nds N g (cmp N g v)).length 0), ss', nI (spL N g (cmp N g v)).length, ns', nI ((stL N g (cmp N g v)).length + 1), nI (cmp N g v), zn', zs', tn', ts', yn', ys', TC_of h0 hc q1 q2, ev_s (fun n => mF_linked_e0 N f n _ _ _ _ _ _ _) (ev_b (e_has N _) ?_), ev_s (fun n => mM_linked_e0 N f2 n _ _ _ _ _ _ _ _) (ev_b (e_is N _) ?_)⟩
          · rw [ha]; refine ev_f bI_t (ev_b (e_has N _) ?_); rw [hb]; refine ev_f bI_t (ev_f hab (ev_b (e_compOf h1 h9 hg hn hv) (ev_b (e_contains (p31 h9 hc) (by omega)) ?_)))
            rw [hvw]
            refine ev_f bI_t (ev_b q3 (ev_b hlk ?_))
            cases lkF N g (cmp N g v) v w (nds N g (cmp N g v)).length 0
            · exact ev_t bI_f (ev_p _)
            · exact ev_f bI_t (ev_p _)
          · rw [ha]; refine ev_f bI_t (ev_b (e_is N _) ?_); rw [hb]; refine ev_f bI_t (ev_f hab (ev_b (e_Mcomp h1 h9 hg hn2 hv) ?_))
            rw [nx_bit (p31 h9 hc) (by omega), hvw]
            refine ev_f bI_t (ev_b (e_Mcomp h1 h9 hg hn2 hv) (ev_b p3 ?_))
            refine ev_l ?_
            rw [nI_1]
            exact q
end LINKED
