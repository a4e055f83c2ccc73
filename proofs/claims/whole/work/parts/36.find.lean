/-! All splits of a component, and the strong ones, in class and model -/
theorem dif0 {s c : Nat} : dif s c = 0 ↔ sub s c := by
  constructor
  · intro h i hi
    have := dif_bit s c i
    rw [h, Nat.zero_testBit, hi] at this
    cases hc : c.testBit i
    · rw [hc] at this; cases this
    · rfl
  · intro h
    apply Nat.eq_of_testBit_eq
    intro i
    rw [dif_bit, Nat.zero_testBit]
    cases hs : s.testBit i
    · rfl
    · rw [h i hs]; rfl
theorem sub_lt {s c N : Nat} (h : sub s c) (hc : c < 2 ^ N) : s < 2 ^ N := lt_of_bits (fun i hi => bit_lt hc (h i hi))
theorem dif_sub (a b : Nat) : sub (dif a b) a := fun i h => by
  rw [dif_bit, Bool.and_eq_true] at h
  exact h.1
theorem dif_lt {a N : Nat} (b : Nat) (h : a < 2 ^ N) : dif a b < 2 ^ N := sub_lt (dif_sub a b) h
theorem sub_le {a b : Nat} (h : sub a b) : a ≤ b := by
  have e : a &&& b = a := by
    apply Nat.eq_of_testBit_eq
    intro i
    rw [Nat.testBit_and]
    cases ha : a.testBit i
    · rfl
    · rw [h i ha]; rfl
  rw [← e]
  exact Nat.and_le_right
theorem and_two {s v : Nat} : s &&& 2 ^ v = 0 ↔ s.testBit v = false := by
  constructor
  · intro h
    have : (s &&& 2 ^ v).testBit v = false := by rw [h, Nat.zero_testBit]
    rw [Nat.testBit_and, bit_two.mpr rfl, Bool.and_true] at this
    exact this
  · intro h
    apply Nat.eq_of_testBit_eq
    intro i
    rw [Nat.testBit_and, Nat.zero_testBit]
    by_cases e : v = i
    · subst e; rw [h]; rfl
    · rw [Nat.testBit_two_pow_of_ne e, Bool.and_false]
/-- s is a split of the component c -/
def spP (N : Nat) (g : Nat → Nat) (c s : Nat) : Bool := decide (dif s c = 0) && ((!s.testBit (least c)) && isSp N g s (dif c s))
def spL (N : Nat) (g : Nat → Nat) (c : Nat) : List Nat := (List.range 512).filter (spP N g c)
def crB (a b : Nat) : Bool := decide (a &&& b ≠ 0 ∧ dif a b ≠ 0 ∧ dif b a ≠ 0)
def strP (L : List Nat) (s : Nat) : Bool := L.all (fun t => !crB s t)
def stL (N : Nat) (g : Nat → Nat) (c : Nat) : List Nat := (spL N g c).filter (strP (spL N g c))
theorem spP_sub {N : Nat} {g : Nat → Nat} {c s : Nat} (h : spP N g c s = true) : sub s c := by
  unfold spP at h
  rw [Bool.and_eq_true, decide_eq_true_eq] at h
  exact dif0.mp h.1
theorem spP_pop {N : Nat} {g : Nat → Nat} {c s : Nat} (h : spP N g c s = true) : 2 ≤ pop s := by
  unfold spP isSp at h
  simp only [Bool.and_eq_true, decide_eq_true_eq] at h
  exact h.2.2.1
theorem spP_least {N : Nat} {g : Nat → Nat} {c s : Nat} (h : spP N g c s = true) : s.testBit (least c) = false := by
  unfold spP at h
  simp only [Bool.and_eq_true, Bool.not_eq_true'] at h
  exact h.2.1
theorem pop0 : pop 0 = 0 := by decide
def qB (N b s : Nat) : Bool := decide (s < 2 ^ N) && (decide (s ≠ 0) && !s.testBit b)
theorem qB_tab : ∀ N, N < 10 → ∀ b, b < N → ((List.range 512).filter (qB N b)).length ≤ 2 ^ (N - 1) - 1 := by decide +kernel
theorem spL_len {N : Nat} {g : Nat → Nat} (h9 : N ≤ 9) {c : Nat} (hc : c < 2 ^ N) (h0 : c ≠ 0) : (spL N g c).length ≤ 2 ^ (N - 1) - 1 := by
  have hl := least_spec (p512 h9 hc) h0
  refine Nat.le_trans (filter_le _ (fun s _ h => ?_)) (qB_tab N (by omega) (least c) (bit_lt hc hl.1))
  unfold qB
  have hne : s ≠ 0 := fun e => absurd (spP_pop h) (by rw [e, pop0]; omega)
  rw [decide_eq_true (sub_lt (spP_sub h) hc), decide_eq_true hne, spP_least h]
  rfl
theorem spL_mem {N : Nat} {g : Nat → Nat} {c s : Nat} (h : s ∈ spL N g c) : spP N g c s = true := (List.mem_filter.mp h).2
theorem getD_mem {l : List Nat} {i : Nat} (h : i < l.length) : l.getD i 0 ∈ l := by
  rw [List.getD_eq_getElem?_getD, List.getElem?_eq_getElem h]
  exact List.getElem_mem h
theorem spL_lt {N : Nat} {g : Nat → Nat} {c : Nat} (hc : c < 2 ^ N) {i : Nat} (h : i < (spL N g c).length) : (spL N g c).getD i 0 < 2 ^ N := sub_lt (spP_sub (spL_mem (getD_mem h))) hc
theorem e_Mcross {a b : Nat} (ha : a < 2 ^ 31) (hb : b < 2 ^ 31) : ev (fun n => mM_cross n 0 [nI a, nI b]) (bI (crB a b)) := by
  refine ev_s (fun n => mM_cross_e0 n _ _) ?_
  rw [nx_and, nx_dif, nx_dif]
  have h1 : a &&& b < 2 ^ 31 := Nat.lt_of_le_of_lt Nat.and_le_left ha
  have h2 := dif_lt b ha
  have h3 := dif_lt a hb
  unfold crB
  by_cases q1 : a &&& b = 0
  · rw [decide_eq_false (fun q => q.1 q1)]
    exact ev_t ((nI0 h1).mpr q1) (ev_p _)
  · refine ev_f (fun q => q1 ((nI0 h1).mp q)) ?_
    by_cases q2 : dif a b = 0
    · rw [decide_eq_false (fun q => q.2.1 q2)]
      exact ev_t ((nI0 h2).mpr q2) (ev_p _)
    · refine ev_f (fun q => q2 ((nI0 h2).mp q)) ?_
      by_cases q3 : dif b a = 0
      · rw [decide_eq_false (fun q => q.2.2 q3)]
        exact ev_t ((nI0 h3).mpr q3) (ev_p _)
      · rw [decide_eq_true ⟨q1, q2, q3⟩]
        exact ev_f (fun q => q3 ((nI0 h3).mp q)) (ev_p _)
section FIND
variable {N : Nat} {g : Nat → Nat} {f : Nat → Int32} {c : Nat}
theorem e_find1 (h9 : N ≤ 9) (hg : Gr N g) (hn : Hn N g f) (hc : c < 2 ^ N) (h0 : c ≠ 0) (tn : Int32) (ts : Nat → Int32) : ∀ k s zs, s + k = 512 → holds zs ((List.range s).filter (spP N g c)) → ∃ zs', holds zs' (spL N g c) ∧ ∀ R, ev (fun n => mM_find N f n 4 [0] (nI (spL N g c).length) zs' 0 ts) R → ev (fun n => mM_find N f n 1 [nI c, nI (2 ^ least c), nI s] (nI ((List.range s).filter (spP N g c)).length) zs tn ts) R
  | 0, s, zs, h, hz => by
    have e : s = 512 := by omega
    subst e
    refine ⟨zs, hz, fun R hR => ?_⟩
    refine ev_s (fun n => mM_find_e1 N f n _ _ _ _ _ _ _) ?_
    exact ev_t (by decide) hR
  | k + 1, s, zs, h, hz => by
    have hf := range_filter_succ (spP N g c) s
    have hl := least_spec (p512 h9 hc) h0
    have hge : ¬ (512 : Int32) ≤ nI s := fun q => absurd ((nI_leI (a := 512) (b := s) (by decide) (by omega)).mp q) (by omega)
    have hs31 : s < 2 ^ 31 := by omega
    have p1 := pop_le9 s
    have p2 := pop_le9 (dif c s)
    by_cases hp : spP N g c s = true
    · rw [if_pos hp] at hf
      have hz2 := holds_push hz s
      rw [← hf] at hz2
      obtain ⟨zs', hz', hk⟩ := e_find1 h9 hg hn hc h0 tn ts k (s + 1) _ (by omega) hz2
      refine ⟨zs', hz', fun R hR => ?_⟩
      have hlen : ((List.range s).filter (spP N g c)).length < 256 := by
        have q1 := range_filter_le (spP N g c) (show s + 1 ≤ 512 by omega)
        have q2 := spL_len (g := g) h9 hc h0
        have q3 : 2 ^ (N - 1) ≤ 2 ^ 8 := Nat.pow_le_pow_right (by decide) (by omega)
        rw [hf, List.length_append, List.length_singleton] at q1
        unfold spL at q2
        omega
      have hp' := hp
      unfold spP isSp at hp
      simp only [Bool.and_eq_true, decide_eq_true_eq, Bool.not_eq_true'] at hp
      obtain ⟨a1, a2, a3, a4, a5⟩ := hp
      refine ev_s (fun n => mM_find_e1 N f n _ _ _ _ _ _ _) ?_
      refine ev_f hge ?_
      rw [nx_dif, nx_and, nx_dif]
      refine ev_t (by rw [a1]; rfl) ?_
      refine ev_t (by rw [and_two.mpr a2]; rfl) ?_
      refine ev_b (e_Msize hs31) ?_
      refine ev_f (fun q => absurd ((nI_ltI (b := 2) (by omega) (by decide)).mp q) (by omega)) ?_
      refine ev_b (e_Msize (p31 h9 (dif_lt s hc))) ?_
      refine ev_f (fun q => absurd ((nI_ltI (b := 2) (by omega) (by decide)).mp q) (by omega)) ?_
      refine ev_s (fun n => mM_find_e3 N f n _ _ _ _ _ _ _ _) ?_
      refine ev_f (by decide) ?_
      rw [nx_dif]
      refine ev_b (e_complete h9 hg hn _ (sub_lt (spP_sub hp') hc)) ?_
      rw [a5]
      refine ev_f bI_t ?_
      refine ev_g (vp_in_nI hlen (by decide)) ?_
      rw [nI_1, nI_1, nI_clamp (by omega)]
      have hR := hk R hR
      rw [hf, List.length_append, List.length_singleton] at hR
      exact hR
    · rw [if_neg hp, List.append_nil] at hf
      rw [← hf] at hz
      obtain ⟨zs', hz', hk⟩ := e_find1 h9 hg hn hc h0 tn ts k (s + 1) _ (by omega) hz
      refine ⟨zs', hz', fun R hR => ?_⟩
      have hR := hk R hR
      rw [hf] at hR
      have skip : ev (fun n => mM_find N f n 2 [nI c, nI (2 ^ least c), nI s] (nI ((List.range s).filter (spP N g c)).length) zs tn ts) R := by
        refine ev_s (fun n => mM_find_e2 N f n _ _ _ _ _ _ _) ?_
        refine ev_s (fun n => mM_find_e3 N f n _ _ _ _ _ _ _ _) ?_
        refine ev_t rfl ?_
        rw [nI_1]
        exact hR
      refine ev_s (fun n => mM_find_e1 N f n _ _ _ _ _ _ _) ?_
      refine ev_f hge ?_
      rw [nx_dif, nx_and, nx_dif]
      by_cases b1 : dif s c = 0
      · refine ev_t (by rw [b1]; rfl) ?_
        cases b2 : s.testBit (least c)
        · refine ev_t (by rw [and_two.mpr b2]; rfl) ?_
          refine ev_b (e_Msize hs31) ?_
          by_cases b3 : 2 ≤ pop s
          · refine ev_f (fun q => absurd ((nI_ltI (b := 2) (by omega) (by decide)).mp q) (by omega)) ?_
            refine ev_b (e_Msize (p31 h9 (dif_lt s hc))) ?_
            by_cases b4 : 2 ≤ pop (dif c s)
            · refine ev_f (fun q => absurd ((nI_ltI (b := 2) (by omega) (by decide)).mp q) (by omega)) ?_
              refine ev_s (fun n => mM_find_e3 N f n _ _ _ _ _ _ _ _) ?_
              refine ev_f (by decide) ?_
              rw [nx_dif]
              refine ev_b (e_complete h9 hg hn _ (sub_lt (dif0.mp b1) hc)) ?_
              cases b5 : bnd N g s (dif c s)
              · refine ev_t bI_f ?_
                rw [nI_1]
                exact hR
              · exfalso
                apply hp
                unfold spP isSp
                rw [decide_eq_true b1, b2, decide_eq_true b3, decide_eq_true b4, b5]
                rfl
            · exact ev_t ((nI_ltI (b := 2) (by omega) (by decide)).mpr (by omega)) skip
          · exact ev_t ((nI_ltI (b := 2) (by omega) (by decide)).mpr (by omega)) skip
        · refine ev_f (fun q => ?_) skip
          have q2 := (nI0 (Nat.lt_of_le_of_lt Nat.and_le_left hs31)).mp q
          rw [and_two, b2] at q2
          cases q2
      · exact ev_f (fun q => b1 ((nI0 (dif_lt c hs31)).mp q)) skip
theorem drop_cons {l : List Nat} {i : Nat} (h : i < l.length) : l.drop i = l.getD i 0 :: l.drop (i + 1) := by
  rw [List.drop_eq_getElem_cons h, List.getD_eq_getElem?_getD, List.getElem?_eq_getElem h]
  rfl
theorem take_snoc {l : List Nat} {i : Nat} (h : i < l.length) : l.take (i + 1) = l.take i ++ [l.getD i 0] := by
  rw [List.take_succ, List.getD_eq_getElem?_getD, List.getElem?_eq_getElem h]
  rfl
theorem e_find5 (h9 : N ≤ 9) (hc : c < 2 ^ N) (h0 : c ≠ 0) {zs : Nat → Int32} (hz : holds zs (spL N g c)) (tn : Int32) (ts : Nat → Int32) {i : Nat} (hi : i < (spL N g c).length) {R : Int32 × (Nat → Int32) × Int32 × (Nat → Int32)} : ∀ k j, j + k = (spL N g c).length → ∀ fl : Bool, ev (fun n => mM_find N f n 5 [nI i, bI (fl && ((spL N g c).drop j).all (fun t => !crB ((spL N g c).getD i 0) t)), nI (spL N g c).length] (nI (spL N g c).length) zs tn ts) R → ev (fun n => mM_find N f n 5 [nI i, bI fl, nI j] (nI (spL N g c).length) zs tn ts) R
  | 0, j, h, fl, hR => by
    have e : j = (spL N g c).length := by omega
    rw [e] at hR ⊢
    rw [List.drop_length, List.all_nil, Bool.and_true] at hR
    exact hR
  | k + 1, j, h, fl, hR => by
    have hL : (spL N g c).length ≤ 255 := by
      have q2 := spL_len (g := g) h9 hc h0
      have q3 : 2 ^ (N - 1) ≤ 2 ^ 8 := Nat.pow_le_pow_right (by decide) (by omega)
      omega
    have hj : j < (spL N g c).length := by omega
    rw [drop_cons hj, List.all_cons] at hR
    have ih := e_find5 h9 hc h0 hz tn ts hi (R := R) k (j + 1) (by omega)
    refine ev_s (fun n => mM_find_e5 N f n _ _ _ _ _ _ _) ?_
    refine ev_f (nI_ge hj (by omega)) ?_
    cases fl
    · refine ev_t bI_f ?_
      refine ev_s (fun n => mM_find_e6 N f n _ _ _ _ _ _) ?_
      rw [nI_1]
      exact ih false (by simpa using hR)
    · refine ev_f bI_t ?_
      refine ev_g (vp_in_nI (by omega) (by decide)) (ev_g (vp_in_nI (by omega) (by decide)) ?_)
      rw [nI_clamp (n := i) (by omega), nI_clamp (n := j) (by omega), hz i hi, hz j hj]
      refine ev_b (e_Mcross (p31 h9 (spL_lt hc hi)) (p31 h9 (spL_lt hc hj))) ?_
      cases hcr : crB ((spL N g c).getD i 0) ((spL N g c).getD j 0)
      · refine ev_t bI_f ?_
        rw [nI_1]
        rw [hcr] at hR
        exact ih true (by simpa using hR)
      · refine ev_f bI_t ?_
        refine ev_s (fun n => mM_find_e6 N f n _ _ _ _ _ _) ?_
        rw [nI_1]
        rw [hcr] at hR
        exact ih false (by simpa using hR)
theorem e_find4 (h9 : N ≤ 9) (hc : c < 2 ^ N) (h0 : c ≠ 0) {zs : Nat → Int32} (hz : holds zs (spL N g c)) : ∀ k i ts, i + k = (spL N g c).length → holds ts (((spL N g c).take i).filter (strP (spL N g c))) → ∃ ts', holds ts' (stL N g c) ∧ ev (fun n => mM_find N f n 4 [nI i] (nI (spL N g c).length) zs (nI (((spL N g c).take i).filter (strP (spL N g c))).length) ts) (nI (spL N g c).length, zs, nI (stL N g c).length, ts')
  | 0, i, ts, h, ht => by
    have e : i = (spL N g c).length := by omega
    rw [e] at ht ⊢
    rw [List.take_length] at ht ⊢
    refine ⟨ts, ht, ?_⟩
    have hL := spL_len (g := g) h9 hc h0
    have q3 : 2 ^ (N - 1) ≤ 2 ^ 8 := Nat.pow_le_pow_right (by decide) (by omega)
    refine ev_s (fun n => mM_find_e4 N f n _ _ _ _ _) ?_
    exact ev_t (nI_le (Nat.le_refl _) (by omega)) (ev_p _)
  | k + 1, i, ts, h, ht => by
    have hL := spL_len (g := g) h9 hc h0
    have q3 : 2 ^ (N - 1) ≤ 2 ^ 8 := Nat.pow_le_pow_right (by decide) (by omega)
    have hi : i < (spL N g c).length := by omega
    have hlen : (((spL N g c).take i).filter (strP (spL N g c))).length ≤ i := by
      refine Nat.le_trans (List.length_filter_le _ _) ?_
      rw [List.length_take]
      omega
    have hs := take_snoc hi
    have hstart : ∀ R, ev (fun n => mM_find N f n 5 [nI i, bI (strP (spL N g c) ((spL N g c).getD i 0)), nI (spL N g c).length] (nI (spL N g c).length) zs (nI (((spL N g c).take i).filter (strP (spL N g c))).length) ts) R → ev (fun n => mM_find N f n 4 [nI i] (nI (spL N g c).length) zs (nI (((spL N g c).take i).filter (strP (spL N g c))).length) ts) R := fun R hR => by
      refine ev_s (fun n => mM_find_e4 N f n _ _ _ _ _) ?_
      refine ev_f (nI_ge hi (by omega)) ?_
      exact e_find5 h9 hc h0 hz _ ts hi (spL N g c).length 0 (by omega) true (by rw [Bool.true_and, List.drop_zero]; exact hR)
    cases hq : strP (spL N g c) ((spL N g c).getD i 0)
    · have ef : ((spL N g c).take (i + 1)).filter (strP (spL N g c)) = ((spL N g c).take i).filter (strP (spL N g c)) := by
        rw [hs, List.filter_append]
        simp only [List.filter_cons, hq, List.filter_nil]
        simp
      obtain ⟨ts', h1, h2⟩ := e_find4 h9 hc h0 hz k (i + 1) ts (by omega) (by rw [ef]; exact ht)
      refine ⟨ts', h1, hstart _ ?_⟩
      rw [hq]
      refine ev_s (fun n => mM_find_e5 N f n _ _ _ _ _ _ _) ?_
      refine ev_t (nI_le (Nat.le_refl _) (by omega)) ?_
      refine ev_t bI_f ?_
      rw [nI_1]
      rw [ef] at h2
      exact h2
    · have ef : ((spL N g c).take (i + 1)).filter (strP (spL N g c)) = ((spL N g c).take i).filter (strP (spL N g c)) ++ [(spL N g c).getD i 0] := by
        rw [hs, List.filter_append]
        simp only [List.filter_cons, hq, List.filter_nil]
        simp
      have ht2 := holds_push ht ((spL N g c).getD i 0)
      rw [← ef] at ht2
      obtain ⟨ts', h1, h2⟩ := e_find4 h9 hc h0 hz k (i + 1) _ (by omega) ht2
      refine ⟨ts', h1, hstart _ ?_⟩
      rw [hq]
      refine ev_s (fun n => mM_find_e5 N f n _ _ _ _ _ _ _) ?_
      refine ev_t (nI_le (Nat.le_refl _) (by omega)) ?_
      refine ev_f bI_t ?_
      refine ev_g (vp_in_nI (by omega) (by decide)) (ev_g (vp_in_nI (by omega) (by decide)) ?_)
      rw [nI_1, nI_1, nI_clamp (n := i) (by omega), hz i hi, nI_clamp (by omega)]
      rw [ef, List.length_append, List.length_singleton] at h2
      exact h2
theorem e_find (h9 : N ≤ 9) (hg : Gr N g) (hn : Hn N g f) (hc : c < 2 ^ N) (h0 : c ≠ 0) (zn tn : Int32) (zs ts : Nat → Int32) : ∃ zs' ts', holds zs' (spL N g c) ∧ holds ts' (stL N g c) ∧ ev (fun n => mM_find N f n 0 [nI c] zn zs tn ts) (nI (spL N g c).length, zs', nI (stL N g c).length, ts') := by
  obtain ⟨zs', hz, hk⟩ := e_find1 h9 hg hn hc h0 tn ts 512 0 zs rfl (holds_nil _)
  obtain ⟨ts', ht, h2⟩ := e_find4 (f := f) h9 hc h0 hz (spL N g c).length 0 ts (by omega) (holds_nil _)
  refine ⟨zs', ts', hz, ht, ?_⟩
  refine ev_s (fun n => mM_find_e0 N f n _ _ _ _ _) ?_
  refine ev_b (e_least (p31 h9 hc)) ?_
  refine ev_l ?_
  have hl := least_spec (p512 h9 hc) h0
  rw [nx_shl (by omega)]
  exact hk _ h2
end FIND
