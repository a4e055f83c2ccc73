/-! The small methods: contains, bitCount, size, least, has .. -/
theorem e_contains {s v : Nat} (hs : s < 2 ^ 31) (hv : v < 32) : ev (fun n => mF_contains n 0 [nI s, nI v]) (bI (s.testBit v)) := by
  refine ev_s (fun n => mF_contains_e0 n _ _) ?_
  rw [nx_bit hs hv]
  cases s.testBit v
  · exact ev_t (by decide) (ev_p 0)
  · exact ev_f (by decide) (ev_p 1)
/-- bitCount's own sum, as a closed term -/
def bcT (x : Int32) : Option Int32 := mJ_bitCount 1 0 [x]
theorem bc_tab : ∀ s, s < 512 → bcT (nI s) = some (nI (pop s)) := by decide +kernel
theorem bc_any (n : Nat) (x : Int32) : mJ_bitCount (n + 1) 0 [x] = bcT x := rfl
theorem e_bitCount {s : Nat} (hs : s < 512) : ev (fun n => mJ_bitCount n 0 [nI s]) (nI (pop s)) := by
  refine ev_s (fun n => bc_any n _) ?_
  rw [bc_tab s hs]
  exact ev_p _
theorem e_Gsize (N : Nat) : ev (fun n => mG_size N n 0 []) (nI N) := ev_s (fun n => mG_size_e0 N n) (ev_p _)
theorem e_Gall {N : Nat} (h1 : 1 ≤ N) (h9 : N ≤ 9) : ev (fun n => mG_all N n 0 []) (nI (2 ^ N - 1)) := by
  refine ev_s (fun n => mG_all_e0 N n) ?_
  refine ev_e ?_ (ev_p _)
  rcases (show N = 1 ∨ N = 2 ∨ N = 3 ∨ N = 4 ∨ N = 5 ∨ N = 6 ∨ N = 7 ∨ N = 8 ∨ N = 9 by omega) with rfl | rfl | rfl | rfl | rfl | rfl | rfl | rfl | rfl <;> decide
/-- an int that is a vertex -/
def isV (N : Nat) (v : Int32) : Bool := decide (¬ v < 0 ∧ ¬ nI N ≤ v)
theorem isV_j {N : Nat} {v : Int32} (h9 : N ≤ 9) (h : isV N v = true) : ∃ j, j < N ∧ v = nI j := by
  have h := of_decide_eq_true h
  obtain ⟨j, hj, rfl⟩ := nI_of h.1
  refine ⟨j, ?_, rfl⟩
  rcases Nat.lt_or_ge j N with q | q
  · exact q
  · exact absurd (nI_le q hj) h.2
theorem e_has (N : Nat) (v : Int32) : ev (fun n => mG_has N n 0 [v]) (bI (isV N v)) := by
  refine ev_s (fun n => mG_has_e0 N n _) ?_
  refine ev_c (fun h => ?_) (fun h => ?_)
  · rw [show isV N v = false from decide_eq_false (fun q => q.1 h)]
    exact ev_p _
  · refine ev_c (fun h2 => ?_) (fun h2 => ?_)
    · rw [show isV N v = false from decide_eq_false (fun q => q.2 h2)]
      exact ev_p _
    · rw [show isV N v = true from decide_eq_true ⟨h, h2⟩]
      exact ev_p _
theorem e_is (N : Nat) (v : Int32) : ev (fun n => mM_is N n 0 [v]) (bI (isV N v)) := by
  refine ev_s (fun n => mM_is_e0 N n _) ?_
  refine ev_c (fun h => ?_) (fun h => ?_)
  · rw [show isV N v = false from decide_eq_false (fun q => q.1 h)]
    exact ev_p _
  · refine ev_c (fun h2 => ?_) (fun h2 => ?_)
    · rw [show isV N v = false from decide_eq_false (fun q => q.2 h2)]
      exact ev_p _
    · rw [show isV N v = true from decide_eq_true ⟨h, h2⟩]
      exact ev_p _
theorem nI_bI (b : Bool) : bI b = nI (if b = true then 1 else 0) := by cases b <;> rfl
/-- the model's size: nine steps -/
theorem e_sizeL {s : Nat} (hs : s < 2 ^ 31) : ∀ k i, i + k = 9 → ev (fun n => mM_size n 1 [nI s, nI (popF s i), nI i]) (nI (pop s))
  | 0, i, h => by
    refine ev_s (fun n => mM_size_e1 n _ _ _) ?_
    rw [show i = 9 by omega]
    exact ev_t (by decide) (ev_p _)
  | k + 1, i, h => by
    refine ev_s (fun n => mM_size_e1 n _ _ _) ?_
    refine ev_f (fun q => absurd ((nI_leI (a := 9) (b := i) (by omega) (by omega)).mp q) (by omega)) ?_
    refine ev_l ?_
    rw [nx_bit hs (by omega), nI_bI, nI_add, nI_1]
    exact e_sizeL hs k (i + 1) (by omega)
theorem e_Msize {s : Nat} (hs : s < 2 ^ 31) : ev (fun n => mM_size n 0 [nI s]) (nI (pop s)) := by
  refine ev_s (fun n => mM_size_e0 n _) ?_
  exact e_sizeL hs 9 0 rfl
/-- the least vertex of a set, 9 when there is none -/
def leastF (s : Nat) : Nat → Nat → Nat
  | 0, i => i
  | k + 1, i => if s.testBit i = true then i else leastF s k (i + 1)
def least (s : Nat) : Nat := leastF s 9 0
theorem e_leastL {s : Nat} (hs : s < 2 ^ 31) : ∀ k i, i + k = 9 → ev (fun n => mM_least n 1 [nI s, nI i]) (nI (leastF s k i))
  | 0, i, h => by
    refine ev_s (fun n => mM_least_e1 n _ _) ?_
    rw [show i = 9 by omega]
    exact ev_t (by decide) (ev_p _)
  | k + 1, i, h => by
    refine ev_s (fun n => mM_least_e1 n _ _) ?_
    refine ev_f (fun q => absurd ((nI_leI (a := 9) (b := i) (by omega) (by omega)).mp q) (by omega)) ?_
    rw [nx_bit hs (by omega)]
    unfold leastF
    cases hb : s.testBit i
    · refine ev_t (by decide) ?_
      rw [nI_1, if_neg (by decide)]
      exact e_leastL hs k (i + 1) (by omega)
    · refine ev_f (by decide) ?_
      rw [if_pos rfl]
      exact ev_p _
theorem e_least {s : Nat} (hs : s < 2 ^ 31) : ev (fun n => mM_least n 0 [nI s]) (nI (least s)) := by
  refine ev_s (fun n => mM_least_e0 n _) ?_
  exact e_leastL hs 9 0 rfl
theorem leastF_spec (s : Nat) : ∀ k i, (∀ j, i ≤ j → j < leastF s k i → s.testBit j = false) ∧ i ≤ leastF s k i ∧ (leastF s k i < i + k → s.testBit (leastF s k i) = true) ∧ leastF s k i ≤ i + k
  | 0, i => ⟨fun j h1 h2 => absurd h2 (by unfold leastF; omega), Nat.le_refl _, fun h => absurd h (by unfold leastF; omega), Nat.le_refl _⟩
  | k + 1, i => by
    unfold leastF
    cases hb : s.testBit i
    · rw [if_neg (by decide)]
      obtain ⟨h1, h2, h3, h4⟩ := leastF_spec s k (i + 1)
      refine ⟨fun j hj1 hj2 => ?_, by omega, fun h => h3 (by omega), by omega⟩
      by_cases e : j = i
      · rw [e]; exact hb
      · exact h1 j (by omega) hj2
    · rw [if_pos rfl]
      exact ⟨fun j hj1 hj2 => absurd hj2 (by omega), Nat.le_refl _, fun _ => hb, by omega⟩
theorem least_spec {s : Nat} (hs : s < 512) (h0 : s ≠ 0) : s.testBit (least s) = true ∧ least s < 9 ∧ ∀ j, j < least s → s.testBit j = false := by
  obtain ⟨h1, h2, h3, h4⟩ := leastF_spec s 9 0
  obtain ⟨i, hi⟩ := ne0_bit h0
  have hi9 := bit_lt (N := 9) hs hi
  have hlt : least s < 9 := by
    rcases Nat.lt_or_ge (least s) 9 with q | q
    · exact q
    · have := h1 i (Nat.zero_le _) (Nat.lt_of_lt_of_le hi9 q)
      rw [hi] at this
      cases this
  exact ⟨h3 (by unfold least at hlt; omega), hlt, fun j hj => h1 j (Nat.zero_le _) hj⟩
