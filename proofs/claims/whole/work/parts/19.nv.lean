/-! The number of vertices that a constructor's argument gives; lengths of arrays -/
def kNv (a : Int32) : Nat := if a < 1 ∨ 9 < a then 7 else a.toNatClampNeg
theorem kNv_7 {a : Int32} (h : a < 1 ∨ 9 < a) : nI (kNv a) = 7 := by
  unfold kNv
  rw [if_pos h]
  rfl
theorem kNv_j {a : Int32} (h1 : ¬ a < 1) (h2 : ¬ 9 < a) : ∃ j : Nat, 1 ≤ j ∧ j ≤ 9 ∧ a = nI j := by
  have h0 : ¬ a < 0 := fun h => h1 (Int32.lt_iff_toInt_lt.mpr (by
    have := Int32.lt_iff_toInt_lt.mp h
    have e0 : (0 : Int32).toInt = 0 := by decide
    have e1 : (1 : Int32).toInt = 1 := by decide
    rw [e0] at this
    rw [e1]
    omega))
  obtain ⟨j, hj, rfl⟩ := nI_of h0
  refine ⟨j, ?_, ?_, rfl⟩
  · rcases Nat.lt_or_ge 0 j with h | h
    · exact h
    · exact absurd (show nI j < 1 by rw [show j = 0 by omega]; decide) h1
  · rcases Nat.lt_or_ge 9 j with h | h
    · exact absurd (show (9 : Int32) < nI j from nI_lt (a := 9) h hj) h2
    · exact h
theorem kNv_a {a : Int32} (h1 : ¬ a < 1) (h2 : ¬ 9 < a) : nI (kNv a) = a := by
  obtain ⟨j, hj1, hj9, rfl⟩ := kNv_j h1 h2
  unfold kNv
  rw [if_neg (fun h => h.elim h1 h2), nI_clamp (by omega)]
theorem kNv_g {a : Int32} (h : a ≤ 9) : ¬ 9 < a := fun h2 => absurd h (Int32.not_le.mpr h2)
theorem kNv_h {a : Int32} (h : ¬ a ≤ 9) : 9 < a := Int32.not_le.mp h
theorem kNv_19 (a : Int32) : 1 ≤ kNv a ∧ kNv a ≤ 9 := by
  by_cases h : a < 1 ∨ 9 < a
  · unfold kNv
    rw [if_pos h]
    decide
  · obtain ⟨j, hj1, hj9, rfl⟩ := kNv_j (fun x => h (Or.inl x)) (fun x => h (Or.inr x))
    unfold kNv
    rw [if_neg h, nI_clamp (by omega)]
    exact ⟨hj1, hj9⟩
theorem kS1 {N : Nat} (h1 : 1 ≤ N) (h9 : N ≤ 9) : ¬ ((1 : Int32) <<< (((nI N) - 1) &&& 31)) < 0 ∧ ((1 : Int32) <<< (((nI N) - 1) &&& 31)).toNatClampNeg = 2 ^ (N - 1) ∧ 2 ^ (N - 1) ≤ 256 := by
  rcases (show N = 1 ∨ N = 2 ∨ N = 3 ∨ N = 4 ∨ N = 5 ∨ N = 6 ∨ N = 7 ∨ N = 8 ∨ N = 9 by omega) with rfl | rfl | rfl | rfl | rfl | rfl | rfl | rfl | rfl <;> decide
theorem kS0 {N : Nat} (h1 : 1 ≤ N) (h9 : N ≤ 9) : ¬ ((1 : Int32) <<< ((nI N) &&& 31)) < 0 ∧ ((1 : Int32) <<< ((nI N) &&& 31)).toNatClampNeg = 2 ^ N ∧ 2 ^ N ≤ 512 := by
  rcases (show N = 1 ∨ N = 2 ∨ N = 3 ∨ N = 4 ∨ N = 5 ∨ N = 6 ∨ N = 7 ∨ N = 8 ∨ N = 9 by omega) with rfl | rfl | rfl | rfl | rfl | rfl | rfl | rfl | rfl <;> decide
