/-! Sets of vertices as numbers: the Int32 words of the mirrors are nI of these. (b_.., s_l, nx_and, nx_xor: pasted from the kit's BITS.) -/
def bt (x : Int32) (i : Nat) : Bool := x.toBitVec.getLsbD i
theorem b_ext {x y : Int32} (h : ∀ i, i < 32 → bt x i = bt y i) : x = y := Int32.toBitVec_inj.mp (BitVec.eq_of_getLsbD_eq (fun i hi => h i hi))
theorem b_and (x y : Int32) (i : Nat) : bt (x &&& y) i = (bt x i && bt y i) := by unfold bt; rw [Int32.toBitVec_and, BitVec.getLsbD_and]
theorem b_xor (x y : Int32) (i : Nat) : bt (x ^^^ y) i = (bt x i ^^ bt y i) := by unfold bt; rw [Int32.toBitVec_xor, BitVec.getLsbD_xor]
theorem b_m1 : ∀ i, i < 32 → bt (-1) i = true := by decide +kernel
theorem s_l : ∀ n, n < 32 → ((nI n &&& 31).toBitVec.smod 32).toNat = n := by decide +kernel
theorem nx_and (a b : Nat) : nI a &&& nI b = nI (a &&& b) := by
  apply Int32.toBitVec_inj.1
  show BitVec.ofNat 32 a &&& BitVec.ofNat 32 b = BitVec.ofNat 32 (a &&& b)
  apply BitVec.eq_of_getLsbD_eq
  intro i hi
  simp [hi]
theorem nx_xor (a b : Nat) : nI a ^^^ nI b = nI (a ^^^ b) := by
  apply Int32.toBitVec_inj.1
  show BitVec.ofNat 32 a ^^^ BitVec.ofNat 32 b = BitVec.ofNat 32 (a ^^^ b)
  apply BitVec.eq_of_getLsbD_eq
  intro i hi
  simp [hi]
theorem nx_or (a b : Nat) : nI a ||| nI b = nI (a ||| b) := by
  apply Int32.toBitVec_inj.1
  show BitVec.ofNat 32 a ||| BitVec.ofNat 32 b = BitVec.ofNat 32 (a ||| b)
  apply BitVec.eq_of_getLsbD_eq
  intro i hi
  simp [hi]
/-- a without b -/
def dif (a b : Nat) : Nat := a ^^^ (a &&& b)
theorem dif_bit (a b i : Nat) : (dif a b).testBit i = (a.testBit i && !b.testBit i) := by
  unfold dif
  rw [Nat.testBit_xor, Nat.testBit_and]
  cases a.testBit i <;> cases b.testBit i <;> rfl
theorem nx_dif (a b : Nat) : nI a &&& (nI b ^^^ (-1)) = nI (dif a b) := by
  unfold dif
  rw [← nx_xor, ← nx_and]
  apply b_ext
  intro i hi
  rw [b_and, b_xor, b_xor, b_and, b_m1 i hi]
  cases bt (nI a) i <;> cases bt (nI b) i <;> rfl
theorem nx_shl {v : Nat} (hv : v < 31) : (1 : Int32) <<< (nI v &&& 31) = nI (2 ^ v) := by
  have h := pk_shlN (n := 1) (nI v &&& 31) v (s_l v (by omega)) (by rw [Nat.one_mul]; exact Nat.pow_lt_pow_right (by decide) (by omega))
  rw [Nat.one_mul] at h
  exact h
/-- an int that is a truth -/
def bI (b : Bool) : Int32 := if b = true then 1 else 0
theorem bI_0 {b : Bool} : bI b = 0 ↔ b = false := by cases b <;> decide
theorem bI_1 {b : Bool} : bI b = 1 ↔ b = true := by cases b <;> decide
theorem bI_B (b : Bool) : kB (bI b) := by
  cases b with
  | false => exact Or.inl rfl
  | true => exact Or.inr rfl
theorem nx_bit {s v : Nat} (hs : s < 2 ^ 31) (hv : v < 32) : (nI s >>> (nI v &&& 31)) &&& 1 = bI (s.testBit v) := by
  rw [pk_shrN hs (nI v &&& 31) v (s_l v hv), pk_andN (k := 1) (Nat.lt_of_le_of_lt (Nat.div_le_self _ _) (by omega)) (by decide)]
  unfold bI
  rw [Nat.testBit_eq_decide_div_mod_eq]
  rcases Nat.mod_two_eq_zero_or_one (s / 2 ^ v) with h | h
  · rw [h]; decide
  · rw [h]; decide
/-- how many vertices a set has -/
def popF (s : Nat) : Nat → Nat
  | 0 => 0
  | k + 1 => popF s k + (if s.testBit k = true then 1 else 0)
def pop (s : Nat) : Nat := popF s 9
theorem popF_le (s : Nat) : ∀ k, popF s k ≤ k
  | 0 => Nat.le_refl 0
  | k + 1 => by
    have := popF_le s k
    unfold popF
    split <;> omega
theorem popF_mono {a b : Nat} (h : ∀ i, a.testBit i = true → b.testBit i = true) : ∀ k, popF a k ≤ popF b k
  | 0 => Nat.le_refl 0
  | k + 1 => by
    have := popF_mono h k
    unfold popF
    by_cases ha : a.testBit k = true
    · rw [if_pos ha, if_pos (h k ha)]
      omega
    · rw [if_neg ha]
      omega
theorem popF_lt {a b : Nat} (h : ∀ i, a.testBit i = true → b.testBit i = true) {j : Nat} (ha : a.testBit j = false) (hb : b.testBit j = true) : ∀ k, j < k → popF a k < popF b k
  | 0, hj => absurd hj (Nat.not_lt_zero j)
  | k + 1, hj => by
    have hm := popF_mono h k
    unfold popF
    by_cases e : j = k
    · subst e
      rw [if_neg (by rw [ha]; decide), if_pos hb]
      omega
    · have := popF_lt h ha hb k (by omega)
      by_cases hak : a.testBit k = true
      · rw [if_pos hak, if_pos (h k hak)]
        omega
      · rw [if_neg hak]
        omega
theorem bit_lt {s i N : Nat} (hs : s < 2 ^ N) (h : s.testBit i = true) : i < N := by
  rcases Nat.lt_or_ge i N with q | q
  · exact q
  · rw [Nat.testBit_lt_two_pow (Nat.lt_of_lt_of_le hs (Nat.pow_le_pow_right (by decide) q))] at h
    cases h
theorem sub_eq {a b : Nat} (h : ∀ i, a.testBit i = b.testBit i) : a = b := Nat.eq_of_testBit_eq h
/-- a part of b: as Prop -/
def sub (a b : Nat) : Prop := ∀ i, a.testBit i = true → b.testBit i = true
theorem sub_antisymm {a b : Nat} (h1 : sub a b) (h2 : sub b a) : a = b := by
  apply Nat.eq_of_testBit_eq
  intro i
  cases ha : a.testBit i <;> cases hb : b.testBit i
  · rfl
  · rw [h2 i hb] at ha; cases ha
  · rw [h1 i ha] at hb; cases hb
  · rfl
theorem sub_rfl (a : Nat) : sub a a := fun _ h => h
theorem sub_trans {a b c : Nat} (h1 : sub a b) (h2 : sub b c) : sub a c := fun i h => h2 i (h1 i h)
theorem ex_of_ne {a b : Nat} (hs : sub a b) (h : a ≠ b) : ∃ i, a.testBit i = false ∧ b.testBit i = true := by
  apply Classical.byContradiction
  intro hn
  apply h
  apply sub_antisymm hs
  intro i hb
  cases ha : a.testBit i
  · exact absurd ⟨i, ha, hb⟩ hn
  · rfl
theorem pop_lt {a b : Nat} (hs : sub a b) (h : a ≠ b) (hb : b < 512) : pop a < pop b := by
  obtain ⟨i, h1, h2⟩ := ex_of_ne hs h
  exact popF_lt hs h1 h2 9 (bit_lt (N := 9) hb h2)
theorem pop_le9 (a : Nat) : pop a ≤ 9 := popF_le a 9
theorem pop_mono {a b : Nat} (h : sub a b) : pop a ≤ pop b := popF_mono h 9
theorem ne0_bit {a : Nat} (h : a ≠ 0) : ∃ i, a.testBit i = true := by
  obtain ⟨i, h1, h2⟩ := ex_of_ne (a := 0) (b := a) (fun i h => by rw [Nat.zero_testBit] at h; cases h) (fun e => h e.symm)
  exact ⟨i, h2⟩
