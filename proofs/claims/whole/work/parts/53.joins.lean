/-! Joins among the parts: degrees, pairs, the centre -/
def cnt (p : Nat → Bool) : Nat → Nat
  | 0 => 0
  | n + 1 => cnt p n + (if p n = true then 1 else 0)
theorem cnt_congr {p q : Nat → Bool} : ∀ n, (∀ l, l < n → p l = q l) → cnt p n = cnt q n
  | 0, h => rfl
  | n + 1, h => by
    unfold cnt
    rw [cnt_congr n (fun l hl => h l (by omega)), h n (by omega)]
theorem cnt_le (p : Nat → Bool) : ∀ n, cnt p n ≤ n
  | 0 => Nat.le_refl 0
  | n + 1 => by
    have := cnt_le p n
    unfold cnt
    split <;> omega
def dgD (J : Nat → Nat → Bool) (n k : Nat) : Nat := cnt (fun l => decide (l ≠ k) && J k l) n
def prE (J : Nat → Nat → Bool) : Nat → Nat
  | 0 => 0
  | n + 1 => prE J n + cnt (J n) n
def sm (h : Nat → Nat) : Nat → Nat
  | 0 => 0
  | n + 1 => sm h n + h n
theorem sm_congr {p q : Nat → Nat} : ∀ n, (∀ l, l < n → p l = q l) → sm p n = sm q n
  | 0, h => rfl
  | n + 1, h => by
    unfold sm
    rw [sm_congr n (fun l hl => h l (by omega)), h n (by omega)]
theorem sm_add (p q : Nat → Nat) : ∀ n, sm (fun k => p k + q k) n = sm p n + sm q n
  | 0 => rfl
  | n + 1 => by
    unfold sm
    rw [sm_add p q n]
    omega
theorem sm_cnt (p : Nat → Bool) : ∀ n, sm (fun k => if p k = true then 1 else 0) n = cnt p n
  | 0 => rfl
  | n + 1 => by
    unfold sm cnt
    rw [sm_cnt p n]
theorem dgD_s (J : Nat → Nat → Bool) (n k : Nat) (h : k ≠ n) : dgD J (n + 1) k = dgD J n k + (if J k n = true then 1 else 0) := by
  have hne : n ≠ k := fun e => h e.symm
  show dgD J n k + (if (decide (n ≠ k) && J k n) = true then 1 else 0) = _
  rw [decide_eq_true hne, Bool.true_and]
theorem dgD_self (J : Nat → Nat → Bool) (n : Nat) : dgD J n n = cnt (J n) n := cnt_congr n (fun l hl => by rw [decide_eq_true (show l ≠ n by omega), Bool.true_and])
theorem dgD_self2 (J : Nat → Nat → Bool) (n : Nat) : dgD J (n + 1) n = cnt (J n) n := by
  show dgD J n n + (if (decide (n ≠ n) && J n n) = true then 1 else 0) = _
  rw [decide_eq_false (fun q : n ≠ n => q rfl), dgD_self]
  simp
theorem hand {J : Nat → Nat → Bool} {m : Nat} (hJ : ∀ i j, i < m → j < m → J i j = J j i) : ∀ n, n ≤ m → sm (dgD J n) n = 2 * prE J n
  | 0, _ => rfl
  | n + 1, h => by
    show sm (dgD J (n + 1)) n + dgD J (n + 1) n = 2 * (prE J n + cnt (J n) n)
    rw [dgD_self2, sm_congr n (q := fun k => dgD J n k + (if J k n = true then 1 else 0)) (fun k hk => dgD_s J n k (by omega)), sm_add, sm_cnt, hand hJ n (by omega), cnt_congr n (q := J n) (fun l hl => hJ l n (by omega) (by omega))]
    omega
/-- the first whose degree is one less than m -/
def fsF (J : Nat → Nat → Bool) (m : Nat) : Nat → Option Nat
  | 0 => none
  | i + 1 => match fsF J m i with
    | some k => some k
    | none => if dgD J m i = m - 1 then some i else none
theorem fsF_lt {J : Nat → Nat → Bool} {m k : Nat} : ∀ i, fsF J m i = some k → k < i ∧ dgD J m k = m - 1
  | 0, h => by cases h
  | i + 1, h => by
    unfold fsF at h
    cases hq : fsF J m i with
    | some k2 =>
      rw [hq] at h
      cases h
      have := fsF_lt i hq
      exact ⟨by omega, this.2⟩
    | none =>
      rw [hq] at h
      by_cases hd : dgD J m i = m - 1
      · simp only [hd, if_true] at h
        cases h
        exact ⟨by omega, hd⟩
      · simp only [hd, if_false] at h
        cases h
section JOINS
variable {N : Nat} {g : Nat → Nat} {f : Nat → Int32}
theorem jnd_iff {a b : Nat} : jnd N g a b = true ↔ ∃ x y, x < N ∧ a.testBit x = true ∧ b.testBit y = true ∧ (g x).testBit y = true := by
  unfold jnd
  rw [decide_eq_true_eq]
  constructor
  · intro h
    obtain ⟨y, hy⟩ := ne0_bit h
    obtain ⟨x, h1, h2, h3, h4⟩ := (nta_bit N g a b y).mp hy
    exact ⟨x, y, h1, h2, h4, h3⟩
  · rintro ⟨x, y, h1, h2, h3, h4⟩ e
    have := (nta_bit N g a b y).mpr ⟨x, h1, h2, h4, h3⟩
    rw [e, Nat.zero_testBit] at this
    cases this
theorem jnd_comm (hg : Gr N g) {a b : Nat} (ha : a < 2 ^ N) (hb : b < 2 ^ N) : jnd N g a b = jnd N g b a := by
  have key : ∀ a b, a < 2 ^ N → b < 2 ^ N → jnd N g a b = true → jnd N g b a = true := fun a b ha hb h => by
    obtain ⟨x, y, h1, h2, h3, h4⟩ := jnd_iff.mp h
    have hy := bit_lt hb h3
    exact jnd_iff.mpr ⟨y, x, hy, h3, h2, by rw [hg.2.1 y x hy h1]; exact h4⟩
  cases h1 : jnd N g a b <;> cases h2 : jnd N g b a
  · rfl
  · rw [key b a hb ha h2] at h1; cases h1
  · rw [key a b ha hb h1] at h2; cases h2
  · rfl
def mjF (g : Nat → Nat) (a b : Nat) : Nat → Nat → Bool
  | 0, _ => false
  | k + 1, i => (a.testBit i && decide (g i &&& b ≠ 0)) || mjF g a b k (i + 1)
theorem mjF_iff (g : Nat → Nat) (a b : Nat) : ∀ k i, mjF g a b k i = true ↔ ∃ x, i ≤ x ∧ x < i + k ∧ a.testBit x = true ∧ g x &&& b ≠ 0
  | 0, i => ⟨(fun h => by cases h), (fun ⟨x, h1, h2, _⟩ => by omega)⟩
  | k + 1, i => by
    unfold mjF
    rw [Bool.or_eq_true, Bool.and_eq_true, decide_eq_true_eq, mjF_iff g a b k (i + 1)]
    constructor
    · rintro (⟨h1, h2⟩ | ⟨x, h1, h2, h3⟩)
      · exact ⟨i, Nat.le_refl _, by omega, h1, h2⟩
      · exact ⟨x, by omega, by omega, h3⟩
    · rintro ⟨x, h1, h2, h3⟩
      by_cases e : x = i
      · subst e
        exact Or.inl h3
      · exact Or.inr ⟨x, by omega, by omega, h3⟩
theorem mj_jnd (a b : Nat) : mjF g a b N 0 = jnd N g a b := by
  have h : mjF g a b N 0 = true ↔ jnd N g a b = true := by
    rw [mjF_iff, jnd_iff]
    constructor
    · rintro ⟨x, -, h2, h3, h4⟩
      obtain ⟨y, hy⟩ := ne0_bit h4
      have hy := and_bit.mp hy
      exact ⟨x, y, by omega, h3, hy.2, hy.1⟩
    · rintro ⟨x, y, h1, h2, h3, h4⟩
      refine ⟨x, Nat.zero_le _, by omega, h2, fun e => ?_⟩
      have : (g x &&& b).testBit y = true := and_bit.mpr ⟨h4, h3⟩
      rw [e, Nat.zero_testBit] at this
      cases this
  cases h1 : mjF g a b N 0 <;> cases h2 : jnd N g a b
  · rfl
  · rw [h.mpr h2] at h1; cases h1
  · rw [h.mp h1] at h2; cases h2
  · rfl
theorem e_MjL (h9 : N ≤ 9) (hg : Gr N g) (hn : Hn N g f) {a : Nat} (b : Nat) (ha : a < 2 ^ N) : ∀ k i, i + k = N → ∀ fl : Bool, ev (fun n => mM_joined N f n 1 [nI a, nI b, bI fl, nI i]) (bI (fl || mjF g a b k i))
  | 0, i, h, fl => by
    refine ev_s (fun n => mM_joined_e1 N f n _ _ _ _) ?_
    refine ev_t (nI_le (by omega) (by omega)) ?_
    unfold mjF
    rw [Bool.or_false]
    exact ev_z (bI_B fl) (ev_p _)
  | k + 1, i, h, fl => by
    have hi : i < N := by omega
    have ih := e_MjL h9 hg hn b ha k (i + 1) (by omega)
    have k2 : ev (fun n => mM_joined N f n 2 [nI a, nI b, nI i]) (bI (true || mjF g a b k (i + 1))) := by
      refine ev_s (fun n => mM_joined_e2 N f n _ _ _) ?_
      rw [nI_1]
      exact ih true
    have k3 : ev (fun n => mM_joined N f n 3 [nI a, nI b, nI i]) (bI (false || mjF g a b k (i + 1))) := by
      refine ev_s (fun n => mM_joined_e3 N f n _ _ _) ?_
      rw [nI_1]
      exact ih false
    refine ev_s (fun n => mM_joined_e1 N f n _ _ _ _) ?_
    refine ev_f (nI_ge hi (by omega)) ?_
    unfold mjF
    cases fl
    · refine ev_t bI_f ?_
      rw [nx_bit (p31 h9 ha) (by omega)]
      cases hb : a.testBit i
      · refine ev_f (by decide) ?_
        simpa using k3
      · refine ev_t (by decide) ?_
        refine ev_g (vp_in_nI (by omega) (by omega)) ?_
        rw [hn.at h9 hi, nx_and]
        by_cases q : g i &&& b = 0
        · refine ev_t (by rw [q]; rfl) ?_
          rw [decide_eq_false (fun r => r q)]
          simpa using k3
        · refine ev_f (fun r => q ((nI0 (p31 h9 (own_lt hg hi b))).mp r)) ?_
          rw [decide_eq_true q]
          simpa using k2
    · refine ev_f bI_t ?_
      simpa using k2
theorem e_Mjoined (h9 : N ≤ 9) (hg : Gr N g) (hn : Hn N g f) {a : Nat} (b : Nat) (ha : a < 2 ^ N) : ev (fun n => mM_joined N f n 0 [nI a, nI b]) (bI (jnd N g a b)) := by
  refine ev_s (fun n => mM_joined_e0 N f n _ _) ?_
  have := e_MjL h9 hg hn b ha N 0 (by omega) false
  rw [Bool.false_or, mj_jnd] at this
  exact this
/-- which parts of the list are joined -/
def JP (N : Nat) (g : Nat → Nat) (P : List Nat) (i j : Nat) : Bool := jnd N g (P.getD i 0) (P.getD j 0)
theorem e_linksL (h9 : N ≤ 9) (hg : Gr N g) (hn : Hn N g f) {P : List Nat} {ys : Nat → Int32} (hy : holds ys P) (hP : P.length ≤ 9) (hb : ∀ i, i < P.length → P.getD i 0 < 2 ^ N) {i : Nat} (hi : i < P.length) : ∀ k j, j + k = P.length → ev (fun n => mM_links N f (nI P.length) ys n 1 [nI i, nI (dgD (JP N g P) j i), nI j]) (nI (dgD (JP N g P) P.length i))
  | 0, j, h => by
    rw [show j = P.length by omega]
    refine ev_s (fun n => mM_links_e1 N f _ ys n _ _ _) ?_
    exact ev_t (nI_le (Nat.le_refl _) (by omega)) (ev_p _)
  | k + 1, j, h => by
    have hj : j < P.length := by omega
    have ih := e_linksL h9 hg hn hy hP hb hi k (j + 1) (by omega)
    have e : dgD (JP N g P) (j + 1) i = dgD (JP N g P) j i + (if (decide (j ≠ i) && JP N g P i j) = true then 1 else 0) := rfl
    rw [e] at ih
    have k2 : (decide (j ≠ i) && JP N g P i j) = false → ev (fun n => mM_links N f (nI P.length) ys n 2 [nI i, nI j, nI (dgD (JP N g P) j i)]) (nI (dgD (JP N g P) P.length i)) := fun hq => by
      refine ev_s (fun n => mM_links_e2 N f _ ys n _ _ _) ?_
      refine ev_s (fun n => mM_links_e3 N f _ ys n _ _ _ _) ?_
      refine ev_l ?_
      rw [hq, if_neg (by decide)] at ih
      rw [show (0 : Int32) = nI 0 from rfl, nI_add, nI_1]
      exact ih
    refine ev_s (fun n => mM_links_e1 N f _ ys n _ _ _) ?_
    refine ev_f (nI_ge hj (by omega)) ?_
    by_cases q : j = i
    · refine ev_t (by rw [q]) (k2 ?_)
      rw [decide_eq_false (fun r => r q)]
      rfl
    · refine ev_f (fun r => q ((nI_eq (by omega) (by omega)).mp r)) ?_
      refine ev_g (vp_in_nI (by omega) (by decide)) (ev_g (vp_in_nI (by omega) (by decide)) ?_)
      rw [nI_clamp (n := i) (by omega), nI_clamp (n := j) (by omega), hy i hi, hy j hj]
      refine ev_b (e_Mjoined h9 hg hn _ (hb i hi)) ?_
      cases hJ : jnd N g (P.getD i 0) (P.getD j 0)
      · refine ev_t bI_f (k2 ?_)
        unfold JP
        rw [hJ, Bool.and_false]
      · refine ev_f bI_t ?_
        refine ev_s (fun n => mM_links_e3 N f _ ys n _ _ _ _) ?_
        refine ev_l ?_
        rw [if_pos (by unfold JP; rw [hJ, decide_eq_true q]; rfl)] at ih
        rw [nI_1, nI_1]
        exact ih
theorem e_Mlinks (h9 : N ≤ 9) (hg : Gr N g) (hn : Hn N g f) {P : List Nat} {ys : Nat → Int32} (hy : holds ys P) (hP : P.length ≤ 9) (hb : ∀ i, i < P.length → P.getD i 0 < 2 ^ N) {i : Nat} (hi : i < P.length) : ev (fun n => mM_links N f (nI P.length) ys n 0 [nI i]) (nI (dgD (JP N g P) P.length i)) := by
  refine ev_s (fun n => mM_links_e0 N f _ ys n _) ?_
  exact e_linksL h9 hg hn hy hP hb hi P.length 0 (by omega)
/-- what 'middle' answers -/
def midI (J : Nat → Nat → Bool) (m : Nat) : Int32 := if prE J m = m * (m - 1) / 2 then -2 else if prE J m = m - 1 then oI (fsF J m m) else -1
theorem prE_le (J : Nat → Nat → Bool) : ∀ n, prE J n ≤ n * n
  | 0 => Nat.le_refl _
  | n + 1 => by
    have h1 := prE_le J n
    have h2 := cnt_le (J n) n
    show prE J n + cnt (J n) n ≤ (n + 1) * (n + 1)
    rw [Nat.add_mul, Nat.one_mul, Nat.mul_add, Nat.mul_one]
    omega
theorem oI_fs {J : Nat → Nat → Bool} {m : Nat} (hm : m ≤ 9) {i : Nat} (hi : i ≤ m) : oI (fsF J m i) = -1 ↔ fsF J m i = none := by
  cases h : fsF J m i with
  | none => exact ⟨fun _ => rfl, fun _ => rfl⟩
  | some k =>
    have := fsF_lt i h
    exact ⟨fun e => absurd e (nI_m1 (by omega)), fun e => by cases e⟩
theorem e_midL (h9 : N ≤ 9) (hg : Gr N g) (hn : Hn N g f) {P : List Nat} {ys : Nat → Int32} (hy : holds ys P) (hP : P.length ≤ 9) (h1 : 1 ≤ P.length) (hb : ∀ i, i < P.length → P.getD i 0 < 2 ^ N) : ∀ k i, i + k = P.length → ev (fun n => mM_middle N f (nI P.length) ys n 1 [nI (sm (dgD (JP N g P) P.length) i), oI (fsF (JP N g P) P.length i), nI i]) (midI (JP N g P) P.length)
  | 0, i, h => by
    have hJ : ∀ i j, i < P.length → j < P.length → JP N g P i j = JP N g P j i := fun i j hi hj => jnd_comm hg (hb i hi) (hb j hj)
    have hh := hand hJ P.length (Nat.le_refl _)
    have hE := prE_le (JP N g P) P.length
    have hm2 : P.length * P.length ≤ 9 * 9 := Nat.mul_le_mul hP hP
    have hm3 : P.length * (P.length - 1) ≤ 9 * 8 := Nat.mul_le_mul hP (by omega)
    have hev := even_m P.length
    rw [show i = P.length by omega, hh]
    refine ev_s (fun n => mM_middle_e1 N f _ ys n _ _ _) ?_
    refine ev_t (nI_le (Nat.le_refl _) (by omega)) ?_
    have e1 : nI P.length - 1 = nI (P.length - 1) := by
      obtain ⟨z, hz⟩ : ∃ z, P.length = z + 1 := ⟨P.length - 1, by omega⟩
      rw [hz]
      exact nI_pred z
    rw [e1, pk_mul, show (2 : Int32) = nI 2 from rfl, pk_mul]
    unfold midI
    by_cases q1 : prE (JP N g P) P.length = P.length * (P.length - 1) / 2
    · rw [if_pos q1]
      exact ev_t (by rw [show 2 * prE (JP N g P) P.length = P.length * (P.length - 1) by omega]) (ev_p _)
    · rw [if_neg q1]
      refine ev_f (fun r => q1 (by have := (nI_eq (by omega) (by omega)).mp r; omega)) ?_
      by_cases q2 : fsF (JP N g P) P.length P.length = none
      · refine ev_t ((oI_fs hP (Nat.le_refl _)).mpr q2) ?_
        rw [q2]
        show ev _ (if _ then (-1 : Int32) else -1)
        rw [ite_self]
        exact ev_p _
      · refine ev_f (fun r => q2 ((oI_fs hP (Nat.le_refl _)).mp r)) ?_
        by_cases q3 : prE (JP N g P) P.length = P.length - 1
        · rw [if_pos q3]
          exact ev_t (by rw [q3]) (ev_p _)
        · rw [if_neg q3]
          exact ev_f (fun r => q3 (by have := (nI_eq (by omega) (by omega)).mp r; omega)) (ev_p _)
  | k + 1, i, h => by
    have hi : i < P.length := by omega
    have ih := e_midL h9 hg hn hy hP h1 hb k (i + 1) (by omega)
    have e1 : nI P.length - 1 = nI (P.length - 1) := by
      obtain ⟨z, hz⟩ : ∃ z, P.length = z + 1 := ⟨P.length - 1, by omega⟩
      rw [hz]
      exact nI_pred z
    have hd := cnt_le (fun l => decide (l ≠ i) && JP N g P i l) P.length
    have hs : sm (dgD (JP N g P) P.length) (i + 1) = sm (dgD (JP N g P) P.length) i + dgD (JP N g P) P.length i := rfl
    rw [hs] at ih
    refine ev_s (fun n => mM_middle_e1 N f _ ys n _ _ _) ?_
    refine ev_f (nI_ge hi (by omega)) ?_
    refine ev_b (e_Mlinks h9 hg hn hy hP hb hi) ?_
    refine ev_l ?_
    refine ev_b (e_Mlinks h9 hg hn hy hP hb hi) ?_
    rw [nI_add, e1, nI_1]
    have k2 : fsF (JP N g P) P.length (i + 1) = fsF (JP N g P) P.length i → ev (fun n => mM_middle N f (nI P.length) ys n 2 [nI (sm (dgD (JP N g P) P.length) i + dgD (JP N g P) P.length i), oI (fsF (JP N g P) P.length i), nI i]) (midI (JP N g P) P.length) := fun hq => by
      refine ev_s (fun n => mM_middle_e2 N f _ ys n _ _ _) ?_
      rw [nI_1, ← hq]
      exact ih
    by_cases q1 : dgD (JP N g P) P.length i = P.length - 1
    · refine ev_t (by rw [q1]) ?_
      by_cases q2 : fsF (JP N g P) P.length i = none
      · refine ev_t ((oI_fs hP (by omega)).mpr q2) ?_
        have e : fsF (JP N g P) P.length (i + 1) = some i := by
          unfold fsF
          rw [q2]
          simp only [q1, if_true]
        rw [e] at ih
        exact ih
      · refine ev_f (fun r => q2 ((oI_fs hP (by omega)).mp r)) (k2 ?_)
        cases hq : fsF (JP N g P) P.length i with
        | none => exact absurd hq q2
        | some z =>
          show (match fsF (JP N g P) P.length i with | some k => some k | none => _) = _
          rw [hq]
    · refine ev_f (fun r => q1 ((nI_eq (show dgD (JP N g P) P.length i < 2 ^ 31 by show cnt _ _ < _; omega) (by omega)).mp r)) (k2 ?_)
      show (match fsF (JP N g P) P.length i with | some k => some k | none => _) = _
      cases hq : fsF (JP N g P) P.length i with
      | none => simp only [q1, if_false]
      | some z => rfl
theorem e_middle (h9 : N ≤ 9) (hg : Gr N g) (hn : Hn N g f) {P : List Nat} {ys : Nat → Int32} (hy : holds ys P) (hP : P.length ≤ 9) (h1 : 1 ≤ P.length) (hb : ∀ i, i < P.length → P.getD i 0 < 2 ^ N) : ev (fun n => mM_middle N f (nI P.length) ys n 0 []) (midI (JP N g P) P.length) := by
  refine ev_s (fun n => mM_middle_e0 N f _ ys n) ?_
  exact e_midL h9 hg hn hy hP h1 hb P.length 0 (by omega)
end JOINS
