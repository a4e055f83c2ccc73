/-! Graphs as masks; components: the class's rounds and the model's passes give the least closed set -/
def Gr (N : Nat) (g : Nat → Nat) : Prop := (∀ i, i < N → g i < 2 ^ N) ∧ (∀ i j, i < N → j < N → (g i).testBit j = (g j).testBit i) ∧ ∀ i, i < N → (g i).testBit i = false
def Hn (N : Nat) (g : Nat → Nat) (f : Nat → Int32) : Prop := ∀ i, i < N → f i = nI (g i)
theorem Hn.at {N : Nat} {g : Nat → Nat} {f : Nat → Int32} (h : Hn N g f) (h9 : N ≤ 9) {i : Nat} (hi : i < N) : f (nI i).toNatClampNeg = nI (g i) := by
  rw [nI_clamp (by omega)]
  exact h i hi
/-- all neighbours in b of vertices in a -/
def ntaF (g : Nat → Nat) (a b : Nat) : Nat → Nat → Nat → Nat
  | 0, _, acc => acc
  | k + 1, i, acc => ntaF g a b k (i + 1) (if a.testBit i = true then acc ||| (g i &&& b) else acc)
def nta (N : Nat) (g : Nat → Nat) (a b : Nat) : Nat := ntaF g a b N 0 0
theorem ntaF_bit (g : Nat → Nat) (a b x : Nat) : ∀ k i acc, (ntaF g a b k i acc).testBit x = true ↔ acc.testBit x = true ∨ ∃ j, i ≤ j ∧ j < i + k ∧ a.testBit j = true ∧ (g j).testBit x = true ∧ b.testBit x = true
  | 0, i, acc => by
    unfold ntaF
    constructor
    · exact Or.inl
    · rintro (h | ⟨j, h1, h2, -⟩)
      · exact h
      · omega
  | k + 1, i, acc => by
    unfold ntaF
    rw [ntaF_bit g a b x k (i + 1)]
    by_cases ha : a.testBit i = true
    · rw [if_pos ha, Nat.testBit_or, Nat.testBit_and]
      constructor
      · rintro (h | ⟨j, h1, h2, h3⟩)
        · simp only [Bool.or_eq_true, Bool.and_eq_true] at h
          rcases h with h | h
          · exact Or.inl h
          · exact Or.inr ⟨i, by omega, by omega, ha, h⟩
        · exact Or.inr ⟨j, by omega, by omega, h3⟩
      · rintro (h | ⟨j, h1, h2, h3⟩)
        · left
          simp [h]
        · by_cases e : j = i
          · subst e
            left
            simp [h3.2.1, h3.2.2]
          · exact Or.inr ⟨j, by omega, by omega, h3⟩
    · rw [if_neg ha]
      constructor
      · rintro (h | ⟨j, h1, h2, h3⟩)
        · exact Or.inl h
        · exact Or.inr ⟨j, by omega, by omega, h3⟩
      · rintro (h | ⟨j, h1, h2, h3⟩)
        · exact Or.inl h
        · by_cases e : j = i
          · subst e
            exact absurd h3.1 ha
          · exact Or.inr ⟨j, by omega, by omega, h3⟩
theorem nta_bit (N : Nat) (g : Nat → Nat) (a b x : Nat) : (nta N g a b).testBit x = true ↔ ∃ j, j < N ∧ a.testBit j = true ∧ (g j).testBit x = true ∧ b.testBit x = true := by
  unfold nta
  rw [ntaF_bit]
  constructor
  · rintro (h | ⟨j, h1, h2, h3⟩)
    · rw [Nat.zero_testBit] at h
      cases h
    · exact ⟨j, by omega, h3⟩
  · rintro ⟨j, h1, h2⟩
    exact Or.inr ⟨j, by omega, by omega, h2⟩
theorem lt_of_bits {a N : Nat} (h : ∀ i, a.testBit i = true → i < N) : a < 2 ^ N := by
  apply Nat.lt_pow_two_of_testBit
  intro i hi
  cases hb : a.testBit i
  · rfl
  · exact absurd (h i hb) (by omega)
theorem nta_lt {N : Nat} {g : Nat → Nat} (hg : Gr N g) (a b : Nat) : nta N g a b < 2 ^ N := by
  apply lt_of_bits
  intro i hi
  obtain ⟨j, hj, -, h, -⟩ := (nta_bit N g a b i).mp hi
  exact bit_lt (hg.1 j hj) h
theorem e_ntaL {N : Nat} {g : Nat → Nat} {nr : Nat → Int32} (h9 : N ≤ 9) (hn : Hn N g nr) {a : Nat} (ha : a < 2 ^ 31) (b : Nat) : ∀ k i acc, i + k = N → ev (fun n => mG_nearToAny N nr n 1 [nI a, nI b, nI acc, nI i]) (nI (ntaF g a b k i acc))
  | 0, i, acc, h => by
    refine ev_s (fun n => mG_nearToAny_e1 N nr n _ _ _ _) ?_
    exact ev_t (nI_le (by omega) (by omega)) (ev_p _)
  | k + 1, i, acc, h => by
    refine ev_s (fun n => mG_nearToAny_e1 N nr n _ _ _ _) ?_
    refine ev_f (nI_ge (by omega) (by omega)) ?_
    refine ev_b (e_contains ha (by omega)) ?_
    unfold ntaF
    cases hb : a.testBit i
    · refine ev_t (by decide) ?_
      rw [if_neg (by decide), nI_1]
      exact e_ntaL h9 hn ha b k (i + 1) acc (by omega)
    · refine ev_f (by decide) ?_
      refine ev_g (vp_in_nI (by omega) (by omega)) ?_
      refine ev_l ?_
      rw [if_pos rfl, hn.at h9 (by omega), nx_and, nx_or, nI_1]
      exact e_ntaL h9 hn ha b k (i + 1) _ (by omega)
theorem e_nta {N : Nat} {g : Nat → Nat} {nr : Nat → Int32} (h9 : N ≤ 9) (hn : Hn N g nr) {a : Nat} (ha : a < 2 ^ 31) (b : Nat) : ev (fun n => mG_nearToAny N nr n 0 [nI a, nI b]) (nI (nta N g a b)) := by
  refine ev_s (fun n => mG_nearToAny_e0 N nr n _ _) ?_
  exact e_ntaL h9 hn ha b N 0 0 (by omega)
theorem p31 {N s : Nat} (h9 : N ≤ 9) (h : s < 2 ^ N) : s < 2 ^ 31 := Nat.lt_of_lt_of_le h (Nat.pow_le_pow_right (by decide) (by omega))
theorem p512 {N s : Nat} (h9 : N ≤ 9) (h : s < 2 ^ N) : s < 512 := Nat.lt_of_lt_of_le h (Nat.pow_le_pow_right (n := 2) (j := 9) (by decide) h9)
/-- whether an edge goes between -/
def jnd (N : Nat) (g : Nat → Nat) (a b : Nat) : Bool := decide (nta N g a b ≠ 0)
theorem e_joined {N : Nat} {g : Nat → Nat} {nr : Nat → Int32} (h9 : N ≤ 9) (hg : Gr N g) (hn : Hn N g nr) {a : Nat} (ha : a < 2 ^ 31) (b : Nat) : ev (fun n => mG_joined N nr n 0 [nI a, nI b]) (bI (jnd N g a b)) := by
  refine ev_s (fun n => mG_joined_e0 N nr n _ _) ?_
  refine ev_b (e_nta h9 hn ha b) ?_
  have hl := p31 h9 (nta_lt hg a b)
  by_cases h : nta N g a b = 0
  · refine ev_t (by rw [h]; rfl) ?_
    rw [show jnd N g a b = false from decide_eq_false (fun q => q h)]
    exact ev_p _
  · refine ev_f (fun q => h ((nI_eq (b := 0) hl (by decide)).mp q)) ?_
    rw [show jnd N g a b = true from decide_eq_true h]
    exact ev_p _
/-- the class's rounds -/
def rchF (N : Nat) (g : Nat → Nat) (set : Nat) : Nat → Nat → Nat
  | 0, f => f
  | k + 1, f => if f ||| nta N g f set = f then f else rchF N g set k (f ||| nta N g f set)
/-- the component of v in the graph of the set -/
def comp (N : Nat) (g : Nat → Nat) (set v : Nat) : Nat := rchF N g set N (2 ^ v)
theorem e_rchL {N : Nat} {g : Nat → Nat} {nr : Nat → Int32} (h9 : N ≤ 9) (hg : Gr N g) (hn : Hn N g nr) (set : Nat) : ∀ k r f, r + k = N → f < 2 ^ N → ev (fun n => mG_reached N nr n 1 [nI set, nI f, nI r]) (nI (rchF N g set k f))
  | 0, r, f, h, hf => by
    refine ev_s (fun n => mG_reached_e1 N nr n _ _ _) ?_
    exact ev_t (nI_le (by omega) (by omega)) (ev_p _)
  | k + 1, r, f, h, hf => by
    refine ev_s (fun n => mG_reached_e1 N nr n _ _ _) ?_
    refine ev_f (nI_ge (by omega) (by omega)) ?_
    refine ev_b (e_nta h9 hn (p31 h9 hf) set) ?_
    refine ev_l ?_
    rw [nx_or]
    have hw : f ||| nta N g f set < 2 ^ N := Nat.or_lt_two_pow hf (nta_lt hg f set)
    unfold rchF
    by_cases e : f ||| nta N g f set = f
    · refine ev_t (by rw [e]) ?_
      rw [if_pos e]
      exact ev_p _
    · refine ev_f (fun q => e ((nI_eq (p31 h9 hw) (p31 h9 hf)).mp q)) ?_
      rw [if_neg e, nI_1]
      exact e_rchL h9 hg hn set k (r + 1) _ (by omega) hw
theorem two_lt {v N : Nat} (h : v < N) : 2 ^ v < 2 ^ N := Nat.pow_lt_pow_right (by decide) h
theorem e_reached {N : Nat} {g : Nat → Nat} {nr : Nat → Int32} (h9 : N ≤ 9) (hg : Gr N g) (hn : Hn N g nr) (set : Nat) {v : Nat} (hv : v < N) : ev (fun n => mG_reached N nr n 0 [nI v, nI set]) (nI (comp N g set v)) := by
  refine ev_s (fun n => mG_reached_e0 N nr n _ _) ?_
  refine ev_l ?_
  rw [nx_shl (by omega)]
  exact e_rchL h9 hg hn set N 0 _ (by omega) (two_lt hv)
/-- closed: along edges into the set -/
def clo (N : Nat) (g : Nat → Nat) (set : Nat) (T : Nat → Prop) : Prop := ∀ i j, i < N → T i → (g i).testBit j = true → set.testBit j = true → T j
def bits (s : Nat) : Nat → Prop := fun i => s.testBit i = true
theorem pop_leN {N s : Nat} (hs : s < 2 ^ N) : ∀ k, popF s k ≤ N
  | 0 => Nat.zero_le _
  | k + 1 => by
    have h1 := pop_leN hs k
    have h2 := popF_le s k
    unfold popF
    by_cases hb : s.testBit k = true
    · have := bit_lt hs hb
      rw [if_pos hb]
      omega
    · rw [if_neg hb]
      omega
theorem or_bit {a b i : Nat} : (a ||| b).testBit i = true ↔ a.testBit i = true ∨ b.testBit i = true := by
  rw [Nat.testBit_or, Bool.or_eq_true]
theorem sub_or {a b : Nat} : sub a (a ||| b) := fun i h => or_bit.mpr (Or.inl h)
theorem rchF_spec {N : Nat} {g : Nat → Nat} (h9 : N ≤ 9) (hg : Gr N g) (set : Nat) : ∀ k f, f < 2 ^ N → N < k + pop f → clo N g set (bits (rchF N g set k f)) ∧ rchF N g set k f < 2 ^ N ∧ sub f (rchF N g set k f) ∧ ∀ T : Nat → Prop, clo N g set T → (∀ i, f.testBit i = true → T i) → ∀ i, (rchF N g set k f).testBit i = true → T i
  | 0, f, hf, hk => absurd (pop_leN hf 9) (by unfold pop at hk; omega)
  | k + 1, f, hf, hk => by
    have hw : f ||| nta N g f set < 2 ^ N := Nat.or_lt_two_pow hf (nta_lt hg f set)
    unfold rchF
    by_cases e : f ||| nta N g f set = f
    · rw [if_pos e]
      refine ⟨fun i j hi h1 h2 h3 => ?_, hf, sub_rfl f, fun T _ h i hi => h i hi⟩
      show f.testBit j = true
      rw [← e]
      exact or_bit.mpr (Or.inr ((nta_bit N g f set j).mpr ⟨i, hi, h1, h2, h3⟩))
    · rw [if_neg e]
      have hp := pop_lt (sub_or (a := f) (b := nta N g f set)) (fun q => e q.symm) (p512 h9 hw)
      obtain ⟨h1, h2, h3, h4⟩ := rchF_spec h9 hg set k _ hw (by omega)
      refine ⟨h1, h2, sub_trans sub_or h3, fun T hT h i hi => h4 T hT (fun j hj => ?_) i hi⟩
      rcases or_bit.mp hj with hj | hj
      · exact h j hj
      · obtain ⟨x, hx, q1, q2, q3⟩ := (nta_bit N g f set j).mp hj
        exact hT x j hx (h x q1) q2 q3
theorem pop_two : ∀ v, v < 9 → pop (2 ^ v) = 1 := by decide +kernel
theorem bit_two {v i : Nat} : (2 ^ v).testBit i = true ↔ v = i := by
  rw [Nat.testBit_two_pow, decide_eq_true_eq]
/-- the component is the least closed set that has v -/
theorem comp_spec {N : Nat} {g : Nat → Nat} (h9 : N ≤ 9) (hg : Gr N g) (set : Nat) {v : Nat} (hv : v < N) : clo N g set (bits (comp N g set v)) ∧ comp N g set v < 2 ^ N ∧ (comp N g set v).testBit v = true ∧ ∀ T : Nat → Prop, clo N g set T → T v → ∀ i, (comp N g set v).testBit i = true → T i := by
  obtain ⟨h1, h2, h3, h4⟩ := rchF_spec h9 hg set N (2 ^ v) (two_lt hv) (by rw [pop_two v (by omega)]; omega)
  exact ⟨h1, h2, h3 v (bit_two.mpr rfl), fun T hT h i hi => h4 T hT (fun j hj => (bit_two.mp hj) ▸ h) i hi⟩
theorem comp_uniq {N : Nat} {g : Nat → Nat} (h9 : N ≤ 9) (hg : Gr N g) (set : Nat) {v : Nat} (hv : v < N) {R : Nat} (h1 : clo N g set (bits R)) (h2 : R.testBit v = true) (h3 : ∀ T : Nat → Prop, clo N g set T → T v → ∀ i, R.testBit i = true → T i) : R = comp N g set v := by
  obtain ⟨c1, c2, c3, c4⟩ := comp_spec h9 hg set hv
  exact sub_antisymm (fun i hi => h3 _ c1 c3 i hi) (fun i hi => c4 _ h1 h2 i hi)
/-- the model's pass -/
def pasF (g : Nat → Nat) (set : Nat) : Nat → Nat → Nat → Nat
  | 0, _, R => R
  | k + 1, i, R => pasF g set k (i + 1) (if R.testBit i = true then R ||| (g i &&& set) else R)
def witF (N : Nat) (g : Nat → Nat) (set : Nat) : Nat → Nat → Nat
  | 0, R => R
  | k + 1, R => witF N g set k (pasF g set N 0 R)
theorem bI_1' {b : Bool} : bI b = 1 ↔ b = true := bI_1
theorem e_pasL {N : Nat} {g : Nat → Nat} {mr : Nat → Int32} (h9 : N ≤ 9) (hg : Gr N g) (hn : Hn N g mr) (set r : Nat) {X : Int32} : ∀ k i R, i + k = N → R < 2 ^ N → ev (fun n => mM_within N mr n 1 [nI set, nI (pasF g set k i R), nI (r + 1)]) X → ev (fun n => mM_within N mr n 2 [nI set, nI R, nI r, nI i]) X
  | 0, i, R, h, hR, hX => by
    refine ev_s (fun n => mM_within_e2 N mr n _ _ _ _) ?_
    refine ev_t (nI_le (by omega) (by omega)) ?_
    rw [nI_1]
    exact hX
  | k + 1, i, R, h, hR, hX => by
    refine ev_s (fun n => mM_within_e2 N mr n _ _ _ _) ?_
    refine ev_f (nI_ge (by omega) (by omega)) ?_
    rw [nx_bit (p31 h9 hR) (by omega)]
    unfold pasF at hX
    cases hb : R.testBit i
    · refine ev_f (by decide) ?_
      rw [nI_1]
      rw [if_neg (by rw [hb]; decide)] at hX
      exact e_pasL h9 hg hn set r k (i + 1) R (by omega) hR hX
    · refine ev_t (by decide) ?_
      refine ev_g (vp_in_nI (by omega) (by omega)) ?_
      refine ev_l ?_
      rw [hn.at h9 (by omega), nx_and, nx_or, nI_1]
      rw [if_pos hb] at hX
      exact e_pasL h9 hg hn set r k (i + 1) _ (by omega) (Nat.or_lt_two_pow hR (Nat.lt_of_le_of_lt Nat.and_le_left (hg.1 i (by omega)))) hX
theorem pasF_spec {N : Nat} {g : Nat → Nat} (hg : Gr N g) (set : Nat) : ∀ k i R, i + k ≤ N → R < 2 ^ N → pasF g set k i R < 2 ^ N ∧ sub R (pasF g set k i R) ∧ (pasF g set k i R = R → ∀ j, i ≤ j → j < i + k → R.testBit j = true → sub (g j &&& set) R) ∧ ∀ T : Nat → Prop, clo N g set T → (∀ x, R.testBit x = true → T x) → ∀ x, (pasF g set k i R).testBit x = true → T x
  | 0, i, R, h, hR => ⟨hR, sub_rfl R, fun _ j h1 h2 => by omega, fun T _ q x hx => q x hx⟩
  | k + 1, i, R, h, hR => by
    unfold pasF
    cases hb : R.testBit i
    · rw [if_neg (by decide)]
      obtain ⟨a1, a2, a3, a4⟩ := pasF_spec hg set k (i + 1) R (by omega) hR
      refine ⟨a1, a2, fun e j h1 h2 h3 => ?_, a4⟩
      by_cases q : j = i
      · rw [q, hb] at h3
        cases h3
      · exact a3 e j (by omega) (by omega) h3
    · rw [if_pos rfl]
      obtain ⟨a1, a2, a3, a4⟩ := pasF_spec hg set k (i + 1) (R ||| (g i &&& set)) (by omega) (Nat.or_lt_two_pow hR (Nat.lt_of_le_of_lt Nat.and_le_left (hg.1 i (by omega))))
      refine ⟨a1, sub_trans sub_or a2, fun e j h1 h2 h3 => ?_, fun T hT q x hx => a4 T hT (fun y hy => ?_) x hx⟩
      · have e2 : R ||| (g i &&& set) = R := sub_antisymm (by rw [e] at a2; exact a2) sub_or
        by_cases q : j = i
        · subst q
          intro x hx
          rw [← e2]
          exact or_bit.mpr (Or.inr hx)
        · rw [e2] at a3 e
          exact a3 e j (by omega) (by omega) h3
      · rcases or_bit.mp hy with hy | hy
        · exact q y hy
        · rw [Nat.testBit_and, Bool.and_eq_true] at hy
          exact hT i y (by omega) (q i hb) hy.1 hy.2
theorem witF_fix {N : Nat} {g : Nat → Nat} {set R : Nat} (h : pasF g set N 0 R = R) : ∀ k, witF N g set k R = R
  | 0 => rfl
  | k + 1 => by
    unfold witF
    rw [h]
    exact witF_fix h k
theorem witF_spec {N : Nat} {g : Nat → Nat} (h9 : N ≤ 9) (hg : Gr N g) (set : Nat) : ∀ k R, R < 2 ^ N → 9 < k + pop R → clo N g set (bits (witF N g set k R)) ∧ sub R (witF N g set k R) ∧ ∀ T : Nat → Prop, clo N g set T → (∀ x, R.testBit x = true → T x) → ∀ x, (witF N g set k R).testBit x = true → T x
  | 0, R, hR, hk => absurd (pop_le9 R) (by omega)
  | k + 1, R, hR, hk => by
    obtain ⟨a1, a2, a3, a4⟩ := pasF_spec hg set N 0 R (by omega) hR
    by_cases e : pasF g set N 0 R = R
    · have h1 := witF_fix e (k + 1)
      rw [h1]
      refine ⟨fun i j hi q1 q2 q3 => a3 e i (by omega) (by omega) q1 j (by rw [Nat.testBit_and, q2, q3]; rfl), sub_rfl R, fun T _ q x hx => q x hx⟩
    · unfold witF
      have hp := pop_lt a2 (fun q => e q.symm) (p512 h9 a1)
      obtain ⟨b1, b2, b3⟩ := witF_spec h9 hg set k _ a1 (by omega)
      exact ⟨b1, sub_trans a2 b2, fun T hT q x hx => b3 T hT (fun y hy => a4 T hT q y hy) x hx⟩
theorem e_witL {N : Nat} {g : Nat → Nat} {mr : Nat → Int32} (h9 : N ≤ 9) (hg : Gr N g) (hn : Hn N g mr) (set : Nat) : ∀ k r R, r + k = 9 → R < 2 ^ N → ev (fun n => mM_within N mr n 1 [nI set, nI R, nI r]) (nI (witF N g set k R))
  | 0, r, R, h, hR => by
    refine ev_s (fun n => mM_within_e1 N mr n _ _ _) ?_
    rw [show r = 9 by omega]
    exact ev_t (by decide) (ev_p _)
  | k + 1, r, R, h, hR => by
    refine ev_s (fun n => mM_within_e1 N mr n _ _ _) ?_
    refine ev_f (fun q => absurd ((nI_leI (a := 9) (b := r) (by omega) (by omega)).mp q) (by omega)) ?_
    exact e_pasL h9 hg hn set r N 0 R (by omega) hR (e_witL h9 hg hn set k (r + 1) _ (by omega) (pasF_spec hg set N 0 R (by omega) hR).1)
theorem e_within {N : Nat} {g : Nat → Nat} {mr : Nat → Int32} (h9 : N ≤ 9) (hg : Gr N g) (hn : Hn N g mr) (set : Nat) {v : Nat} (hv : v < N) : ev (fun n => mM_within N mr n 0 [nI v, nI set]) (nI (comp N g set v)) := by
  refine ev_s (fun n => mM_within_e0 N mr n _ _) ?_
  refine ev_l ?_
  rw [nx_shl (by omega)]
  obtain ⟨b1, b2, b3⟩ := witF_spec h9 hg set 9 (2 ^ v) (two_lt hv) (by rw [pop_two v (by omega)]; omega)
  rw [← comp_uniq h9 hg set hv b1 (b2 v (bit_two.mpr rfl)) (fun T hT h => b3 T hT (fun x hx => (bit_two.mp hx) ▸ h))]
  exact e_witL h9 hg hn set 9 0 _ rfl (two_lt hv)
