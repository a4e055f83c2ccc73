/-! fine, against configurations -/
theorem tm_deg {k a b i : Nat} (h : Tm k a b) (hi : i < k) : ∃ j j', j < k ∧ j' < k ∧ j ≠ j' ∧ tm k a b i j ∧ tm k a b i j' := by
  have h5 : 5 ≤ k := by unfold Tm at h; omega
  by_cases e1 : i + 1 = k
  · exact ⟨0, i - 1, by omega, by omega, by omega, by unfold tm; omega, by unfold tm; omega⟩
  · by_cases e2 : i = 0
    · exact ⟨1, k - 1, by omega, by omega, by omega, by unfold tm; omega, by unfold tm; omega⟩
    · exact ⟨i + 1, i - 1, by omega, by omega, by omega, by unfold tm; omega, by unfold tm; omega⟩
def tmB (k a b i j : Nat) : Bool := decide (j = i + 1) || (decide (i = j + 1) || ((decide (i = 0) && (decide (j + 1 = k) || (decide (j = a) || decide (j = b)))) || (decide (j = 0) && (decide (i + 1 = k) || (decide (i = a) || decide (i = b))))))
theorem tmB_iff {k a b i j : Nat} : tmB k a b i j = true ↔ tm k a b i j := by
  unfold tmB tm
  simp only [Bool.or_eq_true, Bool.and_eq_true, decide_eq_true_iff]
def tmD (k a b : Nat) : Prop := ∀ i, i < k → ∀ j, j < k → i ≠ j → ((List.range k).any fun m => decide (m ≠ i) && (decide (m ≠ j) && (tmB k a b i m != tmB k a b j m))) = true
theorem tmD_use {k a b i j : Nat} (h : tmD k a b) (hi : i < k) (hj : j < k) (hij : i ≠ j) : ∃ m, m < k ∧ m ≠ i ∧ m ≠ j ∧ ¬ (tm k a b i m ↔ tm k a b j m) := by
  obtain ⟨m, h1, h2⟩ := List.any_eq_true.mp (h i hi j hj hij)
  rw [Bool.and_eq_true, Bool.and_eq_true, decide_eq_true_iff, decide_eq_true_iff] at h2
  refine ⟨m, List.mem_range.mp h1, h2.1, h2.2.1, fun q => ?_⟩
  rw [← tmB_iff, ← tmB_iff] at q
  have e : tmB k a b i m = tmB k a b j m := Bool.eq_iff_iff.mpr q
  have h3 := h2.2.2
  rw [e] at h3
  simp at h3
theorem tm_522 : tmD 5 2 2 := by unfold tmD; decide +kernel
theorem tm_533 : tmD 5 3 3 := by unfold tmD; decide +kernel
theorem tm_523 : tmD 5 2 3 := by unfold tmD; decide +kernel
theorem tm_633 : tmD 6 3 3 := by unfold tmD; decide +kernel
theorem tm_cyc {k i j : Nat} (h5 : 5 ≤ k) (hj : j < k) (h : i < j) : ∃ m, m < k ∧ m ≠ i ∧ m ≠ j ∧ tm k 1 1 i m ∧ ¬ tm k 1 1 j m := by
  by_cases c : i + 3 ≤ j
  · exact ⟨i + 1, by omega, by omega, by omega, by unfold tm; omega, by unfold tm; omega⟩
  · by_cases e : i = 0
    · exact ⟨k - 1, by omega, by omega, by omega, by unfold tm; omega, by unfold tm; omega⟩
    · exact ⟨i - 1, by omega, by omega, by omega, by unfold tm; omega, by unfold tm; omega⟩
theorem tm_tw {k a b i j : Nat} (h : Tm k a b) (hi : i < k) (hj : j < k) (hij : i ≠ j) : ∃ m, m < k ∧ m ≠ i ∧ m ≠ j ∧ ¬ (tm k a b i m ↔ tm k a b j m) := by
  rcases h with ⟨h5, rfl, rfl⟩ | ⟨rfl, ⟨rfl, rfl⟩ | ⟨rfl, rfl⟩ | ⟨rfl, rfl⟩⟩ | ⟨rfl, rfl, rfl⟩
  · by_cases c : i < j
    · obtain ⟨m, a1, a2, a3, a4, a5⟩ := tm_cyc h5 hj c
      exact ⟨m, a1, a2, a3, fun q => a5 (q.mp a4)⟩
    · obtain ⟨m, a1, a2, a3, a4, a5⟩ := tm_cyc h5 hi (show j < i by omega)
      exact ⟨m, a1, a3, a2, fun q => a5 (q.mpr a4)⟩
  · exact tmD_use tm_522 hi hj hij
  · exact tmD_use tm_533 hi hj hij
  · exact tmD_use tm_523 hi hj hij
  · exact tmD_use tm_633 hi hj hij
/-- a leaf or a twin may go -/
theorem Conf_swap {A : Nat → Nat → Prop} (sy : ∀ x y, A x y → A y x) (ir : ∀ x, ¬ A x x) {T : Nat → Prop} {x : Nat} (h : (∀ y y', T y → T y' → A x y → A x y' → y = y') ∨ ∃ z, twinIn A T x z) (c : Conf A T) : Conf A (fun y => T y ∧ y ≠ x) := by
  obtain ⟨k, a, b, e, ht, hS, inj, ad⟩ := c
  by_cases hx : ∃ i, i < k ∧ e i = x
  · obtain ⟨i, hi, ei⟩ := hx
    rcases h with h | ⟨z, hxT, hz, hxz, htw⟩
    · exfalso
      obtain ⟨j, j', a1, a2, a3, a4, a5⟩ := tm_deg ht hi
      have q1 := (ad i j hi a1).mpr a4
      have q2 := (ad i j' hi a2).mpr a5
      rw [ei] at q1 q2
      exact a3 (inj j j' a1 a2 (h _ _ (hS j a1) (hS j' a2) q1 q2))
    · by_cases hzi : ∃ j, j < k ∧ e j = z
      · exfalso
        obtain ⟨j, hj, ej⟩ := hzi
        have hij : i ≠ j := fun q => hxz (by rw [← ei, ← ej, q])
        obtain ⟨m, a1, a2, a3, a4⟩ := tm_tw ht hi hj hij
        apply a4
        rw [← ad i m hi a1, ← ad j m hj a1, ei, ej]
        exact htw (e m) (hS m a1) (fun q => a2 (inj m i a1 hi (by rw [q, ei]))) (fun q => a3 (inj m j a1 hj (by rw [q, ej])))
      · refine ⟨k, a, b, fun m => if m = i then z else e m, ht, ?_, ?_, ?_⟩
        · intro m hm
          show T (if m = i then z else e m) ∧ (if m = i then z else e m) ≠ x
          by_cases q : m = i
          · rw [if_pos q]; exact ⟨hz, fun r => hxz r.symm⟩
          · rw [if_neg q]; exact ⟨hS m hm, fun r => q (inj m i hm hi (by rw [r, ei]))⟩
        · intro m m' hm hm' q
          have q : (if m = i then z else e m) = (if m' = i then z else e m') := q
          by_cases q1 : m = i
          · by_cases q2 : m' = i
            · omega
            · rw [if_pos q1, if_neg q2] at q
              exact absurd ⟨m', hm', q.symm⟩ hzi
          · by_cases q2 : m' = i
            · rw [if_neg q1, if_pos q2] at q
              exact absurd ⟨m, hm, q⟩ hzi
            · rw [if_neg q1, if_neg q2] at q
              exact inj m m' hm hm' q
        · have key : ∀ m, m < k → m ≠ i → (A z (e m) ↔ tm k a b i m) := fun m hm q => by
            rw [← ad i m hi hm, ei]
            exact (htw (e m) (hS m hm) (fun r => q (inj m i hm hi (by rw [r, ei]))) (fun r => hzi ⟨m, hm, r⟩)).symm
          intro m m' hm hm'
          show A (if m = i then z else e m) (if m' = i then z else e m') ↔ _
          by_cases q1 : m = i
          · by_cases q2 : m' = i
            · rw [if_pos q1, if_pos q2, q1, q2, ← ad i i hi hi]
              exact ⟨fun r => absurd r (ir _), fun r => absurd r (ir _)⟩
            · rw [if_pos q1, if_neg q2, q1]
              exact key m' hm' q2
          · by_cases q2 : m' = i
            · rw [if_neg q1, if_pos q2, q2, show A (e m) z ↔ A z (e m) from ⟨sy _ _, sy _ _⟩, key m hm q1, ← ad i m hi hm, ← ad m i hm hi]
              exact ⟨sy _ _, sy _ _⟩
            · rw [if_neg q1, if_neg q2]
              exact ad m m' hm hm'
  · exact ⟨k, a, b, e, ht, fun i hi => ⟨hS i hi, fun q => hx ⟨i, hi, q⟩⟩, inj, ad⟩
def Ad (N : Nat) (g : Nat → Nat) (u v : Nat) : Prop := u < N ∧ v < N ∧ (g u).testBit v = true
section LINK
variable {N : Nat} {g : Nat → Nat}
theorem Ad_sy (hg : Gr N g) (x y : Nat) (h : Ad N g x y) : Ad N g y x := ⟨h.2.1, h.1, by rw [hg.2.1 y x h.2.1 h.1]; exact h.2.2⟩
theorem Ad_ir (hg : Gr N g) (x : Nat) : ¬ Ad N g x x := fun h => by
  have := h.2.2
  rw [hg.2.2 x h.1] at this
  cases this
theorem Ad_and {L x y : Nat} (hL : L < 2 ^ N) (hx : x < N) : (g x &&& L).testBit y = true ↔ L.testBit y = true ∧ Ad N g x y := by
  rw [and_bit]
  exact ⟨fun h => ⟨h.2, hx, bit_lt hL h.2, h.1⟩, fun h => ⟨h.2.2.2, h.1⟩⟩
theorem bit_dif2 {L x y : Nat} : (dif L (2 ^ x)).testBit y = true ↔ L.testBit y = true ∧ y ≠ x := by
  rw [dif_bit, Bool.and_eq_true]
  constructor
  · rintro ⟨h1, h2⟩
    refine ⟨h1, fun e => ?_⟩
    rw [e, bit_two.mpr rfl] at h2
    cases h2
  · rintro ⟨h1, h2⟩
    refine ⟨h1, ?_⟩
    cases hb : (2 ^ x).testBit y
    · rfl
    · exact absurd (bit_two.mp hb).symm h2
theorem bit_difxy {L x z y : Nat} (h1 : y ≠ x) (h2 : y ≠ z) : (dif L (2 ^ x ||| 2 ^ z)).testBit y = L.testBit y := by
  rw [dif_bit, Nat.testBit_or]
  have e1 : (2 ^ x).testBit y = false := by
    cases hb : (2 ^ x).testBit y
    · rfl
    · exact absurd (bit_two.mp hb).symm h1
  have e2 : (2 ^ z).testBit y = false := by
    cases hb : (2 ^ z).testBit y
    · rfl
    · exact absurd (bit_two.mp hb).symm h2
  rw [e1, e2]
  simp
theorem tw_twin (hg : Gr N g) {L x z : Nat} (hL : L < 2 ^ N) (hx : L.testBit x = true) : tw g L x z = true ↔ twinIn (Ad N g) (bits L) x z := by
  have hxN := bit_lt hL hx
  unfold tw
  rw [Bool.and_eq_true, Bool.and_eq_true, decide_eq_true_iff, decide_eq_true_iff]
  constructor
  · rintro ⟨h1, h2, h3⟩
    have hzN := bit_lt hL h2
    refine ⟨hx, h2, fun e => h1 e.symm, fun y hy hyx hyz => ?_⟩
    have q : (dif (g x &&& L) (2 ^ x ||| 2 ^ z)).testBit y = (dif (g z &&& L) (2 ^ x ||| 2 ^ z)).testBit y := by rw [h3]
    rw [bit_difxy hyx hyz, bit_difxy hyx hyz] at q
    have a1 := Ad_and (g := g) (y := y) hL hxN
    have a2 := Ad_and (g := g) (y := y) hL hzN
    exact ⟨fun r => (a2.mp (by rw [← q]; exact a1.mpr ⟨hy, r⟩)).2, fun r => (a1.mp (by rw [q]; exact a2.mpr ⟨hy, r⟩)).2⟩
  · rintro ⟨-, h2, h3, h4⟩
    have hzN := bit_lt hL h2
    refine ⟨fun e => h3 e.symm, h2, Nat.eq_of_testBit_eq (fun y => ?_)⟩
    have cut : ∀ s, (dif s (2 ^ x ||| 2 ^ z)).testBit x = false ∧ (dif s (2 ^ x ||| 2 ^ z)).testBit z = false := fun s => by
      rw [dif_bit, dif_bit, Nat.testBit_or, Nat.testBit_or, bit_two.mpr rfl, bit_two.mpr rfl]
      simp
    by_cases e1 : y = x
    · rw [e1, (cut _).1, (cut _).1]
    by_cases e2 : y = z
    · rw [e2, (cut _).2, (cut _).2]
    rw [bit_difxy e1 e2, bit_difxy e1 e2]
    have a1 := Ad_and (g := g) (y := y) hL hxN
    have a2 := Ad_and (g := g) (y := y) hL hzN
    apply Bool.eq_iff_iff.mpr
    rw [a1, a2]
    exact ⟨fun r => ⟨r.1, (h4 y r.1 e1 e2).mp r.2⟩, fun r => ⟨r.1, (h4 y r.1 e1 e2).mpr r.2⟩⟩
theorem way_swap (h9 : N ≤ 9) (hg : Gr N g) {L x w : Nat} (hL : L < 2 ^ N) (hx : L.testBit x = true) (h : way N g L x = some w) (c : Conf (Ad N g) (bits L)) : Conf (Ad N g) (bits (dif L (2 ^ x))) := by
  have hxN := bit_lt hL hx
  refine Conf_mono (fun y hy => bit_dif2.mpr hy) (Conf_swap (Ad_sy hg) (Ad_ir hg) (x := x) ?_ c)
  unfold way at h
  by_cases hp : pop (g x &&& L) = 1
  · refine Or.inl (fun y y' hy hy' a a' => Classical.byContradiction (fun ne => ?_))
    have := pop_ge2 (p512 h9 (own_lt hg hxN L)) ((Ad_and hL hxN).mpr ⟨hy', a'⟩) ((Ad_and hL hxN).mpr ⟨hy, a⟩) ne
    omega
  · rw [if_neg hp] at h
    obtain ⟨-, z, -, hz⟩ := tsF_lt N 0 h
    exact Or.inr ⟨z, (tw_twin hg hL hx).mp hz⟩
theorem elF_conf (h9 : N ≤ 9) (hg : Gr N g) : ∀ k L, L < 2 ^ N → Conf (Ad N g) (bits L) → Conf (Ad N g) (bits (elF N g k L).2)
  | 0, L, hL, c => c
  | k + 1, L, hL, c => by
    unfold elF
    cases hx : nx N g L with
    | none => exact c
    | some p =>
      obtain ⟨x, w⟩ := p
      obtain ⟨a1, a2, a3, a4, a5⟩ := nxF_some h9 hg hL N hx
      exact elF_conf h9 hg k _ (dif_lt _ hL) (way_swap h9 hg hL a2 a3 c)
theorem conf_pop (h9 : N ≤ 9) {L : Nat} (hL : L < 2 ^ N) (c : Conf (Ad N g) (bits L)) : 2 ≤ pop L := by
  obtain ⟨k, a, b, e, ht, hS, inj, ad⟩ := c
  have h5 : 5 ≤ k := by unfold Tm at ht; omega
  exact pop_ge2 (p512 h9 hL) (hS 0 (by omega)) (hS 1 (by omega)) (fun q => by
    have := inj 1 0 (by omega) (by omega) q
    omega)
theorem fine_conf (h9 : N ≤ 9) (hg : Gr N g) {S : Nat} (hS : S < 2 ^ N) (hf : fine N g S = true) : ¬ Conf (Ad N g) (bits S) := by
  intro c
  obtain ⟨k, a, b, e, ht, hSe, inj, ad⟩ := c
  have h5 : 5 ≤ k := by unfold Tm at ht; omega
  have h0 : S.testBit (e 0) = true := hSe 0 (by omega)
  have h0N := bit_lt hS h0
  obtain ⟨c1, c2, c3, c4⟩ := comp_spec h9 hg S h0N
  have hin : ∀ i, i < k → (comp N g S (e 0)).testBit (e i) = true := by
    intro i
    induction i with
    | zero => intro _; exact c3
    | succ i ih =>
      intro hi
      have q := (ad i (i + 1) (by omega) hi).mpr (by unfold tm; omega)
      exact c1 (e i) (e (i + 1)) q.1 (ih (by omega)) q.2.2 (hSe (i + 1) hi)
  have cc : Conf (Ad N g) (bits (comp N g S (e 0))) := ⟨k, a, b, e, ht, hin, inj, ad⟩
  have hh := (fine_iff N g S).mp hf (e 0) h0N h0
  unfold hd at hh
  have hh := of_decide_eq_true hh
  have q := elF_conf h9 hg 9 _ c2 cc
  have hlt : (elF N g 9 (comp N g S (e 0))).2 < 2 ^ N := (elF_pos h9 hg 9 _ c2 (by have := conf_pop h9 c2 cc; omega)).2.1
  have := conf_pop h9 hlt q
  unfold elim at hh
  omega
theorem pop2 {L : Nat} (hL : L < 512) (h : 2 ≤ pop L) : ∃ x y, L.testBit x = true ∧ L.testBit y = true ∧ x ≠ y := by
  obtain ⟨x, hx⟩ := ne0_bit (pop_ne0 (s := L) (by omega))
  have hx9 := bit_lt (N := 9) hL hx
  have hs : sub (2 ^ x) L := fun i hi => (bit_two.mp hi) ▸ hx
  obtain ⟨y, h1, h2⟩ := ex_of_ne hs (fun e => by rw [← e, pop_two x hx9] at h; omega)
  exact ⟨x, y, hx, h2, fun e => by rw [← e, bit_two.mpr rfl] at h1; cases h1⟩
theorem tsF_some {L x z : Nat} (h : tw g L x z = true) : ∀ k y, y ≤ z → z < y + k → ∃ w, tsF g L x k y = some w
  | 0, y, h1, h2 => by omega
  | k + 1, y, h1, h2 => by
    unfold tsF
    by_cases ht : tw g L x y = true
    · rw [if_pos ht]; exact ⟨_, rfl⟩
    · rw [if_neg ht]
      have : y ≠ z := fun e => ht (by rw [e]; exact h)
      exact tsF_some h k (y + 1) (by omega) (by omega)
theorem nxF_ne {L x w : Nat} (hx : L.testBit x = true) (hw : way N g L x = some w) : ∀ k, x < k → nxF N g L k ≠ none
  | 0, h => by omega
  | k + 1, h => by
    unfold nxF
    by_cases e : x = k
    · subst e
      rw [if_pos hx, hw]
      exact fun q => by cases q
    · have := nxF_ne hx hw k (by omega)
      by_cases hb : L.testBit k = true
      · rw [if_pos hb]
        cases way N g L k with
        | none => exact this
        | some w2 => exact fun q => by cases q
      · rw [if_neg hb]; exact this
theorem stuck (h9 : N ≤ 9) (hg : Gr N g) {L : Nat} (hL : L < 2 ^ N) (nc : ¬ Conf (Ad N g) (bits L)) (h2 : 2 ≤ pop L) : nx N g L ≠ none := by
  have hex : ∃ x w, L.testBit x = true ∧ way N g L x = some w := by
    rcases leaf_or_twin (n := N) (Ad_sy hg) (Ad_ir hg) _ (bits L) (Nat.lt_succ_self _) (fun x h => bit_lt hL h) nc (pop2 (p512 h9 hL) h2) with ⟨x, hx, z, hz, xz, hu⟩ | ⟨x, z, ht⟩
    · have hxN := bit_lt hL hx
      have e : g x &&& L = 2 ^ z := by
        apply sub_antisymm
        · intro y hy
          have q := (Ad_and hL hxN).mp hy
          exact bit_two.mpr (hu y q.1 q.2).symm
        · intro y hy
          rw [← bit_two.mp hy]
          exact (Ad_and hL hxN).mpr ⟨hz, xz⟩
      refine ⟨x, least (g x &&& L), hx, ?_⟩
      unfold way
      have hz9 := bit_lt hL hz
      rw [if_pos (by rw [e]; exact pop_two z (by omega))]
    · have hx := ht.1
      have hz := ht.2.1
      unfold way
      refine ⟨x, ?_⟩
      by_cases hp : pop (g x &&& L) = 1
      · rw [if_pos hp]; exact ⟨_, hx, rfl⟩
      · rw [if_neg hp]
        obtain ⟨w, hw⟩ := tsF_some ((tw_twin hg hL hx).mpr ht) N 0 (Nat.zero_le _) (by have := bit_lt hL hz; omega)
        exact ⟨w, hx, hw⟩
  obtain ⟨x, w, hx, hw⟩ := hex
  exact nxF_ne hx hw N (bit_lt hL hx)
theorem elF_small (h9 : N ≤ 9) (hg : Gr N g) : ∀ k L, L < 2 ^ N → pop L ≤ k + 1 → ¬ Conf (Ad N g) (bits L) → pop (elF N g k L).2 ≤ 1
  | 0, L, hL, hp, nc => hp
  | k + 1, L, hL, hp, nc => by
    unfold elF
    cases hx : nx N g L with
    | none =>
      by_cases h2 : 2 ≤ pop L
      · exact absurd hx (stuck h9 hg hL nc h2)
      · show pop L ≤ 1
        omega
    | some p =>
      obtain ⟨x, w⟩ := p
      obtain ⟨a1, a2, a3, a4, a5⟩ := nxF_some h9 hg hL N hx
      have := dif_pop (p512 h9 hL) a2
      show pop (elF N g k (dif L (2 ^ x))).2 ≤ 1
      exact elF_small h9 hg k _ (dif_lt _ hL) (by omega) (fun c => nc (Conf_mono (fun y hy => (bit_dif2.mp hy).1) c))
theorem conf_fine (h9 : N ≤ 9) (hg : Gr N g) {S : Nat} (hS : S < 2 ^ N) (nc : ¬ Conf (Ad N g) (bits S)) : fine N g S = true := by
  rw [fine_iff]
  intro v hv hb
  have hlt := (comp_spec h9 hg S hv).2.1
  unfold hd elim
  apply decide_eq_true
  exact elF_small h9 hg 9 _ hlt (by have := pop_le9 (comp N g S v); omega) (fun c => nc (Conf_mono (fun y hy => comp_subS h9 hg hv hb y hy) c))
end LINK
