/-! what an obstruction looks like -/
section SHAPE
variable {N : Nat} {g : Nat → Nat}
theorem obF_min (h9 : N ≤ 9) (hg : Gr N g) : ∀ k x K, x + k = N → K < 2 ^ N → Conf (Ad N g) (bits K) → sub (obF N g k x K) K ∧ obF N g k x K < 2 ^ N ∧ Conf (Ad N g) (bits (obF N g k x K)) ∧ ∀ v, x ≤ v → v < N → (obF N g k x K).testBit v = true → ¬ Conf (Ad N g) (bits (dif (obF N g k x K) (2 ^ v)))
  | 0, x, K, h, hK, c => ⟨sub_rfl K, hK, c, fun v h1 h2 => by omega⟩
  | k + 1, x, K, h, hK, c => by
    unfold obF
    by_cases hf : fine N g (dif K (2 ^ x)) = true
    · rw [if_pos hf]
      obtain ⟨a1, a2, a3, a4⟩ := obF_min h9 hg k (x + 1) K (by omega) hK c
      refine ⟨a1, a2, a3, fun v h1 h2 h3 => ?_⟩
      by_cases e : v = x
      · intro q
        rw [e] at q
        exact fine_conf h9 hg (dif_lt _ hK) hf (Conf_mono (fun y hy => bit_dif2.mpr ⟨a1 y (bit_dif2.mp hy).1, (bit_dif2.mp hy).2⟩) q)
      · exact a4 v (by omega) h2 h3
    · rw [if_neg hf]
      have c2 : Conf (Ad N g) (bits (dif K (2 ^ x))) := Classical.byContradiction (fun q => hf (conf_fine h9 hg (dif_lt _ hK) q))
      obtain ⟨a1, a2, a3, a4⟩ := obF_min h9 hg k (x + 1) (dif K (2 ^ x)) (by omega) (dif_lt _ hK) c2
      refine ⟨fun y hy => (bit_dif2.mp (a1 y hy)).1, a2, a3, fun v h1 h2 h3 => ?_⟩
      by_cases e : v = x
      · exact absurd e (bit_dif2.mp (a1 v h3)).2
      · exact a4 v (by omega) h2 h3
def img (e : Nat → Nat) : Nat → Nat
  | 0 => 0
  | k + 1 => img e k ||| 2 ^ e k
theorem img_bit (e : Nat → Nat) (v : Nat) : ∀ k, (img e k).testBit v = true ↔ ∃ i, i < k ∧ e i = v
  | 0 => by
    unfold img
    rw [Nat.zero_testBit]
    exact ⟨(fun h => by cases h), (fun ⟨i, h, _⟩ => by omega)⟩
  | k + 1 => by
    unfold img
    rw [Nat.testBit_or, Bool.or_eq_true, img_bit e v k]
    constructor
    · rintro (⟨i, h1, h2⟩ | h)
      · exact ⟨i, by omega, h2⟩
      · exact ⟨k, by omega, bit_two.mp h⟩
    · rintro ⟨i, h1, h2⟩
      by_cases q : i = k
      · rw [q] at h2
        exact Or.inr (bit_two.mpr h2)
      · exact Or.inl ⟨i, by omega, h2⟩
theorem pop_add1 : ∀ s, s < 512 → ∀ x, x < 9 → s.testBit x = false → pop (s ||| 2 ^ x) = pop s + 1 := by decide +kernel
theorem img_lt {e : Nat → Nat} : ∀ k, (∀ i, i < k → e i < 9) → img e k < 512
  | 0, _ => by unfold img; decide
  | k + 1, h => by
    unfold img
    have a := img_lt k (fun i hi => h i (by omega))
    have b : 2 ^ e k < 2 ^ 9 := Nat.pow_lt_pow_right (by decide) (h k (by omega))
    exact Nat.or_lt_two_pow (n := 9) a b
theorem img_pop {e : Nat → Nat} : ∀ k, (∀ i, i < k → e i < 9) → (∀ i j, i < k → j < k → e i = e j → i = j) → pop (img e k) = k
  | 0, _, _ => by unfold img; exact pop0
  | k + 1, h, inj => by
    unfold img
    rw [pop_add1 _ (img_lt k (fun i hi => h i (by omega))) (e k) (h k (by omega)) ?_, img_pop k (fun i hi => h i (by omega)) (fun i j hi hj => inj i j (by omega) (by omega))]
    cases hb : (img e k).testBit (e k)
    · rfl
    · obtain ⟨i, h1, h2⟩ := (img_bit e (e k) k).mp hb
      have := inj i k (by omega) (by omega) h2
      omega
theorem edF_cyc {S : Nat} (h : ∀ v, S.testBit v = true → pop (g v &&& S) = 2) : ∀ k i, edF g S k i (2 * popF S i) = 2 * popF S (i + k)
  | 0, i => rfl
  | k + 1, i => by
    unfold edF
    have q := edF_cyc h k (i + 1)
    have e : 2 * popF S i + wS g S i = 2 * popF S (i + 1) := by
      unfold wS
      show 2 * popF S i + (if S.testBit i = true then pop (g i &&& S) else 0) = 2 * (popF S i + (if S.testBit i = true then 1 else 0))
      by_cases hb : S.testBit i = true
      · rw [if_pos hb, if_pos hb, h i hb]; omega
      · rw [if_neg hb, if_neg hb]; omega
    rw [e, q, show i + 1 + k = i + (k + 1) by omega]
theorem popF_cyc {S : Nat} (hS : S < 2 ^ N) : ∀ d, popF S (N + d) = popF S N
  | 0 => rfl
  | d + 1 => by
    rw [← Nat.add_assoc]
    show popF S (N + d) + (if S.testBit (N + d) = true then 1 else 0) = popF S N
    rw [if_neg (fun h => by have := bit_lt hS h; omega), popF_cyc hS d, Nat.add_zero]
theorem obs_shape (h9 : N ≤ 9) (hg : Gr N g) {c : Nat} (hc : c < 2 ^ N) (hf : fine N g c = false) : ends N g (obs N g c) / 2 = pop (obs N g c) ∨ pop (obs N g c) = 5 ∨ pop (obs N g c) = 6 := by
  have c0 : Conf (Ad N g) (bits c) := Classical.byContradiction (fun q => by
    rw [conf_fine h9 hg hc q] at hf
    cases hf)
  obtain ⟨-, hlt, cf, hmin⟩ := obF_min h9 hg N 0 c (by omega) hc c0
  show ends N g (obF N g N 0 c) / 2 = pop (obF N g N 0 c) ∨ pop (obF N g N 0 c) = 5 ∨ pop (obF N g N 0 c) = 6
  generalize obF N g N 0 c = K at hlt cf hmin
  obtain ⟨k, a, b, e, ht, hS, inj, ad⟩ := cf
  have heN : ∀ i, i < k → e i < N := fun i hi => bit_lt hlt (hS i hi)
  have hK : ∀ v, K.testBit v = true → ∃ i, i < k ∧ e i = v := fun v hv => Classical.byContradiction (fun q => hmin v (Nat.zero_le _) (bit_lt hlt hv) hv ⟨k, a, b, e, ht, fun i hi => bit_dif2.mpr ⟨hS i hi, fun r => q ⟨i, hi, r⟩⟩, inj, ad⟩)
  have eK : K = img e k := by
    apply sub_antisymm
    · intro v hv
      exact (img_bit e v k).mpr (hK v hv)
    · intro v hv
      obtain ⟨i, h1, h2⟩ := (img_bit e v k).mp hv
      rw [← h2]
      exact hS i h1
  have hp : pop K = k := by
    rw [eK]
    exact img_pop k (fun i hi => by have := heN i hi; omega) inj
  rw [hp]
  rcases ht with ⟨h5, rfl, rfl⟩ | ⟨rfl, -⟩ | ⟨rfl, -, -⟩
  · refine Or.inl ?_
    have h2 : ∀ v, K.testBit v = true → pop (g v &&& K) = 2 := by
      intro v hv
      obtain ⟨i, hi, ei⟩ := hK v hv
      obtain ⟨j1, hj1⟩ : ∃ j, j = if i + 1 = k then 0 else i + 1 := ⟨_, rfl⟩
      obtain ⟨j2, hj2⟩ : ∃ j, j = if i = 0 then k - 1 else i - 1 := ⟨_, rfl⟩
      have q1 : (i + 1 = k ∧ j1 = 0) ∨ (i + 1 ≠ k ∧ j1 = i + 1) := by
        by_cases q : i + 1 = k
        · rw [if_pos q] at hj1; exact Or.inl ⟨q, hj1⟩
        · rw [if_neg q] at hj1; exact Or.inr ⟨q, hj1⟩
      have q2 : (i = 0 ∧ j2 = k - 1) ∨ (i ≠ 0 ∧ j2 = i - 1) := by
        by_cases q : i = 0
        · rw [if_pos q] at hj2; exact Or.inl ⟨q, hj2⟩
        · rw [if_neg q] at hj2; exact Or.inr ⟨q, hj2⟩
      have ht2 : ∀ j, j < k → (tm k 1 1 i j ↔ (j = j1 ∨ j = j2)) := fun j hj => by
        unfold tm
        omega
      have hvN := bit_lt hlt hv
      have eS : g v &&& K = img (fun m => if m = 0 then e j1 else e j2) 2 := by
        apply sub_antisymm
        · intro u hu
          obtain ⟨h3, h4⟩ := (Ad_and hlt hvN).mp hu
          obtain ⟨j, hj, ej⟩ := hK u h3
          rw [← ei, ← ej] at h4
          have h4 := (ht2 j hj).mp ((ad i j hi hj).mp h4)
          refine (img_bit _ u 2).mpr ?_
          rcases h4 with r | r
          · exact ⟨0, by omega, by rw [← ej, r]; rfl⟩
          · exact ⟨1, by omega, by rw [← ej, r]; rfl⟩
        · intro u hu
          obtain ⟨m, h3, h4⟩ := (img_bit _ u 2).mp hu
          have key : ∀ j, j < k → (j = j1 ∨ j = j2) → (g v &&& K).testBit (e j) = true := fun j hj r => (Ad_and hlt hvN).mpr ⟨hS j hj, by
            rw [← ei]
            exact (ad i j hi hj).mpr ((ht2 j hj).mpr r)⟩
          rcases (show m = 0 ∨ m = 1 by omega) with r | r
          · rw [r] at h4
            have h4 : e j1 = u := h4
            rw [← h4]
            exact key j1 (by omega) (Or.inl rfl)
          · rw [r] at h4
            have h4 : e j2 = u := h4
            rw [← h4]
            exact key j2 (by omega) (Or.inr rfl)
      rw [eS]
      have l1 := heN j1 (by omega)
      have l2 := heN j2 (by omega)
      have hne : e j1 ≠ e j2 := fun r => by
        have := inj j1 j2 (by omega) (by omega) r
        omega
      refine img_pop 2 ?_ ?_
      · intro m hm
        rcases (show m = 0 ∨ m = 1 by omega) with r | r
        · rw [r]; show e j1 < 9; omega
        · rw [r]; show e j2 < 9; omega
      · intro m m' hm hm' q
        rcases (show m = 0 ∨ m = 1 by omega) with r | r <;> rcases (show m' = 0 ∨ m' = 1 by omega) with r' | r'
        · omega
        · rw [r, r'] at q; exact absurd q hne
        · rw [r, r'] at q; exact absurd q.symm hne
        · omega
    have q := edF_cyc h2 N 0
    have e2 : ends N g K = 2 * popF K N := by
      unfold ends
      rw [Nat.zero_add] at q
      exact q
    have e3 : pop K = popF K N := by
      unfold pop
      have := popF_cyc hlt (9 - N)
      rw [show N + (9 - N) = 9 by omega] at this
      exact this
    rw [e2, ← e3, hp]
    omega
  · exact Or.inr (Or.inl rfl)
  · exact Or.inr (Or.inr rfl)
end SHAPE
