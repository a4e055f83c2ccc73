/-! Covers by cliques: what both programs count -/
def clq (g : Nat → Nat) (t : Nat) : Prop := ∀ x y, t.testBit x = true → t.testBit y = true → x ≠ y → (g x).testBit y = true
/-- s can be parted into at most k cliques -/
def cov (g : Nat → Nat) : Nat → Nat → Prop
  | 0, s => s = 0
  | k + 1, s => ∃ t, sub t s ∧ clq g t ∧ cov g k (dif s t)
def mn (g : Nat → Nat) (s v : Nat) : Prop := cov g v s ∧ ∀ k, cov g k s → v ≤ k
theorem sub_0 (s : Nat) : sub 0 s := fun i h => by rw [Nat.zero_testBit] at h; cases h
theorem clq_0 (g : Nat → Nat) : clq g 0 := fun x y h => by rw [Nat.zero_testBit] at h; cases h
theorem clq_sub {g : Nat → Nat} {a b : Nat} (h : clq g b) (hs : sub a b) : clq g a := fun x y hx hy hne => h x y (hs x hx) (hs y hy) hne
theorem dif_z (s : Nat) : dif s 0 = s := by
  apply Nat.eq_of_testBit_eq
  intro i
  rw [dif_bit, Nat.zero_testBit]
  simp
theorem dif_self (s : Nat) : dif s s = 0 := dif0.mpr (sub_rfl s)
theorem dif_comm (s a b : Nat) : dif (dif s a) b = dif (dif s b) a := by
  apply Nat.eq_of_testBit_eq
  intro i
  rw [dif_bit, dif_bit, dif_bit, dif_bit]
  cases s.testBit i <;> cases a.testBit i <;> cases b.testBit i <;> rfl
theorem dif_bt {a b i : Nat} : (dif a b).testBit i = true ↔ a.testBit i = true ∧ b.testBit i = false := by
  rw [dif_bit, Bool.and_eq_true, Bool.not_eq_true']
theorem cov_s {g : Nat → Nat} {k s : Nat} (h : cov g k s) : cov g (k + 1) s := ⟨0, sub_0 s, clq_0 g, by rw [dif_z]; exact h⟩
theorem cov_ex {g : Nat → Nat} {x : Nat} : ∀ k s, cov g (k + 1) s → s.testBit x = true → ∃ t, sub t s ∧ clq g t ∧ t.testBit x = true ∧ cov g k (dif s t)
  | 0, s, ⟨t, h1, h2, h3⟩, hx => by
    refine ⟨t, h1, h2, ?_, h3⟩
    have h3 : dif s t = 0 := h3
    exact dif0.mp h3 x hx
  | k + 1, s, ⟨t, h1, h2, h3⟩, hx => by
    cases ht : t.testBit x
    · obtain ⟨t1, a1, a2, a3, a4⟩ := cov_ex k (dif s t) h3 (dif_bt.mpr ⟨hx, ht⟩)
      refine ⟨t1, fun i hi => (dif_bt.mp (a1 i hi)).1, a2, a3, t, fun i hi => dif_bt.mpr ⟨h1 i hi, ?_⟩, h2, by rw [dif_comm]; exact a4⟩
      cases q : t1.testBit i
      · rfl
      · have := (dif_bt.mp (a1 i q)).2
        rw [hi] at this
        cases this
    · exact ⟨t, h1, h2, ht, h3⟩
theorem cov_ne {g : Nat → Nat} {k s : Nat} (h : cov g k s) (h0 : s ≠ 0) : ∃ k', k = k' + 1 := by
  cases k with
  | zero => exact absurd h h0
  | succ k => exact ⟨k, rfl⟩
theorem mn_0 (g : Nat → Nat) : mn g 0 0 := ⟨rfl, fun _ _ => Nat.zero_le _⟩
theorem mn_u {g : Nat → Nat} {s a b : Nat} (h1 : mn g s a) (h2 : mn g s b) : a = b := Nat.le_antisymm (h1.2 b h2.1) (h2.2 a h1.1)
theorem cov_1 {g : Nat → Nat} {t : Nat} : cov g 1 t ↔ clq g t := by
  constructor
  · rintro ⟨t', h1, h2, h3⟩
    have h3 : dif t t' = 0 := h3
    rw [sub_antisymm (dif0.mp h3) h1]
    exact h2
  · intro h
    exact ⟨t, sub_rfl t, h, dif_self t⟩
theorem mn_1 {g : Nat → Nat} {t v : Nat} (h : mn g t v) : v = 1 ↔ t ≠ 0 ∧ clq g t := by
  constructor
  · rintro rfl
    refine ⟨fun e => ?_, cov_1.mp h.1⟩
    subst e
    have := h.2 0 rfl
    omega
  · rintro ⟨h0, hc⟩
    have h1 := h.2 1 (cov_1.mpr hc)
    have h2 : v ≠ 0 := fun e => by
      rw [e] at h
      exact h0 h.1
    omega
theorem cov_pop {g : Nat → Nat} : ∀ k s, s < 512 → pop s ≤ k → cov g k s
  | 0, s, hs, h => by
    show s = 0
    apply Classical.byContradiction
    intro hne
    obtain ⟨i, hi⟩ := ne0_bit hne
    have := pop_pos hs hi
    omega
  | k + 1, s, hs, h => by
    by_cases h0 : s = 0
    · rw [h0]
      exact cov_s (cov_pop k 0 (by decide) (by rw [pop0]; omega))
    · obtain ⟨x, hx⟩ := ne0_bit h0
      refine ⟨2 ^ x, fun i hi => (bit_two.mp hi) ▸ hx, fun a b ha hb hne => absurd ((bit_two.mp ha).symm.trans (bit_two.mp hb)) hne, ?_⟩
      have := dif_pop hs hx
      exact cov_pop k _ (dif_lt (N := 9) _ hs) (by omega)
theorem mn_ex (g : Nat → Nat) {s : Nat} (hs : s < 512) : ∃ v, v ≤ 9 ∧ mn g s v := by
  obtain ⟨v, h1, h2⟩ := pk_least (fun k => cov g k s) ⟨9, cov_pop 9 s hs (pop_le9 s)⟩
  refine ⟨v, ?_, h1, fun k hk => ?_⟩
  · rcases Nat.lt_or_ge 9 v with q | q
    · exact absurd (cov_pop 9 s hs (pop_le9 s)) (h2 9 q)
    · exact q
  · rcases Nat.lt_or_ge k v with q | q
    · exact absurd hk (h2 k q)
    · exact q
/-! the next part of a mask, downwards -/
theorem and_half (x y : Nat) : (x &&& y) / 2 = x / 2 &&& y / 2 := by
  apply Nat.eq_of_testBit_eq
  intro i
  rw [Nat.testBit_and, Nat.testBit_div_two, Nat.testBit_div_two, Nat.testBit_div_two, Nat.testBit_and]
theorem bit0 (x : Nat) : x.testBit 0 = true ↔ x % 2 = 1 := by
  rw [Nat.testBit_zero, decide_eq_true_eq]
theorem sub_half {a b : Nat} (h : sub a b) : sub (a / 2) (b / 2) := fun i hi => by
  rw [Nat.testBit_div_two] at hi ⊢
  exact h _ hi
theorem smask : ∀ n t m a, t ≤ n → sub t m → sub a m → a < t → a ≤ (t - 1) &&& m
  | 0, t, m, a, hn, ht, ha, h => by omega
  | n + 1, t, m, a, hn, ht, ha, h => by
    have e1 := and_half (t - 1) m
    rcases Nat.mod_two_eq_zero_or_one t with q | q
    · have e2 : (t - 1) / 2 = t / 2 - 1 := by omega
      rw [e2] at e1
      have ih := smask n (t / 2) (m / 2) (a / 2) (by omega) (sub_half ht) (sub_half ha) (by omega)
      have hX : a % 2 ≤ ((t - 1) &&& m) % 2 := by
        rcases Nat.mod_two_eq_zero_or_one a with r | r
        · omega
        · have hm := ha 0 ((bit0 a).mpr r)
          have hX : ((t - 1) &&& m).testBit 0 = true := and_bit.mpr ⟨(bit0 _).mpr (by omega), hm⟩
          have := (bit0 _).mp hX
          omega
      omega
    · have e2 : (t - 1) / 2 = t / 2 := by omega
      rw [e2] at e1
      have e3 : t / 2 &&& m / 2 = t / 2 := by
        apply Nat.eq_of_testBit_eq
        intro i
        rw [Nat.testBit_and]
        cases hb : (t / 2).testBit i
        · rfl
        · rw [sub_half ht i hb]; rfl
      rw [e3] at e1
      omega
theorem and_sub (a m : Nat) : sub (a &&& m) m := fun i h => (and_bit.mp h).2
theorem nI_and1 {t : Nat} (m : Nat) (ht : 0 < t) : (nI t - 1) &&& nI m = nI ((t - 1) &&& m) := by
  obtain ⟨k, rfl⟩ : ∃ k, t = k + 1 := ⟨t - 1, by omega⟩
  rw [nI_pred, nx_and]
  rfl
/-! cliques by their edges -/
theorem popF_ext {s N : Nat} (hs : s < 2 ^ N) : ∀ k, popF s (N + k) = popF s N
  | 0 => rfl
  | k + 1 => by
    rw [← Nat.add_assoc]
    show popF s (N + k) + _ = _
    have : s.testBit (N + k) = false := by
      cases hb : s.testBit (N + k)
      · rfl
      · exact absurd (bit_lt hs hb) (by omega)
    rw [this, if_neg (by decide), popF_ext hs k]
    rfl
theorem popF_dif {t x : Nat} (hx : t.testBit x = true) : ∀ k, x < k → popF (dif t (2 ^ x)) k + 1 = popF t k
  | 0, h => by omega
  | k + 1, h => by
    show popF (dif t (2 ^ x)) k + _ + 1 = popF t k + _
    by_cases e : x = k
    · subst e
      have e2 : ∀ j, j ≤ x → popF (dif t (2 ^ x)) j = popF t j := by
        intro j
        induction j with
        | zero => intro _; rfl
        | succ j ih =>
          intro hj
          show popF (dif t (2 ^ x)) j + _ = popF t j + _
          rw [ih (by omega), dif_bit, Nat.testBit_two_pow_of_ne (by omega)]
          simp
      rw [e2 x (Nat.le_refl _), if_neg (by rw [dif_bit, bit_two.mpr rfl]; simp), if_pos hx]
    · have ih := popF_dif hx k (by omega)
      rw [dif_bit, Nat.testBit_two_pow_of_ne e]
      simp only [Bool.not_false, Bool.and_true]
      omega
theorem edF_up {g : Nat → Nat} {S M : Nat} (hw : ∀ x, S.testBit x = true → wS g S x ≤ M) : ∀ k i a, a ≤ M * popF S i → edF g S k i a ≤ M * popF S (i + k)
  | 0, i, a, h => h
  | k + 1, i, a, h => by
    unfold edF
    rw [show i + (k + 1) = i + 1 + k by omega]
    refine edF_up hw k (i + 1) _ ?_
    show a + wS g S i ≤ M * (popF S i + _)
    by_cases hb : S.testBit i = true
    · rw [if_pos hb, Nat.mul_add]
      have := hw i hb
      omega
    · rw [if_neg hb]
      unfold wS
      rw [if_neg hb]
      omega
theorem edF_lt {g : Nat → Nat} {S M x : Nat} (hw : ∀ x, S.testBit x = true → wS g S x ≤ M) (hx : S.testBit x = true) (hlt : wS g S x < M) : ∀ k i a, a ≤ M * popF S i → i ≤ x → x < i + k → edF g S k i a < M * popF S (i + k)
  | 0, i, a, h, h1, h2 => by omega
  | k + 1, i, a, h, h1, h2 => by
    unfold edF
    rw [show i + (k + 1) = i + 1 + k by omega]
    have hstep : a + wS g S i ≤ M * popF S (i + 1) := by
      show a + wS g S i ≤ M * (popF S i + _)
      by_cases hb : S.testBit i = true
      · rw [if_pos hb, Nat.mul_add]
        have := hw i hb
        omega
      · rw [if_neg hb]
        unfold wS
        rw [if_neg hb]
        omega
    by_cases e : i = x
    · subst e
      have hs2 : a + wS g S i + 1 ≤ M * popF S (i + 1) := by
        show a + wS g S i + 1 ≤ M * (popF S i + _)
        rw [if_pos hx, Nat.mul_add]
        omega
      have := edF_up hw k (i + 1) (a + wS g S i + 1) hs2
      have hm : ∀ k i a, edF g S k i (a + 1) = edF g S k i a + 1 := by
        intro k
        induction k with
        | zero => intro i a; rfl
        | succ k ih =>
          intro i a
          show edF g S k (i + 1) (a + 1 + wS g S i) = edF g S k (i + 1) (a + wS g S i) + 1
          rw [show a + 1 + wS g S i = a + wS g S i + 1 by omega]
          exact ih _ _
      rw [hm] at this
      omega
    · exact edF_lt hw hx hlt k (i + 1) _ hstep (by omega) (by omega)
theorem edF_eq {g : Nat → Nat} {S M : Nat} (hw : ∀ x, S.testBit x = true → wS g S x = M) : ∀ k i a, a = M * popF S i → edF g S k i a = M * popF S (i + k)
  | 0, i, a, h => h
  | k + 1, i, a, h => by
    unfold edF
    rw [show i + (k + 1) = i + 1 + k by omega]
    refine edF_eq hw k (i + 1) _ ?_
    show a + wS g S i = M * (popF S i + _)
    by_cases hb : S.testBit i = true
    · rw [if_pos hb, Nat.mul_add, hw i hb]
      omega
    · rw [if_neg hb]
      unfold wS
      rw [if_neg hb]
      omega
theorem even_m (m : Nat) : m * (m - 1) % 2 = 0 := by
  rcases Nat.mod_two_eq_zero_or_one m with h | h
  · rw [Nat.mul_mod, h]
    simp
  · rw [Nat.mul_mod, show (m - 1) % 2 = 0 by omega]
    simp
theorem clq_ends {N : Nat} {g : Nat → Nat} (h9 : N ≤ 9) (hg : Gr N g) {t : Nat} (ht : t < 2 ^ N) : ends N g t / 2 = pop t * (pop t - 1) / 2 ↔ clq g t := by
  have hpN : popF t N = pop t := by
    have := popF_ext ht (9 - N)
    rw [show N + (9 - N) = 9 by omega] at this
    exact this.symm
  have ht5 := p512 h9 ht
  have hw : ∀ x, t.testBit x = true → wS g t x ≤ pop t - 1 := fun x hx => by
    have hxN := bit_lt ht hx
    unfold wS
    rw [if_pos hx]
    have := pop_lt (and_sub (g x) t) (fun e => by
      rw [← e] at hx
      have := (and_bit.mp hx).1
      rw [hg.2.2 x hxN] at this
      cases this) ht5
    omega
  have hev := even_m (pop t)
  have hcomm : (pop t - 1) * pop t = pop t * (pop t - 1) := Nat.mul_comm _ _
  constructor
  · intro h x y hx hy hne
    apply Classical.byContradiction
    intro hadj
    have hxN := bit_lt ht hx
    have hlt : wS g t x < pop t - 1 := by
      unfold wS
      rw [if_pos hx]
      have hs : sub (g x &&& t) (dif t (2 ^ x)) := fun i hi => by
        have := and_bit.mp hi
        refine dif_bt.mpr ⟨this.2, ?_⟩
        cases q : (2 ^ x).testBit i
        · rfl
        · rw [← bit_two.mp q, hg.2.2 x hxN] at this
          cases this.1
      have hy2 : (dif t (2 ^ x)).testBit y = true := dif_bt.mpr ⟨hy, Nat.testBit_two_pow_of_ne hne⟩
      have := pop_lt hs (fun e => by
        rw [← e] at hy2
        exact hadj (and_bit.mp hy2).1) (dif_lt (N := 9) _ ht5)
      have h2 := popF_dif hx 9 (by omega)
      have h3 : pop (dif t (2 ^ x)) + 1 = pop t := h2
      omega
    have := edF_lt hw hx hlt N 0 0 (by omega) (Nat.zero_le _) (by omega)
    rw [Nat.zero_add, hpN, hcomm] at this
    unfold ends at h
    omega
  · intro h
    have hw2 : ∀ x, t.testBit x = true → wS g t x = pop t - 1 := fun x hx => by
      have hxN := bit_lt ht hx
      unfold wS
      rw [if_pos hx]
      have e : g x &&& t = dif t (2 ^ x) := by
        apply sub_antisymm
        · intro i hi
          have := and_bit.mp hi
          refine dif_bt.mpr ⟨this.2, ?_⟩
          cases q : (2 ^ x).testBit i
          · rfl
          · rw [← bit_two.mp q, hg.2.2 x hxN] at this
            cases this.1
        · intro i hi
          have := dif_bt.mp hi
          refine and_bit.mpr ⟨h x i hx this.1 (fun e => ?_), this.1⟩
          rw [bit_two.mpr e] at this
          cases this.2
      rw [e]
      have h2 : pop (dif t (2 ^ x)) + 1 = pop t := popF_dif hx 9 (by omega)
      omega
    have := edF_eq hw2 N 0 0 (by show 0 = (pop t - 1) * 0; omega)
    rw [Nat.zero_add, hpN, hcomm] at this
    unfold ends
    rw [this]
