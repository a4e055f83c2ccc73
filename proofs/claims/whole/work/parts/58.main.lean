/-! walks, and the main theorem -/
def Wk (A : Nat → Nat → Prop) (D : Nat → Prop) : Nat → Nat → Nat → Prop
  | 0, a, b => a = b ∧ D a
  | k + 1, a, b => D a ∧ ∃ m, A a m ∧ Wk A D k m b
def leafIn (A : Nat → Nat → Prop) (T : Nat → Prop) (x : Nat) : Prop := T x ∧ ∃ z, T z ∧ A x z ∧ ∀ y, T y → A x y → y = z
def twinIn (A : Nat → Nat → Prop) (T : Nat → Prop) (x y : Nat) : Prop := T x ∧ T y ∧ x ≠ y ∧ ∀ z, T z → z ≠ x → z ≠ y → (A x z ↔ A y z)
section WALK
variable {A : Nat → Nat → Prop} {D : Nat → Prop}
theorem Wk_end : ∀ {k a b : Nat}, Wk A D k a b → D b
  | 0, a, b, h => h.1 ▸ h.2
  | k + 1, a, b, h => by
    obtain ⟨m, -, h2⟩ := h.2
    exact Wk_end h2
theorem Wk_beg : ∀ {k a b : Nat}, Wk A D k a b → D a
  | 0, a, b, h => h.2
  | k + 1, a, b, h => h.1
theorem Wk_snoc : ∀ {k a b c : Nat}, Wk A D k a b → A b c → D c → Wk A D (k + 1) a c
  | 0, a, b, c, h, h1, h2 => ⟨h.2, c, h.1 ▸ h1, rfl, h2⟩
  | k + 1, a, b, c, h, h1, h2 => by
    obtain ⟨m, h3, h4⟩ := h.2
    exact ⟨h.1, m, h3, Wk_snoc h4 h1 h2⟩
theorem Wk_trans : ∀ {k l a b c : Nat}, Wk A D k a b → Wk A D l b c → Wk A D (k + l) a c
  | 0, l, a, b, c, h, h1 => by
    rw [h.1, Nat.zero_add]
    exact h1
  | k + 1, l, a, b, c, h, h1 => by
    obtain ⟨m, h3, h4⟩ := h.2
    rw [show k + 1 + l = (k + l) + 1 by omega]
    exact ⟨h.1, m, h3, Wk_trans h4 h1⟩
theorem Wk_rev (sy : ∀ x y, A x y → A y x) : ∀ {k a b : Nat}, Wk A D k a b → Wk A D k b a
  | 0, a, b, h => ⟨h.1.symm, h.1 ▸ h.2⟩
  | k + 1, a, b, h => by
    obtain ⟨m, h3, h4⟩ := h.2
    exact Wk_snoc (Wk_rev sy h4) (sy _ _ h3) h.1
theorem Wk_mono {E : Nat → Prop} (hD : ∀ x, D x → E x) : ∀ {k a b : Nat}, Wk A D k a b → Wk A E k a b
  | 0, a, b, h => ⟨h.1, hD _ h.2⟩
  | k + 1, a, b, h => by
    obtain ⟨m, h3, h4⟩ := h.2
    exact ⟨hD _ h.1, m, h3, Wk_mono hD h4⟩
theorem Wk_fun : ∀ {k a b : Nat}, Wk A D k a b → ∃ q : Nat → Nat, q 0 = a ∧ q k = b ∧ (∀ i, i < k → A (q i) (q (i + 1))) ∧ ∀ i, i ≤ k → D (q i)
  | 0, a, b, h => ⟨fun _ => a, rfl, h.1, fun i hi => by omega, fun i _ => h.2⟩
  | k + 1, a, b, h => by
    obtain ⟨m, h3, h4⟩ := h.2
    obtain ⟨q, a1, a2, a3, a4⟩ := Wk_fun h4
    refine ⟨fun i => if i = 0 then a else q (i - 1), rfl, ?_, ?_, ?_⟩
    · show (if k + 1 = 0 then a else q (k + 1 - 1)) = b
      rw [if_neg (by omega), Nat.add_sub_cancel]
      exact a2
    · intro i hi
      show A (if i = 0 then a else q (i - 1)) (if i + 1 = 0 then a else q (i + 1 - 1))
      rw [if_neg (show ¬ i + 1 = 0 by omega), Nat.add_sub_cancel]
      by_cases e : i = 0
      · rw [if_pos e, e, a1]; exact h3
      · rw [if_neg e]
        have := a3 (i - 1) (by omega)
        rw [show i - 1 + 1 = i by omega] at this
        exact this
    · intro i hi
      show D (if i = 0 then a else q (i - 1))
      by_cases e : i = 0
      · rw [if_pos e]; exact h.1
      · rw [if_neg e]; exact a4 _ (by omega)
theorem fun_Wk {q : Nat → Nat} {k : Nat} (h1 : ∀ i, i < k → A (q i) (q (i + 1))) (h2 : ∀ i, i ≤ k → D (q i)) : ∀ d i, i + d ≤ k → Wk A D d (q i) (q (i + d))
  | 0, i, h => ⟨rfl, h2 i (by omega)⟩
  | d + 1, i, h => ⟨h2 i (by omega), q (i + 1), h1 i (by omega), by
    have := fun_Wk h1 h2 d (i + 1) (by omega)
    rw [show i + 1 + d = i + (d + 1) by omega] at this
    exact this⟩
/-- a shortest walk is an induced path -/
theorem Wk_short (sy : ∀ x y, A x y → A y x) (ir : ∀ x, ¬ A x x) {n a b : Nat} (h : Wk A D n a b) : ∃ (k : Nat) (q : Nat → Nat), q 0 = a ∧ q k = b ∧ (∀ i, i ≤ k → D (q i)) ∧ (∀ i j, i ≤ k → j ≤ k → (A (q i) (q j) ↔ (j = i + 1 ∨ i = j + 1))) ∧ ∀ i, i < k → q i ≠ b := by
  obtain ⟨k, -, h1, h2⟩ := least_nat (P := fun k => Wk A D k a b) n h
  obtain ⟨q, a1, a2, a3, a4⟩ := Wk_fun h1
  have key : ∀ i j, i ≤ k → j ≤ k → i + 1 < j → ¬ A (q i) (q j) := fun i j hi hj hij hA => by
    have w1 := fun_Wk a3 a4 i 0 (by omega)
    have w2 := fun_Wk a3 a4 (k - j) j (by omega)
    rw [a1, Nat.zero_add] at w1
    rw [show j + (k - j) = k by omega, a2] at w2
    exact h2 _ (by omega) (Wk_trans (Wk_snoc w1 hA (a4 j hj)) w2)
  refine ⟨k, q, a1, a2, a4, ?_, ?_⟩
  · intro i j hi hj
    by_cases c1 : j = i + 1
    · subst c1; exact ⟨fun _ => Or.inl rfl, fun _ => a3 i (by omega)⟩
    by_cases c2 : i = j + 1
    · subst c2; exact ⟨fun _ => Or.inr rfl, fun _ => sy _ _ (a3 j (by omega))⟩
    refine ⟨fun hA => ?_, fun h => by omega⟩
    by_cases c3 : i = j
    · subst c3; exact absurd hA (ir _)
    by_cases c4 : i < j
    · exact absurd hA (key i j hi hj (by omega))
    · exact absurd (sy _ _ hA) (key j i hj hi (by omega))
  · intro i hi e
    have w1 := fun_Wk a3 a4 i 0 (by omega)
    rw [a1, Nat.zero_add, e] at w1
    exact h2 i hi w1
end WALK
section MAIN
variable {A : Nat → Nat → Prop} {n : Nat}
/-- two outside that see apart what hangs together -/
theorem att_conf (sy : ∀ x y, A x y → A y x) (ir : ∀ x, ¬ A x x) {T M : Nat → Prop} {w b b' c' l : Nat} (hM : ∀ x, M x → T x) (hb : T b) (hb' : T b') (hw : T w) (wb : A w b) (wb' : A w b') (wM : ∀ m, M m → ¬ A w m) (nb : ¬ M b) (hc' : A b' c') (hbc : ¬ A b c') (wk : Wk A (fun x => M x ∨ x = b) l c' b) (hcM : M c') : Conf A T := by
  obtain ⟨k, q, q0, qk, qD, qi, qe⟩ := Wk_short sy ir wk
  have qM : ∀ i, i < k → M (q i) := fun i hi => (qD i (by omega)).resolve_right (qe i hi)
  have hk0 : k ≠ 0 := fun e => by
    rw [e] at qk
    rw [q0] at qk
    rw [qk] at hcM
    exact nb hcM
  have hk1 : k ≠ 1 := fun e => by
    have := (qi 1 0 (by omega) (by omega)).mpr (Or.inr rfl)
    rw [e] at qk
    rw [qk, q0] at this
    exact hbc this
  have t1 : ∀ i, i ≤ k → (if i ≤ k then q i else w) = q i := fun i hi => if_pos hi
  have t2 : (if k + 1 ≤ k then q (k + 1) else w) = w := if_neg (by omega)
  refine path_conf sy ir (q := fun i => if i ≤ k then q i else w) (k := k + 1) (w := b') (by omega) ?_ hb' ?_ ?_ ?_
  · intro i hi
    show T (if i ≤ k then q i else w)
    by_cases e : i ≤ k
    · rw [if_pos e]
      rcases qD i e with h | h
      · exact hM _ h
      · rw [h]; exact hb
    · rw [if_neg e]; exact hw
  · have wq : ∀ i, i ≤ k → (A w (q i) ↔ i = k) := fun i hi => by
      by_cases e : i = k
      · subst e; rw [qk]; exact ⟨fun _ => rfl, fun _ => wb⟩
      · exact ⟨fun h => absurd h (wM _ (qM i (by omega))), fun h => absurd h e⟩
    intro i j hi hj
    show A (if i ≤ k then q i else w) (if j ≤ k then q j else w) ↔ _
    by_cases e1 : i ≤ k
    · by_cases e2 : j ≤ k
      · rw [if_pos e1, if_pos e2]; exact qi i j e1 e2
      · rw [if_pos e1, if_neg e2, show A (q i) w ↔ A w (q i) from ⟨sy _ _, sy _ _⟩, wq i e1]; omega
    · by_cases e2 : j ≤ k
      · rw [if_neg e1, if_pos e2, wq j e2]; omega
      · rw [if_neg e1, if_neg e2]
        exact ⟨fun h => absurd h (ir w), fun h => by omega⟩
  · show A b' (if 0 ≤ k then q 0 else w)
    rw [if_pos (Nat.zero_le k), q0]; exact hc'
  · show A b' (if k + 1 ≤ k then q (k + 1) else w)
    rw [t2]; exact sy _ _ wb'
/-- no path of four vertices, and leaves or twins everywhere inside: twins -/
theorem cog (sy : ∀ x y, A x y → A y x) (ir : ∀ x, ¬ A x x) : ∀ (s : Nat) (X : Nat → Prop), cnu X n ≤ s → (∀ x, X x → x < n) → (∃ x y, X x ∧ X y ∧ x ≠ y) → (∀ Y : Nat → Prop, (∀ x, Y x → X x) → (∃ x y, Y x ∧ Y y ∧ x ≠ y) → (∃ x, leafIn A Y x) ∨ ∃ x y, twinIn A Y x y) → (∀ p q r t, X p → X q → X r → X t → A p q → A q r → A r t → ¬ A p r → ¬ A p t → ¬ A q t → False) → ∃ x y, twinIn A X x y
  | 0, X, hs, hn, ⟨x, y, hx, hy, hxy⟩, _, _ => by
    have := cnu_lt (P := fun _ => False) (Q := X) (fun _ h => h.elim) hx (fun h => h) n (hn x hx)
    omega
  | s + 1, X, hs, hn, h2, hI, hP => by
    rcases hI X (fun _ h => h) h2 with ⟨x, hx, z0, hz0, xz, hu⟩ | h
    · have hnx : ∀ y, X y → y ≠ z0 → ¬ A x y := fun y h1 h2 h3 => h2 (hu y h1 h3)
      have hzx : z0 ≠ x := fun e => ir x (by rw [e] at xz; exact xz)
      have hfar : ∀ y z, X y → X z → A z0 y → y ≠ x → z ≠ x → z ≠ z0 → ¬ A z0 z → ¬ A y z := fun y z hy hz h1 h3 h4 h5 h6 h7 => by
        have hyz : y ≠ z0 := fun e => ir z0 (by rw [e] at h1; exact h1)
        exact hP x z0 y z hx hz0 hy hz xz h1 h7 (hnx y hy hyz) (hnx z hz h5) h6
      by_cases hB : ∃ a, X a ∧ A z0 a ∧ a ≠ x
      · obtain ⟨a, ha, za, hax⟩ := hB
        have haz : a ≠ z0 := fun e => ir z0 (by rw [e] at za; exact za)
        by_cases hB2 : ∃ a2, X a2 ∧ A z0 a2 ∧ a2 ≠ x ∧ a2 ≠ a
        · obtain ⟨a2, ha2, za2, hax2, haa⟩ := hB2
          have hlt := cnu_lt (P := fun y => X y ∧ A z0 y ∧ y ≠ x) (Q := X) (fun _ h => h.1) hx (fun h => h.2.2 rfl) n (hn x hx)
          obtain ⟨y, y', ⟨b1, b2, b3⟩, ⟨c1, c2, c3⟩, hyy, hz⟩ := cog sy ir s (fun y => X y ∧ A z0 y ∧ y ≠ x) (by omega) (fun y h => hn y h.1) ⟨a, a2, ⟨ha, za, hax⟩, ⟨ha2, za2, hax2⟩, fun e => haa e.symm⟩ (fun Y hY => hI Y (fun x h => (hY x h).1)) (fun p q r t hp hq hr ht => hP p q r t hp.1 hq.1 hr.1 ht.1)
          refine ⟨y, y', b1, c1, hyy, fun z hzX hzy hzy' => ?_⟩
          have hyz : y ≠ z0 := fun e => ir z0 (by rw [e] at b2; exact b2)
          have hyz' : y' ≠ z0 := fun e => ir z0 (by rw [e] at c2; exact c2)
          by_cases e1 : z = x
          · rw [e1]
            exact ⟨fun h => absurd (sy _ _ h) (hnx y b1 hyz), fun h => absurd (sy _ _ h) (hnx y' c1 hyz')⟩
          by_cases e2 : z = z0
          · rw [e2]; exact ⟨fun _ => sy _ _ c2, fun _ => sy _ _ b2⟩
          by_cases e3 : A z0 z
          · exact hz z ⟨hzX, e3, e1⟩ hzy hzy'
          · exact ⟨fun h => absurd h (hfar y z b1 hzX b2 b3 e1 e2 e3), fun h => absurd h (hfar y' z c1 hzX c2 c3 e1 e2 e3)⟩
        · refine ⟨x, a, hx, ha, fun e => hax e.symm, fun z hzX hzx2 hza => ?_⟩
          by_cases e2 : z = z0
          · rw [e2]; exact ⟨fun _ => sy _ _ za, fun _ => xz⟩
          · refine ⟨fun h => absurd h (hnx z hzX e2), fun h => ?_⟩
            by_cases e3 : A z0 z
            · exact absurd ⟨z, hzX, e3, hzx2, hza⟩ hB2
            · exact absurd h (hfar a z ha hzX za hax hzx2 e2 e3)
      · refine ⟨x, z0, hx, hz0, fun e => hzx e.symm, fun z hzX h3 h4 => ?_⟩
        exact ⟨fun h => absurd h (hnx z hzX h4), fun h => absurd ⟨z, hzX, h, h3⟩ hB⟩
    · exact h
/-- a set that is seen alike from outside, and wholly by one -/
theorem mod_twin (sy : ∀ x y, A x y → A y x) (ir : ∀ x, ¬ A x x) {T X : Nat → Prop} (hT : ∀ x, T x → x < n) (nc : ¬ Conf A T) (hI : ∀ Y : Nat → Prop, (∀ x, Y x → T x) → cnu Y n < cnu T n → (∃ x y, Y x ∧ Y y ∧ x ≠ y) → (∃ x, leafIn A Y x) ∨ ∃ x y, twinIn A Y x y) (hX : ∀ x, X x → T x) (h2 : ∃ x y, X x ∧ X y ∧ x ≠ y) (hm : ∀ z, T z → ¬ X z → (∀ x, X x → A z x) ∨ ∀ x, X x → ¬ A z x) {z0 : Nat} (hz : T z0) (hz1 : ∀ x, X x → A z0 x) : ∃ x y, twinIn A T x y := by
  have hz2 : ¬ X z0 := fun h => ir _ (hz1 _ h)
  have hlt := cnu_lt (P := X) (Q := T) hX hz hz2 n (hT _ hz)
  obtain ⟨x, y, h3, h4, h5, h6⟩ := cog (n := n) sy ir (cnu X n) X (Nat.le_refl _) (fun x h => hT x (hX x h)) h2 (fun Y hY hY2 => hI Y (fun x h => hX x (hY x h)) (by
    have := cnu_mono hY n
    omega) hY2) (fun p q r t hp hq hr ht pq qr rt pr pt qt => nc (p4_conf sy ir (hX _ hp) (hX _ hq) (hX _ hr) (hX _ ht) hz pq qr rt pr pt qt (hz1 _ hp) (hz1 _ ht)))
  refine ⟨x, y, hX x h3, hX y h4, h5, fun z hzT hzx hzy => ?_⟩
  by_cases e : X z
  · exact h6 z e hzx hzy
  · rcases hm z hzT e with h | h
    · exact ⟨fun _ => sy _ _ (h y h4), fun _ => sy _ _ (h x h3)⟩
    · exact ⟨fun q => absurd (sy _ _ q) (h x h3), fun q => absurd (sy _ _ q) (h y h4)⟩
end MAIN
