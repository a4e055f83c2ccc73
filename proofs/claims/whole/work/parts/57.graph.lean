/-! graphs, abstractly: what has no hole, house, gem or domino has a leaf or twins -/
noncomputable def cnu (P : Nat → Prop) : Nat → Nat
  | 0 => 0
  | k + 1 => cnu P k + @ite Nat (P k) (Classical.propDecidable (P k)) 1 0
theorem cnu_mono {P Q : Nat → Prop} (h : ∀ i, P i → Q i) : ∀ k, cnu P k ≤ cnu Q k
  | 0 => Nat.le_refl _
  | k + 1 => by
    have := cnu_mono h k
    unfold cnu
    by_cases hp : P k
    · rw [if_pos hp, if_pos (h k hp)]; omega
    · rw [if_neg hp]; omega
theorem cnu_lt {P Q : Nat → Prop} (h : ∀ i, P i → Q i) {j : Nat} (hj : Q j) (hn : ¬ P j) : ∀ k, j < k → cnu P k < cnu Q k
  | 0, hk => by omega
  | k + 1, hk => by
    unfold cnu
    by_cases e : j = k
    · subst e
      have := cnu_mono h j
      rw [if_neg hn, if_pos hj]; omega
    · have := cnu_lt h hj hn k (by omega)
      by_cases hp : P k
      · rw [if_pos hp, if_pos (h k hp)]; omega
      · rw [if_neg hp]; omega
theorem least_nat {P : Nat → Prop} : ∀ n, P n → ∃ m, m ≤ n ∧ P m ∧ ∀ r, r < m → ¬ P r := by
  intro n
  induction n using Nat.strongRecOn with
  | ind n ih =>
    intro h
    by_cases q : ∃ r, r < n ∧ P r
    · obtain ⟨r, h1, h2⟩ := q
      obtain ⟨m, a, b, c⟩ := ih r h1 h2
      exact ⟨m, by omega, b, c⟩
    · exact ⟨n, Nat.le_refl n, h, fun r hr hp => q ⟨r, hr, hp⟩⟩
/-- a cycle, and what else the first vertex sees -/
abbrev tm (k a b i j : Nat) : Prop := j = i + 1 ∨ i = j + 1 ∨ (i = 0 ∧ (j + 1 = k ∨ j = a ∨ j = b)) ∨ (j = 0 ∧ (i + 1 = k ∨ i = a ∨ i = b))
/-- hole; house, twice; gem; domino -/
def Tm (k a b : Nat) : Prop := (5 ≤ k ∧ a = 1 ∧ b = 1) ∨ (k = 5 ∧ ((a = 2 ∧ b = 2) ∨ (a = 3 ∧ b = 3) ∨ (a = 2 ∧ b = 3))) ∨ (k = 6 ∧ a = 3 ∧ b = 3)
def Conf (A : Nat → Nat → Prop) (S : Nat → Prop) : Prop := ∃ (k a b : Nat) (e : Nat → Nat), Tm k a b ∧ (∀ i, i < k → S (e i)) ∧ (∀ i j, i < k → j < k → e i = e j → i = j) ∧ ∀ i j, i < k → j < k → (A (e i) (e j) ↔ tm k a b i j)
theorem Conf_mono {A : Nat → Nat → Prop} {S T : Nat → Prop} (h : ∀ x, S x → T x) (c : Conf A S) : Conf A T := by
  obtain ⟨k, a, b, e, h1, h2, h3⟩ := c
  exact ⟨k, a, b, e, h1, fun i hi => h _ (h2 i hi), h3⟩
section GRAPH
variable {A : Nat → Nat → Prop} {T : Nat → Prop}
theorem mk_conf (sy : ∀ x y, A x y → A y x) (ir : ∀ x, ¬ A x x) {q : Nat → Nat} {k w : Nat} (hT : ∀ i, i ≤ k → T (q i)) (hw : T w) (inj : ∀ i j, i ≤ k → j ≤ k → q i = q j → i = j) (nw : ∀ i, i ≤ k → w ≠ q i) (ind : ∀ i j, i ≤ k → j ≤ k → (A (q i) (q j) ↔ (j = i + 1 ∨ i = j + 1))) (s m a b : Nat) (hm : Tm m a b) (hs : s + m ≤ k + 2) (hc : ∀ r, r + 1 < m → (A w (q (s + r)) ↔ (r = 0 ∨ r + 2 = m ∨ r + 1 = a ∨ r + 1 = b))) : Conf A T := by
  have hm2 : 2 < m ∧ 1 ≤ a ∧ 1 ≤ b := by unfold Tm at hm; omega
  have z0 : (if (0 : Nat) = 0 then w else q (s + 0 - 1)) = w := if_pos rfl
  have zs : ∀ i, i ≠ 0 → (if i = 0 then w else q (s + i - 1)) = q (s + (i - 1)) := fun i hi => by rw [if_neg hi]; congr 1; omega
  refine ⟨m, a, b, fun i => if i = 0 then w else q (s + i - 1), hm, ?_, ?_, ?_⟩
  · intro i hi
    show T (if i = 0 then w else q (s + i - 1))
    by_cases h : i = 0
    · rw [if_pos h]; exact hw
    · rw [if_neg h]; exact hT _ (by omega)
  · intro i j hi hj e
    have e : (if i = 0 then w else q (s + i - 1)) = (if j = 0 then w else q (s + j - 1)) := e
    by_cases h1 : i = 0
    · by_cases h2 : j = 0
      · omega
      · rw [if_pos h1, if_neg h2] at e
        exact absurd e (nw _ (by omega))
    · by_cases h2 : j = 0
      · rw [if_neg h1, if_pos h2] at e
        exact absurd e.symm (nw _ (by omega))
      · rw [if_neg h1, if_neg h2] at e
        have := inj _ _ (by omega) (by omega) e
        omega
  · intro i j hi hj
    show A (if i = 0 then w else q (s + i - 1)) (if j = 0 then w else q (s + j - 1)) ↔ tm m a b i j
    unfold tm
    by_cases h1 : i = 0
    · by_cases h2 : j = 0
      · rw [if_pos h1, if_pos h2]
        constructor
        · intro h; exact absurd h (ir w)
        · intro h; omega
      · rw [if_pos h1, zs j h2, hc (j - 1) (by omega)]
        omega
    · by_cases h2 : j = 0
      · rw [if_pos h2, zs i h1]
        have q2 : A (q (s + (i - 1))) w ↔ A w (q (s + (i - 1))) := ⟨sy _ _, sy _ _⟩
        rw [q2, hc (i - 1) (by omega)]
        omega
      · rw [zs i h1, zs j h2, ind _ _ (by omega) (by omega)]
        omega
/-- a vertex that sees both ends of an induced path of three edges or more -/
theorem path_conf (sy : ∀ x y, A x y → A y x) (ir : ∀ x, ¬ A x x) {q : Nat → Nat} {k w : Nat} (hk : 3 ≤ k) (hT : ∀ i, i ≤ k → T (q i)) (hw : T w) (ind : ∀ i j, i ≤ k → j ≤ k → (A (q i) (q j) ↔ (j = i + 1 ∨ i = j + 1))) (h0 : A w (q 0)) (h1 : A w (q k)) : Conf A T := by
  have nw : ∀ i, i ≤ k → w ≠ q i := fun i hi e => by
    rw [e] at h0 h1
    have a := (ind i 0 hi (by omega)).mp h0
    have b := (ind i k hi (by omega)).mp h1
    omega
  have inj0 : ∀ i j, i ≤ k → j ≤ k → i < j → q i ≠ q j := fun i j hi hj hij e => by
    by_cases hz : i = 0
    · subst hz
      have a := (ind 1 0 (by omega) (by omega)).mpr (by omega)
      rw [e] at a
      have a := (ind 1 j (by omega) hj).mp a
      have b := (ind 3 2 (by omega) (by omega)).mpr (by omega)
      rw [show (2 : Nat) = j by omega, ← e] at b
      have b := (ind 3 0 (by omega) (by omega)).mp b
      omega
    · have a := (ind (i - 1) i (by omega) (by omega)).mpr (by omega)
      rw [e] at a
      have a := (ind (i - 1) j (by omega) hj).mp a
      omega
  have inj : ∀ i j, i ≤ k → j ≤ k → q i = q j → i = j := fun i j hi hj e => by
    by_cases a : i < j
    · exact absurd e (inj0 i j hi hj a)
    · by_cases b : j < i
      · exact absurd e.symm (inj0 j i hj hi b)
      · omega
  have mk := mk_conf sy ir hT hw inj nw ind
  -- the next one that w sees
  have next : ∀ i, i < k → A w (q i) → Conf A T ∨ ((A w (q (i + 1)) ∧ i + 1 ≤ k) ∨ (¬ A w (q (i + 1)) ∧ A w (q (i + 2)) ∧ i + 2 ≤ k)) := fun i hi hA => by
    obtain ⟨m, b1, b2, b3⟩ := least_nat (P := fun d => A w (q (i + 1 + d))) (k - i - 1) (by
      show A w (q (i + 1 + (k - i - 1)))
      rw [show i + 1 + (k - i - 1) = k by omega]
      exact h1)
    by_cases c0 : m = 0
    · subst c0; exact Or.inr (Or.inl ⟨b2, by omega⟩)
    by_cases c1 : m = 1
    · subst c1; exact Or.inr (Or.inr ⟨b3 0 (by omega), b2, by omega⟩)
    refine Or.inl (mk i (m + 3) 1 1 (Or.inl ⟨by omega, rfl, rfl⟩) (by omega) ?_)
    intro r hr
    by_cases r0 : r = 0
    · subst r0; exact ⟨fun _ => Or.inl rfl, fun _ => hA⟩
    by_cases r1 : r = m + 1
    · subst r1; exact ⟨fun _ => by omega, fun _ => by rw [show i + (m + 1) = i + 1 + m by omega]; exact b2⟩
    · have := b3 (r - 1) (by omega)
      rw [show i + 1 + (r - 1) = i + r by omega] at this
      exact ⟨fun h => absurd h this, fun h => by omega⟩
  have c5 : ∀ s a b, s + 3 ≤ k → Tm 5 a b → A w (q s) → A w (q (s + 3)) → (A w (q (s + 1)) ↔ (a = 2 ∨ b = 2)) → (A w (q (s + 2)) ↔ (a = 3 ∨ b = 3)) → Conf A T := fun s a b hs ht g0 g3 g1 g2 => by
    refine mk s 5 a b ht (by omega) ?_
    intro r hr
    rcases (show r = 0 ∨ r = 1 ∨ r = 2 ∨ r = 3 by omega) with e | e | e | e
    · subst e; exact ⟨fun _ => Or.inl rfl, fun _ => g0⟩
    · subst e; rw [g1]; omega
    · subst e; rw [g2]; omega
    · subst e; exact ⟨fun _ => by omega, fun _ => g3⟩
  rcases next 0 (by omega) h0 with c | ⟨a1, -⟩ | ⟨a1, a2, -⟩
  · exact c
  · rcases next 1 (by omega) a1 with c | ⟨b1, -⟩ | ⟨b1, b2, b3⟩
    · exact c
    · rcases next 2 (by omega) b1 with c | ⟨c1, -⟩ | ⟨c1, c2, c3⟩
      · exact c
      · exact c5 0 2 3 (by omega) (by unfold Tm; omega) h0 c1 ⟨fun _ => by omega, fun _ => a1⟩ ⟨fun _ => by omega, fun _ => b1⟩
      · exact c5 1 2 2 (by omega) (by unfold Tm; omega) a1 c2 ⟨fun _ => by omega, fun _ => b1⟩ ⟨fun h => absurd h c1, fun h => by omega⟩
    · exact c5 0 2 2 (by omega) (by unfold Tm; omega) h0 b2 ⟨fun _ => by omega, fun _ => a1⟩ ⟨fun h => absurd h b1, fun h => by omega⟩
  · rcases next 2 (by omega) a2 with c | ⟨b1, -⟩ | ⟨b1, b2, b3⟩
    · exact c
    · exact c5 0 3 3 (by omega) (by unfold Tm; omega) h0 b1 ⟨fun h => absurd h a1, fun h => by omega⟩ ⟨fun _ => by omega, fun _ => a2⟩
    · refine mk 0 6 3 3 (by unfold Tm; omega) (by omega) ?_
      intro r hr
      rcases (show r = 0 ∨ r = 1 ∨ r = 2 ∨ r = 3 ∨ r = 4 by omega) with e | e | e | e | e
      · subst e; exact ⟨fun _ => Or.inl rfl, fun _ => h0⟩
      · subst e; exact ⟨fun h => absurd h a1, fun h => by omega⟩
      · subst e; exact ⟨fun _ => by omega, fun _ => a2⟩
      · subst e; exact ⟨fun h => absurd h b1, fun h => by omega⟩
      · subst e; exact ⟨fun _ => by omega, fun _ => b2⟩
/-- the same for a path of four vertices, told one by one -/
theorem p4_conf (sy : ∀ x y, A x y → A y x) (ir : ∀ x, ¬ A x x) {a b c d w : Nat} (ha : T a) (hb : T b) (hc : T c) (hd : T d) (hw : T w) (ab : A a b) (bc : A b c) (cd : A c d) (ac : ¬ A a c) (ad : ¬ A a d) (bd : ¬ A b d) (wa : A w a) (wd : A w d) : Conf A T := by
  have sn : ∀ x y, ¬ A x y → ¬ A y x := fun x y h k => h (sy _ _ k)
  refine path_conf sy ir (q := fun i => if i = 0 then a else if i = 1 then b else if i = 2 then c else d) (k := 3) (w := w) (by omega) ?_ hw ?_ wa wd
  · intro i hi
    rcases (show i = 0 ∨ i = 1 ∨ i = 2 ∨ i = 3 by omega) with e | e | e | e <;> subst e
    · exact ha
    · exact hb
    · exact hc
    · exact hd
  · have tt : ∀ {P Q : Prop}, P → Q → (P ↔ Q) := fun p q => ⟨fun _ => q, fun _ => p⟩
    have ff : ∀ {P Q : Prop}, ¬ P → ¬ Q → (P ↔ Q) := fun p q => ⟨fun x => absurd x p, fun x => absurd x q⟩
    intro i j hi hj
    rcases (show i = 0 ∨ i = 1 ∨ i = 2 ∨ i = 3 by omega) with e | e | e | e <;> subst e <;> rcases (show j = 0 ∨ j = 1 ∨ j = 2 ∨ j = 3 by omega) with e | e | e | e <;> subst e
    · exact ff (ir a) (by omega)
    · exact tt ab (by omega)
    · exact ff ac (by omega)
    · exact ff ad (by omega)
    · exact tt (sy _ _ ab) (by omega)
    · exact ff (ir b) (by omega)
    · exact tt bc (by omega)
    · exact ff bd (by omega)
    · exact ff (sn _ _ ac) (by omega)
    · exact tt (sy _ _ bc) (by omega)
    · exact ff (ir c) (by omega)
    · exact tt cd (by omega)
    · exact ff (sn _ _ ad) (by omega)
    · exact ff (sn _ _ bd) (by omega)
    · exact tt (sy _ _ cd) (by omega)
    · exact ff (ir d) (by omega)
/-- and of five -/
theorem p5_conf (sy : ∀ x y, A x y → A y x) (ir : ∀ x, ¬ A x x) {a b c d f w : Nat} (ha : T a) (hb : T b) (hc : T c) (hd : T d) (hf : T f) (hw : T w) (ab : A a b) (bc : A b c) (cd : A c d) (df : A d f) (ac : ¬ A a c) (ad : ¬ A a d) (af : ¬ A a f) (bd : ¬ A b d) (bf : ¬ A b f) (cf : ¬ A c f) (wa : A w a) (wf : A w f) : Conf A T := by
  have sn : ∀ x y, ¬ A x y → ¬ A y x := fun x y h k => h (sy _ _ k)
  refine path_conf sy ir (q := fun i => if i = 0 then a else if i = 1 then b else if i = 2 then c else if i = 3 then d else f) (k := 4) (w := w) (by omega) ?_ hw ?_ wa wf
  · intro i hi
    rcases (show i = 0 ∨ i = 1 ∨ i = 2 ∨ i = 3 ∨ i = 4 by omega) with e | e | e | e | e <;> subst e
    · exact ha
    · exact hb
    · exact hc
    · exact hd
    · exact hf
  · have tt : ∀ {P Q : Prop}, P → Q → (P ↔ Q) := fun p q => ⟨fun _ => q, fun _ => p⟩
    have ff : ∀ {P Q : Prop}, ¬ P → ¬ Q → (P ↔ Q) := fun p q => ⟨fun x => absurd x p, fun x => absurd x q⟩
    intro i j hi hj
    rcases (show i = 0 ∨ i = 1 ∨ i = 2 ∨ i = 3 ∨ i = 4 by omega) with e | e | e | e | e <;> subst e <;> rcases (show j = 0 ∨ j = 1 ∨ j = 2 ∨ j = 3 ∨ j = 4 by omega) with e | e | e | e | e <;> subst e
    · exact ff (ir a) (by omega)
    · exact tt ab (by omega)
    · exact ff ac (by omega)
    · exact ff ad (by omega)
    · exact ff af (by omega)
    · exact tt (sy _ _ ab) (by omega)
    · exact ff (ir b) (by omega)
    · exact tt bc (by omega)
    · exact ff bd (by omega)
    · exact ff bf (by omega)
    · exact ff (sn _ _ ac) (by omega)
    · exact tt (sy _ _ bc) (by omega)
    · exact ff (ir c) (by omega)
    · exact tt cd (by omega)
    · exact ff cf (by omega)
    · exact ff (sn _ _ ad) (by omega)
    · exact ff (sn _ _ bd) (by omega)
    · exact tt (sy _ _ cd) (by omega)
    · exact ff (ir d) (by omega)
    · exact tt df (by omega)
    · exact ff (sn _ _ af) (by omega)
    · exact ff (sn _ _ bf) (by omega)
    · exact ff (sn _ _ cf) (by omega)
    · exact tt (sy _ _ df) (by omega)
    · exact ff (ir f) (by omega)
end GRAPH
