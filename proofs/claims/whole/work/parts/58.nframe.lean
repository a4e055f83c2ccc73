/-! frames: the last levels, without distances -/
abbrev Fr (A : Nat → Nat → Prop) (T : Nat → Prop) (w : Nat) (B M : Nat → Prop) : Prop := (∀ x, B x → T x) ∧ (∀ x, M x → T x) ∧ (∀ x, M x → ¬ B x) ∧ (∃ m, M m) ∧ (∀ b, B b → T w ∧ A w b) ∧ (¬ M w) ∧ (∀ m y, M m → T y → A m y → B y ∨ M y) ∧ (∀ z, T z → ¬ B z → ¬ M z → (∀ b, B b → A z b) ∨ ∀ b, B b → ¬ A z b)
theorem Fr.bT {A : Nat → Nat → Prop} {T : Nat → Prop} {w : Nat} {B M : Nat → Prop} (F : Fr A T w B M) : ∀ x, B x → T x := F.1
theorem Fr.mT {A : Nat → Nat → Prop} {T : Nat → Prop} {w : Nat} {B M : Nat → Prop} (F : Fr A T w B M) : ∀ x, M x → T x := F.2.1
theorem Fr.mB {A : Nat → Nat → Prop} {T : Nat → Prop} {w : Nat} {B M : Nat → Prop} (F : Fr A T w B M) : ∀ x, M x → ¬ B x := F.2.2.1
theorem Fr.ex {A : Nat → Nat → Prop} {T : Nat → Prop} {w : Nat} {B M : Nat → Prop} (F : Fr A T w B M) : ∃ m, M m := F.2.2.2.1
theorem Fr.wB {A : Nat → Nat → Prop} {T : Nat → Prop} {w : Nat} {B M : Nat → Prop} (F : Fr A T w B M) : ∀ b, B b → T w ∧ A w b := F.2.2.2.2.1
theorem Fr.wM {A : Nat → Nat → Prop} {T : Nat → Prop} {w : Nat} {B M : Nat → Prop} (F : Fr A T w B M) : ¬ M w := F.2.2.2.2.2.1
theorem Fr.nM {A : Nat → Nat → Prop} {T : Nat → Prop} {w : Nat} {B M : Nat → Prop} (F : Fr A T w B M) : ∀ m y, M m → T y → A m y → B y ∨ M y := F.2.2.2.2.2.2.1
theorem Fr.md {A : Nat → Nat → Prop} {T : Nat → Prop} {w : Nat} {B M : Nat → Prop} (F : Fr A T w B M) : ∀ z, T z → ¬ B z → ¬ M z → (∀ b, B b → A z b) ∨ ∀ b, B b → ¬ A z b := F.2.2.2.2.2.2.2
section FRAME
variable {A : Nat → Nat → Prop} {n : Nat}
theorem frame_end (sy : ∀ x y, A x y → A y x) (ir : ∀ x, ¬ A x x) {T : Nat → Prop} (hT : ∀ x, T x → x < n) (nc : ¬ Conf A T) (hI : ∀ Y : Nat → Prop, (∀ x, Y x → T x) → cnu Y n < cnu T n → (∃ x y, Y x ∧ Y y ∧ x ≠ y) → (∃ x, leafIn A Y x) ∨ ∃ x y, twinIn A Y x y) {w : Nat} {B M : Nat → Prop} (F : Fr A T w B M) (ind : ∀ x y, M x → M y → ¬ A x y) : (∃ x, T x ∧ ∀ y, T y → ¬ A x y) ∨ (∃ x, leafIn A T x) ∨ ∃ x y, twinIn A T x y := by
  have sn : ∀ x y, ¬ A x y → ¬ A y x := fun x y h k => h (sy _ _ k)
  obtain ⟨m0, hm0⟩ := F.ex
  obtain ⟨v, -, ⟨c, hc, hcv⟩, hmin⟩ := least_nat (P := fun v => ∃ c, M c ∧ cnu (fun y => T y ∧ A c y) n = v) _ ⟨m0, hm0, rfl⟩
  have hSB : ∀ m y, M m → T y → A m y → B y := fun m y hm hy h => by
    rcases F.nM m y hm hy h with k | k
    · exact k
    · exact absurd h (ind m y hm k)
  have hcT := F.mT c hc
  by_cases h1 : ∃ s0, T s0 ∧ A c s0
  · obtain ⟨s0, hs0, cs0⟩ := h1
    have hw := (F.wB s0 (hSB c s0 hc hs0 cs0)).1
    by_cases h2 : ∃ s1, T s1 ∧ A c s1 ∧ s1 ≠ s0
    · obtain ⟨s1, hs1, cs1, hne⟩ := h2
      refine Or.inr (Or.inr (mod_twin sy ir hT nc hI (X := fun y => T y ∧ A c y) (fun x h => h.1) ⟨s1, s0, ⟨hs1, cs1⟩, ⟨hs0, cs0⟩, hne⟩ ?_ hcT (fun x h => h.2)))
      intro z hz hzS
      by_cases hall : ∀ x, T x ∧ A c x → A z x
      · exact Or.inl hall
      refine Or.inr (fun s hs zs => ?_)
      obtain ⟨s', hs'⟩ := Classical.not_forall.mp hall
      obtain ⟨⟨hs'T, cs'⟩, zs'⟩ := Classical.not_imp.mp hs'
      have ws := (F.wB s (hSB c s hc hs.1 hs.2)).2
      have ws' := (F.wB s' (hSB c s' hc hs'T cs')).2
      have cz : ¬ A c z := fun h => hzS ⟨hz, h⟩
      have cw : ¬ A c w := fun h => by
        rcases F.nM c w hc hw h with k | k
        · exact ir w (F.wB w k).2
        · exact F.wM k
      by_cases zw : A z w
      · exact nc (p4_conf sy ir (a := c) (b := s') (c := w) (d := z) (w := s) hcT hs'T hw hz hs.1 cs' (sy _ _ ws') (sy _ _ zw) cw cz (sn _ _ zs') (sy _ _ hs.2) (sy _ _ zs))
      have zB : ¬ B z := fun h => zw (sy _ _ (F.wB z h).2)
      by_cases zM : M z
      · have hle : cnu (fun y => T y ∧ A c y) n ≤ cnu (fun y => T y ∧ A z y) n := by
          rw [hcv]
          exact Nat.le_of_not_lt (fun h => hmin _ h ⟨z, zM, rfl⟩)
        have ht : ∃ t, (T t ∧ A z t) ∧ ¬ A c t := by
          apply Classical.byContradiction
          intro hno
          have hsub : ∀ i, (T i ∧ A z i) → (T i ∧ A c i) := fun i hi => ⟨hi.1, Classical.byContradiction (fun k => hno ⟨i, hi, k⟩)⟩
          have := cnu_lt (P := fun y => T y ∧ A z y) (Q := fun y => T y ∧ A c y) hsub ⟨hs'T, cs'⟩ (fun h => zs' h.2) n (hT _ hs'T)
          omega
        obtain ⟨t, ⟨htT, zt⟩, ct⟩ := ht
        have wt := (F.wB t (hSB z t zM htT zt)).2
        by_cases st : A s' t
        · exact nc (p4_conf sy ir (a := c) (b := s') (c := t) (d := z) (w := s) hcT hs'T htT hz hs.1 cs' st (sy _ _ zt) ct cz (sn _ _ zs') (sy _ _ hs.2) (sy _ _ zs))
        · exact nc (p5_conf sy ir (a := c) (b := s') (c := w) (d := t) (f := z) (w := s) hcT hs'T hw htT hz hs.1 cs' (sy _ _ ws') wt (sy _ _ zt) cw ct cz st (sn _ _ zs') (sn _ _ zw) (sy _ _ hs.2) (sy _ _ zs))
      · rcases F.md z hz zB zM with k | k
        · exact zs' (k s' (hSB c s' hc hs'T cs'))
        · exact k s (hSB c s hc hs.1 hs.2) zs
    · exact Or.inr (Or.inl ⟨c, hcT, s0, hs0, cs0, fun y hy cy => Classical.byContradiction (fun k => h2 ⟨y, hy, cy, k⟩)⟩)
  · exact Or.inl ⟨c, hcT, fun y hy h => h1 ⟨y, hy, h⟩⟩
theorem frame_go (sy : ∀ x y, A x y → A y x) (ir : ∀ x, ¬ A x x) {T : Nat → Prop} (hT : ∀ x, T x → x < n) (nc : ¬ Conf A T) (hI : ∀ Y : Nat → Prop, (∀ x, Y x → T x) → cnu Y n < cnu T n → (∃ x y, Y x ∧ Y y ∧ x ≠ y) → (∃ x, leafIn A Y x) ∨ ∃ x y, twinIn A Y x y) : ∀ (s w : Nat) (B M : Nat → Prop), cnu M n < s → Fr A T w B M → (∃ x, T x ∧ ∀ y, T y → ¬ A x y) ∨ (∃ x, leafIn A T x) ∨ ∃ x y, twinIn A T x y
  | 0, w, B, M, hs, F => by omega
  | s + 1, w, B, M, hs, F => by
    by_cases hE : ∃ c c', M c ∧ M c' ∧ A c c'
    · obtain ⟨c, c', hc, hc', cc⟩ := hE
      -- the component of c in M
      obtain ⟨C, hC⟩ : ∃ C : Nat → Prop, C = fun x => ∃ k, Wk A M k c x := ⟨_, rfl⟩
      have Cw : ∀ x, C x → ∃ k, Wk A M k c x := fun x h => by rw [hC] at h; exact h
      have wC : ∀ x k, Wk A M k c x → C x := fun x k h => by rw [hC]; exact ⟨k, h⟩
      have C0 : C c := wC c 0 ⟨rfl, hc⟩
      have CM : ∀ x, C x → M x := fun x h => by
        obtain ⟨k, h⟩ := Cw x h
        exact Wk_end h
      have CT : ∀ x, C x → T x := fun x h => F.mT x (CM x h)
      have Cs : ∀ x y, C x → M y → A x y → C y := fun x y h h1 h2 => by
        obtain ⟨k, h⟩ := Cw x h
        exact wC y _ (Wk_snoc h h2 h1)
      have C1 : C c' := Cs c c' C0 hc' cc
      have hcc : c ≠ c' := fun e => ir c (by rw [← e] at cc; exact cc)
      -- outside of C, and not in B
      have out : ∀ z x, T z → ¬ C z → ¬ B z → C x → ¬ A z x := fun z x hz h1 h2 h3 h4 => by
        rcases F.nM x z (CM x h3) hz (sy _ _ h4) with k | k
        · exact h2 k
        · exact h1 (Cs x z h3 k (sy _ _ h4))
      by_cases hB : ∃ b x, B b ∧ C x ∧ A b x
      · obtain ⟨b, x, hb, hx, bx⟩ := hB
        have hw := (F.wB b hb).1
        have wM : ∀ m, M m → ¬ A w m := fun m hm h => by
          rcases F.nM m w hm hw (sy _ _ h) with k | k
          · exact ir w (F.wB w k).2
          · exact F.wM k
        -- what one of B sees of C, all see that see something of it
        have at1 : ∀ b1 b2 x1 y, B b1 → B b2 → C x1 → C y → A b1 x1 → A b2 y → A b1 y := fun b1 b2 x1 y h1 h2 h3 h4 h5 h6 => by
          apply Classical.byContradiction
          intro h7
          obtain ⟨k1, w1⟩ := Cw x1 h3
          obtain ⟨k2, w2⟩ := Cw y h4
          have w3 : Wk A (fun v => M v ∨ v = b1) (k2 + k1) y x1 := Wk_mono (fun _ h => Or.inl h) (Wk_trans (Wk_rev sy w2) w1)
          exact nc (att_conf sy ir F.mT (F.bT b1 h1) (F.bT b2 h2) hw (F.wB b1 h1).2 (F.wB b2 h2).2 wM (fun h => F.mB b1 h h1) h6 h7 (Wk_snoc w3 (sy _ _ h5) (Or.inr rfl)) (CM y h4))
        by_cases hall : ∀ y, C y → A b y
        · refine Or.inr (Or.inr (mod_twin sy ir hT nc hI (X := C) CT ⟨c, c', C0, C1, hcc⟩ ?_ (F.bT b hb) hall))
          intro z hz hzC
          by_cases zB : B z
          · by_cases h : ∃ x1, C x1 ∧ A z x1
            · obtain ⟨x1, h3, h5⟩ := h
              exact Or.inl (fun y hy => at1 z b x1 y zB hb h3 hy h5 (hall y hy))
            · exact Or.inr (fun y hy h5 => h ⟨y, hy, h5⟩)
          · exact Or.inr (fun y hy => out z y hz hzC zB hy)
        · obtain ⟨y0, hy0⟩ := Classical.not_forall.mp hall
          obtain ⟨hy0C, by0⟩ := Classical.not_imp.mp hy0
          have hlt := cnu_lt (P := fun y => C y ∧ ¬ A b y) (Q := M) (fun y h => CM y h.1) (CM x hx) (fun h => h.2 bx) n (hT _ (CT x hx))
          refine frame_go sy ir hT nc hI s b (fun y => C y ∧ A b y) (fun y => C y ∧ ¬ A b y) (by omega) ⟨fun y h => CT y h.1, fun y h => CT y h.1, fun y h k => h.2 k.2, ⟨y0, hy0C, by0⟩, fun y h => ⟨F.bT b hb, h.2⟩, fun h => F.mB b (CM b h.1) hb, ?_, ?_⟩
          · intro m y hm hy my
            rcases F.nM m y (CM m hm.1) hy my with k | k
            · exact absurd (at1 b y x m hb k hx hm.1 bx (sy _ _ my)) hm.2
            · have hCy := Cs m y hm.1 k my
              by_cases e : A b y
              · exact Or.inl ⟨hCy, e⟩
              · exact Or.inr ⟨hCy, e⟩
          · intro z hz h1 h2
            have hzC : ¬ C z := fun h => by
              by_cases e : A b z
              · exact h1 ⟨h, e⟩
              · exact h2 ⟨h, e⟩
            by_cases zB : B z
            · by_cases h : ∃ x1, C x1 ∧ A z x1
              · obtain ⟨x1, h3, h5⟩ := h
                exact Or.inl (fun y hy => at1 z b x1 y zB hb h3 hy.1 h5 hy.2)
              · exact Or.inr (fun y hy h5 => h ⟨y, hy.1, h5⟩)
            · exact Or.inr (fun y hy => out z y hz hzC zB hy.1)
      · -- C is closed
        have out2 : ∀ z x, T z → ¬ C z → C x → ¬ A z x := fun z x hz h1 h3 h4 => by
          by_cases zB : B z
          · exact hB ⟨z, x, zB, h3, h4⟩
          · exact out z x hz h1 zB h3 h4
        by_cases hM : ∃ m, C m ∧ ¬ A c m ∧ m ≠ c
        · have hlt := cnu_lt (P := fun y => C y ∧ ¬ A c y ∧ y ≠ c) (Q := M) (fun y h => CM y h.1) hc (fun h => h.2.2 rfl) n (hT _ (F.mT c hc))
          refine frame_go sy ir hT nc hI s c (fun y => C y ∧ A c y) (fun y => C y ∧ ¬ A c y ∧ y ≠ c) (by omega) ⟨fun y h => CT y h.1, fun y h => CT y h.1, fun y h k => h.2.1 k.2, hM, fun y h => ⟨F.mT c hc, h.2⟩, fun h => h.2.2 rfl, ?_, ?_⟩
          · intro m y hm hy my
            have hCy : C y := Classical.byContradiction (fun h => out2 y m hy h hm.1 (sy _ _ my))
            by_cases e : A c y
            · exact Or.inl ⟨hCy, e⟩
            · exact Or.inr ⟨hCy, e, fun e2 => hm.2.1 (by rw [e2] at my; exact sy _ _ my)⟩
          · intro z hz h1 h2
            by_cases e : z = c
            · rw [e]; exact Or.inl (fun y hy => hy.2)
            · have hzC : ¬ C z := fun h => by
                by_cases e2 : A c z
                · exact h1 ⟨h, e2⟩
                · exact h2 ⟨h, e2, e⟩
              exact Or.inr (fun y hy => out2 z y hz hzC hy.1)
        · have hall : ∀ y, C y → y ≠ c → A c y := fun y hy hne => Classical.byContradiction (fun h => hM ⟨y, hy, h, hne⟩)
          by_cases h2 : ∃ c2, C c2 ∧ A c c2 ∧ c2 ≠ c'
          · obtain ⟨c2, hc2, cc2, hne⟩ := h2
            refine Or.inr (Or.inr (mod_twin sy ir hT nc hI (X := fun y => C y ∧ A c y) (fun y h => CT y h.1) ⟨c2, c', ⟨hc2, cc2⟩, ⟨C1, cc⟩, hne⟩ ?_ (F.mT c hc) (fun y h => h.2)))
            intro z hz hzX
            by_cases e : z = c
            · rw [e]; exact Or.inl (fun y hy => hy.2)
            · have hzC : ¬ C z := fun h => hzX ⟨h, hall z h e⟩
              exact Or.inr (fun y hy => out2 z y hz hzC hy.1)
          · refine Or.inr (Or.inl ⟨c', CT c' C1, c, F.mT c hc, sy _ _ cc, fun y hy h => ?_⟩)
            have hCy : C y := Classical.byContradiction (fun k => out2 y c' hy k C1 (sy _ _ h))
            apply Classical.byContradiction
            intro hne
            have cy := hall y hCy hne
            apply h2
            exact ⟨y, hCy, cy, fun e => ir c' (by rw [e] at h; exact h)⟩
    · exact frame_end sy ir hT nc hI F (fun x y hx hy h => hE ⟨x, y, hx, hy, h⟩)
/-- no hole, house, gem, domino: a leaf or twins -/
theorem leaf_or_twin (sy : ∀ x y, A x y → A y x) (ir : ∀ x, ¬ A x x) : ∀ (s : Nat) (T : Nat → Prop), cnu T n < s → (∀ x, T x → x < n) → ¬ Conf A T → (∃ x y, T x ∧ T y ∧ x ≠ y) → (∃ x, leafIn A T x) ∨ ∃ x y, twinIn A T x y
  | 0, T, hs, _, _, _ => by omega
  | s + 1, T, hs, hT, nc, ⟨x, y, hx, hy, hxy⟩ => by
    have hI : ∀ Y : Nat → Prop, (∀ x, Y x → T x) → cnu Y n < cnu T n → (∃ x y, Y x ∧ Y y ∧ x ≠ y) → (∃ x, leafIn A Y x) ∨ ∃ x y, twinIn A Y x y := fun Y hY hlt h2 => leaf_or_twin sy ir s Y (by omega) (fun x h => hT x (hY x h)) (fun c => nc (Conf_mono hY c)) h2
    have F : Fr A T n (fun _ => False) T := ⟨fun _ h => h.elim, fun _ h => h, fun _ _ h => h, ⟨x, hx⟩, fun _ h => h.elim, fun h => by have := hT n h; omega, fun m y _ hy _ => Or.inr hy, fun z hz _ h => absurd hz h⟩
    rcases frame_go sy ir hT nc hI (cnu T n + 1) n (fun _ => False) T (by omega) F with ⟨i, hi, hiso⟩ | h
    · have hlt := cnu_lt (P := fun y => T y ∧ y ≠ i) (Q := T) (fun _ h => h.1) hi (fun h => h.2 rfl) n (hT i hi)
      by_cases h2 : ∃ a b, (T a ∧ a ≠ i) ∧ (T b ∧ b ≠ i) ∧ a ≠ b
      · rcases hI (fun y => T y ∧ y ≠ i) (fun _ h => h.1) hlt h2 with ⟨l, hl, z, hz, lz, hu⟩ | ⟨a, b, ha, hb, hab, h3⟩
        · refine Or.inl ⟨l, hl.1, z, hz.1, lz, fun y hy ly => ?_⟩
          by_cases e : y = i
          · rw [e] at ly
            exact absurd (sy _ _ ly) (hiso l hl.1)
          · exact hu y ⟨hy, e⟩ ly
        · refine Or.inr ⟨a, b, ha.1, hb.1, hab, fun z hz hza hzb => ?_⟩
          by_cases e : z = i
          · rw [e]
            exact ⟨fun h => absurd (sy _ _ h) (hiso a ha.1), fun h => absurd (sy _ _ h) (hiso b hb.1)⟩
          · exact h3 z ⟨hz, e⟩ hza hzb
      · -- one more only
        have : ∃ j, T j ∧ j ≠ i := by
          by_cases e : x = i
          · exact ⟨y, hy, fun e2 => hxy (by rw [e, e2])⟩
          · exact ⟨x, hx, e⟩
        obtain ⟨j, hj, hji⟩ := this
        refine Or.inr ⟨i, j, hi, hj, fun e => hji e.symm, fun z hz hzi hzj => ?_⟩
        exact absurd ⟨z, j, ⟨hz, hzi⟩, ⟨hj, hji⟩, hzj⟩ h2
    · exact h
end FRAME
