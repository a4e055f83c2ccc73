/-! flip, neighbours, component -/
def tog (g : Nat → Nat) (a b : Nat) : Nat → Nat := fun i => if i = a then g a ^^^ 2 ^ b else if i = b then g b ^^^ 2 ^ a else g i
theorem tog_a (g : Nat → Nat) (a b : Nat) : tog g a b a = g a ^^^ 2 ^ b := if_pos rfl
theorem tog_b {g : Nat → Nat} {a b : Nat} (h : a ≠ b) : tog g a b b = g b ^^^ 2 ^ a := by
  unfold tog
  rw [if_neg (fun e => h e.symm), if_pos rfl]
theorem tog_o {g : Nat → Nat} {a b i : Nat} (h1 : i ≠ a) (h2 : i ≠ b) : tog g a b i = g i := by
  unfold tog
  rw [if_neg h1, if_neg h2]
theorem tog_bit {g : Nat → Nat} {a b : Nat} (h : a ≠ b) (i j : Nat) : (tog g a b i).testBit j = ((g i).testBit j ^^ decide ((i = a ∧ j = b) ∨ (i = b ∧ j = a))) := by
  by_cases h1 : i = a
  · subst h1
    rw [tog_a, Nat.testBit_xor, Nat.testBit_two_pow]
    congr 1
    by_cases h2 : b = j
    · subst h2
      simp
    · have h3 : ¬ j = b := fun e => h2 e.symm
      simp [h2, h, h3]
  · by_cases h2 : i = b
    · subst h2
      rw [tog_b h, Nat.testBit_xor, Nat.testBit_two_pow]
      congr 1
      by_cases h3 : a = j
      · subst h3
        simp
      · have h4 : ¬ j = a := fun e => h3 e.symm
        simp [h3, h1, h4]
    · rw [tog_o h1 h2]
      simp [h1, h2]
theorem Gr_tog {N : Nat} {g : Nat → Nat} (hg : Gr N g) {a b : Nat} (ha : a < N) (hb : b < N) (h : a ≠ b) : Gr N (tog g a b) := by
  refine ⟨fun i hi => ?_, fun i j hi hj => ?_, fun i hi => ?_⟩
  · by_cases h1 : i = a
    · subst h1
      rw [tog_a]
      exact Nat.xor_lt_two_pow (hg.1 i hi) (two_lt hb)
    · by_cases h2 : i = b
      · subst h2
        rw [tog_b h]
        exact Nat.xor_lt_two_pow (hg.1 i hi) (two_lt ha)
      · rw [tog_o h1 h2]
        exact hg.1 i hi
  · rw [tog_bit h, tog_bit h, hg.2.1 i j hi hj]
    congr 1
    apply decide_eq_decide.mpr
    constructor
    · rintro (⟨rfl, rfl⟩ | ⟨rfl, rfl⟩)
      · exact Or.inr ⟨rfl, rfl⟩
      · exact Or.inl ⟨rfl, rfl⟩
    · rintro (⟨rfl, rfl⟩ | ⟨rfl, rfl⟩)
      · exact Or.inr ⟨rfl, rfl⟩
      · exact Or.inl ⟨rfl, rfl⟩
  · rw [tog_bit h, hg.2.2 i hi]
    have : ¬ ((i = a ∧ i = b) ∨ (i = b ∧ i = a)) := by
      rintro (⟨rfl, rfl⟩ | ⟨rfl, rfl⟩) <;> exact h rfl
    simp [this]
def togI (f : Nat → Int32) (a b : Nat) : Nat → Int32 := upd (upd f a (f a ^^^ nI (2 ^ b))) b (upd f a (f a ^^^ nI (2 ^ b)) b ^^^ nI (2 ^ a))
theorem Hn_tog {N : Nat} {g : Nat → Nat} {f : Nat → Int32} (hn : Hn N g f) {a b : Nat} (ha : a < N) (hb : b < N) (h : a ≠ b) : Hn N (tog g a b) (togI f a b) := by
  intro i hi
  unfold togI
  by_cases h2 : i = b
  · subst h2
    rw [pk_us, pk_un (fun e => h e.symm), hn i hi, nx_xor, tog_b h]
  · rw [pk_un h2]
    by_cases h1 : i = a
    · subst h1
      rw [pk_us, hn i hi, nx_xor, tog_a]
    · rw [pk_un h1, hn i hi, tog_o h1 h2]
theorem e_toggle {N : Nat} (h9 : N ≤ 9) (f : Nat → Int32) {a b : Nat} (ha : a < N) (hb : b < N) : ev (fun n => mG_toggle N n 0 [nI a, nI b] f) (togI f a b) := by
  refine ev_s (fun n => mG_toggle_e0 N n _ _ _) ?_
  refine ev_g (vp_in_nI ha (by omega)) (ev_g (vp_in_nI ha (by omega)) (ev_g (vp_in_nI hb (by omega)) (ev_g (vp_in_nI hb (by omega)) ?_)))
  refine ev_e ?_ (ev_p _)
  rw [nI_clamp (by omega), nI_clamp (by omega), nx_shl (by omega), nx_shl (by omega)]
  rfl
theorem e_edge {N : Nat} {g : Nat → Nat} {f : Nat → Int32} (h9 : N ≤ 9) (hg : Gr N g) (hn : Hn N g f) {a b : Nat} (ha : a < N) (hb : b < N) : ev (fun n => mG_edge N f n 0 [nI a, nI b]) (bI ((g a).testBit b)) := by
  refine ev_s (fun n => mG_edge_e0 N f n _ _) ?_
  refine ev_g (vp_in_nI ha (by omega)) ?_
  rw [hn.at h9 ha]
  refine ev_b (e_contains (p31 h9 (hg.1 a ha)) (by omega)) (ev_p _)
theorem bI_t : ¬ bI true = 0 := by decide
theorem bI_f : bI false = 0 := by decide
/-- both flips: nothing happens -/
theorem e_flip0 {N : Nat} {a b : Int32} (h : isV N a = false ∨ isV N b = false ∨ a = b) (f : Nat → Int32) (wh : Int32) (f2 : Nat → Int32) : ev (fun n => mF_flip N n 0 [a, b] f wh) (0, f, wh) ∧ ev (fun n => mM_flip N n 0 [a, b] f2) (0, f2) := by
  constructor
  · refine ev_s (fun n => mF_flip_e0 N n _ _ _ _) ?_
    refine ev_b (e_has N a) ?_
    cases ha : isV N a
    · exact ev_t bI_f (ev_p _)
    · refine ev_f bI_t ?_
      refine ev_b (e_has N b) ?_
      cases hb : isV N b
      · exact ev_t bI_f (ev_p _)
      · refine ev_f bI_t ?_
        rw [ha, hb] at h
        rcases h with h | h | h
        · cases h
        · cases h
        · exact ev_t h (ev_p _)
  · refine ev_s (fun n => mM_flip_e0 N n _ _ _) ?_
    refine ev_b (e_is N a) ?_
    cases ha : isV N a
    · exact ev_t bI_f (ev_p _)
    · refine ev_f bI_t ?_
      refine ev_b (e_is N b) ?_
      cases hb : isV N b
      · exact ev_t bI_f (ev_p _)
      · refine ev_f bI_t ?_
        rw [ha, hb] at h
        rcases h with h | h | h
        · cases h
        · cases h
        · exact ev_t h (ev_p _)
theorem isV_t {N a : Nat} (h9 : N ≤ 9) (ha : a < N) : isV N (nI a) = true := decide_eq_true ⟨nI_pos (by omega), nI_ge ha (by omega)⟩
theorem e_flip1 {N : Nat} {g : Nat → Nat} (h9 : N ≤ 9) (hg : Gr N g) {a b : Nat} (ha : a < N) (hb : b < N) (h : a ≠ b) {f : Nat → Int32} (hf : Hn N g f) (wh : Int32) {f2 : Nat → Int32} (hf2 : Hn N g f2) : ev (fun n => mF_flip N n 0 [nI a, nI b] f wh) (bI ((tog g a b a).testBit b), togI f a b, 0) ∧ ev (fun n => mM_flip N n 0 [nI a, nI b] f2) (bI ((tog g a b a).testBit b), togI f2 a b) := by
  have hne : ¬ nI a = nI b := fun e => h ((nI_eq (by omega) (by omega)).mp e)
  constructor
  · refine ev_s (fun n => mF_flip_e0 N n _ _ _ _) ?_
    refine ev_b (e_has N _) ?_
    rw [isV_t h9 ha]
    refine ev_f bI_t ?_
    refine ev_b (e_has N _) ?_
    rw [isV_t h9 hb]
    refine ev_f bI_t ?_
    refine ev_f hne ?_
    refine ev_b (e_toggle h9 f ha hb) ?_
    refine ev_b (ev_s (fun n => mT_forget_e0 N n _) (ev_p _)) ?_
    refine ev_b (e_edge h9 (Gr_tog hg ha hb h) (Hn_tog hf ha hb h) ha hb) ?_
    exact ev_p _
  · refine ev_s (fun n => mM_flip_e0 N n _ _ _) ?_
    refine ev_b (e_is N _) ?_
    rw [isV_t h9 ha]
    refine ev_f bI_t ?_
    refine ev_b (e_is N _) ?_
    rw [isV_t h9 hb]
    refine ev_f bI_t ?_
    refine ev_f hne ?_
    refine ev_g (vp_in_nI (by omega) (by omega)) (ev_g (vp_in_nI (by omega) (by omega)) (ev_g (vp_in_nI (by omega) (by omega)) (ev_g (vp_in_nI (by omega) (by omega)) (ev_g (vp_in_nI (by omega) (by omega)) ?_))))
    rw [nI_clamp (n := a) (by omega), nI_clamp (n := b) (by omega), nx_shl (by omega), nx_shl (by omega)]
    have e : (upd (upd f2 a (f2 a ^^^ nI (2 ^ b))) b (upd f2 a (f2 a ^^^ nI (2 ^ b)) b ^^^ nI (2 ^ a))) = togI f2 a b := rfl
    rw [e, Hn_tog hf2 ha hb h a ha, nx_bit (p31 h9 ((Gr_tog hg ha hb h).1 a ha)) (by omega)]
    cases (tog g a b a).testBit b
    · exact ev_f (by decide) (ev_p _)
    · exact ev_t (by decide) (ev_p _)
theorem e_nei {N : Nat} {g : Nat → Nat} (h9 : N ≤ 9) (hg : Gr N g) {f f2 : Nat → Int32} (hf : Hn N g f) (hf2 : Hn N g f2) (a b : Int32) : ∃ r, ev (fun n => mF_neighbours N f n 0 [a, b]) r ∧ ev (fun n => mM_neighbours N f2 n 0 [a, b]) r := by
  cases ha : isV N a
  · refine ⟨0, ev_s (fun n => mF_neighbours_e0 N f n _ _) (ev_b (e_has N a) ?_), ev_s (fun n => mM_neighbours_e0 N f2 n _ _) (ev_b (e_is N a) ?_)⟩
    · rw [ha]; exact ev_t bI_f (ev_p _)
    · rw [ha]; exact ev_t bI_f (ev_p _)
  · cases hb : isV N b
    · refine ⟨0, ev_s (fun n => mF_neighbours_e0 N f n _ _) (ev_b (e_has N a) ?_), ev_s (fun n => mM_neighbours_e0 N f2 n _ _) (ev_b (e_is N a) ?_)⟩
      · rw [ha]; refine ev_f bI_t (ev_b (e_has N b) ?_); rw [hb]; exact ev_t bI_f (ev_p _)
      · rw [ha]; refine ev_f bI_t (ev_b (e_is N b) ?_); rw [hb]; exact ev_t bI_f (ev_p _)
    · obtain ⟨i, hi, rfl⟩ := isV_j h9 ha
      obtain ⟨j, hj, rfl⟩ := isV_j h9 hb
      refine ⟨bI ((g i).testBit j), ev_s (fun n => mF_neighbours_e0 N f n _ _) (ev_b (e_has N _) ?_), ev_s (fun n => mM_neighbours_e0 N f2 n _ _) (ev_b (e_is N _) ?_)⟩
      · rw [ha]; refine ev_f bI_t (ev_b (e_has N _) ?_); rw [hb]; refine ev_f bI_t (ev_b (e_edge h9 hg hf hi hj) ?_)
        cases (g i).testBit j
        · exact ev_t bI_f (ev_p _)
        · exact ev_f bI_t (ev_p _)
      · rw [ha]; refine ev_f bI_t (ev_b (e_is N _) ?_); rw [hb]; refine ev_f bI_t (ev_g (vp_in_nI (by omega) (by omega)) ?_)
        rw [hf2.at h9 hi, nx_bit (p31 h9 (hg.1 i hi)) (by omega)]
        cases (g i).testBit j
        · exact ev_f (by decide) (ev_p _)
        · exact ev_t (by decide) (ev_p _)
/-- the component in the whole graph -/
def cmp (N : Nat) (g : Nat → Nat) (v : Nat) : Nat := comp N g (2 ^ N - 1) v
theorem e_compOf {N : Nat} {g : Nat → Nat} (h1 : 1 ≤ N) (h9 : N ≤ 9) (hg : Gr N g) {f : Nat → Int32} (hf : Hn N g f) {v : Nat} (hv : v < N) : ev (fun n => mF_componentOf N f n 0 [nI v]) (nI (cmp N g v)) := by
  refine ev_s (fun n => mF_componentOf_e0 N f n _) ?_
  refine ev_b (e_Gall h1 h9) ?_
  exact ev_b (e_reached h9 hg hf _ hv) (ev_p _)
theorem shl_all {N : Nat} (h1 : 1 ≤ N) (h9 : N ≤ 9) : ((1 : Int32) <<< ((nI N) &&& 31)) - 1 = nI (2 ^ N - 1) := by
  rcases (show N = 1 ∨ N = 2 ∨ N = 3 ∨ N = 4 ∨ N = 5 ∨ N = 6 ∨ N = 7 ∨ N = 8 ∨ N = 9 by omega) with rfl | rfl | rfl | rfl | rfl | rfl | rfl | rfl | rfl <;> decide
theorem e_Mcomp {N : Nat} {g : Nat → Nat} (h1 : 1 ≤ N) (h9 : N ≤ 9) (hg : Gr N g) {f : Nat → Int32} (hf : Hn N g f) {v : Nat} (hv : v < N) : ev (fun n => mM_component N f n 0 [nI v]) (nI (cmp N g v)) := by
  refine ev_s (fun n => mM_component_e0 N f n _) ?_
  refine ev_b (e_is N _) ?_
  rw [isV_t h9 hv]
  refine ev_f bI_t ?_
  rw [shl_all h1 h9]
  exact ev_b (e_within h9 hg hf _ hv) (ev_p _)
theorem e_component {N : Nat} {g : Nat → Nat} (h1 : 1 ≤ N) (h9 : N ≤ 9) (hg : Gr N g) {f f2 : Nat → Int32} (hf : Hn N g f) (hf2 : Hn N g f2) (a : Int32) : ∃ r, ev (fun n => mF_component N f n 0 [a]) r ∧ ev (fun n => mM_component N f2 n 0 [a]) r := by
  cases ha : isV N a
  · refine ⟨0, ev_s (fun n => mF_component_e0 N f n _) (ev_b (e_has N a) ?_), ev_s (fun n => mM_component_e0 N f2 n _) (ev_b (e_is N a) ?_)⟩
    · rw [ha]; exact ev_t bI_f (ev_p _)
    · rw [ha]; exact ev_t bI_f (ev_p _)
  · obtain ⟨i, hi, rfl⟩ := isV_j h9 ha
    refine ⟨nI (cmp N g i), ev_s (fun n => mF_component_e0 N f n _) (ev_b (e_has N _) ?_), e_Mcomp h1 h9 hg hf2 hi⟩
    rw [ha]
    exact ev_f bI_t (ev_b (e_compOf h1 h9 hg hf hi) (ev_p _))
theorem e_vertices (N : Nat) : ev (fun n => mF_vertices N n 0 []) (nI N) ∧ ev (fun n => mM_vertices N n 0 []) (nI N) :=
  ⟨ev_s (fun n => mF_vertices_e0 N n) (ev_b (e_Gsize N) (ev_p _)), ev_s (fun n => mM_vertices_e0 N n) (ev_p _)⟩
