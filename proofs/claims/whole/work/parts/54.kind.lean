/-! kind, parts, part, centre: class against model -/
section KIND
variable {N : Nat} {g : Nat → Nat} {f f2 : Nat → Int32} {c : Nat}
theorem pk_uc {h : Nat → Int32} {a b : Nat} {x : Int32} (e : b ≠ a) : upd h a x b = h b := pk_un e
theorem e_fj2 (h9 : N ≤ 9) (hg : Gr N g) (hn : Hn N g f) {P : List Nat} {ps : Nat → Int32} (hy : holds ps P) (hP : P.length ≤ N) (hb : ∀ i, i < P.length → P.getD i 0 < 2 ^ N) (ns : Nat → Int32) (nc wh pn : Int32) {i : Nat} (hi : i < P.length) : ∀ r j dg, j + r = i → (∀ k, k < i → dg k = nI (dgD (JP N g P) i k + (if k < j ∧ JP N g P i k = true then 1 else 0))) → dg i = nI (cnt (JP N g P i) j) → ∃ dg', (∀ k, k < i + 1 → dg' k = nI (dgD (JP N g P) (i + 1) k)) ∧ ∀ R, ev (fun n => mT_findJoins N f ns nc wh n 1 [nI (i + 1)] ps dg' pn (nI (prE (JP N g P) (i + 1)))) R → ev (fun n => mT_findJoins N f ns nc wh n 2 [nI i, nI j] ps dg pn (nI (prE (JP N g P) i + cnt (JP N g P i) j))) R
  | 0, j, dg, h, h1, h2 => by
    have hJ : ∀ i j, i < P.length → j < P.length → JP N g P i j = JP N g P j i := fun i j hi hj => jnd_comm hg (hb i hi) (hb j hj)
    have e : j = i := by omega
    subst e
    refine ⟨dg, fun k hk => ?_, fun R hR => ?_⟩
    · by_cases q : k = j
      · rw [q, dgD_self2, h2]
      · rw [h1 k (by omega), dgD_s _ _ _ q, hJ k j (by omega) hi]
        congr 2
        by_cases r : JP N g P j k = true
        · rw [if_pos ⟨by omega, r⟩, if_pos r]
        · rw [if_neg (fun s => r s.2), if_neg r]
    · refine ev_s (fun n => mT_findJoins_e2 N f ns nc wh n _ _ _ _ _ _) ?_
      refine ev_t (nI_le (Nat.le_refl _) (by omega)) ?_
      rw [nI_1]
      exact hR
  | r + 1, j, dg, h, h1, h2 => by
    have hj : j < i := by omega
    refine (?_ : ∃ dg', _ ∧ _)
    cases hJ : JP N g P i j
    · obtain ⟨dg', q1, q2⟩ := e_fj2 h9 hg hn hy hP hb ns nc wh pn hi r (j + 1) dg (by omega) (fun k hk => by
        rw [h1 k hk]
        congr 2
        by_cases e : k = j
        · subst e
          rw [if_neg (fun s => by omega), if_neg (fun s => by rw [hJ] at s; cases s.2)]
        · by_cases s : k < j ∧ JP N g P i k = true
          · rw [if_pos s, if_pos ⟨by omega, s.2⟩]
          · rw [if_neg s, if_neg (fun t => s ⟨by omega, t.2⟩)]) (by
        rw [h2]
        show _ = nI (cnt (JP N g P i) j + (if JP N g P i j = true then 1 else 0))
        rw [hJ]
        rfl)
      refine ⟨dg', q1, fun R hR => ?_⟩
      have q := q2 R hR
      have e : cnt (JP N g P i) (j + 1) = cnt (JP N g P i) j := by
        show cnt (JP N g P i) j + (if JP N g P i j = true then 1 else 0) = _
        rw [hJ]
        rfl
      rw [e] at q
      refine ev_s (fun n => mT_findJoins_e2 N f ns nc wh n _ _ _ _ _ _) ?_
      refine ev_f (nI_ge hj (by omega)) ?_
      refine ev_g (vp_in_nI (by omega) (by omega)) (ev_g (vp_in_nI (by omega) (by omega)) ?_)
      rw [nI_clamp (n := i) (by omega), nI_clamp (n := j) (by omega), hy i hi, hy j (by omega)]
      refine ev_b (e_joined h9 hg hn (p31 h9 (hb i hi)) _) ?_
      rw [show jnd N g (P.getD i 0) (P.getD j 0) = false from hJ, nI_1]
      exact ev_t bI_f q
    · have e : cnt (JP N g P i) (j + 1) = cnt (JP N g P i) j + 1 := by
        show cnt (JP N g P i) j + (if JP N g P i j = true then 1 else 0) = _
        rw [hJ]
        rfl
      obtain ⟨dg', q1, q2⟩ := e_fj2 h9 hg hn hy hP hb ns nc wh pn hi r (j + 1) (upd (upd dg i (dg i + 1)) j (upd dg i (dg i + 1) j + 1)) (by omega) (fun k hk => by
        by_cases e2 : k = j
        · subst e2
          rw [pk_us, pk_un (by omega), h1 k hk, if_neg (fun s => by omega), if_pos ⟨by omega, hJ⟩, nI_1]
        · rw [pk_un e2, pk_un (by omega), h1 k hk]
          congr 2
          by_cases s : k < j ∧ JP N g P i k = true
          · rw [if_pos s, if_pos ⟨by omega, s.2⟩]
          · rw [if_neg s, if_neg (fun t => s ⟨by omega, t.2⟩)]) (by
        rw [pk_un (by omega), pk_us, h2, e, nI_1])
      refine ⟨dg', q1, fun R hR => ?_⟩
      have q := q2 R hR
      rw [e, ← Nat.add_assoc] at q
      refine ev_s (fun n => mT_findJoins_e2 N f ns nc wh n _ _ _ _ _ _) ?_
      refine ev_f (nI_ge hj (by omega)) ?_
      refine ev_g (vp_in_nI (by omega) (by omega)) (ev_g (vp_in_nI (by omega) (by omega)) ?_)
      rw [nI_clamp (n := i) (by omega), nI_clamp (n := j) (by omega), hy i hi, hy j (by omega)]
      refine ev_b (e_joined h9 hg hn (p31 h9 (hb i hi)) _) ?_
      rw [show jnd N g (P.getD i 0) (P.getD j 0) = true from hJ]
      refine ev_f bI_t ?_
      refine ev_g (vp_in_nI (by omega) (by omega)) (ev_g (vp_in_nI (by omega) (by omega)) (ev_g (vp_in_nI (by omega) (by omega)) (ev_g (vp_in_nI (by omega) (by omega)) ?_)))
      rw [nI_1, nI_1]
      exact q
theorem e_fj1 (h9 : N ≤ 9) (hg : Gr N g) (hn : Hn N g f) {P : List Nat} {ps : Nat → Int32} (hy : holds ps P) (hP : P.length ≤ N) (hb : ∀ i, i < P.length → P.getD i 0 < 2 ^ N) (ns : Nat → Int32) (nc wh : Int32) : ∀ r i dg, i + r = P.length → (∀ k, k < i → dg k = nI (dgD (JP N g P) i k)) → ∃ dg', (∀ k, k < P.length → dg' k = nI (dgD (JP N g P) P.length k)) ∧ ev (fun n => mT_findJoins N f ns nc wh n 1 [nI i] ps dg (nI P.length) (nI (prE (JP N g P) i))) (ps, dg', nI P.length, nI (prE (JP N g P) P.length))
  | 0, i, dg, h, h1 => by
    rw [show i = P.length by omega] at h1 ⊢
    refine ⟨dg, h1, ?_⟩
    refine ev_s (fun n => mT_findJoins_e1 N f ns nc wh n _ _ _ _ _) ?_
    exact ev_t (nI_le (Nat.le_refl _) (by omega)) (ev_p _)
  | r + 1, i, dg, h, h1 => by
    have hi : i < P.length := by omega
    obtain ⟨dg1, q1, q2⟩ := e_fj2 h9 hg hn hy hP hb ns nc wh (nI P.length) hi i 0 (upd dg i 0) (by omega) (fun k hk => by
      rw [pk_un (by omega), h1 k hk, if_neg (fun s => by omega)]
      rfl) (by rw [pk_us]; rfl)
    obtain ⟨dg', r1, r2⟩ := e_fj1 h9 hg hn hy hP hb ns nc wh r (i + 1) dg1 (by omega) q1
    refine ⟨dg', r1, ?_⟩
    refine ev_s (fun n => mT_findJoins_e1 N f ns nc wh n _ _ _ _ _) ?_
    refine ev_f (nI_ge hi (by omega)) ?_
    refine ev_g (vp_in_nI (by omega) (by omega)) ?_
    rw [nI_clamp (by omega)]
    exact q2 _ r2
/-- the list of a node's parts -/
def PT (N : Nat) (g : Nat → Nat) (c i : Nat) : List Nat := ptL N g c ((nds N g c).getD i 0) i
theorem PT_mem (h9 : N ≤ 9) (hc : c < 2 ^ N) {i : Nat} (hi : i < (nds N g c).length) (x : Nat) : x ∈ PT N g c i ↔ ∃ v, c.testBit v = true ∧ x = pw N g c ((nds N g c).getD i 0) v := by
  have ho := nd_ok (N := N) (g := g) (c := c) hi
  have hc5 := p512 h9 hc
  unfold PT ptL
  rw [List.mem_filter, List.mem_range]
  constructor
  · rintro ⟨h5, h6⟩
    exact (prt_iff hc5 h5 ho).mp h6
  · rintro ⟨v, a1, a2⟩
    have hx5 : x < 512 := by
      rw [a2]
      exact sub_lt (N := 9) (pw_c (ndOK_sub ho)) hc5
    exact ⟨hx5, (prt_iff hc5 hx5 ho).mpr ⟨v, a1, a2⟩⟩
theorem PT_lt (h9 : N ≤ 9) (hc : c < 2 ^ N) {i : Nat} (hi : i < (nds N g c).length) : ∀ j, j < (PT N g c i).length → (PT N g c i).getD j 0 < 2 ^ N := fun j hj => by
  obtain ⟨v, a1, a2⟩ := (PT_mem h9 hc hi _).mp (getD_mem hj)
  rw [a2]
  exact sub_lt (pw_c (ndOK_sub (nd_ok (N := N) (g := g) (c := c) hi))) hc
theorem PT_pos (h9 : N ≤ 9) (hc : c < 2 ^ N) (h0 : c ≠ 0) {i : Nat} (hi : i < (nds N g c).length) : 1 ≤ (PT N g c i).length := by
  obtain ⟨v, hv⟩ := ne0_bit h0
  have := (PT_mem h9 hc hi (pw N g c ((nds N g c).getD i 0) v)).mpr ⟨v, hv, rfl⟩
  exact List.length_pos_of_mem this
theorem PT_len (h9 : N ≤ 9) (hc : c < 2 ^ N) (h0 : c ≠ 0) {i : Nat} (hi : i < (nds N g c).length) : (PT N g c i).length ≤ N := ptL_len h9 hc h0 hi
theorem e_findJoins (h9 : N ≤ 9) (hg : Gr N g) (hn : Hn N g f) (hc : c < 2 ^ N) (h0 : c ≠ 0) {ns : Nat → Int32} (hz : holds ns (nds N g c)) {i : Nat} (hi : i < (nds N g c).length) (ps dg : Nat → Int32) (pn pj : Int32) : ∃ ps' dg', holds ps' (PT N g c i) ∧ (∀ k, k < (PT N g c i).length → dg' k = nI (dgD (JP N g (PT N g c i)) (PT N g c i).length k)) ∧ ev (fun n => mT_findJoins N f ns (nI (nds N g c).length) (nI c) n 0 [nI i] ps dg pn pj) (ps', dg', nI (PT N g c i).length, nI (prE (JP N g (PT N g c i)) (PT N g c i).length)) := by
  obtain ⟨ps', q1, q2, q3⟩ := e_findParts (g := g) h9 hc h0 hz hi ps pn
  obtain ⟨dg', r1, r2⟩ := e_fj1 h9 hg hn (P := PT N g c i) q1 q2 (PT_lt h9 hc hi) ns (nI (nds N g c).length) (nI c) (PT N g c i).length 0 dg (by omega) (fun k hk => by omega)
  refine ⟨ps', dg', q1, r1, ?_⟩
  refine ev_s (fun n => mT_findJoins_e0 N f ns _ _ n _ _ _ _ _) ?_
  exact ev_b q3 r2
theorem fsF_step (J : Nat → Nat → Bool) (m i : Nat) : fsF J m (i + 1) = (match fsF J m i with | some k => some k | none => if dgD J m i = m - 1 then some i else none) := rfl
/-- the first from i on -/
def fsG (J : Nat → Nat → Bool) (m : Nat) : Nat → Nat → Option Nat
  | 0, _ => none
  | k + 1, i => if dgD J m i = m - 1 then some i else fsG J m k (i + 1)
theorem fsG_F (J : Nat → Nat → Bool) (m : Nat) : ∀ k i, fsF J m i = none → fsF J m (i + k) = fsG J m k i
  | 0, i, h => h
  | k + 1, i, h => by
    rw [show i + (k + 1) = i + 1 + k by omega]
    unfold fsG
    by_cases q : dgD J m i = m - 1
    · rw [if_pos q]
      have h1 : fsF J m (i + 1) = some i := by
        rw [fsF_step, h]
        simp only [q, if_true]
      have h2 : ∀ k, fsF J m (i + 1 + k) = some i := by
        intro k
        induction k with
        | zero => exact h1
        | succ k ih =>
          show fsF J m (i + 1 + k + 1) = some i
          rw [fsF_step, ih]
      exact h2 k
    · rw [if_neg q]
      refine fsG_F J m k (i + 1) ?_
      rw [fsF_step, h]
      simp only [q, if_false]
theorem e_ciL (h9 : N ≤ 9) {J : Nat → Nat → Bool} {m : Nat} (hm : m ≤ N) (h1 : 1 ≤ m) {dg : Nat → Int32} (hd : ∀ k, k < m → dg k = nI (dgD J m k)) : ∀ k i, i + k = m → ev (fun n => mT_centreIndex N dg (nI m) (nI (prE J m)) n 1 [nI i]) (if prE J m = m - 1 then oI (fsG J m k i) else -1)
  | 0, i, h => by
    refine ev_s (fun n => mT_centreIndex_e1 N dg _ _ n _) ?_
    refine ev_t (nI_le (by omega) (by omega)) ?_
    show ev _ (if _ then (-1 : Int32) else -1)
    rw [ite_self]
    exact ev_p _
  | k + 1, i, h => by
    have hi : i < m := by omega
    have ih := e_ciL h9 hm h1 hd k (i + 1) (by omega)
    have hdi := cnt_le (fun l => decide (l ≠ i) && J i l) m
    have hE := prE_le J m
    have hm2 : m * m ≤ 9 * 9 := Nat.mul_le_mul (by omega) (by omega)
    have e1 : nI m - 1 = nI (m - 1) := by
      obtain ⟨z, rfl⟩ : ∃ z, m = z + 1 := ⟨m - 1, by omega⟩
      exact nI_pred z
    refine ev_s (fun n => mT_centreIndex_e1 N dg _ _ n _) ?_
    refine ev_f (nI_ge hi (by omega)) ?_
    refine ev_g (vp_in_nI (by omega) (by omega)) ?_
    rw [nI_clamp (n := i) (by omega), hd i hi, e1, nI_1]
    unfold fsG
    by_cases q1 : dgD J m i = m - 1
    · refine ev_t (by rw [q1]) ?_
      by_cases q2 : prE J m = m - 1
      · refine ev_t (by rw [q2]) ?_
        rw [if_pos q2, if_pos q1]
        exact ev_p _
      · refine ev_f (fun r => q2 ((nI_eq (by omega) (by omega)).mp r)) ?_
        rw [if_neg q2] at ih ⊢
        exact ih
    · refine ev_f (fun r => q1 ((nI_eq (show dgD J m i < 2 ^ 31 by show cnt _ _ < _; omega) (by omega)).mp r)) ?_
      rw [if_neg q1]
      exact ih
def ciI (J : Nat → Nat → Bool) (m : Nat) : Int32 := if prE J m = m - 1 then oI (fsF J m m) else -1
theorem e_centreIndex (h9 : N ≤ 9) {J : Nat → Nat → Bool} {m : Nat} (hm : m ≤ N) (h1 : 1 ≤ m) {dg : Nat → Int32} (hd : ∀ k, k < m → dg k = nI (dgD J m k)) : ev (fun n => mT_centreIndex N dg (nI m) (nI (prE J m)) n 0 []) (ciI J m) := by
  refine ev_s (fun n => mT_centreIndex_e0 N dg _ _ n) ?_
  have := e_ciL h9 hm h1 hd m 0 (by omega)
  rw [← fsG_F J m m 0 rfl, Nat.zero_add] at this
  exact this
/-- the kind of a node as a number -/
def kdI (J : Nat → Nat → Bool) (m : Nat) : Int32 := if prE J m = m * (m - 1) / 2 then 1 else if ciI J m = -1 then 3 else 2
theorem e_nodeKind (h9 : N ≤ 9) (hg : Gr N g) (hn : Hn N g f) (hc : c < 2 ^ N) (h0 : c ≠ 0) {ns : Nat → Int32} (hz : holds ns (nds N g c)) {i : Nat} (hi : i < (nds N g c).length) (ps dg : Nat → Int32) (pn pj : Int32) : ∃ ps' dg', holds ps' (PT N g c i) ∧ (∀ k, k < (PT N g c i).length → dg' k = nI (dgD (JP N g (PT N g c i)) (PT N g c i).length k)) ∧ ev (fun n => mT_nodeKind N f ns (nI (nds N g c).length) (nI c) n 0 [nI i] ps dg pn pj) (kdI (JP N g (PT N g c i)) (PT N g c i).length, ps', dg', nI (PT N g c i).length, nI (prE (JP N g (PT N g c i)) (PT N g c i).length)) := by
  obtain ⟨ps', dg', q1, q2, q3⟩ := e_findJoins h9 hg hn hc h0 hz hi ps dg pn pj
  refine ⟨ps', dg', q1, q2, ?_⟩
  have hP := PT_len (g := g) h9 hc h0 hi
  have hP1 := PT_pos (g := g) h9 hc h0 hi
  have hci := e_centreIndex h9 hP hP1 q2
  generalize (PT N g c i).length = m at *
  generalize JP N g (PT N g c i) = J at *
  have hE := prE_le J m
  have hm2 : m * m ≤ 9 * 9 := Nat.mul_le_mul (by omega) (by omega)
  have hm3 : m * (m - 1) ≤ 9 * 8 := Nat.mul_le_mul (by omega) (by omega)
  refine ev_s (fun n => mT_nodeKind_e0 N f ns _ _ n _ _ _ _ _) ?_
  refine ev_b q3 ?_
  have e1 : nI m * (nI m - 1) / 2 = nI (m * (m - 1) / 2) := by
    obtain ⟨z, rfl⟩ : ∃ z, m = z + 1 := ⟨m - 1, by omega⟩
    rw [nI_pred, pk_mul]
    exact pk_div (d := 2) (by show (z + 1) * z < _; simp only [Nat.add_sub_cancel] at hm3; omega) (by decide) (by decide)
  show ev (fun n => if nI (prE J m) = nI m * (nI m - 1) / 2 then _ else _) _
  rw [e1]
  unfold kdI
  by_cases q : prE J m = m * (m - 1) / 2
  · rw [if_pos q]
    exact ev_t (by rw [q]) (ev_p _)
  · rw [if_neg q]
    refine ev_f (fun r => q ((nI_eq (by omega) (by omega)).mp r)) ?_
    refine ev_b hci ?_
    by_cases r : ciI J m = -1
    · refine ev_t r ?_
      rw [if_pos r]
      exact ev_p _
    · refine ev_f r ?_
      rw [if_neg r]
      exact ev_p _
theorem mid_kd (J : Nat → Nat → Bool) (m : Nat) : midI J m = if prE J m = m * (m - 1) / 2 then -2 else ciI J m := rfl
theorem ci_cases {J : Nat → Nat → Bool} {m : Nat} (hm : m ≤ 9) : ciI J m = -1 ∨ ∃ k, k < m ∧ ciI J m = nI k := by
  unfold ciI
  by_cases q : prE J m = m - 1
  · rw [if_pos q]
    cases h : fsF J m m with
    | none => exact Or.inl rfl
    | some k => exact Or.inr ⟨k, (fsF_lt m h).1, rfl⟩
  · rw [if_neg q]
    exact Or.inl rfl
end KIND
