/-! The class finds the parts -/
theorem getD_ins {l : List Nat} {x p : Nat} (hp : p ≤ l.length) (i : Nat) : (l.take p ++ x :: l.drop p).getD i 0 = if i < p then l.getD i 0 else if i = p then x else l.getD (i - 1) 0 := by
  rw [List.getD_eq_getElem?_getD, List.getD_eq_getElem?_getD, List.getD_eq_getElem?_getD]
  have hlen : (l.take p).length = p := by rw [List.length_take]; omega
  by_cases h : i < p
  · rw [if_pos h, List.getElem?_append_left (by omega), List.getElem?_take, if_pos h]
  · rw [if_neg h, List.getElem?_append_right (by omega), hlen]
    by_cases e : i = p
    · rw [if_pos e, show i - p = 0 by omega]
      rfl
    · rw [if_neg e]
      obtain ⟨j, hj⟩ : ∃ j, i - p = j + 1 := ⟨i - p - 1, by omega⟩
      rw [hj, List.getElem?_cons_succ, List.getElem?_drop, show p + j = i - 1 by omega]
theorem ins_len {l : List Nat} {x p : Nat} (hp : p ≤ l.length) : (l.take p ++ x :: l.drop p).length = l.length + 1 := by
  rw [List.length_append, List.length_cons, List.length_take, List.length_drop]
  omega
theorem e_addL {N : Nat} (h9 : N ≤ 9) {l : List Nat} {x : Nat} (hl : l.length < N) (hx : x < 2 ^ 31) (hb : ∀ i, i < l.length → l.getD i 0 < 2 ^ 31) : ∀ p f, p ≤ l.length → (∀ i, i < p → f i = nI (l.getD i 0)) → (∀ i, p ≤ i → i < l.length → f (i + 1) = nI (l.getD i 0) ∧ x < l.getD i 0) → ∃ p' f', p' ≤ l.length ∧ holds f' (l.take p' ++ x :: l.drop p') ∧ (∀ i, p' ≤ i → i < l.length → x < l.getD i 0) ∧ (p' = 0 ∨ l.getD (p' - 1) 0 ≤ x) ∧ ev (fun n => mT_addPart N n 1 [nI x, nI p] f (nI l.length)) (f', nI (l.length + 1)) := by
  have fin : ∀ p f, p ≤ l.length → (∀ i, i < p → f i = nI (l.getD i 0)) → (∀ i, p ≤ i → i < l.length → f (i + 1) = nI (l.getD i 0) ∧ x < l.getD i 0) → holds (upd f p (nI x)) (l.take p ++ x :: l.drop p) ∧ ev (fun n => mT_addPart N n 2 [nI x, nI p] f (nI l.length)) (upd f p (nI x), nI (l.length + 1)) := fun p f hp h1 h2 => by
    refine ⟨fun i hi => ?_, ?_⟩
    · rw [ins_len hp] at hi
      rw [getD_ins hp]
      by_cases e : i = p
      · rw [if_neg (by omega), if_pos e, e, pk_us]
      · rw [pk_un e]
        by_cases q : i < p
        · rw [if_pos q, h1 i q]
        · rw [if_neg q, if_neg e]
          have := (h2 (i - 1) (by omega) (by omega)).1
          rw [show i - 1 + 1 = i by omega] at this
          exact this
    · refine ev_s (fun n => mT_addPart_e2 N n _ _ _ _) ?_
      refine ev_g (vp_in_nI (by omega) (by omega)) ?_
      rw [nI_clamp (by omega), nI_1]
      exact ev_p _
  intro p
  induction p with
  | zero =>
    intro f hp h1 h2
    obtain ⟨a, b⟩ := fin 0 f hp h1 h2
    refine ⟨0, _, hp, a, fun i hi hil => (h2 i hi hil).2, Or.inl rfl, ?_⟩
    refine ev_s (fun n => mT_addPart_e1 N n _ _ _ _) ?_
    exact ev_t (by decide) b
  | succ p ih =>
    intro f hp h1 h2
    have hfp := h1 p (by omega)
    have hbp := hb p (by omega)
    by_cases hle : l.getD p 0 ≤ x
    · obtain ⟨a, b⟩ := fin (p + 1) f hp h1 h2
      refine ⟨p + 1, _, hp, a, fun i hi hil => (h2 i hi hil).2, Or.inr hle, ?_⟩
      refine ev_s (fun n => mT_addPart_e1 N n _ _ _ _) ?_
      refine ev_f (nI_nle (by omega) (by omega)) ?_
      rw [nI_pred]
      refine ev_g (vp_in_nI (by omega) (by omega)) ?_
      rw [nI_clamp (show p < 2 ^ 31 by omega), hfp]
      exact ev_t (nI_le hle hx) b
    · obtain ⟨p', f', q1, q2, q3, q4, q5⟩ := ih (upd f (p + 1) (nI (l.getD p 0))) (by omega) (fun i hi => by rw [pk_un (by omega)]; exact h1 i (by omega)) (fun i hi hil => by
        by_cases e : i = p
        · subst e
          exact ⟨pk_us, by omega⟩
        · rw [pk_un (by omega)]
          exact h2 i (by omega) hil)
      refine ⟨p', f', q1, q2, q3, q4, ?_⟩
      refine ev_s (fun n => mT_addPart_e1 N n _ _ _ _) ?_
      refine ev_f (nI_nle (by omega) (by omega)) ?_
      rw [nI_pred]
      refine ev_g (vp_in_nI (by omega) (by omega)) ?_
      rw [nI_clamp (show p < 2 ^ 31 by omega), hfp]
      refine ev_f (fun q => hle ((nI_leI hbp hx).mp q)) ?_
      refine ev_g (vp_in_nI (by omega) (by omega)) (ev_g (vp_in_nI (by omega) (by omega)) ?_)
      rw [nI_clamp (show p + 1 < 2 ^ 31 by omega), pk_m1]
      exact q5
theorem getD_le {l : List Nat} (hs : l.Pairwise (· < ·)) {i j : Nat} (hij : i < j) (hj : j < l.length) : l.getD i 0 < l.getD j 0 := by
  have := List.pairwise_iff_getElem.mp hs i j (by omega) hj hij
  rw [List.getD_eq_getElem?_getD, List.getD_eq_getElem?_getD, List.getElem?_eq_getElem (show i < l.length by omega), List.getElem?_eq_getElem hj]
  exact this
theorem mem_getD {l : List Nat} {y : Nat} (h : y ∈ l) : ∃ i, i < l.length ∧ l.getD i 0 = y := by
  obtain ⟨i, hi, e⟩ := List.getElem_of_mem h
  refine ⟨i, hi, ?_⟩
  rw [List.getD_eq_getElem?_getD, List.getElem?_eq_getElem hi]
  exact e
theorem ins_mem {l : List Nat} {x p y : Nat} : y ∈ l.take p ++ x :: l.drop p ↔ y = x ∨ y ∈ l := by
  constructor
  · intro h
    rcases List.mem_append.mp h with h | h
    · exact Or.inr (List.mem_of_mem_take h)
    · rcases List.mem_cons.mp h with h | h
      · exact Or.inl h
      · exact Or.inr (List.mem_of_mem_drop h)
  · rintro (rfl | h)
    · exact List.mem_append.mpr (Or.inr List.mem_cons_self)
    · rw [← List.take_append_drop p l] at h
      rcases List.mem_append.mp h with h | h
      · exact List.mem_append.mpr (Or.inl h)
      · exact List.mem_append.mpr (Or.inr (List.mem_cons_of_mem _ h))
theorem ins_rise {l : List Nat} {x p : Nat} (hs : l.Pairwise (· < ·)) (hp : p ≤ l.length) (hx : x ∉ l) (h1 : ∀ i, p ≤ i → i < l.length → x < l.getD i 0) (h2 : p = 0 ∨ l.getD (p - 1) 0 ≤ x) : (l.take p ++ x :: l.drop p).Pairwise (· < ·) := by
  rw [List.pairwise_iff_getElem]
  intro i j hi hj hij
  rw [ins_len hp] at hi hj
  have hlow : ∀ i, i < p → l.getD i 0 < x := fun i hi => by
    have hle : l.getD i 0 ≤ x := by
      rcases h2 with h2 | h2
      · omega
      · by_cases e : i = p - 1
        · rw [e]; exact h2
        · exact Nat.le_trans (Nat.le_of_lt (getD_le hs (show i < p - 1 by omega) (by omega))) h2
    have hne : l.getD i 0 ≠ x := fun e => hx (e ▸ getD_mem (by omega))
    omega
  have key : (l.take p ++ x :: l.drop p).getD i 0 < (l.take p ++ x :: l.drop p).getD j 0 := by
    rw [getD_ins hp, getD_ins hp]
    by_cases a : i < p
    · rw [if_pos a]
      by_cases b : j < p
      · rw [if_pos b]
        exact getD_le hs hij (by omega)
      · rw [if_neg b]
        by_cases d : j = p
        · rw [if_pos d]
          exact hlow i a
        · rw [if_neg d]
          exact Nat.lt_trans (hlow i a) (h1 (j - 1) (by omega) (by omega))
    · rw [if_neg a, if_neg (show ¬ j < p by omega), if_neg (show ¬ j = p by omega)]
      by_cases d : i = p
      · rw [if_pos d]
        exact h1 (j - 1) (by omega) (by omega)
      · rw [if_neg d]
        exact getD_le hs (by omega) (by omega)
  rw [List.getD_eq_getElem?_getD, List.getD_eq_getElem?_getD, List.getElem?_eq_getElem (by rw [ins_len hp]; omega), List.getElem?_eq_getElem (by rw [ins_len hp]; omega)] at key
  exact key
section FPARTS
variable {N : Nat} {g : Nat → Nat} {c : Nat}
theorem st_lt (hc : c < 2 ^ N) {i : Nat} (h : i < (stL N g c).length) : (stL N g c).getD i 0 < 2 ^ N := sub_lt (st_c (getD_mem h)) hc
theorem e_pwL (h9 : N ≤ 9) (hc : c < 2 ^ N) (h0 : c ≠ 0) {ns : Nat → Int32} (hz : holds ns (nds N g c)) {own u : Nat} (ho : own < 2 ^ N) (hu : u < N) : ∀ k j w, j + k = (stL N g c).length → ev (fun n => mT_partWith N ns (nI (nds N g c).length) (nI c) n 1 [nI u, nI own, nI w, nI (j + 1)]) (nI (pwF own u ((stL N g c).drop j) w))
  | 0, j, w, h => by
    have hl := stL_len (g := g) h9 hc h0
    have h8 := pN8 h9
    have hlen : (nds N g c).length = (stL N g c).length + 1 := rfl
    rw [show j = (stL N g c).length by omega, List.drop_length]
    refine ev_s (fun n => mT_partWith_e1 N ns _ _ n _ _ _ _) ?_
    exact ev_t (nI_le (by omega) (by omega)) (ev_p _)
  | k + 1, j, w, h => by
    have hl := stL_len (g := g) h9 hc h0
    have h8 := pN8 h9
    have hp0 : 0 < 2 ^ (N - 1) := Nat.two_pow_pos _
    have hlen : (nds N g c).length = (stL N g c).length + 1 := rfl
    have hj : j < (stL N g c).length := by omega
    have ht := st_lt (g := g) hc hj
    have ih := fun w' => e_pwL h9 hc h0 hz ho hu k (j + 1) w' (by omega)
    rw [drop_cons hj]
    unfold pwF
    refine ev_s (fun n => mT_partWith_e1 N ns _ _ n _ _ _ _) ?_
    refine ev_f (nI_ge (by omega) (by omega)) ?_
    refine ev_g (vp_in_nI (by omega) (by omega)) ?_
    refine ev_l ?_
    rw [nI_clamp (show j + 1 < 2 ^ 31 by omega), hz (j + 1) (by omega), nds_s]
    generalize (stL N g c).getD j 0 = t at ht ⊢
    refine ev_b (e_contains (p31 h9 ht) (by omega)) ?_
    rw [nx_dif, nI_1]
    cases b1 : t.testBit u
    · refine ev_t bI_f ?_
      rw [if_neg (by unfold candB; rw [b1]; simp)]
      exact ih w
    · refine ev_f bI_t ?_
      by_cases b2 : t = own
      · refine ev_t (by rw [b2]) ?_
        rw [if_neg (by unfold candB; rw [decide_eq_false (fun q => q b2)]; simp)]
        exact ih w
      · refine ev_f (fun q => b2 ((nI_eq (p31 h9 ht) (p31 h9 ho)).mp q)) ?_
        by_cases b3 : dif t own = 0
        · refine ev_t (by rw [b3]; rfl) ?_
          rw [if_pos (by unfold candB; rw [b1, decide_eq_true b2, decide_eq_true b3]; rfl)]
          exact ih t
        · refine ev_f (fun q => b3 ((nI0 (p31 h9 (dif_lt own ht))).mp q)) ?_
          rw [if_neg (by unfold candB; rw [decide_eq_false b3]; simp)]
          exact ih w
theorem nd_ok {i : Nat} (h : i < (nds N g c).length) : ndOK N g c ((nds N g c).getD i 0) i := by
  cases i with
  | zero => exact Or.inl ⟨rfl, nds_0 N g c⟩
  | succ i =>
    refine Or.inr ⟨by omega, ?_⟩
    rw [nds_s]
    have hlen : (nds N g c).length = (stL N g c).length + 1 := rfl
    exact getD_mem (by omega)
theorem e_partWith (h9 : N ≤ 9) (hc : c < 2 ^ N) (h0 : c ≠ 0) {ns : Nat → Int32} (hz : holds ns (nds N g c)) {i u : Nat} (hi : i < (nds N g c).length) (hu : u < N) : ev (fun n => mT_partWith N ns (nI (nds N g c).length) (nI c) n 0 [nI i, nI u]) (nI (pw N g c ((nds N g c).getD i 0) u)) := by
  have hl := stL_len (g := g) h9 hc h0
  have h8 := pN8 h9
  have hp0 : 0 < 2 ^ (N - 1) := Nat.two_pow_pos _
  have hlen : (nds N g c).length = (stL N g c).length + 1 := rfl
  have ho := sub_lt (ndOK_sub (nd_ok hi)) hc
  refine ev_s (fun n => mT_partWith_e0 N ns _ _ n _ _) ?_
  refine ev_g (vp_in_nI (by omega) (by omega)) ?_
  refine ev_l ?_
  rw [nI_clamp (show i < 2 ^ 31 by omega), hz i hi]
  refine ev_b (e_contains (p31 h9 ho) (by omega)) ?_
  unfold pw
  cases hb : ((nds N g c).getD i 0).testBit u
  · refine ev_t bI_f ?_
    rw [if_neg (by decide), nx_dif]
    exact ev_p _
  · refine ev_f bI_t ?_
    rw [if_pos rfl]
    refine ev_l ?_
    rw [nx_shl (by omega)]
    exact e_pwL h9 hc h0 hz ho hu (stL N g c).length 0 _ (by omega)
theorem e_fpL (h9 : N ≤ 9) (hc : c < 2 ^ N) (h0 : c ≠ 0) {ns : Nat → Int32} (hz : holds ns (nds N g c)) {i : Nat} (hi : i < (nds N g c).length) : ∀ k u R l ps, u + k = N → sub R c → l.Pairwise (· < ·) → l.length ≤ u → holds ps l → (∀ y, y ∈ l → ∃ v, c.testBit v = true ∧ y = pw N g c ((nds N g c).getD i 0) v) → (∀ v, c.testBit v = true → R.testBit v = false → pw N g c ((nds N g c).getD i 0) v ∈ l) → (∀ v y, y ∈ l → y.testBit v = true → R.testBit v = false) → (∀ j, j < u → R.testBit j = false) → ∃ ps', holds ps' (ptL N g c ((nds N g c).getD i 0) i) ∧ (ptL N g c ((nds N g c).getD i 0) i).length ≤ N ∧ ev (fun n => mT_findParts N ns (nI (nds N g c).length) (nI c) n 1 [nI i, nI R, nI u] ps (nI l.length)) (ps', nI (ptL N g c ((nds N g c).getD i 0) i).length)
  | 0, u, R, l, ps, h, hR, hs, hlu, hps, hy, hv, hd, hj => by
    have ho := nd_ok (N := N) (g := g) (c := c) hi
    have hc5 := p512 h9 hc
    have e : l = ptL N g c ((nds N g c).getD i 0) i := by
      refine rise_eq _ _ hs (List.pairwise_lt_range.filter _) (fun x => ?_)
      unfold ptL
      rw [List.mem_filter, List.mem_range]
      constructor
      · intro hx
        obtain ⟨v, a1, a2⟩ := hy x hx
        have hx5 : x < 512 := by
          rw [a2]
          exact sub_lt (N := 9) (pw_c (ndOK_sub ho)) hc5
        exact ⟨hx5, (prt_iff hc5 hx5 ho).mpr ⟨v, a1, a2⟩⟩
      · rintro ⟨h5, h6⟩
        obtain ⟨v, a1, a2⟩ := (prt_iff hc5 h5 ho).mp h6
        rw [a2]
        exact hv v a1 (hj v (by have := bit_lt hc a1; omega))
    rw [← e]
    refine ⟨ps, hps, by omega, ?_⟩
    refine ev_s (fun n => mT_findParts_e1 N ns _ _ n _ _ _ _ _) ?_
    refine ev_b (e_Gsize N) ?_
    exact ev_t (nI_le (by omega) (by omega)) (ev_p _)
  | k + 1, u, R, l, ps, h, hR, hs, hlu, hps, hy, hv, hd, hj => by
    have ho := nd_ok (N := N) (g := g) (c := c) hi
    have hc5 := p512 h9 hc
    have hRN := sub_lt hR hc
    have hu : u < N := by omega
    cases hb : R.testBit u
    · obtain ⟨ps', r1, r2, r3⟩ := e_fpL h9 hc h0 hz hi k (u + 1) R l ps (by omega) hR hs (by omega) hps hy hv hd (fun j hj2 => by
        by_cases e : j = u
        · rw [e]; exact hb
        · exact hj j (by omega))
      refine ⟨ps', r1, r2, ?_⟩
      refine ev_s (fun n => mT_findParts_e1 N ns _ _ n _ _ _ _ _) ?_
      refine ev_b (e_Gsize N) ?_
      refine ev_f (nI_ge hu (by omega)) ?_
      refine ev_b (e_contains (p31 h9 hRN) (by omega)) ?_
      rw [hb, nI_1]
      exact ev_t bI_f r3
    · have huc := hR u hb
      have hpw := pw_self (N := N) (g := g) (own := (nds N g c).getD i 0) huc
      have hpc : sub (pw N g c ((nds N g c).getD i 0) u) c := pw_c (ndOK_sub ho)
      have hpN := sub_lt hpc hc
      have hnot : pw N g c ((nds N g c).getD i 0) u ∉ l := fun hm => by
        rw [hd u _ hm hpw] at hb
        cases hb
      have hbl : ∀ j, j < l.length → l.getD j 0 < 2 ^ 31 := fun j hj => by
        obtain ⟨v, a1, a2⟩ := hy _ (getD_mem hj)
        rw [a2]
        exact p31 h9 (sub_lt (pw_c (ndOK_sub ho)) hc)
      obtain ⟨p', f', q1, q2, q3, q4, q5⟩ := e_addL h9 (l := l) (x := pw N g c ((nds N g c).getD i 0) u) (by omega) (p31 h9 hpN) hbl l.length ps (Nat.le_refl _) hps (fun j h1 h2 => by omega)
      obtain ⟨ps', r1, r2, r3⟩ := e_fpL h9 hc h0 hz hi k (u + 1) (dif R (pw N g c ((nds N g c).getD i 0) u)) (l.take p' ++ pw N g c ((nds N g c).getD i 0) u :: l.drop p') f' (by omega) (sub_trans (dif_sub _ _) hR) (ins_rise hs q1 hnot q3 q4) (by rw [ins_len q1]; omega) q2 (fun y hyl => by
          rcases ins_mem.mp hyl with rfl | q
          · exact ⟨u, huc, rfl⟩
          · exact hy y q) (fun v hvc hvR => by
          refine ins_mem.mpr ?_
          cases hvp : (pw N g c ((nds N g c).getD i 0) u).testBit v
          · right
            refine hv v hvc ?_
            rw [dif_bit, hvp] at hvR
            simpa using hvR
          · left
            exact pw_eq hc5 (ndOK_sub ho) hvp) (fun v y hyl hyv => by
          rw [dif_bit]
          rcases ins_mem.mp hyl with rfl | q
          · rw [hyv]; simp
          · rw [hd v y q hyv]; rfl) (fun j hj2 => by
          rw [dif_bit]
          by_cases e : j = u
          · subst e
            rw [hpw]
            simp
          · rw [hj j (by omega)]
            rfl)
      refine ⟨ps', r1, r2, ?_⟩
      refine ev_s (fun n => mT_findParts_e1 N ns _ _ n _ _ _ _ _) ?_
      refine ev_b (e_Gsize N) ?_
      refine ev_f (nI_ge hu (by omega)) ?_
      refine ev_b (e_contains (p31 h9 hRN) (by omega)) ?_
      rw [hb]
      refine ev_f bI_t ?_
      refine ev_b (e_partWith h9 hc h0 hz hi hu) ?_
      refine ev_l ?_
      refine ev_b (ev_s (fun n => mT_addPart_e0 N n _ _ _) q5) ?_
      rw [nx_dif, nI_1]
      rw [ins_len q1] at r3
      exact r3
theorem e_findParts (h9 : N ≤ 9) (hc : c < 2 ^ N) (h0 : c ≠ 0) {ns : Nat → Int32} (hz : holds ns (nds N g c)) {i : Nat} (hi : i < (nds N g c).length) (ps : Nat → Int32) (pn : Int32) : ∃ ps', holds ps' (ptL N g c ((nds N g c).getD i 0) i) ∧ (ptL N g c ((nds N g c).getD i 0) i).length ≤ N ∧ ev (fun n => mT_findParts N ns (nI (nds N g c).length) (nI c) n 0 [nI i] ps pn) (ps', nI (ptL N g c ((nds N g c).getD i 0) i).length) := by
  obtain ⟨ps', r1, r2, r3⟩ := e_fpL h9 hc h0 hz hi N 0 c [] ps (by omega) (sub_rfl c) List.Pairwise.nil (Nat.zero_le _) (holds_nil ps) (fun y hy => absurd hy List.not_mem_nil) (fun v h1 h2 => by rw [h1] at h2; cases h2) (fun v y hy => absurd hy List.not_mem_nil) (fun j hj => absurd hj (by omega))
  exact ⟨ps', r1, r2, ev_s (fun n => mT_findParts_e0 N ns _ _ n _ _ _) r3⟩
end FPARTS
