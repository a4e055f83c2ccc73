/-! Elimination: one step -/
def tw (g : Nat → Nat) (L x y : Nat) : Bool := decide (y ≠ x) && (L.testBit y && decide (dif (g x &&& L) (2 ^ x ||| 2 ^ y) = dif (g y &&& L) (2 ^ x ||| 2 ^ y)))
def tsF (g : Nat → Nat) (L x : Nat) : Nat → Nat → Option Nat
  | 0, _ => none
  | k + 1, y => if tw g L x y = true then some (y + (if (g x &&& L).testBit y = true then 32 else 16)) else tsF g L x k (y + 1)
/-- how x would be taken away: its partner, and 16 or 32 for a twin -/
def way (N : Nat) (g : Nat → Nat) (L x : Nat) : Option Nat := if pop (g x &&& L) = 1 then some (least (g x &&& L)) else tsF g L x N 0
def oI : Option Nat → Int32
  | none => -1
  | some w => nI w
theorem nI_m1 {w : Nat} (h : w < 2 ^ 31) : ¬ nI w = -1 := fun e => by
  have := nI_pos h
  rw [e] at this
  exact this (by decide)
theorem tsF_lt {g : Nat → Nat} {L x w : Nat} : ∀ k y, tsF g L x k y = some w → w < y + k + 32 ∧ ∃ z, z < y + k ∧ tw g L x z = true
  | 0, y, h => by cases h
  | k + 1, y, h => by
    unfold tsF at h
    by_cases ht : tw g L x y = true
    · rw [if_pos ht] at h
      cases h
      refine ⟨?_, y, by omega, ht⟩
      split <;> omega
    · rw [if_neg ht] at h
      obtain ⟨h1, z, h2, h3⟩ := tsF_lt k (y + 1) h
      exact ⟨by omega, z, by omega, h3⟩
theorem pop_ge2 {L x y : Nat} (hL : L < 512) (hx : L.testBit x = true) (hy : L.testBit y = true) (h : y ≠ x) : 2 ≤ pop L := by
  have hx9 := bit_lt (N := 9) hL hx
  have hs : sub (2 ^ x) L := fun i hi => (bit_two.mp hi) ▸ hx
  have hne : 2 ^ x ≠ L := fun e => by
    rw [← e] at hy
    exact h (bit_two.mp hy).symm
  have := pop_lt hs hne hL
  rw [pop_two x hx9] at this
  omega
theorem and_bit {a b i : Nat} : (a &&& b).testBit i = true ↔ a.testBit i = true ∧ b.testBit i = true := by
  rw [Nat.testBit_and, Bool.and_eq_true]
theorem pop_ne0 {s : Nat} (h : 1 ≤ pop s) : s ≠ 0 := fun e => by rw [e, pop0] at h; omega
section ELIM
variable {N : Nat} {g : Nat → Nat} {f : Nat → Int32}
theorem own_lt (hg : Gr N g) {x : Nat} (hx : x < N) (L : Nat) : g x &&& L < 2 ^ N := Nat.lt_of_le_of_lt Nat.and_le_left (hg.1 x hx)
theorem way_some (h9 : N ≤ 9) (hg : Gr N g) {L x w : Nat} (hL : L < 2 ^ N) (hx : x < N) (hb : L.testBit x = true) (h : way N g L x = some w) : w < 64 ∧ 2 ≤ pop L := by
  unfold way at h
  by_cases h1 : pop (g x &&& L) = 1
  · rw [if_pos h1] at h
    cases h
    have hl := least_spec (p512 h9 (own_lt hg hx L)) (pop_ne0 (by omega))
    refine ⟨by omega, ?_⟩
    have q := and_bit.mp hl.1
    refine pop_ge2 (p512 h9 hL) hb q.2 (fun e => ?_)
    rw [e, hg.2.2 x hx] at q
    cases q.1
  · rw [if_neg h1] at h
    obtain ⟨q1, z, q2, q3⟩ := tsF_lt N 0 h
    refine ⟨by omega, ?_⟩
    unfold tw at q3
    simp only [Bool.and_eq_true, decide_eq_true_eq] at q3
    exact pop_ge2 (p512 h9 hL) hb q3.2.1 q3.1
theorem e_wayL (h9 : N ≤ 9) (hg : Gr N g) (hn : Hn N g f) {L x : Nat} (hL : L < 2 ^ N) (hx : x < N) : ∀ k y, y + k = N → ev (fun n => mM_way N f n 1 [nI x, nI L, nI (g x &&& L), nI y]) (oI (tsF g L x k y))
  | 0, y, h => by
    refine ev_s (fun n => mM_way_e1 N f n _ _ _ _) ?_
    exact ev_t (nI_le (by omega) (by omega)) (ev_p _)
  | k + 1, y, h => by
    have hy : y < N := by omega
    have ih := e_wayL h9 hg hn hL hx k (y + 1) (by omega)
    have skip : tw g L x y = false → ev (fun n => mM_way N f n 2 [nI x, nI L, nI (g x &&& L), nI y]) (oI (tsF g L x (k + 1) y)) := fun ht => by
      refine ev_s (fun n => mM_way_e2 N f n _ _ _ _) ?_
      refine ev_s (fun n => mM_way_e3 N f n _ _ _ _ _) ?_
      refine ev_t rfl ?_
      unfold tsF
      rw [if_neg (by rw [ht]; decide), nI_1]
      exact ih
    refine ev_s (fun n => mM_way_e1 N f n _ _ _ _) ?_
    refine ev_f (nI_ge hy (by omega)) ?_
    refine ev_l ?_
    by_cases e : y = x
    · refine ev_t (by rw [e]) (skip ?_)
      unfold tw
      rw [decide_eq_false (fun q => q e)]
      rfl
    · refine ev_f (fun q => e ((nI_eq (by omega) (by omega)).mp q)) ?_
      rw [nx_bit (p31 h9 hL) (by omega)]
      cases hb : L.testBit y
      · refine ev_f (by decide) (skip ?_)
        unfold tw
        rw [hb]
        simp
      · refine ev_t (by decide) ?_
        refine ev_g (vp_in_nI (by omega) (by omega)) ?_
        rw [hn.at h9 hy, nx_shl (by omega), nx_shl (by omega), nx_or, nx_and, nx_dif, nx_dif]
        have l1 := p31 h9 (dif_lt (2 ^ x ||| 2 ^ y) (own_lt hg hx L))
        have l2 := p31 h9 (dif_lt (2 ^ x ||| 2 ^ y) (own_lt hg hy L))
        by_cases hq : dif (g x &&& L) (2 ^ x ||| 2 ^ y) = dif (g y &&& L) (2 ^ x ||| 2 ^ y)
        · refine ev_t (by rw [hq]) ?_
          refine ev_s (fun n => mM_way_e3 N f n _ _ _ _ _) ?_
          refine ev_f (by decide) ?_
          have ht : tw g L x y = true := by
            unfold tw
            rw [decide_eq_true e, hb, decide_eq_true hq]
            rfl
          unfold tsF
          rw [if_pos ht, nx_bit (p31 h9 (own_lt hg hx L)) (by omega)]
          cases (g x &&& L).testBit y
          · refine ev_f (by decide) ?_
            rw [show (16 : Int32) = nI 16 from rfl, nI_add]
            exact ev_p _
          · refine ev_t (by decide) ?_
            rw [show (32 : Int32) = nI 32 from rfl, nI_add]
            exact ev_p _
        · refine ev_f (fun q => hq ((nI_eq l1 l2).mp q)) (skip ?_)
          unfold tw
          rw [decide_eq_false hq]
          simp
theorem e_way (h9 : N ≤ 9) (hg : Gr N g) (hn : Hn N g f) {L x : Nat} (hL : L < 2 ^ N) (hx : x < N) : ev (fun n => mM_way N f n 0 [nI x, nI L]) (oI (way N g L x)) := by
  refine ev_s (fun n => mM_way_e0 N f n _ _) ?_
  refine ev_g (vp_in_nI (by omega) (by omega)) ?_
  refine ev_l ?_
  rw [hn.at h9 hx, nx_and]
  refine ev_b (e_Msize (p31 h9 (own_lt hg hx L))) ?_
  have hp := pop_le9 (g x &&& L)
  unfold way
  by_cases h : pop (g x &&& L) = 1
  · rw [if_pos h]
    refine ev_t (by rw [h]; rfl) ?_
    exact ev_b (e_least (p31 h9 (own_lt hg hx L))) (ev_p _)
  · rw [if_neg h]
    refine ev_f (fun q => h ((nI_eq (b := 1) (by omega) (by decide)).mp q)) ?_
    exact e_wayL h9 hg hn hL hx N 0 (by omega)
/-- the class's step: the vertex and 16 times its way -/
def cod (x : Nat) (o : Option Nat) : Option Nat := o.map (fun w => x + 16 * w)
theorem tw_cls (L x y : Nat) : g x &&& dif (dif L (2 ^ x)) (2 ^ y) = dif (g x &&& L) (2 ^ x ||| 2 ^ y) := by
  apply Nat.eq_of_testBit_eq
  intro i
  rw [Nat.testBit_and, dif_bit, dif_bit, dif_bit, Nat.testBit_and, Nat.testBit_or]
  cases (g x).testBit i <;> cases L.testBit i <;> cases (2 ^ x).testBit i <;> cases (2 ^ y).testBit i <;> rfl
theorem tw_cls2 (L x y : Nat) : g y &&& dif (dif L (2 ^ x)) (2 ^ y) = dif (g y &&& L) (2 ^ x ||| 2 ^ y) := by
  apply Nat.eq_of_testBit_eq
  intro i
  rw [Nat.testBit_and, dif_bit, dif_bit, dif_bit, Nat.testBit_and, Nat.testBit_or]
  cases (g y).testBit i <;> cases L.testBit i <;> cases (2 ^ x).testBit i <;> cases (2 ^ y).testBit i <;> rfl
theorem e_areTwins (h9 : N ≤ 9) (hg : Gr N g) (hn : Hn N g f) {L x y : Nat} (hx : x < N) (hy : y < N) : ev (fun n => mG_areTwins N f n 0 [nI x, nI y, nI L]) (bI (decide (dif (g x &&& L) (2 ^ x ||| 2 ^ y) = dif (g y &&& L) (2 ^ x ||| 2 ^ y)))) := by
  refine ev_s (fun n => mG_areTwins_e0 N f n _ _ _) ?_
  refine ev_l ?_
  refine ev_g (vp_in_nI hx (by omega)) (ev_g (vp_in_nI hy (by omega)) ?_)
  rw [nx_shl (by omega), nx_shl (by omega), nx_dif, nx_dif, hn.at h9 hx, hn.at h9 hy, nx_and, nx_and, tw_cls, tw_cls2]
  have l1 := p31 h9 (dif_lt (2 ^ x ||| 2 ^ y) (own_lt hg hx L))
  have l2 := p31 h9 (dif_lt (2 ^ x ||| 2 ^ y) (own_lt hg hy L))
  by_cases hq : dif (g x &&& L) (2 ^ x ||| 2 ^ y) = dif (g y &&& L) (2 ^ x ||| 2 ^ y)
  · rw [decide_eq_true hq]
    exact ev_t (by rw [hq]) (ev_p _)
  · rw [decide_eq_false hq]
    exact ev_f (fun q => hq ((nI_eq l1 l2).mp q)) (ev_p _)
theorem mul16 (y : Nat) : (16 : Int32) * nI y = nI (16 * y) := by
  rw [show (16 : Int32) = nI 16 from rfl, pk_mul]
theorem e_stepL (h9 : N ≤ 9) (hg : Gr N g) (hn : Hn N g f) {L x : Nat} (hL : L < 2 ^ N) (hx : x < N) : ∀ k y, y + k = N → ev (fun n => mE_stepAt N f (nI L) n 2 [nI x, nI (g x &&& L), 0, nI y]) (oI (cod x (tsF g L x k y)))
  | 0, y, h => by
    refine ev_s (fun n => mE_stepAt_e2 N f _ n _ _ _ _) ?_
    refine ev_b (e_Gsize N) ?_
    exact ev_t (nI_le (by omega) (by omega)) (ev_p _)
  | k + 1, y, h => by
    have hy : y < N := by omega
    have ih := e_stepL h9 hg hn hL hx k (y + 1) (by omega)
    have skip : tw g L x y = false → ev (fun n => mE_stepAt N f (nI L) n 2 [nI x, nI (g x &&& L), 0, nI y + 1]) (oI (cod x (tsF g L x (k + 1) y))) := fun ht => by
      unfold tsF
      rw [if_neg (by rw [ht]; decide), nI_1]
      exact ih
    refine ev_s (fun n => mE_stepAt_e2 N f _ n _ _ _ _) ?_
    refine ev_b (e_Gsize N) ?_
    refine ev_f (nI_ge hy (by omega)) ?_
    refine ev_b (e_contains (p31 h9 (own_lt hg hx L)) (by omega)) ?_
    refine ev_t rfl ?_
    refine ev_s (fun n => mE_stepAt_e3 N f _ n _ _ _ _ _) ?_
    refine ev_t rfl ?_
    by_cases e : y = x
    · refine ev_t (by rw [e]) (skip ?_)
      unfold tw
      rw [decide_eq_false (fun q => q e)]
      rfl
    · refine ev_f (fun q => e ((nI_eq (by omega) (by omega)).mp q)) ?_
      refine ev_b (e_contains (p31 h9 hL) (by omega)) ?_
      cases hb : L.testBit y
      · refine ev_t bI_f (skip ?_)
        unfold tw
        rw [hb]
        simp
      · refine ev_f bI_t ?_
        refine ev_b (e_areTwins h9 hg hn hx hy) ?_
        by_cases hq : dif (g x &&& L) (2 ^ x ||| 2 ^ y) = dif (g y &&& L) (2 ^ x ||| 2 ^ y)
        · rw [decide_eq_true hq]
          refine ev_f bI_t ?_
          have ht : tw g L x y = true := by
            unfold tw
            rw [decide_eq_true e, hb, decide_eq_true hq]
            rfl
          unfold tsF
          rw [if_pos ht, mul16, nI_add]
          cases (g x &&& L).testBit y
          · refine ev_t bI_f ?_
            rw [show (256 : Int32) = nI 256 from rfl, nI_add]
            refine ev_e ?_ (ev_p _)
            show nI (x + 16 * y + 256) = nI (x + 16 * (y + 16))
            rw [show x + 16 * y + 256 = x + 16 * (y + 16) by omega]
          · refine ev_f bI_t ?_
            rw [show (512 : Int32) = nI 512 from rfl, nI_add]
            refine ev_e ?_ (ev_p _)
            show nI (x + 16 * y + 512) = nI (x + 16 * (y + 32))
            rw [show x + 16 * y + 512 = x + 16 * (y + 32) by omega]
        · rw [decide_eq_false hq]
          refine ev_t bI_f (skip ?_)
          unfold tw
          rw [decide_eq_false hq]
          simp
theorem e_leafL (h9 : N ≤ 9) (hg : Gr N g) {L x : Nat} (hx : x < N) (h0 : g x &&& L ≠ 0) : ∀ k y, y + k = N → (∀ j, j < y → (g x &&& L).testBit j = false) → ev (fun n => mE_stepAt N f (nI L) n 2 [nI x, nI (g x &&& L), 1, nI y]) (nI (x + 16 * least (g x &&& L)))
  | 0, y, h, hj => by
    exfalso
    obtain ⟨i, hi⟩ := ne0_bit h0
    have := bit_lt (own_lt hg hx L) hi
    rw [hj i (by omega)] at hi
    cases hi
  | k + 1, y, h, hj => by
    refine ev_s (fun n => mE_stepAt_e2 N f _ n _ _ _ _) ?_
    refine ev_b (e_Gsize N) ?_
    refine ev_f (nI_ge (by omega) (by omega)) ?_
    refine ev_b (e_contains (p31 h9 (own_lt hg hx L)) (by omega)) ?_
    refine ev_f (by decide) ?_
    cases hb : (g x &&& L).testBit y
    · refine ev_t bI_f ?_
      refine ev_s (fun n => mE_stepAt_e3 N f _ n _ _ _ _ _) ?_
      refine ev_f (by decide) ?_
      rw [nI_1]
      refine e_leafL h9 hg hx h0 k (y + 1) (by omega) (fun j hj2 => ?_)
      by_cases e : j = y
      · rw [e]; exact hb
      · exact hj j (by omega)
    · refine ev_f bI_t ?_
      have hl := least_spec (p512 h9 (own_lt hg hx L)) h0
      have e : least (g x &&& L) = y := by
        rcases Nat.lt_trichotomy (least (g x &&& L)) y with q | q | q
        · rw [hj _ q] at hl; cases hl.1
        · exact q
        · rw [hl.2.2 y q] at hb; cases hb
      rw [e, mul16, nI_add]
      exact ev_p _
theorem e_stepAt (h9 : N ≤ 9) (hg : Gr N g) (hn : Hn N g f) {L x : Nat} (hL : L < 2 ^ N) (hx : x < N) : ev (fun n => mE_stepAt N f (nI L) n 0 [nI x]) (oI (cod x (way N g L x))) := by
  refine ev_s (fun n => mE_stepAt_e0 N f _ n _) ?_
  refine ev_b (e_nearInside h9 hn hx L) ?_
  refine ev_b (e_bitCount (p512 h9 (own_lt hg hx L))) ?_
  have hp := pop_le9 (g x &&& L)
  unfold way
  by_cases h : pop (g x &&& L) = 1
  · rw [if_pos h]
    refine ev_t (by rw [h]; rfl) ?_
    refine ev_s (fun n => mE_stepAt_e1 N f _ n _ _ _) ?_
    exact e_leafL h9 hg hx (pop_ne0 (by omega)) N 0 (by omega) (fun j hj => absurd hj (by omega))
  · rw [if_neg h]
    refine ev_f (fun q => h ((nI_eq (b := 1) (by omega) (by decide)).mp q)) ?_
    refine ev_s (fun n => mE_stepAt_e1 N f _ n _ _ _) ?_
    exact e_stepL h9 hg hn hL hx N 0 (by omega)
/-- the next to be taken away, with its way: the greatest below k -/
def nxF (N : Nat) (g : Nat → Nat) (L : Nat) : Nat → Option (Nat × Nat)
  | 0 => none
  | k + 1 => if L.testBit k = true then (match way N g L k with | some w => some (k, w) | none => nxF N g L k) else nxF N g L k
def nx (N : Nat) (g : Nat → Nat) (L : Nat) : Option (Nat × Nat) := nxF N g L N
theorem nxF_9 {L : Nat} (hL : L < 2 ^ N) : ∀ k, nxF N g L (N + k) = nxF N g L N
  | 0 => rfl
  | k + 1 => by
    rw [← Nat.add_assoc]
    unfold nxF
    have : L.testBit (N + k) = false := by
      cases hb : L.testBit (N + k)
      · rfl
      · exact absurd (bit_lt hL hb) (by omega)
    rw [if_neg (by rw [this]; decide), nxF_9 hL k]
    cases N <;> rfl
theorem nxF_some (h9 : N ≤ 9) (hg : Gr N g) {L x w : Nat} (hL : L < 2 ^ N) : ∀ k, nxF N g L k = some (x, w) → x < N ∧ L.testBit x = true ∧ way N g L x = some w ∧ w < 64 ∧ 2 ≤ pop L
  | 0, h => by cases h
  | k + 1, h => by
    unfold nxF at h
    by_cases hb : L.testBit k = true
    · rw [if_pos hb] at h
      have hk := bit_lt hL hb
      cases hw : way N g L k with
      | none =>
        rw [hw] at h
        exact nxF_some h9 hg hL k h
      | some w2 =>
        rw [hw] at h
        cases h
        have := way_some h9 hg hL hk hb hw
        exact ⟨hk, hb, hw, this.1, this.2⟩
    · rw [if_neg hb] at h
      exact nxF_some h9 hg hL k h
def xk : Nat → Int32
  | 0 => -1
  | m + 1 => nI m
theorem xk_s : ∀ m, nI m + (-1) = xk m
  | 0 => by decide
  | m + 1 => pk_m1 m
def cod2 : Option (Nat × Nat) → Option Nat
  | none => none
  | some p => some (p.1 + 16 * p.2)
theorem e_nextL (h9 : N ≤ 9) (hg : Gr N g) (hn : Hn N g f) {L : Nat} (hL : L < 2 ^ N) : ∀ k, k ≤ N → ev (fun n => mE_nextStep N f (nI L) n 1 [xk k]) (oI (cod2 (nxF N g L k)))
  | 0, h => by
    refine ev_s (fun n => mE_nextStep_e1 N f _ n _) ?_
    exact ev_t (by decide) (ev_p _)
  | k + 1, h => by
    have ih := e_nextL h9 hg hn hL k (by omega)
    have skip : ev (fun n => mE_nextStep N f (nI L) n 2 [nI k, -1]) (oI (cod2 (nxF N g L k))) := by
      refine ev_s (fun n => mE_nextStep_e2 N f _ n _ _) ?_
      refine ev_t rfl ?_
      rw [xk_s]
      exact ih
    refine ev_s (fun n => mE_nextStep_e1 N f _ n _) ?_
    refine ev_f (nI_pos (by omega)) ?_
    refine ev_b (e_contains (p31 h9 hL) (show k < 32 by omega)) ?_
    unfold nxF
    cases hb : L.testBit k
    · refine ev_t bI_f ?_
      rw [if_neg (by decide)]
      exact skip
    · refine ev_f bI_t ?_
      rw [if_pos rfl]
      refine ev_b (e_stepAt h9 hg hn hL (show k < N by omega)) ?_
      cases hw : way N g L k with
      | none => exact skip
      | some w =>
        have hb2 := way_some h9 hg hL (by omega) hb hw
        refine ev_s (fun n => mE_nextStep_e2 N f _ n _ _) ?_
        exact ev_f (nI_m1 (show k + 16 * w < 2 ^ 31 by omega)) (ev_p _)
theorem e_next (h1 : 1 ≤ N) (h9 : N ≤ 9) (hg : Gr N g) (hn : Hn N g f) {L : Nat} (hL : L < 2 ^ N) : ev (fun n => mE_nextStep N f (nI L) n 0 []) (oI (cod2 (nx N g L))) := by
  refine ev_s (fun n => mE_nextStep_e0 N f _ n) ?_
  refine ev_b (e_Gsize N) ?_
  refine ev_l ?_
  have e : nI N - 1 = xk N := by
    cases N with
    | zero => omega
    | succ m => exact nI_pred m
  rw [e]
  exact e_nextL h9 hg hn hL N (Nat.le_refl _)
end ELIM
