/-! Elimination: the whole run; clears and fine; obstruction -/
def elF (N : Nat) (g : Nat → Nat) : Nat → Nat → List Nat × Nat
  | 0, L => ([], L)
  | k + 1, L => match nx N g L with
    | none => ([], L)
    | some p => ((p.1 + 16 * p.2) :: (elF N g k (dif L (2 ^ p.1))).1, (elF N g k (dif L (2 ^ p.1))).2)
section RUN
variable {N : Nat} {g : Nat → Nat} {f : Nat → Int32}
theorem dif_pop {L x : Nat} (hL : L < 512) (hx : L.testBit x = true) : pop (dif L (2 ^ x)) < pop L := by
  refine pop_lt (dif_sub _ _) (fun e => ?_) hL
  have := dif_bit L (2 ^ x) x
  rw [e, hx, bit_two.mpr rfl] at this
  cases this
theorem nx_small (h9 : N ≤ 9) (hg : Gr N g) {L : Nat} (hL : L < 2 ^ N) (hp : pop L ≤ 1) : nx N g L = none := by
  cases h : nx N g L with
  | none => rfl
  | some p =>
    obtain ⟨x, w⟩ := p
    have := (nxF_some h9 hg hL N h).2.2.2.2
    omega
theorem append_cons' (l : List Nat) (a : Nat) (r : List Nat) : l ++ a :: r = (l ++ [a]) ++ r := by simp
theorem e_runL (h1 : 1 ≤ N) (h9 : N ≤ 9) (hg : Gr N g) (hn : Hn N g f) : ∀ k L, L < 2 ^ N → pop L ≤ k + 1 → ∀ l st, l.length + pop L ≤ N + 1 → holds st l → ∃ st', holds st' (l ++ (elF N g k L).1) ∧ ev (fun n => mE_run N f n 1 [oI (cod2 (nx N g L))] st (nI l.length) (nI L)) (st', nI (l ++ (elF N g k L).1).length, nI (elF N g k L).2) := by
  have base : ∀ L l st, holds st l → nx N g L = none → ∃ st', holds st' (l ++ []) ∧ ev (fun n => mE_run N f n 1 [oI (cod2 (nx N g L))] st (nI l.length) (nI L)) (st', nI (l ++ []).length, nI L) := fun L l st hz hno => by
    rw [List.append_nil]
    refine ⟨st, hz, ?_⟩
    rw [hno]
    refine ev_s (fun n => mE_run_e1 N f n _ _ _ _) ?_
    exact ev_t rfl (ev_p _)
  intro k
  induction k with
  | zero =>
    intro L hL hp l st hl hz
    exact base L l st hz (nx_small h9 hg hL hp)
  | succ k ih =>
    intro L hL hp l st hl hz
    cases hnx : nx N g L with
    | none =>
      have := base L l st hz hnx
      unfold elF
      rw [hnx] at this ⊢
      exact this
    | some p =>
      obtain ⟨x, w⟩ := p
      obtain ⟨hx, hb, hw, hw64, hp2⟩ := nxF_some h9 hg hL N hnx
      have hd := dif_pop (p512 h9 hL) hb
      have hz2 := holds_push hz (x + 16 * w)
      obtain ⟨st', q1, q2⟩ := ih (dif L (2 ^ x)) (dif_lt _ hL) (by omega) (l ++ [x + 16 * w]) _ (by rw [List.length_append, List.length_singleton]; omega) hz2
      have e : elF N g (k + 1) L = ((x + 16 * w) :: (elF N g k (dif L (2 ^ x))).1, (elF N g k (dif L (2 ^ x))).2) := by
        show (match nx N g L with | none => ([], L) | some p => _) = _
        rw [hnx]
      rw [e]
      refine ⟨st', by rw [append_cons']; exact q1, ?_⟩
      show ev _ (st', nI (l ++ (x + 16 * w) :: (elF N g k (dif L (2 ^ x))).1).length, nI (elF N g k (dif L (2 ^ x))).2)
      rw [append_cons']
      refine ev_s (fun n => mE_run_e1 N f n _ _ _ _) ?_
      refine ev_f (nI_m1 (show x + 16 * w < 2 ^ 31 by omega)) ?_
      refine ev_f (nI_ge (show l.length < N by omega) (by omega)) ?_
      refine ev_g (vp_in_nI (show l.length < N by omega) (by omega)) ?_
      have er : oI (cod2 (some (x, w))) - oI (cod2 (some (x, w))) / 16 * 16 = nI x := by
        show nI (x + 16 * w) - nI (x + 16 * w) / nI 16 * nI 16 = nI x
        rw [pk_rem (by omega) (by decide) (by decide)]
        rw [show (x + 16 * w) % 16 = x by omega]
      rw [er, nx_shl (by omega), nx_dif, nI_1, nI_clamp (show l.length < 2 ^ 31 by omega)]
      refine ev_b (e_next h1 h9 hg hn (dif_lt _ hL)) ?_
      rw [List.length_append, List.length_singleton] at q2
      exact q2
/-- the run on a component -/
def elim (N : Nat) (g : Nat → Nat) (c : Nat) : List Nat × Nat := elF N g 9 c
theorem e_run (h1 : 1 ≤ N) (h9 : N ≤ 9) (hg : Gr N g) (hn : Hn N g f) {c : Nat} (hc : c < 2 ^ N) (st : Nat → Int32) (sn lf : Int32) : ∃ st', holds st' (elim N g c).1 ∧ ev (fun n => mE_run N f n 0 [nI c] st sn lf) (st', nI (elim N g c).1.length, nI (elim N g c).2) := by
  have hp := pop_le9 c
  have hp2 := pop_leN hc 9
  obtain ⟨st', q1, q2⟩ := e_runL h1 h9 hg hn 9 c hc (by omega) [] st (by show 0 + popF c 9 ≤ N + 1; omega) (holds_nil st)
  refine ⟨st', q1, ?_⟩
  refine ev_s (fun n => mE_run_e0 N f n _ _ _ _) ?_
  refine ev_b (e_next h1 h9 hg hn hc) ?_
  exact q2
theorem elF_pos (h9 : N ≤ 9) (hg : Gr N g) : ∀ k L, L < 2 ^ N → 1 ≤ pop L → 1 ≤ pop (elF N g k L).2 ∧ (elF N g k L).2 < 2 ^ N ∧ (elF N g k L).1.length + pop (elF N g k L).2 ≤ pop L
  | 0, L, hL, hp => ⟨hp, hL, by show 0 + pop L ≤ pop L; omega⟩
  | k + 1, L, hL, hp => by
    cases hnx : nx N g L with
    | none =>
      have e : elF N g (k + 1) L = ([], L) := by
        show (match nx N g L with | none => ([], L) | some p => _) = _
        rw [hnx]
      rw [e]
      exact ⟨hp, hL, by show 0 + pop L ≤ pop L; omega⟩
    | some p =>
      obtain ⟨x, w⟩ := p
      obtain ⟨hx, hb, hw, hw64, hp2⟩ := nxF_some h9 hg hL N hnx
      have e : elF N g (k + 1) L = ((x + 16 * w) :: (elF N g k (dif L (2 ^ x))).1, (elF N g k (dif L (2 ^ x))).2) := by
        show (match nx N g L with | none => ([], L) | some p => _) = _
        rw [hnx]
      rw [e]
      have hd := dif_pop (p512 h9 hL) hb
      have hpd : 1 ≤ pop (dif L (2 ^ x)) := by
        rcases Nat.lt_or_ge 0 (pop (dif L (2 ^ x))) with q | q
        · exact q
        · exfalso
          -- another vertex than x is in L
          have : L ≠ 2 ^ x := fun e => by
            rw [e, pop_two x (by omega)] at hp2
            omega
          obtain ⟨i, h1, h2⟩ := ex_of_ne (a := 2 ^ x) (b := L) (fun i hi => (bit_two.mp hi) ▸ hb) (fun e => this e.symm)
          have hi : (dif L (2 ^ x)).testBit i = true := by rw [dif_bit, h1, h2]; rfl
          have hne : dif L (2 ^ x) ≠ 0 := fun e => by rw [e, Nat.zero_testBit] at hi; cases hi
          have := pop_lt (a := 0) (b := dif L (2 ^ x)) (fun i hi => by rw [Nat.zero_testBit] at hi; cases hi) (fun e => hne e.symm) (p512 h9 (dif_lt _ hL))
          omega
      obtain ⟨a1, a2, a3⟩ := elF_pos h9 hg k _ (dif_lt _ hL) hpd
      exact ⟨a1, a2, by show (elF N g k (dif L (2 ^ x))).1.length + 1 + pop (elF N g k (dif L (2 ^ x))).2 ≤ pop L; omega⟩
/-- the model's search for the next one -/
theorem e_el3 (h9 : N ≤ 9) (hg : Gr N g) (hn : Hn N g f) {L : Nat} (hL : L < 2 ^ N) (en ew : Int32) (es : Nat → Int32) {R : Int32 × (Nat → Int32) × Int32} : ∀ k, k ≤ 9 → (∀ x w, nxF N g L k = some (x, w) → ev (fun n => mM_eliminate N f n 4 [nI L, nI x] en es ew) R) → (nxF N g L k = none → ev (fun n => mM_eliminate N f n 4 [nI L, -1] en es ew) R) → ev (fun n => mM_eliminate N f n 3 [nI L, xk k] en es ew) R
  | 0, hk, h1, h2 => by
    refine ev_s (fun n => mM_eliminate_e3 N f n _ _ _ _ _) ?_
    exact ev_t (by decide) (h2 rfl)
  | k + 1, hk, h1, h2 => by
    refine ev_s (fun n => mM_eliminate_e3 N f n _ _ _ _ _) ?_
    refine ev_f (nI_pos (by omega)) ?_
    show ev (fun n => if (nI L >>> (nI k &&& 31)) &&& 1 = 0 then mM_eliminate N f n 3 [nI L, nI k + -1] en es ew else _) R
    rw [nx_bit (p31 h9 hL) (by omega)]
    unfold nxF at h1 h2
    cases hb : L.testBit k
    · refine ev_t bI_f ?_
      rw [if_neg (by rw [hb]; decide)] at h1 h2
      rw [xk_s]
      exact e_el3 h9 hg hn hL en ew es k (by omega) h1 h2
    · refine ev_f bI_t ?_
      rw [if_pos hb] at h1 h2
      have hkN := bit_lt hL hb
      refine ev_b (e_way h9 hg hn hL hkN) ?_
      cases hw : way N g L k with
      | none =>
        rw [hw] at h1 h2
        refine ev_t rfl ?_
        show ev (fun n => mM_eliminate N f n 3 [nI L, nI k + -1] en es ew) R
        rw [xk_s]
        exact e_el3 h9 hg hn hL en ew es k (by omega) h1 h2
      | some w =>
        rw [hw] at h1 h2
        have := way_some h9 hg hL hkN hb hw
        exact ev_f (nI_m1 (by omega)) (h1 k w rfl)
theorem e_elL (h9 : N ≤ 9) (hg : Gr N g) (hn : Hn N g f) : ∀ k L, L < 2 ^ N → pop L ≤ k + 1 → ∀ l es ew, l.length + pop L ≤ 10 → holds es l → ∃ es', holds es' (l ++ (elF N g k L).1) ∧ ev (fun n => mM_eliminate N f n 2 [nI L, bI (decide (2 ≤ pop L))] (nI l.length) es ew) (nI (l ++ (elF N g k L).1).length, es', bI (decide (pop (elF N g k L).2 ≤ 1))) := by
  have fin : ∀ L l es ew, L < 2 ^ N → holds es l → ev (fun n => mM_eliminate N f n 2 [nI L, 0] (nI l.length) es ew) (nI l.length, es, bI (decide (pop L ≤ 1))) := fun L l es ew hL hz => by
    have hp9 := pop_le9 L
    refine ev_s (fun n => mM_eliminate_e2 N f n _ _ _ _ _) ?_
    refine ev_t rfl ?_
    refine ev_b (e_Msize (p31 h9 hL)) ?_
    by_cases hq : pop L ≤ 1
    · rw [decide_eq_true hq]
      exact ev_f (fun q => absurd ((nI_ltI (a := 1) (by decide) (by omega)).mp q) (by omega)) (ev_p _)
    · rw [decide_eq_false hq]
      exact ev_t ((nI_ltI (a := 1) (by decide) (by omega)).mpr (by omega)) (ev_p _)
  have base : ∀ L l es ew, L < 2 ^ N → holds es l → nx N g L = none → ∃ es', holds es' (l ++ []) ∧ ev (fun n => mM_eliminate N f n 2 [nI L, bI (decide (2 ≤ pop L))] (nI l.length) es ew) (nI (l ++ []).length, es', bI (decide (pop L ≤ 1))) := fun L l es ew hL hz hno => by
    rw [List.append_nil]
    refine ⟨es, hz, ?_⟩
    by_cases hq : 2 ≤ pop L
    · rw [decide_eq_true hq]
      refine ev_s (fun n => mM_eliminate_e2 N f n _ _ _ _ _) ?_
      refine ev_f bI_t ?_
      have hno9 : nxF N g L 9 = none := by
        have := nxF_9 (g := g) hL (9 - N)
        rw [show N + (9 - N) = 9 by omega] at this
        rw [this]
        exact hno
      refine e_el3 h9 hg hn hL _ ew es 9 (by omega) (fun x w h => by rw [hno9] at h; cases h) (fun _ => ?_)
      refine ev_s (fun n => mM_eliminate_e4 N f n _ _ _ _ _) ?_
      refine ev_t (by decide) ?_
      refine ev_s (fun n => mM_eliminate_e5 N f n _ _ _ _ _) ?_
      refine ev_t (by decide) ?_
      exact fin L l es ew hL hz
    · rw [decide_eq_false hq]
      exact fin L l es ew hL hz
  intro k
  induction k with
  | zero =>
    intro L hL hp l es ew hl hz
    exact base L l es ew hL hz (nx_small h9 hg hL hp)
  | succ k ih =>
    intro L hL hp l es ew hl hz
    cases hnx : nx N g L with
    | none =>
      have e : elF N g (k + 1) L = ([], L) := by
        show (match nx N g L with | none => ([], L) | some p => _) = _
        rw [hnx]
      rw [e]
      exact base L l es ew hL hz hnx
    | some p =>
      obtain ⟨x, w⟩ := p
      obtain ⟨hx, hb, hw, hw64, hp2⟩ := nxF_some h9 hg hL N hnx
      have hd := dif_pop (p512 h9 hL) hb
      have hz2 := holds_push hz (x + 16 * w)
      obtain ⟨es', q1, q2⟩ := ih (dif L (2 ^ x)) (dif_lt _ hL) (by omega) (l ++ [x + 16 * w]) _ ew (by rw [List.length_append, List.length_singleton]; omega) hz2
      have e : elF N g (k + 1) L = ((x + 16 * w) :: (elF N g k (dif L (2 ^ x))).1, (elF N g k (dif L (2 ^ x))).2) := by
        show (match nx N g L with | none => ([], L) | some p => _) = _
        rw [hnx]
      rw [e]
      refine ⟨es', by rw [append_cons']; exact q1, ?_⟩
      show ev _ (nI (l ++ (x + 16 * w) :: (elF N g k (dif L (2 ^ x))).1).length, es', bI (decide (pop (elF N g k (dif L (2 ^ x))).2 ≤ 1)))
      rw [append_cons', decide_eq_true hp2]
      refine ev_s (fun n => mM_eliminate_e2 N f n _ _ _ _ _) ?_
      refine ev_f bI_t ?_
      have h9' : nxF N g L 9 = some (x, w) := by
        have := nxF_9 (g := g) hL (9 - N)
        rw [show N + (9 - N) = 9 by omega] at this
        rw [this]
        exact hnx
      refine e_el3 h9 hg hn hL _ ew es 9 (by omega) (fun x' w' h => ?_) (fun h => by rw [h9'] at h; cases h)
      rw [h9'] at h
      cases h
      refine ev_s (fun n => mM_eliminate_e4 N f n _ _ _ _ _) ?_
      refine ev_f (nI_pos (by omega)) ?_
      refine ev_b (e_way h9 hg hn hL hx) ?_
      rw [hw]
      refine ev_g (vp_in_nI (show l.length < 9 by omega) (by decide)) ?_
      refine ev_l ?_
      show ev (fun n => mM_eliminate N f n 5 [nI L &&& ((1 : Int32) <<< (nI x &&& 31) ^^^ -1), nI x] (nI l.length + 1) (upd es (nI l.length).toNatClampNeg (nI x + 16 * nI w)) ew) _
      rw [nx_shl (by omega), nx_dif, nI_1, nI_clamp (show l.length < 2 ^ 31 by omega), mul16, nI_add]
      refine ev_s (fun n => mM_eliminate_e5 N f n _ _ _ _ _) ?_
      refine ev_f (nI_pos (by omega)) ?_
      refine ev_b (e_Msize (p31 h9 (dif_lt _ hL))) ?_
      have hpd9 := pop_le9 (dif L (2 ^ x))
      rw [List.length_append, List.length_singleton] at q2
      by_cases hq : 2 ≤ pop (dif L (2 ^ x))
      · rw [decide_eq_true hq] at q2
        exact ev_f (fun q => absurd ((nI_leI (b := 1) (by omega) (by decide)).mp q) (by omega)) q2
      · rw [decide_eq_false hq] at q2
        exact ev_t ((nI_leI (b := 1) (by omega) (by decide)).mpr (by omega)) q2
theorem e_eliminate (h9 : N ≤ 9) (hg : Gr N g) (hn : Hn N g f) {c : Nat} (hc : c < 2 ^ N) (en ew : Int32) (es : Nat → Int32) : ∃ es', holds es' (elim N g c).1 ∧ ev (fun n => mM_eliminate N f n 0 [nI c] en es ew) (nI (elim N g c).1.length, es', bI (decide (pop (elim N g c).2 ≤ 1))) := by
  have hp := pop_le9 c
  obtain ⟨es', q1, q2⟩ := e_elL h9 hg hn 9 c hc (by omega) [] es ew (by show 0 + pop c ≤ 10; omega) (holds_nil es)
  refine ⟨es', q1, ?_⟩
  refine ev_s (fun n => mM_eliminate_e0 N f n _ _ _ _) ?_
  refine ev_b (e_Msize (p31 h9 hc)) ?_
  by_cases hq : 2 ≤ pop c
  · rw [decide_eq_true hq] at q2
    refine ev_f (fun q => absurd ((nI_leI (b := 1) (by omega) (by decide)).mp q) (by omega)) ?_
    refine ev_s (fun n => mM_eliminate_e1 N f n _ _ _ _ _) ?_
    exact q2
  · rw [decide_eq_false hq] at q2
    refine ev_t ((nI_leI (b := 1) (by omega) (by decide)).mpr (by omega)) ?_
    refine ev_s (fun n => mM_eliminate_e1 N f n _ _ _ _ _) ?_
    exact q2
end RUN
