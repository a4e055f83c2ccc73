/-! step, clears and fine, hereditary, obstruction -/
def hd (N : Nat) (g : Nat → Nat) (c : Nat) : Bool := decide (pop (elim N g c).2 ≤ 1)
def fnF (N : Nat) (g : Nat → Nat) (S : Nat) : Nat → Nat → Bool
  | 0, _ => true
  | k + 1, i => (!S.testBit i || hd N g (comp N g S i)) && fnF N g S k (i + 1)
/-- the set is hereditary -/
def fine (N : Nat) (g : Nat → Nat) (S : Nat) : Bool := fnF N g S N 0
theorem fnF_iff (N : Nat) (g : Nat → Nat) (S : Nat) : ∀ k i, fnF N g S k i = true ↔ ∀ v, i ≤ v → v < i + k → S.testBit v = true → hd N g (comp N g S v) = true
  | 0, i => ⟨fun _ v h1 h2 => by omega, fun _ => rfl⟩
  | k + 1, i => by
    unfold fnF
    rw [Bool.and_eq_true, Bool.or_eq_true, fnF_iff N g S k (i + 1)]
    constructor
    · rintro ⟨h1, h2⟩ v hv1 hv2 hv3
      by_cases e : v = i
      · subst e
        rcases h1 with h1 | h1
        · rw [hv3] at h1; cases h1
        · exact h1
      · exact h2 v (by omega) (by omega) hv3
    · intro h
      refine ⟨?_, fun v h1 h2 h3 => h v (by omega) (by omega) h3⟩
      cases hb : S.testBit i
      · exact Or.inl rfl
      · exact Or.inr (h i (Nat.le_refl _) (by omega) hb)
theorem fine_iff (N : Nat) (g : Nat → Nat) (S : Nat) : fine N g S = true ↔ ∀ v, v < N → S.testBit v = true → hd N g (comp N g S v) = true := by
  unfold fine
  rw [fnF_iff]
  exact ⟨fun h v hv => h v (Nat.zero_le _) (by omega), fun h v _ hv => h v (by omega)⟩
section FINE
variable {N : Nat} {g : Nat → Nat} {f f2 : Nat → Int32}
theorem comp_subS (h9 : N ≤ 9) (hg : Gr N g) {S u : Nat} (hu : u < N) (hS : S.testBit u = true) : sub (comp N g S u) S := fun i hi => (comp_spec h9 hg S hu).2.2.2 (bits S) (fun _ _ _ _ _ h => h) hS i hi
theorem comp_same (h9 : N ≤ 9) (hg : Gr N g) {S u v : Nat} (hu : u < N) (hv : v < N) (hS : S.testBit u = true) (h : (comp N g S u).testBit v = true) : comp N g S v = comp N g S u := by
  obtain ⟨a1, a2, a3, a4⟩ := comp_spec h9 hg S hu
  obtain ⟨b1, b2, b3, b4⟩ := comp_spec h9 hg S hv
  have hsub := comp_subS h9 hg hu hS
  have h1 : ∀ i, (comp N g S v).testBit i = true → (comp N g S u).testBit i = true := b4 (bits (comp N g S u)) a1 h
  refine sub_antisymm h1 ?_
  -- u is in the component of v
  have hu2 : (comp N g S v).testBit u = true := by
    cases hb : (comp N g S v).testBit u
    · exfalso
      have hT : clo N g S (fun i => (comp N g S u).testBit i = true ∧ (comp N g S v).testBit i = false) := by
        rintro i j hi ⟨q1, q2⟩ q3 q4
        refine ⟨a1 i j hi q1 q3 q4, ?_⟩
        cases hj : (comp N g S v).testBit j
        · rfl
        · have hjN := bit_lt b2 hj
          have := b1 j i hjN hj (by rw [hg.2.1 j i hjN hi]; exact q3) (hsub i q1)
          rw [show (comp N g S v).testBit i = true from this] at q2
          cases q2
      have := a4 _ hT ⟨a3, hb⟩ v h
      rw [b3] at this
      cases this.2
    · rfl
  exact a4 (bits (comp N g S v)) b1 hu2
theorem hd_pop (h9 : N ≤ 9) (hg : Gr N g) {c : Nat} (hc : c < 2 ^ N) (h0 : 1 ≤ pop c) : hd N g c = decide (pop (elim N g c).2 = 1) := by
  have := (elF_pos h9 hg 9 c hc h0).1
  unfold hd elim
  apply decide_eq_decide.mpr
  omega
theorem comp_pop (h9 : N ≤ 9) (hg : Gr N g) (S : Nat) {u : Nat} (hu : u < N) : 1 ≤ pop (comp N g S u) := by
  obtain ⟨a1, a2, a3, a4⟩ := comp_spec h9 hg S hu
  have hne : comp N g S u ≠ 0 := fun e => by rw [e, Nat.zero_testBit] at a3; cases a3
  have := pop_lt (a := 0) (b := comp N g S u) (fun i hi => by rw [Nat.zero_testBit] at hi; cases hi) (fun e => hne e.symm) (p512 h9 a2)
  omega
theorem e_fineL (h9 : N ≤ 9) (hg : Gr N g) (hn : Hn N g f) {S : Nat} (hS : S < 2 ^ N) : ∀ k i, i + k = N → ∀ (b : Bool) en es ew, ∃ en' es' ew', ev (fun n => mM_fine N f n 1 [nI S, bI b, nI i] en es ew) (bI (b && fnF N g S k i), en', es', ew')
  | 0, i, h, b, en, es, ew => by
    refine ⟨en, es, ew, ?_⟩
    refine ev_s (fun n => mM_fine_e1 N f n _ _ _ _ _ _) ?_
    refine ev_t (nI_le (by omega) (by omega)) ?_
    refine ev_z (bI_B b) ?_
    unfold fnF
    rw [Bool.and_true]
    exact ev_p _
  | k + 1, i, h, b, en, es, ew => by
    have hi : i < N := by omega
    cases b
    · refine ⟨en, es, ew, ?_⟩
      refine ev_s (fun n => mM_fine_e1 N f n _ _ _ _ _ _) ?_
      refine ev_f (nI_ge hi (by omega)) ?_
      exact ev_t bI_f (ev_z (bI_B false) (ev_p _))
    · unfold fnF
      cases hb : S.testBit i
      · obtain ⟨en', es', ew', q⟩ := e_fineL h9 hg hn hS k (i + 1) (by omega) true en es ew
        refine ⟨en', es', ew', ?_⟩
        refine ev_s (fun n => mM_fine_e1 N f n _ _ _ _ _ _) ?_
        refine ev_f (nI_ge hi (by omega)) ?_
        refine ev_f bI_t ?_
        rw [nx_bit (p31 h9 hS) (by omega), hb]
        refine ev_f (by decide) ?_
        rw [nI_1]
        simpa using q
      · obtain ⟨es1, a1, a2⟩ := e_eliminate h9 hg hn (comp_spec h9 hg S hi).2.1 en ew es
        have a2 : ev (fun n => mM_eliminate N f n 0 [nI (comp N g S i)] en es ew) (nI (elim N g (comp N g S i)).1.length, es1, bI (hd N g (comp N g S i))) := a2
        obtain ⟨en', es', ew', q⟩ := e_fineL h9 hg hn hS k (i + 1) (by omega) (hd N g (comp N g S i)) (nI (elim N g (comp N g S i)).1.length) es1 (bI (hd N g (comp N g S i)))
        refine ⟨en', es', ew', ?_⟩
        refine ev_s (fun n => mM_fine_e1 N f n _ _ _ _ _ _) ?_
        refine ev_f (nI_ge hi (by omega)) ?_
        refine ev_f bI_t ?_
        rw [nx_bit (p31 h9 hS) (by omega), hb]
        refine ev_t (by decide) ?_
        refine ev_b (e_within h9 hg hn S hi) ?_
        refine ev_b a2 ?_
        rw [nI_1]
        simpa using q
theorem e_fine (h9 : N ≤ 9) (hg : Gr N g) (hn : Hn N g f) {S : Nat} (hS : S < 2 ^ N) (en ew : Int32) (es : Nat → Int32) : ∃ en' es' ew', ev (fun n => mM_fine N f n 0 [nI S] en es ew) (bI (fine N g S), en', es', ew') := by
  obtain ⟨en', es', ew', q⟩ := e_fineL h9 hg hn hS N 0 (by omega) true en es ew
  refine ⟨en', es', ew', ?_⟩
  refine ev_s (fun n => mM_fine_e0 N f n _ _ _ _) ?_
  rw [Bool.true_and] at q
  exact q
theorem e_clearsL (h1 : 1 ≤ N) (h9 : N ≤ 9) (hg : Gr N g) (hn : Hn N g f) {S : Nat} (hS : S < 2 ^ N) : ∀ k i, i + k = N → ∀ R, sub R S → (∀ v, S.testBit v = true → R.testBit v = false → hd N g (comp N g S v) = true) → (∀ j, j < i → R.testBit j = false) → ∀ st sn lf, ∃ st' sn' lf', ev (fun n => mE_clears N f n 1 [nI S, nI R, nI i] st sn lf) (bI (fine N g S), st', sn', lf')
  | 0, i, h, R, hR, hv, hj, st, sn, lf => by
    refine ⟨st, sn, lf, ?_⟩
    have e : fine N g S = true := (fine_iff N g S).mpr (fun v hvN hvS => hv v hvS (hj v (by omega)))
    rw [e]
    refine ev_s (fun n => mE_clears_e1 N f n _ _ _ _ _ _) ?_
    refine ev_b (e_Gsize N) ?_
    exact ev_t (nI_le (by omega) (by omega)) (ev_p _)
  | k + 1, i, h, R, hR, hv, hj, st, sn, lf => by
    have hi : i < N := by omega
    have hRl := sub_lt hR hS
    cases hb : R.testBit i
    · obtain ⟨st', sn', lf', q⟩ := e_clearsL h1 h9 hg hn hS k (i + 1) (by omega) R hR hv (fun j hj2 => by
        by_cases e : j = i
        · rw [e]; exact hb
        · exact hj j (by omega)) st sn lf
      refine ⟨st', sn', lf', ?_⟩
      refine ev_s (fun n => mE_clears_e1 N f n _ _ _ _ _ _) ?_
      refine ev_b (e_Gsize N) ?_
      refine ev_f (nI_ge hi (by omega)) ?_
      refine ev_b (e_contains (p31 h9 hRl) (by omega)) ?_
      rw [hb]
      refine ev_t bI_f ?_
      rw [nI_1]
      exact q
    · have hiS := hR i hb
      obtain ⟨c1, c2, c3, c4⟩ := comp_spec h9 hg S hi
      obtain ⟨st1, a1, a2⟩ := e_run h1 h9 hg hn c2 st sn lf
      have hcp := comp_pop h9 hg S hi
      have hel := elF_pos h9 hg 9 _ c2 hcp
      have hhd := hd_pop h9 hg c2 hcp
      cases hq : hd N g (comp N g S i)
      · refine ⟨st1, nI (elim N g (comp N g S i)).1.length, nI (elim N g (comp N g S i)).2, ?_⟩
        have e : fine N g S = false := by
          cases hf : fine N g S
          · rfl
          · rw [(fine_iff N g S).mp hf i hi hiS] at hq
            cases hq
        rw [e]
        refine ev_s (fun n => mE_clears_e1 N f n _ _ _ _ _ _) ?_
        refine ev_b (e_Gsize N) ?_
        refine ev_f (nI_ge hi (by omega)) ?_
        refine ev_b (e_contains (p31 h9 hRl) (by omega)) ?_
        rw [hb]
        refine ev_f bI_t ?_
        refine ev_b (e_reached h9 hg hn S hi) ?_
        refine ev_l ?_
        refine ev_b a2 ?_
        refine ev_b (e_bitCount (p512 h9 hel.2.1)) ?_
        refine ev_f (fun q => ?_) (ev_p _)
        have := (nI_eq (b := 1) (Nat.lt_of_le_of_lt (pop_le9 _) (by decide)) (by decide)).mp q
        rw [hhd, decide_eq_false_iff_not] at hq
        exact hq this
      · obtain ⟨st', sn', lf', q⟩ := e_clearsL h1 h9 hg hn hS k (i + 1) (by omega) (dif R (comp N g S i)) (sub_trans (dif_sub _ _) hR) (fun v hvS hvR => by
          cases hvc : (comp N g S i).testBit v
          · refine hv v hvS ?_
            rw [dif_bit, hvc] at hvR
            simpa using hvR
          · rw [comp_same h9 hg hi (bit_lt c2 hvc) hiS hvc]
            exact hq) (fun j hj2 => by
          rw [dif_bit]
          by_cases e : j = i
          · subst e
            rw [c3]
            simp
          · rw [hj j (by omega)]
            rfl) st1 (nI (elim N g (comp N g S i)).1.length) (nI (elim N g (comp N g S i)).2)
        refine ⟨st', sn', lf', ?_⟩
        refine ev_s (fun n => mE_clears_e1 N f n _ _ _ _ _ _) ?_
        refine ev_b (e_Gsize N) ?_
        refine ev_f (nI_ge hi (by omega)) ?_
        refine ev_b (e_contains (p31 h9 hRl) (by omega)) ?_
        rw [hb]
        refine ev_f bI_t ?_
        refine ev_b (e_reached h9 hg hn S hi) ?_
        refine ev_l ?_
        refine ev_b a2 ?_
        refine ev_b (e_bitCount (p512 h9 hel.2.1)) ?_
        rw [hhd, decide_eq_true_eq] at hq
        refine ev_t (by rw [hq]; rfl) ?_
        rw [nx_dif, nI_1]
        exact q
theorem e_clears (h1 : 1 ≤ N) (h9 : N ≤ 9) (hg : Gr N g) (hn : Hn N g f) {S : Nat} (hS : S < 2 ^ N) (st : Nat → Int32) (sn lf : Int32) : ∃ st' sn' lf', ev (fun n => mE_clears N f n 0 [nI S] st sn lf) (bI (fine N g S), st', sn', lf') := by
  obtain ⟨st', sn', lf', q⟩ := e_clearsL h1 h9 hg hn hS N 0 (by omega) S (sub_rfl S) (fun v h1 h2 => by rw [h1] at h2; cases h2) (fun j hj => absurd hj (by omega)) st sn lf
  exact ⟨st', sn', lf', ev_s (fun n => mE_clears_e0 N f n _ _ _ _) q⟩
/-- the obstruction: vertices left out by rising numbers -/
def obF (N : Nat) (g : Nat → Nat) : Nat → Nat → Nat → Nat
  | 0, _, K => K
  | k + 1, x, K => obF N g k (x + 1) (if fine N g (dif K (2 ^ x)) = true then K else dif K (2 ^ x))
def obs (N : Nat) (g : Nat → Nat) (c : Nat) : Nat := obF N g N 0 c
theorem dif_no {K x : Nat} (h : K.testBit x = false) : dif K (2 ^ x) = K := by
  apply Nat.eq_of_testBit_eq
  intro i
  rw [dif_bit]
  by_cases e : x = i
  · subst e; rw [h]; rfl
  · rw [Nat.testBit_two_pow_of_ne e]; simp
theorem e_obL (h1 : 1 ≤ N) (h9 : N ≤ 9) (hg : Gr N g) (hn : Hn N g f) : ∀ k x, x + k = N → ∀ K, K < 2 ^ N → ∀ st sn lf, ∃ st' sn' lf', ev (fun n => mE_obstructionIn N f n 1 [nI K, nI x] st sn lf) (nI (obF N g k x K), st', sn', lf')
  | 0, x, h, K, hK, st, sn, lf => by
    refine ⟨st, sn, lf, ?_⟩
    refine ev_s (fun n => mE_obstructionIn_e1 N f n _ _ _ _ _) ?_
    refine ev_b (e_Gsize N) ?_
    exact ev_t (nI_le (by omega) (by omega)) (ev_p _)
  | k + 1, x, h, K, hK, st, sn, lf => by
    have hx : x < N := by omega
    unfold obF
    cases hb : K.testBit x
    · obtain ⟨st', sn', lf', q⟩ := e_obL h1 h9 hg hn k (x + 1) (by omega) K hK st sn lf
      refine ⟨st', sn', lf', ?_⟩
      rw [dif_no hb, ite_self]
      refine ev_s (fun n => mE_obstructionIn_e1 N f n _ _ _ _ _) ?_
      refine ev_b (e_Gsize N) ?_
      refine ev_f (nI_ge hx (by omega)) ?_
      refine ev_l ?_
      refine ev_b (e_contains (p31 h9 hK) (by omega)) ?_
      rw [hb]
      refine ev_t bI_f ?_
      rw [nI_1]
      exact q
    · obtain ⟨st1, sn1, lf1, a⟩ := e_clears h1 h9 hg hn (dif_lt (2 ^ x) hK) st sn lf
      cases hf : fine N g (dif K (2 ^ x))
      · obtain ⟨st', sn', lf', q⟩ := e_obL h1 h9 hg hn k (x + 1) (by omega) _ (dif_lt (2 ^ x) hK) st1 sn1 lf1
        refine ⟨st', sn', lf', ?_⟩
        rw [if_neg (by decide)]
        refine ev_s (fun n => mE_obstructionIn_e1 N f n _ _ _ _ _) ?_
        refine ev_b (e_Gsize N) ?_
        refine ev_f (nI_ge hx (by omega)) ?_
        refine ev_l ?_
        refine ev_b (e_contains (p31 h9 hK) (by omega)) ?_
        rw [hb, nx_shl (by omega), nx_dif, nI_1]
        refine ev_f bI_t ?_
        refine ev_b a ?_
        rw [hf]
        exact ev_t bI_f q
      · obtain ⟨st', sn', lf', q⟩ := e_obL h1 h9 hg hn k (x + 1) (by omega) K hK st1 sn1 lf1
        refine ⟨st', sn', lf', ?_⟩
        rw [if_pos rfl]
        refine ev_s (fun n => mE_obstructionIn_e1 N f n _ _ _ _ _) ?_
        refine ev_b (e_Gsize N) ?_
        refine ev_f (nI_ge hx (by omega)) ?_
        refine ev_l ?_
        refine ev_b (e_contains (p31 h9 hK) (by omega)) ?_
        rw [hb, nx_shl (by omega), nx_dif, nI_1]
        refine ev_f bI_t ?_
        refine ev_b a ?_
        rw [hf]
        exact ev_f bI_t q
def obI (N : Nat) (g : Nat → Nat) (c : Nat) : Int32 := if fine N g c = true then -1 else nI (obs N g c)
theorem e_obIn (h1 : 1 ≤ N) (h9 : N ≤ 9) (hg : Gr N g) (hn : Hn N g f) {c : Nat} (hc : c < 2 ^ N) (st : Nat → Int32) (sn lf : Int32) : ∃ st' sn' lf', ev (fun n => mE_obstructionIn N f n 0 [nI c] st sn lf) (obI N g c, st', sn', lf') := by
  obtain ⟨st1, sn1, lf1, a⟩ := e_clears h1 h9 hg hn hc st sn lf
  unfold obI
  cases hf : fine N g c
  · obtain ⟨st', sn', lf', q⟩ := e_obL h1 h9 hg hn N 0 (by omega) c hc st1 sn1 lf1
    refine ⟨st', sn', lf', ev_s (fun n => mE_obstructionIn_e0 N f n _ _ _ _) (ev_b a ?_)⟩
    rw [hf]
    exact ev_t bI_f q
  · refine ⟨st1, sn1, lf1, ev_s (fun n => mE_obstructionIn_e0 N f n _ _ _ _) (ev_b a ?_)⟩
    rw [hf]
    exact ev_f bI_t (ev_p _)
theorem e_MobL (h9 : N ≤ 9) (hg : Gr N g) (hn : Hn N g f) : ∀ k x, x + k = N → ∀ K, K < 2 ^ N → ∀ en es ew, ∃ en' es' ew', ev (fun n => mM_obstruction N f n 1 [nI K, nI x] en es ew) (nI (obF N g k x K), en', es', ew')
  | 0, x, h, K, hK, en, es, ew => by
    refine ⟨en, es, ew, ?_⟩
    refine ev_s (fun n => mM_obstruction_e1 N f n _ _ _ _ _) ?_
    exact ev_t (nI_le (by omega) (by omega)) (ev_p _)
  | k + 1, x, h, K, hK, en, es, ew => by
    have hx : x < N := by omega
    unfold obF
    obtain ⟨en1, es1, ew1, a⟩ := e_fine h9 hg hn (dif_lt (2 ^ x) hK) en ew es
    cases hf : fine N g (dif K (2 ^ x))
    · obtain ⟨en', es', ew', q⟩ := e_MobL h9 hg hn k (x + 1) (by omega) _ (dif_lt (2 ^ x) hK) en1 es1 ew1
      refine ⟨en', es', ew', ?_⟩
      rw [if_neg (by decide)]
      refine ev_s (fun n => mM_obstruction_e1 N f n _ _ _ _ _) ?_
      refine ev_f (nI_ge hx (by omega)) ?_
      refine ev_l ?_
      rw [nx_shl (by omega), nx_dif, nI_1]
      refine ev_b a ?_
      rw [hf]
      exact ev_t bI_f q
    · obtain ⟨en', es', ew', q⟩ := e_MobL h9 hg hn k (x + 1) (by omega) K hK en1 es1 ew1
      refine ⟨en', es', ew', ?_⟩
      rw [if_pos rfl]
      refine ev_s (fun n => mM_obstruction_e1 N f n _ _ _ _ _) ?_
      refine ev_f (nI_ge hx (by omega)) ?_
      refine ev_l ?_
      rw [nx_shl (by omega), nx_dif, nI_1]
      refine ev_b a ?_
      rw [hf]
      exact ev_f bI_t q
theorem e_Mob (h1 : 1 ≤ N) (h9 : N ≤ 9) (hg : Gr N g) (hn : Hn N g f) {j : Nat} (hj : j < N) (en ew : Int32) (es : Nat → Int32) : ∃ en' es' ew', ev (fun n => mM_obstruction N f n 0 [nI j] en es ew) (obI N g (cmp N g j), en', es', ew') := by
  obtain ⟨en1, es1, ew1, a⟩ := e_fine h9 hg hn (cmp_lt h9 hg hj) en ew es
  unfold obI
  cases hf : fine N g (cmp N g j)
  · obtain ⟨en', es', ew', q⟩ := e_MobL h9 hg hn N 0 (by omega) _ (cmp_lt h9 hg hj) en1 es1 ew1
    refine ⟨en', es', ew', ev_s (fun n => mM_obstruction_e0 N f n _ _ _ _) (ev_b (e_is N _) ?_)⟩
    rw [isV_t h9 hj]
    refine ev_f bI_t (ev_b (e_Mcomp h1 h9 hg hn hj) (ev_b a ?_))
    rw [hf]
    exact ev_t bI_f (ev_b (e_Mcomp h1 h9 hg hn hj) q)
  · refine ⟨en1, es1, ew1, ev_s (fun n => mM_obstruction_e0 N f n _ _ _ _) (ev_b (e_is N _) ?_)⟩
    rw [isV_t h9 hj]
    refine ev_f bI_t (ev_b (e_Mcomp h1 h9 hg hn hj) (ev_b a ?_))
    rw [hf]
    exact ev_f bI_t (ev_p _)
/-! class against model -/
theorem e_hereditary (h1 : 1 ≤ N) (h9 : N ≤ 9) (hg : Gr N g) (hn : Hn N g f) (hn2 : Hn N g f2) (v : Int32) (st : Nat → Int32) (sn lf en ew : Int32) (es : Nat → Int32) : ∃ (b : Bool) (st' : Nat → Int32) (sn' lf' en' : Int32) (es' : Nat → Int32) (ew' : Int32), (b = true → ∃ j, j < N ∧ v = nI j) ∧ ev (fun n => mF_hereditary N f n 0 [v] st sn lf) (bI b, st', sn', lf') ∧ ev (fun n => mM_hereditary N f2 n 0 [v] en es ew) (bI b, en', es', ew') := by
  cases hv : isV N v
  · refine ⟨false, st, sn, lf, en, es, ew, (fun h => by cases h), ev_s (fun n => mF_hereditary_e0 N f n _ _ _ _) (ev_b (e_has N v) ?_), ev_s (fun n => mM_hereditary_e0 N f2 n _ _ _ _) (ev_b (e_is N v) ?_)⟩
    · rw [hv]; exact ev_t bI_f (ev_p _)
    · rw [hv]; exact ev_t bI_f (ev_p _)
  · obtain ⟨j, hj, rfl⟩ := isV_j h9 hv
    obtain ⟨st', sn', lf', a⟩ := e_clears h1 h9 hg hn (cmp_lt h9 hg hj) st sn lf
    obtain ⟨en', es', ew', b⟩ := e_fine h9 hg hn2 (cmp_lt h9 hg hj) en ew es
    refine ⟨fine N g (cmp N g j), st', sn', lf', en', es', ew', fun _ => ⟨j, hj, rfl⟩, ev_s (fun n => mF_hereditary_e0 N f n _ _ _ _) (ev_b (e_has N _) ?_), ev_s (fun n => mM_hereditary_e0 N f2 n _ _ _ _) (ev_b (e_is N _) ?_)⟩
    · rw [hv]
      refine ev_f bI_t (ev_b (e_compOf h1 h9 hg hn hj) (ev_b a ?_))
      cases fine N g (cmp N g j)
      · exact ev_t bI_f (ev_p _)
      · exact ev_f bI_t (ev_p _)
    · rw [hv]
      refine ev_f bI_t (ev_b (e_Mcomp h1 h9 hg hn2 hj) (ev_b b ?_))
      cases fine N g (cmp N g j)
      · exact ev_t bI_f (ev_p _)
      · exact ev_f bI_t (ev_p _)
theorem e_step (h1 : 1 ≤ N) (h9 : N ≤ 9) (hg : Gr N g) (hn : Hn N g f) (hn2 : Hn N g f2) (v k : Int32) (st : Nat → Int32) (sn lf en ew : Int32) (es : Nat → Int32) : ∃ (r : Int32) (st' : Nat → Int32) (sn' lf' en' : Int32) (es' : Nat → Int32) (ew' : Int32), ev (fun n => mF_step N f n 0 [v, k] st sn lf) (r, st', sn', lf') ∧ ev (fun n => mM_step N f2 n 0 [v, k] en es ew) (r, en', es', ew') := by
  cases hv : isV N v
  · refine ⟨-1, st, sn, lf, en, es, ew, ev_s (fun n => mF_step_e0 N f n _ _ _ _ _) (ev_b (e_has N v) ?_), ev_s (fun n => mM_step_e0 N f2 n _ _ _ _ _) (ev_b (e_is N v) ?_)⟩
    · rw [hv]; exact ev_t bI_f (ev_p _)
    · rw [hv]; exact ev_t bI_f (ev_p _)
  · obtain ⟨j, hj, rfl⟩ := isV_j h9 hv
    obtain ⟨st', a1, a2⟩ := e_run h1 h9 hg hn (cmp_lt h9 hg hj) st sn lf
    obtain ⟨es', b1, b2⟩ := e_eliminate h9 hg hn2 (cmp_lt h9 hg hj) en ew es
    have hpos := elF_pos h9 hg 9 _ (cmp_lt h9 hg hj) (comp_pop h9 hg _ hj)
    have hpN := pop_leN (cmp_lt h9 hg hj) 9
    have hlen : (elim N g (cmp N g j)).1.length < N := by
      have h3 := hpos.2.2
      have h4 := hpos.1
      unfold elim
      show _ < N
      have h5 : pop (cmp N g j) ≤ N := hpN
      omega
    have both : ∀ r : Int32, ev (fun n => mE_stepOf N f n 0 [nI (cmp N g j), k] st sn lf) (r, st', nI (elim N g (cmp N g j)).1.length, nI (elim N g (cmp N g j)).2) → ev (fun n => mM_step N f2 n 0 [nI j, k] en es ew) (r, nI (elim N g (cmp N g j)).1.length, es', bI (decide (pop (elim N g (cmp N g j)).2 ≤ 1))) → ∃ (r : Int32) (st' : Nat → Int32) (sn' lf' en' : Int32) (es' : Nat → Int32) (ew' : Int32), ev (fun n => mF_step N f n 0 [nI j, k] st sn lf) (r, st', sn', lf') ∧ ev (fun n => mM_step N f2 n 0 [nI j, k] en es ew) (r, en', es', ew') := fun r h h2 => by
      refine ⟨r, st', nI (elim N g (cmp N g j)).1.length, nI (elim N g (cmp N g j)).2, nI (elim N g (cmp N g j)).1.length, es', bI (decide (pop (elim N g (cmp N g j)).2 ≤ 1)), ev_s (fun n => mF_step_e0 N f n _ _ _ _ _) (ev_b (e_has N _) ?_), h2⟩
      rw [hv]
      exact ev_f bI_t (ev_b (e_compOf h1 h9 hg hn hj) (ev_b h (ev_p _)))
    by_cases hk : k < 0
    · refine both (-1) (ev_s (fun n => mE_stepOf_e0 N f n _ _ _ _ _) (ev_b a2 (ev_t hk (ev_p _)))) (ev_s (fun n => mM_step_e0 N f2 n _ _ _ _ _) (ev_b (e_is N _) ?_))
      rw [hv]
      exact ev_f bI_t (ev_b (e_Mcomp h1 h9 hg hn2 hj) (ev_b b2 (ev_t hk (ev_p _))))
    · by_cases hk2 : nI (elim N g (cmp N g j)).1.length ≤ k
      · refine both (-1) (ev_s (fun n => mE_stepOf_e0 N f n _ _ _ _ _) (ev_b a2 (ev_f hk (ev_t hk2 (ev_p _))))) (ev_s (fun n => mM_step_e0 N f2 n _ _ _ _ _) (ev_b (e_is N _) ?_))
        rw [hv]
        exact ev_f bI_t (ev_b (e_Mcomp h1 h9 hg hn2 hj) (ev_b b2 (ev_f hk (ev_t hk2 (ev_p _)))))
      · obtain ⟨i, hi, rfl⟩ := nI_of hk
        have hil : i < (elim N g (cmp N g j)).1.length := by
          rcases Nat.lt_or_ge i (elim N g (cmp N g j)).1.length with q | q
          · exact q
          · exact absurd (nI_le q hi) hk2
        refine both (nI ((elim N g (cmp N g j)).1.getD i 0)) (ev_s (fun n => mE_stepOf_e0 N f n _ _ _ _ _) (ev_b a2 (ev_f hk (ev_f hk2 (ev_g (vp_in_nI (by omega) (by omega)) ?_))))) (ev_s (fun n => mM_step_e0 N f2 n _ _ _ _ _) (ev_b (e_is N _) ?_))
        · rw [nI_clamp hi, a1 i hil]
          exact ev_p _
        · rw [hv]
          refine ev_f bI_t (ev_b (e_Mcomp h1 h9 hg hn2 hj) (ev_b b2 (ev_f hk (ev_f hk2 (ev_g (vp_in_nI (by omega) (by omega)) ?_)))))
          rw [nI_clamp hi, b1 i hil]
          exact ev_p _
theorem e_obstruction (h1 : 1 ≤ N) (h9 : N ≤ 9) (hg : Gr N g) (hn : Hn N g f) (hn2 : Hn N g f2) (v : Int32) (st : Nat → Int32) (sn lf en ew : Int32) (es : Nat → Int32) : ∃ (r : Int32) (st' : Nat → Int32) (sn' lf' en' : Int32) (es' : Nat → Int32) (ew' : Int32), ev (fun n => mF_obstruction N f n 0 [v] st sn lf) (r, st', sn', lf') ∧ ev (fun n => mM_obstruction N f2 n 0 [v] en es ew) (r, en', es', ew') := by
  cases hv : isV N v
  · refine ⟨-1, st, sn, lf, en, es, ew, ev_s (fun n => mF_obstruction_e0 N f n _ _ _ _) (ev_b (e_has N v) ?_), ev_s (fun n => mM_obstruction_e0 N f2 n _ _ _ _) (ev_b (e_is N v) ?_)⟩
    · rw [hv]; exact ev_t bI_f (ev_p _)
    · rw [hv]; exact ev_t bI_f (ev_p _)
  · obtain ⟨j, hj, rfl⟩ := isV_j h9 hv
    obtain ⟨st', sn', lf', a⟩ := e_obIn h1 h9 hg hn (cmp_lt h9 hg hj) st sn lf
    obtain ⟨en', es', ew', b⟩ := e_Mob h1 h9 hg hn2 hj en ew es
    refine ⟨obI N g (cmp N g j), st', sn', lf', en', es', ew', ev_s (fun n => mF_obstruction_e0 N f n _ _ _ _) (ev_b (e_has N _) ?_), b⟩
    rw [hv]
    exact ev_f bI_t (ev_b (e_compOf h1 h9 hg hn hj) (ev_b a (ev_p _)))
end FINE
