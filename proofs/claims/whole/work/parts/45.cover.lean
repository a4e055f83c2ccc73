/-! cover: class and model -/
/-- the table is right on the parts of c -/
def Fw (g : Nat → Nat) (c : Nat) (fw : Nat → Int32) : Prop := ∀ s, sub s c → ∃ v, v ≤ 9 ∧ fw s = nI v ∧ mn g s v
section COVER
variable {N : Nat} {g : Nat → Nat} {f f2 : Nat → Int32}
theorem one_nI (w : Nat) : (1 : Int32) + nI w = nI (1 + w) := by
  rw [show (1 : Int32) = nI 1 from rfl, nI_add]
theorem e_fwL (h9 : N ≤ 9) {s ar U : Nat} {fw : Nat → Int32} (hs : s < 2 ^ N) (har : sub ar s) (hF : Fw g s fw) (hU : ∀ a, a ≠ 0 → sub a ar → clq g a → ∀ w, cov g w (dif s a) → cov g (w + 1) U) : ∀ n t v, t ≤ n → sub t ar → v ≤ 10 → cov g v U → ∃ v', v' ≤ v ∧ cov g v' U ∧ (∀ a, a ≠ 0 → sub a ar → a ≤ t → clq g a → ∀ w, mn g (dif s a) w → v' ≤ 1 + w) ∧ ev (fun n => mC_fewestWith N f fw n 1 [nI s, nI ar, nI v, nI t]) (nI v')
  | n, 0, v, hn, ht, hv, hc => by
    refine ⟨v, Nat.le_refl _, hc, fun a h0 _ h1 => absurd h1 (by omega), ?_⟩
    refine ev_s (fun n => mC_fewestWith_e1 N f fw n _ _ _ _) ?_
    exact ev_t (by decide) (ev_p _)
  | 0, t + 1, v, hn, ht, hv, hc => by omega
  | n + 1, t + 1, v, hn, ht, hv, hc => by
    have hts := sub_trans ht har
    have htN := sub_lt hts hs
    have ht31 := p31 h9 htN
    obtain ⟨w1, b1, b2, b3⟩ := hF (t + 1) hts
    obtain ⟨w2, c1, c2, c3⟩ := hF (dif s (t + 1)) (dif_sub _ _)
    have hp : 2 ^ N ≤ 2 ^ 9 := Nat.pow_le_pow_right (by decide) h9
    have nxt : ∀ v1, v1 ≤ v → v1 ≤ 10 → cov g v1 U → (clq g (t + 1) → v1 ≤ 1 + w2) → ∃ v', v' ≤ v ∧ cov g v' U ∧ (∀ a, a ≠ 0 → sub a ar → a ≤ t + 1 → clq g a → ∀ w, mn g (dif s a) w → v' ≤ 1 + w) ∧ ev (fun n => mC_fewestWith N f fw n 2 [nI s, nI ar, nI v1, nI (t + 1)]) (nI v') := fun v1 hv1 hv10 hcv hcl => by
      have hlt : t &&& ar ≤ n := Nat.le_trans Nat.and_le_left (by omega)
      obtain ⟨v', q1, q2, q3, q4⟩ := e_fwL h9 hs har hF hU n (t &&& ar) v1 hlt (and_sub _ _) hv10 hcv
      refine ⟨v', Nat.le_trans q1 hv1, q2, fun a h0 ha hle hca w hw => ?_, ?_⟩
      · by_cases e : a = t + 1
        · subst e
          have := mn_u hw c3
          have := hcl hca
          omega
        · exact q3 a h0 ha (smask (t + 1) (t + 1) ar a (Nat.le_refl _) ht ha (by omega)) hca w hw
      · refine ev_s (fun n => mC_fewestWith_e2 N f fw n _ _ _ _) ?_
        refine ev_l ?_
        rw [nI_and1 ar (by omega)]
        exact q4
    have main : ∃ v1, v1 ≤ v ∧ v1 ≤ 10 ∧ cov g v1 U ∧ (clq g (t + 1) → v1 ≤ 1 + w2) ∧ ∀ R, ev (fun n => mC_fewestWith N f fw n 2 [nI s, nI ar, nI v1, nI (t + 1)]) R → ev (fun n => mC_fewestWith N f fw n 1 [nI s, nI ar, nI v, nI (t + 1)]) R := by
      by_cases e1 : w1 = 1
      · have hcl := ((mn_1 b3).mp e1).2
        have hgo : ∀ R v1, nI v1 = (if nI (1 + w2) < nI v then nI (1 + w2) else nI v) → ev (fun n => mC_fewestWith N f fw n 2 [nI s, nI ar, nI v1, nI (t + 1)]) R → ev (fun n => mC_fewestWith N f fw n 1 [nI s, nI ar, nI v, nI (t + 1)]) R := fun R v1 hv1 hR => by
          refine ev_s (fun n => mC_fewestWith_e1 N f fw n _ _ _ _) ?_
          refine ev_f (nI_nle (by omega) ht31) ?_
          refine ev_g (vp_in_nI htN (by omega)) ?_
          rw [nI_clamp ht31, b2, e1]
          refine ev_t rfl ?_
          rw [nx_dif]
          refine ev_g (vp_in_nI (dif_lt _ hs) (by omega)) ?_
          rw [nI_clamp (p31 h9 (dif_lt _ hs)), c2, one_nI]
          refine ev_l ?_
          rw [← hv1]
          exact hR
        by_cases e2 : 1 + w2 < v
        · refine ⟨1 + w2, by omega, by omega, ?_, fun _ => Nat.le_refl _, fun R hR => hgo R (1 + w2) ?_ hR⟩
          · rw [Nat.add_comm]
            exact hU (t + 1) (by omega) ht hcl w2 c3.1
          · rw [if_pos (nI_lt e2 (by omega))]
        · refine ⟨v, Nat.le_refl _, hv, hc, fun _ => by omega, fun R hR => hgo R v ?_ hR⟩
          rw [if_neg (nI_nlt (by omega) (by omega))]
      · refine ⟨v, Nat.le_refl _, hv, hc, fun hcl => absurd ((mn_1 b3).mpr ⟨by omega, hcl⟩) e1, fun R hR => ?_⟩
        refine ev_s (fun n => mC_fewestWith_e1 N f fw n _ _ _ _) ?_
        refine ev_f (nI_nle (by omega) ht31) ?_
        refine ev_g (vp_in_nI htN (by omega)) ?_
        rw [nI_clamp ht31, b2]
        exact ev_f (fun q => e1 ((nI_eq (b := 1) (by omega) (by decide)).mp q)) hR
    obtain ⟨v1, m1, m2, m3, m4, m5⟩ := main
    obtain ⟨v', q1, q2, q3, q4⟩ := nxt v1 m1 m2 m3 m4
    exact ⟨v', q1, q2, q3, m5 _ q4⟩
theorem or_two {s u i : Nat} : (s ||| 2 ^ u).testBit i = true ↔ s.testBit i = true ∨ u = i := by
  rw [or_bit, bit_two]
theorem e_fewestWith (h9 : N ≤ 9) (hg : Gr N g) (hn : Hn N g f) {s u : Nat} {fw : Nat → Int32} (hs : s < 2 ^ N) (hu : u < N) (hus : s.testBit u = false) (hF : Fw g s fw) : ∃ v, v ≤ 9 ∧ mn g (s ||| 2 ^ u) v ∧ ev (fun n => mC_fewestWith N f fw n 0 [nI u, nI s]) (nI v) := by
  have hp : 2 ^ N ≤ 2 ^ 9 := Nat.pow_le_pow_right (by decide) h9
  have har : sub (g u &&& s) s := and_sub _ _
  obtain ⟨w0, a1, a2, a3⟩ := hF s (sub_rfl s)
  have hUlt : s ||| 2 ^ u < 2 ^ N := Nat.or_lt_two_pow hs (two_lt hu)
  have hU : ∀ a, a ≠ 0 → sub a (g u &&& s) → clq g a → ∀ w, cov g w (dif s a) → cov g (w + 1) (s ||| 2 ^ u) := fun a _ ha hca w hw => by
    refine ⟨a ||| 2 ^ u, fun i hi => ?_, fun x y hx hy hne => ?_, ?_⟩
    · rcases or_two.mp hi with q | q
      · exact or_two.mpr (Or.inl (har i (ha i q)))
      · exact or_two.mpr (Or.inr q)
    · rcases or_two.mp hx with q | q
      · rcases or_two.mp hy with r | r
        · exact hca x y q r hne
        · subst r
          have := (and_bit.mp (ha x q)).1
          rw [hg.2.1 x u (bit_lt hs (har x (ha x q))) hu]
          exact this
      · subst q
        rcases or_two.mp hy with r | r
        · exact (and_bit.mp (ha y r)).1
        · exact absurd r hne
    · have e : dif (s ||| 2 ^ u) (a ||| 2 ^ u) = dif s a := by
        apply Nat.eq_of_testBit_eq
        intro i
        rw [dif_bit, dif_bit, Nat.testBit_or, Nat.testBit_or]
        by_cases e : u = i
        · subst e
          rw [hus, bit_two.mpr rfl]
          simp
        · rw [Nat.testBit_two_pow_of_ne e]
          simp
      rw [e]
      exact hw
  have hstart : cov g (1 + w0) (s ||| 2 ^ u) := by
    rw [Nat.add_comm]
    refine ⟨2 ^ u, fun i hi => or_two.mpr (Or.inr (bit_two.mp hi)), fun x y hx hy hne => absurd ((bit_two.mp hx).symm.trans (bit_two.mp hy)) hne, ?_⟩
    have e : dif (s ||| 2 ^ u) (2 ^ u) = s := by
      apply Nat.eq_of_testBit_eq
      intro i
      rw [dif_bit, Nat.testBit_or]
      by_cases e : u = i
      · subst e
        rw [hus, bit_two.mpr rfl]
        rfl
      · rw [Nat.testBit_two_pow_of_ne e]
        simp
    rw [e]
    exact a3.1
  obtain ⟨v', q1, q2, q3, q4⟩ := e_fwL (f := f) h9 hs har hF hU (g u &&& s) (g u &&& s) (1 + w0) (Nat.le_refl _) (sub_rfl _) (by omega) hstart
  have hmn : mn g (s ||| 2 ^ u) v' := by
    refine ⟨q2, fun k hk => ?_⟩
    have hne : s ||| 2 ^ u ≠ 0 := fun e => by
      have : (s ||| 2 ^ u).testBit u = true := or_two.mpr (Or.inr rfl)
      rw [e, Nat.zero_testBit] at this
      cases this
    obtain ⟨k', rfl⟩ := cov_ne hk hne
    obtain ⟨T, t1, t2, t3, t4⟩ := cov_ex k' _ hk (or_two.mpr (Or.inr rfl) : (s ||| 2 ^ u).testBit u = true)
    have ha : sub (dif T (2 ^ u)) (g u &&& s) := fun i hi => by
      have hi := dif_bt.mp hi
      have hne : u ≠ i := fun e => by rw [bit_two.mpr e] at hi; cases hi.2
      refine and_bit.mpr ⟨t2 u i t3 hi.1 hne, ?_⟩
      rcases or_two.mp (t1 i hi.1) with q | q
      · exact q
      · exact absurd q hne
    have e : dif (s ||| 2 ^ u) T = dif s (dif T (2 ^ u)) := by
      apply Nat.eq_of_testBit_eq
      intro i
      rw [dif_bit, dif_bit, dif_bit, Nat.testBit_or]
      by_cases e : u = i
      · subst e
        rw [hus, bit_two.mpr rfl, t3]
        rfl
      · rw [Nat.testBit_two_pow_of_ne e]
        simp
    rw [e] at t4
    by_cases h0 : dif T (2 ^ u) = 0
    · rw [h0, dif_z] at t4
      have := a3.2 k' t4
      omega
    · obtain ⟨w, -, hw⟩ := mn_ex g (p512 h9 (dif_lt (dif T (2 ^ u)) hs))
      have h5 := q3 (dif T (2 ^ u)) h0 ha (sub_le ha) (clq_sub t2 (dif_sub _ _)) w hw
      have := hw.2 k' t4
      omega
  refine ⟨v', ?_, hmn, ?_⟩
  · exact hmn.2 9 (cov_pop 9 _ (p512 h9 hUlt) (pop_le9 _))
  · refine ev_s (fun n => mC_fewestWith_e0 N f fw n _ _) ?_
    refine ev_b (e_nearInside h9 hn hu s) ?_
    refine ev_g (vp_in_nI hs (by omega)) ?_
    refine ev_l ?_
    rw [nI_clamp (p31 h9 hs), a2, one_nI]
    exact q4
theorem e_cwL (h9 : N ≤ 9) (hg : Gr N g) (hn : Hn N g f) {G u : Nat} (hG : G < 2 ^ N) (hu : u < N) (huG : G.testBit u = false) : ∀ k s fw, s + k = G + 1 → Fw g G fw → (∀ t, sub t G → t < s → ∃ v, v ≤ 9 ∧ fw (t ||| 2 ^ u) = nI v ∧ mn g (t ||| 2 ^ u) v) → ∃ fw', Fw g (G ||| 2 ^ u) fw' ∧ ev (fun n => mC_coverWith N f n 1 [nI u, nI G, nI s] fw) fw'
  | 0, s, fw, h, hF, hdone => by
    have hG5 := p512 h9 hG
    refine ⟨fw, fun t ht => ?_, ?_⟩
    · cases htu : t.testBit u
      · refine hF t (fun i hi => ?_)
        rcases or_two.mp (ht i hi) with q | q
        · exact q
        · rw [q, hi] at htu
          cases htu
      · have hsub : sub (dif t (2 ^ u)) G := fun i hi => by
          have hi := dif_bt.mp hi
          rcases or_two.mp (ht i hi.1) with q | q
          · exact q
          · rw [bit_two.mpr q] at hi
            cases hi.2
        have e : dif t (2 ^ u) ||| 2 ^ u = t := by
          apply Nat.eq_of_testBit_eq
          intro i
          rw [Nat.testBit_or, dif_bit]
          by_cases e : u = i
          · subst e
            rw [htu, bit_two.mpr rfl]
            rfl
          · rw [Nat.testBit_two_pow_of_ne e]
            simp
        have := hdone _ hsub (by have := sub_le hsub; omega)
        rw [e] at this
        exact this
    · refine ev_s (fun n => mC_coverWith_e1 N f n _ _ _ _) ?_
      exact ev_t (nI_lt (by omega) (by omega)) (ev_p _)
  | k + 1, s, fw, h, hF, hdone => by
    have hG5 := p512 h9 hG
    have hp : 2 ^ N ≤ 2 ^ 9 := Nat.pow_le_pow_right (by decide) h9
    by_cases q1 : dif s G = 0
    · have hsG := dif0.mp q1
      have hsN := sub_lt hsG hG
      have hsu : s.testBit u = false := by
        cases hb : s.testBit u
        · rfl
        · rw [hsG u hb] at huG
          cases huG
      obtain ⟨v, v1, v2, v3⟩ := e_fewestWith h9 hg hn hsN hu hsu (fun t ht => hF t (sub_trans ht hsG))
      have hidx : s ||| 2 ^ u < 2 ^ N := Nat.or_lt_two_pow hsN (two_lt hu)
      have hkeep : ∀ t, t ≠ s ||| 2 ^ u → upd fw (s ||| 2 ^ u) (nI v) t = fw t := fun t ht => pk_un ht
      obtain ⟨fw', r1, r2⟩ := e_cwL h9 hg hn hG hu huG k (s + 1) (upd fw (s ||| 2 ^ u) (nI v)) (by omega) (fun t ht => by
        rw [hkeep t (fun e => by
          have : (s ||| 2 ^ u).testBit u = true := or_two.mpr (Or.inr rfl)
          rw [← e] at this
          rw [ht u this] at huG
          cases huG)]
        exact hF t ht) (fun t ht hts => by
        by_cases e : t = s
        · subst e
          exact ⟨v, v1, pk_us, v2⟩
        · rw [hkeep _ (fun q => e (by
            apply Nat.eq_of_testBit_eq
            intro i
            have := congrArg (fun z => z.testBit i) q
            simp only [Nat.testBit_or] at this
            by_cases e2 : u = i
            · subst e2
              rw [hsu]
              cases hb : t.testBit u
              · rfl
              · rw [ht u hb] at huG
                cases huG
            · rw [Nat.testBit_two_pow_of_ne e2] at this
              simpa using this))]
          exact hdone t ht (by omega))
      refine ⟨fw', r1, ?_⟩
      refine ev_s (fun n => mC_coverWith_e1 N f n _ _ _ _) ?_
      refine ev_f (nI_nlt (by omega) (by omega)) ?_
      rw [nx_dif]
      refine ev_t (by rw [q1]; rfl) ?_
      refine ev_b v3 ?_
      rw [nx_shl (by omega), nx_or]
      refine ev_g (vp_in_nI hidx (by omega)) ?_
      rw [nI_clamp (p31 h9 hidx), nI_1]
      exact r2
    · obtain ⟨fw', r1, r2⟩ := e_cwL h9 hg hn hG hu huG k (s + 1) fw (by omega) hF (fun t ht hts => by
        by_cases e : t = s
        · subst e
          exact absurd (dif0.mpr ht) q1
        · exact hdone t ht (by omega))
      refine ⟨fw', r1, ?_⟩
      refine ev_s (fun n => mC_coverWith_e1 N f n _ _ _ _) ?_
      refine ev_f (nI_nlt (by omega) (by omega)) ?_
      rw [nx_dif, nI_1]
      exact ev_f (fun q => q1 ((nI0 (dif_lt G (by omega : s < 2 ^ 31))).mp q)) r2
/-- the vertices of c below i -/
def low (c i : Nat) : Nat := c % 2 ^ i
theorem low_bit (c i j : Nat) : (low c i).testBit j = (decide (j < i) && c.testBit j) := by
  unfold low
  rw [Nat.testBit_mod_two_pow]
theorem e_fcL (h9 : N ≤ 9) (hg : Gr N g) (hn : Hn N g f) {c : Nat} (hc : c < 2 ^ N) : ∀ k i fw, i + k = N → Fw g (low c i) fw → ∃ v fw', v ≤ 9 ∧ mn g c v ∧ Fw g c fw' ∧ ev (fun n => mC_fewestCliques N f n 1 [nI c, nI (low c i), nI i] fw) (nI v, fw')
  | 0, i, fw, h, hF => by
    have hp : 2 ^ N ≤ 2 ^ 9 := Nat.pow_le_pow_right (by decide) h9
    have e : low c i = c := by
      rw [show i = N by omega]
      exact Nat.mod_eq_of_lt hc
    rw [e] at hF
    obtain ⟨v, a1, a2, a3⟩ := hF c (sub_rfl c)
    refine ⟨v, fw, a1, a3, hF, ?_⟩
    refine ev_s (fun n => mC_fewestCliques_e1 N f n _ _ _ _) ?_
    refine ev_b (e_Gsize N) ?_
    refine ev_t (nI_le (by omega) (by omega)) ?_
    refine ev_g (vp_in_nI hc (by omega)) ?_
    rw [nI_clamp (p31 h9 hc), a2]
    exact ev_p _
  | k + 1, i, fw, h, hF => by
    have hi : i < N := by omega
    cases hb : c.testBit i
    · have e : low c (i + 1) = low c i := by
        apply Nat.eq_of_testBit_eq
        intro j
        rw [low_bit, low_bit]
        by_cases e : j = i
        · subst e
          rw [hb]
          simp
        · rw [show decide (j < i + 1) = decide (j < i) from decide_eq_decide.mpr (by omega)]
      obtain ⟨v, fw', a1, a2, a3, a4⟩ := e_fcL h9 hg hn hc k (i + 1) fw (by omega) (by rw [e]; exact hF)
      refine ⟨v, fw', a1, a2, a3, ?_⟩
      rw [e] at a4
      refine ev_s (fun n => mC_fewestCliques_e1 N f n _ _ _ _) ?_
      refine ev_b (e_Gsize N) ?_
      refine ev_f (nI_ge hi (by omega)) ?_
      refine ev_b (e_contains (p31 h9 hc) (by omega)) ?_
      rw [hb, nI_1]
      exact ev_t bI_f a4
    · have e : low c (i + 1) = low c i ||| 2 ^ i := by
        apply Nat.eq_of_testBit_eq
        intro j
        rw [low_bit, Nat.testBit_or, low_bit]
        by_cases e : i = j
        · subst e
          rw [hb, bit_two.mpr rfl]
          simp
        · rw [Nat.testBit_two_pow_of_ne e, show decide (j < i + 1) = decide (j < i) from decide_eq_decide.mpr (by omega)]
          simp
      have hlow : low c i < 2 ^ N := Nat.lt_of_le_of_lt (Nat.mod_le _ _) hc
      have hno : (low c i).testBit i = false := by
        rw [low_bit]
        simp
      obtain ⟨fw1, b1, b2⟩ := e_cwL h9 hg hn hlow hi hno (low c i + 1) 0 fw (by omega) hF (fun t _ ht => absurd ht (by omega))
      obtain ⟨v, fw', a1, a2, a3, a4⟩ := e_fcL h9 hg hn hc k (i + 1) fw1 (by omega) (by rw [e]; exact b1)
      refine ⟨v, fw', a1, a2, a3, ?_⟩
      rw [e] at a4
      refine ev_s (fun n => mC_fewestCliques_e1 N f n _ _ _ _) ?_
      refine ev_b (e_Gsize N) ?_
      refine ev_f (nI_ge hi (by omega)) ?_
      refine ev_b (e_contains (p31 h9 hc) (by omega)) ?_
      rw [hb]
      refine ev_f bI_t ?_
      refine ev_b (ev_s (fun n => mC_coverWith_e0 N f n _ _ _) b2) ?_
      refine ev_l ?_
      rw [nx_shl (by omega), nx_or, nI_1]
      exact a4
theorem Fw0 {fw : Nat → Int32} (h : fw 0 = 0) : Fw g 0 fw := fun s hs => by
  have e : s = 0 := sub_antisymm hs (sub_0 s)
  subst e
  exact ⟨0, by omega, h, mn_0 g⟩
theorem Fw_z {c : Nat} {fw : Nat → Int32} (h : Fw g c fw) : fw 0 = 0 := by
  obtain ⟨v, a1, a2, a3⟩ := h 0 (sub_0 c)
  have := a3.2 0 rfl
  rw [a2, show v = 0 by omega]
  rfl
theorem e_fewestCliques (h9 : N ≤ 9) (hg : Gr N g) (hn : Hn N g f) {c : Nat} (hc : c < 2 ^ N) {fw : Nat → Int32} (h0 : fw 0 = 0) : ∃ v fw', v ≤ 9 ∧ mn g c v ∧ fw' 0 = 0 ∧ ev (fun n => mC_fewestCliques N f n 0 [nI c] fw) (nI v, fw') := by
  have e : low c 0 = 0 := Nat.mod_one c
  obtain ⟨v, fw', a1, a2, a3, a4⟩ := e_fcL h9 hg hn hc N 0 fw (by omega) (by rw [e]; exact Fw0 h0)
  refine ⟨v, fw', a1, a2, Fw_z a3, ?_⟩
  refine ev_s (fun n => mC_fewestCliques_e0 N f n _ _) ?_
  rw [e] at a4
  exact a4
end COVER
