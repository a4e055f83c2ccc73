/-! cover in the model; class against model -/
def Mc (g : Nat → Nat) (c S : Nat) (cv : Nat → Int32) : Prop := ∀ s, sub s c → s < S → ∃ v, v ≤ 9 ∧ cv s = nI v ∧ mn g s v
theorem upd_self (f : Nat → Int32) (k : Nat) : upd f k (f k) = f := by
  funext j
  by_cases e : j = k
  · subst e
    exact pk_us
  · exact pk_un e
section MCOVER
variable {N : Nat} {g : Nat → Nat} {f f2 : Nat → Int32}
theorem e_clique (h9 : N ≤ 9) (hg : Gr N g) (hn : Hn N g f) {t : Nat} (ht : t < 2 ^ N) (h0 : t ≠ 0) : ∃ b : Bool, (b = true ↔ clq g t) ∧ ev (fun n => mM_clique N f n 0 [nI t]) (bI b) := by
  refine ⟨decide (ends N g t / 2 = pop t * (pop t - 1) / 2), by rw [decide_eq_true_eq]; exact clq_ends h9 hg ht, ?_⟩
  obtain ⟨i, hi⟩ := ne0_bit h0
  have hp1 := pop_pos (p512 h9 ht) hi
  have hp9 := pop_le9 t
  have hel := ends_le (g := g) h9 t
  obtain ⟨m, hm⟩ : ∃ m, pop t = m + 1 := ⟨pop t - 1, by omega⟩
  refine ev_s (fun n => mM_clique_e0 N f n _) ?_
  refine ev_b (e_Msize (p31 h9 ht)) ?_
  refine ev_b (e_Medges h9 hg hn (p31 h9 ht)) ?_
  have e : nI (pop t) * (nI (pop t) - 1) / 2 = nI (pop t * (pop t - 1) / 2) := by
    rw [hm, nI_pred, pk_mul]
    have hb : (m + 1) * m ≤ 9 * 8 := Nat.mul_le_mul (by omega) (by omega)
    exact pk_div (d := 2) (by omega) (by decide) (by decide)
  rw [e]
  have hb : pop t * (pop t - 1) ≤ 9 * 8 := Nat.mul_le_mul (by omega) (by omega)
  by_cases q : ends N g t / 2 = pop t * (pop t - 1) / 2
  · rw [decide_eq_true q]
    exact ev_t (by rw [q]) (ev_p _)
  · rw [decide_eq_false q]
    exact ev_f (fun r => q ((nI_eq (by omega) (by omega)).mp r)) (ev_p _)
theorem e_mc2 (h9 : N ≤ 9) (hg : Gr N g) (hn : Hn N g f) {c s : Nat} (hc : c < 2 ^ N) (hs : sub s c) (h0 : s ≠ 0) (en ew : Int32) (es : Nat → Int32) : ∀ n t v cv, t ≤ n → sub t s → cv s = nI v → v ≤ 9 → cov g v s → Mc g c s cv → ∃ v' cv', v' ≤ v ∧ cov g v' s ∧ (∀ a, sub a s → a.testBit (least s) = true → a ≤ t → clq g a → ∀ w, mn g (dif s a) w → v' ≤ w + 1) ∧ cv' s = nI v' ∧ (∀ x, x ≠ s → cv' x = cv x) ∧ ∀ R, ev (fun n => mM_cover N f n 1 [nI c, nI (s + 1)] en es ew cv') R → ev (fun n => mM_cover N f n 2 [nI c, nI s, nI t] en es ew cv) R
  | n, 0, v, cv, hn', ht, hcv, hv, hco, hM => by
    refine ⟨v, cv, Nat.le_refl _, hco, fun a ha hb hle => ?_, hcv, fun _ _ => rfl, fun R hR => ?_⟩
    · rw [show a = 0 by omega, Nat.zero_testBit] at hb
      cases hb
    · refine ev_s (fun n => mM_cover_e2 N f n _ _ _ _ _ _ _) ?_
      refine ev_t (by decide) ?_
      rw [nI_1]
      exact hR
  | 0, t + 1, v, cv, hn', ht, hcv, hv, hco, hM => by omega
  | n + 1, t + 1, v, cv, hn', ht, hcv, hv, hco, hM => by
    have hsN := sub_lt hs hc
    have hs5 := p512 h9 hsN
    have htN := sub_lt ht hsN
    have ht31 := p31 h9 htN
    have hl := least_spec hs5 h0
    have hv1 : 1 ≤ v := by
      obtain ⟨k', rfl⟩ := cov_ne hco h0
      omega
    have hdlt : dif s (t + 1) < s := by
      rcases Nat.lt_or_ge (dif s (t + 1)) s with q | q
      · exact q
      · exfalso
        have e : dif s (t + 1) = s := Nat.le_antisymm (sub_le (dif_sub _ _)) q
        obtain ⟨i, hi⟩ := ne0_bit (show t + 1 ≠ 0 by omega)
        have := ht i hi
        rw [← e] at this
        rw [(dif_bt.mp this).2] at hi
        cases hi
    obtain ⟨w2, c1, c2, c3⟩ := hM (dif s (t + 1)) (sub_trans (dif_sub _ _) hs) hdlt
    have hd5 : dif s (t + 1) < 512 := dif_lt (N := 9) _ hs5
    have hlt : t &&& s ≤ n := Nat.le_trans Nat.and_le_left (by omega)
    -- how it goes on: block 5 with a new value v1
    have go5 : ∀ v1 (x : Int32), x = nI v1 → v1 ≤ v → cov g v1 s → ((t + 1).testBit (least s) = true → clq g (t + 1) → v1 ≤ w2 + 1) → ∃ v' cv', v' ≤ v ∧ cov g v' s ∧ (∀ a, sub a s → a.testBit (least s) = true → a ≤ t + 1 → clq g a → ∀ w, mn g (dif s a) w → v' ≤ w + 1) ∧ cv' s = nI v' ∧ (∀ x, x ≠ s → cv' x = cv x) ∧ ∀ R, ev (fun n => mM_cover N f n 1 [nI c, nI (s + 1)] en es ew cv') R → ev (fun n => mM_cover N f n 5 [nI c, nI s, nI (t + 1), x, nI s] en es ew cv) R := fun v1 x hx hle hco1 hcl => by
      subst hx
      have hM2 : Mc g c s (upd cv s (nI v1)) := fun z hz hzs => by
        rw [pk_un (show z ≠ s by omega)]
        exact hM z hz hzs
      obtain ⟨v', cv', q1, q2, q3, q4, q5, q6⟩ := e_mc2 h9 hg hn hc hs h0 en ew es n (t &&& s) v1 (upd cv s (nI v1)) hlt (and_sub _ _) pk_us (by omega) hco1 hM2
      refine ⟨v', cv', Nat.le_trans q1 hle, q2, fun a ha hb hle2 hca w hw => ?_, q4, fun z hz => by rw [q5 z hz, pk_un hz], fun R hR => ?_⟩
      · by_cases e : a = t + 1
        · subst e
          have h1 := mn_u hw c3
          have h2 := hcl hb hca
          omega
        · exact q3 a ha hb (smask (t + 1) (t + 1) s a (Nat.le_refl _) ht ha (by omega)) hca w hw
      · refine ev_s (fun n => mM_cover_e5 N f n _ _ _ _ _ _ _ _ _) ?_
        refine ev_g (vp_in_nI hs5 (by decide)) ?_
        refine ev_l ?_
        rw [nI_and1 s (by omega), nI_clamp (by omega)]
        exact q6 R hR
    -- nothing fits
    have no : ((t + 1).testBit (least s) = true → clq g (t + 1) → v ≤ w2 + 1) → ∃ v' cv', v' ≤ v ∧ cov g v' s ∧ (∀ a, sub a s → a.testBit (least s) = true → a ≤ t + 1 → clq g a → ∀ w, mn g (dif s a) w → v' ≤ w + 1) ∧ cv' s = nI v' ∧ (∀ x, x ≠ s → cv' x = cv x) ∧ ∀ R, ev (fun n => mM_cover N f n 1 [nI c, nI (s + 1)] en es ew cv') R → ev (fun n => mM_cover N f n 3 [nI c, nI s, nI (t + 1)] en es ew cv) R := fun hcl => by
      obtain ⟨v', cv', q1, q2, q3, q4, q5, q6⟩ := go5 v (cv s) hcv (Nat.le_refl _) hco hcl
      refine ⟨v', cv', q1, q2, q3, q4, q5, fun R hR => ?_⟩
      refine ev_s (fun n => mM_cover_e3 N f n _ _ _ _ _ _ _) ?_
      refine ev_s (fun n => mM_cover_e4 N f n _ _ _ _ _ _ _ _) ?_
      refine ev_t rfl ?_
      refine ev_g (vp_in_nI hs5 (by decide)) ?_
      rw [nI_clamp (by omega)]
      exact q6 R hR
    cases hbt : (t + 1).testBit (least s)
    · obtain ⟨v', cv', q1, q2, q3, q4, q5, q6⟩ := no (fun h => by rw [hbt] at h; cases h)
      refine ⟨v', cv', q1, q2, q3, q4, q5, fun R hR => ?_⟩
      refine ev_s (fun n => mM_cover_e2 N f n _ _ _ _ _ _ _) ?_
      refine ev_f (nI_nle (by omega) ht31) ?_
      refine ev_b (e_least (p31 h9 hsN)) ?_
      rw [nx_bit ht31 (by omega), hbt]
      exact ev_f (by decide) (q6 R hR)
    · have hw2v : nI v - 1 = nI (v - 1) := by
        obtain ⟨z, rfl⟩ : ∃ z, v = z + 1 := ⟨v - 1, by omega⟩
        exact nI_pred z
      by_cases hle : v ≤ w2 + 1
      · obtain ⟨v', cv', q1, q2, q3, q4, q5, q6⟩ := no (fun _ _ => hle)
        refine ⟨v', cv', q1, q2, q3, q4, q5, fun R hR => ?_⟩
        refine ev_s (fun n => mM_cover_e2 N f n _ _ _ _ _ _ _) ?_
        refine ev_f (nI_nle (by omega) ht31) ?_
        refine ev_b (e_least (p31 h9 hsN)) ?_
        rw [nx_bit ht31 (by omega), hbt, nx_dif]
        refine ev_t (by decide) ?_
        refine ev_g (vp_in_nI hd5 (by decide)) (ev_g (vp_in_nI hs5 (by decide)) ?_)
        rw [nI_clamp (n := s) (by omega), nI_clamp (n := dif s (t + 1)) (by omega), hcv, c2, hw2v]
        exact ev_t (nI_le (by omega) (by omega)) (q6 R hR)
      · obtain ⟨b, hb1, hb2⟩ := e_clique h9 hg hn htN (by omega)
        cases b
        · obtain ⟨v', cv', q1, q2, q3, q4, q5, q6⟩ := no (fun _ hcl => by rw [← hb1] at hcl; cases hcl)
          refine ⟨v', cv', q1, q2, q3, q4, q5, fun R hR => ?_⟩
          refine ev_s (fun n => mM_cover_e2 N f n _ _ _ _ _ _ _) ?_
          refine ev_f (nI_nle (by omega) ht31) ?_
          refine ev_b (e_least (p31 h9 hsN)) ?_
          rw [nx_bit ht31 (by omega), hbt, nx_dif]
          refine ev_t (by decide) ?_
          refine ev_g (vp_in_nI hd5 (by decide)) (ev_g (vp_in_nI hs5 (by decide)) ?_)
          rw [nI_clamp (n := s) (by omega), nI_clamp (n := dif s (t + 1)) (by omega), hcv, c2, hw2v]
          refine ev_f (fun q => hle (by have := (nI_leI (by omega) (by omega)).mp q; omega)) ?_
          exact ev_b hb2 (ev_t bI_f (q6 R hR))
        · have hclq := hb1.mp rfl
          obtain ⟨v', cv', q1, q2, q3, q4, q5, q6⟩ := go5 (w2 + 1) (cv (dif s (t + 1)) + 1) (by rw [c2, nI_1]) (by omega) ⟨t + 1, ht, hclq, c3.1⟩ (fun _ _ => Nat.le_refl _)
          refine ⟨v', cv', q1, q2, q3, q4, q5, fun R hR => ?_⟩
          refine ev_s (fun n => mM_cover_e2 N f n _ _ _ _ _ _ _) ?_
          refine ev_f (nI_nle (by omega) ht31) ?_
          refine ev_b (e_least (p31 h9 hsN)) ?_
          rw [nx_bit ht31 (by omega), hbt, nx_dif]
          refine ev_t (by decide) ?_
          refine ev_g (vp_in_nI hd5 (by decide)) (ev_g (vp_in_nI hs5 (by decide)) ?_)
          rw [nI_clamp (n := s) (by omega), nI_clamp (n := dif s (t + 1)) (by omega), hcv, c2, hw2v]
          refine ev_f (fun q => hle (by have := (nI_leI (by omega) (by omega)).mp q; omega)) ?_
          refine ev_b hb2 (ev_f bI_t ?_)
          refine ev_s (fun n => mM_cover_e4 N f n _ _ _ _ _ _ _ _) ?_
          refine ev_f (by decide) ?_
          rw [nx_dif]
          refine ev_g (vp_in_nI hd5 (by decide)) ?_
          rw [nI_clamp (n := dif s (t + 1)) (by omega)]
          exact q6 R hR
theorem e_mc1 (h9 : N ≤ 9) (hg : Gr N g) (hn : Hn N g f) {c : Nat} (hc : c < 2 ^ N) (en ew : Int32) (es : Nat → Int32) : ∀ k s cv, s + k = 512 → 1 ≤ s → Mc g c s cv → ∃ v cv', v ≤ 9 ∧ mn g c v ∧ ev (fun n => mM_cover N f n 1 [nI c, nI s] en es ew cv) (nI v, en, es, ew, cv')
  | 0, s, cv, h, h1, hM => by
    have hc5 := p512 h9 hc
    obtain ⟨v, a1, a2, a3⟩ := hM c (sub_rfl c) (by omega)
    refine ⟨v, cv, a1, a3, ?_⟩
    rw [show s = 512 by omega]
    refine ev_s (fun n => mM_cover_e1 N f n _ _ _ _ _ _) ?_
    refine ev_t (by decide) ?_
    refine ev_g (vp_in_nI hc5 (by decide)) ?_
    rw [nI_clamp (by omega), a2]
    exact ev_p _
  | k + 1, s, cv, h, h1, hM => by
    have hs5 : s < 512 := by omega
    have hup : ∀ x : Int32, Mc g c s (upd cv s x) := fun x z hz hzs => by
      rw [pk_un (show z ≠ s by omega)]
      exact hM z hz hzs
    by_cases q : dif s c = 0
    · have hsc := dif0.mp q
      obtain ⟨v', cv', q1, q2, q3, q4, q5, q6⟩ := e_mc2 h9 hg hn hc hsc (by omega) en ew es s s 9 (upd cv s 9) (Nat.le_refl _) (sub_rfl s) pk_us (Nat.le_refl _) (cov_pop 9 s hs5 (pop_le9 s)) (hup 9)
      have hl := least_spec hs5 (by omega)
      have hmn : mn g s v' := by
        refine ⟨q2, fun j hj => ?_⟩
        obtain ⟨j', rfl⟩ := cov_ne hj (by omega)
        obtain ⟨T, t1, t2, t3, t4⟩ := cov_ex j' s hj hl.1
        obtain ⟨w, -, hw⟩ := mn_ex g (dif_lt (N := 9) T hs5)
        have h2 := q3 T t1 t3 (sub_le t1) t2 w hw
        have := hw.2 j' t4
        omega
      obtain ⟨v, cv2, r1, r2, r3⟩ := e_mc1 h9 hg hn hc en ew es k (s + 1) cv' (by omega) (by omega) (fun z hz hzs => by
        by_cases e : z = s
        · subst e
          exact ⟨v', by omega, q4, hmn⟩
        · rw [q5 z e, pk_un e]
          exact hM z hz (by omega))
      refine ⟨v, cv2, r1, r2, ?_⟩
      refine ev_s (fun n => mM_cover_e1 N f n _ _ _ _ _ _) ?_
      refine ev_f (fun q => absurd ((nI_leI (a := 512) (b := s) (by decide) (by omega)).mp q) (by omega)) ?_
      refine ev_g (vp_in_nI hs5 (by decide)) ?_
      rw [nx_dif, nI_clamp (by omega)]
      refine ev_t (by rw [q]; rfl) ?_
      exact q6 _ r3
    · obtain ⟨v, cv2, r1, r2, r3⟩ := e_mc1 h9 hg hn hc en ew es k (s + 1) (upd cv s 9) (by omega) (by omega) (fun z hz hzs => by
        by_cases e : z = s
        · subst e
          exact absurd (dif0.mpr hz) q
        · exact hup 9 z hz (by omega))
      refine ⟨v, cv2, r1, r2, ?_⟩
      refine ev_s (fun n => mM_cover_e1 N f n _ _ _ _ _ _) ?_
      refine ev_f (fun q => absurd ((nI_leI (a := 512) (b := s) (by decide) (by omega)).mp q) (by omega)) ?_
      refine ev_g (vp_in_nI hs5 (by decide)) ?_
      rw [nx_dif, nI_clamp (by omega), nI_1]
      exact ev_f (fun r => q ((nI0 (dif_lt c (by omega : s < 2 ^ 31))).mp r)) r3
theorem e_cover (h1 : 1 ≤ N) (h9 : N ≤ 9) (hg : Gr N g) (hn : Hn N g f) (hn2 : Hn N g f2) (v : Int32) (st : Nat → Int32) (sn lf : Int32) {fw : Nat → Int32} (h0 : fw 0 = 0) (en ew : Int32) (es cv : Nat → Int32) : ∃ (r : Int32) (st' : Nat → Int32) (sn' lf' : Int32) (fw' : Nat → Int32) (en' : Int32) (es' : Nat → Int32) (ew' : Int32) (cv' : Nat → Int32), fw' 0 = 0 ∧ ev (fun n => mF_cover N f n 0 [v] st sn lf fw) (r, st', sn', lf', fw') ∧ ev (fun n => mM_cover N f2 n 0 [v] en es ew cv) (r, en', es', ew', cv') := by
  obtain ⟨b, st', sn', lf', en', es', ew', hb, q1, q2⟩ := e_hereditary h1 h9 hg hn hn2 v st sn lf en ew es
  cases b
  · exact ⟨-1, st', sn', lf', fw, en', es', ew', cv, h0, ev_s (fun n => mF_cover_e0 N f n _ _ _ _ _) (ev_b q1 (ev_t bI_f (ev_p _))), ev_s (fun n => mM_cover_e0 N f2 n _ _ _ _ _) (ev_b q2 (ev_t bI_f (ev_p _)))⟩
  · obtain ⟨j, hj, rfl⟩ := hb rfl
    have hc := cmp_lt h9 hg hj
    obtain ⟨v1, fw', a1, a2, a3, a4⟩ := e_fewestCliques h9 hg hn hc h0
    obtain ⟨v2, cv', b1, b2, b3⟩ := e_mc1 h9 hg hn2 hc en' ew' es' 511 1 (upd cv 0 0) (by omega) (by omega) (fun z hz hzs => by
      rw [show z = 0 by omega]
      exact ⟨0, by omega, pk_us, mn_0 g⟩)
    have e := mn_u a2 b2
    subst e
    refine ⟨nI v1, st', sn', lf', fw', en', es', ew', cv', a3, ev_s (fun n => mF_cover_e0 N f n _ _ _ _ _) (ev_b q1 (ev_f bI_t (ev_b (e_compOf h1 h9 hg hn hj) (ev_b a4 (ev_p _))))), ev_s (fun n => mM_cover_e0 N f2 n _ _ _ _ _) (ev_b q2 (ev_f bI_t (ev_b (e_Mcomp h1 h9 hg hn2 hj) ?_)))⟩
    refine ev_g (vp_in_nI (n := 0) (by decide) (by decide)) ?_
    exact b3
end MCOVER
