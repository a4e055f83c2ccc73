/-! edges inside a set; the largest sets without edges: apart, chosen -/
def wS (g : Nat → Nat) (S i : Nat) : Nat := if S.testBit i = true then pop (g i &&& S) else 0
def edF (g : Nat → Nat) (S : Nat) : Nat → Nat → Nat → Nat
  | 0, _, a => a
  | k + 1, i, a => edF g S k (i + 1) (a + wS g S i)
/-- twice the number of edges inside of S -/
def ends (N : Nat) (g : Nat → Nat) (S : Nat) : Nat := edF g S N 0 0
theorem wS_le (g : Nat → Nat) (S i : Nat) : wS g S i ≤ 9 := by
  unfold wS
  split
  · exact pop_le9 _
  · exact Nat.zero_le _
theorem edF_le (g : Nat → Nat) (S : Nat) : ∀ k i a, edF g S k i a ≤ a + 9 * k
  | 0, i, a => Nat.le_refl _
  | k + 1, i, a => by
    unfold edF
    have h1 := edF_le g S k (i + 1) (a + wS g S i)
    have h2 := wS_le g S i
    omega
theorem edF_acc (g : Nat → Nat) (S : Nat) : ∀ k i a, a ≤ edF g S k i a
  | 0, i, a => Nat.le_refl _
  | k + 1, i, a => by
    unfold edF
    have h1 := edF_acc g S k (i + 1) (a + wS g S i)
    omega
theorem edF_one (g : Nat → Nat) (S : Nat) : ∀ k i a x, i ≤ x → x < i + k → a + wS g S x ≤ edF g S k i a
  | 0, i, a, x, h1, h2 => by omega
  | k + 1, i, a, x, h1, h2 => by
    unfold edF
    by_cases e : x = i
    · subst e
      exact edF_acc g S k (x + 1) _
    · have := edF_one g S k (i + 1) (a + wS g S i) x (by omega) (by omega)
      omega
theorem edF_two (g : Nat → Nat) (S : Nat) : ∀ k i a x y, i ≤ x → x < y → y < i + k → a + wS g S x + wS g S y ≤ edF g S k i a
  | 0, i, a, x, y, h1, h2, h3 => by omega
  | k + 1, i, a, x, y, h1, h2, h3 => by
    unfold edF
    by_cases e : x = i
    · subst e
      exact edF_one g S k (x + 1) _ y (by omega) (by omega)
    · have := edF_two g S k (i + 1) (a + wS g S i) x y (by omega) (by omega) (by omega)
      omega
theorem edF_zero (g : Nat → Nat) (S : Nat) : ∀ k i a, (∀ x, i ≤ x → x < i + k → wS g S x = 0) → edF g S k i a = a
  | 0, i, a, h => rfl
  | k + 1, i, a, h => by
    unfold edF
    rw [h i (Nat.le_refl _) (by omega), Nat.add_zero]
    exact edF_zero g S k (i + 1) a (fun x h1 h2 => h x (by omega) (by omega))
theorem pop_pos {s i : Nat} (hs : s < 512) (h : s.testBit i = true) : 1 ≤ pop s := by
  have hne : s ≠ 0 := fun e => by rw [e, Nat.zero_testBit] at h; cases h
  have := pop_lt (a := 0) (b := s) (fun i hi => by rw [Nat.zero_testBit] at hi; cases hi) (fun e => hne e.symm) hs
  omega
section APART
variable {N : Nat} {g : Nat → Nat} {f f2 : Nat → Int32}
theorem ends_le (h9 : N ≤ 9) (S : Nat) : ends N g S ≤ 81 := by
  have := edF_le g S N 0 0
  unfold ends
  omega
/-- no edge inside, both ways to ask -/
theorem indep_iff (h9 : N ≤ 9) (hg : Gr N g) {S : Nat} (hS : S < 2 ^ N) : ends N g S / 2 = 0 ↔ jnd N g S S = false := by
  unfold jnd
  rw [decide_eq_false_iff_not, Decidable.not_not]
  constructor
  · intro h
    apply Classical.byContradiction
    intro hne
    obtain ⟨y, hy⟩ := ne0_bit hne
    obtain ⟨x, hx, q1, q2, q3⟩ := (nta_bit N g S S y).mp hy
    have hyN := bit_lt hS q3
    have hxy : x ≠ y := fun e => by rw [e, hg.2.2 y hyN] at q2; cases q2
    have w1 : 1 ≤ wS g S x := by
      unfold wS
      rw [if_pos q1]
      exact pop_pos (p512 h9 (own_lt hg hx S)) (and_bit.mpr ⟨q2, q3⟩)
    have w2 : 1 ≤ wS g S y := by
      unfold wS
      rw [if_pos q3]
      exact pop_pos (p512 h9 (own_lt hg hyN S)) (and_bit.mpr ⟨by rw [hg.2.1 y x hyN hx]; exact q2, q1⟩)
    unfold ends at h
    rcases Nat.lt_or_gt_of_ne hxy with q | q
    · have := edF_two g S N 0 0 x y (Nat.zero_le _) q (by omega)
      omega
    · have := edF_two g S N 0 0 y x (Nat.zero_le _) q (by omega)
      omega
  · intro h
    have : ends N g S = 0 := by
      refine edF_zero g S N 0 0 (fun x _ hx => ?_)
      unfold wS
      by_cases hb : S.testBit x = true
      · rw [if_pos hb]
        have e : g x &&& S = 0 := by
          apply Classical.byContradiction
          intro hne
          obtain ⟨y, hy⟩ := ne0_bit hne
          have hy := and_bit.mp hy
          have := (nta_bit N g S S y).mpr ⟨x, by omega, hb, hy.1, hy.2⟩
          rw [h, Nat.zero_testBit] at this
          cases this
        rw [e]
        decide
      · rw [if_neg hb]
    rw [this]
theorem e_edgesL (h9 : N ≤ 9) (hg : Gr N g) (hn : Hn N g f) {S : Nat} (hS : S < 2 ^ N) : ∀ k i a, i + k = N → a ≤ 9 * i → ev (fun n => mG_edgesInside N f n 1 [nI S, nI a, nI i]) (nI (edF g S k i a / 2))
  | 0, i, a, h, ha => by
    refine ev_s (fun n => mG_edgesInside_e1 N f n _ _ _) ?_
    refine ev_t (nI_le (by omega) (by omega)) ?_
    refine ev_e ?_ (ev_p _)
    exact pk_div (d := 2) (by omega) (by decide) (by decide)
  | k + 1, i, a, h, ha => by
    have hw := wS_le g S i
    have ih := e_edgesL h9 hg hn hS k (i + 1) (a + wS g S i) (by omega) (by omega)
    refine ev_s (fun n => mG_edgesInside_e1 N f n _ _ _) ?_
    refine ev_f (nI_ge (by omega) (by omega)) ?_
    refine ev_b (e_contains (p31 h9 hS) (by omega)) ?_
    unfold edF
    unfold wS at ih ⊢
    cases hb : S.testBit i
    · refine ev_t bI_f ?_
      rw [hb] at ih
      rw [nI_1]
      exact ih
    · refine ev_f bI_t ?_
      rw [hb] at ih
      refine ev_g (vp_in_nI (by omega) (by omega)) ?_
      rw [hn.at h9 (by omega), nx_and]
      refine ev_b (e_bitCount (p512 h9 (own_lt hg (by omega) S))) ?_
      refine ev_l ?_
      rw [nI_add, nI_1]
      exact ih
theorem e_edgesInside (h9 : N ≤ 9) (hg : Gr N g) (hn : Hn N g f) {S : Nat} (hS : S < 2 ^ N) : ev (fun n => mG_edgesInside N f n 0 [nI S]) (nI (ends N g S / 2)) := by
  refine ev_s (fun n => mG_edgesInside_e0 N f n _) ?_
  exact e_edgesL h9 hg hn hS N 0 0 (by omega) (by omega)
theorem e_MedgesL (h9 : N ≤ 9) (hg : Gr N g) (hn : Hn N g f) {S : Nat} (hS : S < 2 ^ 31) : ∀ k i a, i + k = N → a ≤ 9 * i → ev (fun n => mM_edges N f n 1 [nI S, nI a, nI i]) (nI (edF g S k i a / 2))
  | 0, i, a, h, ha => by
    refine ev_s (fun n => mM_edges_e1 N f n _ _ _) ?_
    refine ev_t (nI_le (by omega) (by omega)) ?_
    refine ev_e ?_ (ev_p _)
    exact pk_div (d := 2) (by omega) (by decide) (by decide)
  | k + 1, i, a, h, ha => by
    have hw := wS_le g S i
    have ih := e_MedgesL h9 hg hn hS k (i + 1) (a + wS g S i) (by omega) (by omega)
    refine ev_s (fun n => mM_edges_e1 N f n _ _ _) ?_
    refine ev_f (nI_ge (by omega) (by omega)) ?_
    rw [nx_bit hS (by omega)]
    unfold edF
    unfold wS at ih ⊢
    cases hb : S.testBit i
    · refine ev_f (by decide) ?_
      refine ev_s (fun n => mM_edges_e2 N f n _ _ _ _) ?_
      refine ev_l ?_
      rw [hb] at ih
      rw [show (0 : Int32) = nI 0 from rfl, nI_add, nI_1]
      exact ih
    · refine ev_t (by decide) ?_
      rw [hb] at ih
      refine ev_g (vp_in_nI (by omega) (by omega)) ?_
      rw [hn.at h9 (by omega), nx_and]
      refine ev_b (e_Msize (p31 h9 (own_lt hg (by omega) S))) ?_
      refine ev_s (fun n => mM_edges_e2 N f n _ _ _ _) ?_
      refine ev_l ?_
      rw [nI_add, nI_1]
      exact ih
theorem e_Medges (h9 : N ≤ 9) (hg : Gr N g) (hn : Hn N g f) {S : Nat} (hS : S < 2 ^ 31) : ev (fun n => mM_edges N f n 0 [nI S]) (nI (ends N g S / 2)) := by
  refine ev_s (fun n => mM_edges_e0 N f n _) ?_
  exact e_MedgesL h9 hg hn hS N 0 0 (by omega) (by omega)
def bsF (N : Nat) (g : Nat → Nat) (c : Nat) : Nat → Nat → Nat → Nat
  | 0, _, b => b
  | k + 1, s, b => bsF N g c k (s + 1) (if dif s c = 0 ∧ pop b < pop s ∧ jnd N g s s = false then s else b)
theorem bsF_stop {c : Nat} : ∀ k s b, c < s → bsF N g c k s b = b
  | 0, s, b, h => rfl
  | k + 1, s, b, h => by
    unfold bsF
    rw [if_neg (fun q => absurd (sub_le (dif0.mp q.1)) (by omega))]
    exact bsF_stop k (s + 1) b (by omega)
theorem bsF_add {c : Nat} (k : Nat) : ∀ a s b, bsF N g c (a + k) s b = bsF N g c k (s + a) (bsF N g c a s b)
  | 0, s, b => by rw [Nat.zero_add]; rfl
  | a + 1, s, b => by
    rw [show a + 1 + k = (a + k) + 1 by omega]
    show bsF N g c (a + k) (s + 1) _ = bsF N g c k (s + (a + 1)) (bsF N g c a (s + 1) _)
    rw [bsF_add k a (s + 1), show s + 1 + a = s + (a + 1) by omega]
/-- the largest set of c without edges, the least such -/
def bst (N : Nat) (g : Nat → Nat) (c : Nat) : Nat := bsF N g c 511 1 0
theorem bst_c {c : Nat} (hc : c < 512) : bsF N g c c 1 0 = bst N g c := by
  have h := bsF_add (N := N) (g := g) (c := c) (511 - c) c 1 0
  rw [show c + (511 - c) = 511 by omega, bsF_stop (511 - c) (1 + c) _ (by omega)] at h
  exact h.symm
theorem bsF_lt {c : Nat} (hc : c < 2 ^ N) : ∀ k s b, b < 2 ^ N → bsF N g c k s b < 2 ^ N
  | 0, s, b, h => h
  | k + 1, s, b, h => by
    unfold bsF
    refine bsF_lt hc k (s + 1) _ ?_
    split
    · rename_i q
      exact sub_lt (dif0.mp q.1) hc
    · exact h
theorem e_laL (h9 : N ≤ 9) (hg : Gr N g) (hn : Hn N g f) {c : Nat} (hc : c < 2 ^ N) : ∀ k s b, s + k = c + 1 → b < 2 ^ N → ev (fun n => mC_largestApart N f n 1 [nI c, nI b, nI s]) (nI (bsF N g c k s b))
  | 0, s, b, h, hb => by
    have := p512 h9 hc
    refine ev_s (fun n => mC_largestApart_e1 N f n _ _ _) ?_
    exact ev_t (nI_lt (by omega) (by omega)) (ev_p _)
  | k + 1, s, b, h, hb => by
    have hc5 := p512 h9 hc
    have hs31 : s < 2 ^ 31 := by omega
    have ih := fun b' hb' => e_laL h9 hg hn hc k (s + 1) b' (by omega) hb'
    refine ev_s (fun n => mC_largestApart_e1 N f n _ _ _) ?_
    refine ev_f (nI_nlt (by omega) (by omega)) ?_
    rw [nx_dif, nI_1]
    unfold bsF
    by_cases q1 : dif s c = 0
    · refine ev_t (by rw [q1]; rfl) ?_
      have hsN := sub_lt (dif0.mp q1) hc
      refine ev_b (e_bitCount (p512 h9 hsN)) ?_
      refine ev_b (e_bitCount (p512 h9 hb)) ?_
      have p1 := pop_le9 s
      have p2 := pop_le9 b
      by_cases q2 : pop b < pop s
      · refine ev_f (fun q => absurd ((nI_leI (by omega) (by omega)).mp q) (by omega)) ?_
        refine ev_b (e_joined h9 hg hn (p31 h9 hsN) s) ?_
        cases q3 : jnd N g s s
        · refine ev_t bI_f ?_
          rw [if_pos ⟨q1, q2, rfl⟩]
          exact ih s hsN
        · refine ev_f bI_t ?_
          rw [if_neg (fun q => by cases q.2.2)]
          exact ih b hb
      · refine ev_t ((nI_leI (by omega) (by omega)).mpr (by omega)) ?_
        rw [if_neg (fun q => q2 q.2.1)]
        exact ih b hb
    · refine ev_f (fun q => q1 ((nI0 (dif_lt c hs31)).mp q)) ?_
      rw [if_neg (fun q => q1 q.1)]
      exact ih b hb
theorem e_la (h9 : N ≤ 9) (hg : Gr N g) (hn : Hn N g f) {c : Nat} (hc : c < 2 ^ N) : ev (fun n => mC_largestApart N f n 0 [nI c]) (nI (bst N g c)) := by
  refine ev_s (fun n => mC_largestApart_e0 N f n _) ?_
  rw [← bst_c (p512 h9 hc)]
  exact e_laL h9 hg hn hc c 1 0 (by omega) (Nat.two_pow_pos N)
def ask (x : Int32) (R : Nat) : Int32 := if x = 0 then nI (pop R) else nI R
theorem e_bestL (h9 : N ≤ 9) (hg : Gr N g) (hn : Hn N g f) {c : Nat} (hc : c < 2 ^ N) (x : Int32) : ∀ k s b, s + k = 512 → b < 2 ^ N → ev (fun n => mM_best N f n 1 [nI c, x, nI (pop b), nI b, nI s]) (ask x (bsF N g c k s b))
  | 0, s, b, h, hb => by
    refine ev_s (fun n => mM_best_e1 N f n _ _ _ _ _) ?_
    rw [show s = 512 by omega]
    refine ev_t (by decide) ?_
    by_cases hx : x = 0
    · refine ev_t hx (ev_e ?_ (ev_p _))
      unfold ask
      rw [if_pos hx]
      rfl
    · refine ev_f hx (ev_e ?_ (ev_p _))
      unfold ask
      rw [if_neg hx]
      rfl
  | k + 1, s, b, h, hb => by
    have hs31 : s < 2 ^ 31 := by omega
    have ih := fun b' hb' => e_bestL h9 hg hn hc x k (s + 1) b' (by omega) hb'
    refine ev_s (fun n => mM_best_e1 N f n _ _ _ _ _) ?_
    refine ev_f (fun q => absurd ((nI_leI (a := 512) (b := s) (by decide) (by omega)).mp q) (by omega)) ?_
    rw [nx_dif, nI_1]
    unfold bsF
    by_cases q1 : dif s c = 0
    · refine ev_t (by rw [q1]; rfl) ?_
      have hsN := sub_lt (dif0.mp q1) hc
      refine ev_b (e_Medges h9 hg hn hs31) ?_
      have hel := ends_le (g := g) h9 s
      have p1 := pop_le9 s
      have p2 := pop_le9 b
      cases q3 : jnd N g s s
      · refine ev_t (by rw [(indep_iff h9 hg hsN).mpr q3]; rfl) ?_
        refine ev_b (e_Msize hs31) ?_
        by_cases q2 : pop b < pop s
        · refine ev_f (fun q => absurd ((nI_leI (by omega) (by omega)).mp q) (by omega)) ?_
          refine ev_b (e_Msize hs31) ?_
          rw [if_pos ⟨q1, q2, rfl⟩]
          exact ih s hsN
        · refine ev_t ((nI_leI (by omega) (by omega)).mpr (by omega)) ?_
          rw [if_neg (fun q => q2 q.2.1)]
          exact ih b hb
      · refine ev_f (fun q => ?_) ?_
        · have := (indep_iff h9 hg hsN).mp ((nI0 (by omega)).mp q)
          rw [q3] at this
          cases this
        · rw [if_neg (fun q => by cases q.2.2)]
          exact ih b hb
    · refine ev_f (fun q => q1 ((nI0 (dif_lt c hs31)).mp q)) ?_
      rw [if_neg (fun q => q1 q.1)]
      exact ih b hb
theorem e_best (h9 : N ≤ 9) (hg : Gr N g) (hn : Hn N g f) {c : Nat} (hc : c < 2 ^ N) (x : Int32) : ev (fun n => mM_best N f n 0 [nI c, x]) (ask x (bst N g c)) := by
  refine ev_s (fun n => mM_best_e0 N f n _ _) ?_
  exact e_bestL h9 hg hn hc x 511 1 0 (by omega) (Nat.two_pow_pos N)
theorem e_apart (h1 : 1 ≤ N) (h9 : N ≤ 9) (hg : Gr N g) (hn : Hn N g f) (hn2 : Hn N g f2) (v : Int32) (st : Nat → Int32) (sn lf en ew : Int32) (es : Nat → Int32) : ∃ (r : Int32) (st' : Nat → Int32) (sn' lf' en' : Int32) (es' : Nat → Int32) (ew' : Int32), ev (fun n => mF_apart N f n 0 [v] st sn lf) (r, st', sn', lf') ∧ ev (fun n => mM_apart N f2 n 0 [v] en es ew) (r, en', es', ew') := by
  obtain ⟨b, st', sn', lf', en', es', ew', hb, q1, q2⟩ := e_hereditary h1 h9 hg hn hn2 v st sn lf en ew es
  cases b
  · exact ⟨-1, st', sn', lf', en', es', ew', ev_s (fun n => mF_apart_e0 N f n _ _ _ _) (ev_b q1 (ev_t bI_f (ev_p _))), ev_s (fun n => mM_apart_e0 N f2 n _ _ _ _) (ev_b q2 (ev_t bI_f (ev_p _)))⟩
  · obtain ⟨j, hj, rfl⟩ := hb rfl
    have hc := cmp_lt h9 hg hj
    refine ⟨nI (pop (bst N g (cmp N g j))), st', sn', lf', en', es', ew', ev_s (fun n => mF_apart_e0 N f n _ _ _ _) (ev_b q1 (ev_f bI_t (ev_b (e_compOf h1 h9 hg hn hj) (ev_b (e_la h9 hg hn hc) (ev_b (e_bitCount (p512 h9 (bsF_lt hc _ _ _ (Nat.two_pow_pos N)))) (ev_p _)))))), ev_s (fun n => mM_apart_e0 N f2 n _ _ _ _) (ev_b q2 (ev_f bI_t (ev_b (e_Mcomp h1 h9 hg hn2 hj) (ev_b (e_best h9 hg hn2 hc 0) ?_))))⟩
    exact ev_e rfl (ev_p _)
theorem e_chosen (h1 : 1 ≤ N) (h9 : N ≤ 9) (hg : Gr N g) (hn : Hn N g f) (hn2 : Hn N g f2) (v : Int32) (st : Nat → Int32) (sn lf en ew : Int32) (es : Nat → Int32) : ∃ (r : Int32) (st' : Nat → Int32) (sn' lf' en' : Int32) (es' : Nat → Int32) (ew' : Int32), ev (fun n => mF_chosen N f n 0 [v] st sn lf) (r, st', sn', lf') ∧ ev (fun n => mM_chosen N f2 n 0 [v] en es ew) (r, en', es', ew') := by
  obtain ⟨b, st', sn', lf', en', es', ew', hb, q1, q2⟩ := e_hereditary h1 h9 hg hn hn2 v st sn lf en ew es
  cases b
  · exact ⟨-1, st', sn', lf', en', es', ew', ev_s (fun n => mF_chosen_e0 N f n _ _ _ _) (ev_b q1 (ev_t bI_f (ev_p _))), ev_s (fun n => mM_chosen_e0 N f2 n _ _ _ _) (ev_b q2 (ev_t bI_f (ev_p _)))⟩
  · obtain ⟨j, hj, rfl⟩ := hb rfl
    have hc := cmp_lt h9 hg hj
    refine ⟨nI (bst N g (cmp N g j)), st', sn', lf', en', es', ew', ev_s (fun n => mF_chosen_e0 N f n _ _ _ _) (ev_b q1 (ev_f bI_t (ev_b (e_compOf h1 h9 hg hn hj) (ev_b (e_la h9 hg hn hc) (ev_p _))))), ev_s (fun n => mM_chosen_e0 N f2 n _ _ _ _) (ev_b q2 (ev_f bI_t (ev_b (e_Mcomp h1 h9 hg hn2 hj) (ev_b (e_best h9 hg hn2 hc 1) ?_))))⟩
    exact ev_p _
end APART
