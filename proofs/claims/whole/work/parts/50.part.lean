/-! The parts of a node: what both programs list -/
def cand (own u t : Nat) : Prop := t.testBit u = true ∧ t ≠ own ∧ dif t own = 0
def candB (own u t : Nat) : Bool := t.testBit u && (decide (t ≠ own) && decide (dif t own = 0))
theorem candB_iff {own u t : Nat} : candB own u t = true ↔ cand own u t := by
  unfold candB cand
  simp only [Bool.and_eq_true, decide_eq_true_eq]
def pwF (own u : Nat) : List Nat → Nat → Nat
  | [], w => w
  | t :: l, w => pwF own u l (if candB own u t = true then t else w)
/-- the part of a node with the set own that has u -/
def pw (N : Nat) (g : Nat → Nat) (c own u : Nat) : Nat := if own.testBit u = true then pwF own u (stL N g c) (2 ^ u) else dif c own
theorem pwF_spec {own u : Nat} : ∀ (l : List Nat) (w : Nat), l.Pairwise (· < ·) → (∀ s t, s ∈ l → t ∈ l → cand own u s → cand own u t → s ≤ t → sub s t) → (pwF own u l w = w ∧ ∀ t, t ∈ l → ¬ cand own u t) ∨ (pwF own u l w ∈ l ∧ cand own u (pwF own u l w) ∧ ∀ t, t ∈ l → cand own u t → sub t (pwF own u l w))
  | [], w, _, _ => Or.inl ⟨rfl, fun t h => absurd h List.not_mem_nil⟩
  | t :: l, w, hs, hn => by
    have hs2 := List.pairwise_cons.mp hs
    have hn2 : ∀ s t, s ∈ l → t ∈ l → cand own u s → cand own u t → s ≤ t → sub s t := fun s t h1 h2 => hn s t (List.mem_cons_of_mem _ h1) (List.mem_cons_of_mem _ h2)
    unfold pwF
    by_cases hc : candB own u t = true
    · rw [if_pos hc]
      have hct := candB_iff.mp hc
      rcases pwF_spec l t hs2.2 hn2 with ⟨e, h⟩ | ⟨h1, h2, h3⟩
      · refine Or.inr ⟨by rw [e]; exact List.mem_cons_self, by rw [e]; exact hct, fun x hx hcx => ?_⟩
        rcases List.mem_cons.mp hx with rfl | hx
        · rw [e]; exact sub_rfl _
        · exact absurd hcx (h x hx)
      · refine Or.inr ⟨List.mem_cons_of_mem _ h1, h2, fun x hx hcx => ?_⟩
        rcases List.mem_cons.mp hx with rfl | hx
        · exact hn _ _ List.mem_cons_self (List.mem_cons_of_mem _ h1) hct h2 (Nat.le_of_lt (hs2.1 _ h1))
        · exact h3 x hx hcx
    · rw [if_neg hc]
      have hct : ¬ cand own u t := fun h => hc (candB_iff.mpr h)
      rcases pwF_spec l w hs2.2 hn2 with ⟨e, h⟩ | ⟨h1, h2, h3⟩
      · refine Or.inl ⟨e, fun x hx => ?_⟩
        rcases List.mem_cons.mp hx with rfl | hx
        · exact hct
        · exact h x hx
      · refine Or.inr ⟨List.mem_cons_of_mem _ h1, h2, fun x hx hcx => ?_⟩
        rcases List.mem_cons.mp hx with rfl | hx
        · exact absurd hcx hct
        · exact h3 x hx hcx
section PARTS
variable {N : Nat} {g : Nat → Nat} {c : Nat}
theorem stL_sorted : (stL N g c).Pairwise (· < ·) := (List.pairwise_lt_range.filter _).filter _
theorem stL_sp {t : Nat} (h : t ∈ stL N g c) : t ∈ spL N g c := (List.mem_filter.mp h).1
theorem stL_str {t : Nat} (h : t ∈ stL N g c) : strP (spL N g c) t = true := (List.mem_filter.mp h).2
theorem st_nest {s t u : Nat} (hs : s ∈ stL N g c) (ht : t ∈ stL N g c) (h1 : s.testBit u = true) (h2 : t.testBit u = true) : sub s t ∨ sub t s := by
  have h := List.all_eq_true.mp (stL_str hs) t (stL_sp ht)
  unfold crB at h
  simp only [Bool.not_eq_true', decide_eq_false_iff_not] at h
  by_cases a : dif s t = 0
  · exact Or.inl (dif0.mp a)
  · by_cases b : dif t s = 0
    · exact Or.inr (dif0.mp b)
    · exfalso
      refine h ⟨fun e => ?_, a, b⟩
      have : (s &&& t).testBit u = true := and_bit.mpr ⟨h1, h2⟩
      rw [e, Nat.zero_testBit] at this
      cases this
theorem st_nest2 (own u : Nat) : ∀ s t, s ∈ stL N g c → t ∈ stL N g c → cand own u s → cand own u t → s ≤ t → sub s t := fun s t hs ht h1 h2 hle => by
  rcases st_nest hs ht h1.1 h2.1 with q | q
  · exact q
  · rw [Nat.le_antisymm hle (sub_le q)]
    exact sub_rfl t
theorem st_c {t : Nat} (h : t ∈ stL N g c) : sub t c := spP_sub (spL_mem (stL_sp h))
theorem st_pop {t : Nat} (h : t ∈ stL N g c) : 2 ≤ pop t := spP_pop (spL_mem (stL_sp h))
theorem st_out {t : Nat} (h : t ∈ stL N g c) : 2 ≤ pop (dif c t) := by
  have := spL_mem (stL_sp h)
  unfold spP isSp at this
  simp only [Bool.and_eq_true, decide_eq_true_eq] at this
  exact this.2.2.2.1
/-- inside of own -/
theorem pw_in {own u : Nat} (hu : own.testBit u = true) : (pw N g c own u = 2 ^ u ∧ ∀ t, t ∈ stL N g c → ¬ cand own u t) ∨ (pw N g c own u ∈ stL N g c ∧ cand own u (pw N g c own u) ∧ ∀ t, t ∈ stL N g c → cand own u t → sub t (pw N g c own u)) := by
  unfold pw
  rw [if_pos hu]
  exact pwF_spec _ _ stL_sorted (st_nest2 own u)
theorem pw_out {own u : Nat} (hu : own.testBit u = false) : pw N g c own u = dif c own := by
  unfold pw
  rw [if_neg (by rw [hu]; decide)]
theorem pw_self {own u : Nat} (hcu : c.testBit u = true) : (pw N g c own u).testBit u = true := by
  cases hu : own.testBit u
  · rw [pw_out hu]
    exact dif_bt.mpr ⟨hcu, hu⟩
  · rcases pw_in (N := N) (g := g) (c := c) hu with ⟨e, -⟩ | ⟨-, h, -⟩
    · rw [e]; exact bit_two.mpr rfl
    · exact h.1
theorem pw_sub {own u : Nat} (hu : own.testBit u = true) : sub (pw N g c own u) own := by
  rcases pw_in (N := N) (g := g) (c := c) hu with ⟨e, -⟩ | ⟨-, h, -⟩
  · rw [e]
    exact fun i hi => (bit_two.mp hi) ▸ hu
  · exact dif0.mp h.2.2
theorem pw_c {own u : Nat} (ho : sub own c) : sub (pw N g c own u) c := by
  cases hu : own.testBit u
  · rw [pw_out hu]; exact dif_sub _ _
  · exact sub_trans (pw_sub hu) ho
theorem pw_eq (hc : c < 512) {own u v : Nat} (ho : sub own c) (hv : (pw N g c own u).testBit v = true) : pw N g c own v = pw N g c own u := by
  cases hu : own.testBit u
  · have h1 := hv
    rw [pw_out hu] at hv ⊢
    exact pw_out (dif_bt.mp hv).2
  · have hvo := pw_sub hu v hv
    rcases pw_in (N := N) (g := g) (c := c) hu with ⟨e, h⟩ | ⟨h1, h2, h3⟩
    · rw [e] at hv
      rw [← bit_two.mp hv]
    · have hcv : cand own v (pw N g c own u) := ⟨hv, h2.2⟩
      rcases pw_in (N := N) (g := g) (c := c) hvo with ⟨e, h⟩ | ⟨k1, k2, k3⟩
      · exact absurd hcv (h _ h1)
      · have s1 := k3 _ h1 hcv
        have s2 := h3 _ k1 ⟨s1 u h2.1, k2.2⟩
        exact sub_antisymm s2 s1
/-- the model's test -/
def deepB (S : List Nat) (own p : Nat) : Bool := S.any (fun t => (decide (t ≠ own) && decide (dif t own = 0)) && (decide (p ≠ t) && decide (dif p t = 0)))
def mineB (S : List Nat) (own p : Nat) : Bool := S.any (fun t => (decide (t ≠ own) && decide (dif t own = 0)) && decide (t = p))
def prtB (S : List Nat) (c own i p : Nat) : Bool := (decide (i ≠ 0) && decide (p = dif c own)) || (((decide (pop p = 1) && decide (p &&& own ≠ 0)) || mineB S own p) && !deepB S own p)
def ptL (N : Nat) (g : Nat → Nat) (c own i : Nat) : List Nat := (List.range 512).filter (fun p => decide (1 ≤ p) && prtB (stL N g c) c own i p)
theorem deepB_iff {S : List Nat} {own p : Nat} : deepB S own p = true ↔ ∃ t, t ∈ S ∧ t ≠ own ∧ dif t own = 0 ∧ p ≠ t ∧ dif p t = 0 := by
  unfold deepB
  rw [List.any_eq_true]
  simp only [Bool.and_eq_true, decide_eq_true_eq]
  constructor
  · rintro ⟨t, h1, ⟨h2, h3⟩, h4, h5⟩
    exact ⟨t, h1, h2, h3, h4, h5⟩
  · rintro ⟨t, h1, h2, h3, h4, h5⟩
    exact ⟨t, h1, ⟨h2, h3⟩, h4, h5⟩
theorem mineB_iff {S : List Nat} {own p : Nat} : mineB S own p = true ↔ p ∈ S ∧ p ≠ own ∧ dif p own = 0 := by
  unfold mineB
  rw [List.any_eq_true]
  simp only [Bool.and_eq_true, decide_eq_true_eq]
  constructor
  · rintro ⟨t, h1, ⟨h2, h3⟩, rfl⟩
    exact ⟨h1, h2, h3⟩
  · rintro ⟨h1, h2, h3⟩
    exact ⟨p, h1, ⟨h2, h3⟩, rfl⟩
theorem pop1 {p : Nat} (hp : p < 512) (h : pop p = 1) {v : Nat} (hv : p.testBit v = true) : p = 2 ^ v := by
  apply Classical.byContradiction
  intro hne
  have hv9 := bit_lt (N := 9) hp hv
  have := pop_lt (a := 2 ^ v) (b := p) (fun i hi => (bit_two.mp hi) ▸ hv) (fun e => hne e.symm) hp
  rw [pop_two v hv9] at this
  omega
/-- own is a node's set: the component, or a strong split -/
def ndOK (N : Nat) (g : Nat → Nat) (c own i : Nat) : Prop := (i = 0 ∧ own = c) ∨ (i ≠ 0 ∧ own ∈ stL N g c)
theorem ndOK_sub {own i : Nat} (h : ndOK N g c own i) : sub own c := by
  rcases h with ⟨-, rfl⟩ | ⟨-, h⟩
  · exact sub_rfl _
  · exact st_c h
theorem prt_iff (hc : c < 512) {own i p : Nat} (hp5 : p < 512) (ho : ndOK N g c own i) : (decide (1 ≤ p) && prtB (stL N g c) c own i p) = true ↔ ∃ v, c.testBit v = true ∧ p = pw N g c own v := by
  have hsub := ndOK_sub ho
  have ho5 : own < 512 := sub_lt (N := 9) hsub hc
  rw [Bool.and_eq_true, decide_eq_true_eq]
  constructor
  · rintro ⟨h1, h2⟩
    unfold prtB at h2
    simp only [Bool.or_eq_true, Bool.and_eq_true, decide_eq_true_eq, Bool.not_eq_true'] at h2
    rcases h2 with ⟨h3, rfl⟩ | ⟨h3, h4⟩
    · rcases ho with ⟨q, -⟩ | ⟨-, q⟩
      · exact absurd q h3
      · obtain ⟨v, hv⟩ := ne0_bit (pop_ne0 (Nat.le_trans (by omega) (st_out q)) : dif c own ≠ 0)
        have := dif_bt.mp hv
        exact ⟨v, this.1, (pw_out this.2).symm⟩
    · have hnd : ∀ t, t ∈ stL N g c → t ≠ own → dif t own = 0 → sub p t → p = t := fun t a b d e => by
        apply Classical.byContradiction
        intro hne
        have : deepB (stL N g c) own p = true := deepB_iff.mpr ⟨t, a, b, d, hne, dif0.mpr e⟩
        rw [h4] at this
        cases this
      rcases h3 with ⟨h5, h6⟩ | h5
      · obtain ⟨v, hv⟩ := ne0_bit h6
        have hv := and_bit.mp hv
        rcases pw_in (N := N) (g := g) (c := c) hv.2 with ⟨e, -⟩ | ⟨k1, k2, k3⟩
        · refine ⟨v, hsub v hv.2, ?_⟩
          rw [e]
          exact pop1 hp5 h5 hv.1
        · refine ⟨v, hsub v hv.2, ?_⟩
          refine hnd _ k1 k2.2.1 k2.2.2 (fun i hi => ?_)
          rw [pop1 hp5 h5 hv.1] at hi
          rw [← bit_two.mp hi]
          exact k2.1
      · obtain ⟨a1, a2, a3⟩ := mineB_iff.mp h5
        obtain ⟨v, hv⟩ := ne0_bit (pop_ne0 (Nat.le_trans (by omega) (st_pop a1)) : p ≠ 0)
        have hvo := dif0.mp a3 v hv
        refine ⟨v, hsub v hvo, ?_⟩
        rcases pw_in (N := N) (g := g) (c := c) hvo with ⟨e, k⟩ | ⟨k1, k2, k3⟩
        · exact absurd ⟨hv, a2, a3⟩ (k p a1)
        · exact hnd _ k1 k2.2.1 k2.2.2 (k3 p a1 ⟨hv, a2, a3⟩)
  · rintro ⟨v, hv, rfl⟩
    have hself := pw_self (N := N) (g := g) (own := own) hv
    refine ⟨?_, ?_⟩
    · rcases Nat.lt_or_ge 0 (pw N g c own v) with q | q
      · exact q
      · rw [show pw N g c own v = 0 by omega, Nat.zero_testBit] at hself
        cases hself
    · unfold prtB
      simp only [Bool.or_eq_true, Bool.and_eq_true, decide_eq_true_eq, Bool.not_eq_true']
      cases hvo : own.testBit v
      · left
        refine ⟨fun e => ?_, pw_out hvo⟩
        rcases ho with ⟨-, rfl⟩ | ⟨q, -⟩
        · rw [hv] at hvo; cases hvo
        · exact q e
      · right
        constructor
        · rcases pw_in (N := N) (g := g) (c := c) hvo with ⟨e, -⟩ | ⟨k1, k2, k3⟩
          · left
            rw [e]
            refine ⟨pop_two v (bit_lt (N := 9) hc hv), fun e2 => ?_⟩
            have : (2 ^ v &&& own).testBit v = true := and_bit.mpr ⟨bit_two.mpr rfl, hvo⟩
            rw [e2, Nat.zero_testBit] at this
            cases this
          · right
            exact mineB_iff.mpr ⟨k1, k2.2⟩
        · cases hd : deepB (stL N g c) own (pw N g c own v)
          · rfl
          · exfalso
            obtain ⟨t, b1, b2, b3, b4, b5⟩ := deepB_iff.mp hd
            have hvt := dif0.mp b5 v hself
            have hct : cand own v t := ⟨hvt, b2, b3⟩
            rcases pw_in (N := N) (g := g) (c := c) hvo with ⟨e, k⟩ | ⟨k1, k2, k3⟩
            · exact k t b1 hct
            · exact b4 (sub_antisymm (dif0.mp b5) (k3 t b1 hct))
end PARTS
/-! strictly rising lists -/
theorem rise_eq : ∀ (l1 l2 : List Nat), l1.Pairwise (· < ·) → l2.Pairwise (· < ·) → (∀ x, x ∈ l1 ↔ x ∈ l2) → l1 = l2
  | [], [], _, _, _ => rfl
  | [], b :: t2, _, _, h => absurd ((h b).mpr List.mem_cons_self) List.not_mem_nil
  | a :: t1, [], _, _, h => absurd ((h a).mp List.mem_cons_self) List.not_mem_nil
  | a :: t1, b :: t2, h1, h2, h => by
    have k1 := List.pairwise_cons.mp h1
    have k2 := List.pairwise_cons.mp h2
    have e : a = b := by
      rcases List.mem_cons.mp ((h a).mp List.mem_cons_self) with q | q
      · exact q
      · rcases List.mem_cons.mp ((h b).mpr List.mem_cons_self) with r | r
        · exact r.symm
        · have := k2.1 a q
          have := k1.1 b r
          omega
    subst e
    rw [rise_eq t1 t2 k1.2 k2.2 (fun x => ?_)]
    constructor
    · intro hx
      rcases List.mem_cons.mp ((h x).mp (List.mem_cons_of_mem _ hx)) with q | q
      · have := k1.1 x hx
        omega
      · exact q
    · intro hx
      rcases List.mem_cons.mp ((h x).mpr (List.mem_cons_of_mem _ hx)) with q | q
      · have := k2.1 x hx
        omega
      · exact q
