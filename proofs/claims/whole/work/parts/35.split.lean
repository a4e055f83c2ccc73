/-! Splits: one set against the rest -/
def bndF (g : Nat → Nat) (s out : Nat) : Nat → Nat → Nat → Bool
  | 0, _, _ => true
  | k + 1, i, b => if (if s.testBit i = true then g i &&& out else 0) ≠ 0 ∧ b ≠ 0 ∧ (if s.testBit i = true then g i &&& out else 0) ≠ b then false else bndF g s out k (i + 1) (b ||| (if s.testBit i = true then g i &&& out else 0))
def bnd (N : Nat) (g : Nat → Nat) (s out : Nat) : Bool := bndF g s out N 0 0
def seen (g : Nat → Nat) (s out i : Nat) : Nat := if s.testBit i = true then g i &&& out else 0
theorem seen_lt {N : Nat} {g : Nat → Nat} (hg : Gr N g) (s out : Nat) {i : Nat} (hi : i < N) : seen g s out i < 2 ^ N := by
  unfold seen
  split
  · exact Nat.lt_of_le_of_lt Nat.and_le_left (hg.1 i hi)
  · exact Nat.two_pow_pos N
theorem nI0 {a : Nat} (h : a < 2 ^ 31) : nI a = 0 ↔ a = 0 := nI_eq (b := 0) h (by decide)
theorem e_nearInside {N : Nat} {g : Nat → Nat} {f : Nat → Int32} (h9 : N ≤ 9) (hn : Hn N g f) {v : Nat} (hv : v < N) (set : Nat) : ev (fun n => mG_nearInside N f n 0 [nI v, nI set]) (nI (g v &&& set)) := by
  refine ev_s (fun n => mG_nearInside_e0 N f n _ _) ?_
  refine ev_g (vp_in_nI hv (by omega)) ?_
  rw [hn.at h9 hv, nx_and]
  exact ev_p _
theorem e_isSplitL {N : Nat} {g : Nat → Nat} {f : Nat → Int32} (h9 : N ≤ 9) (hg : Gr N g) (hn : Hn N g f) {s out : Nat} (hs : s < 2 ^ N) : ∀ k i b, i + k = N → b < 2 ^ N → ev (fun n => mT_isSplit N f n 1 [nI s, nI out, nI b, nI i]) (bI (bndF g s out k i b))
  | 0, i, b, h, hb => by
    refine ev_s (fun n => mT_isSplit_e1 N f n _ _ _ _) ?_
    refine ev_b (e_Gsize N) ?_
    exact ev_t (nI_le (by omega) (by omega)) (ev_p _)
  | k + 1, i, b, h, hb => by
    refine ev_s (fun n => mT_isSplit_e1 N f n _ _ _ _) ?_
    refine ev_b (e_Gsize N) ?_
    refine ev_f (nI_ge (by omega) (by omega)) ?_
    refine ev_b (e_contains (p31 h9 hs) (by omega)) ?_
    have hy := seen_lt hg s out (show i < N by omega)
    have key : ev (fun n => mT_isSplit N f n 2 [nI s, nI out, nI b, nI i, nI (seen g s out i)]) (bI (bndF g s out (k + 1) i b)) := by
      have e : bndF g s out (k + 1) i b = if seen g s out i ≠ 0 ∧ b ≠ 0 ∧ seen g s out i ≠ b then false else bndF g s out k (i + 1) (b ||| seen g s out i) := rfl
      rw [e]
      have go : ev (fun n => mT_isSplit N f n 3 [nI s, nI out, nI b, nI i, nI (seen g s out i)]) (bI (bndF g s out k (i + 1) (b ||| seen g s out i))) := by
        refine ev_s (fun n => mT_isSplit_e3 N f n _ _ _ _ _) ?_
        refine ev_l ?_
        rw [nx_or, nI_1]
        exact e_isSplitL h9 hg hn hs k (i + 1) _ (by omega) (Nat.or_lt_two_pow hb hy)
      refine ev_s (fun n => mT_isSplit_e2 N f n _ _ _ _ _) ?_
      by_cases h1 : seen g s out i = 0
      · rw [if_neg (fun q => q.1 h1)]
        refine ev_t ((nI0 (p31 h9 hy)).mpr h1) go
      · refine ev_f (fun q => h1 ((nI0 (p31 h9 hy)).mp q)) ?_
        by_cases h2 : b = 0
        · rw [if_neg (fun q => q.2.1 h2)]
          refine ev_t ((nI0 (p31 h9 hb)).mpr h2) go
        · refine ev_f (fun q => h2 ((nI0 (p31 h9 hb)).mp q)) ?_
          by_cases h3 : seen g s out i = b
          · rw [if_neg (fun q => q.2.2 h3)]
            refine ev_t (by rw [h3]) go
          · rw [if_pos ⟨h1, h2, h3⟩]
            exact ev_f (fun q => h3 ((nI_eq (p31 h9 hy) (p31 h9 hb)).mp q)) (ev_p _)
    unfold seen at key
    cases hb : s.testBit i
    · refine ev_t bI_f ?_
      rw [hb] at key
      exact key
    · refine ev_f bI_t ?_
      rw [hb] at key
      exact ev_b (e_nearInside h9 hn (by omega) out) key
/-- a split's conditions on its size and its bond -/
def isSp (N : Nat) (g : Nat → Nat) (s out : Nat) : Bool := decide (2 ≤ pop s) && (decide (2 ≤ pop out) && bnd N g s out)
theorem e_isSplit {N : Nat} {g : Nat → Nat} {f : Nat → Int32} (h9 : N ≤ 9) (hg : Gr N g) (hn : Hn N g f) {s out : Nat} (hs : s < 2 ^ N) (ho : out < 2 ^ N) : ev (fun n => mT_isSplit N f n 0 [nI s, nI out]) (bI (isSp N g s out)) := by
  refine ev_s (fun n => mT_isSplit_e0 N f n _ _) ?_
  refine ev_b (e_bitCount (p512 h9 hs)) ?_
  have p1 := pop_le9 s
  have p2 := pop_le9 out
  unfold isSp
  by_cases h1 : 2 ≤ pop s
  · refine ev_f (fun q => absurd ((nI_ltI (b := 2) (by omega) (by decide)).mp q) (by omega)) ?_
    rw [decide_eq_true h1, Bool.true_and]
    refine ev_b (e_bitCount (p512 h9 ho)) ?_
    by_cases h2 : 2 ≤ pop out
    · rw [decide_eq_true h2, Bool.true_and]
      refine ev_t ((nI_leI (a := 2) (by decide) (by omega)).mpr h2) ?_
      exact e_isSplitL h9 hg hn hs N 0 0 (by omega) (Nat.two_pow_pos N)
    · rw [decide_eq_false h2]
      exact ev_f (fun q => h2 ((nI_leI (a := 2) (by decide) (by omega)).mp q)) (ev_p _)
  · rw [decide_eq_false h1]
    exact ev_t ((nI_ltI (b := 2) (by omega) (by decide)).mpr (by omega)) (ev_p _)
/-- the model's 'complete', once it has said no -/
theorem e_compl0 {N : Nat} {g : Nat → Nat} {f : Nat → Int32} (h9 : N ≤ 9) (hg : Gr N g) (hn : Hn N g f) {s : Nat} (out : Nat) (hs : s < 2 ^ N) : ∀ k i, i + k = N → ∀ x : Int32, ev (fun n => mM_complete N f n 1 [nI s, nI out, x, 0, nI i]) 0
  | 0, i, h, x => by
    refine ev_s (fun n => mM_complete_e1 N f n _ _ _ _ _) ?_
    exact ev_t (nI_le (by omega) (by omega)) (ev_z (Or.inl rfl) (ev_p _))
  | k + 1, i, h, x => by
    have ih := e_compl0 h9 hg hn out hs k (i + 1) (by omega)
    have key : ∀ y : Int32, ev (fun n => mM_complete N f n 2 [nI s, nI out, x, 0, nI i, y]) 0 := fun y => by
      refine ev_s (fun n => mM_complete_e2 N f n _ _ _ _ _ _) ?_
      refine ev_t rfl ?_
      refine ev_s (fun n => mM_complete_e4 N f n _ _ _ _ _) ?_
      refine ev_s (fun n => mM_complete_e5 N f n _ _ _ _ _ _) ?_
      rw [nI_1]
      exact ev_c (fun _ => ih _) (fun _ => ih _)
    refine ev_s (fun n => mM_complete_e1 N f n _ _ _ _ _) ?_
    refine ev_f (nI_ge (by omega) (by omega)) ?_
    exact ev_c (fun _ => ev_g (vp_in_nI (by omega) (by omega)) (key _)) (fun _ => key _)
theorem e_complL {N : Nat} {g : Nat → Nat} {f : Nat → Int32} (h9 : N ≤ 9) (hg : Gr N g) (hn : Hn N g f) {s out : Nat} (hs : s < 2 ^ N) : ∀ k i b, i + k = N → b < 2 ^ N → ev (fun n => mM_complete N f n 1 [nI s, nI out, nI b, 1, nI i]) (bI (bndF g s out k i b))
  | 0, i, b, h, hb => by
    refine ev_s (fun n => mM_complete_e1 N f n _ _ _ _ _) ?_
    exact ev_t (nI_le (by omega) (by omega)) (ev_z (Or.inr rfl) (ev_p _))
  | k + 1, i, b, h, hb => by
    refine ev_s (fun n => mM_complete_e1 N f n _ _ _ _ _) ?_
    refine ev_f (nI_ge (by omega) (by omega)) ?_
    rw [nx_bit (p31 h9 hs) (by omega)]
    have hy := seen_lt hg s out (show i < N by omega)
    have key : ev (fun n => mM_complete N f n 2 [nI s, nI out, nI b, 1, nI i, nI (seen g s out i)]) (bI (bndF g s out (k + 1) i b)) := by
      have e : bndF g s out (k + 1) i b = if seen g s out i ≠ 0 ∧ b ≠ 0 ∧ seen g s out i ≠ b then false else bndF g s out k (i + 1) (b ||| seen g s out i) := rfl
      rw [e]
      refine ev_s (fun n => mM_complete_e2 N f n _ _ _ _ _ _) ?_
      refine ev_f (by decide) ?_
      have go : (seen g s out i = 0 ∨ b = 0 ∨ seen g s out i = b) → ev (fun n => mM_complete N f n 3 [nI s, nI out, nI b, nI i, nI (seen g s out i)]) (bI (bndF g s out k (i + 1) (b ||| seen g s out i))) := fun hz => by
        refine ev_s (fun n => mM_complete_e3 N f n _ _ _ _ _) ?_
        refine ev_s (fun n => mM_complete_e5 N f n _ _ _ _ _ _) ?_
        rw [nI_1]
        by_cases h1 : seen g s out i = 0
        · refine ev_t ((nI0 (p31 h9 hy)).mpr h1) ?_
          rw [h1, Nat.or_zero]
          exact e_complL h9 hg hn hs k (i + 1) b (by omega) hb
        · refine ev_f (fun q => h1 ((nI0 (p31 h9 hy)).mp q)) ?_
          have : b ||| seen g s out i = seen g s out i := by
            rcases hz with hz | hz | hz
            · exact absurd hz h1
            · rw [hz, Nat.zero_or]
            · rw [hz, Nat.or_self]
          rw [this]
          exact e_complL h9 hg hn hs k (i + 1) _ (by omega) hy
      by_cases h1 : seen g s out i = 0
      · rw [if_neg (fun q => q.1 h1)]
        refine ev_t ((nI0 (p31 h9 hy)).mpr h1) (go (Or.inl h1))
      · refine ev_f (fun q => h1 ((nI0 (p31 h9 hy)).mp q)) ?_
        by_cases h2 : b = 0
        · rw [if_neg (fun q => q.2.1 h2)]
          refine ev_t ((nI0 (p31 h9 hb)).mpr h2) (go (Or.inr (Or.inl h2)))
        · refine ev_f (fun q => h2 ((nI0 (p31 h9 hb)).mp q)) ?_
          by_cases h3 : seen g s out i = b
          · rw [if_neg (fun q => q.2.2 h3)]
            refine ev_t (by rw [h3]) (go (Or.inr (Or.inr h3)))
          · rw [if_pos ⟨h1, h2, h3⟩]
            refine ev_f (fun q => h3 ((nI_eq (p31 h9 hy) (p31 h9 hb)).mp q)) ?_
            refine ev_s (fun n => mM_complete_e4 N f n _ _ _ _ _) ?_
            refine ev_s (fun n => mM_complete_e5 N f n _ _ _ _ _ _) ?_
            rw [nI_1]
            exact ev_c (fun _ => e_compl0 h9 hg hn out hs k (i + 1) (by omega) _) (fun _ => e_compl0 h9 hg hn out hs k (i + 1) (by omega) _)
    unfold seen at key
    cases hb : s.testBit i
    · refine ev_f (by decide) ?_
      rw [hb] at key
      exact key
    · refine ev_t (by decide) ?_
      rw [hb] at key
      refine ev_g (vp_in_nI (by omega) (by omega)) ?_
      rw [hn.at h9 (by omega), nx_and]
      exact key
theorem e_complete {N : Nat} {g : Nat → Nat} {f : Nat → Int32} (h9 : N ≤ 9) (hg : Gr N g) (hn : Hn N g f) {s : Nat} (out : Nat) (hs : s < 2 ^ N) : ev (fun n => mM_complete N f n 0 [nI s, nI out]) (bI (bnd N g s out)) := by
  refine ev_s (fun n => mM_complete_e0 N f n _ _) ?_
  exact e_complL h9 hg hn hs N 0 0 (by omega) (Nat.two_pow_pos N)
/-! lists in arrays -/
def holds (f : Nat → Int32) (l : List Nat) : Prop := ∀ i, i < l.length → f i = nI (l.getD i 0)
theorem holds_nil (f : Nat → Int32) : holds f [] := fun i h => absurd h (Nat.not_lt_zero i)
theorem holds_push {f : Nat → Int32} {l : List Nat} (h : holds f l) (x : Nat) : holds (upd f l.length (nI x)) (l ++ [x]) := by
  intro i hi
  rw [List.length_append, List.length_singleton] at hi
  by_cases e : i = l.length
  · subst e
    rw [pk_us]
    simp
  · rw [pk_un e, h i (by omega), List.getD_eq_getElem?_getD, List.getD_eq_getElem?_getD, List.getElem?_append_left (by omega)]
theorem range_filter_succ (p : Nat → Bool) (s : Nat) : (List.range (s + 1)).filter p = (List.range s).filter p ++ (if p s = true then [s] else []) := by
  rw [List.range_succ, List.filter_append]
  congr 1
  by_cases h : p s = true
  · rw [if_pos h]
    simp [h]
  · rw [if_neg h]
    simp [h]
theorem range_filter_le (p : Nat → Bool) {s m : Nat} (h : s ≤ m) : ((List.range s).filter p).length ≤ ((List.range m).filter p).length :=
  ((List.range_sublist.mpr h).filter p).length_le
theorem filter_le {p q : Nat → Bool} (l : List Nat) (h : ∀ x, x ∈ l → p x = true → q x = true) : (l.filter p).length ≤ (l.filter q).length := by
  rw [← List.countP_eq_length_filter, ← List.countP_eq_length_filter]
  exact List.countP_mono_left h
