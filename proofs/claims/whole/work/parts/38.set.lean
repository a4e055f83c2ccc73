/-! splits, strong, set: class and model answer alike -/
/-- the sets of the nodes -/
def nds (N : Nat) (g : Nat → Nat) (c : Nat) : List Nat := c :: stL N g c
theorem nds_s (N : Nat) (g : Nat → Nat) (c i : Nat) : (nds N g c).getD (i + 1) 0 = (stL N g c).getD i 0 := by
  unfold nds
  rw [List.getD_cons_succ]
theorem nds_0 (N : Nat) (g : Nat → Nat) (c : Nat) : (nds N g c).getD 0 0 = c := by
  unfold nds
  rw [List.getD_cons_zero]
def noNode (N : Nat) (g : Nat → Nat) (v k : Int32) : Prop := isV N v = false ∨ k < 0 ∨ ∃ j, j < N ∧ v = nI j ∧ nI ((stL N g (cmp N g j)).length + 1) ≤ k
def okNode (N : Nat) (g : Nat → Nat) (v k : Int32) (j i : Nat) : Prop := j < N ∧ v = nI j ∧ k = nI i ∧ i < (nds N g (cmp N g j)).length
section SETS
variable {N : Nat} {g : Nat → Nat} {f f2 : Nat → Int32}
theorem stL_len (h9 : N ≤ 9) {c : Nat} (hc : c < 2 ^ N) (h0 : c ≠ 0) : (stL N g c).length ≤ 2 ^ (N - 1) - 1 := Nat.le_trans (List.length_filter_le _ _) (spL_len h9 hc h0)
theorem pN8 (h9 : N ≤ 9) : 2 ^ (N - 1) ≤ 256 := Nat.pow_le_pow_right (n := 2) (j := 8) (by decide) (by omega)
theorem node_cases (h9 : N ≤ 9) (hg : Gr N g) (v k : Int32) : noNode N g v k ∨ ∃ j i, okNode N g v k j i := by
  cases hv : isV N v
  · exact Or.inl (Or.inl hv)
  · obtain ⟨j, hj, rfl⟩ := isV_j h9 hv
    by_cases hk : k < 0
    · exact Or.inl (Or.inr (Or.inl hk))
    · by_cases h2 : nI ((stL N g (cmp N g j)).length + 1) ≤ k
      · exact Or.inl (Or.inr (Or.inr ⟨j, hj, rfl, h2⟩))
      · obtain ⟨i, hi, rfl⟩ := nI_of hk
        refine Or.inr ⟨j, i, hj, rfl, rfl, ?_⟩
        show i < (stL N g (cmp N g j)).length + 1
        rcases Nat.lt_or_ge i ((stL N g (cmp N g j)).length + 1) with q | q
        · exact q
        · exact absurd (nI_le q hi) h2
theorem e_hasNode0 (h1 : 1 ≤ N) (h9 : N ≤ 9) (hg : Gr N g) (hn : Hn N g f) {v k : Int32} (hno : noNode N g v k) {ss : Nat → Int32} {sc : Int32} {ns : Nat → Int32} {nc wh : Int32} (hT : TC N g ss sc ns nc wh) : ∃ ss' sc' ns' nc' wh', TC N g ss' sc' ns' nc' wh' ∧ ev (fun n => mF_hasNode N f n 0 [v, k] ss sc ns nc wh) (0, ss', sc', ns', nc', wh') := by
  cases hv : isV N v
  · refine ⟨ss, sc, ns, nc, wh, hT, ev_s (fun n => mF_hasNode_e0 N f n _ _ _ _ _ _ _) (ev_b (e_has N v) ?_)⟩
    rw [hv]
    exact ev_t bI_f (ev_p _)
  · by_cases hk : k < 0
    · refine ⟨ss, sc, ns, nc, wh, hT, ev_s (fun n => mF_hasNode_e0 N f n _ _ _ _ _ _ _) (ev_b (e_has N v) ?_)⟩
      rw [hv]
      exact ev_f bI_t (ev_t hk (ev_p _))
    · rcases hno with h | h | ⟨j, hj, rfl, h⟩
      · rw [h] at hv; cases hv
      · exact absurd h hk
      · obtain ⟨ss', ns', q1, q2, q3⟩ := e_treeOf h1 h9 hg hn hj hT
        refine ⟨ss', nI (spL N g (cmp N g j)).length, ns', nI ((stL N g (cmp N g j)).length + 1), nI (cmp N g j), TC_of (cmp_ne h9 hg hj) (cmp_lt h9 hg hj) q1 q2, ev_s (fun n => mF_hasNode_e0 N f n _ _ _ _ _ _ _) (ev_b (e_has N _) ?_)⟩
        rw [hv]
        refine ev_f bI_t (ev_f hk (ev_b q3 ?_))
        refine ev_b (ev_s (fun n => mT_nodeCount_e0 N _ n) (ev_p _)) ?_
        exact ev_t h (ev_p _)
theorem e_hasNode1 (h1 : 1 ≤ N) (h9 : N ≤ 9) (hg : Gr N g) (hn : Hn N g f) {v k : Int32} {j i : Nat} (ho : okNode N g v k j i) {ss : Nat → Int32} {sc : Int32} {ns : Nat → Int32} {nc wh : Int32} (hT : TC N g ss sc ns nc wh) : ∃ ss' ns', holds ss' (spL N g (cmp N g j)) ∧ holds ns' (nds N g (cmp N g j)) ∧ ev (fun n => mF_hasNode N f n 0 [v, k] ss sc ns nc wh) (1, ss', nI (spL N g (cmp N g j)).length, ns', nI (nds N g (cmp N g j)).length, nI (cmp N g j)) := by
  obtain ⟨hj, rfl, rfl, hi⟩ := ho
  obtain ⟨ss', ns', q1, q2, q3⟩ := e_treeOf h1 h9 hg hn hj hT
  have hl := stL_len (g := g) h9 (cmp_lt h9 hg hj) (cmp_ne h9 hg hj)
  have h8 := pN8 h9
  have hi2 : i < (stL N g (cmp N g j)).length + 1 := hi
  refine ⟨ss', ns', q1, q2, ev_s (fun n => mF_hasNode_e0 N f n _ _ _ _ _ _ _) (ev_b (e_has N _) ?_)⟩
  rw [isV_t h9 hj]
  refine ev_f bI_t (ev_f (nI_pos (by omega)) (ev_b q3 ?_))
  refine ev_b (ev_s (fun n => mT_nodeCount_e0 N _ n) (ev_p _)) ?_
  exact ev_f (nI_ge hi2 (by omega)) (ev_p _)
theorem e_nodeSet0 (h1 : 1 ≤ N) (h9 : N ≤ 9) (hg : Gr N g) (hn : Hn N g f) {v k : Int32} (hno : noNode N g v k) (zn tn : Int32) (zs ts : Nat → Int32) : ∃ zn' zs' tn' ts', ev (fun n => mM_nodeSet N f n 0 [v, k] zn zs tn ts) (-1, zn', zs', tn', ts') := by
  cases hv : isV N v
  · refine ⟨zn, zs, tn, ts, ev_s (fun n => mM_nodeSet_e0 N f n _ _ _ _ _ _) (ev_b (e_is N v) ?_)⟩
    rw [hv]
    exact ev_t bI_f (ev_p _)
  · by_cases hk : k < 0
    · refine ⟨zn, zs, tn, ts, ev_s (fun n => mM_nodeSet_e0 N f n _ _ _ _ _ _) (ev_b (e_is N v) ?_)⟩
      rw [hv]
      exact ev_f bI_t (ev_f (Int32.not_le.mpr hk) (ev_p _))
    · rcases hno with h | h | ⟨j, hj, rfl, h⟩
      · rw [h] at hv; cases hv
      · exact absurd h hk
      · obtain ⟨zs', ts', q1, q2, q3⟩ := e_find h9 hg hn (cmp_lt h9 hg hj) (cmp_ne h9 hg hj) zn tn zs ts
        have hl := stL_len (g := g) h9 (cmp_lt h9 hg hj) (cmp_ne h9 hg hj)
        have h8 := pN8 h9
        obtain ⟨i, hi, rfl⟩ := nI_of hk
        have hge := (nI_leI (by omega) hi).mp h
        refine ⟨nI (spL N g (cmp N g j)).length, zs', nI (stL N g (cmp N g j)).length, ts', ev_s (fun n => mM_nodeSet_e0 N f n _ _ _ _ _ _) (ev_b (e_is N _) ?_)⟩
        rw [hv]
        refine ev_f bI_t (ev_t (nI_pos' hi) (ev_b (e_Mcomp h1 h9 hg hn hj) (ev_b q3 ?_)))
        refine ev_f (fun q => absurd ((nI0 hi).mp q) (by omega)) ?_
        exact ev_t (nI_lt (by omega) hi) (ev_p _)
theorem e_nodeSet1 (h1 : 1 ≤ N) (h9 : N ≤ 9) (hg : Gr N g) (hn : Hn N g f) {v k : Int32} {j i : Nat} (ho : okNode N g v k j i) (zn tn : Int32) (zs ts : Nat → Int32) : ∃ zs' ts', holds zs' (spL N g (cmp N g j)) ∧ holds ts' (stL N g (cmp N g j)) ∧ ev (fun n => mM_nodeSet N f n 0 [v, k] zn zs tn ts) (nI ((nds N g (cmp N g j)).getD i 0), nI (spL N g (cmp N g j)).length, zs', nI (stL N g (cmp N g j)).length, ts') := by
  obtain ⟨hj, rfl, rfl, hi⟩ := ho
  obtain ⟨zs', ts', q1, q2, q3⟩ := e_find h9 hg hn (cmp_lt h9 hg hj) (cmp_ne h9 hg hj) zn tn zs ts
  have hl := stL_len (g := g) h9 (cmp_lt h9 hg hj) (cmp_ne h9 hg hj)
  have h8 := pN8 h9
  have hi2 : i < (stL N g (cmp N g j)).length + 1 := hi
  refine ⟨zs', ts', q1, q2, ev_s (fun n => mM_nodeSet_e0 N f n _ _ _ _ _ _) (ev_b (e_is N _) ?_)⟩
  rw [isV_t h9 hj]
  refine ev_f bI_t (ev_t (nI_pos' (by omega)) (ev_b (e_Mcomp h1 h9 hg hn hj) (ev_b q3 ?_)))
  cases i with
  | zero => exact ev_t rfl (ev_p _)
  | succ i =>
    refine ev_f (fun q => absurd ((nI0 (by omega)).mp q) (by omega)) ?_
    refine ev_f (nI_nlt (by omega) (by omega)) ?_
    rw [nI_pred]
    refine ev_g (vp_in_nI (by omega) (by decide)) ?_
    rw [nI_clamp (by omega), q2 i (by omega), nds_s]
    exact ev_p _
/-- what class and model must show of a call: the same answer, and the tree's keeping -/
theorem e_splits (h1 : 1 ≤ N) (h9 : N ≤ 9) (hg : Gr N g) (hn : Hn N g f) (hn2 : Hn N g f2) (v : Int32) {ss : Nat → Int32} {sc : Int32} {ns : Nat → Int32} {nc wh : Int32} (hT : TC N g ss sc ns nc wh) (zn tn : Int32) (zs ts : Nat → Int32) : ∃ r ss' sc' ns' nc' wh' zn' zs' tn' ts', TC N g ss' sc' ns' nc' wh' ∧ ev (fun n => mF_splits N f n 0 [v] ss sc ns nc wh) (r, ss', sc', ns', nc', wh') ∧ ev (fun n => mM_splits N f2 n 0 [v] zn zs tn ts) (r, zn', zs', tn', ts') := by
  cases hv : isV N v
  · refine ⟨-1, ss, sc, ns, nc, wh, zn, zs, tn, ts, hT, ev_s (fun n => mF_splits_e0 N f n _ _ _ _ _ _) (ev_b (e_has N v) ?_), ev_s (fun n => mM_splits_e0 N f2 n _ _ _ _ _) (ev_b (e_is N v) ?_)⟩
    · rw [hv]; exact ev_t bI_f (ev_p _)
    · rw [hv]; exact ev_t bI_f (ev_p _)
  · obtain ⟨j, hj, rfl⟩ := isV_j h9 hv
    obtain ⟨ss', ns', q1, q2, q3⟩ := e_treeOf h1 h9 hg hn hj hT
    obtain ⟨zs', ts', p1, p2, p3⟩ := e_find h9 hg hn2 (cmp_lt h9 hg hj) (cmp_ne h9 hg hj) zn tn zs ts
    refine ⟨nI (spL N g (cmp N g j)).length, ss', nI (spL N g (cmp N g j)).length, ns', nI ((stL N g (cmp N g j)).length + 1), nI (cmp N g j), nI (spL N g (cmp N g j)).length, zs', nI (stL N g (cmp N g j)).length, ts', TC_of (cmp_ne h9 hg hj) (cmp_lt h9 hg hj) q1 q2, ev_s (fun n => mF_splits_e0 N f n _ _ _ _ _ _) (ev_b (e_has N _) ?_), ev_s (fun n => mM_splits_e0 N f2 n _ _ _ _ _) (ev_b (e_is N _) ?_)⟩
    · rw [hv]
      refine ev_f bI_t (ev_b q3 ?_)
      exact ev_b (ev_s (fun n => mT_splitCount_e0 N _ n) (ev_p _)) (ev_p _)
    · rw [hv]
      exact ev_f bI_t (ev_b (e_Mcomp h1 h9 hg hn2 hj) (ev_b p3 (ev_p _)))
theorem e_strong (h1 : 1 ≤ N) (h9 : N ≤ 9) (hg : Gr N g) (hn : Hn N g f) (hn2 : Hn N g f2) (v : Int32) {ss : Nat → Int32} {sc : Int32} {ns : Nat → Int32} {nc wh : Int32} (hT : TC N g ss sc ns nc wh) (zn tn : Int32) (zs ts : Nat → Int32) : ∃ r ss' sc' ns' nc' wh' zn' zs' tn' ts', TC N g ss' sc' ns' nc' wh' ∧ ev (fun n => mF_strong N f n 0 [v] ss sc ns nc wh) (r, ss', sc', ns', nc', wh') ∧ ev (fun n => mM_strong N f2 n 0 [v] zn zs tn ts) (r, zn', zs', tn', ts') := by
  cases hv : isV N v
  · refine ⟨-1, ss, sc, ns, nc, wh, zn, zs, tn, ts, hT, ev_s (fun n => mF_strong_e0 N f n _ _ _ _ _ _) (ev_b (e_has N v) ?_), ev_s (fun n => mM_strong_e0 N f2 n _ _ _ _ _) (ev_b (e_is N v) ?_)⟩
    · rw [hv]; exact ev_t bI_f (ev_p _)
    · rw [hv]; exact ev_t bI_f (ev_p _)
  · obtain ⟨j, hj, rfl⟩ := isV_j h9 hv
    obtain ⟨ss', ns', q1, q2, q3⟩ := e_treeOf h1 h9 hg hn hj hT
    obtain ⟨zs', ts', p1, p2, p3⟩ := e_find h9 hg hn2 (cmp_lt h9 hg hj) (cmp_ne h9 hg hj) zn tn zs ts
    refine ⟨nI (stL N g (cmp N g j)).length, ss', nI (spL N g (cmp N g j)).length, ns', nI ((stL N g (cmp N g j)).length + 1), nI (cmp N g j), nI (spL N g (cmp N g j)).length, zs', nI (stL N g (cmp N g j)).length, ts', TC_of (cmp_ne h9 hg hj) (cmp_lt h9 hg hj) q1 q2, ev_s (fun n => mF_strong_e0 N f n _ _ _ _ _ _) (ev_b (e_has N _) ?_), ev_s (fun n => mM_strong_e0 N f2 n _ _ _ _ _) (ev_b (e_is N _) ?_)⟩
    · rw [hv]
      refine ev_f bI_t (ev_b q3 ?_)
      refine ev_b (ev_s (fun n => mT_nodeCount_e0 N _ n) (ev_p _)) ?_
      rw [nI_pred]
      exact ev_p _
    · rw [hv]
      exact ev_f bI_t (ev_b (e_Mcomp h1 h9 hg hn2 hj) (ev_b p3 (ev_p _)))
theorem e_set (h1 : 1 ≤ N) (h9 : N ≤ 9) (hg : Gr N g) (hn : Hn N g f) (hn2 : Hn N g f2) (v k : Int32) {ss : Nat → Int32} {sc : Int32} {ns : Nat → Int32} {nc wh : Int32} (hT : TC N g ss sc ns nc wh) (zn tn : Int32) (zs ts : Nat → Int32) : ∃ r ss' sc' ns' nc' wh' zn' zs' tn' ts', TC N g ss' sc' ns' nc' wh' ∧ ev (fun n => mF_set N f n 0 [v, k] ss sc ns nc wh) (r, ss', sc', ns', nc', wh') ∧ ev (fun n => mM_set N f2 n 0 [v, k] zn zs tn ts) (r, zn', zs', tn', ts') := by
  rcases node_cases h9 hg v k with hno | ⟨j, i, ho⟩
  · obtain ⟨ss', sc', ns', nc', wh', q1, q2⟩ := e_hasNode0 h1 h9 hg hn hno hT
    obtain ⟨zn', zs', tn', ts', p1⟩ := e_nodeSet0 h1 h9 hg hn2 hno zn tn zs ts
    refine ⟨-1, ss', sc', ns', nc', wh', zn', zs', tn', ts', q1, ev_s (fun n => mF_set_e0 N f n _ _ _ _ _ _ _) (ev_b q2 ?_), ev_s (fun n => mM_set_e0 N f2 n _ _ _ _ _ _) (ev_b p1 (ev_p _))⟩
    exact ev_t rfl (ev_p _)
  · obtain ⟨ss', ns', q1, q2, q3⟩ := e_hasNode1 h1 h9 hg hn ho hT
    obtain ⟨zs', ts', p1, p2, p3⟩ := e_nodeSet1 h1 h9 hg hn2 ho zn tn zs ts
    have ho' := ho
    obtain ⟨hj, rfl, rfl, hi⟩ := ho
    have hl := stL_len (g := g) h9 (cmp_lt h9 hg hj) (cmp_ne h9 hg hj)
    have h8 := pN8 h9
    have hi2 : i < (stL N g (cmp N g j)).length + 1 := hi
    have hp : 0 < 2 ^ (N - 1) := Nat.two_pow_pos _
    refine ⟨nI ((nds N g (cmp N g j)).getD i 0), ss', nI (spL N g (cmp N g j)).length, ns', nI ((stL N g (cmp N g j)).length + 1), nI (cmp N g j), nI (spL N g (cmp N g j)).length, zs', nI (stL N g (cmp N g j)).length, ts', TC_of (cmp_ne h9 hg hj) (cmp_lt h9 hg hj) q1 q2, ev_s (fun n => mF_set_e0 N f n _ _ _ _ _ _ _) (ev_b q3 ?_), ev_s (fun n => mM_set_e0 N f2 n _ _ _ _ _ _) (ev_b p3 (ev_p _))⟩
    refine ev_f (by decide) ?_
    refine ev_b (a := nI ((nds N g (cmp N g j)).getD i 0)) (ev_s (fun n => mT_nodeSet_e0 N _ n _) (ev_g (vp_in_nI (by omega) (by omega)) ?_)) (ev_p _)
    rw [nI_clamp (by omega), q2 i hi]
    exact ev_p _
end SETS
