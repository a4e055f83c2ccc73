/-! parts, part, kind, centre, linked: class against model -/
section PUB
variable {N : Nat} {g : Nat → Nat} {f f2 : Nat → Int32}
theorem e_parts (h1 : 1 ≤ N) (h9 : N ≤ 9) (hg : Gr N g) (hn : Hn N g f) (hn2 : Hn N g f2) (v k : Int32) {ss : Nat → Int32} {sc : Int32} {ns : Nat → Int32} {nc wh : Int32} (hT : TC N g ss sc ns nc wh) (ps : Nat → Int32) (pn zn tn yn : Int32) (zs ts ys : Nat → Int32) : ∃ (r : Int32) (ss' : Nat → Int32) (sc' : Int32) (ns' : Nat → Int32) (nc' : Int32) (ps' : Nat → Int32) (pn' wh' zn' : Int32) (zs' : Nat → Int32) (tn' : Int32) (ts' : Nat → Int32) (yn' : Int32) (ys' : Nat → Int32), TC N g ss' sc' ns' nc' wh' ∧ ev (fun n => mF_parts N f n 0 [v, k] ss sc ns nc ps pn wh) (r, ss', sc', ns', nc', ps', pn', wh') ∧ ev (fun n => mM_parts N f2 n 0 [v, k] zn zs tn ts yn ys) (r, zn', zs', tn', ts', yn', ys') := by
  rcases node_cases h9 hg v k with hno | ⟨j, i, ho⟩
  · obtain ⟨ss', sc', ns', nc', wh', q1, q2⟩ := e_hasNode0 h1 h9 hg hn hno hT
    obtain ⟨zn', zs', tn', ts', p1⟩ := e_open0 h1 h9 hg hn2 hno zn tn yn zs ts ys
    exact ⟨-1, ss', sc', ns', nc', ps, pn, wh', zn', zs', tn', ts', yn, ys, q1, ev_s (fun n => mF_parts_e0 N f n _ _ _ _ _ _ _ _ _) (ev_b q2 (ev_t rfl (ev_p _))), ev_s (fun n => mM_parts_e0 N f2 n _ _ _ _ _ _ _ _) (ev_b p1 (ev_t rfl (ev_p _)))⟩
  · obtain ⟨ss', ns', q1, q2, q3⟩ := e_hasNode1 h1 h9 hg hn ho hT
    obtain ⟨zs', ts', ys', p1, p2, p3⟩ := e_open1 h1 h9 hg hn2 ho zn tn yn zs ts ys
    obtain ⟨hj, rfl, rfl, hi⟩ := ho
    have hc := cmp_lt h9 hg hj
    have h0 := cmp_ne h9 hg hj
    obtain ⟨ps', r1, r2, r3⟩ := e_findParts (g := g) h9 hc h0 q2 hi ps pn
    exact ⟨nI (PT N g (cmp N g j) i).length, ss', nI (spL N g (cmp N g j)).length, ns', nI (nds N g (cmp N g j)).length, ps', nI (PT N g (cmp N g j) i).length, nI (cmp N g j), nI (spL N g (cmp N g j)).length, zs', nI (stL N g (cmp N g j)).length, ts', nI (PT N g (cmp N g j) i).length, ys', TC_of h0 hc q1 q2, ev_s (fun n => mF_parts_e0 N f n _ _ _ _ _ _ _ _ _) (ev_b q3 (ev_f (by decide) (ev_b (ev_s (fun n => mT_partCount_e0 N _ _ _ n _ _ _) (ev_b r3 (ev_p _))) (ev_p _)))), ev_s (fun n => mM_parts_e0 N f2 n _ _ _ _ _ _ _ _) (ev_b p3 (ev_f (by decide) (ev_p _)))⟩
theorem e_part (h1 : 1 ≤ N) (h9 : N ≤ 9) (hg : Gr N g) (hn : Hn N g f) (hn2 : Hn N g f2) (v k x : Int32) {ss : Nat → Int32} {sc : Int32} {ns : Nat → Int32} {nc wh : Int32} (hT : TC N g ss sc ns nc wh) (ps : Nat → Int32) (pn zn tn yn : Int32) (zs ts ys : Nat → Int32) : ∃ (r : Int32) (ss' : Nat → Int32) (sc' : Int32) (ns' : Nat → Int32) (nc' : Int32) (ps' : Nat → Int32) (pn' wh' zn' : Int32) (zs' : Nat → Int32) (tn' : Int32) (ts' : Nat → Int32) (yn' : Int32) (ys' : Nat → Int32), TC N g ss' sc' ns' nc' wh' ∧ ev (fun n => mF_part N f n 0 [v, k, x] ss sc ns nc ps pn wh) (r, ss', sc', ns', nc', ps', pn', wh') ∧ ev (fun n => mM_part N f2 n 0 [v, k, x] zn zs tn ts yn ys) (r, zn', zs', tn', ts', yn', ys') := by
  rcases node_cases h9 hg v k with hno | ⟨j, i, ho⟩
  · obtain ⟨ss', sc', ns', nc', wh', q1, q2⟩ := e_hasNode0 h1 h9 hg hn hno hT
    obtain ⟨zn', zs', tn', ts', p1⟩ := e_open0 h1 h9 hg hn2 hno zn tn yn zs ts ys
    exact ⟨-1, ss', sc', ns', nc', ps, pn, wh', zn', zs', tn', ts', yn, ys, q1, ev_s (fun n => mF_part_e0 N f n _ _ _ _ _ _ _ _ _ _) (ev_b q2 (ev_t rfl (ev_p _))), ev_s (fun n => mM_part_e0 N f2 n _ _ _ _ _ _ _ _ _) (ev_b p1 (ev_t rfl (ev_p _)))⟩
  · obtain ⟨ss', ns', q1, q2, q3⟩ := e_hasNode1 h1 h9 hg hn ho hT
    obtain ⟨zs', ts', ys', p1, p2, p3⟩ := e_open1 h1 h9 hg hn2 ho zn tn yn zs ts ys
    obtain ⟨hj, rfl, rfl, hi⟩ := ho
    have hc := cmp_lt h9 hg hj
    have h0 := cmp_ne h9 hg hj
    obtain ⟨ps', r1, r2, r3⟩ := e_findParts (g := g) h9 hc h0 q2 hi ps pn
    have both : ∀ r : Int32, ev (fun n => mT_partSet N ns' (nI (nds N g (cmp N g j)).length) (nI (cmp N g j)) n 0 [nI i, x] ps pn) (r, ps', nI (PT N g (cmp N g j) i).length) → ev (fun n => mM_part N f2 n 0 [nI j, nI i, x] zn zs tn ts yn ys) (r, nI (spL N g (cmp N g j)).length, zs', nI (stL N g (cmp N g j)).length, ts', nI (PT N g (cmp N g j) i).length, ys') → ∃ (r : Int32) (ss' : Nat → Int32) (sc' : Int32) (ns' : Nat → Int32) (nc' : Int32) (ps' : Nat → Int32) (pn' wh' zn' : Int32) (zs' : Nat → Int32) (tn' : Int32) (ts' : Nat → Int32) (yn' : Int32) (ys' : Nat → Int32), TC N g ss' sc' ns' nc' wh' ∧ ev (fun n => mF_part N f n 0 [nI j, nI i, x] ss sc ns nc ps pn wh) (r, ss', sc', ns', nc', ps', pn', wh') ∧ ev (fun n => mM_part N f2 n 0 [nI j, nI i, x] zn zs tn ts yn ys) (r, zn', zs', tn', ts', yn', ys') := fun r a b =>
      ⟨r, ss', nI (spL N g (cmp N g j)).length, ns', nI (nds N g (cmp N g j)).length, ps', nI (PT N g (cmp N g j) i).length, nI (cmp N g j), nI (spL N g (cmp N g j)).length, zs', nI (stL N g (cmp N g j)).length, ts', nI (PT N g (cmp N g j) i).length, ys', TC_of h0 hc q1 q2, ev_s (fun n => mF_part_e0 N f n _ _ _ _ _ _ _ _ _ _) (ev_b q3 (ev_f (by decide) (ev_b a (ev_p _)))), b⟩
    have hlenN := PT_len (g := g) h9 hc h0 hi
    by_cases hx : x < 0
    · exact both (-1) (ev_s (fun n => mT_partSet_e0 N _ _ _ n _ _ _ _) (ev_b r3 (ev_t hx (ev_p _)))) (ev_s (fun n => mM_part_e0 N f2 n _ _ _ _ _ _ _ _ _) (ev_b p3 (ev_f (by decide) (ev_t hx (ev_p _)))))
    · by_cases hx2 : nI (PT N g (cmp N g j) i).length ≤ x
      · exact both (-1) (ev_s (fun n => mT_partSet_e0 N _ _ _ n _ _ _ _) (ev_b r3 (ev_f hx (ev_t hx2 (ev_p _))))) (ev_s (fun n => mM_part_e0 N f2 n _ _ _ _ _ _ _ _ _) (ev_b p3 (ev_f (by decide) (ev_f hx (ev_t hx2 (ev_p _))))))
      · obtain ⟨z, hz, rfl⟩ := nI_of hx
        have hzl : z < (PT N g (cmp N g j) i).length := by
          rcases Nat.lt_or_ge z (PT N g (cmp N g j) i).length with q | q
          · exact q
          · exact absurd (nI_le q hz) hx2
        refine both (nI ((PT N g (cmp N g j) i).getD z 0)) (ev_s (fun n => mT_partSet_e0 N _ _ _ n _ _ _ _) (ev_b r3 (ev_f hx (ev_f hx2 (ev_g (vp_in_nI (by omega) (by omega)) ?_))))) (ev_s (fun n => mM_part_e0 N f2 n _ _ _ _ _ _ _ _ _) (ev_b p3 (ev_f (by decide) (ev_f hx (ev_f hx2 (ev_g (vp_in_nI (by omega) (by omega)) ?_))))))
        · rw [nI_clamp hz, r1 z hzl]
          exact ev_p _
        · rw [nI_clamp hz, p2 z hzl]
          exact ev_p _
theorem e_kind (h1 : 1 ≤ N) (h9 : N ≤ 9) (hg : Gr N g) (hn : Hn N g f) (hn2 : Hn N g f2) (v k : Int32) {ss : Nat → Int32} {sc : Int32} {ns : Nat → Int32} {nc wh : Int32} (hT : TC N g ss sc ns nc wh) (ps dg : Nat → Int32) (pn pj zn tn yn : Int32) (zs ts ys : Nat → Int32) : ∃ (r : Int32) (ss' : Nat → Int32) (sc' : Int32) (ns' : Nat → Int32) (nc' : Int32) (ps' dg' : Nat → Int32) (pn' pj' wh' zn' : Int32) (zs' : Nat → Int32) (tn' : Int32) (ts' : Nat → Int32) (yn' : Int32) (ys' : Nat → Int32), TC N g ss' sc' ns' nc' wh' ∧ ev (fun n => mF_kind N f n 0 [v, k] ss sc ns nc ps dg pn pj wh) (r, ss', sc', ns', nc', ps', dg', pn', pj', wh') ∧ ev (fun n => mM_kind N f2 n 0 [v, k] zn zs tn ts yn ys) (r, zn', zs', tn', ts', yn', ys') := by
  rcases node_cases h9 hg v k with hno | ⟨j, i, ho⟩
  · obtain ⟨ss', sc', ns', nc', wh', q1, q2⟩ := e_hasNode0 h1 h9 hg hn hno hT
    obtain ⟨zn', zs', tn', ts', p1⟩ := e_open0 h1 h9 hg hn2 hno zn tn yn zs ts ys
    exact ⟨-1, ss', sc', ns', nc', ps, dg, pn, pj, wh', zn', zs', tn', ts', yn, ys, q1, ev_s (fun n => mF_kind_e0 N f n _ _ _ _ _ _ _ _ _ _ _) (ev_b q2 (ev_t rfl (ev_p _))), ev_s (fun n => mM_kind_e0 N f2 n _ _ _ _ _ _ _ _) (ev_b p1 (ev_t rfl (ev_p _)))⟩
  · obtain ⟨ss', ns', q1, q2, q3⟩ := e_hasNode1 h1 h9 hg hn ho hT
    obtain ⟨zs', ts', ys', p1, p2, p3⟩ := e_open1 h1 h9 hg hn2 ho zn tn yn zs ts ys
    obtain ⟨hj, rfl, rfl, hi⟩ := ho
    have hc := cmp_lt h9 hg hj
    have h0 := cmp_ne h9 hg hj
    obtain ⟨ps', dg', r1, r2, r3⟩ := e_nodeKind h9 hg hn hc h0 q2 hi ps dg pn pj
    have hlenN := PT_len (g := g) h9 hc h0 hi
    have hmid := e_middle h9 hg hn2 (P := PT N g (cmp N g j) i) p2 (by omega) (PT_pos h9 hc h0 hi) (PT_lt h9 hc hi)
    have both : ∀ r : Int32, ev (fun n => mT_nodeKind N f ns' (nI (nds N g (cmp N g j)).length) (nI (cmp N g j)) n 0 [nI i] ps dg pn pj) (r, ps', dg', nI (PT N g (cmp N g j) i).length, nI (prE (JP N g (PT N g (cmp N g j) i)) (PT N g (cmp N g j) i).length)) → ev (fun n => mM_kind N f2 n 0 [nI j, nI i] zn zs tn ts yn ys) (r, nI (spL N g (cmp N g j)).length, zs', nI (stL N g (cmp N g j)).length, ts', nI (PT N g (cmp N g j) i).length, ys') → ∃ (r : Int32) (ss' : Nat → Int32) (sc' : Int32) (ns' : Nat → Int32) (nc' : Int32) (ps' dg' : Nat → Int32) (pn' pj' wh' zn' : Int32) (zs' : Nat → Int32) (tn' : Int32) (ts' : Nat → Int32) (yn' : Int32) (ys' : Nat → Int32), TC N g ss' sc' ns' nc' wh' ∧ ev (fun n => mF_kind N f n 0 [nI j, nI i] ss sc ns nc ps dg pn pj wh) (r, ss', sc', ns', nc', ps', dg', pn', pj', wh') ∧ ev (fun n => mM_kind N f2 n 0 [nI j, nI i] zn zs tn ts yn ys) (r, zn', zs', tn', ts', yn', ys') := fun r a b =>
      ⟨r, ss', nI (spL N g (cmp N g j)).length, ns', nI (nds N g (cmp N g j)).length, ps', dg', nI (PT N g (cmp N g j) i).length, nI (prE (JP N g (PT N g (cmp N g j) i)) (PT N g (cmp N g j) i).length), nI (cmp N g j), nI (spL N g (cmp N g j)).length, zs', nI (stL N g (cmp N g j)).length, ts', nI (PT N g (cmp N g j) i).length, ys', TC_of h0 hc q1 q2, ev_s (fun n => mF_kind_e0 N f n _ _ _ _ _ _ _ _ _ _ _) (ev_b q3 (ev_f (by decide) (ev_b a (ev_p _)))), b⟩
    rw [mid_kd] at hmid
    unfold kdI at r3
    by_cases a : prE (JP N g (PT N g (cmp N g j) i)) (PT N g (cmp N g j) i).length = (PT N g (cmp N g j) i).length * ((PT N g (cmp N g j) i).length - 1) / 2
    · rw [if_pos a] at r3 hmid
      exact both 1 r3 (ev_s (fun n => mM_kind_e0 N f2 n _ _ _ _ _ _ _ _) (ev_b p3 (ev_f (by decide) (ev_b hmid (ev_t (by decide) (ev_p _))))))
    · rw [if_neg a] at r3 hmid
      rcases ci_cases (J := JP N g (PT N g (cmp N g j) i)) (m := (PT N g (cmp N g j) i).length) (by omega) with b | ⟨z, b1, b2⟩
      · rw [if_pos b] at r3
        rw [b] at hmid
        exact both 3 r3 (ev_s (fun n => mM_kind_e0 N f2 n _ _ _ _ _ _ _ _) (ev_b p3 (ev_f (by decide) (ev_b hmid (ev_f (by decide) (ev_t (by decide) (ev_p _)))))))
      · rw [if_neg (by rw [b2]; exact nI_m1 (by omega))] at r3
        rw [b2] at hmid
        refine both 2 r3 (ev_s (fun n => mM_kind_e0 N f2 n _ _ _ _ _ _ _ _) (ev_b p3 (ev_f (by decide) (ev_b hmid (ev_f (fun e => ?_) (ev_f (nI_m1 (by omega)) (ev_p _)))))))
        have := nI_pos (n := z) (by omega)
        rw [e] at this
        exact this (by decide)
theorem e_centre (h1 : 1 ≤ N) (h9 : N ≤ 9) (hg : Gr N g) (hn : Hn N g f) (hn2 : Hn N g f2) (v k : Int32) {ss : Nat → Int32} {sc : Int32} {ns : Nat → Int32} {nc wh : Int32} (hT : TC N g ss sc ns nc wh) (ps dg : Nat → Int32) (pn pj zn tn yn : Int32) (zs ts ys : Nat → Int32) : ∃ (r : Int32) (ss' : Nat → Int32) (sc' : Int32) (ns' : Nat → Int32) (nc' : Int32) (ps' dg' : Nat → Int32) (pn' pj' wh' zn' : Int32) (zs' : Nat → Int32) (tn' : Int32) (ts' : Nat → Int32) (yn' : Int32) (ys' : Nat → Int32), TC N g ss' sc' ns' nc' wh' ∧ ev (fun n => mF_centre N f n 0 [v, k] ss sc ns nc ps dg pn pj wh) (r, ss', sc', ns', nc', ps', dg', pn', pj', wh') ∧ ev (fun n => mM_centre N f2 n 0 [v, k] zn zs tn ts yn ys) (r, zn', zs', tn', ts', yn', ys') := by
  rcases node_cases h9 hg v k with hno | ⟨j, i, ho⟩
  · obtain ⟨ss', sc', ns', nc', wh', q1, q2⟩ := e_hasNode0 h1 h9 hg hn hno hT
    obtain ⟨zn', zs', tn', ts', p1⟩ := e_open0 h1 h9 hg hn2 hno zn tn yn zs ts ys
    exact ⟨-1, ss', sc', ns', nc', ps, dg, pn, pj, wh', zn', zs', tn', ts', yn, ys, q1, ev_s (fun n => mF_centre_e0 N f n _ _ _ _ _ _ _ _ _ _ _) (ev_b q2 (ev_t rfl (ev_p _))), ev_s (fun n => mM_centre_e0 N f2 n _ _ _ _ _ _ _ _) (ev_b p1 (ev_t rfl (ev_p _)))⟩
  · obtain ⟨ss', ns', q1, q2, q3⟩ := e_hasNode1 h1 h9 hg hn ho hT
    obtain ⟨zs', ts', ys', p1, p2, p3⟩ := e_open1 h1 h9 hg hn2 ho zn tn yn zs ts ys
    obtain ⟨hj, rfl, rfl, hi⟩ := ho
    have hc := cmp_lt h9 hg hj
    have h0 := cmp_ne h9 hg hj
    obtain ⟨ps', dg', r1, r2, r3⟩ := e_nodeKind h9 hg hn hc h0 q2 hi ps dg pn pj
    have hlenN := PT_len (g := g) h9 hc h0 hi
    have hpos := PT_pos (g := g) h9 hc h0 hi
    have hmid := e_middle h9 hg hn2 (P := PT N g (cmp N g j) i) p2 (by omega) hpos (PT_lt h9 hc hi)
    have hci := e_centreIndex h9 hlenN hpos r2
    have both : ∀ r : Int32, ev (fun n => mT_centreSet N f ns' (nI (nds N g (cmp N g j)).length) (nI (cmp N g j)) n 0 [nI i] ps dg pn pj) (r, ps', dg', nI (PT N g (cmp N g j) i).length, nI (prE (JP N g (PT N g (cmp N g j) i)) (PT N g (cmp N g j) i).length)) → ev (fun n => mM_centre N f2 n 0 [nI j, nI i] zn zs tn ts yn ys) (r, nI (spL N g (cmp N g j)).length, zs', nI (stL N g (cmp N g j)).length, ts', nI (PT N g (cmp N g j) i).length, ys') → ∃ (r : Int32) (ss' : Nat → Int32) (sc' : Int32) (ns' : Nat → Int32) (nc' : Int32) (ps' dg' : Nat → Int32) (pn' pj' wh' zn' : Int32) (zs' : Nat → Int32) (tn' : Int32) (ts' : Nat → Int32) (yn' : Int32) (ys' : Nat → Int32), TC N g ss' sc' ns' nc' wh' ∧ ev (fun n => mF_centre N f n 0 [nI j, nI i] ss sc ns nc ps dg pn pj wh) (r, ss', sc', ns', nc', ps', dg', pn', pj', wh') ∧ ev (fun n => mM_centre N f2 n 0 [nI j, nI i] zn zs tn ts yn ys) (r, zn', zs', tn', ts', yn', ys') := fun r a b =>
      ⟨r, ss', nI (spL N g (cmp N g j)).length, ns', nI (nds N g (cmp N g j)).length, ps', dg', nI (PT N g (cmp N g j) i).length, nI (prE (JP N g (PT N g (cmp N g j) i)) (PT N g (cmp N g j) i).length), nI (cmp N g j), nI (spL N g (cmp N g j)).length, zs', nI (stL N g (cmp N g j)).length, ts', nI (PT N g (cmp N g j) i).length, ys', TC_of h0 hc q1 q2, ev_s (fun n => mF_centre_e0 N f n _ _ _ _ _ _ _ _ _ _ _) (ev_b q3 (ev_f (by decide) (ev_b a (ev_p _)))), b⟩
    rw [mid_kd] at hmid
    unfold kdI at r3
    by_cases a : prE (JP N g (PT N g (cmp N g j) i)) (PT N g (cmp N g j) i).length = (PT N g (cmp N g j) i).length * ((PT N g (cmp N g j) i).length - 1) / 2
    · rw [if_pos a] at r3 hmid
      exact both (-1) (ev_s (fun n => mT_centreSet_e0 N f _ _ _ n _ _ _ _ _) (ev_b r3 (ev_f (by decide) (ev_p _)))) (ev_s (fun n => mM_centre_e0 N f2 n _ _ _ _ _ _ _ _) (ev_b p3 (ev_f (by decide) (ev_b hmid (ev_t (by decide) (ev_p _))))))
    · rw [if_neg a] at r3 hmid
      rcases ci_cases (J := JP N g (PT N g (cmp N g j) i)) (m := (PT N g (cmp N g j) i).length) (by omega) with b | ⟨z, b1, b2⟩
      · rw [if_pos b] at r3
        rw [b] at hmid
        exact both (-1) (ev_s (fun n => mT_centreSet_e0 N f _ _ _ n _ _ _ _ _) (ev_b r3 (ev_f (by decide) (ev_p _)))) (ev_s (fun n => mM_centre_e0 N f2 n _ _ _ _ _ _ _ _) (ev_b p3 (ev_f (by decide) (ev_b hmid (ev_t (by decide) (ev_p _))))))
      · rw [if_neg (by rw [b2]; exact nI_m1 (by omega))] at r3
        rw [b2] at hmid hci
        refine both (nI ((PT N g (cmp N g j) i).getD z 0)) (ev_s (fun n => mT_centreSet_e0 N f _ _ _ n _ _ _ _ _) (ev_b r3 (ev_t rfl (ev_b hci (ev_g (vp_in_nI (by omega) (by omega)) ?_))))) (ev_s (fun n => mM_centre_e0 N f2 n _ _ _ _ _ _ _ _) (ev_b p3 (ev_f (by decide) (ev_b hmid (ev_f (nI_pos (by omega)) (ev_g (vp_in_nI (by omega) (by omega)) ?_))))))
        · rw [nI_clamp (by omega), r1 z b1]
          exact ev_p _
        · rw [nI_clamp (by omega), p2 z b1]
          exact ev_p _
end PUB
