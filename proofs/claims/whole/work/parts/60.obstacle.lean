/-! obstacle: class against model, given the shape of obstructions -/
section OBST
variable {N : Nat} {g : Nat → Nat} {f f2 : Nat → Int32}
theorem obF_lt (h9 : N ≤ 9) : ∀ k x K, K < 2 ^ N → obF N g k x K < 2 ^ N
  | 0, x, K, h => h
  | k + 1, x, K, h => by
    unfold obF
    refine obF_lt h9 k (x + 1) _ ?_
    split
    · exact h
    · exact dif_lt _ h
theorem e_obstacle (h1 : 1 ≤ N) (h9 : N ≤ 9) (hg : Gr N g) (hn : Hn N g f) (hn2 : Hn N g f2) (v : Int32) (st : Nat → Int32) (sn lf en ew : Int32) (es : Nat → Int32) : ∃ (r : Int32) (st' : Nat → Int32) (sn' lf' en' : Int32) (es' : Nat → Int32) (ew' : Int32), ev (fun n => mF_obstacle N f n 0 [v] st sn lf) (r, st', sn', lf') ∧ ev (fun n => mM_obstacle N f2 n 0 [v] en es ew) (r, en', es', ew') := by
  cases hv : isV N v
  · refine ⟨-1, st, sn, lf, en, es, ew, ev_s (fun n => mF_obstacle_e0 N f n _ _ _ _) (ev_b (e_has N v) ?_), ev_s (fun n => mM_obstacle_e0 N f2 n _ _ _ _) (ev_b (a := (-1, en, es, ew)) (ev_s (fun n => mM_obstruction_e0 N f2 n _ _ _ _) (ev_b (e_is N v) ?_)) ?_)⟩
    · rw [hv]; refine ev_t bI_f ?_; refine ev_s (fun n => mF_obstacle_e1 N f n _ _ _ _) ?_; exact ev_t rfl (ev_p _)
    · rw [hv]; exact ev_t bI_f (ev_p _)
    · exact ev_t rfl (ev_p _)
  · obtain ⟨j, hj, rfl⟩ := isV_j h9 hv
    have hc := cmp_lt h9 hg hj
    obtain ⟨st', sn', lf', a⟩ := e_obIn h1 h9 hg hn hc st sn lf
    obtain ⟨en', es', ew', b⟩ := e_Mob h1 h9 hg hn2 hj en ew es
    have start : ∀ r, ev (fun n => mF_obstacle N f n 1 [obI N g (cmp N g j)] st' sn' lf') (r, st', sn', lf') → ev (fun n => mF_obstacle N f n 0 [nI j] st sn lf) (r, st', sn', lf') := fun r hr => by
      refine ev_s (fun n => mF_obstacle_e0 N f n _ _ _ _) (ev_b (e_has N _) ?_)
      rw [hv]
      exact ev_f bI_t (ev_b (e_compOf h1 h9 hg hn hj) (ev_b a hr))
    cases hf : fine N g (cmp N g j)
    · have e : obI N g (cmp N g j) = nI (obs N g (cmp N g j)) := by
        unfold obI
        rw [hf, if_neg (by decide)]
      rw [e] at b start
      have hK : obs N g (cmp N g j) < 2 ^ N := obF_lt h9 _ _ _ hc
      have hs := obs_shape h9 hg hc hf
      have hp9 := pop_le9 (obs N g (cmp N g j))
      have hel := ends_le (g := g) h9 (obs N g (cmp N g j))
      generalize obs N g (cmp N g j) = K at hK hs hp9 hel b start
      have hbc := e_bitCount (p512 h9 hK)
      have hei := e_edgesInside h9 hg hn hK
      have hMs := e_Msize (p31 h9 hK)
      have hMe := e_Medges h9 hg hn2 (p31 h9 hK)
      have cls : ∀ r, ev (fun n => mF_obstacleKind n 0 [nI (pop K), nI (ends N g K / 2)]) r → ev (fun n => mF_obstacle N f n 0 [nI j] st sn lf) (r, st', sn', lf') := fun r hr => start r (ev_s (fun n => mF_obstacle_e1 N f n _ _ _ _) (ev_f (nI_m1 (p31 h9 hK)) (ev_b hbc (ev_b hei (ev_b hr (ev_p _))))))
      by_cases q1 : ends N g K / 2 = pop K
      · refine ⟨1, st', sn', lf', en', es', ew', cls 1 (ev_s (fun n => mF_obstacleKind_e0 n _ _) (ev_t (by rw [q1]) (ev_p _))), ev_s (fun n => mM_obstacle_e0 N f2 n _ _ _ _) (ev_b b (ev_f (nI_m1 (p31 h9 hK)) (ev_b hMs (ev_b hMe ?_))))⟩
        exact ev_t (by rw [q1]) (ev_p _)
      · have n1 : ¬ nI (ends N g K / 2) = nI (pop K) := fun r => q1 ((nI_eq (by omega) (by omega)).mp r)
        rcases hs with hs | hs | hs
        · exact absurd hs q1
        · have n6 : ¬ nI (pop K) = 6 := by rw [hs]; decide
          have y5 : nI (pop K) = 5 := by rw [hs]; rfl
          by_cases q2 : ends N g K / 2 = 6
          · refine ⟨2, st', sn', lf', en', es', ew', cls 2 (ev_s (fun n => mF_obstacleKind_e0 n _ _) (ev_f n1 (ev_f n6 (ev_t (by rw [q2]; rfl) (ev_p _))))), ev_s (fun n => mM_obstacle_e0 N f2 n _ _ _ _) (ev_b b (ev_f (nI_m1 (p31 h9 hK)) (ev_b hMs (ev_b hMe ?_))))⟩
            exact ev_f n1 (ev_t y5 (ev_t (by rw [q2]; rfl) (ev_p _)))
          · have n2 : ¬ nI (ends N g K / 2) = 6 := fun r => q2 ((nI_eq (b := 6) (by omega) (by decide)).mp r)
            refine ⟨3, st', sn', lf', en', es', ew', cls 3 (ev_s (fun n => mF_obstacleKind_e0 n _ _) (ev_f n1 (ev_f n6 (ev_f n2 (ev_p _))))), ev_s (fun n => mM_obstacle_e0 N f2 n _ _ _ _) (ev_b b (ev_f (nI_m1 (p31 h9 hK)) (ev_b hMs (ev_b hMe ?_))))⟩
            refine ev_f n1 (ev_t y5 (ev_f n2 ?_))
            exact ev_s (fun n => mM_obstacle_e1 N f2 n _ _ _ _) (ev_t y5 (ev_p _))
        · have y6 : nI (pop K) = 6 := by rw [hs]; rfl
          have n5 : ¬ nI (pop K) = 5 := by rw [hs]; decide
          refine ⟨4, st', sn', lf', en', es', ew', cls 4 (ev_s (fun n => mF_obstacleKind_e0 n _ _) (ev_f n1 (ev_t y6 (ev_p _)))), ev_s (fun n => mM_obstacle_e0 N f2 n _ _ _ _) (ev_b b (ev_f (nI_m1 (p31 h9 hK)) (ev_b hMs (ev_b hMe ?_))))⟩
          refine ev_f n1 (ev_f n5 ?_)
          exact ev_s (fun n => mM_obstacle_e1 N f2 n _ _ _ _) (ev_f n5 (ev_p _))
    · have e : obI N g (cmp N g j) = -1 := by
        unfold obI
        rw [hf, if_pos rfl]
      rw [e] at b start
      exact ⟨-1, st', sn', lf', en', es', ew', start (-1) (ev_s (fun n => mF_obstacle_e1 N f n _ _ _ _) (ev_t rfl (ev_p _))), ev_s (fun n => mM_obstacle_e0 N f2 n _ _ _ _) (ev_b b (ev_t rfl (ev_p _)))⟩
end OBST
