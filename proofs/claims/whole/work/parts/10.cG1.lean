set_option maxHeartbeats 4000000 in
set_option maxRecDepth 100000 in
theorem cG_areTwins (l : Launch) (D : va_G) (q : Nat → Nat) (cA : ClassId) (N : Nat) (sz : Nat) (nr : Nat → Int32) (a1 a2 a3 : Int32) (n : Nat) (r : Int32) (hm : mG_areTwins N nr n 0 [a1, a2, a3] = some r) : Met l yXG_areTwins wsXG_areTwins ({ frames := 0, cells := 0, slots := 0, locals := 0 }) (kPc D cA [.ref (q 10), .int a1, .int a2, .int a3] (wG q cA N nr) sz) (kQi D cA kB (va_A (wG q cA N nr) sz) (wG q cA N nr) r) 0 0 (va_A (wG q cA N nr) sz) := by
  refine k_met (D := D) (cA := cA) (w := (wG q cA N nr)) (sz := sz) (av := [.ref (q 10), .int a1, .int a2, .int a3]) (cc := cXG_areTwins) (maxL := 5) (ret := (some .boolean)) (Qc := fun A => kQi D cA kB A (wG q cA N nr) r) (by decide) rfl (Nat.le_of_ble_eq_true rfl) ?_
  intro p e s m below meth c A ls hX hK hN hA hP hD hl
  obtain ⟨hx, hb, hr, hml, hown, hts, hlocks, -⟩ := hX
  have hown : s.vm.findClass RXG = some m.cls := hown
  have hl : lv_has ls 5 [(0, .ref (q 10)), (1, .int a1), (2, .int a2), (3, .int a3)] := hl
  have hts : ∀ w ∈ W0, w.before _ s = true := fun w h => hts w (List.mem_cons_of_mem _ h)
  have key : ∀ n : Nat, (∀ (x1 x2 x3 : Int32) (r : Int32) (H : Heap) (locs : List Loc) (ls : Array Slot), mG_areTwins N nr n 0 [x1, x2, x3] = some r → va_P D vwCl (wG q cA N nr) H → va_D A (wG q cA N nr) → va_S A s.heap H locs → lv_has ls 5 [(0, .ref (q 10)), (1, .int x1), (2, .int x2), (3, .int x3)] → W p l e ({ frames := 0, cells := 0, slots := 0, locals := 0 }) s m ([.ref (q 10), .int a1, .int a2, .int a3] : List Value).toArray below meth c H locs 0 0 (MQ below (kQi D cA kB A (wG q cA N nr) r) ([.ref (q 10), .int a1, .int a2, .int a3] : List Value).toArray s 0 0 A) (F0 m 0 ls [])) := by
    intro n
    induction n with
    | zero => exact (by intros; rename_i h _ _ _ _; rw [mG_areTwins_z] at h; cases h)
    | succ n ih =>
      have ih0 := ih
      intro x1 x2 x3 r H locs ls hm hP hD hS hl
      rw [mG_areTwins_e0] at hm
      refine lv_iload_n hx hb dXG_areTwins_0 rfl (lv_at hl 3 rfl) ?_
      refine lv_iconst (v := 1) hx hb dXG_areTwins_1 (by decide) ?_
      refine lv_iload_n hx hb dXG_areTwins_2 rfl (lv_at hl 1 rfl) ?_
      refine lv_ishl hx hb dXG_areTwins_3 ?_
      refine lv_iconst (v := (-1)) hx hb dXG_areTwins_4 (by decide) ?_
      refine lv_ixor hx hb dXG_areTwins_5 ?_
      refine lv_iand hx hb dXG_areTwins_6 ?_
      refine lv_iconst (v := 1) hx hb dXG_areTwins_7 (by decide) ?_
      refine lv_iload_n hx hb dXG_areTwins_8 rfl (lv_at hl 2 rfl) ?_
      refine lv_ishl hx hb dXG_areTwins_9 ?_
      refine lv_iconst (v := (-1)) hx hb dXG_areTwins_10 (by decide) ?_
      refine lv_ixor hx hb dXG_areTwins_11 ?_
      refine lv_iand hx hb dXG_areTwins_12 ?_
      refine lv_topi (fun x4_11 ex4_11 => ?_)
      have hm := kl_s ex4_11 hm
      refine lv_istore (lv' := [(4, .int x4_11), (0, .ref (q 10)), (1, .int x1), (2, .int x2), (3, .int x3)]) hx hb dXG_areTwins_13 hl (by decide) rfl (fun ls hl => ?_)
      refine lv_aload_n hx hb dXG_areTwins_15 rfl (lv_at hl 1 rfl) ?_
      refine va_get (D := D) (ci := 2) (v := .ref (q 11)) (C := RXG) (T := TXG) (N := 2) hx hb hts hinXG hown hK hP 0 rfl rfl 1 (by decide) (hts _ wd_59) (fun _ h9 => h9) rfl dXG_areTwins_16 ?_
      refine lv_iload_n hx hb dXG_areTwins_19 rfl (lv_at hl 2 rfl) ?_
      obtain ⟨hg12, hm⟩ := kg_s hm
      refine va_iald hx hb hK hP 1 0 rfl rfl hg12 dXG_areTwins_20 ?_
      refine lv_iload hx hb dXG_areTwins_21 (lv_at hl 0 rfl) ?_
      refine lv_iand hx hb dXG_areTwins_23 ?_
      refine lv_aload_n hx hb dXG_areTwins_24 rfl (lv_at hl 1 rfl) ?_
      refine va_get (D := D) (ci := 2) (v := .ref (q 11)) (C := RXG) (T := TXG) (N := 2) hx hb hts hinXG hown hK hP 0 rfl rfl 1 (by decide) (hts _ wd_59) (fun _ h9 => h9) rfl dXG_areTwins_25 ?_
      refine lv_iload_n hx hb dXG_areTwins_28 rfl (lv_at hl 3 rfl) ?_
      obtain ⟨hg13, hm⟩ := kg_s hm
      refine va_iald hx hb hK hP 1 0 rfl rfl hg13 dXG_areTwins_29 ?_
      refine lv_iload hx hb dXG_areTwins_30 (lv_at hl 0 rfl) ?_
      refine lv_iand hx hb dXG_areTwins_32 ?_
      refine lv_icmp_ne (tgt := 40) hx hb dXG_areTwins_33 (by decide) (fun c14 => ?_) (fun c14 => ?_)
      · rw [if_neg c14] at hm
        refine lv_iconst (v := 0) hx hb dXG_areTwins_40 (by decide) ?_
        cases hm
        exact k_zret hx hb hr hlocks hK hP hD hS (Or.inl rfl) dXG_areTwins_41
      · rw [if_pos c14] at hm
        refine lv_iconst (v := 1) hx hb dXG_areTwins_36 (by decide) ?_
        refine lv_goto (tgt := 41) hx hb dXG_areTwins_37 (by decide) ?_
        cases hm
        exact k_zret hx hb hr hlocks hK hP hD hS (Or.inr rfl) dXG_areTwins_41
  exact key n a1 a2 a3 r s.heap [] ls hm hP hD va_S.rf hl
set_option maxHeartbeats 4000000 in
set_option maxRecDepth 100000 in
theorem cG_edgesInside (l : Launch) (D : va_G) (q : Nat → Nat) (cA : ClassId) (N : Nat) (sz : Nat) (nr : Nat → Int32) (a1 : Int32) (n : Nat) (r : Int32) (hm : mG_edgesInside N nr n 0 [a1] = some r) : Met l yXG_edgesInside wsXG_edgesInside ({ frames := 1, cells := 0, slots := 0, locals := 21 }) (kPc D cA [.ref (q 10), .int a1] (wG q cA N nr) sz) (kQi D cA kT (va_A (wG q cA N nr) sz) (wG q cA N nr) r) 0 0 (va_A (wG q cA N nr) sz) := by
  refine k_met (D := D) (cA := cA) (w := (wG q cA N nr)) (sz := sz) (av := [.ref (q 10), .int a1]) (cc := cXG_edgesInside) (maxL := 4) (ret := (some .int)) (Qc := fun A => kQi D cA kT A (wG q cA N nr) r) (by decide) rfl (Nat.le_of_ble_eq_true rfl) ?_
  intro p e s m below meth c A ls hX hK hN hA hP hD hl
  obtain ⟨hx, hb, hr, hml, hown, hts, hlocks, -⟩ := hX
  have hown : s.vm.findClass RXG = some m.cls := hown
  have hl : lv_has ls 4 [(0, .ref (q 10)), (1, .int a1)] := hl
  have hts : ∀ w ∈ W0, w.before _ s = true := fun w h => hts w (List.mem_cons_of_mem _ h)
  have key : ∀ n : Nat, (∀ (x1 : Int32) (r : Int32) (H : Heap) (locs : List Loc) (ls : Array Slot), mG_edgesInside N nr n 0 [x1] = some r → va_P D vwCl (wG q cA N nr) H → va_D A (wG q cA N nr) → va_S A s.heap H locs → lv_has ls 4 [(0, .ref (q 10)), (1, .int x1)] → W p l e ({ frames := 1, cells := 0, slots := 0, locals := 21 }) s m ([.ref (q 10), .int a1] : List Value).toArray below meth c H locs 0 0 (MQ below (kQi D cA kT A (wG q cA N nr) r) ([.ref (q 10), .int a1] : List Value).toArray s 0 0 A) (F0 m 0 ls [])) ∧
    (∀ (x1 x2 x3 : Int32) (r : Int32) (H : Heap) (locs : List Loc) (ls : Array Slot), mG_edgesInside N nr n 1 [x1, x2, x3] = some r → va_P D vwCl (wG q cA N nr) H → va_D A (wG q cA N nr) → va_S A s.heap H locs → lv_has ls 4 [(0, .ref (q 10)), (1, .int x1), (2, .int x2), (3, .int x3)] → W p l e ({ frames := 1, cells := 0, slots := 0, locals := 21 }) s m ([.ref (q 10), .int a1] : List Value).toArray below meth c H locs 0 0 (MQ below (kQi D cA kT A (wG q cA N nr) r) ([.ref (q 10), .int a1] : List Value).toArray s 0 0 A) (F0 m 4 ls [])) := by
    intro n
    induction n with
    | zero => exact ⟨(by intros; rename_i h _ _ _ _; rw [mG_edgesInside_z] at h; cases h), (by intros; rename_i h _ _ _ _; rw [mG_edgesInside_z] at h; cases h)⟩
    | succ n ih =>
      obtain ⟨ih0, ih1⟩ := ih
      refine ⟨?_, ?_⟩
      · intro x1 r H locs ls hm hP hD hS hl
        rw [mG_edgesInside_e0] at hm
        refine lv_iconst (v := 0) hx hb dXG_edgesInside_0 (by decide) ?_
        refine lv_istore_n (lv' := [(2, .int 0), (0, .ref (q 10)), (1, .int x1)]) hx hb dXG_edgesInside_1 rfl hl (by decide) rfl (fun ls hl => ?_)
        refine lv_iconst (v := 0) hx hb dXG_edgesInside_2 (by decide) ?_
        refine lv_istore_n (lv' := [(3, .int 0), (2, .int 0), (0, .ref (q 10)), (1, .int x1)]) hx hb dXG_edgesInside_3 rfl hl (by decide) rfl (fun ls hl => ?_)
        exact ih1 x1 0 0 _ H locs ls hm hP hD hS (lv_sub hl [2, 3, 1, 0] rfl)
      · intro x1 x2 x3 r H locs ls hm hP hD hS hl
        rw [mG_edgesInside_e1] at hm
        refine lv_iload_n hx hb dXG_edgesInside_4 rfl (lv_at hl 3 rfl) ?_
        refine lv_aload_n hx hb dXG_edgesInside_5 rfl (lv_at hl 0 rfl) ?_
        refine va_get (D := D) (ci := 2) (v := .int (nI N)) (C := RXG) (T := TXG) (N := 2) hx hb hts hinXG hown hK hP 0 rfl rfl 0 (by decide) (hts _ wd_58) (fun _ h9 => h9) rfl dXG_edgesInside_6 ?_
        refine lv_icmp_ge (tgt := 40) hx hb dXG_edgesInside_9 (by decide) (fun c111 => ?_) (fun c111 => ?_)
        · rw [if_pos c111] at hm
          refine lv_iload_n hx hb dXG_edgesInside_40 rfl (lv_at hl 2 rfl) ?_
          refine lv_iconst (v := 2) hx hb dXG_edgesInside_41 (by decide) ?_
          refine lv_idiv hx hb dXG_edgesInside_42 (by decide) ?_
          cases hm
          exact k_iret hx hb hr hlocks hK hP hD hS trivial dXG_edgesInside_43
        · rw [if_neg c111] at hm
          refine lv_iload_n hx hb dXG_edgesInside_12 rfl (lv_at hl 1 rfl) ?_
          refine lv_iload_n hx hb dXG_edgesInside_13 rfl (lv_at hl 3 rfl) ?_
          obtain ⟨r112, hm112, hm⟩ := kb_s hm
          refine k_n0 (As := [.int x1, .int x3]) (rest := []) ⟨hx, hb, hml, hown, hts⟩ (cF_contains l D cA H.size x1 x3 n r112 hm112) ⟨va_cnB 2 hts (gC wd_153) rfl rfl rfl hN.1 (hts _ wd_36) (by decide +kernel) ⟨Nat.le_of_ble_eq_true rfl, Nat.le_of_ble_eq_true rfl⟩, hts _ wd_152, trivial⟩ hK hN hP hD hS hA rfl hl.1 rfl (Nat.le_of_ble_eq_true rfl) dXG_edgesInside_14 ⟨Nat.le_of_ble_eq_true rfl, Nat.le_of_ble_eq_true rfl⟩ (fun hz112 H locs hP hD hS => ?_)
          refine lv_if_eq (tgt := 34) hx hb dXG_edgesInside_17 (by decide) (fun c113 => ?_) (fun c113 => ?_)
          · rw [if_pos c113] at hm
            refine lv_iinc (v := (x3 + 1)) (lv' := [(3, .int (x3 + 1)), (0, .ref (q 10)), (1, .int x1), (2, .int x2)]) hx hb dXG_edgesInside_34 hl (k := 3) rfl rfl (by decide) rfl (fun ls hl => ?_)
            refine lv_goto (tgt := 4) hx hb dXG_edgesInside_37 (by decide) ?_
            exact ih1 x1 x2 (x3 + 1) _ H locs ls hm hP hD hS (lv_sub hl [1, 2, 3, 0] rfl)
          · rw [if_neg c113] at hm
            refine lv_iload_n hx hb dXG_edgesInside_20 rfl (lv_at hl 2 rfl) ?_
            refine lv_aload_n hx hb dXG_edgesInside_21 rfl (lv_at hl 0 rfl) ?_
            refine va_get (D := D) (ci := 2) (v := .ref (q 11)) (C := RXG) (T := TXG) (N := 2) hx hb hts hinXG hown hK hP 0 rfl rfl 1 (by decide) (hts _ wd_59) (fun _ h9 => h9) rfl dXG_edgesInside_22 ?_
            refine lv_iload_n hx hb dXG_edgesInside_25 rfl (lv_at hl 3 rfl) ?_
            obtain ⟨hg114, hm⟩ := kg_s hm
            refine va_iald hx hb hK hP 1 0 rfl rfl hg114 dXG_edgesInside_26 ?_
            refine lv_iload_n hx hb dXG_edgesInside_27 rfl (lv_at hl 1 rfl) ?_
            refine lv_iand hx hb dXG_edgesInside_28 ?_
            obtain ⟨r115, hm115, hm⟩ := kb_s hm
            refine k_s0 (As := [.int ((nr x3.toNatClampNeg) &&& x1)]) (rest := [.int x2]) ⟨hx, hb, hml, hown, hts⟩ (cJ_bitCount l D cA H.size ((nr x3.toNatClampNeg) &&& x1) n r115 hm115) ⟨callB_of 1 hts (gC wd_195) rfl rfl rfl (hts _ wd_42) (hts _ wd_343) (by decide +kernel) ⟨Nat.le_of_ble_eq_true rfl, Nat.le_of_ble_eq_true rfl⟩, hts _ wd_194⟩ hK hN hP hD hS hA rfl hl.1 rfl (Nat.le_of_ble_eq_true rfl) dXG_edgesInside_29 ⟨Nat.le_of_ble_eq_true rfl, Nat.le_of_ble_eq_true rfl⟩ (fun hz115 H locs hP hD hS => ?_)
            refine lv_iadd hx hb dXG_edgesInside_32 ?_
            refine lv_topi (fun x2_116 ex2_116 => ?_)
            have hm := kl_s ex2_116 hm
            refine lv_istore_n (lv' := [(2, .int x2_116), (0, .ref (q 10)), (1, .int x1), (3, .int x3)]) hx hb dXG_edgesInside_33 rfl hl (by decide) rfl (fun ls hl => ?_)
            refine lv_iinc (v := (x3 + 1)) (lv' := [(3, .int (x3 + 1)), (2, .int x2_116), (0, .ref (q 10)), (1, .int x1)]) hx hb dXG_edgesInside_34 hl (k := 3) rfl rfl (by decide) rfl (fun ls hl => ?_)
            refine lv_goto (tgt := 4) hx hb dXG_edgesInside_37 (by decide) ?_
            exact ih1 x1 x2_116 (x3 + 1) _ H locs ls hm hP hD hS (lv_sub hl [2, 3, 1, 0] rfl)
  exact (key n).1 a1 r s.heap [] ls hm hP hD va_S.rf hl
set_option maxHeartbeats 4000000 in
set_option maxRecDepth 100000 in
theorem cF_obstacleKind (l : Launch) (D : va_G) (cA : ClassId) (sz : Nat) (a0 a1 : Int32) (n : Nat) (r : Int32) (hm : mF_obstacleKind n 0 [a0, a1] = some r) : Met l yXF_obstacleKind wsXF_obstacleKind ({ frames := 0, cells := 0, slots := 0, locals := 0 }) (kPc D cA [.int a0, .int a1] [] sz) (kQi D cA kT (va_A [] sz) [] r) 0 0 (va_A [] sz) := by
  refine k_met (D := D) (cA := cA) (w := []) (sz := sz) (av := [.int a0, .int a1]) (cc := cXF_obstacleKind) (maxL := 2) (ret := (some .int)) (Qc := fun A => kQi D cA kT A [] r) (by decide) rfl (Nat.le_of_ble_eq_true rfl) ?_
  intro p e s m below meth c A ls hX hK hN hA hP hD hl
  obtain ⟨hx, hb, hr, hml, hown, hts, hlocks, -⟩ := hX
  have hown : s.vm.findClass RXF = some m.cls := hown
  have hl : lv_has ls 2 [(0, .int a0), (1, .int a1)] := hl
  have hts : ∀ w ∈ W0, w.before _ s = true := fun w h => hts w (List.mem_cons_of_mem _ h)
  have key : ∀ n : Nat, (∀ (x0 x1 : Int32) (r : Int32) (H : Heap) (locs : List Loc) (ls : Array Slot), mF_obstacleKind n 0 [x0, x1] = some r → va_P D vwCl [] H → va_D A [] → va_S A s.heap H locs → lv_has ls 2 [(0, .int x0), (1, .int x1)] → W p l e ({ frames := 0, cells := 0, slots := 0, locals := 0 }) s m ([.int a0, .int a1] : List Value).toArray below meth c H locs 0 0 (MQ below (kQi D cA kT A [] r) ([.int a0, .int a1] : List Value).toArray s 0 0 A) (F0 m 0 ls [])) := by
    intro n
    induction n with
    | zero => exact (by intros; rename_i h _ _ _ _; rw [mF_obstacleKind_z] at h; cases h)
    | succ n ih =>
      have ih0 := ih
      intro x0 x1 r H locs ls hm hP hD hS hl
      rw [mF_obstacleKind_e0] at hm
      refine lv_iload_n hx hb dXF_obstacleKind_0 rfl (lv_at hl 1 rfl) ?_
      refine lv_iload_n hx hb dXF_obstacleKind_1 rfl (lv_at hl 0 rfl) ?_
      refine lv_icmp_ne (tgt := 7) hx hb dXF_obstacleKind_2 (by decide) (fun c11 => ?_) (fun c11 => ?_)
      · rw [if_neg c11] at hm
        refine lv_iload_n hx hb dXF_obstacleKind_7 rfl (lv_at hl 0 rfl) ?_
        refine lv_bipush (v := 6) hx hb dXF_obstacleKind_8 (by decide) ?_
        refine lv_icmp_ne (tgt := 15) hx hb dXF_obstacleKind_10 (by decide) (fun c12 => ?_) (fun c12 => ?_)
        · rw [if_neg c12] at hm
          refine lv_iload_n hx hb dXF_obstacleKind_15 rfl (lv_at hl 1 rfl) ?_
          refine lv_bipush (v := 6) hx hb dXF_obstacleKind_16 (by decide) ?_
          refine lv_icmp_ne (tgt := 25) hx hb dXF_obstacleKind_18 (by decide) (fun c13 => ?_) (fun c13 => ?_)
          · rw [if_neg c13] at hm
            refine lv_iconst (v := 3) hx hb dXF_obstacleKind_25 (by decide) ?_
            cases hm
            exact k_iret hx hb hr hlocks hK hP hD hS trivial dXF_obstacleKind_26
          · rw [if_pos c13] at hm
            refine lv_iconst (v := 2) hx hb dXF_obstacleKind_21 (by decide) ?_
            refine lv_goto (tgt := 26) hx hb dXF_obstacleKind_22 (by decide) ?_
            cases hm
            exact k_iret hx hb hr hlocks hK hP hD hS trivial dXF_obstacleKind_26
        · rw [if_pos c12] at hm
          refine lv_iconst (v := 4) hx hb dXF_obstacleKind_13 (by decide) ?_
          cases hm
          exact k_iret hx hb hr hlocks hK hP hD hS trivial dXF_obstacleKind_14
      · rw [if_pos c11] at hm
        refine lv_iconst (v := 1) hx hb dXF_obstacleKind_5 (by decide) ?_
        cases hm
        exact k_iret hx hb hr hlocks hK hP hD hS trivial dXF_obstacleKind_6
  exact key n a0 a1 r s.heap [] ls hm hP hD va_S.rf hl
