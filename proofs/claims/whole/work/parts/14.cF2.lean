set_option maxHeartbeats 4000000 in
set_option maxRecDepth 100000 in
theorem cF_apart (l : Launch) (D : va_G) (q : Nat → Nat) (cA : ClassId) (N : Nat) (sz : Nat) (nr : Nat → Int32) (ss : Nat → Int32) (sc : Int32) (ns : Nat → Int32) (nc : Int32) (ps : Nat → Int32) (dg : Nat → Int32) (pn : Int32) (pj : Int32) (wh : Int32) (st : Nat → Int32) (sn : Int32) (lf : Int32) (fw : Nat → Int32) (a1 : Int32) (n : Nat) (r : Int32) (st_1 : Nat → Int32) (sn_1 : Int32) (lf_1 : Int32) (hm : mF_apart N nr n 0 [a1] st sn lf = some (r, st_1, sn_1, lf_1)) : Met l yXF_apart wsXF_apart ({ frames := 6, cells := 0, slots := 0, locals := 138 }) (kPc D cA [.ref (q 0), .int a1] (wF q cA N nr ss sc ns nc ps dg pn pj wh st sn lf fw) sz) (kQi D cA kT (va_A (wF q cA N nr ss sc ns nc ps dg pn pj wh st sn lf fw) sz) (wF q cA N nr ss sc ns nc ps dg pn pj wh st_1 sn_1 lf_1 fw) r) 0 0 (va_A (wF q cA N nr ss sc ns nc ps dg pn pj wh st sn lf fw) sz) := by
  refine k_met (D := D) (cA := cA) (w := (wF q cA N nr ss sc ns nc ps dg pn pj wh st sn lf fw)) (sz := sz) (av := [.ref (q 0), .int a1]) (cc := cXF_apart) (maxL := 2) (ret := (some .int)) (Qc := fun A => kQi D cA kT A (wF q cA N nr ss sc ns nc ps dg pn pj wh st_1 sn_1 lf_1 fw) r) (by decide) rfl (Nat.le_of_ble_eq_true rfl) ?_
  intro p e s m below meth c A ls hX hK hN hA hP hD hl
  obtain ⟨hx, hb, hr, hml, hown, hts, hlocks, -⟩ := hX
  have hown : s.vm.findClass RXF = some m.cls := hown
  have hl : lv_has ls 2 [(0, .ref (q 0)), (1, .int a1)] := hl
  have hts : ∀ w ∈ W0, w.before _ s = true := fun w h => hts w (List.mem_cons_of_mem _ h)
  have key : ∀ n : Nat, (∀ (x1 : Int32) (st : Nat → Int32) (sn : Int32) (lf : Int32) (r : Int32) (st_1 : Nat → Int32) (sn_1 : Int32) (lf_1 : Int32) (H : Heap) (locs : List Loc) (ls : Array Slot), mF_apart N nr n 0 [x1] st sn lf = some (r, st_1, sn_1, lf_1) → va_P D vwCl (wF q cA N nr ss sc ns nc ps dg pn pj wh st sn lf fw) H → va_D A (wF q cA N nr ss sc ns nc ps dg pn pj wh st sn lf fw) → va_S A s.heap H locs → lv_has ls 2 [(0, .ref (q 0)), (1, .int x1)] → W p l e ({ frames := 6, cells := 0, slots := 0, locals := 138 }) s m ([.ref (q 0), .int a1] : List Value).toArray below meth c H locs 0 0 (MQ below (kQi D cA kT A (wF q cA N nr ss sc ns nc ps dg pn pj wh st_1 sn_1 lf_1 fw) r) ([.ref (q 0), .int a1] : List Value).toArray s 0 0 A) (F0 m 0 ls [])) := by
    intro n
    induction n with
    | zero => exact (by intros; rename_i h _ _ _ _; rw [mF_apart_z] at h; cases h)
    | succ n ih =>
      have ih0 := ih
      intro x1 st sn lf r st_1 sn_1 lf_1 H locs ls hm hP hD hS hl
      rw [mF_apart_e0] at hm
      refine lv_aload_n hx hb dXF_apart_0 rfl (lv_at hl 0 rfl) ?_
      refine lv_iload_n hx hb dXF_apart_1 rfl (lv_at hl 1 rfl) ?_
      obtain ⟨⟨r11, st_11, sn_11, lf_11⟩, hm11, hm⟩ := kb_s hm
      dsimp only at hm
      refine k_vi (As := [.int x1]) (rest := []) (w2 := (wF q cA N nr ss sc ns nc ps dg pn pj wh st_11 sn_11 lf_11 fw)) ⟨hx, hb, hml, hown, hts⟩ (cF_hereditary l D q cA N H.size nr ss sc ns nc ps dg pn pj wh st sn lf fw x1 n r11 st_11 sn_11 lf_11 hm11) (cwV 1 hts (gV wd_351 wd_294 wd_295 wd_36 wd_296) rfl rfl rfl (by decide +kernel) ⟨Nat.le_of_ble_eq_true rfl, Nat.le_of_ble_eq_true rfl⟩) hK hN hP hD hS hA [0, 1, 2, 3, 4, 5, 6, 7, 8, 9, 10, 11] [] [0, 1, 2, 3, 4, 5, 6, 7, 8, 9, 10, 11] ⟨rfl, rfl, by decide, rfl, by decide, by decide, rfl, rfl, by decide⟩ (va_recv hK hP (ci := 4) (q0 := 0) rfl rfl) rfl hl.1 rfl (Nat.le_of_ble_eq_true rfl) dXF_apart_2 ⟨Nat.le_of_ble_eq_true rfl, Nat.le_of_ble_eq_true rfl⟩ (fun hz11 H locs hP hD hS => ?_)
      refine lv_if_eq (tgt := 26) hx hb dXF_apart_5 (by decide) (fun c12 => ?_) (fun c12 => ?_)
      · rw [if_pos c12] at hm
        refine lv_iconst (v := (-1)) hx hb dXF_apart_26 (by decide) ?_
        cases hm
        exact k_iret hx hb hr hlocks hK hP hD hS trivial dXF_apart_27
      · rw [if_neg c12] at hm
        refine lv_aload_n hx hb dXF_apart_8 rfl (lv_at hl 0 rfl) ?_
        refine va_get (D := D) (ci := 4) (v := .ref (q 1)) (C := RXF) (T := TXF) (N := 4) hx hb hts hinXF hown hK hP 0 rfl rfl 3 (by decide) (hts _ wd_122) (fun _ h9 => h9) rfl dXF_apart_9 ?_
        refine lv_aload_n hx hb dXF_apart_12 rfl (lv_at hl 0 rfl) ?_
        refine lv_iload_n hx hb dXF_apart_13 rfl (lv_at hl 1 rfl) ?_
        obtain ⟨r13, hm13, hm⟩ := kb_s hm
        refine k_vi (As := [.int x1]) (rest := [.ref (q 1)]) (w2 := (wF q cA N nr ss sc ns nc ps dg pn pj wh st_11 sn_11 lf_11 fw)) ⟨hx, hb, hml, hown, hts⟩ (cF_componentOf l D q cA N H.size nr ss sc ns nc ps dg pn pj wh st_11 sn_11 lf_11 fw x1 n r13 hm13) (cwV 1 hts (gV wd_162 wd_163 wd_0 wd_36 wd_164) rfl rfl rfl (by decide +kernel) ⟨Nat.le_of_ble_eq_true rfl, Nat.le_of_ble_eq_true rfl⟩) hK hN hP hD hS hA [0, 1, 2, 3, 4, 5, 6, 7, 8, 9, 10, 11] [] [0, 1, 2, 3, 4, 5, 6, 7, 8, 9, 10, 11] ⟨rfl, rfl, by decide, rfl, by decide, by decide, rfl, rfl, by decide⟩ (va_recv hK hP (ci := 4) (q0 := 0) rfl rfl) rfl hl.1 rfl (Nat.le_of_ble_eq_true rfl) dXF_apart_14 ⟨Nat.le_of_ble_eq_true rfl, Nat.le_of_ble_eq_true rfl⟩ (fun hz13 H locs hP hD hS => ?_)
        obtain ⟨r14, hm14, hm⟩ := kb_s hm
        refine k_vi (As := [.int r13]) (rest := []) (w2 := (wF q cA N nr ss sc ns nc ps dg pn pj wh st_11 sn_11 lf_11 fw)) ⟨hx, hb, hml, hown, hts⟩ (cC_largestApart l D q cA N H.size nr fw r13 n r14 hm14) (cwV 1 hts (gV wd_352 wd_353 wd_354 wd_40 wd_355) rfl rfl rfl (by decide +kernel) ⟨Nat.le_of_ble_eq_true rfl, Nat.le_of_ble_eq_true rfl⟩) hK hN hP hD hS hA [1, 2, 10, 11] [0, 3, 4, 5, 6, 7, 8, 9] [0, 8, 9, 1, 2, 3, 4, 5, 6, 7, 10, 11] ⟨rfl, rfl, by decide, rfl, by decide, by decide, rfl, rfl, by decide⟩ (va_recv hK hP (ci := 0) (q0 := 1) rfl rfl) rfl hl.1 rfl (Nat.le_of_ble_eq_true rfl) dXF_apart_17 ⟨Nat.le_of_ble_eq_true rfl, Nat.le_of_ble_eq_true rfl⟩ (fun hz14 H locs hP hD hS => ?_)
        obtain ⟨r15, hm15, hm⟩ := kb_s hm
        refine k_s0 (As := [.int r14]) (rest := []) ⟨hx, hb, hml, hown, hts⟩ (cJ_bitCount l D cA H.size r14 n r15 hm15) ⟨callB_of 1 hts (gC wd_195) rfl rfl rfl (hts _ wd_42) (hts _ wd_338) (by decide +kernel) ⟨Nat.le_of_ble_eq_true rfl, Nat.le_of_ble_eq_true rfl⟩, hts _ wd_194⟩ hK hN hP hD hS hA rfl hl.1 rfl (Nat.le_of_ble_eq_true rfl) dXF_apart_20 ⟨Nat.le_of_ble_eq_true rfl, Nat.le_of_ble_eq_true rfl⟩ (fun hz15 H locs hP hD hS => ?_)
        refine lv_goto (tgt := 27) hx hb dXF_apart_23 (by decide) ?_
        cases hm
        exact k_iret hx hb hr hlocks hK hP hD hS trivial dXF_apart_27
  exact key n a1 st sn lf r st_1 sn_1 lf_1 s.heap [] ls hm hP hD va_S.rf hl
set_option maxHeartbeats 4000000 in
set_option maxRecDepth 100000 in
theorem cF_chosen (l : Launch) (D : va_G) (q : Nat → Nat) (cA : ClassId) (N : Nat) (sz : Nat) (nr : Nat → Int32) (ss : Nat → Int32) (sc : Int32) (ns : Nat → Int32) (nc : Int32) (ps : Nat → Int32) (dg : Nat → Int32) (pn : Int32) (pj : Int32) (wh : Int32) (st : Nat → Int32) (sn : Int32) (lf : Int32) (fw : Nat → Int32) (a1 : Int32) (n : Nat) (r : Int32) (st_1 : Nat → Int32) (sn_1 : Int32) (lf_1 : Int32) (hm : mF_chosen N nr n 0 [a1] st sn lf = some (r, st_1, sn_1, lf_1)) : Met l yXF_chosen wsXF_chosen ({ frames := 6, cells := 0, slots := 0, locals := 138 }) (kPc D cA [.ref (q 0), .int a1] (wF q cA N nr ss sc ns nc ps dg pn pj wh st sn lf fw) sz) (kQi D cA kT (va_A (wF q cA N nr ss sc ns nc ps dg pn pj wh st sn lf fw) sz) (wF q cA N nr ss sc ns nc ps dg pn pj wh st_1 sn_1 lf_1 fw) r) 0 0 (va_A (wF q cA N nr ss sc ns nc ps dg pn pj wh st sn lf fw) sz) := by
  refine k_met (D := D) (cA := cA) (w := (wF q cA N nr ss sc ns nc ps dg pn pj wh st sn lf fw)) (sz := sz) (av := [.ref (q 0), .int a1]) (cc := cXF_chosen) (maxL := 2) (ret := (some .int)) (Qc := fun A => kQi D cA kT A (wF q cA N nr ss sc ns nc ps dg pn pj wh st_1 sn_1 lf_1 fw) r) (by decide) rfl (Nat.le_of_ble_eq_true rfl) ?_
  intro p e s m below meth c A ls hX hK hN hA hP hD hl
  obtain ⟨hx, hb, hr, hml, hown, hts, hlocks, -⟩ := hX
  have hown : s.vm.findClass RXF = some m.cls := hown
  have hl : lv_has ls 2 [(0, .ref (q 0)), (1, .int a1)] := hl
  have hts : ∀ w ∈ W0, w.before _ s = true := fun w h => hts w (List.mem_cons_of_mem _ h)
  have key : ∀ n : Nat, (∀ (x1 : Int32) (st : Nat → Int32) (sn : Int32) (lf : Int32) (r : Int32) (st_1 : Nat → Int32) (sn_1 : Int32) (lf_1 : Int32) (H : Heap) (locs : List Loc) (ls : Array Slot), mF_chosen N nr n 0 [x1] st sn lf = some (r, st_1, sn_1, lf_1) → va_P D vwCl (wF q cA N nr ss sc ns nc ps dg pn pj wh st sn lf fw) H → va_D A (wF q cA N nr ss sc ns nc ps dg pn pj wh st sn lf fw) → va_S A s.heap H locs → lv_has ls 2 [(0, .ref (q 0)), (1, .int x1)] → W p l e ({ frames := 6, cells := 0, slots := 0, locals := 138 }) s m ([.ref (q 0), .int a1] : List Value).toArray below meth c H locs 0 0 (MQ below (kQi D cA kT A (wF q cA N nr ss sc ns nc ps dg pn pj wh st_1 sn_1 lf_1 fw) r) ([.ref (q 0), .int a1] : List Value).toArray s 0 0 A) (F0 m 0 ls [])) := by
    intro n
    induction n with
    | zero => exact (by intros; rename_i h _ _ _ _; rw [mF_chosen_z] at h; cases h)
    | succ n ih =>
      have ih0 := ih
      intro x1 st sn lf r st_1 sn_1 lf_1 H locs ls hm hP hD hS hl
      rw [mF_chosen_e0] at hm
      refine lv_aload_n hx hb dXF_chosen_0 rfl (lv_at hl 0 rfl) ?_
      refine lv_iload_n hx hb dXF_chosen_1 rfl (lv_at hl 1 rfl) ?_
      obtain ⟨⟨r11, st_11, sn_11, lf_11⟩, hm11, hm⟩ := kb_s hm
      dsimp only at hm
      refine k_vi (As := [.int x1]) (rest := []) (w2 := (wF q cA N nr ss sc ns nc ps dg pn pj wh st_11 sn_11 lf_11 fw)) ⟨hx, hb, hml, hown, hts⟩ (cF_hereditary l D q cA N H.size nr ss sc ns nc ps dg pn pj wh st sn lf fw x1 n r11 st_11 sn_11 lf_11 hm11) (cwV 1 hts (gV wd_351 wd_294 wd_295 wd_36 wd_296) rfl rfl rfl (by decide +kernel) ⟨Nat.le_of_ble_eq_true rfl, Nat.le_of_ble_eq_true rfl⟩) hK hN hP hD hS hA [0, 1, 2, 3, 4, 5, 6, 7, 8, 9, 10, 11] [] [0, 1, 2, 3, 4, 5, 6, 7, 8, 9, 10, 11] ⟨rfl, rfl, by decide, rfl, by decide, by decide, rfl, rfl, by decide⟩ (va_recv hK hP (ci := 4) (q0 := 0) rfl rfl) rfl hl.1 rfl (Nat.le_of_ble_eq_true rfl) dXF_chosen_2 ⟨Nat.le_of_ble_eq_true rfl, Nat.le_of_ble_eq_true rfl⟩ (fun hz11 H locs hP hD hS => ?_)
      refine lv_if_eq (tgt := 23) hx hb dXF_chosen_5 (by decide) (fun c12 => ?_) (fun c12 => ?_)
      · rw [if_pos c12] at hm
        refine lv_iconst (v := (-1)) hx hb dXF_chosen_23 (by decide) ?_
        cases hm
        exact k_iret hx hb hr hlocks hK hP hD hS trivial dXF_chosen_24
      · rw [if_neg c12] at hm
        refine lv_aload_n hx hb dXF_chosen_8 rfl (lv_at hl 0 rfl) ?_
        refine va_get (D := D) (ci := 4) (v := .ref (q 1)) (C := RXF) (T := TXF) (N := 4) hx hb hts hinXF hown hK hP 0 rfl rfl 3 (by decide) (hts _ wd_122) (fun _ h9 => h9) rfl dXF_chosen_9 ?_
        refine lv_aload_n hx hb dXF_chosen_12 rfl (lv_at hl 0 rfl) ?_
        refine lv_iload_n hx hb dXF_chosen_13 rfl (lv_at hl 1 rfl) ?_
        obtain ⟨r13, hm13, hm⟩ := kb_s hm
        refine k_vi (As := [.int x1]) (rest := [.ref (q 1)]) (w2 := (wF q cA N nr ss sc ns nc ps dg pn pj wh st_11 sn_11 lf_11 fw)) ⟨hx, hb, hml, hown, hts⟩ (cF_componentOf l D q cA N H.size nr ss sc ns nc ps dg pn pj wh st_11 sn_11 lf_11 fw x1 n r13 hm13) (cwV 1 hts (gV wd_162 wd_163 wd_0 wd_36 wd_164) rfl rfl rfl (by decide +kernel) ⟨Nat.le_of_ble_eq_true rfl, Nat.le_of_ble_eq_true rfl⟩) hK hN hP hD hS hA [0, 1, 2, 3, 4, 5, 6, 7, 8, 9, 10, 11] [] [0, 1, 2, 3, 4, 5, 6, 7, 8, 9, 10, 11] ⟨rfl, rfl, by decide, rfl, by decide, by decide, rfl, rfl, by decide⟩ (va_recv hK hP (ci := 4) (q0 := 0) rfl rfl) rfl hl.1 rfl (Nat.le_of_ble_eq_true rfl) dXF_chosen_14 ⟨Nat.le_of_ble_eq_true rfl, Nat.le_of_ble_eq_true rfl⟩ (fun hz13 H locs hP hD hS => ?_)
        obtain ⟨r14, hm14, hm⟩ := kb_s hm
        refine k_vi (As := [.int r13]) (rest := []) (w2 := (wF q cA N nr ss sc ns nc ps dg pn pj wh st_11 sn_11 lf_11 fw)) ⟨hx, hb, hml, hown, hts⟩ (cC_largestApart l D q cA N H.size nr fw r13 n r14 hm14) (cwV 1 hts (gV wd_352 wd_353 wd_354 wd_40 wd_355) rfl rfl rfl (by decide +kernel) ⟨Nat.le_of_ble_eq_true rfl, Nat.le_of_ble_eq_true rfl⟩) hK hN hP hD hS hA [1, 2, 10, 11] [0, 3, 4, 5, 6, 7, 8, 9] [0, 8, 9, 1, 2, 3, 4, 5, 6, 7, 10, 11] ⟨rfl, rfl, by decide, rfl, by decide, by decide, rfl, rfl, by decide⟩ (va_recv hK hP (ci := 0) (q0 := 1) rfl rfl) rfl hl.1 rfl (Nat.le_of_ble_eq_true rfl) dXF_chosen_17 ⟨Nat.le_of_ble_eq_true rfl, Nat.le_of_ble_eq_true rfl⟩ (fun hz14 H locs hP hD hS => ?_)
        refine lv_goto (tgt := 24) hx hb dXF_chosen_20 (by decide) ?_
        cases hm
        exact k_iret hx hb hr hlocks hK hP hD hS trivial dXF_chosen_24
  exact key n a1 st sn lf r st_1 sn_1 lf_1 s.heap [] ls hm hP hD va_S.rf hl
set_option maxHeartbeats 4000000 in
set_option maxRecDepth 100000 in
theorem cF_cover (l : Launch) (D : va_G) (q : Nat → Nat) (cA : ClassId) (N : Nat) (sz : Nat) (nr : Nat → Int32) (ss : Nat → Int32) (sc : Int32) (ns : Nat → Int32) (nc : Int32) (ps : Nat → Int32) (dg : Nat → Int32) (pn : Int32) (pj : Int32) (wh : Int32) (st : Nat → Int32) (sn : Int32) (lf : Int32) (fw : Nat → Int32) (a1 : Int32) (n : Nat) (r : Int32) (st_1 : Nat → Int32) (sn_1 : Int32) (lf_1 : Int32) (fw_1 : Nat → Int32) (hm : mF_cover N nr n 0 [a1] st sn lf fw = some (r, st_1, sn_1, lf_1, fw_1)) : Met l yXF_cover wsXF_cover ({ frames := 6, cells := 0, slots := 0, locals := 138 }) (kPc D cA [.ref (q 0), .int a1] (wF q cA N nr ss sc ns nc ps dg pn pj wh st sn lf fw) sz) (kQi D cA kT (va_A (wF q cA N nr ss sc ns nc ps dg pn pj wh st sn lf fw) sz) (wF q cA N nr ss sc ns nc ps dg pn pj wh st_1 sn_1 lf_1 fw_1) r) 0 0 (va_A (wF q cA N nr ss sc ns nc ps dg pn pj wh st sn lf fw) sz) := by
  refine k_met (D := D) (cA := cA) (w := (wF q cA N nr ss sc ns nc ps dg pn pj wh st sn lf fw)) (sz := sz) (av := [.ref (q 0), .int a1]) (cc := cXF_cover) (maxL := 2) (ret := (some .int)) (Qc := fun A => kQi D cA kT A (wF q cA N nr ss sc ns nc ps dg pn pj wh st_1 sn_1 lf_1 fw_1) r) (by decide) rfl (Nat.le_of_ble_eq_true rfl) ?_
  intro p e s m below meth c A ls hX hK hN hA hP hD hl
  obtain ⟨hx, hb, hr, hml, hown, hts, hlocks, -⟩ := hX
  have hown : s.vm.findClass RXF = some m.cls := hown
  have hl : lv_has ls 2 [(0, .ref (q 0)), (1, .int a1)] := hl
  have hts : ∀ w ∈ W0, w.before _ s = true := fun w h => hts w (List.mem_cons_of_mem _ h)
  have key : ∀ n : Nat, (∀ (x1 : Int32) (st : Nat → Int32) (sn : Int32) (lf : Int32) (fw : Nat → Int32) (r : Int32) (st_1 : Nat → Int32) (sn_1 : Int32) (lf_1 : Int32) (fw_1 : Nat → Int32) (H : Heap) (locs : List Loc) (ls : Array Slot), mF_cover N nr n 0 [x1] st sn lf fw = some (r, st_1, sn_1, lf_1, fw_1) → va_P D vwCl (wF q cA N nr ss sc ns nc ps dg pn pj wh st sn lf fw) H → va_D A (wF q cA N nr ss sc ns nc ps dg pn pj wh st sn lf fw) → va_S A s.heap H locs → lv_has ls 2 [(0, .ref (q 0)), (1, .int x1)] → W p l e ({ frames := 6, cells := 0, slots := 0, locals := 138 }) s m ([.ref (q 0), .int a1] : List Value).toArray below meth c H locs 0 0 (MQ below (kQi D cA kT A (wF q cA N nr ss sc ns nc ps dg pn pj wh st_1 sn_1 lf_1 fw_1) r) ([.ref (q 0), .int a1] : List Value).toArray s 0 0 A) (F0 m 0 ls [])) := by
    intro n
    induction n with
    | zero => exact (by intros; rename_i h _ _ _ _; rw [mF_cover_z] at h; cases h)
    | succ n ih =>
      have ih0 := ih
      intro x1 st sn lf fw r st_1 sn_1 lf_1 fw_1 H locs ls hm hP hD hS hl
      rw [mF_cover_e0] at hm
      refine lv_aload_n hx hb dXF_cover_0 rfl (lv_at hl 0 rfl) ?_
      refine lv_iload_n hx hb dXF_cover_1 rfl (lv_at hl 1 rfl) ?_
      obtain ⟨⟨r11, st_11, sn_11, lf_11⟩, hm11, hm⟩ := kb_s hm
      dsimp only at hm
      refine k_vi (As := [.int x1]) (rest := []) (w2 := (wF q cA N nr ss sc ns nc ps dg pn pj wh st_11 sn_11 lf_11 fw)) ⟨hx, hb, hml, hown, hts⟩ (cF_hereditary l D q cA N H.size nr ss sc ns nc ps dg pn pj wh st sn lf fw x1 n r11 st_11 sn_11 lf_11 hm11) (cwV 1 hts (gV wd_351 wd_294 wd_295 wd_36 wd_296) rfl rfl rfl (by decide +kernel) ⟨Nat.le_of_ble_eq_true rfl, Nat.le_of_ble_eq_true rfl⟩) hK hN hP hD hS hA [0, 1, 2, 3, 4, 5, 6, 7, 8, 9, 10, 11] [] [0, 1, 2, 3, 4, 5, 6, 7, 8, 9, 10, 11] ⟨rfl, rfl, by decide, rfl, by decide, by decide, rfl, rfl, by decide⟩ (va_recv hK hP (ci := 4) (q0 := 0) rfl rfl) rfl hl.1 rfl (Nat.le_of_ble_eq_true rfl) dXF_cover_2 ⟨Nat.le_of_ble_eq_true rfl, Nat.le_of_ble_eq_true rfl⟩ (fun hz11 H locs hP hD hS => ?_)
      refine lv_if_eq (tgt := 23) hx hb dXF_cover_5 (by decide) (fun c12 => ?_) (fun c12 => ?_)
      · rw [if_pos c12] at hm
        refine lv_iconst (v := (-1)) hx hb dXF_cover_23 (by decide) ?_
        cases hm
        exact k_iret hx hb hr hlocks hK hP hD hS trivial dXF_cover_24
      · rw [if_neg c12] at hm
        refine lv_aload_n hx hb dXF_cover_8 rfl (lv_at hl 0 rfl) ?_
        refine va_get (D := D) (ci := 4) (v := .ref (q 1)) (C := RXF) (T := TXF) (N := 4) hx hb hts hinXF hown hK hP 0 rfl rfl 3 (by decide) (hts _ wd_122) (fun _ h9 => h9) rfl dXF_cover_9 ?_
        refine lv_aload_n hx hb dXF_cover_12 rfl (lv_at hl 0 rfl) ?_
        refine lv_iload_n hx hb dXF_cover_13 rfl (lv_at hl 1 rfl) ?_
        obtain ⟨r13, hm13, hm⟩ := kb_s hm
        refine k_vi (As := [.int x1]) (rest := [.ref (q 1)]) (w2 := (wF q cA N nr ss sc ns nc ps dg pn pj wh st_11 sn_11 lf_11 fw)) ⟨hx, hb, hml, hown, hts⟩ (cF_componentOf l D q cA N H.size nr ss sc ns nc ps dg pn pj wh st_11 sn_11 lf_11 fw x1 n r13 hm13) (cwV 1 hts (gV wd_162 wd_163 wd_0 wd_36 wd_164) rfl rfl rfl (by decide +kernel) ⟨Nat.le_of_ble_eq_true rfl, Nat.le_of_ble_eq_true rfl⟩) hK hN hP hD hS hA [0, 1, 2, 3, 4, 5, 6, 7, 8, 9, 10, 11] [] [0, 1, 2, 3, 4, 5, 6, 7, 8, 9, 10, 11] ⟨rfl, rfl, by decide, rfl, by decide, by decide, rfl, rfl, by decide⟩ (va_recv hK hP (ci := 4) (q0 := 0) rfl rfl) rfl hl.1 rfl (Nat.le_of_ble_eq_true rfl) dXF_cover_14 ⟨Nat.le_of_ble_eq_true rfl, Nat.le_of_ble_eq_true rfl⟩ (fun hz13 H locs hP hD hS => ?_)
        obtain ⟨⟨r14, fw_14⟩, hm14, hm⟩ := kb_s hm
        dsimp only at hm
        refine k_vi (As := [.int r13]) (rest := []) (w2 := (wF q cA N nr ss sc ns nc ps dg pn pj wh st_11 sn_11 lf_11 fw_14)) ⟨hx, hb, hml, hown, hts⟩ (cC_fewestCliques l D q cA N H.size nr fw r13 n r14 fw_14 hm14) (cwV 1 hts (gV wd_366 wd_367 wd_368 wd_40 wd_369) rfl rfl rfl (by decide +kernel) ⟨Nat.le_of_ble_eq_true rfl, Nat.le_of_ble_eq_true rfl⟩) hK hN hP hD hS hA [1, 2, 10, 11] [0, 3, 4, 5, 6, 7, 8, 9] [0, 8, 9, 1, 2, 3, 4, 5, 6, 7, 10, 11] ⟨rfl, rfl, by decide, rfl, by decide, by decide, rfl, rfl, by decide⟩ (va_recv hK hP (ci := 0) (q0 := 1) rfl rfl) rfl hl.1 rfl (Nat.le_of_ble_eq_true rfl) dXF_cover_17 ⟨Nat.le_of_ble_eq_true rfl, Nat.le_of_ble_eq_true rfl⟩ (fun hz14 H locs hP hD hS => ?_)
        refine lv_goto (tgt := 24) hx hb dXF_cover_20 (by decide) ?_
        cases hm
        exact k_iret hx hb hr hlocks hK hP hD hS trivial dXF_cover_24
  exact key n a1 st sn lf fw r st_1 sn_1 lf_1 fw_1 s.heap [] ls hm hP hD va_S.rf hl
