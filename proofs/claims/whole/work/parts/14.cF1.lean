set_option maxHeartbeats 4000000 in
set_option maxRecDepth 100000 in
theorem cF_kind (l : Launch) (D : va_G) (q : Nat → Nat) (cA : ClassId) (N : Nat) (sz : Nat) (nr : Nat → Int32) (ss : Nat → Int32) (sc : Int32) (ns : Nat → Int32) (nc : Int32) (ps : Nat → Int32) (dg : Nat → Int32) (pn : Int32) (pj : Int32) (wh : Int32) (st : Nat → Int32) (sn : Int32) (lf : Int32) (fw : Nat → Int32) (a1 a2 : Int32) (n : Nat) (r : Int32) (ss_1 : Nat → Int32) (sc_1 : Int32) (ns_1 : Nat → Int32) (nc_1 : Int32) (ps_1 : Nat → Int32) (dg_1 : Nat → Int32) (pn_1 : Int32) (pj_1 : Int32) (wh_1 : Int32) (hm : mF_kind N nr n 0 [a1, a2] ss sc ns nc ps dg pn pj wh = some (r, ss_1, sc_1, ns_1, nc_1, ps_1, dg_1, pn_1, pj_1, wh_1)) : Met l yXF_kind wsXF_kind ({ frames := 6, cells := 0, slots := 0, locals := 134 }) (kPc D cA [.ref (q 0), .int a1, .int a2] (wF q cA N nr ss sc ns nc ps dg pn pj wh st sn lf fw) sz) (kQi D cA kT (va_A (wF q cA N nr ss sc ns nc ps dg pn pj wh st sn lf fw) sz) (wF q cA N nr ss_1 sc_1 ns_1 nc_1 ps_1 dg_1 pn_1 pj_1 wh_1 st sn lf fw) r) 0 0 (va_A (wF q cA N nr ss sc ns nc ps dg pn pj wh st sn lf fw) sz) := by
  refine k_met (D := D) (cA := cA) (w := (wF q cA N nr ss sc ns nc ps dg pn pj wh st sn lf fw)) (sz := sz) (av := [.ref (q 0), .int a1, .int a2]) (cc := cXF_kind) (maxL := 3) (ret := (some .int)) (Qc := fun A => kQi D cA kT A (wF q cA N nr ss_1 sc_1 ns_1 nc_1 ps_1 dg_1 pn_1 pj_1 wh_1 st sn lf fw) r) (by decide) rfl (Nat.le_of_ble_eq_true rfl) ?_
  intro p e s m below meth c A ls hX hK hN hA hP hD hl
  obtain ⟨hx, hb, hr, hml, hown, hts, hlocks, -⟩ := hX
  have hown : s.vm.findClass RXF = some m.cls := hown
  have hl : lv_has ls 3 [(0, .ref (q 0)), (1, .int a1), (2, .int a2)] := hl
  have hts : ∀ w ∈ W0, w.before _ s = true := fun w h => hts w (List.mem_cons_of_mem _ h)
  have key : ∀ n : Nat, (∀ (x1 x2 : Int32) (ss : Nat → Int32) (sc : Int32) (ns : Nat → Int32) (nc : Int32) (ps : Nat → Int32) (dg : Nat → Int32) (pn : Int32) (pj : Int32) (wh : Int32) (r : Int32) (ss_1 : Nat → Int32) (sc_1 : Int32) (ns_1 : Nat → Int32) (nc_1 : Int32) (ps_1 : Nat → Int32) (dg_1 : Nat → Int32) (pn_1 : Int32) (pj_1 : Int32) (wh_1 : Int32) (H : Heap) (locs : List Loc) (ls : Array Slot), mF_kind N nr n 0 [x1, x2] ss sc ns nc ps dg pn pj wh = some (r, ss_1, sc_1, ns_1, nc_1, ps_1, dg_1, pn_1, pj_1, wh_1) → va_P D vwCl (wF q cA N nr ss sc ns nc ps dg pn pj wh st sn lf fw) H → va_D A (wF q cA N nr ss sc ns nc ps dg pn pj wh st sn lf fw) → va_S A s.heap H locs → lv_has ls 3 [(0, .ref (q 0)), (1, .int x1), (2, .int x2)] → W p l e ({ frames := 6, cells := 0, slots := 0, locals := 134 }) s m ([.ref (q 0), .int a1, .int a2] : List Value).toArray below meth c H locs 0 0 (MQ below (kQi D cA kT A (wF q cA N nr ss_1 sc_1 ns_1 nc_1 ps_1 dg_1 pn_1 pj_1 wh_1 st sn lf fw) r) ([.ref (q 0), .int a1, .int a2] : List Value).toArray s 0 0 A) (F0 m 0 ls [])) := by
    intro n
    induction n with
    | zero => exact (by intros; rename_i h _ _ _ _; rw [mF_kind_z] at h; cases h)
    | succ n ih =>
      have ih0 := ih
      intro x1 x2 ss sc ns nc ps dg pn pj wh r ss_1 sc_1 ns_1 nc_1 ps_1 dg_1 pn_1 pj_1 wh_1 H locs ls hm hP hD hS hl
      rw [mF_kind_e0] at hm
      refine lv_aload_n hx hb dXF_kind_0 rfl (lv_at hl 0 rfl) ?_
      refine lv_iload_n hx hb dXF_kind_1 rfl (lv_at hl 1 rfl) ?_
      refine lv_iload_n hx hb dXF_kind_2 rfl (lv_at hl 2 rfl) ?_
      obtain ⟨⟨r11, ss_11, sc_11, ns_11, nc_11, wh_11⟩, hm11, hm⟩ := kb_s hm
      dsimp only at hm
      refine k_vi (As := [.int x1, .int x2]) (rest := []) (w2 := (wF q cA N nr ss_11 sc_11 ns_11 nc_11 ps dg pn pj wh_11 st sn lf fw)) ⟨hx, hb, hml, hown, hts⟩ (cF_hasNode l D q cA N H.size nr ss sc ns nc ps dg pn pj wh st sn lf fw x1 x2 n r11 ss_11 sc_11 ns_11 nc_11 wh_11 hm11) (cwV 2 hts (gV wd_225 wd_226 wd_7 wd_36 wd_227) rfl rfl rfl (by decide +kernel) ⟨Nat.le_of_ble_eq_true rfl, Nat.le_of_ble_eq_true rfl⟩) hK hN hP hD hS hA [0, 1, 2, 3, 4, 5, 6, 7, 8, 9, 10, 11] [] [0, 1, 2, 3, 4, 5, 6, 7, 8, 9, 10, 11] ⟨rfl, rfl, by decide, rfl, by decide, by decide, rfl, rfl, by decide⟩ (va_recv hK hP (ci := 4) (q0 := 0) rfl rfl) rfl hl.1 rfl (Nat.le_of_ble_eq_true rfl) dXF_kind_3 ⟨Nat.le_of_ble_eq_true rfl, Nat.le_of_ble_eq_true rfl⟩ (fun hz11 H locs hP hD hS => ?_)
      refine lv_if_eq (tgt := 20) hx hb dXF_kind_6 (by decide) (fun c12 => ?_) (fun c12 => ?_)
      · rw [if_pos c12] at hm
        refine lv_iconst (v := (-1)) hx hb dXF_kind_20 (by decide) ?_
        cases hm
        exact k_iret hx hb hr hlocks hK hP hD hS trivial dXF_kind_21
      · rw [if_neg c12] at hm
        refine lv_aload_n hx hb dXF_kind_9 rfl (lv_at hl 0 rfl) ?_
        refine va_get (D := D) (ci := 4) (v := .ref (q 5)) (C := RXF) (T := TXF) (N := 4) hx hb hts hinXF hown hK hP 0 rfl rfl 1 (by decide) (hts _ wd_120) (fun _ h9 => h9) rfl dXF_kind_10 ?_
        refine lv_iload_n hx hb dXF_kind_13 rfl (lv_at hl 2 rfl) ?_
        obtain ⟨⟨r13, ps_13, dg_13, pn_13, pj_13⟩, hm13, hm⟩ := kb_s hm
        dsimp only at hm
        refine k_vi (As := [.int x2]) (rest := []) (w2 := (wF q cA N nr ss_11 sc_11 ns_11 nc_11 ps_13 dg_13 pn_13 pj_13 wh_11 st sn lf fw)) ⟨hx, hb, hml, hown, hts⟩ (cT_nodeKind l D q cA N H.size nr ss_11 sc_11 ns_11 nc_11 ps dg pn pj wh_11 x2 n r13 ps_13 dg_13 pn_13 pj_13 hm13) (cwV 1 hts (gV wd_236 wd_237 wd_238 wd_38 wd_239) rfl rfl rfl (by decide +kernel) ⟨Nat.le_of_ble_eq_true rfl, Nat.le_of_ble_eq_true rfl⟩) hK hN hP hD hS hA [5, 6, 7, 8, 9, 10, 11] [0, 1, 2, 3, 4] [0, 1, 2, 3, 4, 5, 6, 7, 8, 9, 10, 11] ⟨rfl, rfl, by decide, rfl, by decide, by decide, rfl, rfl, by decide⟩ (va_recv hK hP (ci := 3) (q0 := 5) rfl rfl) rfl hl.1 rfl (Nat.le_of_ble_eq_true rfl) dXF_kind_14 ⟨Nat.le_of_ble_eq_true rfl, Nat.le_of_ble_eq_true rfl⟩ (fun hz13 H locs hP hD hS => ?_)
        refine lv_goto (tgt := 21) hx hb dXF_kind_17 (by decide) ?_
        cases hm
        exact k_iret hx hb hr hlocks hK hP hD hS trivial dXF_kind_21
  exact key n a1 a2 ss sc ns nc ps dg pn pj wh r ss_1 sc_1 ns_1 nc_1 ps_1 dg_1 pn_1 pj_1 wh_1 s.heap [] ls hm hP hD va_S.rf hl
set_option maxHeartbeats 4000000 in
set_option maxRecDepth 100000 in
theorem cF_parts (l : Launch) (D : va_G) (q : Nat → Nat) (cA : ClassId) (N : Nat) (sz : Nat) (nr : Nat → Int32) (ss : Nat → Int32) (sc : Int32) (ns : Nat → Int32) (nc : Int32) (ps : Nat → Int32) (dg : Nat → Int32) (pn : Int32) (pj : Int32) (wh : Int32) (st : Nat → Int32) (sn : Int32) (lf : Int32) (fw : Nat → Int32) (a1 a2 : Int32) (n : Nat) (r : Int32) (ss_1 : Nat → Int32) (sc_1 : Int32) (ns_1 : Nat → Int32) (nc_1 : Int32) (ps_1 : Nat → Int32) (pn_1 : Int32) (wh_1 : Int32) (hm : mF_parts N nr n 0 [a1, a2] ss sc ns nc ps pn wh = some (r, ss_1, sc_1, ns_1, nc_1, ps_1, pn_1, wh_1)) : Met l yXF_parts wsXF_parts ({ frames := 6, cells := 0, slots := 0, locals := 134 }) (kPc D cA [.ref (q 0), .int a1, .int a2] (wF q cA N nr ss sc ns nc ps dg pn pj wh st sn lf fw) sz) (kQi D cA kT (va_A (wF q cA N nr ss sc ns nc ps dg pn pj wh st sn lf fw) sz) (wF q cA N nr ss_1 sc_1 ns_1 nc_1 ps_1 dg pn_1 pj wh_1 st sn lf fw) r) 0 0 (va_A (wF q cA N nr ss sc ns nc ps dg pn pj wh st sn lf fw) sz) := by
  refine k_met (D := D) (cA := cA) (w := (wF q cA N nr ss sc ns nc ps dg pn pj wh st sn lf fw)) (sz := sz) (av := [.ref (q 0), .int a1, .int a2]) (cc := cXF_parts) (maxL := 3) (ret := (some .int)) (Qc := fun A => kQi D cA kT A (wF q cA N nr ss_1 sc_1 ns_1 nc_1 ps_1 dg pn_1 pj wh_1 st sn lf fw) r) (by decide) rfl (Nat.le_of_ble_eq_true rfl) ?_
  intro p e s m below meth c A ls hX hK hN hA hP hD hl
  obtain ⟨hx, hb, hr, hml, hown, hts, hlocks, -⟩ := hX
  have hown : s.vm.findClass RXF = some m.cls := hown
  have hl : lv_has ls 3 [(0, .ref (q 0)), (1, .int a1), (2, .int a2)] := hl
  have hts : ∀ w ∈ W0, w.before _ s = true := fun w h => hts w (List.mem_cons_of_mem _ h)
  have key : ∀ n : Nat, (∀ (x1 x2 : Int32) (ss : Nat → Int32) (sc : Int32) (ns : Nat → Int32) (nc : Int32) (ps : Nat → Int32) (pn : Int32) (wh : Int32) (r : Int32) (ss_1 : Nat → Int32) (sc_1 : Int32) (ns_1 : Nat → Int32) (nc_1 : Int32) (ps_1 : Nat → Int32) (pn_1 : Int32) (wh_1 : Int32) (H : Heap) (locs : List Loc) (ls : Array Slot), mF_parts N nr n 0 [x1, x2] ss sc ns nc ps pn wh = some (r, ss_1, sc_1, ns_1, nc_1, ps_1, pn_1, wh_1) → va_P D vwCl (wF q cA N nr ss sc ns nc ps dg pn pj wh st sn lf fw) H → va_D A (wF q cA N nr ss sc ns nc ps dg pn pj wh st sn lf fw) → va_S A s.heap H locs → lv_has ls 3 [(0, .ref (q 0)), (1, .int x1), (2, .int x2)] → W p l e ({ frames := 6, cells := 0, slots := 0, locals := 134 }) s m ([.ref (q 0), .int a1, .int a2] : List Value).toArray below meth c H locs 0 0 (MQ below (kQi D cA kT A (wF q cA N nr ss_1 sc_1 ns_1 nc_1 ps_1 dg pn_1 pj wh_1 st sn lf fw) r) ([.ref (q 0), .int a1, .int a2] : List Value).toArray s 0 0 A) (F0 m 0 ls [])) := by
    intro n
    induction n with
    | zero => exact (by intros; rename_i h _ _ _ _; rw [mF_parts_z] at h; cases h)
    | succ n ih =>
      have ih0 := ih
      intro x1 x2 ss sc ns nc ps pn wh r ss_1 sc_1 ns_1 nc_1 ps_1 pn_1 wh_1 H locs ls hm hP hD hS hl
      rw [mF_parts_e0] at hm
      refine lv_aload_n hx hb dXF_parts_0 rfl (lv_at hl 0 rfl) ?_
      refine lv_iload_n hx hb dXF_parts_1 rfl (lv_at hl 1 rfl) ?_
      refine lv_iload_n hx hb dXF_parts_2 rfl (lv_at hl 2 rfl) ?_
      obtain ⟨⟨r11, ss_11, sc_11, ns_11, nc_11, wh_11⟩, hm11, hm⟩ := kb_s hm
      dsimp only at hm
      refine k_vi (As := [.int x1, .int x2]) (rest := []) (w2 := (wF q cA N nr ss_11 sc_11 ns_11 nc_11 ps dg pn pj wh_11 st sn lf fw)) ⟨hx, hb, hml, hown, hts⟩ (cF_hasNode l D q cA N H.size nr ss sc ns nc ps dg pn pj wh st sn lf fw x1 x2 n r11 ss_11 sc_11 ns_11 nc_11 wh_11 hm11) (cwV 2 hts (gV wd_225 wd_226 wd_7 wd_36 wd_227) rfl rfl rfl (by decide +kernel) ⟨Nat.le_of_ble_eq_true rfl, Nat.le_of_ble_eq_true rfl⟩) hK hN hP hD hS hA [0, 1, 2, 3, 4, 5, 6, 7, 8, 9, 10, 11] [] [0, 1, 2, 3, 4, 5, 6, 7, 8, 9, 10, 11] ⟨rfl, rfl, by decide, rfl, by decide, by decide, rfl, rfl, by decide⟩ (va_recv hK hP (ci := 4) (q0 := 0) rfl rfl) rfl hl.1 rfl (Nat.le_of_ble_eq_true rfl) dXF_parts_3 ⟨Nat.le_of_ble_eq_true rfl, Nat.le_of_ble_eq_true rfl⟩ (fun hz11 H locs hP hD hS => ?_)
      refine lv_if_eq (tgt := 20) hx hb dXF_parts_6 (by decide) (fun c12 => ?_) (fun c12 => ?_)
      · rw [if_pos c12] at hm
        refine lv_iconst (v := (-1)) hx hb dXF_parts_20 (by decide) ?_
        cases hm
        exact k_iret hx hb hr hlocks hK hP hD hS trivial dXF_parts_21
      · rw [if_neg c12] at hm
        refine lv_aload_n hx hb dXF_parts_9 rfl (lv_at hl 0 rfl) ?_
        refine va_get (D := D) (ci := 4) (v := .ref (q 5)) (C := RXF) (T := TXF) (N := 4) hx hb hts hinXF hown hK hP 0 rfl rfl 1 (by decide) (hts _ wd_120) (fun _ h9 => h9) rfl dXF_parts_10 ?_
        refine lv_iload_n hx hb dXF_parts_13 rfl (lv_at hl 2 rfl) ?_
        obtain ⟨⟨r13, ps_13, pn_13⟩, hm13, hm⟩ := kb_s hm
        dsimp only at hm
        refine k_vi (As := [.int x2]) (rest := []) (w2 := (wF q cA N nr ss_11 sc_11 ns_11 nc_11 ps_13 dg pn_13 pj wh_11 st sn lf fw)) ⟨hx, hb, hml, hown, hts⟩ (cT_partCount l D q cA N H.size nr ss_11 sc_11 ns_11 nc_11 ps dg pn pj wh_11 x2 n r13 ps_13 pn_13 hm13) (cwV 1 hts (gV wd_263 wd_264 wd_265 wd_38 wd_266) rfl rfl rfl (by decide +kernel) ⟨Nat.le_of_ble_eq_true rfl, Nat.le_of_ble_eq_true rfl⟩) hK hN hP hD hS hA [5, 6, 7, 8, 9, 10, 11] [0, 1, 2, 3, 4] [0, 1, 2, 3, 4, 5, 6, 7, 8, 9, 10, 11] ⟨rfl, rfl, by decide, rfl, by decide, by decide, rfl, rfl, by decide⟩ (va_recv hK hP (ci := 3) (q0 := 5) rfl rfl) rfl hl.1 rfl (Nat.le_of_ble_eq_true rfl) dXF_parts_14 ⟨Nat.le_of_ble_eq_true rfl, Nat.le_of_ble_eq_true rfl⟩ (fun hz13 H locs hP hD hS => ?_)
        refine lv_goto (tgt := 21) hx hb dXF_parts_17 (by decide) ?_
        cases hm
        exact k_iret hx hb hr hlocks hK hP hD hS trivial dXF_parts_21
  exact key n a1 a2 ss sc ns nc ps pn wh r ss_1 sc_1 ns_1 nc_1 ps_1 pn_1 wh_1 s.heap [] ls hm hP hD va_S.rf hl
set_option maxHeartbeats 4000000 in
set_option maxRecDepth 100000 in
theorem cF_part (l : Launch) (D : va_G) (q : Nat → Nat) (cA : ClassId) (N : Nat) (sz : Nat) (nr : Nat → Int32) (ss : Nat → Int32) (sc : Int32) (ns : Nat → Int32) (nc : Int32) (ps : Nat → Int32) (dg : Nat → Int32) (pn : Int32) (pj : Int32) (wh : Int32) (st : Nat → Int32) (sn : Int32) (lf : Int32) (fw : Nat → Int32) (a1 a2 a3 : Int32) (n : Nat) (r : Int32) (ss_1 : Nat → Int32) (sc_1 : Int32) (ns_1 : Nat → Int32) (nc_1 : Int32) (ps_1 : Nat → Int32) (pn_1 : Int32) (wh_1 : Int32) (hm : mF_part N nr n 0 [a1, a2, a3] ss sc ns nc ps pn wh = some (r, ss_1, sc_1, ns_1, nc_1, ps_1, pn_1, wh_1)) : Met l yXF_part wsXF_part ({ frames := 6, cells := 0, slots := 0, locals := 134 }) (kPc D cA [.ref (q 0), .int a1, .int a2, .int a3] (wF q cA N nr ss sc ns nc ps dg pn pj wh st sn lf fw) sz) (kQi D cA kT (va_A (wF q cA N nr ss sc ns nc ps dg pn pj wh st sn lf fw) sz) (wF q cA N nr ss_1 sc_1 ns_1 nc_1 ps_1 dg pn_1 pj wh_1 st sn lf fw) r) 0 0 (va_A (wF q cA N nr ss sc ns nc ps dg pn pj wh st sn lf fw) sz) := by
  refine k_met (D := D) (cA := cA) (w := (wF q cA N nr ss sc ns nc ps dg pn pj wh st sn lf fw)) (sz := sz) (av := [.ref (q 0), .int a1, .int a2, .int a3]) (cc := cXF_part) (maxL := 4) (ret := (some .int)) (Qc := fun A => kQi D cA kT A (wF q cA N nr ss_1 sc_1 ns_1 nc_1 ps_1 dg pn_1 pj wh_1 st sn lf fw) r) (by decide) rfl (Nat.le_of_ble_eq_true rfl) ?_
  intro p e s m below meth c A ls hX hK hN hA hP hD hl
  obtain ⟨hx, hb, hr, hml, hown, hts, hlocks, -⟩ := hX
  have hown : s.vm.findClass RXF = some m.cls := hown
  have hl : lv_has ls 4 [(0, .ref (q 0)), (1, .int a1), (2, .int a2), (3, .int a3)] := hl
  have hts : ∀ w ∈ W0, w.before _ s = true := fun w h => hts w (List.mem_cons_of_mem _ h)
  have key : ∀ n : Nat, (∀ (x1 x2 x3 : Int32) (ss : Nat → Int32) (sc : Int32) (ns : Nat → Int32) (nc : Int32) (ps : Nat → Int32) (pn : Int32) (wh : Int32) (r : Int32) (ss_1 : Nat → Int32) (sc_1 : Int32) (ns_1 : Nat → Int32) (nc_1 : Int32) (ps_1 : Nat → Int32) (pn_1 : Int32) (wh_1 : Int32) (H : Heap) (locs : List Loc) (ls : Array Slot), mF_part N nr n 0 [x1, x2, x3] ss sc ns nc ps pn wh = some (r, ss_1, sc_1, ns_1, nc_1, ps_1, pn_1, wh_1) → va_P D vwCl (wF q cA N nr ss sc ns nc ps dg pn pj wh st sn lf fw) H → va_D A (wF q cA N nr ss sc ns nc ps dg pn pj wh st sn lf fw) → va_S A s.heap H locs → lv_has ls 4 [(0, .ref (q 0)), (1, .int x1), (2, .int x2), (3, .int x3)] → W p l e ({ frames := 6, cells := 0, slots := 0, locals := 134 }) s m ([.ref (q 0), .int a1, .int a2, .int a3] : List Value).toArray below meth c H locs 0 0 (MQ below (kQi D cA kT A (wF q cA N nr ss_1 sc_1 ns_1 nc_1 ps_1 dg pn_1 pj wh_1 st sn lf fw) r) ([.ref (q 0), .int a1, .int a2, .int a3] : List Value).toArray s 0 0 A) (F0 m 0 ls [])) := by
    intro n
    induction n with
    | zero => exact (by intros; rename_i h _ _ _ _; rw [mF_part_z] at h; cases h)
    | succ n ih =>
      have ih0 := ih
      intro x1 x2 x3 ss sc ns nc ps pn wh r ss_1 sc_1 ns_1 nc_1 ps_1 pn_1 wh_1 H locs ls hm hP hD hS hl
      rw [mF_part_e0] at hm
      refine lv_aload_n hx hb dXF_part_0 rfl (lv_at hl 0 rfl) ?_
      refine lv_iload_n hx hb dXF_part_1 rfl (lv_at hl 1 rfl) ?_
      refine lv_iload_n hx hb dXF_part_2 rfl (lv_at hl 2 rfl) ?_
      obtain ⟨⟨r11, ss_11, sc_11, ns_11, nc_11, wh_11⟩, hm11, hm⟩ := kb_s hm
      dsimp only at hm
      refine k_vi (As := [.int x1, .int x2]) (rest := []) (w2 := (wF q cA N nr ss_11 sc_11 ns_11 nc_11 ps dg pn pj wh_11 st sn lf fw)) ⟨hx, hb, hml, hown, hts⟩ (cF_hasNode l D q cA N H.size nr ss sc ns nc ps dg pn pj wh st sn lf fw x1 x2 n r11 ss_11 sc_11 ns_11 nc_11 wh_11 hm11) (cwV 2 hts (gV wd_225 wd_226 wd_7 wd_36 wd_227) rfl rfl rfl (by decide +kernel) ⟨Nat.le_of_ble_eq_true rfl, Nat.le_of_ble_eq_true rfl⟩) hK hN hP hD hS hA [0, 1, 2, 3, 4, 5, 6, 7, 8, 9, 10, 11] [] [0, 1, 2, 3, 4, 5, 6, 7, 8, 9, 10, 11] ⟨rfl, rfl, by decide, rfl, by decide, by decide, rfl, rfl, by decide⟩ (va_recv hK hP (ci := 4) (q0 := 0) rfl rfl) rfl hl.1 rfl (Nat.le_of_ble_eq_true rfl) dXF_part_3 ⟨Nat.le_of_ble_eq_true rfl, Nat.le_of_ble_eq_true rfl⟩ (fun hz11 H locs hP hD hS => ?_)
      refine lv_if_eq (tgt := 21) hx hb dXF_part_6 (by decide) (fun c12 => ?_) (fun c12 => ?_)
      · rw [if_pos c12] at hm
        refine lv_iconst (v := (-1)) hx hb dXF_part_21 (by decide) ?_
        cases hm
        exact k_iret hx hb hr hlocks hK hP hD hS trivial dXF_part_22
      · rw [if_neg c12] at hm
        refine lv_aload_n hx hb dXF_part_9 rfl (lv_at hl 0 rfl) ?_
        refine va_get (D := D) (ci := 4) (v := .ref (q 5)) (C := RXF) (T := TXF) (N := 4) hx hb hts hinXF hown hK hP 0 rfl rfl 1 (by decide) (hts _ wd_120) (fun _ h9 => h9) rfl dXF_part_10 ?_
        refine lv_iload_n hx hb dXF_part_13 rfl (lv_at hl 2 rfl) ?_
        refine lv_iload_n hx hb dXF_part_14 rfl (lv_at hl 3 rfl) ?_
        obtain ⟨⟨r13, ps_13, pn_13⟩, hm13, hm⟩ := kb_s hm
        dsimp only at hm
        refine k_vi (As := [.int x2, .int x3]) (rest := []) (w2 := (wF q cA N nr ss_11 sc_11 ns_11 nc_11 ps_13 dg pn_13 pj wh_11 st sn lf fw)) ⟨hx, hb, hml, hown, hts⟩ (cT_partSet l D q cA N H.size nr ss_11 sc_11 ns_11 nc_11 ps dg pn pj wh_11 x2 x3 n r13 ps_13 pn_13 hm13) (cwV 2 hts (gV wd_271 wd_272 wd_273 wd_38 wd_274) rfl rfl rfl (by decide +kernel) ⟨Nat.le_of_ble_eq_true rfl, Nat.le_of_ble_eq_true rfl⟩) hK hN hP hD hS hA [5, 6, 7, 8, 9, 10, 11] [0, 1, 2, 3, 4] [0, 1, 2, 3, 4, 5, 6, 7, 8, 9, 10, 11] ⟨rfl, rfl, by decide, rfl, by decide, by decide, rfl, rfl, by decide⟩ (va_recv hK hP (ci := 3) (q0 := 5) rfl rfl) rfl hl.1 rfl (Nat.le_of_ble_eq_true rfl) dXF_part_15 ⟨Nat.le_of_ble_eq_true rfl, Nat.le_of_ble_eq_true rfl⟩ (fun hz13 H locs hP hD hS => ?_)
        refine lv_goto (tgt := 22) hx hb dXF_part_18 (by decide) ?_
        cases hm
        exact k_iret hx hb hr hlocks hK hP hD hS trivial dXF_part_22
  exact key n a1 a2 a3 ss sc ns nc ps pn wh r ss_1 sc_1 ns_1 nc_1 ps_1 pn_1 wh_1 s.heap [] ls hm hP hD va_S.rf hl
set_option maxHeartbeats 4000000 in
set_option maxRecDepth 100000 in
theorem cF_centre (l : Launch) (D : va_G) (q : Nat → Nat) (cA : ClassId) (N : Nat) (sz : Nat) (nr : Nat → Int32) (ss : Nat → Int32) (sc : Int32) (ns : Nat → Int32) (nc : Int32) (ps : Nat → Int32) (dg : Nat → Int32) (pn : Int32) (pj : Int32) (wh : Int32) (st : Nat → Int32) (sn : Int32) (lf : Int32) (fw : Nat → Int32) (a1 a2 : Int32) (n : Nat) (r : Int32) (ss_1 : Nat → Int32) (sc_1 : Int32) (ns_1 : Nat → Int32) (nc_1 : Int32) (ps_1 : Nat → Int32) (dg_1 : Nat → Int32) (pn_1 : Int32) (pj_1 : Int32) (wh_1 : Int32) (hm : mF_centre N nr n 0 [a1, a2] ss sc ns nc ps dg pn pj wh = some (r, ss_1, sc_1, ns_1, nc_1, ps_1, dg_1, pn_1, pj_1, wh_1)) : Met l yXF_centre wsXF_centre ({ frames := 6, cells := 0, slots := 0, locals := 136 }) (kPc D cA [.ref (q 0), .int a1, .int a2] (wF q cA N nr ss sc ns nc ps dg pn pj wh st sn lf fw) sz) (kQi D cA kT (va_A (wF q cA N nr ss sc ns nc ps dg pn pj wh st sn lf fw) sz) (wF q cA N nr ss_1 sc_1 ns_1 nc_1 ps_1 dg_1 pn_1 pj_1 wh_1 st sn lf fw) r) 0 0 (va_A (wF q cA N nr ss sc ns nc ps dg pn pj wh st sn lf fw) sz) := by
  refine k_met (D := D) (cA := cA) (w := (wF q cA N nr ss sc ns nc ps dg pn pj wh st sn lf fw)) (sz := sz) (av := [.ref (q 0), .int a1, .int a2]) (cc := cXF_centre) (maxL := 3) (ret := (some .int)) (Qc := fun A => kQi D cA kT A (wF q cA N nr ss_1 sc_1 ns_1 nc_1 ps_1 dg_1 pn_1 pj_1 wh_1 st sn lf fw) r) (by decide) rfl (Nat.le_of_ble_eq_true rfl) ?_
  intro p e s m below meth c A ls hX hK hN hA hP hD hl
  obtain ⟨hx, hb, hr, hml, hown, hts, hlocks, -⟩ := hX
  have hown : s.vm.findClass RXF = some m.cls := hown
  have hl : lv_has ls 3 [(0, .ref (q 0)), (1, .int a1), (2, .int a2)] := hl
  have hts : ∀ w ∈ W0, w.before _ s = true := fun w h => hts w (List.mem_cons_of_mem _ h)
  have key : ∀ n : Nat, (∀ (x1 x2 : Int32) (ss : Nat → Int32) (sc : Int32) (ns : Nat → Int32) (nc : Int32) (ps : Nat → Int32) (dg : Nat → Int32) (pn : Int32) (pj : Int32) (wh : Int32) (r : Int32) (ss_1 : Nat → Int32) (sc_1 : Int32) (ns_1 : Nat → Int32) (nc_1 : Int32) (ps_1 : Nat → Int32) (dg_1 : Nat → Int32) (pn_1 : Int32) (pj_1 : Int32) (wh_1 : Int32) (H : Heap) (locs : List Loc) (ls : Array Slot), mF_centre N nr n 0 [x1, x2] ss sc ns nc ps dg pn pj wh = some (r, ss_1, sc_1, ns_1, nc_1, ps_1, dg_1, pn_1, pj_1, wh_1) → va_P D vwCl (wF q cA N nr ss sc ns nc ps dg pn pj wh st sn lf fw) H → va_D A (wF q cA N nr ss sc ns nc ps dg pn pj wh st sn lf fw) → va_S A s.heap H locs → lv_has ls 3 [(0, .ref (q 0)), (1, .int x1), (2, .int x2)] → W p l e ({ frames := 6, cells := 0, slots := 0, locals := 136 }) s m ([.ref (q 0), .int a1, .int a2] : List Value).toArray below meth c H locs 0 0 (MQ below (kQi D cA kT A (wF q cA N nr ss_1 sc_1 ns_1 nc_1 ps_1 dg_1 pn_1 pj_1 wh_1 st sn lf fw) r) ([.ref (q 0), .int a1, .int a2] : List Value).toArray s 0 0 A) (F0 m 0 ls [])) := by
    intro n
    induction n with
    | zero => exact (by intros; rename_i h _ _ _ _; rw [mF_centre_z] at h; cases h)
    | succ n ih =>
      have ih0 := ih
      intro x1 x2 ss sc ns nc ps dg pn pj wh r ss_1 sc_1 ns_1 nc_1 ps_1 dg_1 pn_1 pj_1 wh_1 H locs ls hm hP hD hS hl
      rw [mF_centre_e0] at hm
      refine lv_aload_n hx hb dXF_centre_0 rfl (lv_at hl 0 rfl) ?_
      refine lv_iload_n hx hb dXF_centre_1 rfl (lv_at hl 1 rfl) ?_
      refine lv_iload_n hx hb dXF_centre_2 rfl (lv_at hl 2 rfl) ?_
      obtain ⟨⟨r11, ss_11, sc_11, ns_11, nc_11, wh_11⟩, hm11, hm⟩ := kb_s hm
      dsimp only at hm
      refine k_vi (As := [.int x1, .int x2]) (rest := []) (w2 := (wF q cA N nr ss_11 sc_11 ns_11 nc_11 ps dg pn pj wh_11 st sn lf fw)) ⟨hx, hb, hml, hown, hts⟩ (cF_hasNode l D q cA N H.size nr ss sc ns nc ps dg pn pj wh st sn lf fw x1 x2 n r11 ss_11 sc_11 ns_11 nc_11 wh_11 hm11) (cwV 2 hts (gV wd_225 wd_226 wd_7 wd_36 wd_227) rfl rfl rfl (by decide +kernel) ⟨Nat.le_of_ble_eq_true rfl, Nat.le_of_ble_eq_true rfl⟩) hK hN hP hD hS hA [0, 1, 2, 3, 4, 5, 6, 7, 8, 9, 10, 11] [] [0, 1, 2, 3, 4, 5, 6, 7, 8, 9, 10, 11] ⟨rfl, rfl, by decide, rfl, by decide, by decide, rfl, rfl, by decide⟩ (va_recv hK hP (ci := 4) (q0 := 0) rfl rfl) rfl hl.1 rfl (Nat.le_of_ble_eq_true rfl) dXF_centre_3 ⟨Nat.le_of_ble_eq_true rfl, Nat.le_of_ble_eq_true rfl⟩ (fun hz11 H locs hP hD hS => ?_)
      refine lv_if_eq (tgt := 20) hx hb dXF_centre_6 (by decide) (fun c12 => ?_) (fun c12 => ?_)
      · rw [if_pos c12] at hm
        refine lv_iconst (v := (-1)) hx hb dXF_centre_20 (by decide) ?_
        cases hm
        exact k_iret hx hb hr hlocks hK hP hD hS trivial dXF_centre_21
      · rw [if_neg c12] at hm
        refine lv_aload_n hx hb dXF_centre_9 rfl (lv_at hl 0 rfl) ?_
        refine va_get (D := D) (ci := 4) (v := .ref (q 5)) (C := RXF) (T := TXF) (N := 4) hx hb hts hinXF hown hK hP 0 rfl rfl 1 (by decide) (hts _ wd_120) (fun _ h9 => h9) rfl dXF_centre_10 ?_
        refine lv_iload_n hx hb dXF_centre_13 rfl (lv_at hl 2 rfl) ?_
        obtain ⟨⟨r13, ps_13, dg_13, pn_13, pj_13⟩, hm13, hm⟩ := kb_s hm
        dsimp only at hm
        refine k_vi (As := [.int x2]) (rest := []) (w2 := (wF q cA N nr ss_11 sc_11 ns_11 nc_11 ps_13 dg_13 pn_13 pj_13 wh_11 st sn lf fw)) ⟨hx, hb, hml, hown, hts⟩ (cT_centreSet l D q cA N H.size nr ss_11 sc_11 ns_11 nc_11 ps dg pn pj wh_11 x2 n r13 ps_13 dg_13 pn_13 pj_13 hm13) (cwV 1 hts (gV wd_279 wd_280 wd_281 wd_38 wd_282) rfl rfl rfl (by decide +kernel) ⟨Nat.le_of_ble_eq_true rfl, Nat.le_of_ble_eq_true rfl⟩) hK hN hP hD hS hA [5, 6, 7, 8, 9, 10, 11] [0, 1, 2, 3, 4] [0, 1, 2, 3, 4, 5, 6, 7, 8, 9, 10, 11] ⟨rfl, rfl, by decide, rfl, by decide, by decide, rfl, rfl, by decide⟩ (va_recv hK hP (ci := 3) (q0 := 5) rfl rfl) rfl hl.1 rfl (Nat.le_of_ble_eq_true rfl) dXF_centre_14 ⟨Nat.le_of_ble_eq_true rfl, Nat.le_of_ble_eq_true rfl⟩ (fun hz13 H locs hP hD hS => ?_)
        refine lv_goto (tgt := 21) hx hb dXF_centre_17 (by decide) ?_
        cases hm
        exact k_iret hx hb hr hlocks hK hP hD hS trivial dXF_centre_21
  exact key n a1 a2 ss sc ns nc ps dg pn pj wh r ss_1 sc_1 ns_1 nc_1 ps_1 dg_1 pn_1 pj_1 wh_1 s.heap [] ls hm hP hD va_S.rf hl
set_option maxHeartbeats 4000000 in
set_option maxRecDepth 100000 in
theorem cF_linked (l : Launch) (D : va_G) (q : Nat → Nat) (cA : ClassId) (N : Nat) (sz : Nat) (nr : Nat → Int32) (ss : Nat → Int32) (sc : Int32) (ns : Nat → Int32) (nc : Int32) (ps : Nat → Int32) (dg : Nat → Int32) (pn : Int32) (pj : Int32) (wh : Int32) (st : Nat → Int32) (sn : Int32) (lf : Int32) (fw : Nat → Int32) (a1 a2 : Int32) (n : Nat) (r : Int32) (ss_1 : Nat → Int32) (sc_1 : Int32) (ns_1 : Nat → Int32) (nc_1 : Int32) (wh_1 : Int32) (hm : mF_linked N nr n 0 [a1, a2] ss sc ns nc wh = some (r, ss_1, sc_1, ns_1, nc_1, wh_1)) : Met l yXF_linked wsXF_linked ({ frames := 5, cells := 0, slots := 0, locals := 112 }) (kPc D cA [.ref (q 0), .int a1, .int a2] (wF q cA N nr ss sc ns nc ps dg pn pj wh st sn lf fw) sz) (kQi D cA kB (va_A (wF q cA N nr ss sc ns nc ps dg pn pj wh st sn lf fw) sz) (wF q cA N nr ss_1 sc_1 ns_1 nc_1 ps dg pn pj wh_1 st sn lf fw) r) 0 0 (va_A (wF q cA N nr ss sc ns nc ps dg pn pj wh st sn lf fw) sz) := by
  refine k_met (D := D) (cA := cA) (w := (wF q cA N nr ss sc ns nc ps dg pn pj wh st sn lf fw)) (sz := sz) (av := [.ref (q 0), .int a1, .int a2]) (cc := cXF_linked) (maxL := 3) (ret := (some .boolean)) (Qc := fun A => kQi D cA kB A (wF q cA N nr ss_1 sc_1 ns_1 nc_1 ps dg pn pj wh_1 st sn lf fw) r) (by decide) rfl (Nat.le_of_ble_eq_true rfl) ?_
  intro p e s m below meth c A ls hX hK hN hA hP hD hl
  obtain ⟨hx, hb, hr, hml, hown, hts, hlocks, -⟩ := hX
  have hown : s.vm.findClass RXF = some m.cls := hown
  have hl : lv_has ls 3 [(0, .ref (q 0)), (1, .int a1), (2, .int a2)] := hl
  have hts : ∀ w ∈ W0, w.before _ s = true := fun w h => hts w (List.mem_cons_of_mem _ h)
  have key : ∀ n : Nat, (∀ (x1 x2 : Int32) (ss : Nat → Int32) (sc : Int32) (ns : Nat → Int32) (nc : Int32) (wh : Int32) (r : Int32) (ss_1 : Nat → Int32) (sc_1 : Int32) (ns_1 : Nat → Int32) (nc_1 : Int32) (wh_1 : Int32) (H : Heap) (locs : List Loc) (ls : Array Slot), mF_linked N nr n 0 [x1, x2] ss sc ns nc wh = some (r, ss_1, sc_1, ns_1, nc_1, wh_1) → va_P D vwCl (wF q cA N nr ss sc ns nc ps dg pn pj wh st sn lf fw) H → va_D A (wF q cA N nr ss sc ns nc ps dg pn pj wh st sn lf fw) → va_S A s.heap H locs → lv_has ls 3 [(0, .ref (q 0)), (1, .int x1), (2, .int x2)] → W p l e ({ frames := 5, cells := 0, slots := 0, locals := 112 }) s m ([.ref (q 0), .int a1, .int a2] : List Value).toArray below meth c H locs 0 0 (MQ below (kQi D cA kB A (wF q cA N nr ss_1 sc_1 ns_1 nc_1 ps dg pn pj wh_1 st sn lf fw) r) ([.ref (q 0), .int a1, .int a2] : List Value).toArray s 0 0 A) (F0 m 0 ls [])) := by
    intro n
    induction n with
    | zero => exact (by intros; rename_i h _ _ _ _; rw [mF_linked_z] at h; cases h)
    | succ n ih =>
      have ih0 := ih
      intro x1 x2 ss sc ns nc wh r ss_1 sc_1 ns_1 nc_1 wh_1 H locs ls hm hP hD hS hl
      rw [mF_linked_e0] at hm
      refine lv_aload_n hx hb dXF_linked_0 rfl (lv_at hl 0 rfl) ?_
      refine va_get (D := D) (ci := 4) (v := .ref (q 10)) (C := RXF) (T := TXF) (N := 4) hx hb hts hinXF hown hK hP 0 rfl rfl 0 (by decide) (hts _ wd_119) (fun _ h9 => h9) rfl dXF_linked_1 ?_
      refine lv_iload_n hx hb dXF_linked_4 rfl (lv_at hl 1 rfl) ?_
      obtain ⟨r11, hm11, hm⟩ := kb_s hm
      refine k_vi (As := [.int x1]) (rest := []) (w2 := (wF q cA N nr ss sc ns nc ps dg pn pj wh st sn lf fw)) ⟨hx, hb, hml, hown, hts⟩ (cG_has l D q cA N H.size nr x1 n r11 hm11) (cwV 1 hts (gV wd_136 wd_137 wd_138 wd_37 wd_139) rfl rfl rfl (by decide +kernel) ⟨Nat.le_of_ble_eq_true rfl, Nat.le_of_ble_eq_true rfl⟩) hK hN hP hD hS hA [10, 11] [0, 1, 2, 3, 4, 5, 6, 7, 8, 9] [0, 1, 2, 3, 4, 5, 6, 7, 8, 9, 10, 11] ⟨rfl, rfl, by decide, rfl, by decide, by decide, rfl, rfl, by decide⟩ (va_recv hK hP (ci := 2) (q0 := 10) rfl rfl) rfl hl.1 rfl (Nat.le_of_ble_eq_true rfl) dXF_linked_5 ⟨Nat.le_of_ble_eq_true rfl, Nat.le_of_ble_eq_true rfl⟩ (fun hz11 H locs hP hD hS => ?_)
      refine lv_if_eq (tgt := 27) hx hb dXF_linked_8 (by decide) (fun c12 => ?_) (fun c12 => ?_)
      · rw [if_pos c12] at hm
        refine lv_iconst (v := 0) hx hb dXF_linked_27 (by decide) ?_
        cases hm
        exact k_zret hx hb hr hlocks hK hP hD hS (Or.inl rfl) dXF_linked_28
      · rw [if_neg c12] at hm
        refine lv_aload_n hx hb dXF_linked_11 rfl (lv_at hl 0 rfl) ?_
        refine va_get (D := D) (ci := 4) (v := .ref (q 10)) (C := RXF) (T := TXF) (N := 4) hx hb hts hinXF hown hK hP 0 rfl rfl 0 (by decide) (hts _ wd_119) (fun _ h9 => h9) rfl dXF_linked_12 ?_
        refine lv_iload_n hx hb dXF_linked_15 rfl (lv_at hl 2 rfl) ?_
        obtain ⟨r13, hm13, hm⟩ := kb_s hm
        refine k_vi (As := [.int x2]) (rest := []) (w2 := (wF q cA N nr ss sc ns nc ps dg pn pj wh st sn lf fw)) ⟨hx, hb, hml, hown, hts⟩ (cG_has l D q cA N H.size nr x2 n r13 hm13) (cwV 1 hts (gV wd_136 wd_137 wd_138 wd_37 wd_139) rfl rfl rfl (by decide +kernel) ⟨Nat.le_of_ble_eq_true rfl, Nat.le_of_ble_eq_true rfl⟩) hK hN hP hD hS hA [10, 11] [0, 1, 2, 3, 4, 5, 6, 7, 8, 9] [0, 1, 2, 3, 4, 5, 6, 7, 8, 9, 10, 11] ⟨rfl, rfl, by decide, rfl, by decide, by decide, rfl, rfl, by decide⟩ (va_recv hK hP (ci := 2) (q0 := 10) rfl rfl) rfl hl.1 rfl (Nat.le_of_ble_eq_true rfl) dXF_linked_16 ⟨Nat.le_of_ble_eq_true rfl, Nat.le_of_ble_eq_true rfl⟩ (fun hz13 H locs hP hD hS => ?_)
        refine lv_if_eq (tgt := 27) hx hb dXF_linked_19 (by decide) (fun c14 => ?_) (fun c14 => ?_)
        · rw [if_pos c14] at hm
          refine lv_iconst (v := 0) hx hb dXF_linked_27 (by decide) ?_
          cases hm
          exact k_zret hx hb hr hlocks hK hP hD hS (Or.inl rfl) dXF_linked_28
        · rw [if_neg c14] at hm
          refine lv_iload_n hx hb dXF_linked_22 rfl (lv_at hl 1 rfl) ?_
          refine lv_iload_n hx hb dXF_linked_23 rfl (lv_at hl 2 rfl) ?_
          refine lv_icmp_ne (tgt := 29) hx hb dXF_linked_24 (by decide) (fun c15 => ?_) (fun c15 => ?_)
          · rw [if_neg c15] at hm
            refine lv_aload_n hx hb dXF_linked_29 rfl (lv_at hl 0 rfl) ?_
            refine lv_iload_n hx hb dXF_linked_30 rfl (lv_at hl 1 rfl) ?_
            obtain ⟨r16, hm16, hm⟩ := kb_s hm
            refine k_vi (As := [.int x1]) (rest := []) (w2 := (wF q cA N nr ss sc ns nc ps dg pn pj wh st sn lf fw)) ⟨hx, hb, hml, hown, hts⟩ (cF_componentOf l D q cA N H.size nr ss sc ns nc ps dg pn pj wh st sn lf fw x1 n r16 hm16) (cwV 1 hts (gV wd_162 wd_163 wd_0 wd_36 wd_164) rfl rfl rfl (by decide +kernel) ⟨Nat.le_of_ble_eq_true rfl, Nat.le_of_ble_eq_true rfl⟩) hK hN hP hD hS hA [0, 1, 2, 3, 4, 5, 6, 7, 8, 9, 10, 11] [] [0, 1, 2, 3, 4, 5, 6, 7, 8, 9, 10, 11] ⟨rfl, rfl, by decide, rfl, by decide, by decide, rfl, rfl, by decide⟩ (va_recv hK hP (ci := 4) (q0 := 0) rfl rfl) rfl hl.1 rfl (Nat.le_of_ble_eq_true rfl) dXF_linked_31 ⟨Nat.le_of_ble_eq_true rfl, Nat.le_of_ble_eq_true rfl⟩ (fun hz16 H locs hP hD hS => ?_)
            refine lv_iload_n hx hb dXF_linked_34 rfl (lv_at hl 2 rfl) ?_
            obtain ⟨r17, hm17, hm⟩ := kb_s hm
            refine k_s0 (As := [.int r16, .int x2]) (rest := []) ⟨hx, hb, hml, hown, hts⟩ (cF_contains l D cA H.size r16 x2 n r17 hm17) (cwS 2 hts (gS wd_288 wd_152 wd_36 wd_153) rfl rfl rfl (by decide +kernel) ⟨Nat.le_of_ble_eq_true rfl, Nat.le_of_ble_eq_true rfl⟩) hK hN hP hD hS hA rfl hl.1 rfl (Nat.le_of_ble_eq_true rfl) dXF_linked_35 ⟨Nat.le_of_ble_eq_true rfl, Nat.le_of_ble_eq_true rfl⟩ (fun hz17 H locs hP hD hS => ?_)
            refine lv_if_eq (tgt := 58) hx hb dXF_linked_38 (by decide) (fun c18 => ?_) (fun c18 => ?_)
            · rw [if_pos c18] at hm
              refine lv_iconst (v := 0) hx hb dXF_linked_58 (by decide) ?_
              cases hm
              exact k_zret hx hb hr hlocks hK hP hD hS (Or.inl rfl) dXF_linked_59
            · rw [if_neg c18] at hm
              refine lv_aload_n hx hb dXF_linked_41 rfl (lv_at hl 0 rfl) ?_
              refine lv_iload_n hx hb dXF_linked_42 rfl (lv_at hl 1 rfl) ?_
              obtain ⟨⟨ss_19, sc_19, ns_19, nc_19, wh_19⟩, hm19, hm⟩ := kb_s hm
              dsimp only at hm
              refine k_vr (As := [.int x1]) (rest := []) (w2 := (wF q cA N nr ss_19 sc_19 ns_19 nc_19 ps dg pn pj wh_19 st sn lf fw)) ⟨hx, hb, hml, hown, hts⟩ (cF_treeOf l D q cA N H.size nr ss sc ns nc ps dg pn pj wh st sn lf fw x1 n ss_19 sc_19 ns_19 nc_19 wh_19 hm19) (cwV 1 hts (gV wd_180 wd_181 wd_2 wd_36 wd_182) rfl rfl rfl (by decide +kernel) ⟨Nat.le_of_ble_eq_true rfl, Nat.le_of_ble_eq_true rfl⟩) hK hN hP hD hS hA [0, 1, 2, 3, 4, 5, 6, 7, 8, 9, 10, 11] [] [0, 1, 2, 3, 4, 5, 6, 7, 8, 9, 10, 11] ⟨rfl, rfl, by decide, rfl, by decide, by decide, rfl, rfl, by decide⟩ (va_recv hK hP (ci := 4) (q0 := 0) rfl rfl) rfl hl.1 rfl (Nat.le_of_ble_eq_true rfl) dXF_linked_43 ⟨Nat.le_of_ble_eq_true rfl, Nat.le_of_ble_eq_true rfl⟩ (fun H locs hP hD hS => ?_)
              refine lv_iload_n hx hb dXF_linked_46 rfl (lv_at hl 1 rfl) ?_
              refine lv_iload_n hx hb dXF_linked_47 rfl (lv_at hl 2 rfl) ?_
              obtain ⟨r20, hm20, hm⟩ := kb_s hm
              refine k_vi (As := [.int x1, .int x2]) (rest := []) (w2 := (wF q cA N nr ss_19 sc_19 ns_19 nc_19 ps dg pn pj wh_19 st sn lf fw)) ⟨hx, hb, hml, hown, hts⟩ (cT_links l D q cA N H.size nr ss_19 sc_19 ns_19 nc_19 ps dg pn pj wh_19 x1 x2 n r20 hm20) (cwV 2 hts (gV wd_289 wd_290 wd_291 wd_38 wd_292) rfl rfl rfl (by decide +kernel) ⟨Nat.le_of_ble_eq_true rfl, Nat.le_of_ble_eq_true rfl⟩) hK hN hP hD hS hA [5, 6, 7, 8, 9, 10, 11] [0, 1, 2, 3, 4] [0, 1, 2, 3, 4, 5, 6, 7, 8, 9, 10, 11] ⟨rfl, rfl, by decide, rfl, by decide, by decide, rfl, rfl, by decide⟩ (va_recv hK hP (ci := 3) (q0 := 5) rfl rfl) rfl hl.1 rfl (Nat.le_of_ble_eq_true rfl) dXF_linked_48 ⟨Nat.le_of_ble_eq_true rfl, Nat.le_of_ble_eq_true rfl⟩ (fun hz20 H locs hP hD hS => ?_)
              refine lv_if_eq (tgt := 58) hx hb dXF_linked_51 (by decide) (fun c21 => ?_) (fun c21 => ?_)
              · rw [if_pos c21] at hm
                refine lv_iconst (v := 0) hx hb dXF_linked_58 (by decide) ?_
                cases hm
                exact k_zret hx hb hr hlocks hK hP hD hS (Or.inl rfl) dXF_linked_59
              · rw [if_neg c21] at hm
                refine lv_iconst (v := 1) hx hb dXF_linked_54 (by decide) ?_
                refine lv_goto (tgt := 59) hx hb dXF_linked_55 (by decide) ?_
                cases hm
                exact k_zret hx hb hr hlocks hK hP hD hS (Or.inr rfl) dXF_linked_59
          · rw [if_pos c15] at hm
            refine lv_iconst (v := 0) hx hb dXF_linked_27 (by decide) ?_
            cases hm
            exact k_zret hx hb hr hlocks hK hP hD hS (Or.inl rfl) dXF_linked_28
  exact key n a1 a2 ss sc ns nc wh r ss_1 sc_1 ns_1 nc_1 wh_1 s.heap [] ls hm hP hD va_S.rf hl
set_option maxHeartbeats 4000000 in
set_option maxRecDepth 100000 in
theorem cF_hereditary (l : Launch) (D : va_G) (q : Nat → Nat) (cA : ClassId) (N : Nat) (sz : Nat) (nr : Nat → Int32) (ss : Nat → Int32) (sc : Int32) (ns : Nat → Int32) (nc : Int32) (ps : Nat → Int32) (dg : Nat → Int32) (pn : Int32) (pj : Int32) (wh : Int32) (st : Nat → Int32) (sn : Int32) (lf : Int32) (fw : Nat → Int32) (a1 : Int32) (n : Nat) (r : Int32) (st_1 : Nat → Int32) (sn_1 : Int32) (lf_1 : Int32) (hm : mF_hereditary N nr n 0 [a1] st sn lf = some (r, st_1, sn_1, lf_1)) : Met l yXF_hereditary wsXF_hereditary ({ frames := 5, cells := 0, slots := 0, locals := 117 }) (kPc D cA [.ref (q 0), .int a1] (wF q cA N nr ss sc ns nc ps dg pn pj wh st sn lf fw) sz) (kQi D cA kB (va_A (wF q cA N nr ss sc ns nc ps dg pn pj wh st sn lf fw) sz) (wF q cA N nr ss sc ns nc ps dg pn pj wh st_1 sn_1 lf_1 fw) r) 0 0 (va_A (wF q cA N nr ss sc ns nc ps dg pn pj wh st sn lf fw) sz) := by
  refine k_met (D := D) (cA := cA) (w := (wF q cA N nr ss sc ns nc ps dg pn pj wh st sn lf fw)) (sz := sz) (av := [.ref (q 0), .int a1]) (cc := cXF_hereditary) (maxL := 2) (ret := (some .boolean)) (Qc := fun A => kQi D cA kB A (wF q cA N nr ss sc ns nc ps dg pn pj wh st_1 sn_1 lf_1 fw) r) (by decide) rfl (Nat.le_of_ble_eq_true rfl) ?_
  intro p e s m below meth c A ls hX hK hN hA hP hD hl
  obtain ⟨hx, hb, hr, hml, hown, hts, hlocks, -⟩ := hX
  have hown : s.vm.findClass RXF = some m.cls := hown
  have hl : lv_has ls 2 [(0, .ref (q 0)), (1, .int a1)] := hl
  have hts : ∀ w ∈ W0, w.before _ s = true := fun w h => hts w (List.mem_cons_of_mem _ h)
  have key : ∀ n : Nat, (∀ (x1 : Int32) (st : Nat → Int32) (sn : Int32) (lf : Int32) (r : Int32) (st_1 : Nat → Int32) (sn_1 : Int32) (lf_1 : Int32) (H : Heap) (locs : List Loc) (ls : Array Slot), mF_hereditary N nr n 0 [x1] st sn lf = some (r, st_1, sn_1, lf_1) → va_P D vwCl (wF q cA N nr ss sc ns nc ps dg pn pj wh st sn lf fw) H → va_D A (wF q cA N nr ss sc ns nc ps dg pn pj wh st sn lf fw) → va_S A s.heap H locs → lv_has ls 2 [(0, .ref (q 0)), (1, .int x1)] → W p l e ({ frames := 5, cells := 0, slots := 0, locals := 117 }) s m ([.ref (q 0), .int a1] : List Value).toArray below meth c H locs 0 0 (MQ below (kQi D cA kB A (wF q cA N nr ss sc ns nc ps dg pn pj wh st_1 sn_1 lf_1 fw) r) ([.ref (q 0), .int a1] : List Value).toArray s 0 0 A) (F0 m 0 ls [])) := by
    intro n
    induction n with
    | zero => exact (by intros; rename_i h _ _ _ _; rw [mF_hereditary_z] at h; cases h)
    | succ n ih =>
      have ih0 := ih
      intro x1 st sn lf r st_1 sn_1 lf_1 H locs ls hm hP hD hS hl
      rw [mF_hereditary_e0] at hm
      refine lv_aload_n hx hb dXF_hereditary_0 rfl (lv_at hl 0 rfl) ?_
      refine va_get (D := D) (ci := 4) (v := .ref (q 10)) (C := RXF) (T := TXF) (N := 4) hx hb hts hinXF hown hK hP 0 rfl rfl 0 (by decide) (hts _ wd_119) (fun _ h9 => h9) rfl dXF_hereditary_1 ?_
      refine lv_iload_n hx hb dXF_hereditary_4 rfl (lv_at hl 1 rfl) ?_
      obtain ⟨r11, hm11, hm⟩ := kb_s hm
      refine k_vi (As := [.int x1]) (rest := []) (w2 := (wF q cA N nr ss sc ns nc ps dg pn pj wh st sn lf fw)) ⟨hx, hb, hml, hown, hts⟩ (cG_has l D q cA N H.size nr x1 n r11 hm11) (cwV 1 hts (gV wd_136 wd_137 wd_138 wd_37 wd_139) rfl rfl rfl (by decide +kernel) ⟨Nat.le_of_ble_eq_true rfl, Nat.le_of_ble_eq_true rfl⟩) hK hN hP hD hS hA [10, 11] [0, 1, 2, 3, 4, 5, 6, 7, 8, 9] [0, 1, 2, 3, 4, 5, 6, 7, 8, 9, 10, 11] ⟨rfl, rfl, by decide, rfl, by decide, by decide, rfl, rfl, by decide⟩ (va_recv hK hP (ci := 2) (q0 := 10) rfl rfl) rfl hl.1 rfl (Nat.le_of_ble_eq_true rfl) dXF_hereditary_5 ⟨Nat.le_of_ble_eq_true rfl, Nat.le_of_ble_eq_true rfl⟩ (fun hz11 H locs hP hD hS => ?_)
      refine lv_if_eq (tgt := 30) hx hb dXF_hereditary_8 (by decide) (fun c12 => ?_) (fun c12 => ?_)
      · rw [if_pos c12] at hm
        refine lv_iconst (v := 0) hx hb dXF_hereditary_30 (by decide) ?_
        cases hm
        exact k_zret hx hb hr hlocks hK hP hD hS (Or.inl rfl) dXF_hereditary_31
      · rw [if_neg c12] at hm
        refine lv_aload_n hx hb dXF_hereditary_11 rfl (lv_at hl 0 rfl) ?_
        refine va_get (D := D) (ci := 4) (v := .ref (q 3)) (C := RXF) (T := TXF) (N := 4) hx hb hts hinXF hown hK hP 0 rfl rfl 2 (by decide) (hts _ wd_121) (fun _ h9 => h9) rfl dXF_hereditary_12 ?_
        refine lv_aload_n hx hb dXF_hereditary_15 rfl (lv_at hl 0 rfl) ?_
        refine lv_iload_n hx hb dXF_hereditary_16 rfl (lv_at hl 1 rfl) ?_
        obtain ⟨r13, hm13, hm⟩ := kb_s hm
        refine k_vi (As := [.int x1]) (rest := [.ref (q 3)]) (w2 := (wF q cA N nr ss sc ns nc ps dg pn pj wh st sn lf fw)) ⟨hx, hb, hml, hown, hts⟩ (cF_componentOf l D q cA N H.size nr ss sc ns nc ps dg pn pj wh st sn lf fw x1 n r13 hm13) (cwV 1 hts (gV wd_162 wd_163 wd_0 wd_36 wd_164) rfl rfl rfl (by decide +kernel) ⟨Nat.le_of_ble_eq_true rfl, Nat.le_of_ble_eq_true rfl⟩) hK hN hP hD hS hA [0, 1, 2, 3, 4, 5, 6, 7, 8, 9, 10, 11] [] [0, 1, 2, 3, 4, 5, 6, 7, 8, 9, 10, 11] ⟨rfl, rfl, by decide, rfl, by decide, by decide, rfl, rfl, by decide⟩ (va_recv hK hP (ci := 4) (q0 := 0) rfl rfl) rfl hl.1 rfl (Nat.le_of_ble_eq_true rfl) dXF_hereditary_17 ⟨Nat.le_of_ble_eq_true rfl, Nat.le_of_ble_eq_true rfl⟩ (fun hz13 H locs hP hD hS => ?_)
        obtain ⟨⟨r14, st_14, sn_14, lf_14⟩, hm14, hm⟩ := kb_s hm
        dsimp only at hm
        refine k_vi (As := [.int r13]) (rest := []) (w2 := (wF q cA N nr ss sc ns nc ps dg pn pj wh st_14 sn_14 lf_14 fw)) ⟨hx, hb, hml, hown, hts⟩ (cE_clears l D q cA N H.size nr st sn lf r13 n r14 st_14 sn_14 lf_14 hm14) (cwV 1 hts (gV wd_297 wd_298 wd_299 wd_39 wd_300) rfl rfl rfl (by decide +kernel) ⟨Nat.le_of_ble_eq_true rfl, Nat.le_of_ble_eq_true rfl⟩) hK hN hP hD hS hA [3, 4, 10, 11] [0, 1, 2, 5, 6, 7, 8, 9] [0, 1, 2, 8, 9, 3, 4, 5, 6, 7, 10, 11] ⟨rfl, rfl, by decide, rfl, by decide, by decide, rfl, rfl, by decide⟩ (va_recv hK hP (ci := 1) (q0 := 3) rfl rfl) rfl hl.1 rfl (Nat.le_of_ble_eq_true rfl) dXF_hereditary_20 ⟨Nat.le_of_ble_eq_true rfl, Nat.le_of_ble_eq_true rfl⟩ (fun hz14 H locs hP hD hS => ?_)
        refine lv_if_eq (tgt := 30) hx hb dXF_hereditary_23 (by decide) (fun c15 => ?_) (fun c15 => ?_)
        · rw [if_pos c15] at hm
          refine lv_iconst (v := 0) hx hb dXF_hereditary_30 (by decide) ?_
          cases hm
          exact k_zret hx hb hr hlocks hK hP hD hS (Or.inl rfl) dXF_hereditary_31
        · rw [if_neg c15] at hm
          refine lv_iconst (v := 1) hx hb dXF_hereditary_26 (by decide) ?_
          refine lv_goto (tgt := 31) hx hb dXF_hereditary_27 (by decide) ?_
          cases hm
          exact k_zret hx hb hr hlocks hK hP hD hS (Or.inr rfl) dXF_hereditary_31
  exact key n a1 st sn lf r st_1 sn_1 lf_1 s.heap [] ls hm hP hD va_S.rf hl
set_option maxHeartbeats 4000000 in
set_option maxRecDepth 100000 in
theorem cF_step (l : Launch) (D : va_G) (q : Nat → Nat) (cA : ClassId) (N : Nat) (sz : Nat) (nr : Nat → Int32) (ss : Nat → Int32) (sc : Int32) (ns : Nat → Int32) (nc : Int32) (ps : Nat → Int32) (dg : Nat → Int32) (pn : Int32) (pj : Int32) (wh : Int32) (st : Nat → Int32) (sn : Int32) (lf : Int32) (fw : Nat → Int32) (a1 a2 : Int32) (n : Nat) (r : Int32) (st_1 : Nat → Int32) (sn_1 : Int32) (lf_1 : Int32) (hm : mF_step N nr n 0 [a1, a2] st sn lf = some (r, st_1, sn_1, lf_1)) : Met l yXF_step wsXF_step ({ frames := 5, cells := 0, slots := 0, locals := 115 }) (kPc D cA [.ref (q 0), .int a1, .int a2] (wF q cA N nr ss sc ns nc ps dg pn pj wh st sn lf fw) sz) (kQi D cA kT (va_A (wF q cA N nr ss sc ns nc ps dg pn pj wh st sn lf fw) sz) (wF q cA N nr ss sc ns nc ps dg pn pj wh st_1 sn_1 lf_1 fw) r) 0 0 (va_A (wF q cA N nr ss sc ns nc ps dg pn pj wh st sn lf fw) sz) := by
  refine k_met (D := D) (cA := cA) (w := (wF q cA N nr ss sc ns nc ps dg pn pj wh st sn lf fw)) (sz := sz) (av := [.ref (q 0), .int a1, .int a2]) (cc := cXF_step) (maxL := 3) (ret := (some .int)) (Qc := fun A => kQi D cA kT A (wF q cA N nr ss sc ns nc ps dg pn pj wh st_1 sn_1 lf_1 fw) r) (by decide) rfl (Nat.le_of_ble_eq_true rfl) ?_
  intro p e s m below meth c A ls hX hK hN hA hP hD hl
  obtain ⟨hx, hb, hr, hml, hown, hts, hlocks, -⟩ := hX
  have hown : s.vm.findClass RXF = some m.cls := hown
  have hl : lv_has ls 3 [(0, .ref (q 0)), (1, .int a1), (2, .int a2)] := hl
  have hts : ∀ w ∈ W0, w.before _ s = true := fun w h => hts w (List.mem_cons_of_mem _ h)
  have key : ∀ n : Nat, (∀ (x1 x2 : Int32) (st : Nat → Int32) (sn : Int32) (lf : Int32) (r : Int32) (st_1 : Nat → Int32) (sn_1 : Int32) (lf_1 : Int32) (H : Heap) (locs : List Loc) (ls : Array Slot), mF_step N nr n 0 [x1, x2] st sn lf = some (r, st_1, sn_1, lf_1) → va_P D vwCl (wF q cA N nr ss sc ns nc ps dg pn pj wh st sn lf fw) H → va_D A (wF q cA N nr ss sc ns nc ps dg pn pj wh st sn lf fw) → va_S A s.heap H locs → lv_has ls 3 [(0, .ref (q 0)), (1, .int x1), (2, .int x2)] → W p l e ({ frames := 5, cells := 0, slots := 0, locals := 115 }) s m ([.ref (q 0), .int a1, .int a2] : List Value).toArray below meth c H locs 0 0 (MQ below (kQi D cA kT A (wF q cA N nr ss sc ns nc ps dg pn pj wh st_1 sn_1 lf_1 fw) r) ([.ref (q 0), .int a1, .int a2] : List Value).toArray s 0 0 A) (F0 m 0 ls [])) := by
    intro n
    induction n with
    | zero => exact (by intros; rename_i h _ _ _ _; rw [mF_step_z] at h; cases h)
    | succ n ih =>
      have ih0 := ih
      intro x1 x2 st sn lf r st_1 sn_1 lf_1 H locs ls hm hP hD hS hl
      rw [mF_step_e0] at hm
      refine lv_aload_n hx hb dXF_step_0 rfl (lv_at hl 0 rfl) ?_
      refine va_get (D := D) (ci := 4) (v := .ref (q 10)) (C := RXF) (T := TXF) (N := 4) hx hb hts hinXF hown hK hP 0 rfl rfl 0 (by decide) (hts _ wd_119) (fun _ h9 => h9) rfl dXF_step_1 ?_
      refine lv_iload_n hx hb dXF_step_4 rfl (lv_at hl 1 rfl) ?_
      obtain ⟨r11, hm11, hm⟩ := kb_s hm
      refine k_vi (As := [.int x1]) (rest := []) (w2 := (wF q cA N nr ss sc ns nc ps dg pn pj wh st sn lf fw)) ⟨hx, hb, hml, hown, hts⟩ (cG_has l D q cA N H.size nr x1 n r11 hm11) (cwV 1 hts (gV wd_136 wd_137 wd_138 wd_37 wd_139) rfl rfl rfl (by decide +kernel) ⟨Nat.le_of_ble_eq_true rfl, Nat.le_of_ble_eq_true rfl⟩) hK hN hP hD hS hA [10, 11] [0, 1, 2, 3, 4, 5, 6, 7, 8, 9] [0, 1, 2, 3, 4, 5, 6, 7, 8, 9, 10, 11] ⟨rfl, rfl, by decide, rfl, by decide, by decide, rfl, rfl, by decide⟩ (va_recv hK hP (ci := 2) (q0 := 10) rfl rfl) rfl hl.1 rfl (Nat.le_of_ble_eq_true rfl) dXF_step_5 ⟨Nat.le_of_ble_eq_true rfl, Nat.le_of_ble_eq_true rfl⟩ (fun hz11 H locs hP hD hS => ?_)
      refine lv_if_eq (tgt := 27) hx hb dXF_step_8 (by decide) (fun c12 => ?_) (fun c12 => ?_)
      · rw [if_pos c12] at hm
        refine lv_iconst (v := (-1)) hx hb dXF_step_27 (by decide) ?_
        cases hm
        exact k_iret hx hb hr hlocks hK hP hD hS trivial dXF_step_28
      · rw [if_neg c12] at hm
        refine lv_aload_n hx hb dXF_step_11 rfl (lv_at hl 0 rfl) ?_
        refine va_get (D := D) (ci := 4) (v := .ref (q 3)) (C := RXF) (T := TXF) (N := 4) hx hb hts hinXF hown hK hP 0 rfl rfl 2 (by decide) (hts _ wd_121) (fun _ h9 => h9) rfl dXF_step_12 ?_
        refine lv_aload_n hx hb dXF_step_15 rfl (lv_at hl 0 rfl) ?_
        refine lv_iload_n hx hb dXF_step_16 rfl (lv_at hl 1 rfl) ?_
        obtain ⟨r13, hm13, hm⟩ := kb_s hm
        refine k_vi (As := [.int x1]) (rest := [.ref (q 3)]) (w2 := (wF q cA N nr ss sc ns nc ps dg pn pj wh st sn lf fw)) ⟨hx, hb, hml, hown, hts⟩ (cF_componentOf l D q cA N H.size nr ss sc ns nc ps dg pn pj wh st sn lf fw x1 n r13 hm13) (cwV 1 hts (gV wd_162 wd_163 wd_0 wd_36 wd_164) rfl rfl rfl (by decide +kernel) ⟨Nat.le_of_ble_eq_true rfl, Nat.le_of_ble_eq_true rfl⟩) hK hN hP hD hS hA [0, 1, 2, 3, 4, 5, 6, 7, 8, 9, 10, 11] [] [0, 1, 2, 3, 4, 5, 6, 7, 8, 9, 10, 11] ⟨rfl, rfl, by decide, rfl, by decide, by decide, rfl, rfl, by decide⟩ (va_recv hK hP (ci := 4) (q0 := 0) rfl rfl) rfl hl.1 rfl (Nat.le_of_ble_eq_true rfl) dXF_step_17 ⟨Nat.le_of_ble_eq_true rfl, Nat.le_of_ble_eq_true rfl⟩ (fun hz13 H locs hP hD hS => ?_)
        refine lv_iload_n hx hb dXF_step_20 rfl (lv_at hl 2 rfl) ?_
        obtain ⟨⟨r14, st_14, sn_14, lf_14⟩, hm14, hm⟩ := kb_s hm
        dsimp only at hm
        refine k_vi (As := [.int r13, .int x2]) (rest := []) (w2 := (wF q cA N nr ss sc ns nc ps dg pn pj wh st_14 sn_14 lf_14 fw)) ⟨hx, hb, hml, hown, hts⟩ (cE_stepOf l D q cA N H.size nr st sn lf r13 x2 n r14 st_14 sn_14 lf_14 hm14) (cwV 2 hts (gV wd_321 wd_322 wd_323 wd_39 wd_324) rfl rfl rfl (by decide +kernel) ⟨Nat.le_of_ble_eq_true rfl, Nat.le_of_ble_eq_true rfl⟩) hK hN hP hD hS hA [3, 4, 10, 11] [0, 1, 2, 5, 6, 7, 8, 9] [0, 1, 2, 8, 9, 3, 4, 5, 6, 7, 10, 11] ⟨rfl, rfl, by decide, rfl, by decide, by decide, rfl, rfl, by decide⟩ (va_recv hK hP (ci := 1) (q0 := 3) rfl rfl) rfl hl.1 rfl (Nat.le_of_ble_eq_true rfl) dXF_step_21 ⟨Nat.le_of_ble_eq_true rfl, Nat.le_of_ble_eq_true rfl⟩ (fun hz14 H locs hP hD hS => ?_)
        refine lv_goto (tgt := 28) hx hb dXF_step_24 (by decide) ?_
        cases hm
        exact k_iret hx hb hr hlocks hK hP hD hS trivial dXF_step_28
  exact key n a1 a2 st sn lf r st_1 sn_1 lf_1 s.heap [] ls hm hP hD va_S.rf hl
set_option maxHeartbeats 4000000 in
set_option maxRecDepth 100000 in
theorem cF_obstruction (l : Launch) (D : va_G) (q : Nat → Nat) (cA : ClassId) (N : Nat) (sz : Nat) (nr : Nat → Int32) (ss : Nat → Int32) (sc : Int32) (ns : Nat → Int32) (nc : Int32) (ps : Nat → Int32) (dg : Nat → Int32) (pn : Int32) (pj : Int32) (wh : Int32) (st : Nat → Int32) (sn : Int32) (lf : Int32) (fw : Nat → Int32) (a1 : Int32) (n : Nat) (r : Int32) (st_1 : Nat → Int32) (sn_1 : Int32) (lf_1 : Int32) (hm : mF_obstruction N nr n 0 [a1] st sn lf = some (r, st_1, sn_1, lf_1)) : Met l yXF_obstruction wsXF_obstruction ({ frames := 6, cells := 0, slots := 0, locals := 141 }) (kPc D cA [.ref (q 0), .int a1] (wF q cA N nr ss sc ns nc ps dg pn pj wh st sn lf fw) sz) (kQi D cA kT (va_A (wF q cA N nr ss sc ns nc ps dg pn pj wh st sn lf fw) sz) (wF q cA N nr ss sc ns nc ps dg pn pj wh st_1 sn_1 lf_1 fw) r) 0 0 (va_A (wF q cA N nr ss sc ns nc ps dg pn pj wh st sn lf fw) sz) := by
  refine k_met (D := D) (cA := cA) (w := (wF q cA N nr ss sc ns nc ps dg pn pj wh st sn lf fw)) (sz := sz) (av := [.ref (q 0), .int a1]) (cc := cXF_obstruction) (maxL := 2) (ret := (some .int)) (Qc := fun A => kQi D cA kT A (wF q cA N nr ss sc ns nc ps dg pn pj wh st_1 sn_1 lf_1 fw) r) (by decide) rfl (Nat.le_of_ble_eq_true rfl) ?_
  intro p e s m below meth c A ls hX hK hN hA hP hD hl
  obtain ⟨hx, hb, hr, hml, hown, hts, hlocks, -⟩ := hX
  have hown : s.vm.findClass RXF = some m.cls := hown
  have hl : lv_has ls 2 [(0, .ref (q 0)), (1, .int a1)] := hl
  have hts : ∀ w ∈ W0, w.before _ s = true := fun w h => hts w (List.mem_cons_of_mem _ h)
  have key : ∀ n : Nat, (∀ (x1 : Int32) (st : Nat → Int32) (sn : Int32) (lf : Int32) (r : Int32) (st_1 : Nat → Int32) (sn_1 : Int32) (lf_1 : Int32) (H : Heap) (locs : List Loc) (ls : Array Slot), mF_obstruction N nr n 0 [x1] st sn lf = some (r, st_1, sn_1, lf_1) → va_P D vwCl (wF q cA N nr ss sc ns nc ps dg pn pj wh st sn lf fw) H → va_D A (wF q cA N nr ss sc ns nc ps dg pn pj wh st sn lf fw) → va_S A s.heap H locs → lv_has ls 2 [(0, .ref (q 0)), (1, .int x1)] → W p l e ({ frames := 6, cells := 0, slots := 0, locals := 141 }) s m ([.ref (q 0), .int a1] : List Value).toArray below meth c H locs 0 0 (MQ below (kQi D cA kT A (wF q cA N nr ss sc ns nc ps dg pn pj wh st_1 sn_1 lf_1 fw) r) ([.ref (q 0), .int a1] : List Value).toArray s 0 0 A) (F0 m 0 ls [])) := by
    intro n
    induction n with
    | zero => exact (by intros; rename_i h _ _ _ _; rw [mF_obstruction_z] at h; cases h)
    | succ n ih =>
      have ih0 := ih
      intro x1 st sn lf r st_1 sn_1 lf_1 H locs ls hm hP hD hS hl
      rw [mF_obstruction_e0] at hm
      refine lv_aload_n hx hb dXF_obstruction_0 rfl (lv_at hl 0 rfl) ?_
      refine va_get (D := D) (ci := 4) (v := .ref (q 10)) (C := RXF) (T := TXF) (N := 4) hx hb hts hinXF hown hK hP 0 rfl rfl 0 (by decide) (hts _ wd_119) (fun _ h9 => h9) rfl dXF_obstruction_1 ?_
      refine lv_iload_n hx hb dXF_obstruction_4 rfl (lv_at hl 1 rfl) ?_
      obtain ⟨r11, hm11, hm⟩ := kb_s hm
      refine k_vi (As := [.int x1]) (rest := []) (w2 := (wF q cA N nr ss sc ns nc ps dg pn pj wh st sn lf fw)) ⟨hx, hb, hml, hown, hts⟩ (cG_has l D q cA N H.size nr x1 n r11 hm11) (cwV 1 hts (gV wd_136 wd_137 wd_138 wd_37 wd_139) rfl rfl rfl (by decide +kernel) ⟨Nat.le_of_ble_eq_true rfl, Nat.le_of_ble_eq_true rfl⟩) hK hN hP hD hS hA [10, 11] [0, 1, 2, 3, 4, 5, 6, 7, 8, 9] [0, 1, 2, 3, 4, 5, 6, 7, 8, 9, 10, 11] ⟨rfl, rfl, by decide, rfl, by decide, by decide, rfl, rfl, by decide⟩ (va_recv hK hP (ci := 2) (q0 := 10) rfl rfl) rfl hl.1 rfl (Nat.le_of_ble_eq_true rfl) dXF_obstruction_5 ⟨Nat.le_of_ble_eq_true rfl, Nat.le_of_ble_eq_true rfl⟩ (fun hz11 H locs hP hD hS => ?_)
      refine lv_if_eq (tgt := 26) hx hb dXF_obstruction_8 (by decide) (fun c12 => ?_) (fun c12 => ?_)
      · rw [if_pos c12] at hm
        refine lv_iconst (v := (-1)) hx hb dXF_obstruction_26 (by decide) ?_
        cases hm
        exact k_iret hx hb hr hlocks hK hP hD hS trivial dXF_obstruction_27
      · rw [if_neg c12] at hm
        refine lv_aload_n hx hb dXF_obstruction_11 rfl (lv_at hl 0 rfl) ?_
        refine va_get (D := D) (ci := 4) (v := .ref (q 3)) (C := RXF) (T := TXF) (N := 4) hx hb hts hinXF hown hK hP 0 rfl rfl 2 (by decide) (hts _ wd_121) (fun _ h9 => h9) rfl dXF_obstruction_12 ?_
        refine lv_aload_n hx hb dXF_obstruction_15 rfl (lv_at hl 0 rfl) ?_
        refine lv_iload_n hx hb dXF_obstruction_16 rfl (lv_at hl 1 rfl) ?_
        obtain ⟨r13, hm13, hm⟩ := kb_s hm
        refine k_vi (As := [.int x1]) (rest := [.ref (q 3)]) (w2 := (wF q cA N nr ss sc ns nc ps dg pn pj wh st sn lf fw)) ⟨hx, hb, hml, hown, hts⟩ (cF_componentOf l D q cA N H.size nr ss sc ns nc ps dg pn pj wh st sn lf fw x1 n r13 hm13) (cwV 1 hts (gV wd_162 wd_163 wd_0 wd_36 wd_164) rfl rfl rfl (by decide +kernel) ⟨Nat.le_of_ble_eq_true rfl, Nat.le_of_ble_eq_true rfl⟩) hK hN hP hD hS hA [0, 1, 2, 3, 4, 5, 6, 7, 8, 9, 10, 11] [] [0, 1, 2, 3, 4, 5, 6, 7, 8, 9, 10, 11] ⟨rfl, rfl, by decide, rfl, by decide, by decide, rfl, rfl, by decide⟩ (va_recv hK hP (ci := 4) (q0 := 0) rfl rfl) rfl hl.1 rfl (Nat.le_of_ble_eq_true rfl) dXF_obstruction_17 ⟨Nat.le_of_ble_eq_true rfl, Nat.le_of_ble_eq_true rfl⟩ (fun hz13 H locs hP hD hS => ?_)
        obtain ⟨⟨r14, st_14, sn_14, lf_14⟩, hm14, hm⟩ := kb_s hm
        dsimp only at hm
        refine k_vi (As := [.int r13]) (rest := []) (w2 := (wF q cA N nr ss sc ns nc ps dg pn pj wh st_14 sn_14 lf_14 fw)) ⟨hx, hb, hml, hown, hts⟩ (cE_obstructionIn l D q cA N H.size nr st sn lf r13 n r14 st_14 sn_14 lf_14 hm14) (cwV 1 hts (gV wd_329 wd_330 wd_331 wd_39 wd_332) rfl rfl rfl (by decide +kernel) ⟨Nat.le_of_ble_eq_true rfl, Nat.le_of_ble_eq_true rfl⟩) hK hN hP hD hS hA [3, 4, 10, 11] [0, 1, 2, 5, 6, 7, 8, 9] [0, 1, 2, 8, 9, 3, 4, 5, 6, 7, 10, 11] ⟨rfl, rfl, by decide, rfl, by decide, by decide, rfl, rfl, by decide⟩ (va_recv hK hP (ci := 1) (q0 := 3) rfl rfl) rfl hl.1 rfl (Nat.le_of_ble_eq_true rfl) dXF_obstruction_20 ⟨Nat.le_of_ble_eq_true rfl, Nat.le_of_ble_eq_true rfl⟩ (fun hz14 H locs hP hD hS => ?_)
        refine lv_goto (tgt := 27) hx hb dXF_obstruction_23 (by decide) ?_
        cases hm
        exact k_iret hx hb hr hlocks hK hP hD hS trivial dXF_obstruction_27
  exact key n a1 st sn lf r st_1 sn_1 lf_1 s.heap [] ls hm hP hD va_S.rf hl
set_option maxHeartbeats 4000000 in
set_option maxRecDepth 100000 in
theorem cF_obstacle (l : Launch) (D : va_G) (q : Nat → Nat) (cA : ClassId) (N : Nat) (sz : Nat) (nr : Nat → Int32) (ss : Nat → Int32) (sc : Int32) (ns : Nat → Int32) (nc : Int32) (ps : Nat → Int32) (dg : Nat → Int32) (pn : Int32) (pj : Int32) (wh : Int32) (st : Nat → Int32) (sn : Int32) (lf : Int32) (fw : Nat → Int32) (a1 : Int32) (n : Nat) (r : Int32) (st_1 : Nat → Int32) (sn_1 : Int32) (lf_1 : Int32) (hm : mF_obstacle N nr n 0 [a1] st sn lf = some (r, st_1, sn_1, lf_1)) : Met l yXF_obstacle wsXF_obstacle ({ frames := 6, cells := 0, slots := 0, locals := 141 }) (kPc D cA [.ref (q 0), .int a1] (wF q cA N nr ss sc ns nc ps dg pn pj wh st sn lf fw) sz) (kQi D cA kT (va_A (wF q cA N nr ss sc ns nc ps dg pn pj wh st sn lf fw) sz) (wF q cA N nr ss sc ns nc ps dg pn pj wh st_1 sn_1 lf_1 fw) r) 0 0 (va_A (wF q cA N nr ss sc ns nc ps dg pn pj wh st sn lf fw) sz) := by
  refine k_met (D := D) (cA := cA) (w := (wF q cA N nr ss sc ns nc ps dg pn pj wh st sn lf fw)) (sz := sz) (av := [.ref (q 0), .int a1]) (cc := cXF_obstacle) (maxL := 3) (ret := (some .int)) (Qc := fun A => kQi D cA kT A (wF q cA N nr ss sc ns nc ps dg pn pj wh st_1 sn_1 lf_1 fw) r) (by decide) rfl (Nat.le_of_ble_eq_true rfl) ?_
  intro p e s m below meth c A ls hX hK hN hA hP hD hl
  obtain ⟨hx, hb, hr, hml, hown, hts, hlocks, -⟩ := hX
  have hown : s.vm.findClass RXF = some m.cls := hown
  have hl : lv_has ls 3 [(0, .ref (q 0)), (1, .int a1)] := hl
  have hts : ∀ w ∈ W0, w.before _ s = true := fun w h => hts w (List.mem_cons_of_mem _ h)
  have key : ∀ n : Nat, (∀ (x1 : Int32) (st : Nat → Int32) (sn : Int32) (lf : Int32) (r : Int32) (st_1 : Nat → Int32) (sn_1 : Int32) (lf_1 : Int32) (H : Heap) (locs : List Loc) (ls : Array Slot), mF_obstacle N nr n 0 [x1] st sn lf = some (r, st_1, sn_1, lf_1) → va_P D vwCl (wF q cA N nr ss sc ns nc ps dg pn pj wh st sn lf fw) H → va_D A (wF q cA N nr ss sc ns nc ps dg pn pj wh st sn lf fw) → va_S A s.heap H locs → lv_has ls 3 [(0, .ref (q 0)), (1, .int x1)] → W p l e ({ frames := 6, cells := 0, slots := 0, locals := 141 }) s m ([.ref (q 0), .int a1] : List Value).toArray below meth c H locs 0 0 (MQ below (kQi D cA kT A (wF q cA N nr ss sc ns nc ps dg pn pj wh st_1 sn_1 lf_1 fw) r) ([.ref (q 0), .int a1] : List Value).toArray s 0 0 A) (F0 m 0 ls [])) ∧
    (∀ (y0 : Int32) (st : Nat → Int32) (sn : Int32) (lf : Int32) (r : Int32) (st_1 : Nat → Int32) (sn_1 : Int32) (lf_1 : Int32) (H : Heap) (locs : List Loc) (ls : Array Slot), mF_obstacle N nr n 1 [y0] st sn lf = some (r, st_1, sn_1, lf_1) → va_P D vwCl (wF q cA N nr ss sc ns nc ps dg pn pj wh st sn lf fw) H → va_D A (wF q cA N nr ss sc ns nc ps dg pn pj wh st sn lf fw) → va_S A s.heap H locs → lv_has ls 3 [(0, .ref (q 0))] → W p l e ({ frames := 6, cells := 0, slots := 0, locals := 141 }) s m ([.ref (q 0), .int a1] : List Value).toArray below meth c H locs 0 0 (MQ below (kQi D cA kT A (wF q cA N nr ss sc ns nc ps dg pn pj wh st_1 sn_1 lf_1 fw) r) ([.ref (q 0), .int a1] : List Value).toArray s 0 0 A) (F0 m 27 ls [.int y0])) := by
    intro n
    induction n with
    | zero => exact ⟨(by intros; rename_i h _ _ _ _; rw [mF_obstacle_z] at h; cases h), (by intros; rename_i h _ _ _ _; rw [mF_obstacle_z] at h; cases h)⟩
    | succ n ih =>
      obtain ⟨ih0, ih1⟩ := ih
      refine ⟨?_, ?_⟩
      · intro x1 st sn lf r st_1 sn_1 lf_1 H locs ls hm hP hD hS hl
        rw [mF_obstacle_e0] at hm
        refine lv_aload_n hx hb dXF_obstacle_0 rfl (lv_at hl 0 rfl) ?_
        refine va_get (D := D) (ci := 4) (v := .ref (q 10)) (C := RXF) (T := TXF) (N := 4) hx hb hts hinXF hown hK hP 0 rfl rfl 0 (by decide) (hts _ wd_119) (fun _ h9 => h9) rfl dXF_obstacle_1 ?_
        refine lv_iload_n hx hb dXF_obstacle_4 rfl (lv_at hl 1 rfl) ?_
        obtain ⟨r11, hm11, hm⟩ := kb_s hm
        refine k_vi (As := [.int x1]) (rest := []) (w2 := (wF q cA N nr ss sc ns nc ps dg pn pj wh st sn lf fw)) ⟨hx, hb, hml, hown, hts⟩ (cG_has l D q cA N H.size nr x1 n r11 hm11) (cwV 1 hts (gV wd_136 wd_137 wd_138 wd_37 wd_139) rfl rfl rfl (by decide +kernel) ⟨Nat.le_of_ble_eq_true rfl, Nat.le_of_ble_eq_true rfl⟩) hK hN hP hD hS hA [10, 11] [0, 1, 2, 3, 4, 5, 6, 7, 8, 9] [0, 1, 2, 3, 4, 5, 6, 7, 8, 9, 10, 11] ⟨rfl, rfl, by decide, rfl, by decide, by decide, rfl, rfl, by decide⟩ (va_recv hK hP (ci := 2) (q0 := 10) rfl rfl) rfl hl.1 rfl (Nat.le_of_ble_eq_true rfl) dXF_obstacle_5 ⟨Nat.le_of_ble_eq_true rfl, Nat.le_of_ble_eq_true rfl⟩ (fun hz11 H locs hP hD hS => ?_)
        refine lv_if_eq (tgt := 26) hx hb dXF_obstacle_8 (by decide) (fun c12 => ?_) (fun c12 => ?_)
        · rw [if_pos c12] at hm
          refine lv_iconst (v := (-1)) hx hb dXF_obstacle_26 (by decide) ?_
          exact ih1 (-1) st sn lf _ _ _ _ H locs ls hm hP hD hS (lv_sub hl [0] rfl)
        · rw [if_neg c12] at hm
          refine lv_aload_n hx hb dXF_obstacle_11 rfl (lv_at hl 0 rfl) ?_
          refine va_get (D := D) (ci := 4) (v := .ref (q 3)) (C := RXF) (T := TXF) (N := 4) hx hb hts hinXF hown hK hP 0 rfl rfl 2 (by decide) (hts _ wd_121) (fun _ h9 => h9) rfl dXF_obstacle_12 ?_
          refine lv_aload_n hx hb dXF_obstacle_15 rfl (lv_at hl 0 rfl) ?_
          refine lv_iload_n hx hb dXF_obstacle_16 rfl (lv_at hl 1 rfl) ?_
          obtain ⟨r13, hm13, hm⟩ := kb_s hm
          refine k_vi (As := [.int x1]) (rest := [.ref (q 3)]) (w2 := (wF q cA N nr ss sc ns nc ps dg pn pj wh st sn lf fw)) ⟨hx, hb, hml, hown, hts⟩ (cF_componentOf l D q cA N H.size nr ss sc ns nc ps dg pn pj wh st sn lf fw x1 n r13 hm13) (cwV 1 hts (gV wd_162 wd_163 wd_0 wd_36 wd_164) rfl rfl rfl (by decide +kernel) ⟨Nat.le_of_ble_eq_true rfl, Nat.le_of_ble_eq_true rfl⟩) hK hN hP hD hS hA [0, 1, 2, 3, 4, 5, 6, 7, 8, 9, 10, 11] [] [0, 1, 2, 3, 4, 5, 6, 7, 8, 9, 10, 11] ⟨rfl, rfl, by decide, rfl, by decide, by decide, rfl, rfl, by decide⟩ (va_recv hK hP (ci := 4) (q0 := 0) rfl rfl) rfl hl.1 rfl (Nat.le_of_ble_eq_true rfl) dXF_obstacle_17 ⟨Nat.le_of_ble_eq_true rfl, Nat.le_of_ble_eq_true rfl⟩ (fun hz13 H locs hP hD hS => ?_)
          obtain ⟨⟨r14, st_14, sn_14, lf_14⟩, hm14, hm⟩ := kb_s hm
          dsimp only at hm
          refine k_vi (As := [.int r13]) (rest := []) (w2 := (wF q cA N nr ss sc ns nc ps dg pn pj wh st_14 sn_14 lf_14 fw)) ⟨hx, hb, hml, hown, hts⟩ (cE_obstructionIn l D q cA N H.size nr st sn lf r13 n r14 st_14 sn_14 lf_14 hm14) (cwV 1 hts (gV wd_329 wd_330 wd_331 wd_39 wd_332) rfl rfl rfl (by decide +kernel) ⟨Nat.le_of_ble_eq_true rfl, Nat.le_of_ble_eq_true rfl⟩) hK hN hP hD hS hA [3, 4, 10, 11] [0, 1, 2, 5, 6, 7, 8, 9] [0, 1, 2, 8, 9, 3, 4, 5, 6, 7, 10, 11] ⟨rfl, rfl, by decide, rfl, by decide, by decide, rfl, rfl, by decide⟩ (va_recv hK hP (ci := 1) (q0 := 3) rfl rfl) rfl hl.1 rfl (Nat.le_of_ble_eq_true rfl) dXF_obstacle_20 ⟨Nat.le_of_ble_eq_true rfl, Nat.le_of_ble_eq_true rfl⟩ (fun hz14 H locs hP hD hS => ?_)
          refine lv_goto (tgt := 27) hx hb dXF_obstacle_23 (by decide) ?_
          exact ih1 r14 st_14 sn_14 lf_14 _ _ _ _ H locs ls hm hP hD hS (lv_sub hl [0] rfl)
      · intro y0 st sn lf r st_1 sn_1 lf_1 H locs ls hm hP hD hS hl
        rw [mF_obstacle_e1] at hm
        refine lv_istore_n (lv' := [(2, .int y0), (0, .ref (q 0))]) hx hb dXF_obstacle_27 rfl hl (by decide) rfl (fun ls hl => ?_)
        refine lv_iload_n hx hb dXF_obstacle_28 rfl (lv_at hl 0 rfl) ?_
        refine lv_iconst (v := (-1)) hx hb dXF_obstacle_29 (by decide) ?_
        refine lv_icmp_ne (tgt := 37) hx hb dXF_obstacle_30 (by decide) (fun c111 => ?_) (fun c111 => ?_)
        · rw [if_neg c111] at hm
          refine lv_iload_n hx hb dXF_obstacle_37 rfl (lv_at hl 0 rfl) ?_
          obtain ⟨r112, hm112, hm⟩ := kb_s hm
          refine k_s0 (As := [.int y0]) (rest := []) ⟨hx, hb, hml, hown, hts⟩ (cJ_bitCount l D cA H.size y0 n r112 hm112) ⟨callB_of 1 hts (gC wd_195) rfl rfl rfl (hts _ wd_42) (hts _ wd_338) (by decide +kernel) ⟨Nat.le_of_ble_eq_true rfl, Nat.le_of_ble_eq_true rfl⟩, hts _ wd_194⟩ hK hN hP hD hS hA rfl hl.1 rfl (Nat.le_of_ble_eq_true rfl) dXF_obstacle_38 ⟨Nat.le_of_ble_eq_true rfl, Nat.le_of_ble_eq_true rfl⟩ (fun hz112 H locs hP hD hS => ?_)
          refine lv_aload_n hx hb dXF_obstacle_41 rfl (lv_at hl 1 rfl) ?_
          refine va_get (D := D) (ci := 4) (v := .ref (q 10)) (C := RXF) (T := TXF) (N := 4) hx hb hts hinXF hown hK hP 0 rfl rfl 0 (by decide) (hts _ wd_119) (fun _ h9 => h9) rfl dXF_obstacle_42 ?_
          refine lv_iload_n hx hb dXF_obstacle_45 rfl (lv_at hl 0 rfl) ?_
          obtain ⟨r113, hm113, hm⟩ := kb_s hm
          refine k_vi (As := [.int y0]) (rest := [.int r112]) (w2 := (wF q cA N nr ss sc ns nc ps dg pn pj wh st sn lf fw)) ⟨hx, hb, hml, hown, hts⟩ (cG_edgesInside l D q cA N H.size nr y0 n r113 hm113) (cwV 1 hts (gV wd_339 wd_340 wd_341 wd_37 wd_342) rfl rfl rfl (by decide +kernel) ⟨Nat.le_of_ble_eq_true rfl, Nat.le_of_ble_eq_true rfl⟩) hK hN hP hD hS hA [10, 11] [0, 1, 2, 3, 4, 5, 6, 7, 8, 9] [0, 1, 2, 3, 4, 5, 6, 7, 8, 9, 10, 11] ⟨rfl, rfl, by decide, rfl, by decide, by decide, rfl, rfl, by decide⟩ (va_recv hK hP (ci := 2) (q0 := 10) rfl rfl) rfl hl.1 rfl (Nat.le_of_ble_eq_true rfl) dXF_obstacle_46 ⟨Nat.le_of_ble_eq_true rfl, Nat.le_of_ble_eq_true rfl⟩ (fun hz113 H locs hP hD hS => ?_)
          obtain ⟨r114, hm114, hm⟩ := kb_s hm
          refine k_s0 (As := [.int r112, .int r113]) (rest := []) ⟨hx, hb, hml, hown, hts⟩ (cF_obstacleKind l D cA H.size r112 r113 n r114 hm114) (cwS 2 hts (gS wd_344 wd_345 wd_36 wd_346) rfl rfl rfl (by decide +kernel) ⟨Nat.le_of_ble_eq_true rfl, Nat.le_of_ble_eq_true rfl⟩) hK hN hP hD hS hA rfl hl.1 rfl (Nat.le_of_ble_eq_true rfl) dXF_obstacle_49 ⟨Nat.le_of_ble_eq_true rfl, Nat.le_of_ble_eq_true rfl⟩ (fun hz114 H locs hP hD hS => ?_)
          cases hm
          exact k_iret hx hb hr hlocks hK hP hD hS trivial dXF_obstacle_52
        · rw [if_pos c111] at hm
          refine lv_iconst (v := (-1)) hx hb dXF_obstacle_33 (by decide) ?_
          refine lv_goto (tgt := 52) hx hb dXF_obstacle_34 (by decide) ?_
          cases hm
          exact k_iret hx hb hr hlocks hK hP hD hS trivial dXF_obstacle_52
  exact (key n).1 a1 st sn lf r st_1 sn_1 lf_1 s.heap [] ls hm hP hD va_S.rf hl
