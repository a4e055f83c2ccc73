set_option maxHeartbeats 4000000 in
set_option maxRecDepth 100000 in
theorem cF_vertices (l : Launch) (D : va_G) (q : Nat → Nat) (cA : ClassId) (N : Nat) (sz : Nat) (nr : Nat → Int32) (ss : Nat → Int32) (sc : Int32) (ns : Nat → Int32) (nc : Int32) (ps : Nat → Int32) (dg : Nat → Int32) (pn : Int32) (pj : Int32) (wh : Int32) (st : Nat → Int32) (sn : Int32) (lf : Int32) (fw : Nat → Int32) (n : Nat) (r : Int32) (hm : mF_vertices N n 0 [] = some r) : Met l yXF_vertices wsXF_vertices ({ frames := 1, cells := 0, slots := 0, locals := 20 }) (kPc D cA [.ref (q 0)] (wF q cA N nr ss sc ns nc ps dg pn pj wh st sn lf fw) sz) (kQi D cA kT (va_A (wF q cA N nr ss sc ns nc ps dg pn pj wh st sn lf fw) sz) (wF q cA N nr ss sc ns nc ps dg pn pj wh st sn lf fw) r) 0 0 (va_A (wF q cA N nr ss sc ns nc ps dg pn pj wh st sn lf fw) sz) := by
  refine k_met (D := D) (cA := cA) (w := (wF q cA N nr ss sc ns nc ps dg pn pj wh st sn lf fw)) (sz := sz) (av := [.ref (q 0)]) (cc := cXF_vertices) (maxL := 1) (ret := (some .int)) (Qc := fun A => kQi D cA kT A (wF q cA N nr ss sc ns nc ps dg pn pj wh st sn lf fw) r) (by decide) rfl (Nat.le_of_ble_eq_true rfl) ?_
  intro p e s m below meth c A ls hX hK hN hA hP hD hl
  obtain ⟨hx, hb, hr, hml, hown, hts, hlocks, -⟩ := hX
  have hown : s.vm.findClass RXF = some m.cls := hown
  have hl : lv_has ls 1 [(0, .ref (q 0))] := hl
  have hts : ∀ w ∈ W0, w.before _ s = true := fun w h => hts w (List.mem_cons_of_mem _ h)
  have key : ∀ n : Nat, (∀ (r : Int32) (H : Heap) (locs : List Loc) (ls : Array Slot), mF_vertices N n 0 [] = some r → va_P D vwCl (wF q cA N nr ss sc ns nc ps dg pn pj wh st sn lf fw) H → va_D A (wF q cA N nr ss sc ns nc ps dg pn pj wh st sn lf fw) → va_S A s.heap H locs → lv_has ls 1 [(0, .ref (q 0))] → W p l e ({ frames := 1, cells := 0, slots := 0, locals := 20 }) s m ([.ref (q 0)] : List Value).toArray below meth c H locs 0 0 (MQ below (kQi D cA kT A (wF q cA N nr ss sc ns nc ps dg pn pj wh st sn lf fw) r) ([.ref (q 0)] : List Value).toArray s 0 0 A) (F0 m 0 ls [])) := by
    intro n
    induction n with
    | zero => exact (by intros; rename_i h _ _ _ _; rw [mF_vertices_z] at h; cases h)
    | succ n ih =>
      have ih0 := ih
      intro r H locs ls hm hP hD hS hl
      rw [mF_vertices_e0] at hm
      refine lv_aload_n hx hb dXF_vertices_0 rfl (lv_at hl 0 rfl) ?_
      refine va_get (D := D) (ci := 4) (v := .ref (q 10)) (C := RXF) (T := TXF) (N := 4) hx hb hts hinXF hown hK hP 0 rfl rfl 0 (by decide) (hts _ wd_119) (fun _ h9 => h9) rfl dXF_vertices_1 ?_
      obtain ⟨r11, hm11, hm⟩ := kb_s hm
      refine k_vi (As := []) (rest := []) (w2 := (wF q cA N nr ss sc ns nc ps dg pn pj wh st sn lf fw)) ⟨hx, hb, hml, hown, hts⟩ (cG_size l D q cA N H.size nr n r11 hm11) (cwV 0 hts (gV wd_131 wd_70 wd_71 wd_37 wd_72) rfl rfl rfl (by decide +kernel) ⟨Nat.le_of_ble_eq_true rfl, Nat.le_of_ble_eq_true rfl⟩) hK hN hP hD hS hA [10, 11] [0, 1, 2, 3, 4, 5, 6, 7, 8, 9] [0, 1, 2, 3, 4, 5, 6, 7, 8, 9, 10, 11] ⟨rfl, rfl, by decide, rfl, by decide, by decide, rfl, rfl, by decide⟩ (va_recv hK hP (ci := 2) (q0 := 10) rfl rfl) rfl hl.1 rfl (Nat.le_of_ble_eq_true rfl) dXF_vertices_4 ⟨Nat.le_of_ble_eq_true rfl, Nat.le_of_ble_eq_true rfl⟩ (fun hz11 H locs hP hD hS => ?_)
      cases hm
      exact k_iret hx hb hr hlocks hK hP hD hS trivial dXF_vertices_7
  exact key n r s.heap [] ls hm hP hD va_S.rf hl
set_option maxHeartbeats 4000000 in
set_option maxRecDepth 100000 in
theorem cF_flip (l : Launch) (D : va_G) (q : Nat → Nat) (cA : ClassId) (N : Nat) (sz : Nat) (nr : Nat → Int32) (ss : Nat → Int32) (sc : Int32) (ns : Nat → Int32) (nc : Int32) (ps : Nat → Int32) (dg : Nat → Int32) (pn : Int32) (pj : Int32) (wh : Int32) (st : Nat → Int32) (sn : Int32) (lf : Int32) (fw : Nat → Int32) (a1 a2 : Int32) (n : Nat) (r : Int32) (nr_1 : Nat → Int32) (wh_1 : Int32) (hm : mF_flip N n 0 [a1, a2] nr wh = some (r, nr_1, wh_1)) : Met l yXF_flip wsXF_flip ({ frames := 2, cells := 0, slots := 0, locals := 43 }) (kPc D cA [.ref (q 0), .int a1, .int a2] (wF q cA N nr ss sc ns nc ps dg pn pj wh st sn lf fw) sz) (kQi D cA kB (va_A (wF q cA N nr ss sc ns nc ps dg pn pj wh st sn lf fw) sz) (wF q cA N nr_1 ss sc ns nc ps dg pn pj wh_1 st sn lf fw) r) 0 0 (va_A (wF q cA N nr ss sc ns nc ps dg pn pj wh st sn lf fw) sz) := by
  refine k_met (D := D) (cA := cA) (w := (wF q cA N nr ss sc ns nc ps dg pn pj wh st sn lf fw)) (sz := sz) (av := [.ref (q 0), .int a1, .int a2]) (cc := cXF_flip) (maxL := 3) (ret := (some .boolean)) (Qc := fun A => kQi D cA kB A (wF q cA N nr_1 ss sc ns nc ps dg pn pj wh_1 st sn lf fw) r) (by decide) rfl (Nat.le_of_ble_eq_true rfl) ?_
  intro p e s m below meth c A ls hX hK hN hA hP hD hl
  obtain ⟨hx, hb, hr, hml, hown, hts, hlocks, -⟩ := hX
  have hown : s.vm.findClass RXF = some m.cls := hown
  have hl : lv_has ls 3 [(0, .ref (q 0)), (1, .int a1), (2, .int a2)] := hl
  have hts : ∀ w ∈ W0, w.before _ s = true := fun w h => hts w (List.mem_cons_of_mem _ h)
  have key : ∀ n : Nat, (∀ (x1 x2 : Int32) (nr : Nat → Int32) (wh : Int32) (r : Int32) (nr_1 : Nat → Int32) (wh_1 : Int32) (H : Heap) (locs : List Loc) (ls : Array Slot), mF_flip N n 0 [x1, x2] nr wh = some (r, nr_1, wh_1) → va_P D vwCl (wF q cA N nr ss sc ns nc ps dg pn pj wh st sn lf fw) H → va_D A (wF q cA N nr ss sc ns nc ps dg pn pj wh st sn lf fw) → va_S A s.heap H locs → lv_has ls 3 [(0, .ref (q 0)), (1, .int x1), (2, .int x2)] → W p l e ({ frames := 2, cells := 0, slots := 0, locals := 43 }) s m ([.ref (q 0), .int a1, .int a2] : List Value).toArray below meth c H locs 0 0 (MQ below (kQi D cA kB A (wF q cA N nr_1 ss sc ns nc ps dg pn pj wh_1 st sn lf fw) r) ([.ref (q 0), .int a1, .int a2] : List Value).toArray s 0 0 A) (F0 m 0 ls [])) := by
    intro n
    induction n with
    | zero => exact (by intros; rename_i h _ _ _ _; rw [mF_flip_z] at h; cases h)
    | succ n ih =>
      have ih0 := ih
      intro x1 x2 nr wh r nr_1 wh_1 H locs ls hm hP hD hS hl
      rw [mF_flip_e0] at hm
      refine lv_aload_n hx hb dXF_flip_0 rfl (lv_at hl 0 rfl) ?_
      refine va_get (D := D) (ci := 4) (v := .ref (q 10)) (C := RXF) (T := TXF) (N := 4) hx hb hts hinXF hown hK hP 0 rfl rfl 0 (by decide) (hts _ wd_119) (fun _ h9 => h9) rfl dXF_flip_1 ?_
      refine lv_iload_n hx hb dXF_flip_4 rfl (lv_at hl 1 rfl) ?_
      obtain ⟨r11, hm11, hm⟩ := kb_s hm
      refine k_vi (As := [.int x1]) (rest := []) (w2 := (wF q cA N nr ss sc ns nc ps dg pn pj wh st sn lf fw)) ⟨hx, hb, hml, hown, hts⟩ (cG_has l D q cA N H.size nr x1 n r11 hm11) (cwV 1 hts (gV wd_136 wd_137 wd_138 wd_37 wd_139) rfl rfl rfl (by decide +kernel) ⟨Nat.le_of_ble_eq_true rfl, Nat.le_of_ble_eq_true rfl⟩) hK hN hP hD hS hA [10, 11] [0, 1, 2, 3, 4, 5, 6, 7, 8, 9] [0, 1, 2, 3, 4, 5, 6, 7, 8, 9, 10, 11] ⟨rfl, rfl, by decide, rfl, by decide, by decide, rfl, rfl, by decide⟩ (va_recv hK hP (ci := 2) (q0 := 10) rfl rfl) rfl hl.1 rfl (Nat.le_of_ble_eq_true rfl) dXF_flip_5 ⟨Nat.le_of_ble_eq_true rfl, Nat.le_of_ble_eq_true rfl⟩ (fun hz11 H locs hP hD hS => ?_)
      refine lv_if_eq (tgt := 27) hx hb dXF_flip_8 (by decide) (fun c12 => ?_) (fun c12 => ?_)
      · rw [if_pos c12] at hm
        refine lv_iconst (v := 0) hx hb dXF_flip_27 (by decide) ?_
        cases hm
        exact k_zret hx hb hr hlocks hK hP hD hS (Or.inl rfl) dXF_flip_28
      · rw [if_neg c12] at hm
        refine lv_aload_n hx hb dXF_flip_11 rfl (lv_at hl 0 rfl) ?_
        refine va_get (D := D) (ci := 4) (v := .ref (q 10)) (C := RXF) (T := TXF) (N := 4) hx hb hts hinXF hown hK hP 0 rfl rfl 0 (by decide) (hts _ wd_119) (fun _ h9 => h9) rfl dXF_flip_12 ?_
        refine lv_iload_n hx hb dXF_flip_15 rfl (lv_at hl 2 rfl) ?_
        obtain ⟨r13, hm13, hm⟩ := kb_s hm
        refine k_vi (As := [.int x2]) (rest := []) (w2 := (wF q cA N nr ss sc ns nc ps dg pn pj wh st sn lf fw)) ⟨hx, hb, hml, hown, hts⟩ (cG_has l D q cA N H.size nr x2 n r13 hm13) (cwV 1 hts (gV wd_136 wd_137 wd_138 wd_37 wd_139) rfl rfl rfl (by decide +kernel) ⟨Nat.le_of_ble_eq_true rfl, Nat.le_of_ble_eq_true rfl⟩) hK hN hP hD hS hA [10, 11] [0, 1, 2, 3, 4, 5, 6, 7, 8, 9] [0, 1, 2, 3, 4, 5, 6, 7, 8, 9, 10, 11] ⟨rfl, rfl, by decide, rfl, by decide, by decide, rfl, rfl, by decide⟩ (va_recv hK hP (ci := 2) (q0 := 10) rfl rfl) rfl hl.1 rfl (Nat.le_of_ble_eq_true rfl) dXF_flip_16 ⟨Nat.le_of_ble_eq_true rfl, Nat.le_of_ble_eq_true rfl⟩ (fun hz13 H locs hP hD hS => ?_)
        refine lv_if_eq (tgt := 27) hx hb dXF_flip_19 (by decide) (fun c14 => ?_) (fun c14 => ?_)
        · rw [if_pos c14] at hm
          refine lv_iconst (v := 0) hx hb dXF_flip_27 (by decide) ?_
          cases hm
          exact k_zret hx hb hr hlocks hK hP hD hS (Or.inl rfl) dXF_flip_28
        · rw [if_neg c14] at hm
          refine lv_iload_n hx hb dXF_flip_22 rfl (lv_at hl 1 rfl) ?_
          refine lv_iload_n hx hb dXF_flip_23 rfl (lv_at hl 2 rfl) ?_
          refine lv_icmp_ne (tgt := 29) hx hb dXF_flip_24 (by decide) (fun c15 => ?_) (fun c15 => ?_)
          · rw [if_neg c15] at hm
            refine lv_aload_n hx hb dXF_flip_29 rfl (lv_at hl 0 rfl) ?_
            refine va_get (D := D) (ci := 4) (v := .ref (q 10)) (C := RXF) (T := TXF) (N := 4) hx hb hts hinXF hown hK hP 0 rfl rfl 0 (by decide) (hts _ wd_119) (fun _ h9 => h9) rfl dXF_flip_30 ?_
            refine lv_iload_n hx hb dXF_flip_33 rfl (lv_at hl 1 rfl) ?_
            refine lv_iload_n hx hb dXF_flip_34 rfl (lv_at hl 2 rfl) ?_
            obtain ⟨nr_16, hm16, hm⟩ := kb_s hm
            refine k_vv (As := [.int x1, .int x2]) (rest := []) (w2 := (wF q cA N nr_16 ss sc ns nc ps dg pn pj wh st sn lf fw)) ⟨hx, hb, hml, hown, hts⟩ (cG_toggle l D q cA N H.size nr x1 x2 n nr_16 hm16) (cwV 2 hts (gV wd_140 wd_141 wd_142 wd_37 wd_143) rfl rfl rfl (by decide +kernel) ⟨Nat.le_of_ble_eq_true rfl, Nat.le_of_ble_eq_true rfl⟩) hK hN hP hD hS hA [10, 11] [0, 1, 2, 3, 4, 5, 6, 7, 8, 9] [0, 1, 2, 3, 4, 5, 6, 7, 8, 9, 10, 11] ⟨rfl, rfl, by decide, rfl, by decide, by decide, rfl, rfl, by decide⟩ (va_recv hK hP (ci := 2) (q0 := 10) rfl rfl) rfl hl.1 rfl (Nat.le_of_ble_eq_true rfl) dXF_flip_35 ⟨Nat.le_of_ble_eq_true rfl, Nat.le_of_ble_eq_true rfl⟩ (fun H locs hP hD hS => ?_)
            refine lv_aload_n hx hb dXF_flip_38 rfl (lv_at hl 0 rfl) ?_
            refine va_get (D := D) (ci := 4) (v := .ref (q 5)) (C := RXF) (T := TXF) (N := 4) hx hb hts hinXF hown hK hP 0 rfl rfl 1 (by decide) (hts _ wd_120) (fun _ h9 => h9) rfl dXF_flip_39 ?_
            obtain ⟨wh_17, hm17, hm⟩ := kb_s hm
            refine k_vv (As := []) (rest := []) (w2 := (wF q cA N nr_16 ss sc ns nc ps dg pn pj wh_17 st sn lf fw)) ⟨hx, hb, hml, hown, hts⟩ (cT_forget l D q cA N H.size nr_16 ss sc ns nc ps dg pn pj wh n wh_17 hm17) (cwV 0 hts (gV wd_144 wd_145 wd_146 wd_38 wd_147) rfl rfl rfl (by decide +kernel) ⟨Nat.le_of_ble_eq_true rfl, Nat.le_of_ble_eq_true rfl⟩) hK hN hP hD hS hA [5, 6, 7, 8, 9, 10, 11] [0, 1, 2, 3, 4] [0, 1, 2, 3, 4, 5, 6, 7, 8, 9, 10, 11] ⟨rfl, rfl, by decide, rfl, by decide, by decide, rfl, rfl, by decide⟩ (va_recv hK hP (ci := 3) (q0 := 5) rfl rfl) rfl hl.1 rfl (Nat.le_of_ble_eq_true rfl) dXF_flip_42 ⟨Nat.le_of_ble_eq_true rfl, Nat.le_of_ble_eq_true rfl⟩ (fun H locs hP hD hS => ?_)
            refine lv_aload_n hx hb dXF_flip_45 rfl (lv_at hl 0 rfl) ?_
            refine va_get (D := D) (ci := 4) (v := .ref (q 10)) (C := RXF) (T := TXF) (N := 4) hx hb hts hinXF hown hK hP 0 rfl rfl 0 (by decide) (hts _ wd_119) (fun _ h9 => h9) rfl dXF_flip_46 ?_
            refine lv_iload_n hx hb dXF_flip_49 rfl (lv_at hl 1 rfl) ?_
            refine lv_iload_n hx hb dXF_flip_50 rfl (lv_at hl 2 rfl) ?_
            obtain ⟨r18, hm18, hm⟩ := kb_s hm
            refine k_vi (As := [.int x1, .int x2]) (rest := []) (w2 := (wF q cA N nr_16 ss sc ns nc ps dg pn pj wh_17 st sn lf fw)) ⟨hx, hb, hml, hown, hts⟩ (cG_edge l D q cA N H.size nr_16 x1 x2 n r18 hm18) (cwV 2 hts (gV wd_148 wd_149 wd_150 wd_37 wd_151) rfl rfl rfl (by decide +kernel) ⟨Nat.le_of_ble_eq_true rfl, Nat.le_of_ble_eq_true rfl⟩) hK hN hP hD hS hA [10, 11] [0, 1, 2, 3, 4, 5, 6, 7, 8, 9] [0, 1, 2, 3, 4, 5, 6, 7, 8, 9, 10, 11] ⟨rfl, rfl, by decide, rfl, by decide, by decide, rfl, rfl, by decide⟩ (va_recv hK hP (ci := 2) (q0 := 10) rfl rfl) rfl hl.1 rfl (Nat.le_of_ble_eq_true rfl) dXF_flip_51 ⟨Nat.le_of_ble_eq_true rfl, Nat.le_of_ble_eq_true rfl⟩ (fun hz18 H locs hP hD hS => ?_)
            cases hm
            exact k_zret hx hb hr hlocks hK hP hD hS hz18 dXF_flip_54
          · rw [if_pos c15] at hm
            refine lv_iconst (v := 0) hx hb dXF_flip_27 (by decide) ?_
            cases hm
            exact k_zret hx hb hr hlocks hK hP hD hS (Or.inl rfl) dXF_flip_28
  exact key n a1 a2 nr wh r nr_1 wh_1 s.heap [] ls hm hP hD va_S.rf hl
set_option maxHeartbeats 4000000 in
set_option maxRecDepth 100000 in
theorem cF_neighbours (l : Launch) (D : va_G) (q : Nat → Nat) (cA : ClassId) (N : Nat) (sz : Nat) (nr : Nat → Int32) (ss : Nat → Int32) (sc : Int32) (ns : Nat → Int32) (nc : Int32) (ps : Nat → Int32) (dg : Nat → Int32) (pn : Int32) (pj : Int32) (wh : Int32) (st : Nat → Int32) (sn : Int32) (lf : Int32) (fw : Nat → Int32) (a1 a2 : Int32) (n : Nat) (r : Int32) (hm : mF_neighbours N nr n 0 [a1, a2] = some r) : Met l yXF_neighbours wsXF_neighbours ({ frames := 2, cells := 0, slots := 0, locals := 43 }) (kPc D cA [.ref (q 0), .int a1, .int a2] (wF q cA N nr ss sc ns nc ps dg pn pj wh st sn lf fw) sz) (kQi D cA kB (va_A (wF q cA N nr ss sc ns nc ps dg pn pj wh st sn lf fw) sz) (wF q cA N nr ss sc ns nc ps dg pn pj wh st sn lf fw) r) 0 0 (va_A (wF q cA N nr ss sc ns nc ps dg pn pj wh st sn lf fw) sz) := by
  refine k_met (D := D) (cA := cA) (w := (wF q cA N nr ss sc ns nc ps dg pn pj wh st sn lf fw)) (sz := sz) (av := [.ref (q 0), .int a1, .int a2]) (cc := cXF_neighbours) (maxL := 3) (ret := (some .boolean)) (Qc := fun A => kQi D cA kB A (wF q cA N nr ss sc ns nc ps dg pn pj wh st sn lf fw) r) (by decide) rfl (Nat.le_of_ble_eq_true rfl) ?_
  intro p e s m below meth c A ls hX hK hN hA hP hD hl
  obtain ⟨hx, hb, hr, hml, hown, hts, hlocks, -⟩ := hX
  have hown : s.vm.findClass RXF = some m.cls := hown
  have hl : lv_has ls 3 [(0, .ref (q 0)), (1, .int a1), (2, .int a2)] := hl
  have hts : ∀ w ∈ W0, w.before _ s = true := fun w h => hts w (List.mem_cons_of_mem _ h)
  have key : ∀ n : Nat, (∀ (x1 x2 : Int32) (r : Int32) (H : Heap) (locs : List Loc) (ls : Array Slot), mF_neighbours N nr n 0 [x1, x2] = some r → va_P D vwCl (wF q cA N nr ss sc ns nc ps dg pn pj wh st sn lf fw) H → va_D A (wF q cA N nr ss sc ns nc ps dg pn pj wh st sn lf fw) → va_S A s.heap H locs → lv_has ls 3 [(0, .ref (q 0)), (1, .int x1), (2, .int x2)] → W p l e ({ frames := 2, cells := 0, slots := 0, locals := 43 }) s m ([.ref (q 0), .int a1, .int a2] : List Value).toArray below meth c H locs 0 0 (MQ below (kQi D cA kB A (wF q cA N nr ss sc ns nc ps dg pn pj wh st sn lf fw) r) ([.ref (q 0), .int a1, .int a2] : List Value).toArray s 0 0 A) (F0 m 0 ls [])) := by
    intro n
    induction n with
    | zero => exact (by intros; rename_i h _ _ _ _; rw [mF_neighbours_z] at h; cases h)
    | succ n ih =>
      have ih0 := ih
      intro x1 x2 r H locs ls hm hP hD hS hl
      rw [mF_neighbours_e0] at hm
      refine lv_aload_n hx hb dXF_neighbours_0 rfl (lv_at hl 0 rfl) ?_
      refine va_get (D := D) (ci := 4) (v := .ref (q 10)) (C := RXF) (T := TXF) (N := 4) hx hb hts hinXF hown hK hP 0 rfl rfl 0 (by decide) (hts _ wd_119) (fun _ h9 => h9) rfl dXF_neighbours_1 ?_
      refine lv_iload_n hx hb dXF_neighbours_4 rfl (lv_at hl 1 rfl) ?_
      obtain ⟨r11, hm11, hm⟩ := kb_s hm
      refine k_vi (As := [.int x1]) (rest := []) (w2 := (wF q cA N nr ss sc ns nc ps dg pn pj wh st sn lf fw)) ⟨hx, hb, hml, hown, hts⟩ (cG_has l D q cA N H.size nr x1 n r11 hm11) (cwV 1 hts (gV wd_136 wd_137 wd_138 wd_37 wd_139) rfl rfl rfl (by decide +kernel) ⟨Nat.le_of_ble_eq_true rfl, Nat.le_of_ble_eq_true rfl⟩) hK hN hP hD hS hA [10, 11] [0, 1, 2, 3, 4, 5, 6, 7, 8, 9] [0, 1, 2, 3, 4, 5, 6, 7, 8, 9, 10, 11] ⟨rfl, rfl, by decide, rfl, by decide, by decide, rfl, rfl, by decide⟩ (va_recv hK hP (ci := 2) (q0 := 10) rfl rfl) rfl hl.1 rfl (Nat.le_of_ble_eq_true rfl) dXF_neighbours_5 ⟨Nat.le_of_ble_eq_true rfl, Nat.le_of_ble_eq_true rfl⟩ (fun hz11 H locs hP hD hS => ?_)
      refine lv_if_eq (tgt := 38) hx hb dXF_neighbours_8 (by decide) (fun c12 => ?_) (fun c12 => ?_)
      · rw [if_pos c12] at hm
        refine lv_iconst (v := 0) hx hb dXF_neighbours_38 (by decide) ?_
        cases hm
        exact k_zret hx hb hr hlocks hK hP hD hS (Or.inl rfl) dXF_neighbours_39
      · rw [if_neg c12] at hm
        refine lv_aload_n hx hb dXF_neighbours_11 rfl (lv_at hl 0 rfl) ?_
        refine va_get (D := D) (ci := 4) (v := .ref (q 10)) (C := RXF) (T := TXF) (N := 4) hx hb hts hinXF hown hK hP 0 rfl rfl 0 (by decide) (hts _ wd_119) (fun _ h9 => h9) rfl dXF_neighbours_12 ?_
        refine lv_iload_n hx hb dXF_neighbours_15 rfl (lv_at hl 2 rfl) ?_
        obtain ⟨r13, hm13, hm⟩ := kb_s hm
        refine k_vi (As := [.int x2]) (rest := []) (w2 := (wF q cA N nr ss sc ns nc ps dg pn pj wh st sn lf fw)) ⟨hx, hb, hml, hown, hts⟩ (cG_has l D q cA N H.size nr x2 n r13 hm13) (cwV 1 hts (gV wd_136 wd_137 wd_138 wd_37 wd_139) rfl rfl rfl (by decide +kernel) ⟨Nat.le_of_ble_eq_true rfl, Nat.le_of_ble_eq_true rfl⟩) hK hN hP hD hS hA [10, 11] [0, 1, 2, 3, 4, 5, 6, 7, 8, 9] [0, 1, 2, 3, 4, 5, 6, 7, 8, 9, 10, 11] ⟨rfl, rfl, by decide, rfl, by decide, by decide, rfl, rfl, by decide⟩ (va_recv hK hP (ci := 2) (q0 := 10) rfl rfl) rfl hl.1 rfl (Nat.le_of_ble_eq_true rfl) dXF_neighbours_16 ⟨Nat.le_of_ble_eq_true rfl, Nat.le_of_ble_eq_true rfl⟩ (fun hz13 H locs hP hD hS => ?_)
        refine lv_if_eq (tgt := 38) hx hb dXF_neighbours_19 (by decide) (fun c14 => ?_) (fun c14 => ?_)
        · rw [if_pos c14] at hm
          refine lv_iconst (v := 0) hx hb dXF_neighbours_38 (by decide) ?_
          cases hm
          exact k_zret hx hb hr hlocks hK hP hD hS (Or.inl rfl) dXF_neighbours_39
        · rw [if_neg c14] at hm
          refine lv_aload_n hx hb dXF_neighbours_22 rfl (lv_at hl 0 rfl) ?_
          refine va_get (D := D) (ci := 4) (v := .ref (q 10)) (C := RXF) (T := TXF) (N := 4) hx hb hts hinXF hown hK hP 0 rfl rfl 0 (by decide) (hts _ wd_119) (fun _ h9 => h9) rfl dXF_neighbours_23 ?_
          refine lv_iload_n hx hb dXF_neighbours_26 rfl (lv_at hl 1 rfl) ?_
          refine lv_iload_n hx hb dXF_neighbours_27 rfl (lv_at hl 2 rfl) ?_
          obtain ⟨r15, hm15, hm⟩ := kb_s hm
          refine k_vi (As := [.int x1, .int x2]) (rest := []) (w2 := (wF q cA N nr ss sc ns nc ps dg pn pj wh st sn lf fw)) ⟨hx, hb, hml, hown, hts⟩ (cG_edge l D q cA N H.size nr x1 x2 n r15 hm15) (cwV 2 hts (gV wd_148 wd_149 wd_150 wd_37 wd_151) rfl rfl rfl (by decide +kernel) ⟨Nat.le_of_ble_eq_true rfl, Nat.le_of_ble_eq_true rfl⟩) hK hN hP hD hS hA [10, 11] [0, 1, 2, 3, 4, 5, 6, 7, 8, 9] [0, 1, 2, 3, 4, 5, 6, 7, 8, 9, 10, 11] ⟨rfl, rfl, by decide, rfl, by decide, by decide, rfl, rfl, by decide⟩ (va_recv hK hP (ci := 2) (q0 := 10) rfl rfl) rfl hl.1 rfl (Nat.le_of_ble_eq_true rfl) dXF_neighbours_28 ⟨Nat.le_of_ble_eq_true rfl, Nat.le_of_ble_eq_true rfl⟩ (fun hz15 H locs hP hD hS => ?_)
          refine lv_if_eq (tgt := 38) hx hb dXF_neighbours_31 (by decide) (fun c16 => ?_) (fun c16 => ?_)
          · rw [if_pos c16] at hm
            refine lv_iconst (v := 0) hx hb dXF_neighbours_38 (by decide) ?_
            cases hm
            exact k_zret hx hb hr hlocks hK hP hD hS (Or.inl rfl) dXF_neighbours_39
          · rw [if_neg c16] at hm
            refine lv_iconst (v := 1) hx hb dXF_neighbours_34 (by decide) ?_
            refine lv_goto (tgt := 39) hx hb dXF_neighbours_35 (by decide) ?_
            cases hm
            exact k_zret hx hb hr hlocks hK hP hD hS (Or.inr rfl) dXF_neighbours_39
  exact key n a1 a2 r s.heap [] ls hm hP hD va_S.rf hl
set_option maxHeartbeats 4000000 in
set_option maxRecDepth 100000 in
theorem cF_componentOf (l : Launch) (D : va_G) (q : Nat → Nat) (cA : ClassId) (N : Nat) (sz : Nat) (nr : Nat → Int32) (ss : Nat → Int32) (sc : Int32) (ns : Nat → Int32) (nc : Int32) (ps : Nat → Int32) (dg : Nat → Int32) (pn : Int32) (pj : Int32) (wh : Int32) (st : Nat → Int32) (sn : Int32) (lf : Int32) (fw : Nat → Int32) (a1 : Int32) (n : Nat) (r : Int32) (hm : mF_componentOf N nr n 0 [a1] = some r) : Met l yXF_componentOf wsXF_componentOf ({ frames := 3, cells := 0, slots := 0, locals := 70 }) (kPc D cA [.ref (q 0), .int a1] (wF q cA N nr ss sc ns nc ps dg pn pj wh st sn lf fw) sz) (kQi D cA kT (va_A (wF q cA N nr ss sc ns nc ps dg pn pj wh st sn lf fw) sz) (wF q cA N nr ss sc ns nc ps dg pn pj wh st sn lf fw) r) 0 0 (va_A (wF q cA N nr ss sc ns nc ps dg pn pj wh st sn lf fw) sz) := by
  refine k_met (D := D) (cA := cA) (w := (wF q cA N nr ss sc ns nc ps dg pn pj wh st sn lf fw)) (sz := sz) (av := [.ref (q 0), .int a1]) (cc := cXF_componentOf) (maxL := 2) (ret := (some .int)) (Qc := fun A => kQi D cA kT A (wF q cA N nr ss sc ns nc ps dg pn pj wh st sn lf fw) r) (by decide) rfl (Nat.le_of_ble_eq_true rfl) ?_
  intro p e s m below meth c A ls hX hK hN hA hP hD hl
  obtain ⟨hx, hb, hr, hml, hown, hts, hlocks, -⟩ := hX
  have hown : s.vm.findClass RXF = some m.cls := hown
  have hl : lv_has ls 2 [(0, .ref (q 0)), (1, .int a1)] := hl
  have hts : ∀ w ∈ W0, w.before _ s = true := fun w h => hts w (List.mem_cons_of_mem _ h)
  have key : ∀ n : Nat, (∀ (x1 : Int32) (r : Int32) (H : Heap) (locs : List Loc) (ls : Array Slot), mF_componentOf N nr n 0 [x1] = some r → va_P D vwCl (wF q cA N nr ss sc ns nc ps dg pn pj wh st sn lf fw) H → va_D A (wF q cA N nr ss sc ns nc ps dg pn pj wh st sn lf fw) → va_S A s.heap H locs → lv_has ls 2 [(0, .ref (q 0)), (1, .int x1)] → W p l e ({ frames := 3, cells := 0, slots := 0, locals := 70 }) s m ([.ref (q 0), .int a1] : List Value).toArray below meth c H locs 0 0 (MQ below (kQi D cA kT A (wF q cA N nr ss sc ns nc ps dg pn pj wh st sn lf fw) r) ([.ref (q 0), .int a1] : List Value).toArray s 0 0 A) (F0 m 0 ls [])) := by
    intro n
    induction n with
    | zero => exact (by intros; rename_i h _ _ _ _; rw [mF_componentOf_z] at h; cases h)
    | succ n ih =>
      have ih0 := ih
      intro x1 r H locs ls hm hP hD hS hl
      rw [mF_componentOf_e0] at hm
      refine lv_aload_n hx hb dXF_componentOf_0 rfl (lv_at hl 0 rfl) ?_
      refine va_get (D := D) (ci := 4) (v := .ref (q 10)) (C := RXF) (T := TXF) (N := 4) hx hb hts hinXF hown hK hP 0 rfl rfl 0 (by decide) (hts _ wd_119) (fun _ h9 => h9) rfl dXF_componentOf_1 ?_
      refine lv_iload_n hx hb dXF_componentOf_4 rfl (lv_at hl 1 rfl) ?_
      refine lv_aload_n hx hb dXF_componentOf_5 rfl (lv_at hl 0 rfl) ?_
      refine va_get (D := D) (ci := 4) (v := .ref (q 10)) (C := RXF) (T := TXF) (N := 4) hx hb hts hinXF hown hK hP 0 rfl rfl 0 (by decide) (hts _ wd_119) (fun _ h9 => h9) rfl dXF_componentOf_6 ?_
      obtain ⟨r11, hm11, hm⟩ := kb_s hm
      refine k_vi (As := []) (rest := [.int x1, .ref (q 10)]) (w2 := (wF q cA N nr ss sc ns nc ps dg pn pj wh st sn lf fw)) ⟨hx, hb, hml, hown, hts⟩ (cG_all l D q cA N H.size nr n r11 hm11) (cwV 0 hts (gV wd_165 wd_166 wd_167 wd_37 wd_168) rfl rfl rfl (by decide +kernel) ⟨Nat.le_of_ble_eq_true rfl, Nat.le_of_ble_eq_true rfl⟩) hK hN hP hD hS hA [10, 11] [0, 1, 2, 3, 4, 5, 6, 7, 8, 9] [0, 1, 2, 3, 4, 5, 6, 7, 8, 9, 10, 11] ⟨rfl, rfl, by decide, rfl, by decide, by decide, rfl, rfl, by decide⟩ (va_recv hK hP (ci := 2) (q0 := 10) rfl rfl) rfl hl.1 rfl (Nat.le_of_ble_eq_true rfl) dXF_componentOf_9 ⟨Nat.le_of_ble_eq_true rfl, Nat.le_of_ble_eq_true rfl⟩ (fun hz11 H locs hP hD hS => ?_)
      obtain ⟨r12, hm12, hm⟩ := kb_s hm
      refine k_vi (As := [.int x1, .int r11]) (rest := []) (w2 := (wF q cA N nr ss sc ns nc ps dg pn pj wh st sn lf fw)) ⟨hx, hb, hml, hown, hts⟩ (cG_reached l D q cA N H.size nr x1 r11 n r12 hm12) (cwV 2 hts (gV wd_169 wd_170 wd_171 wd_37 wd_172) rfl rfl rfl (by decide +kernel) ⟨Nat.le_of_ble_eq_true rfl, Nat.le_of_ble_eq_true rfl⟩) hK hN hP hD hS hA [10, 11] [0, 1, 2, 3, 4, 5, 6, 7, 8, 9] [0, 1, 2, 3, 4, 5, 6, 7, 8, 9, 10, 11] ⟨rfl, rfl, by decide, rfl, by decide, by decide, rfl, rfl, by decide⟩ (va_recv hK hP (ci := 2) (q0 := 10) rfl rfl) rfl hl.1 rfl (Nat.le_of_ble_eq_true rfl) dXF_componentOf_12 ⟨Nat.le_of_ble_eq_true rfl, Nat.le_of_ble_eq_true rfl⟩ (fun hz12 H locs hP hD hS => ?_)
      cases hm
      exact k_iret hx hb hr hlocks hK hP hD hS trivial dXF_componentOf_15
  exact key n a1 r s.heap [] ls hm hP hD va_S.rf hl
set_option maxHeartbeats 4000000 in
set_option maxRecDepth 100000 in
theorem cF_component (l : Launch) (D : va_G) (q : Nat → Nat) (cA : ClassId) (N : Nat) (sz : Nat) (nr : Nat → Int32) (ss : Nat → Int32) (sc : Int32) (ns : Nat → Int32) (nc : Int32) (ps : Nat → Int32) (dg : Nat → Int32) (pn : Int32) (pj : Int32) (wh : Int32) (st : Nat → Int32) (sn : Int32) (lf : Int32) (fw : Nat → Int32) (a1 : Int32) (n : Nat) (r : Int32) (hm : mF_component N nr n 0 [a1] = some r) : Met l yXF_component wsXF_component ({ frames := 4, cells := 0, slots := 0, locals := 91 }) (kPc D cA [.ref (q 0), .int a1] (wF q cA N nr ss sc ns nc ps dg pn pj wh st sn lf fw) sz) (kQi D cA kT (va_A (wF q cA N nr ss sc ns nc ps dg pn pj wh st sn lf fw) sz) (wF q cA N nr ss sc ns nc ps dg pn pj wh st sn lf fw) r) 0 0 (va_A (wF q cA N nr ss sc ns nc ps dg pn pj wh st sn lf fw) sz) := by
  refine k_met (D := D) (cA := cA) (w := (wF q cA N nr ss sc ns nc ps dg pn pj wh st sn lf fw)) (sz := sz) (av := [.ref (q 0), .int a1]) (cc := cXF_component) (maxL := 2) (ret := (some .int)) (Qc := fun A => kQi D cA kT A (wF q cA N nr ss sc ns nc ps dg pn pj wh st sn lf fw) r) (by decide) rfl (Nat.le_of_ble_eq_true rfl) ?_
  intro p e s m below meth c A ls hX hK hN hA hP hD hl
  obtain ⟨hx, hb, hr, hml, hown, hts, hlocks, -⟩ := hX
  have hown : s.vm.findClass RXF = some m.cls := hown
  have hl : lv_has ls 2 [(0, .ref (q 0)), (1, .int a1)] := hl
  have hts : ∀ w ∈ W0, w.before _ s = true := fun w h => hts w (List.mem_cons_of_mem _ h)
  have key : ∀ n : Nat, (∀ (x1 : Int32) (r : Int32) (H : Heap) (locs : List Loc) (ls : Array Slot), mF_component N nr n 0 [x1] = some r → va_P D vwCl (wF q cA N nr ss sc ns nc ps dg pn pj wh st sn lf fw) H → va_D A (wF q cA N nr ss sc ns nc ps dg pn pj wh st sn lf fw) → va_S A s.heap H locs → lv_has ls 2 [(0, .ref (q 0)), (1, .int x1)] → W p l e ({ frames := 4, cells := 0, slots := 0, locals := 91 }) s m ([.ref (q 0), .int a1] : List Value).toArray below meth c H locs 0 0 (MQ below (kQi D cA kT A (wF q cA N nr ss sc ns nc ps dg pn pj wh st sn lf fw) r) ([.ref (q 0), .int a1] : List Value).toArray s 0 0 A) (F0 m 0 ls [])) := by
    intro n
    induction n with
    | zero => exact (by intros; rename_i h _ _ _ _; rw [mF_component_z] at h; cases h)
    | succ n ih =>
      have ih0 := ih
      intro x1 r H locs ls hm hP hD hS hl
      rw [mF_component_e0] at hm
      refine lv_aload_n hx hb dXF_component_0 rfl (lv_at hl 0 rfl) ?_
      refine va_get (D := D) (ci := 4) (v := .ref (q 10)) (C := RXF) (T := TXF) (N := 4) hx hb hts hinXF hown hK hP 0 rfl rfl 0 (by decide) (hts _ wd_119) (fun _ h9 => h9) rfl dXF_component_1 ?_
      refine lv_iload_n hx hb dXF_component_4 rfl (lv_at hl 1 rfl) ?_
      obtain ⟨r11, hm11, hm⟩ := kb_s hm
      refine k_vi (As := [.int x1]) (rest := []) (w2 := (wF q cA N nr ss sc ns nc ps dg pn pj wh st sn lf fw)) ⟨hx, hb, hml, hown, hts⟩ (cG_has l D q cA N H.size nr x1 n r11 hm11) (cwV 1 hts (gV wd_136 wd_137 wd_138 wd_37 wd_139) rfl rfl rfl (by decide +kernel) ⟨Nat.le_of_ble_eq_true rfl, Nat.le_of_ble_eq_true rfl⟩) hK hN hP hD hS hA [10, 11] [0, 1, 2, 3, 4, 5, 6, 7, 8, 9] [0, 1, 2, 3, 4, 5, 6, 7, 8, 9, 10, 11] ⟨rfl, rfl, by decide, rfl, by decide, by decide, rfl, rfl, by decide⟩ (va_recv hK hP (ci := 2) (q0 := 10) rfl rfl) rfl hl.1 rfl (Nat.le_of_ble_eq_true rfl) dXF_component_5 ⟨Nat.le_of_ble_eq_true rfl, Nat.le_of_ble_eq_true rfl⟩ (fun hz11 H locs hP hD hS => ?_)
      refine lv_if_eq (tgt := 19) hx hb dXF_component_8 (by decide) (fun c12 => ?_) (fun c12 => ?_)
      · rw [if_pos c12] at hm
        refine lv_iconst (v := 0) hx hb dXF_component_19 (by decide) ?_
        cases hm
        exact k_iret hx hb hr hlocks hK hP hD hS trivial dXF_component_20
      · rw [if_neg c12] at hm
        refine lv_aload_n hx hb dXF_component_11 rfl (lv_at hl 0 rfl) ?_
        refine lv_iload_n hx hb dXF_component_12 rfl (lv_at hl 1 rfl) ?_
        obtain ⟨r13, hm13, hm⟩ := kb_s hm
        refine k_vi (As := [.int x1]) (rest := []) (w2 := (wF q cA N nr ss sc ns nc ps dg pn pj wh st sn lf fw)) ⟨hx, hb, hml, hown, hts⟩ (cF_componentOf l D q cA N H.size nr ss sc ns nc ps dg pn pj wh st sn lf fw x1 n r13 hm13) (cwV 1 hts (gV wd_162 wd_163 wd_0 wd_36 wd_164) rfl rfl rfl (by decide +kernel) ⟨Nat.le_of_ble_eq_true rfl, Nat.le_of_ble_eq_true rfl⟩) hK hN hP hD hS hA [0, 1, 2, 3, 4, 5, 6, 7, 8, 9, 10, 11] [] [0, 1, 2, 3, 4, 5, 6, 7, 8, 9, 10, 11] ⟨rfl, rfl, by decide, rfl, by decide, by decide, rfl, rfl, by decide⟩ (va_recv hK hP (ci := 4) (q0 := 0) rfl rfl) rfl hl.1 rfl (Nat.le_of_ble_eq_true rfl) dXF_component_13 ⟨Nat.le_of_ble_eq_true rfl, Nat.le_of_ble_eq_true rfl⟩ (fun hz13 H locs hP hD hS => ?_)
        refine lv_goto (tgt := 20) hx hb dXF_component_16 (by decide) ?_
        cases hm
        exact k_iret hx hb hr hlocks hK hP hD hS trivial dXF_component_20
  exact key n a1 r s.heap [] ls hm hP hD va_S.rf hl
set_option maxHeartbeats 4000000 in
set_option maxRecDepth 100000 in
theorem cF_treeOf (l : Launch) (D : va_G) (q : Nat → Nat) (cA : ClassId) (N : Nat) (sz : Nat) (nr : Nat → Int32) (ss : Nat → Int32) (sc : Int32) (ns : Nat → Int32) (nc : Int32) (ps : Nat → Int32) (dg : Nat → Int32) (pn : Int32) (pj : Int32) (wh : Int32) (st : Nat → Int32) (sn : Int32) (lf : Int32) (fw : Nat → Int32) (a1 : Int32) (n : Nat) (ss_1 : Nat → Int32) (sc_1 : Int32) (ns_1 : Nat → Int32) (nc_1 : Int32) (wh_1 : Int32) (hm : mF_treeOf N nr n 0 [a1] ss sc ns nc wh = some (ss_1, sc_1, ns_1, nc_1, wh_1)) : Met l yXF_treeOf wsXF_treeOf ({ frames := 4, cells := 0, slots := 0, locals := 91 }) (kPc D cA [.ref (q 0), .int a1] (wF q cA N nr ss sc ns nc ps dg pn pj wh st sn lf fw) sz) (kQr D cA (va_A (wF q cA N nr ss sc ns nc ps dg pn pj wh st sn lf fw) sz) (wF q cA N nr ss_1 sc_1 ns_1 nc_1 ps dg pn pj wh_1 st sn lf fw) (q 5)) 0 0 (va_A (wF q cA N nr ss sc ns nc ps dg pn pj wh st sn lf fw) sz) := by
  refine k_met (D := D) (cA := cA) (w := (wF q cA N nr ss sc ns nc ps dg pn pj wh st sn lf fw)) (sz := sz) (av := [.ref (q 0), .int a1]) (cc := cXF_treeOf) (maxL := 2) (ret := (some (.object "SplitForest$SplitTree"))) (Qc := fun A => kQr D cA A (wF q cA N nr ss_1 sc_1 ns_1 nc_1 ps dg pn pj wh_1 st sn lf fw) (q 5)) (by decide) rfl (Nat.le_of_ble_eq_true rfl) ?_
  intro p e s m below meth c A ls hX hK hN hA hP hD hl
  obtain ⟨hx, hb, hr, hml, hown, hts, hlocks, -⟩ := hX
  have hown : s.vm.findClass RXF = some m.cls := hown
  have hl : lv_has ls 2 [(0, .ref (q 0)), (1, .int a1)] := hl
  have hts : ∀ w ∈ W0, w.before _ s = true := fun w h => hts w (List.mem_cons_of_mem _ h)
  have key : ∀ n : Nat, (∀ (x1 : Int32) (ss : Nat → Int32) (sc : Int32) (ns : Nat → Int32) (nc : Int32) (wh : Int32) (ss_1 : Nat → Int32) (sc_1 : Int32) (ns_1 : Nat → Int32) (nc_1 : Int32) (wh_1 : Int32) (H : Heap) (locs : List Loc) (ls : Array Slot), mF_treeOf N nr n 0 [x1] ss sc ns nc wh = some (ss_1, sc_1, ns_1, nc_1, wh_1) → va_P D vwCl (wF q cA N nr ss sc ns nc ps dg pn pj wh st sn lf fw) H → va_D A (wF q cA N nr ss sc ns nc ps dg pn pj wh st sn lf fw) → va_S A s.heap H locs → lv_has ls 2 [(0, .ref (q 0)), (1, .int x1)] → W p l e ({ frames := 4, cells := 0, slots := 0, locals := 91 }) s m ([.ref (q 0), .int a1] : List Value).toArray below meth c H locs 0 0 (MQ below (kQr D cA A (wF q cA N nr ss_1 sc_1 ns_1 nc_1 ps dg pn pj wh_1 st sn lf fw) (q 5)) ([.ref (q 0), .int a1] : List Value).toArray s 0 0 A) (F0 m 0 ls [])) := by
    intro n
    induction n with
    | zero => exact (by intros; rename_i h _ _ _ _; rw [mF_treeOf_z] at h; cases h)
    | succ n ih =>
      have ih0 := ih
      intro x1 ss sc ns nc wh ss_1 sc_1 ns_1 nc_1 wh_1 H locs ls hm hP hD hS hl
      rw [mF_treeOf_e0] at hm
      refine lv_aload_n hx hb dXF_treeOf_0 rfl (lv_at hl 0 rfl) ?_
      refine va_get (D := D) (ci := 4) (v := .ref (q 5)) (C := RXF) (T := TXF) (N := 4) hx hb hts hinXF hown hK hP 0 rfl rfl 1 (by decide) (hts _ wd_120) (fun _ h9 => h9) rfl dXF_treeOf_1 ?_
      refine lv_aload_n hx hb dXF_treeOf_4 rfl (lv_at hl 0 rfl) ?_
      refine lv_iload_n hx hb dXF_treeOf_5 rfl (lv_at hl 1 rfl) ?_
      obtain ⟨r11, hm11, hm⟩ := kb_s hm
      refine k_vi (As := [.int x1]) (rest := [.ref (q 5)]) (w2 := (wF q cA N nr ss sc ns nc ps dg pn pj wh st sn lf fw)) ⟨hx, hb, hml, hown, hts⟩ (cF_componentOf l D q cA N H.size nr ss sc ns nc ps dg pn pj wh st sn lf fw x1 n r11 hm11) (cwV 1 hts (gV wd_162 wd_163 wd_0 wd_36 wd_164) rfl rfl rfl (by decide +kernel) ⟨Nat.le_of_ble_eq_true rfl, Nat.le_of_ble_eq_true rfl⟩) hK hN hP hD hS hA [0, 1, 2, 3, 4, 5, 6, 7, 8, 9, 10, 11] [] [0, 1, 2, 3, 4, 5, 6, 7, 8, 9, 10, 11] ⟨rfl, rfl, by decide, rfl, by decide, by decide, rfl, rfl, by decide⟩ (va_recv hK hP (ci := 4) (q0 := 0) rfl rfl) rfl hl.1 rfl (Nat.le_of_ble_eq_true rfl) dXF_treeOf_6 ⟨Nat.le_of_ble_eq_true rfl, Nat.le_of_ble_eq_true rfl⟩ (fun hz11 H locs hP hD hS => ?_)
      obtain ⟨⟨ss_12, sc_12, ns_12, nc_12, wh_12⟩, hm12, hm⟩ := kb_s hm
      dsimp only at hm
      refine k_vv (As := [.int r11]) (rest := []) (w2 := (wF q cA N nr ss_12 sc_12 ns_12 nc_12 ps dg pn pj wh_12 st sn lf fw)) ⟨hx, hb, hml, hown, hts⟩ (cT_growFor l D q cA N H.size nr ss sc ns nc ps dg pn pj wh r11 n ss_12 sc_12 ns_12 nc_12 wh_12 hm12) (cwV 1 hts (gV wd_183 wd_184 wd_185 wd_38 wd_186) rfl rfl rfl (by decide +kernel) ⟨Nat.le_of_ble_eq_true rfl, Nat.le_of_ble_eq_true rfl⟩) hK hN hP hD hS hA [5, 6, 7, 8, 9, 10, 11] [0, 1, 2, 3, 4] [0, 1, 2, 3, 4, 5, 6, 7, 8, 9, 10, 11] ⟨rfl, rfl, by decide, rfl, by decide, by decide, rfl, rfl, by decide⟩ (va_recv hK hP (ci := 3) (q0 := 5) rfl rfl) rfl hl.1 rfl (Nat.le_of_ble_eq_true rfl) dXF_treeOf_9 ⟨Nat.le_of_ble_eq_true rfl, Nat.le_of_ble_eq_true rfl⟩ (fun H locs hP hD hS => ?_)
      refine lv_aload_n hx hb dXF_treeOf_12 rfl (lv_at hl 0 rfl) ?_
      refine va_get (D := D) (ci := 4) (v := .ref (q 5)) (C := RXF) (T := TXF) (N := 4) hx hb hts hinXF hown hK hP 0 rfl rfl 1 (by decide) (hts _ wd_120) (fun _ h9 => h9) rfl dXF_treeOf_13 ?_
      cases hm
      exact k_rret hx hb hr hlocks hK hP hD hS dXF_treeOf_16
  exact key n a1 ss sc ns nc wh ss_1 sc_1 ns_1 nc_1 wh_1 s.heap [] ls hm hP hD va_S.rf hl
set_option maxHeartbeats 4000000 in
set_option maxRecDepth 100000 in
theorem cF_splits (l : Launch) (D : va_G) (q : Nat → Nat) (cA : ClassId) (N : Nat) (sz : Nat) (nr : Nat → Int32) (ss : Nat → Int32) (sc : Int32) (ns : Nat → Int32) (nc : Int32) (ps : Nat → Int32) (dg : Nat → Int32) (pn : Int32) (pj : Int32) (wh : Int32) (st : Nat → Int32) (sn : Int32) (lf : Int32) (fw : Nat → Int32) (a1 : Int32) (n : Nat) (r : Int32) (ss_1 : Nat → Int32) (sc_1 : Int32) (ns_1 : Nat → Int32) (nc_1 : Int32) (wh_1 : Int32) (hm : mF_splits N nr n 0 [a1] ss sc ns nc wh = some (r, ss_1, sc_1, ns_1, nc_1, wh_1)) : Met l yXF_splits wsXF_splits ({ frames := 5, cells := 0, slots := 0, locals := 112 }) (kPc D cA [.ref (q 0), .int a1] (wF q cA N nr ss sc ns nc ps dg pn pj wh st sn lf fw) sz) (kQi D cA kT (va_A (wF q cA N nr ss sc ns nc ps dg pn pj wh st sn lf fw) sz) (wF q cA N nr ss_1 sc_1 ns_1 nc_1 ps dg pn pj wh_1 st sn lf fw) r) 0 0 (va_A (wF q cA N nr ss sc ns nc ps dg pn pj wh st sn lf fw) sz) := by
  refine k_met (D := D) (cA := cA) (w := (wF q cA N nr ss sc ns nc ps dg pn pj wh st sn lf fw)) (sz := sz) (av := [.ref (q 0), .int a1]) (cc := cXF_splits) (maxL := 2) (ret := (some .int)) (Qc := fun A => kQi D cA kT A (wF q cA N nr ss_1 sc_1 ns_1 nc_1 ps dg pn pj wh_1 st sn lf fw) r) (by decide) rfl (Nat.le_of_ble_eq_true rfl) ?_
  intro p e s m below meth c A ls hX hK hN hA hP hD hl
  obtain ⟨hx, hb, hr, hml, hown, hts, hlocks, -⟩ := hX
  have hown : s.vm.findClass RXF = some m.cls := hown
  have hl : lv_has ls 2 [(0, .ref (q 0)), (1, .int a1)] := hl
  have hts : ∀ w ∈ W0, w.before _ s = true := fun w h => hts w (List.mem_cons_of_mem _ h)
  have key : ∀ n : Nat, (∀ (x1 : Int32) (ss : Nat → Int32) (sc : Int32) (ns : Nat → Int32) (nc : Int32) (wh : Int32) (r : Int32) (ss_1 : Nat → Int32) (sc_1 : Int32) (ns_1 : Nat → Int32) (nc_1 : Int32) (wh_1 : Int32) (H : Heap) (locs : List Loc) (ls : Array Slot), mF_splits N nr n 0 [x1] ss sc ns nc wh = some (r, ss_1, sc_1, ns_1, nc_1, wh_1) → va_P D vwCl (wF q cA N nr ss sc ns nc ps dg pn pj wh st sn lf fw) H → va_D A (wF q cA N nr ss sc ns nc ps dg pn pj wh st sn lf fw) → va_S A s.heap H locs → lv_has ls 2 [(0, .ref (q 0)), (1, .int x1)] → W p l e ({ frames := 5, cells := 0, slots := 0, locals := 112 }) s m ([.ref (q 0), .int a1] : List Value).toArray below meth c H locs 0 0 (MQ below (kQi D cA kT A (wF q cA N nr ss_1 sc_1 ns_1 nc_1 ps dg pn pj wh_1 st sn lf fw) r) ([.ref (q 0), .int a1] : List Value).toArray s 0 0 A) (F0 m 0 ls [])) := by
    intro n
    induction n with
    | zero => exact (by intros; rename_i h _ _ _ _; rw [mF_splits_z] at h; cases h)
    | succ n ih =>
      have ih0 := ih
      intro x1 ss sc ns nc wh r ss_1 sc_1 ns_1 nc_1 wh_1 H locs ls hm hP hD hS hl
      rw [mF_splits_e0] at hm
      refine lv_aload_n hx hb dXF_splits_0 rfl (lv_at hl 0 rfl) ?_
      refine va_get (D := D) (ci := 4) (v := .ref (q 10)) (C := RXF) (T := TXF) (N := 4) hx hb hts hinXF hown hK hP 0 rfl rfl 0 (by decide) (hts _ wd_119) (fun _ h9 => h9) rfl dXF_splits_1 ?_
      refine lv_iload_n hx hb dXF_splits_4 rfl (lv_at hl 1 rfl) ?_
      obtain ⟨r11, hm11, hm⟩ := kb_s hm
      refine k_vi (As := [.int x1]) (rest := []) (w2 := (wF q cA N nr ss sc ns nc ps dg pn pj wh st sn lf fw)) ⟨hx, hb, hml, hown, hts⟩ (cG_has l D q cA N H.size nr x1 n r11 hm11) (cwV 1 hts (gV wd_136 wd_137 wd_138 wd_37 wd_139) rfl rfl rfl (by decide +kernel) ⟨Nat.le_of_ble_eq_true rfl, Nat.le_of_ble_eq_true rfl⟩) hK hN hP hD hS hA [10, 11] [0, 1, 2, 3, 4, 5, 6, 7, 8, 9] [0, 1, 2, 3, 4, 5, 6, 7, 8, 9, 10, 11] ⟨rfl, rfl, by decide, rfl, by decide, by decide, rfl, rfl, by decide⟩ (va_recv hK hP (ci := 2) (q0 := 10) rfl rfl) rfl hl.1 rfl (Nat.le_of_ble_eq_true rfl) dXF_splits_5 ⟨Nat.le_of_ble_eq_true rfl, Nat.le_of_ble_eq_true rfl⟩ (fun hz11 H locs hP hD hS => ?_)
      refine lv_if_eq (tgt := 22) hx hb dXF_splits_8 (by decide) (fun c12 => ?_) (fun c12 => ?_)
      · rw [if_pos c12] at hm
        refine lv_iconst (v := (-1)) hx hb dXF_splits_22 (by decide) ?_
        cases hm
        exact k_iret hx hb hr hlocks hK hP hD hS trivial dXF_splits_23
      · rw [if_neg c12] at hm
        refine lv_aload_n hx hb dXF_splits_11 rfl (lv_at hl 0 rfl) ?_
        refine lv_iload_n hx hb dXF_splits_12 rfl (lv_at hl 1 rfl) ?_
        obtain ⟨⟨ss_13, sc_13, ns_13, nc_13, wh_13⟩, hm13, hm⟩ := kb_s hm
        dsimp only at hm
        refine k_vr (As := [.int x1]) (rest := []) (w2 := (wF q cA N nr ss_13 sc_13 ns_13 nc_13 ps dg pn pj wh_13 st sn lf fw)) ⟨hx, hb, hml, hown, hts⟩ (cF_treeOf l D q cA N H.size nr ss sc ns nc ps dg pn pj wh st sn lf fw x1 n ss_13 sc_13 ns_13 nc_13 wh_13 hm13) (cwV 1 hts (gV wd_180 wd_181 wd_2 wd_36 wd_182) rfl rfl rfl (by decide +kernel) ⟨Nat.le_of_ble_eq_true rfl, Nat.le_of_ble_eq_true rfl⟩) hK hN hP hD hS hA [0, 1, 2, 3, 4, 5, 6, 7, 8, 9, 10, 11] [] [0, 1, 2, 3, 4, 5, 6, 7, 8, 9, 10, 11] ⟨rfl, rfl, by decide, rfl, by decide, by decide, rfl, rfl, by decide⟩ (va_recv hK hP (ci := 4) (q0 := 0) rfl rfl) rfl hl.1 rfl (Nat.le_of_ble_eq_true rfl) dXF_splits_13 ⟨Nat.le_of_ble_eq_true rfl, Nat.le_of_ble_eq_true rfl⟩ (fun H locs hP hD hS => ?_)
        obtain ⟨r14, hm14, hm⟩ := kb_s hm
        refine k_vi (As := []) (rest := []) (w2 := (wF q cA N nr ss_13 sc_13 ns_13 nc_13 ps dg pn pj wh_13 st sn lf fw)) ⟨hx, hb, hml, hown, hts⟩ (cT_splitCount l D q cA N H.size nr ss_13 sc_13 ns_13 nc_13 ps dg pn pj wh_13 n r14 hm14) (cwV 0 hts (gV wd_209 wd_210 wd_211 wd_38 wd_212) rfl rfl rfl (by decide +kernel) ⟨Nat.le_of_ble_eq_true rfl, Nat.le_of_ble_eq_true rfl⟩) hK hN hP hD hS hA [5, 6, 7, 8, 9, 10, 11] [0, 1, 2, 3, 4] [0, 1, 2, 3, 4, 5, 6, 7, 8, 9, 10, 11] ⟨rfl, rfl, by decide, rfl, by decide, by decide, rfl, rfl, by decide⟩ (va_recv hK hP (ci := 3) (q0 := 5) rfl rfl) rfl hl.1 rfl (Nat.le_of_ble_eq_true rfl) dXF_splits_16 ⟨Nat.le_of_ble_eq_true rfl, Nat.le_of_ble_eq_true rfl⟩ (fun hz14 H locs hP hD hS => ?_)
        refine lv_goto (tgt := 23) hx hb dXF_splits_19 (by decide) ?_
        cases hm
        exact k_iret hx hb hr hlocks hK hP hD hS trivial dXF_splits_23
  exact key n a1 ss sc ns nc wh r ss_1 sc_1 ns_1 nc_1 wh_1 s.heap [] ls hm hP hD va_S.rf hl
set_option maxHeartbeats 4000000 in
set_option maxRecDepth 100000 in
theorem cF_strong (l : Launch) (D : va_G) (q : Nat → Nat) (cA : ClassId) (N : Nat) (sz : Nat) (nr : Nat → Int32) (ss : Nat → Int32) (sc : Int32) (ns : Nat → Int32) (nc : Int32) (ps : Nat → Int32) (dg : Nat → Int32) (pn : Int32) (pj : Int32) (wh : Int32) (st : Nat → Int32) (sn : Int32) (lf : Int32) (fw : Nat → Int32) (a1 : Int32) (n : Nat) (r : Int32) (ss_1 : Nat → Int32) (sc_1 : Int32) (ns_1 : Nat → Int32) (nc_1 : Int32) (wh_1 : Int32) (hm : mF_strong N nr n 0 [a1] ss sc ns nc wh = some (r, ss_1, sc_1, ns_1, nc_1, wh_1)) : Met l yXF_strong wsXF_strong ({ frames := 5, cells := 0, slots := 0, locals := 112 }) (kPc D cA [.ref (q 0), .int a1] (wF q cA N nr ss sc ns nc ps dg pn pj wh st sn lf fw) sz) (kQi D cA kT (va_A (wF q cA N nr ss sc ns nc ps dg pn pj wh st sn lf fw) sz) (wF q cA N nr ss_1 sc_1 ns_1 nc_1 ps dg pn pj wh_1 st sn lf fw) r) 0 0 (va_A (wF q cA N nr ss sc ns nc ps dg pn pj wh st sn lf fw) sz) := by
  refine k_met (D := D) (cA := cA) (w := (wF q cA N nr ss sc ns nc ps dg pn pj wh st sn lf fw)) (sz := sz) (av := [.ref (q 0), .int a1]) (cc := cXF_strong) (maxL := 2) (ret := (some .int)) (Qc := fun A => kQi D cA kT A (wF q cA N nr ss_1 sc_1 ns_1 nc_1 ps dg pn pj wh_1 st sn lf fw) r) (by decide) rfl (Nat.le_of_ble_eq_true rfl) ?_
  intro p e s m below meth c A ls hX hK hN hA hP hD hl
  obtain ⟨hx, hb, hr, hml, hown, hts, hlocks, -⟩ := hX
  have hown : s.vm.findClass RXF = some m.cls := hown
  have hl : lv_has ls 2 [(0, .ref (q 0)), (1, .int a1)] := hl
  have hts : ∀ w ∈ W0, w.before _ s = true := fun w h => hts w (List.mem_cons_of_mem _ h)
  have key : ∀ n : Nat, (∀ (x1 : Int32) (ss : Nat → Int32) (sc : Int32) (ns : Nat → Int32) (nc : Int32) (wh : Int32) (r : Int32) (ss_1 : Nat → Int32) (sc_1 : Int32) (ns_1 : Nat → Int32) (nc_1 : Int32) (wh_1 : Int32) (H : Heap) (locs : List Loc) (ls : Array Slot), mF_strong N nr n 0 [x1] ss sc ns nc wh = some (r, ss_1, sc_1, ns_1, nc_1, wh_1) → va_P D vwCl (wF q cA N nr ss sc ns nc ps dg pn pj wh st sn lf fw) H → va_D A (wF q cA N nr ss sc ns nc ps dg pn pj wh st sn lf fw) → va_S A s.heap H locs → lv_has ls 2 [(0, .ref (q 0)), (1, .int x1)] → W p l e ({ frames := 5, cells := 0, slots := 0, locals := 112 }) s m ([.ref (q 0), .int a1] : List Value).toArray below meth c H locs 0 0 (MQ below (kQi D cA kT A (wF q cA N nr ss_1 sc_1 ns_1 nc_1 ps dg pn pj wh_1 st sn lf fw) r) ([.ref (q 0), .int a1] : List Value).toArray s 0 0 A) (F0 m 0 ls [])) := by
    intro n
    induction n with
    | zero => exact (by intros; rename_i h _ _ _ _; rw [mF_strong_z] at h; cases h)
    | succ n ih =>
      have ih0 := ih
      intro x1 ss sc ns nc wh r ss_1 sc_1 ns_1 nc_1 wh_1 H locs ls hm hP hD hS hl
      rw [mF_strong_e0] at hm
      refine lv_aload_n hx hb dXF_strong_0 rfl (lv_at hl 0 rfl) ?_
      refine va_get (D := D) (ci := 4) (v := .ref (q 10)) (C := RXF) (T := TXF) (N := 4) hx hb hts hinXF hown hK hP 0 rfl rfl 0 (by decide) (hts _ wd_119) (fun _ h9 => h9) rfl dXF_strong_1 ?_
      refine lv_iload_n hx hb dXF_strong_4 rfl (lv_at hl 1 rfl) ?_
      obtain ⟨r11, hm11, hm⟩ := kb_s hm
      refine k_vi (As := [.int x1]) (rest := []) (w2 := (wF q cA N nr ss sc ns nc ps dg pn pj wh st sn lf fw)) ⟨hx, hb, hml, hown, hts⟩ (cG_has l D q cA N H.size nr x1 n r11 hm11) (cwV 1 hts (gV wd_136 wd_137 wd_138 wd_37 wd_139) rfl rfl rfl (by decide +kernel) ⟨Nat.le_of_ble_eq_true rfl, Nat.le_of_ble_eq_true rfl⟩) hK hN hP hD hS hA [10, 11] [0, 1, 2, 3, 4, 5, 6, 7, 8, 9] [0, 1, 2, 3, 4, 5, 6, 7, 8, 9, 10, 11] ⟨rfl, rfl, by decide, rfl, by decide, by decide, rfl, rfl, by decide⟩ (va_recv hK hP (ci := 2) (q0 := 10) rfl rfl) rfl hl.1 rfl (Nat.le_of_ble_eq_true rfl) dXF_strong_5 ⟨Nat.le_of_ble_eq_true rfl, Nat.le_of_ble_eq_true rfl⟩ (fun hz11 H locs hP hD hS => ?_)
      refine lv_if_eq (tgt := 24) hx hb dXF_strong_8 (by decide) (fun c12 => ?_) (fun c12 => ?_)
      · rw [if_pos c12] at hm
        refine lv_iconst (v := (-1)) hx hb dXF_strong_24 (by decide) ?_
        cases hm
        exact k_iret hx hb hr hlocks hK hP hD hS trivial dXF_strong_25
      · rw [if_neg c12] at hm
        refine lv_aload_n hx hb dXF_strong_11 rfl (lv_at hl 0 rfl) ?_
        refine lv_iload_n hx hb dXF_strong_12 rfl (lv_at hl 1 rfl) ?_
        obtain ⟨⟨ss_13, sc_13, ns_13, nc_13, wh_13⟩, hm13, hm⟩ := kb_s hm
        dsimp only at hm
        refine k_vr (As := [.int x1]) (rest := []) (w2 := (wF q cA N nr ss_13 sc_13 ns_13 nc_13 ps dg pn pj wh_13 st sn lf fw)) ⟨hx, hb, hml, hown, hts⟩ (cF_treeOf l D q cA N H.size nr ss sc ns nc ps dg pn pj wh st sn lf fw x1 n ss_13 sc_13 ns_13 nc_13 wh_13 hm13) (cwV 1 hts (gV wd_180 wd_181 wd_2 wd_36 wd_182) rfl rfl rfl (by decide +kernel) ⟨Nat.le_of_ble_eq_true rfl, Nat.le_of_ble_eq_true rfl⟩) hK hN hP hD hS hA [0, 1, 2, 3, 4, 5, 6, 7, 8, 9, 10, 11] [] [0, 1, 2, 3, 4, 5, 6, 7, 8, 9, 10, 11] ⟨rfl, rfl, by decide, rfl, by decide, by decide, rfl, rfl, by decide⟩ (va_recv hK hP (ci := 4) (q0 := 0) rfl rfl) rfl hl.1 rfl (Nat.le_of_ble_eq_true rfl) dXF_strong_13 ⟨Nat.le_of_ble_eq_true rfl, Nat.le_of_ble_eq_true rfl⟩ (fun H locs hP hD hS => ?_)
        obtain ⟨r14, hm14, hm⟩ := kb_s hm
        refine k_vi (As := []) (rest := []) (w2 := (wF q cA N nr ss_13 sc_13 ns_13 nc_13 ps dg pn pj wh_13 st sn lf fw)) ⟨hx, hb, hml, hown, hts⟩ (cT_nodeCount l D q cA N H.size nr ss_13 sc_13 ns_13 nc_13 ps dg pn pj wh_13 n r14 hm14) (cwV 0 hts (gV wd_217 wd_218 wd_219 wd_38 wd_220) rfl rfl rfl (by decide +kernel) ⟨Nat.le_of_ble_eq_true rfl, Nat.le_of_ble_eq_true rfl⟩) hK hN hP hD hS hA [5, 6, 7, 8, 9, 10, 11] [0, 1, 2, 3, 4] [0, 1, 2, 3, 4, 5, 6, 7, 8, 9, 10, 11] ⟨rfl, rfl, by decide, rfl, by decide, by decide, rfl, rfl, by decide⟩ (va_recv hK hP (ci := 3) (q0 := 5) rfl rfl) rfl hl.1 rfl (Nat.le_of_ble_eq_true rfl) dXF_strong_16 ⟨Nat.le_of_ble_eq_true rfl, Nat.le_of_ble_eq_true rfl⟩ (fun hz14 H locs hP hD hS => ?_)
        refine lv_iconst (v := 1) hx hb dXF_strong_19 (by decide) ?_
        refine lv_isub hx hb dXF_strong_20 ?_
        refine lv_goto (tgt := 25) hx hb dXF_strong_21 (by decide) ?_
        cases hm
        exact k_iret hx hb hr hlocks hK hP hD hS trivial dXF_strong_25
  exact key n a1 ss sc ns nc wh r ss_1 sc_1 ns_1 nc_1 wh_1 s.heap [] ls hm hP hD va_S.rf hl
set_option maxHeartbeats 4000000 in
set_option maxRecDepth 100000 in
theorem cF_hasNode (l : Launch) (D : va_G) (q : Nat → Nat) (cA : ClassId) (N : Nat) (sz : Nat) (nr : Nat → Int32) (ss : Nat → Int32) (sc : Int32) (ns : Nat → Int32) (nc : Int32) (ps : Nat → Int32) (dg : Nat → Int32) (pn : Int32) (pj : Int32) (wh : Int32) (st : Nat → Int32) (sn : Int32) (lf : Int32) (fw : Nat → Int32) (a1 a2 : Int32) (n : Nat) (r : Int32) (ss_1 : Nat → Int32) (sc_1 : Int32) (ns_1 : Nat → Int32) (nc_1 : Int32) (wh_1 : Int32) (hm : mF_hasNode N nr n 0 [a1, a2] ss sc ns nc wh = some (r, ss_1, sc_1, ns_1, nc_1, wh_1)) : Met l yXF_hasNode wsXF_hasNode ({ frames := 5, cells := 0, slots := 0, locals := 112 }) (kPc D cA [.ref (q 0), .int a1, .int a2] (wF q cA N nr ss sc ns nc ps dg pn pj wh st sn lf fw) sz) (kQi D cA kB (va_A (wF q cA N nr ss sc ns nc ps dg pn pj wh st sn lf fw) sz) (wF q cA N nr ss_1 sc_1 ns_1 nc_1 ps dg pn pj wh_1 st sn lf fw) r) 0 0 (va_A (wF q cA N nr ss sc ns nc ps dg pn pj wh st sn lf fw) sz) := by
  refine k_met (D := D) (cA := cA) (w := (wF q cA N nr ss sc ns nc ps dg pn pj wh st sn lf fw)) (sz := sz) (av := [.ref (q 0), .int a1, .int a2]) (cc := cXF_hasNode) (maxL := 3) (ret := (some .boolean)) (Qc := fun A => kQi D cA kB A (wF q cA N nr ss_1 sc_1 ns_1 nc_1 ps dg pn pj wh_1 st sn lf fw) r) (by decide) rfl (Nat.le_of_ble_eq_true rfl) ?_
  intro p e s m below meth c A ls hX hK hN hA hP hD hl
  obtain ⟨hx, hb, hr, hml, hown, hts, hlocks, -⟩ := hX
  have hown : s.vm.findClass RXF = some m.cls := hown
  have hl : lv_has ls 3 [(0, .ref (q 0)), (1, .int a1), (2, .int a2)] := hl
  have hts : ∀ w ∈ W0, w.before _ s = true := fun w h => hts w (List.mem_cons_of_mem _ h)
  have key : ∀ n : Nat, (∀ (x1 x2 : Int32) (ss : Nat → Int32) (sc : Int32) (ns : Nat → Int32) (nc : Int32) (wh : Int32) (r : Int32) (ss_1 : Nat → Int32) (sc_1 : Int32) (ns_1 : Nat → Int32) (nc_1 : Int32) (wh_1 : Int32) (H : Heap) (locs : List Loc) (ls : Array Slot), mF_hasNode N nr n 0 [x1, x2] ss sc ns nc wh = some (r, ss_1, sc_1, ns_1, nc_1, wh_1) → va_P D vwCl (wF q cA N nr ss sc ns nc ps dg pn pj wh st sn lf fw) H → va_D A (wF q cA N nr ss sc ns nc ps dg pn pj wh st sn lf fw) → va_S A s.heap H locs → lv_has ls 3 [(0, .ref (q 0)), (1, .int x1), (2, .int x2)] → W p l e ({ frames := 5, cells := 0, slots := 0, locals := 112 }) s m ([.ref (q 0), .int a1, .int a2] : List Value).toArray below meth c H locs 0 0 (MQ below (kQi D cA kB A (wF q cA N nr ss_1 sc_1 ns_1 nc_1 ps dg pn pj wh_1 st sn lf fw) r) ([.ref (q 0), .int a1, .int a2] : List Value).toArray s 0 0 A) (F0 m 0 ls [])) := by
    intro n
    induction n with
    | zero => exact (by intros; rename_i h _ _ _ _; rw [mF_hasNode_z] at h; cases h)
    | succ n ih =>
      have ih0 := ih
      intro x1 x2 ss sc ns nc wh r ss_1 sc_1 ns_1 nc_1 wh_1 H locs ls hm hP hD hS hl
      rw [mF_hasNode_e0] at hm
      refine lv_aload_n hx hb dXF_hasNode_0 rfl (lv_at hl 0 rfl) ?_
      refine va_get (D := D) (ci := 4) (v := .ref (q 10)) (C := RXF) (T := TXF) (N := 4) hx hb hts hinXF hown hK hP 0 rfl rfl 0 (by decide) (hts _ wd_119) (fun _ h9 => h9) rfl dXF_hasNode_1 ?_
      refine lv_iload_n hx hb dXF_hasNode_4 rfl (lv_at hl 1 rfl) ?_
      obtain ⟨r11, hm11, hm⟩ := kb_s hm
      refine k_vi (As := [.int x1]) (rest := []) (w2 := (wF q cA N nr ss sc ns nc ps dg pn pj wh st sn lf fw)) ⟨hx, hb, hml, hown, hts⟩ (cG_has l D q cA N H.size nr x1 n r11 hm11) (cwV 1 hts (gV wd_136 wd_137 wd_138 wd_37 wd_139) rfl rfl rfl (by decide +kernel) ⟨Nat.le_of_ble_eq_true rfl, Nat.le_of_ble_eq_true rfl⟩) hK hN hP hD hS hA [10, 11] [0, 1, 2, 3, 4, 5, 6, 7, 8, 9] [0, 1, 2, 3, 4, 5, 6, 7, 8, 9, 10, 11] ⟨rfl, rfl, by decide, rfl, by decide, by decide, rfl, rfl, by decide⟩ (va_recv hK hP (ci := 2) (q0 := 10) rfl rfl) rfl hl.1 rfl (Nat.le_of_ble_eq_true rfl) dXF_hasNode_5 ⟨Nat.le_of_ble_eq_true rfl, Nat.le_of_ble_eq_true rfl⟩ (fun hz11 H locs hP hD hS => ?_)
      refine lv_if_eq (tgt := 31) hx hb dXF_hasNode_8 (by decide) (fun c12 => ?_) (fun c12 => ?_)
      · rw [if_pos c12] at hm
        refine lv_iconst (v := 0) hx hb dXF_hasNode_31 (by decide) ?_
        cases hm
        exact k_zret hx hb hr hlocks hK hP hD hS (Or.inl rfl) dXF_hasNode_32
      · rw [if_neg c12] at hm
        refine lv_iload_n hx hb dXF_hasNode_11 rfl (lv_at hl 2 rfl) ?_
        refine lv_if_lt (tgt := 31) hx hb dXF_hasNode_12 (by decide) (fun c13 => ?_) (fun c13 => ?_)
        · rw [if_pos c13] at hm
          refine lv_iconst (v := 0) hx hb dXF_hasNode_31 (by decide) ?_
          cases hm
          exact k_zret hx hb hr hlocks hK hP hD hS (Or.inl rfl) dXF_hasNode_32
        · rw [if_neg c13] at hm
          refine lv_iload_n hx hb dXF_hasNode_15 rfl (lv_at hl 2 rfl) ?_
          refine lv_aload_n hx hb dXF_hasNode_16 rfl (lv_at hl 0 rfl) ?_
          refine lv_iload_n hx hb dXF_hasNode_17 rfl (lv_at hl 1 rfl) ?_
          obtain ⟨⟨ss_14, sc_14, ns_14, nc_14, wh_14⟩, hm14, hm⟩ := kb_s hm
          dsimp only at hm
          refine k_vr (As := [.int x1]) (rest := [.int x2]) (w2 := (wF q cA N nr ss_14 sc_14 ns_14 nc_14 ps dg pn pj wh_14 st sn lf fw)) ⟨hx, hb, hml, hown, hts⟩ (cF_treeOf l D q cA N H.size nr ss sc ns nc ps dg pn pj wh st sn lf fw x1 n ss_14 sc_14 ns_14 nc_14 wh_14 hm14) (cwV 1 hts (gV wd_180 wd_181 wd_2 wd_36 wd_182) rfl rfl rfl (by decide +kernel) ⟨Nat.le_of_ble_eq_true rfl, Nat.le_of_ble_eq_true rfl⟩) hK hN hP hD hS hA [0, 1, 2, 3, 4, 5, 6, 7, 8, 9, 10, 11] [] [0, 1, 2, 3, 4, 5, 6, 7, 8, 9, 10, 11] ⟨rfl, rfl, by decide, rfl, by decide, by decide, rfl, rfl, by decide⟩ (va_recv hK hP (ci := 4) (q0 := 0) rfl rfl) rfl hl.1 rfl (Nat.le_of_ble_eq_true rfl) dXF_hasNode_18 ⟨Nat.le_of_ble_eq_true rfl, Nat.le_of_ble_eq_true rfl⟩ (fun H locs hP hD hS => ?_)
          obtain ⟨r15, hm15, hm⟩ := kb_s hm
          refine k_vi (As := []) (rest := [.int x2]) (w2 := (wF q cA N nr ss_14 sc_14 ns_14 nc_14 ps dg pn pj wh_14 st sn lf fw)) ⟨hx, hb, hml, hown, hts⟩ (cT_nodeCount l D q cA N H.size nr ss_14 sc_14 ns_14 nc_14 ps dg pn pj wh_14 n r15 hm15) (cwV 0 hts (gV wd_217 wd_218 wd_219 wd_38 wd_220) rfl rfl rfl (by decide +kernel) ⟨Nat.le_of_ble_eq_true rfl, Nat.le_of_ble_eq_true rfl⟩) hK hN hP hD hS hA [5, 6, 7, 8, 9, 10, 11] [0, 1, 2, 3, 4] [0, 1, 2, 3, 4, 5, 6, 7, 8, 9, 10, 11] ⟨rfl, rfl, by decide, rfl, by decide, by decide, rfl, rfl, by decide⟩ (va_recv hK hP (ci := 3) (q0 := 5) rfl rfl) rfl hl.1 rfl (Nat.le_of_ble_eq_true rfl) dXF_hasNode_21 ⟨Nat.le_of_ble_eq_true rfl, Nat.le_of_ble_eq_true rfl⟩ (fun hz15 H locs hP hD hS => ?_)
          refine lv_icmp_ge (tgt := 31) hx hb dXF_hasNode_24 (by decide) (fun c16 => ?_) (fun c16 => ?_)
          · rw [if_pos c16] at hm
            refine lv_iconst (v := 0) hx hb dXF_hasNode_31 (by decide) ?_
            cases hm
            exact k_zret hx hb hr hlocks hK hP hD hS (Or.inl rfl) dXF_hasNode_32
          · rw [if_neg c16] at hm
            refine lv_iconst (v := 1) hx hb dXF_hasNode_27 (by decide) ?_
            refine lv_goto (tgt := 32) hx hb dXF_hasNode_28 (by decide) ?_
            cases hm
            exact k_zret hx hb hr hlocks hK hP hD hS (Or.inr rfl) dXF_hasNode_32
  exact key n a1 a2 ss sc ns nc wh r ss_1 sc_1 ns_1 nc_1 wh_1 s.heap [] ls hm hP hD va_S.rf hl
set_option maxHeartbeats 4000000 in
set_option maxRecDepth 100000 in
theorem cF_set (l : Launch) (D : va_G) (q : Nat → Nat) (cA : ClassId) (N : Nat) (sz : Nat) (nr : Nat → Int32) (ss : Nat → Int32) (sc : Int32) (ns : Nat → Int32) (nc : Int32) (ps : Nat → Int32) (dg : Nat → Int32) (pn : Int32) (pj : Int32) (wh : Int32) (st : Nat → Int32) (sn : Int32) (lf : Int32) (fw : Nat → Int32) (a1 a2 : Int32) (n : Nat) (r : Int32) (ss_1 : Nat → Int32) (sc_1 : Int32) (ns_1 : Nat → Int32) (nc_1 : Int32) (wh_1 : Int32) (hm : mF_set N nr n 0 [a1, a2] ss sc ns nc wh = some (r, ss_1, sc_1, ns_1, nc_1, wh_1)) : Met l yXF_set wsXF_set ({ frames := 6, cells := 0, slots := 0, locals := 134 }) (kPc D cA [.ref (q 0), .int a1, .int a2] (wF q cA N nr ss sc ns nc ps dg pn pj wh st sn lf fw) sz) (kQi D cA kT (va_A (wF q cA N nr ss sc ns nc ps dg pn pj wh st sn lf fw) sz) (wF q cA N nr ss_1 sc_1 ns_1 nc_1 ps dg pn pj wh_1 st sn lf fw) r) 0 0 (va_A (wF q cA N nr ss sc ns nc ps dg pn pj wh st sn lf fw) sz) := by
  refine k_met (D := D) (cA := cA) (w := (wF q cA N nr ss sc ns nc ps dg pn pj wh st sn lf fw)) (sz := sz) (av := [.ref (q 0), .int a1, .int a2]) (cc := cXF_set) (maxL := 3) (ret := (some .int)) (Qc := fun A => kQi D cA kT A (wF q cA N nr ss_1 sc_1 ns_1 nc_1 ps dg pn pj wh_1 st sn lf fw) r) (by decide) rfl (Nat.le_of_ble_eq_true rfl) ?_
  intro p e s m below meth c A ls hX hK hN hA hP hD hl
  obtain ⟨hx, hb, hr, hml, hown, hts, hlocks, -⟩ := hX
  have hown : s.vm.findClass RXF = some m.cls := hown
  have hl : lv_has ls 3 [(0, .ref (q 0)), (1, .int a1), (2, .int a2)] := hl
  have hts : ∀ w ∈ W0, w.before _ s = true := fun w h => hts w (List.mem_cons_of_mem _ h)
  have key : ∀ n : Nat, (∀ (x1 x2 : Int32) (ss : Nat → Int32) (sc : Int32) (ns : Nat → Int32) (nc : Int32) (wh : Int32) (r : Int32) (ss_1 : Nat → Int32) (sc_1 : Int32) (ns_1 : Nat → Int32) (nc_1 : Int32) (wh_1 : Int32) (H : Heap) (locs : List Loc) (ls : Array Slot), mF_set N nr n 0 [x1, x2] ss sc ns nc wh = some (r, ss_1, sc_1, ns_1, nc_1, wh_1) → va_P D vwCl (wF q cA N nr ss sc ns nc ps dg pn pj wh st sn lf fw) H → va_D A (wF q cA N nr ss sc ns nc ps dg pn pj wh st sn lf fw) → va_S A s.heap H locs → lv_has ls 3 [(0, .ref (q 0)), (1, .int x1), (2, .int x2)] → W p l e ({ frames := 6, cells := 0, slots := 0, locals := 134 }) s m ([.ref (q 0), .int a1, .int a2] : List Value).toArray below meth c H locs 0 0 (MQ below (kQi D cA kT A (wF q cA N nr ss_1 sc_1 ns_1 nc_1 ps dg pn pj wh_1 st sn lf fw) r) ([.ref (q 0), .int a1, .int a2] : List Value).toArray s 0 0 A) (F0 m 0 ls [])) := by
    intro n
    induction n with
    | zero => exact (by intros; rename_i h _ _ _ _; rw [mF_set_z] at h; cases h)
    | succ n ih =>
      have ih0 := ih
      intro x1 x2 ss sc ns nc wh r ss_1 sc_1 ns_1 nc_1 wh_1 H locs ls hm hP hD hS hl
      rw [mF_set_e0] at hm
      refine lv_aload_n hx hb dXF_set_0 rfl (lv_at hl 0 rfl) ?_
      refine lv_iload_n hx hb dXF_set_1 rfl (lv_at hl 1 rfl) ?_
      refine lv_iload_n hx hb dXF_set_2 rfl (lv_at hl 2 rfl) ?_
      obtain ⟨⟨r11, ss_11, sc_11, ns_11, nc_11, wh_11⟩, hm11, hm⟩ := kb_s hm
      dsimp only at hm
      refine k_vi (As := [.int x1, .int x2]) (rest := []) (w2 := (wF q cA N nr ss_11 sc_11 ns_11 nc_11 ps dg pn pj wh_11 st sn lf fw)) ⟨hx, hb, hml, hown, hts⟩ (cF_hasNode l D q cA N H.size nr ss sc ns nc ps dg pn pj wh st sn lf fw x1 x2 n r11 ss_11 sc_11 ns_11 nc_11 wh_11 hm11) (cwV 2 hts (gV wd_225 wd_226 wd_7 wd_36 wd_227) rfl rfl rfl (by decide +kernel) ⟨Nat.le_of_ble_eq_true rfl, Nat.le_of_ble_eq_true rfl⟩) hK hN hP hD hS hA [0, 1, 2, 3, 4, 5, 6, 7, 8, 9, 10, 11] [] [0, 1, 2, 3, 4, 5, 6, 7, 8, 9, 10, 11] ⟨rfl, rfl, by decide, rfl, by decide, by decide, rfl, rfl, by decide⟩ (va_recv hK hP (ci := 4) (q0 := 0) rfl rfl) rfl hl.1 rfl (Nat.le_of_ble_eq_true rfl) dXF_set_3 ⟨Nat.le_of_ble_eq_true rfl, Nat.le_of_ble_eq_true rfl⟩ (fun hz11 H locs hP hD hS => ?_)
      refine lv_if_eq (tgt := 20) hx hb dXF_set_6 (by decide) (fun c12 => ?_) (fun c12 => ?_)
      · rw [if_pos c12] at hm
        refine lv_iconst (v := (-1)) hx hb dXF_set_20 (by decide) ?_
        cases hm
        exact k_iret hx hb hr hlocks hK hP hD hS trivial dXF_set_21
      · rw [if_neg c12] at hm
        refine lv_aload_n hx hb dXF_set_9 rfl (lv_at hl 0 rfl) ?_
        refine va_get (D := D) (ci := 4) (v := .ref (q 5)) (C := RXF) (T := TXF) (N := 4) hx hb hts hinXF hown hK hP 0 rfl rfl 1 (by decide) (hts _ wd_120) (fun _ h9 => h9) rfl dXF_set_10 ?_
        refine lv_iload_n hx hb dXF_set_13 rfl (lv_at hl 2 rfl) ?_
        obtain ⟨r13, hm13, hm⟩ := kb_s hm
        refine k_vi (As := [.int x2]) (rest := []) (w2 := (wF q cA N nr ss_11 sc_11 ns_11 nc_11 ps dg pn pj wh_11 st sn lf fw)) ⟨hx, hb, hml, hown, hts⟩ (cT_nodeSet l D q cA N H.size nr ss_11 sc_11 ns_11 nc_11 ps dg pn pj wh_11 x2 n r13 hm13) (cwV 1 hts (gV wd_228 wd_229 wd_230 wd_38 wd_231) rfl rfl rfl (by decide +kernel) ⟨Nat.le_of_ble_eq_true rfl, Nat.le_of_ble_eq_true rfl⟩) hK hN hP hD hS hA [5, 6, 7, 8, 9, 10, 11] [0, 1, 2, 3, 4] [0, 1, 2, 3, 4, 5, 6, 7, 8, 9, 10, 11] ⟨rfl, rfl, by decide, rfl, by decide, by decide, rfl, rfl, by decide⟩ (va_recv hK hP (ci := 3) (q0 := 5) rfl rfl) rfl hl.1 rfl (Nat.le_of_ble_eq_true rfl) dXF_set_14 ⟨Nat.le_of_ble_eq_true rfl, Nat.le_of_ble_eq_true rfl⟩ (fun hz13 H locs hP hD hS => ?_)
        refine lv_goto (tgt := 21) hx hb dXF_set_17 (by decide) ?_
        cases hm
        exact k_iret hx hb hr hlocks hK hP hD hS trivial dXF_set_21
  exact key n a1 a2 ss sc ns nc wh r ss_1 sc_1 ns_1 nc_1 wh_1 s.heap [] ls hm hP hD va_S.rf hl
