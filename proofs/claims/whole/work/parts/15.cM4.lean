set_option maxHeartbeats 4000000 in
set_option maxRecDepth 100000 in
theorem cM_parts (l : Launch) (D : va_G) (q : Nat → Nat) (cA : ClassId) (N : Nat) (sz : Nat) (mr : Nat → Int32) (zn : Int32) (zs : Nat → Int32) (tn : Int32) (ts : Nat → Int32) (yn : Int32) (ys : Nat → Int32) (en : Int32) (es : Nat → Int32) (ew : Int32) (cv : Nat → Int32) (a1 a2 : Int32) (n : Nat) (r : Int32) (zn_1 : Int32) (zs_1 : Nat → Int32) (tn_1 : Int32) (ts_1 : Nat → Int32) (yn_1 : Int32) (ys_1 : Nat → Int32) (hm : mM_parts N mr n 0 [a1, a2] zn zs tn ts yn ys = some (r, zn_1, zs_1, tn_1, ts_1, yn_1, ys_1)) : Met l yXM_parts wsXM_parts ({ frames := 4, cells := 0, slots := 0, locals := 99 }) (kPc D cA [.ref (q 0), .int a1, .int a2] (wM q cA N mr zn zs tn ts yn ys en es ew cv) sz) (kQi D cA kT (va_A (wM q cA N mr zn zs tn ts yn ys en es ew cv) sz) (wM q cA N mr zn_1 zs_1 tn_1 ts_1 yn_1 ys_1 en es ew cv) r) 0 0 (va_A (wM q cA N mr zn zs tn ts yn ys en es ew cv) sz) := by
  refine k_met (D := D) (cA := cA) (w := (wM q cA N mr zn zs tn ts yn ys en es ew cv)) (sz := sz) (av := [.ref (q 0), .int a1, .int a2]) (cc := cXM_parts) (maxL := 3) (ret := (some .int)) (Qc := fun A => kQi D cA kT A (wM q cA N mr zn_1 zs_1 tn_1 ts_1 yn_1 ys_1 en es ew cv) r) (by decide) rfl (Nat.le_of_ble_eq_true rfl) ?_
  intro p e s m below meth c A ls hX hK hN hA hP hD hl
  obtain ⟨hx, hb, hr, hml, hown, hts, hlocks, -⟩ := hX
  have hown : s.vm.findClass RXM = some m.cls := hown
  have hl : lv_has ls 3 [(0, .ref (q 0)), (1, .int a1), (2, .int a2)] := hl
  have hts : ∀ w ∈ W0, w.before _ s = true := fun w h => hts w (List.mem_cons_of_mem _ h)
  have key : ∀ n : Nat, (∀ (x1 x2 : Int32) (zn : Int32) (zs : Nat → Int32) (tn : Int32) (ts : Nat → Int32) (yn : Int32) (ys : Nat → Int32) (r : Int32) (zn_1 : Int32) (zs_1 : Nat → Int32) (tn_1 : Int32) (ts_1 : Nat → Int32) (yn_1 : Int32) (ys_1 : Nat → Int32) (H : Heap) (locs : List Loc) (ls : Array Slot), mM_parts N mr n 0 [x1, x2] zn zs tn ts yn ys = some (r, zn_1, zs_1, tn_1, ts_1, yn_1, ys_1) → va_P D vwCl (wM q cA N mr zn zs tn ts yn ys en es ew cv) H → va_D A (wM q cA N mr zn zs tn ts yn ys en es ew cv) → va_S A s.heap H locs → lv_has ls 3 [(0, .ref (q 0)), (1, .int x1), (2, .int x2)] → W p l e ({ frames := 4, cells := 0, slots := 0, locals := 99 }) s m ([.ref (q 0), .int a1, .int a2] : List Value).toArray below meth c H locs 0 0 (MQ below (kQi D cA kT A (wM q cA N mr zn_1 zs_1 tn_1 ts_1 yn_1 ys_1 en es ew cv) r) ([.ref (q 0), .int a1, .int a2] : List Value).toArray s 0 0 A) (F0 m 0 ls [])) := by
    intro n
    induction n with
    | zero => exact (by intros; rename_i h _ _ _ _; rw [mM_parts_z] at h; cases h)
    | succ n ih =>
      have ih0 := ih
      intro x1 x2 zn zs tn ts yn ys r zn_1 zs_1 tn_1 ts_1 yn_1 ys_1 H locs ls hm hP hD hS hl
      rw [mM_parts_e0] at hm
      refine lv_aload_n hx hb dXM_parts_0 rfl (lv_at hl 0 rfl) ?_
      refine lv_iload_n hx hb dXM_parts_1 rfl (lv_at hl 1 rfl) ?_
      refine lv_iload_n hx hb dXM_parts_2 rfl (lv_at hl 2 rfl) ?_
      obtain ⟨⟨r11, zn_11, zs_11, tn_11, ts_11, yn_11, ys_11⟩, hm11, hm⟩ := kb_s hm
      dsimp only at hm
      refine k_vi (As := [.int x1, .int x2]) (rest := []) (w2 := (wM q cA N mr zn_11 zs_11 tn_11 ts_11 yn_11 ys_11 en es ew cv)) ⟨hx, hb, hml, hown, hts⟩ (cM_open l D q cA N H.size mr zn zs tn ts yn ys en es ew cv x1 x2 n r11 zn_11 zs_11 tn_11 ts_11 yn_11 ys_11 hm11) (cwV 2 hts (gV wd_470 wd_471 wd_23 wd_41 wd_472) rfl rfl rfl (by decide +kernel) ⟨Nat.le_of_ble_eq_true rfl, Nat.le_of_ble_eq_true rfl⟩) hK hN hP hD hS hA [0, 1, 2, 3, 4, 5, 6] [] [0, 1, 2, 3, 4, 5, 6] ⟨rfl, rfl, by decide, rfl, by decide, by decide, rfl, rfl, by decide⟩ (va_recv hK hP (ci := 5) (q0 := 0) rfl rfl) rfl hl.1 rfl (Nat.le_of_ble_eq_true rfl) dXM_parts_3 ⟨Nat.le_of_ble_eq_true rfl, Nat.le_of_ble_eq_true rfl⟩ (fun hz11 H locs hP hD hS => ?_)
      refine lv_if_eq (tgt := 16) hx hb dXM_parts_6 (by decide) (fun c12 => ?_) (fun c12 => ?_)
      · rw [if_pos c12] at hm
        refine lv_iconst (v := (-1)) hx hb dXM_parts_16 (by decide) ?_
        cases hm
        exact k_iret hx hb hr hlocks hK hP hD hS trivial dXM_parts_17
      · rw [if_neg c12] at hm
        refine lv_aload_n hx hb dXM_parts_9 rfl (lv_at hl 0 rfl) ?_
        refine va_get (D := D) (ci := 5) (v := .int yn_11) (C := RXM) (T := TXM) (N := 12) hx hb hts hinXM hown hK hP 0 rfl rfl 6 (by decide) (hts _ wd_395) (fun _ h9 => h9) rfl dXM_parts_10 ?_
        refine lv_goto (tgt := 17) hx hb dXM_parts_13 (by decide) ?_
        cases hm
        exact k_iret hx hb hr hlocks hK hP hD hS trivial dXM_parts_17
  exact key n a1 a2 zn zs tn ts yn ys r zn_1 zs_1 tn_1 ts_1 yn_1 ys_1 s.heap [] ls hm hP hD va_S.rf hl
set_option maxHeartbeats 4000000 in
set_option maxRecDepth 100000 in
theorem cM_part (l : Launch) (D : va_G) (q : Nat → Nat) (cA : ClassId) (N : Nat) (sz : Nat) (mr : Nat → Int32) (zn : Int32) (zs : Nat → Int32) (tn : Int32) (ts : Nat → Int32) (yn : Int32) (ys : Nat → Int32) (en : Int32) (es : Nat → Int32) (ew : Int32) (cv : Nat → Int32) (a1 a2 a3 : Int32) (n : Nat) (r : Int32) (zn_1 : Int32) (zs_1 : Nat → Int32) (tn_1 : Int32) (ts_1 : Nat → Int32) (yn_1 : Int32) (ys_1 : Nat → Int32) (hm : mM_part N mr n 0 [a1, a2, a3] zn zs tn ts yn ys = some (r, zn_1, zs_1, tn_1, ts_1, yn_1, ys_1)) : Met l yXM_part wsXM_part ({ frames := 4, cells := 0, slots := 0, locals := 99 }) (kPc D cA [.ref (q 0), .int a1, .int a2, .int a3] (wM q cA N mr zn zs tn ts yn ys en es ew cv) sz) (kQi D cA kT (va_A (wM q cA N mr zn zs tn ts yn ys en es ew cv) sz) (wM q cA N mr zn_1 zs_1 tn_1 ts_1 yn_1 ys_1 en es ew cv) r) 0 0 (va_A (wM q cA N mr zn zs tn ts yn ys en es ew cv) sz) := by
  refine k_met (D := D) (cA := cA) (w := (wM q cA N mr zn zs tn ts yn ys en es ew cv)) (sz := sz) (av := [.ref (q 0), .int a1, .int a2, .int a3]) (cc := cXM_part) (maxL := 4) (ret := (some .int)) (Qc := fun A => kQi D cA kT A (wM q cA N mr zn_1 zs_1 tn_1 ts_1 yn_1 ys_1 en es ew cv) r) (by decide) rfl (Nat.le_of_ble_eq_true rfl) ?_
  intro p e s m below meth c A ls hX hK hN hA hP hD hl
  obtain ⟨hx, hb, hr, hml, hown, hts, hlocks, -⟩ := hX
  have hown : s.vm.findClass RXM = some m.cls := hown
  have hl : lv_has ls 4 [(0, .ref (q 0)), (1, .int a1), (2, .int a2), (3, .int a3)] := hl
  have hts : ∀ w ∈ W0, w.before _ s = true := fun w h => hts w (List.mem_cons_of_mem _ h)
  have key : ∀ n : Nat, (∀ (x1 x2 x3 : Int32) (zn : Int32) (zs : Nat → Int32) (tn : Int32) (ts : Nat → Int32) (yn : Int32) (ys : Nat → Int32) (r : Int32) (zn_1 : Int32) (zs_1 : Nat → Int32) (tn_1 : Int32) (ts_1 : Nat → Int32) (yn_1 : Int32) (ys_1 : Nat → Int32) (H : Heap) (locs : List Loc) (ls : Array Slot), mM_part N mr n 0 [x1, x2, x3] zn zs tn ts yn ys = some (r, zn_1, zs_1, tn_1, ts_1, yn_1, ys_1) → va_P D vwCl (wM q cA N mr zn zs tn ts yn ys en es ew cv) H → va_D A (wM q cA N mr zn zs tn ts yn ys en es ew cv) → va_S A s.heap H locs → lv_has ls 4 [(0, .ref (q 0)), (1, .int x1), (2, .int x2), (3, .int x3)] → W p l e ({ frames := 4, cells := 0, slots := 0, locals := 99 }) s m ([.ref (q 0), .int a1, .int a2, .int a3] : List Value).toArray below meth c H locs 0 0 (MQ below (kQi D cA kT A (wM q cA N mr zn_1 zs_1 tn_1 ts_1 yn_1 ys_1 en es ew cv) r) ([.ref (q 0), .int a1, .int a2, .int a3] : List Value).toArray s 0 0 A) (F0 m 0 ls [])) := by
    intro n
    induction n with
    | zero => exact (by intros; rename_i h _ _ _ _; rw [mM_part_z] at h; cases h)
    | succ n ih =>
      have ih0 := ih
      intro x1 x2 x3 zn zs tn ts yn ys r zn_1 zs_1 tn_1 ts_1 yn_1 ys_1 H locs ls hm hP hD hS hl
      rw [mM_part_e0] at hm
      refine lv_aload_n hx hb dXM_part_0 rfl (lv_at hl 0 rfl) ?_
      refine lv_iload_n hx hb dXM_part_1 rfl (lv_at hl 1 rfl) ?_
      refine lv_iload_n hx hb dXM_part_2 rfl (lv_at hl 2 rfl) ?_
      obtain ⟨⟨r11, zn_11, zs_11, tn_11, ts_11, yn_11, ys_11⟩, hm11, hm⟩ := kb_s hm
      dsimp only at hm
      refine k_vi (As := [.int x1, .int x2]) (rest := []) (w2 := (wM q cA N mr zn_11 zs_11 tn_11 ts_11 yn_11 ys_11 en es ew cv)) ⟨hx, hb, hml, hown, hts⟩ (cM_open l D q cA N H.size mr zn zs tn ts yn ys en es ew cv x1 x2 n r11 zn_11 zs_11 tn_11 ts_11 yn_11 ys_11 hm11) (cwV 2 hts (gV wd_470 wd_471 wd_23 wd_41 wd_472) rfl rfl rfl (by decide +kernel) ⟨Nat.le_of_ble_eq_true rfl, Nat.le_of_ble_eq_true rfl⟩) hK hN hP hD hS hA [0, 1, 2, 3, 4, 5, 6] [] [0, 1, 2, 3, 4, 5, 6] ⟨rfl, rfl, by decide, rfl, by decide, by decide, rfl, rfl, by decide⟩ (va_recv hK hP (ci := 5) (q0 := 0) rfl rfl) rfl hl.1 rfl (Nat.le_of_ble_eq_true rfl) dXM_part_3 ⟨Nat.le_of_ble_eq_true rfl, Nat.le_of_ble_eq_true rfl⟩ (fun hz11 H locs hP hD hS => ?_)
      refine lv_if_eq (tgt := 30) hx hb dXM_part_6 (by decide) (fun c12 => ?_) (fun c12 => ?_)
      · rw [if_pos c12] at hm
        refine lv_iconst (v := (-1)) hx hb dXM_part_30 (by decide) ?_
        cases hm
        exact k_iret hx hb hr hlocks hK hP hD hS trivial dXM_part_31
      · rw [if_neg c12] at hm
        refine lv_iload_n hx hb dXM_part_9 rfl (lv_at hl 3 rfl) ?_
        refine lv_if_lt (tgt := 30) hx hb dXM_part_10 (by decide) (fun c13 => ?_) (fun c13 => ?_)
        · rw [if_pos c13] at hm
          refine lv_iconst (v := (-1)) hx hb dXM_part_30 (by decide) ?_
          cases hm
          exact k_iret hx hb hr hlocks hK hP hD hS trivial dXM_part_31
        · rw [if_neg c13] at hm
          refine lv_iload_n hx hb dXM_part_13 rfl (lv_at hl 3 rfl) ?_
          refine lv_aload_n hx hb dXM_part_14 rfl (lv_at hl 0 rfl) ?_
          refine va_get (D := D) (ci := 5) (v := .int yn_11) (C := RXM) (T := TXM) (N := 12) hx hb hts hinXM hown hK hP 0 rfl rfl 6 (by decide) (hts _ wd_395) (fun _ h9 => h9) rfl dXM_part_15 ?_
          refine lv_icmp_ge (tgt := 30) hx hb dXM_part_18 (by decide) (fun c14 => ?_) (fun c14 => ?_)
          · rw [if_pos c14] at hm
            refine lv_iconst (v := (-1)) hx hb dXM_part_30 (by decide) ?_
            cases hm
            exact k_iret hx hb hr hlocks hK hP hD hS trivial dXM_part_31
          · rw [if_neg c14] at hm
            refine lv_aload_n hx hb dXM_part_21 rfl (lv_at hl 0 rfl) ?_
            refine va_get (D := D) (ci := 5) (v := .ref (q 4)) (C := RXM) (T := TXM) (N := 12) hx hb hts hinXM hown hK hP 0 rfl rfl 7 (by decide) (hts _ wd_396) (fun _ h9 => h9) rfl dXM_part_22 ?_
            refine lv_iload_n hx hb dXM_part_25 rfl (lv_at hl 3 rfl) ?_
            obtain ⟨hg15, hm⟩ := kg_s hm
            refine va_iald hx hb hK hP 4 0 rfl rfl hg15 dXM_part_26 ?_
            refine lv_goto (tgt := 31) hx hb dXM_part_27 (by decide) ?_
            cases hm
            exact k_iret hx hb hr hlocks hK hP hD hS trivial dXM_part_31
  exact key n a1 a2 a3 zn zs tn ts yn ys r zn_1 zs_1 tn_1 ts_1 yn_1 ys_1 s.heap [] ls hm hP hD va_S.rf hl
set_option maxHeartbeats 4000000 in
set_option maxRecDepth 100000 in
theorem cM_centre (l : Launch) (D : va_G) (q : Nat → Nat) (cA : ClassId) (N : Nat) (sz : Nat) (mr : Nat → Int32) (zn : Int32) (zs : Nat → Int32) (tn : Int32) (ts : Nat → Int32) (yn : Int32) (ys : Nat → Int32) (en : Int32) (es : Nat → Int32) (ew : Int32) (cv : Nat → Int32) (a1 a2 : Int32) (n : Nat) (r : Int32) (zn_1 : Int32) (zs_1 : Nat → Int32) (tn_1 : Int32) (ts_1 : Nat → Int32) (yn_1 : Int32) (ys_1 : Nat → Int32) (hm : mM_centre N mr n 0 [a1, a2] zn zs tn ts yn ys = some (r, zn_1, zs_1, tn_1, ts_1, yn_1, ys_1)) : Met l yXM_centre wsXM_centre ({ frames := 4, cells := 0, slots := 0, locals := 99 }) (kPc D cA [.ref (q 0), .int a1, .int a2] (wM q cA N mr zn zs tn ts yn ys en es ew cv) sz) (kQi D cA kT (va_A (wM q cA N mr zn zs tn ts yn ys en es ew cv) sz) (wM q cA N mr zn_1 zs_1 tn_1 ts_1 yn_1 ys_1 en es ew cv) r) 0 0 (va_A (wM q cA N mr zn zs tn ts yn ys en es ew cv) sz) := by
  refine k_met (D := D) (cA := cA) (w := (wM q cA N mr zn zs tn ts yn ys en es ew cv)) (sz := sz) (av := [.ref (q 0), .int a1, .int a2]) (cc := cXM_centre) (maxL := 4) (ret := (some .int)) (Qc := fun A => kQi D cA kT A (wM q cA N mr zn_1 zs_1 tn_1 ts_1 yn_1 ys_1 en es ew cv) r) (by decide) rfl (Nat.le_of_ble_eq_true rfl) ?_
  intro p e s m below meth c A ls hX hK hN hA hP hD hl
  obtain ⟨hx, hb, hr, hml, hown, hts, hlocks, -⟩ := hX
  have hown : s.vm.findClass RXM = some m.cls := hown
  have hl : lv_has ls 4 [(0, .ref (q 0)), (1, .int a1), (2, .int a2)] := hl
  have hts : ∀ w ∈ W0, w.before _ s = true := fun w h => hts w (List.mem_cons_of_mem _ h)
  have key : ∀ n : Nat, (∀ (x1 x2 : Int32) (zn : Int32) (zs : Nat → Int32) (tn : Int32) (ts : Nat → Int32) (yn : Int32) (ys : Nat → Int32) (r : Int32) (zn_1 : Int32) (zs_1 : Nat → Int32) (tn_1 : Int32) (ts_1 : Nat → Int32) (yn_1 : Int32) (ys_1 : Nat → Int32) (H : Heap) (locs : List Loc) (ls : Array Slot), mM_centre N mr n 0 [x1, x2] zn zs tn ts yn ys = some (r, zn_1, zs_1, tn_1, ts_1, yn_1, ys_1) → va_P D vwCl (wM q cA N mr zn zs tn ts yn ys en es ew cv) H → va_D A (wM q cA N mr zn zs tn ts yn ys en es ew cv) → va_S A s.heap H locs → lv_has ls 4 [(0, .ref (q 0)), (1, .int x1), (2, .int x2)] → W p l e ({ frames := 4, cells := 0, slots := 0, locals := 99 }) s m ([.ref (q 0), .int a1, .int a2] : List Value).toArray below meth c H locs 0 0 (MQ below (kQi D cA kT A (wM q cA N mr zn_1 zs_1 tn_1 ts_1 yn_1 ys_1 en es ew cv) r) ([.ref (q 0), .int a1, .int a2] : List Value).toArray s 0 0 A) (F0 m 0 ls [])) := by
    intro n
    induction n with
    | zero => exact (by intros; rename_i h _ _ _ _; rw [mM_centre_z] at h; cases h)
    | succ n ih =>
      have ih0 := ih
      intro x1 x2 zn zs tn ts yn ys r zn_1 zs_1 tn_1 ts_1 yn_1 ys_1 H locs ls hm hP hD hS hl
      rw [mM_centre_e0] at hm
      refine lv_aload_n hx hb dXM_centre_0 rfl (lv_at hl 0 rfl) ?_
      refine lv_iload_n hx hb dXM_centre_1 rfl (lv_at hl 1 rfl) ?_
      refine lv_iload_n hx hb dXM_centre_2 rfl (lv_at hl 2 rfl) ?_
      obtain ⟨⟨r11, zn_11, zs_11, tn_11, ts_11, yn_11, ys_11⟩, hm11, hm⟩ := kb_s hm
      dsimp only at hm
      refine k_vi (As := [.int x1, .int x2]) (rest := []) (w2 := (wM q cA N mr zn_11 zs_11 tn_11 ts_11 yn_11 ys_11 en es ew cv)) ⟨hx, hb, hml, hown, hts⟩ (cM_open l D q cA N H.size mr zn zs tn ts yn ys en es ew cv x1 x2 n r11 zn_11 zs_11 tn_11 ts_11 yn_11 ys_11 hm11) (cwV 2 hts (gV wd_470 wd_471 wd_23 wd_41 wd_472) rfl rfl rfl (by decide +kernel) ⟨Nat.le_of_ble_eq_true rfl, Nat.le_of_ble_eq_true rfl⟩) hK hN hP hD hS hA [0, 1, 2, 3, 4, 5, 6] [] [0, 1, 2, 3, 4, 5, 6] ⟨rfl, rfl, by decide, rfl, by decide, by decide, rfl, rfl, by decide⟩ (va_recv hK hP (ci := 5) (q0 := 0) rfl rfl) rfl hl.1 rfl (Nat.le_of_ble_eq_true rfl) dXM_centre_3 ⟨Nat.le_of_ble_eq_true rfl, Nat.le_of_ble_eq_true rfl⟩ (fun hz11 H locs hP hD hS => ?_)
      refine lv_if_ne (tgt := 11) hx hb dXM_centre_6 (by decide) (fun c12 => ?_) (fun c12 => ?_)
      · rw [if_neg c12] at hm
        refine lv_aload_n hx hb dXM_centre_11 rfl (lv_at hl 0 rfl) ?_
        obtain ⟨r13, hm13, hm⟩ := kb_s hm
        refine k_vi (As := []) (rest := []) (w2 := (wM q cA N mr zn_11 zs_11 tn_11 ts_11 yn_11 ys_11 en es ew cv)) ⟨hx, hb, hml, hown, hts⟩ (cM_middle l D q cA N H.size mr zn_11 zs_11 tn_11 ts_11 yn_11 ys_11 en es ew cv n r13 hm13) (cwV 0 hts (gV wd_479 wd_480 wd_25 wd_41 wd_481) rfl rfl rfl (by decide +kernel) ⟨Nat.le_of_ble_eq_true rfl, Nat.le_of_ble_eq_true rfl⟩) hK hN hP hD hS hA [0, 1, 2, 3, 4, 5, 6] [] [0, 1, 2, 3, 4, 5, 6] ⟨rfl, rfl, by decide, rfl, by decide, by decide, rfl, rfl, by decide⟩ (va_recv hK hP (ci := 5) (q0 := 0) rfl rfl) rfl hl.1 rfl (Nat.le_of_ble_eq_true rfl) dXM_centre_12 ⟨Nat.le_of_ble_eq_true rfl, Nat.le_of_ble_eq_true rfl⟩ (fun hz13 H locs hP hD hS => ?_)
        refine lv_istore_n (lv' := [(3, .int r13), (0, .ref (q 0)), (1, .int x1), (2, .int x2)]) hx hb dXM_centre_15 rfl hl (by decide) rfl (fun ls hl => ?_)
        refine lv_iload_n hx hb dXM_centre_16 rfl (lv_at hl 0 rfl) ?_
        refine lv_if_lt (tgt := 29) hx hb dXM_centre_17 (by decide) (fun c14 => ?_) (fun c14 => ?_)
        · rw [if_pos c14] at hm
          refine lv_iconst (v := (-1)) hx hb dXM_centre_29 (by decide) ?_
          cases hm
          exact k_iret hx hb hr hlocks hK hP hD hS trivial dXM_centre_30
        · rw [if_neg c14] at hm
          refine lv_aload_n hx hb dXM_centre_20 rfl (lv_at hl 1 rfl) ?_
          refine va_get (D := D) (ci := 5) (v := .ref (q 4)) (C := RXM) (T := TXM) (N := 12) hx hb hts hinXM hown hK hP 0 rfl rfl 7 (by decide) (hts _ wd_396) (fun _ h9 => h9) rfl dXM_centre_21 ?_
          refine lv_iload_n hx hb dXM_centre_24 rfl (lv_at hl 0 rfl) ?_
          obtain ⟨hg15, hm⟩ := kg_s hm
          refine va_iald hx hb hK hP 4 0 rfl rfl hg15 dXM_centre_25 ?_
          refine lv_goto (tgt := 30) hx hb dXM_centre_26 (by decide) ?_
          cases hm
          exact k_iret hx hb hr hlocks hK hP hD hS trivial dXM_centre_30
      · rw [if_pos c12] at hm
        refine lv_iconst (v := (-1)) hx hb dXM_centre_9 (by decide) ?_
        cases hm
        exact k_iret hx hb hr hlocks hK hP hD hS trivial dXM_centre_10
  exact key n a1 a2 zn zs tn ts yn ys r zn_1 zs_1 tn_1 ts_1 yn_1 ys_1 s.heap [] ls hm hP hD va_S.rf hl
set_option maxHeartbeats 4000000 in
set_option maxRecDepth 100000 in
theorem cM_partOf (l : Launch) (D : va_G) (q : Nat → Nat) (cA : ClassId) (N : Nat) (sz : Nat) (mr : Nat → Int32) (zn : Int32) (zs : Nat → Int32) (tn : Int32) (ts : Nat → Int32) (yn : Int32) (ys : Nat → Int32) (en : Int32) (es : Nat → Int32) (ew : Int32) (cv : Nat → Int32) (a1 : Int32) (n : Nat) (r : Int32) (hm : mM_partOf N yn ys n 0 [a1] = some r) : Met l yXM_partOf wsXM_partOf ({ frames := 0, cells := 0, slots := 0, locals := 0 }) (kPc D cA [.ref (q 0), .int a1] (wM q cA N mr zn zs tn ts yn ys en es ew cv) sz) (kQi D cA kT (va_A (wM q cA N mr zn zs tn ts yn ys en es ew cv) sz) (wM q cA N mr zn zs tn ts yn ys en es ew cv) r) 0 0 (va_A (wM q cA N mr zn zs tn ts yn ys en es ew cv) sz) := by
  refine k_met (D := D) (cA := cA) (w := (wM q cA N mr zn zs tn ts yn ys en es ew cv)) (sz := sz) (av := [.ref (q 0), .int a1]) (cc := cXM_partOf) (maxL := 4) (ret := (some .int)) (Qc := fun A => kQi D cA kT A (wM q cA N mr zn zs tn ts yn ys en es ew cv) r) (by decide) rfl (Nat.le_of_ble_eq_true rfl) ?_
  intro p e s m below meth c A ls hX hK hN hA hP hD hl
  obtain ⟨hx, hb, hr, hml, hown, hts, hlocks, -⟩ := hX
  have hown : s.vm.findClass RXM = some m.cls := hown
  have hl : lv_has ls 4 [(0, .ref (q 0)), (1, .int a1)] := hl
  have hts : ∀ w ∈ W0, w.before _ s = true := fun w h => hts w (List.mem_cons_of_mem _ h)
  have key : ∀ n : Nat, (∀ (x1 : Int32) (r : Int32) (H : Heap) (locs : List Loc) (ls : Array Slot), mM_partOf N yn ys n 0 [x1] = some r → va_P D vwCl (wM q cA N mr zn zs tn ts yn ys en es ew cv) H → va_D A (wM q cA N mr zn zs tn ts yn ys en es ew cv) → va_S A s.heap H locs → lv_has ls 4 [(0, .ref (q 0)), (1, .int x1)] → W p l e ({ frames := 0, cells := 0, slots := 0, locals := 0 }) s m ([.ref (q 0), .int a1] : List Value).toArray below meth c H locs 0 0 (MQ below (kQi D cA kT A (wM q cA N mr zn zs tn ts yn ys en es ew cv) r) ([.ref (q 0), .int a1] : List Value).toArray s 0 0 A) (F0 m 0 ls [])) ∧
    (∀ (x1 x2 x3 : Int32) (r : Int32) (H : Heap) (locs : List Loc) (ls : Array Slot), mM_partOf N yn ys n 1 [x1, x2, x3] = some r → va_P D vwCl (wM q cA N mr zn zs tn ts yn ys en es ew cv) H → va_D A (wM q cA N mr zn zs tn ts yn ys en es ew cv) → va_S A s.heap H locs → lv_has ls 4 [(0, .ref (q 0)), (1, .int x1), (2, .int x2), (3, .int x3)] → W p l e ({ frames := 0, cells := 0, slots := 0, locals := 0 }) s m ([.ref (q 0), .int a1] : List Value).toArray below meth c H locs 0 0 (MQ below (kQi D cA kT A (wM q cA N mr zn zs tn ts yn ys en es ew cv) r) ([.ref (q 0), .int a1] : List Value).toArray s 0 0 A) (F0 m 4 ls [])) := by
    intro n
    induction n with
    | zero => exact ⟨(by intros; rename_i h _ _ _ _; rw [mM_partOf_z] at h; cases h), (by intros; rename_i h _ _ _ _; rw [mM_partOf_z] at h; cases h)⟩
    | succ n ih =>
      obtain ⟨ih0, ih1⟩ := ih
      refine ⟨?_, ?_⟩
      · intro x1 r H locs ls hm hP hD hS hl
        rw [mM_partOf_e0] at hm
        refine lv_iconst (v := 0) hx hb dXM_partOf_0 (by decide) ?_
        refine lv_istore_n (lv' := [(2, .int 0), (0, .ref (q 0)), (1, .int x1)]) hx hb dXM_partOf_1 rfl hl (by decide) rfl (fun ls hl => ?_)
        refine lv_iconst (v := 0) hx hb dXM_partOf_2 (by decide) ?_
        refine lv_istore_n (lv' := [(3, .int 0), (2, .int 0), (0, .ref (q 0)), (1, .int x1)]) hx hb dXM_partOf_3 rfl hl (by decide) rfl (fun ls hl => ?_)
        exact ih1 x1 0 0 _ H locs ls hm hP hD hS (lv_sub hl [2, 3, 1, 0] rfl)
      · intro x1 x2 x3 r H locs ls hm hP hD hS hl
        rw [mM_partOf_e1] at hm
        refine lv_iload_n hx hb dXM_partOf_4 rfl (lv_at hl 3 rfl) ?_
        refine lv_aload_n hx hb dXM_partOf_5 rfl (lv_at hl 0 rfl) ?_
        refine va_get (D := D) (ci := 5) (v := .int yn) (C := RXM) (T := TXM) (N := 12) hx hb hts hinXM hown hK hP 0 rfl rfl 6 (by decide) (hts _ wd_395) (fun _ h9 => h9) rfl dXM_partOf_6 ?_
        refine lv_icmp_ge (tgt := 38) hx hb dXM_partOf_9 (by decide) (fun c111 => ?_) (fun c111 => ?_)
        · rw [if_pos c111] at hm
          refine lv_iload_n hx hb dXM_partOf_38 rfl (lv_at hl 2 rfl) ?_
          cases hm
          exact k_iret hx hb hr hlocks hK hP hD hS trivial dXM_partOf_39
        · rw [if_neg c111] at hm
          refine lv_aload_n hx hb dXM_partOf_12 rfl (lv_at hl 0 rfl) ?_
          refine va_get (D := D) (ci := 5) (v := .ref (q 4)) (C := RXM) (T := TXM) (N := 12) hx hb hts hinXM hown hK hP 0 rfl rfl 7 (by decide) (hts _ wd_396) (fun _ h9 => h9) rfl dXM_partOf_13 ?_
          refine lv_iload_n hx hb dXM_partOf_16 rfl (lv_at hl 3 rfl) ?_
          obtain ⟨hg112, hm⟩ := kg_s hm
          refine va_iald hx hb hK hP 4 0 rfl rfl hg112 dXM_partOf_17 ?_
          refine lv_iload_n hx hb dXM_partOf_18 rfl (lv_at hl 1 rfl) ?_
          refine lv_ishr hx hb dXM_partOf_19 ?_
          refine lv_iconst (v := 1) hx hb dXM_partOf_20 (by decide) ?_
          refine lv_iand hx hb dXM_partOf_21 ?_
          refine lv_iconst (v := 1) hx hb dXM_partOf_22 (by decide) ?_
          refine lv_icmp_ne (tgt := 30) hx hb dXM_partOf_23 (by decide) (fun c113 => ?_) (fun c113 => ?_)
          · rw [if_neg c113] at hm
            refine lv_iload_n hx hb dXM_partOf_30 rfl (lv_at hl 2 rfl) ?_
            refine lv_istore_n (lv' := [(2, .int x2), (0, .ref (q 0)), (1, .int x1), (3, .int x3)]) hx hb dXM_partOf_31 rfl hl (by decide) rfl (fun ls hl => ?_)
            refine lv_iinc (v := (x3 + 1)) (lv' := [(3, .int (x3 + 1)), (2, .int x2), (0, .ref (q 0)), (1, .int x1)]) hx hb dXM_partOf_32 hl (k := 3) rfl rfl (by decide) rfl (fun ls hl => ?_)
            refine lv_goto (tgt := 4) hx hb dXM_partOf_35 (by decide) ?_
            exact ih1 x1 x2 (x3 + 1) _ H locs ls hm hP hD hS (lv_sub hl [2, 3, 1, 0] rfl)
          · rw [if_pos c113] at hm
            refine lv_iload_n hx hb dXM_partOf_26 rfl (lv_at hl 3 rfl) ?_
            refine lv_goto (tgt := 31) hx hb dXM_partOf_27 (by decide) ?_
            refine lv_istore_n (lv' := [(2, .int x3), (0, .ref (q 0)), (1, .int x1), (3, .int x3)]) hx hb dXM_partOf_31 rfl hl (by decide) rfl (fun ls hl => ?_)
            refine lv_iinc (v := (x3 + 1)) (lv' := [(3, .int (x3 + 1)), (2, .int x3), (0, .ref (q 0)), (1, .int x1)]) hx hb dXM_partOf_32 hl (k := 3) rfl rfl (by decide) rfl (fun ls hl => ?_)
            refine lv_goto (tgt := 4) hx hb dXM_partOf_35 (by decide) ?_
            exact ih1 x1 x3 (x3 + 1) _ H locs ls hm hP hD hS (lv_sub hl [2, 3, 1, 0] rfl)
  exact (key n).1 a1 r s.heap [] ls hm hP hD va_S.rf hl
set_option maxHeartbeats 4000000 in
set_option maxRecDepth 100000 in
theorem cM_linked (l : Launch) (D : va_G) (q : Nat → Nat) (cA : ClassId) (N : Nat) (sz : Nat) (mr : Nat → Int32) (zn : Int32) (zs : Nat → Int32) (tn : Int32) (ts : Nat → Int32) (yn : Int32) (ys : Nat → Int32) (en : Int32) (es : Nat → Int32) (ew : Int32) (cv : Nat → Int32) (a1 a2 : Int32) (n : Nat) (r : Int32) (zn_1 : Int32) (zs_1 : Nat → Int32) (tn_1 : Int32) (ts_1 : Nat → Int32) (yn_1 : Int32) (ys_1 : Nat → Int32) (hm : mM_linked N mr n 0 [a1, a2] zn zs tn ts yn ys = some (r, zn_1, zs_1, tn_1, ts_1, yn_1, ys_1)) : Met l yXM_linked wsXM_linked ({ frames := 4, cells := 0, slots := 0, locals := 99 }) (kPc D cA [.ref (q 0), .int a1, .int a2] (wM q cA N mr zn zs tn ts yn ys en es ew cv) sz) (kQi D cA kB (va_A (wM q cA N mr zn zs tn ts yn ys en es ew cv) sz) (wM q cA N mr zn_1 zs_1 tn_1 ts_1 yn_1 ys_1 en es ew cv) r) 0 0 (va_A (wM q cA N mr zn zs tn ts yn ys en es ew cv) sz) := by
  refine k_met (D := D) (cA := cA) (w := (wM q cA N mr zn zs tn ts yn ys en es ew cv)) (sz := sz) (av := [.ref (q 0), .int a1, .int a2]) (cc := cXM_linked) (maxL := 9) (ret := (some .boolean)) (Qc := fun A => kQi D cA kB A (wM q cA N mr zn_1 zs_1 tn_1 ts_1 yn_1 ys_1 en es ew cv) r) (by decide) rfl (Nat.le_of_ble_eq_true rfl) ?_
  intro p e s m below meth c A ls hX hK hN hA hP hD hl
  obtain ⟨hx, hb, hr, hml, hown, hts, hlocks, -⟩ := hX
  have hown : s.vm.findClass RXM = some m.cls := hown
  have hl : lv_has ls 9 [(0, .ref (q 0)), (1, .int a1), (2, .int a2)] := hl
  have hts : ∀ w ∈ W0, w.before _ s = true := fun w h => hts w (List.mem_cons_of_mem _ h)
  have key : ∀ n : Nat, (∀ (x1 x2 : Int32) (zn : Int32) (zs : Nat → Int32) (tn : Int32) (ts : Nat → Int32) (yn : Int32) (ys : Nat → Int32) (r : Int32) (zn_1 : Int32) (zs_1 : Nat → Int32) (tn_1 : Int32) (ts_1 : Nat → Int32) (yn_1 : Int32) (ys_1 : Nat → Int32) (H : Heap) (locs : List Loc) (ls : Array Slot), mM_linked N mr n 0 [x1, x2] zn zs tn ts yn ys = some (r, zn_1, zs_1, tn_1, ts_1, yn_1, ys_1) → va_P D vwCl (wM q cA N mr zn zs tn ts yn ys en es ew cv) H → va_D A (wM q cA N mr zn zs tn ts yn ys en es ew cv) → va_S A s.heap H locs → lv_has ls 9 [(0, .ref (q 0)), (1, .int x1), (2, .int x2)] → W p l e ({ frames := 4, cells := 0, slots := 0, locals := 99 }) s m ([.ref (q 0), .int a1, .int a2] : List Value).toArray below meth c H locs 0 0 (MQ below (kQi D cA kB A (wM q cA N mr zn_1 zs_1 tn_1 ts_1 yn_1 ys_1 en es ew cv) r) ([.ref (q 0), .int a1, .int a2] : List Value).toArray s 0 0 A) (F0 m 0 ls [])) ∧
    (∀ (x1 x2 x3 x4 x5 : Int32) (zn : Int32) (zs : Nat → Int32) (tn : Int32) (ts : Nat → Int32) (yn : Int32) (ys : Nat → Int32) (r : Int32) (zn_1 : Int32) (zs_1 : Nat → Int32) (tn_1 : Int32) (ts_1 : Nat → Int32) (yn_1 : Int32) (ys_1 : Nat → Int32) (H : Heap) (locs : List Loc) (ls : Array Slot), mM_linked N mr n 1 [x1, x2, x3, x4, x5] zn zs tn ts yn ys = some (r, zn_1, zs_1, tn_1, ts_1, yn_1, ys_1) → va_P D vwCl (wM q cA N mr zn zs tn ts yn ys en es ew cv) H → va_D A (wM q cA N mr zn zs tn ts yn ys en es ew cv) → va_S A s.heap H locs → lv_has ls 9 [(0, .ref (q 0)), (1, .int x1), (2, .int x2), (3, .int x3), (4, .int x4), (5, .int x5)] → W p l e ({ frames := 4, cells := 0, slots := 0, locals := 99 }) s m ([.ref (q 0), .int a1, .int a2] : List Value).toArray below meth c H locs 0 0 (MQ below (kQi D cA kB A (wM q cA N mr zn_1 zs_1 tn_1 ts_1 yn_1 ys_1 en es ew cv) r) ([.ref (q 0), .int a1, .int a2] : List Value).toArray s 0 0 A) (F0 m 57 ls [])) ∧
    (∀ (x1 x2 x3 x5 : Int32) (zn : Int32) (zs : Nat → Int32) (tn : Int32) (ts : Nat → Int32) (yn : Int32) (ys : Nat → Int32) (r : Int32) (zn_1 : Int32) (zs_1 : Nat → Int32) (tn_1 : Int32) (ts_1 : Nat → Int32) (yn_1 : Int32) (ys_1 : Nat → Int32) (H : Heap) (locs : List Loc) (ls : Array Slot), mM_linked N mr n 2 [x1, x2, x3, x5] zn zs tn ts yn ys = some (r, zn_1, zs_1, tn_1, ts_1, yn_1, ys_1) → va_P D vwCl (wM q cA N mr zn zs tn ts yn ys en es ew cv) H → va_D A (wM q cA N mr zn zs tn ts yn ys en es ew cv) → va_S A s.heap H locs → lv_has ls 9 [(0, .ref (q 0)), (1, .int x1), (2, .int x2), (3, .int x3), (5, .int x5)] → W p l e ({ frames := 4, cells := 0, slots := 0, locals := 99 }) s m ([.ref (q 0), .int a1, .int a2] : List Value).toArray below meth c H locs 0 0 (MQ below (kQi D cA kB A (wM q cA N mr zn_1 zs_1 tn_1 ts_1 yn_1 ys_1 en es ew cv) r) ([.ref (q 0), .int a1, .int a2] : List Value).toArray s 0 0 A) (F0 m 124 ls [])) ∧
    (∀ (x1 x2 x3 x5 : Int32) (zn : Int32) (zs : Nat → Int32) (tn : Int32) (ts : Nat → Int32) (yn : Int32) (ys : Nat → Int32) (r : Int32) (zn_1 : Int32) (zs_1 : Nat → Int32) (tn_1 : Int32) (ts_1 : Nat → Int32) (yn_1 : Int32) (ys_1 : Nat → Int32) (H : Heap) (locs : List Loc) (ls : Array Slot), mM_linked N mr n 3 [x1, x2, x3, x5] zn zs tn ts yn ys = some (r, zn_1, zs_1, tn_1, ts_1, yn_1, ys_1) → va_P D vwCl (wM q cA N mr zn zs tn ts yn ys en es ew cv) H → va_D A (wM q cA N mr zn zs tn ts yn ys en es ew cv) → va_S A s.heap H locs → lv_has ls 9 [(0, .ref (q 0)), (1, .int x1), (2, .int x2), (3, .int x3), (5, .int x5)] → W p l e ({ frames := 4, cells := 0, slots := 0, locals := 99 }) s m ([.ref (q 0), .int a1, .int a2] : List Value).toArray below meth c H locs 0 0 (MQ below (kQi D cA kB A (wM q cA N mr zn_1 zs_1 tn_1 ts_1 yn_1 ys_1 en es ew cv) r) ([.ref (q 0), .int a1, .int a2] : List Value).toArray s 0 0 A) (F0 m 128 ls [])) := by
    intro n
    induction n with
    | zero => exact ⟨(by intros; rename_i h _ _ _ _; rw [mM_linked_z] at h; cases h), (by intros; rename_i h _ _ _ _; rw [mM_linked_z] at h; cases h), (by intros; rename_i h _ _ _ _; rw [mM_linked_z] at h; cases h), (by intros; rename_i h _ _ _ _; rw [mM_linked_z] at h; cases h)⟩
    | succ n ih =>
      obtain ⟨ih0, ih1, ih2, ih3⟩ := ih
      refine ⟨?_, ?_, ?_, ?_⟩
      · intro x1 x2 zn zs tn ts yn ys r zn_1 zs_1 tn_1 ts_1 yn_1 ys_1 H locs ls hm hP hD hS hl
        rw [mM_linked_e0] at hm
        refine lv_aload_n hx hb dXM_linked_0 rfl (lv_at hl 0 rfl) ?_
        refine lv_iload_n hx hb dXM_linked_1 rfl (lv_at hl 1 rfl) ?_
        obtain ⟨r11, hm11, hm⟩ := kb_s hm
        refine k_vi (As := [.int x1]) (rest := []) (w2 := (wM q cA N mr zn zs tn ts yn ys en es ew cv)) ⟨hx, hb, hml, hown, hts⟩ (cM_is l D q cA N H.size mr zn zs tn ts yn ys en es ew cv x1 n r11 hm11) (cwV 1 hts (gV wd_421 wd_422 wd_18 wd_41 wd_423) rfl rfl rfl (by decide +kernel) ⟨Nat.le_of_ble_eq_true rfl, Nat.le_of_ble_eq_true rfl⟩) hK hN hP hD hS hA [0, 1, 2, 3, 4, 5, 6] [] [0, 1, 2, 3, 4, 5, 6] ⟨rfl, rfl, by decide, rfl, by decide, by decide, rfl, rfl, by decide⟩ (va_recv hK hP (ci := 5) (q0 := 0) rfl rfl) rfl hl.1 rfl (Nat.le_of_ble_eq_true rfl) dXM_linked_2 ⟨Nat.le_of_ble_eq_true rfl, Nat.le_of_ble_eq_true rfl⟩ (fun hz11 H locs hP hD hS => ?_)
        refine lv_if_eq (tgt := 33) hx hb dXM_linked_5 (by decide) (fun c12 => ?_) (fun c12 => ?_)
        · rw [if_pos c12] at hm
          refine lv_iconst (v := 0) hx hb dXM_linked_33 (by decide) ?_
          cases hm
          exact k_zret hx hb hr hlocks hK hP hD hS (Or.inl rfl) dXM_linked_34
        · rw [if_neg c12] at hm
          refine lv_aload_n hx hb dXM_linked_8 rfl (lv_at hl 0 rfl) ?_
          refine lv_iload_n hx hb dXM_linked_9 rfl (lv_at hl 2 rfl) ?_
          obtain ⟨r13, hm13, hm⟩ := kb_s hm
          refine k_vi (As := [.int x2]) (rest := []) (w2 := (wM q cA N mr zn zs tn ts yn ys en es ew cv)) ⟨hx, hb, hml, hown, hts⟩ (cM_is l D q cA N H.size mr zn zs tn ts yn ys en es ew cv x2 n r13 hm13) (cwV 1 hts (gV wd_421 wd_422 wd_18 wd_41 wd_423) rfl rfl rfl (by decide +kernel) ⟨Nat.le_of_ble_eq_true rfl, Nat.le_of_ble_eq_true rfl⟩) hK hN hP hD hS hA [0, 1, 2, 3, 4, 5, 6] [] [0, 1, 2, 3, 4, 5, 6] ⟨rfl, rfl, by decide, rfl, by decide, by decide, rfl, rfl, by decide⟩ (va_recv hK hP (ci := 5) (q0 := 0) rfl rfl) rfl hl.1 rfl (Nat.le_of_ble_eq_true rfl) dXM_linked_10 ⟨Nat.le_of_ble_eq_true rfl, Nat.le_of_ble_eq_true rfl⟩ (fun hz13 H locs hP hD hS => ?_)
          refine lv_if_eq (tgt := 33) hx hb dXM_linked_13 (by decide) (fun c14 => ?_) (fun c14 => ?_)
          · rw [if_pos c14] at hm
            refine lv_iconst (v := 0) hx hb dXM_linked_33 (by decide) ?_
            cases hm
            exact k_zret hx hb hr hlocks hK hP hD hS (Or.inl rfl) dXM_linked_34
          · rw [if_neg c14] at hm
            refine lv_iload_n hx hb dXM_linked_16 rfl (lv_at hl 1 rfl) ?_
            refine lv_iload_n hx hb dXM_linked_17 rfl (lv_at hl 2 rfl) ?_
            refine lv_icmp_eq (tgt := 33) hx hb dXM_linked_18 (by decide) (fun c15 => ?_) (fun c15 => ?_)
            · rw [if_pos c15] at hm
              refine lv_iconst (v := 0) hx hb dXM_linked_33 (by decide) ?_
              cases hm
              exact k_zret hx hb hr hlocks hK hP hD hS (Or.inl rfl) dXM_linked_34
            · rw [if_neg c15] at hm
              refine lv_aload_n hx hb dXM_linked_21 rfl (lv_at hl 0 rfl) ?_
              refine lv_iload_n hx hb dXM_linked_22 rfl (lv_at hl 1 rfl) ?_
              obtain ⟨r16, hm16, hm⟩ := kb_s hm
              refine k_vi (As := [.int x1]) (rest := []) (w2 := (wM q cA N mr zn zs tn ts yn ys en es ew cv)) ⟨hx, hb, hml, hown, hts⟩ (cM_component l D q cA N H.size mr zn zs tn ts yn ys en es ew cv x1 n r16 hm16) (cwV 1 hts (gV wd_439 wd_429 wd_430 wd_41 wd_431) rfl rfl rfl (by decide +kernel) ⟨Nat.le_of_ble_eq_true rfl, Nat.le_of_ble_eq_true rfl⟩) hK hN hP hD hS hA [0, 1, 2, 3, 4, 5, 6] [] [0, 1, 2, 3, 4, 5, 6] ⟨rfl, rfl, by decide, rfl, by decide, by decide, rfl, rfl, by decide⟩ (va_recv hK hP (ci := 5) (q0 := 0) rfl rfl) rfl hl.1 rfl (Nat.le_of_ble_eq_true rfl) dXM_linked_23 ⟨Nat.le_of_ble_eq_true rfl, Nat.le_of_ble_eq_true rfl⟩ (fun hz16 H locs hP hD hS => ?_)
              refine lv_iload_n hx hb dXM_linked_26 rfl (lv_at hl 2 rfl) ?_
              refine lv_ishr hx hb dXM_linked_27 ?_
              refine lv_iconst (v := 1) hx hb dXM_linked_28 (by decide) ?_
              refine lv_iand hx hb dXM_linked_29 ?_
              refine lv_if_ne (tgt := 35) hx hb dXM_linked_30 (by decide) (fun c17 => ?_) (fun c17 => ?_)
              · rw [if_neg c17] at hm
                refine lv_aload_n hx hb dXM_linked_35 rfl (lv_at hl 0 rfl) ?_
                refine lv_aload_n hx hb dXM_linked_36 rfl (lv_at hl 0 rfl) ?_
                refine lv_iload_n hx hb dXM_linked_37 rfl (lv_at hl 1 rfl) ?_
                obtain ⟨r18, hm18, hm⟩ := kb_s hm
                refine k_vi (As := [.int x1]) (rest := [.ref (q 0)]) (w2 := (wM q cA N mr zn zs tn ts yn ys en es ew cv)) ⟨hx, hb, hml, hown, hts⟩ (cM_component l D q cA N H.size mr zn zs tn ts yn ys en es ew cv x1 n r18 hm18) (cwV 1 hts (gV wd_439 wd_429 wd_430 wd_41 wd_431) rfl rfl rfl (by decide +kernel) ⟨Nat.le_of_ble_eq_true rfl, Nat.le_of_ble_eq_true rfl⟩) hK hN hP hD hS hA [0, 1, 2, 3, 4, 5, 6] [] [0, 1, 2, 3, 4, 5, 6] ⟨rfl, rfl, by decide, rfl, by decide, by decide, rfl, rfl, by decide⟩ (va_recv hK hP (ci := 5) (q0 := 0) rfl rfl) rfl hl.1 rfl (Nat.le_of_ble_eq_true rfl) dXM_linked_38 ⟨Nat.le_of_ble_eq_true rfl, Nat.le_of_ble_eq_true rfl⟩ (fun hz18 H locs hP hD hS => ?_)
                obtain ⟨⟨zn_19, zs_19, tn_19, ts_19⟩, hm19, hm⟩ := kb_s hm
                dsimp only at hm
                refine k_vv (As := [.int r18]) (rest := []) (w2 := (wM q cA N mr zn_19 zs_19 tn_19 ts_19 yn ys en es ew cv)) ⟨hx, hb, hml, hown, hts⟩ (cM_find l D q cA N H.size mr zn zs tn ts yn ys en es ew cv r18 n zn_19 zs_19 tn_19 ts_19 hm19) (cwV 1 hts (gV wd_440 wd_441 wd_20 wd_41 wd_442) rfl rfl rfl (by decide +kernel) ⟨Nat.le_of_ble_eq_true rfl, Nat.le_of_ble_eq_true rfl⟩) hK hN hP hD hS hA [0, 1, 2, 3, 4, 5, 6] [] [0, 1, 2, 3, 4, 5, 6] ⟨rfl, rfl, by decide, rfl, by decide, by decide, rfl, rfl, by decide⟩ (va_recv hK hP (ci := 5) (q0 := 0) rfl rfl) rfl hl.1 rfl (Nat.le_of_ble_eq_true rfl) dXM_linked_41 ⟨Nat.le_of_ble_eq_true rfl, Nat.le_of_ble_eq_true rfl⟩ (fun H locs hP hD hS => ?_)
                refine lv_aload_n hx hb dXM_linked_44 rfl (lv_at hl 0 rfl) ?_
                refine va_get (D := D) (ci := 5) (v := .int tn_19) (C := RXM) (T := TXM) (N := 12) hx hb hts hinXM hown hK hP 0 rfl rfl 4 (by decide) (hts _ wd_393) (fun _ h9 => h9) rfl dXM_linked_45 ?_
                refine lv_iconst (v := 1) hx hb dXM_linked_48 (by decide) ?_
                refine lv_iadd hx hb dXM_linked_49 ?_
                refine lv_topi (fun x3_20 ex3_20 => ?_)
                have hm := kl_s ex3_20 hm
                refine lv_istore_n (lv' := [(3, .int x3_20), (0, .ref (q 0)), (1, .int x1), (2, .int x2)]) hx hb dXM_linked_50 rfl hl (by decide) rfl (fun ls hl => ?_)
                refine lv_iconst (v := 1) hx hb dXM_linked_51 (by decide) ?_
                refine lv_istore (lv' := [(4, .int 1), (3, .int x3_20), (0, .ref (q 0)), (1, .int x1), (2, .int x2)]) hx hb dXM_linked_52 hl (by decide) rfl (fun ls hl => ?_)
                refine lv_iconst (v := 0) hx hb dXM_linked_54 (by decide) ?_
                refine lv_istore (lv' := [(5, .int 0), (4, .int 1), (3, .int x3_20), (0, .ref (q 0)), (1, .int x1), (2, .int x2)]) hx hb dXM_linked_55 hl (by decide) rfl (fun ls hl => ?_)
                exact ih1 x1 x2 x3_20 1 0 zn_19 zs_19 tn_19 ts_19 yn ys _ _ _ _ _ _ _ H locs ls hm hP hD hS (lv_sub hl [3, 4, 5, 2, 1, 0] rfl)
              · rw [if_pos c17] at hm
                refine lv_iconst (v := 0) hx hb dXM_linked_33 (by decide) ?_
                cases hm
                exact k_zret hx hb hr hlocks hK hP hD hS (Or.inl rfl) dXM_linked_34
      · intro x1 x2 x3 x4 x5 zn zs tn ts yn ys r zn_1 zs_1 tn_1 ts_1 yn_1 ys_1 H locs ls hm hP hD hS hl
        rw [mM_linked_e1] at hm
        refine lv_iload hx hb dXM_linked_57 (lv_at hl 5 rfl) ?_
        refine lv_iload_n hx hb dXM_linked_59 rfl (lv_at hl 3 rfl) ?_
        refine lv_icmp_ge (tgt := 137) hx hb dXM_linked_60 (by decide) (fun c111 => ?_) (fun c111 => ?_)
        · rw [if_pos c111] at hm
          refine lv_iload hx hb dXM_linked_137 (lv_at hl 4 rfl) ?_
          obtain ⟨hz, hm⟩ := kz_s hm
          cases hm
          exact k_zret hx hb hr hlocks hK hP hD hS hz dXM_linked_139
        · rw [if_neg c111] at hm
          refine lv_iload hx hb dXM_linked_63 (lv_at hl 4 rfl) ?_
          refine lv_if_eq (tgt := 137) hx hb dXM_linked_65 (by decide) (fun c112 => ?_) (fun c112 => ?_)
          · rw [if_pos c112] at hm
            refine lv_iload hx hb dXM_linked_137 (lv_at hl 4 rfl) ?_
            obtain ⟨hz, hm⟩ := kz_s hm
            cases hm
            exact k_zret hx hb hr hlocks hK hP hD hS hz dXM_linked_139
          · rw [if_neg c112] at hm
            refine lv_aload_n hx hb dXM_linked_68 rfl (lv_at hl 0 rfl) ?_
            refine lv_iload_n hx hb dXM_linked_69 rfl (lv_at hl 1 rfl) ?_
            refine lv_iload hx hb dXM_linked_70 (lv_at hl 5 rfl) ?_
            obtain ⟨⟨r113, zn_113, zs_113, tn_113, ts_113, yn_113, ys_113⟩, hm113, hm⟩ := kb_s hm
            dsimp only at hm
            refine k_vi (As := [.int x1, .int x5]) (rest := []) (w2 := (wM q cA N mr zn_113 zs_113 tn_113 ts_113 yn_113 ys_113 en es ew cv)) ⟨hx, hb, hml, hown, hts⟩ (cM_open l D q cA N H.size mr zn zs tn ts yn ys en es ew cv x1 x5 n r113 zn_113 zs_113 tn_113 ts_113 yn_113 ys_113 hm113) (cwV 2 hts (gV wd_470 wd_471 wd_23 wd_41 wd_472) rfl rfl rfl (by decide +kernel) ⟨Nat.le_of_ble_eq_true rfl, Nat.le_of_ble_eq_true rfl⟩) hK hN hP hD hS hA [0, 1, 2, 3, 4, 5, 6] [] [0, 1, 2, 3, 4, 5, 6] ⟨rfl, rfl, by decide, rfl, by decide, by decide, rfl, rfl, by decide⟩ (va_recv hK hP (ci := 5) (q0 := 0) rfl rfl) rfl hl.1 rfl (Nat.le_of_ble_eq_true rfl) dXM_linked_72 ⟨Nat.le_of_ble_eq_true rfl, Nat.le_of_ble_eq_true rfl⟩ (fun hz113 H locs hP hD hS => ?_)
            refine lv_istore (lv' := [(6, .int r113), (0, .ref (q 0)), (1, .int x1), (2, .int x2), (3, .int x3), (4, .int x4), (5, .int x5)]) hx hb dXM_linked_75 hl (by decide) rfl (fun ls hl => ?_)
            refine lv_aload_n hx hb dXM_linked_77 rfl (lv_at hl 1 rfl) ?_
            refine lv_iload_n hx hb dXM_linked_78 rfl (lv_at hl 2 rfl) ?_
            obtain ⟨r114, hm114, hm⟩ := kb_s hm
            refine k_vi (As := [.int x1]) (rest := []) (w2 := (wM q cA N mr zn_113 zs_113 tn_113 ts_113 yn_113 ys_113 en es ew cv)) ⟨hx, hb, hml, hown, hts⟩ (cM_partOf l D q cA N H.size mr zn_113 zs_113 tn_113 ts_113 yn_113 ys_113 en es ew cv x1 n r114 hm114) (cwV 1 hts (gV wd_504 wd_505 wd_28 wd_41 wd_506) rfl rfl rfl (by decide +kernel) ⟨Nat.le_of_ble_eq_true rfl, Nat.le_of_ble_eq_true rfl⟩) hK hN hP hD hS hA [0, 1, 2, 3, 4, 5, 6] [] [0, 1, 2, 3, 4, 5, 6] ⟨rfl, rfl, by decide, rfl, by decide, by decide, rfl, rfl, by decide⟩ (va_recv hK hP (ci := 5) (q0 := 0) rfl rfl) rfl hl.1 rfl (Nat.le_of_ble_eq_true rfl) dXM_linked_79 ⟨Nat.le_of_ble_eq_true rfl, Nat.le_of_ble_eq_true rfl⟩ (fun hz114 H locs hP hD hS => ?_)
            refine lv_istore (lv' := [(7, .int r114), (6, .int r113), (0, .ref (q 0)), (1, .int x1), (2, .int x2), (3, .int x3), (4, .int x4), (5, .int x5)]) hx hb dXM_linked_82 hl (by decide) rfl (fun ls hl => ?_)
            refine lv_aload_n hx hb dXM_linked_84 rfl (lv_at hl 2 rfl) ?_
            refine lv_iload_n hx hb dXM_linked_85 rfl (lv_at hl 4 rfl) ?_
            obtain ⟨r115, hm115, hm⟩ := kb_s hm
            refine k_vi (As := [.int x2]) (rest := []) (w2 := (wM q cA N mr zn_113 zs_113 tn_113 ts_113 yn_113 ys_113 en es ew cv)) ⟨hx, hb, hml, hown, hts⟩ (cM_partOf l D q cA N H.size mr zn_113 zs_113 tn_113 ts_113 yn_113 ys_113 en es ew cv x2 n r115 hm115) (cwV 1 hts (gV wd_504 wd_505 wd_28 wd_41 wd_506) rfl rfl rfl (by decide +kernel) ⟨Nat.le_of_ble_eq_true rfl, Nat.le_of_ble_eq_true rfl⟩) hK hN hP hD hS hA [0, 1, 2, 3, 4, 5, 6] [] [0, 1, 2, 3, 4, 5, 6] ⟨rfl, rfl, by decide, rfl, by decide, by decide, rfl, rfl, by decide⟩ (va_recv hK hP (ci := 5) (q0 := 0) rfl rfl) rfl hl.1 rfl (Nat.le_of_ble_eq_true rfl) dXM_linked_86 ⟨Nat.le_of_ble_eq_true rfl, Nat.le_of_ble_eq_true rfl⟩ (fun hz115 H locs hP hD hS => ?_)
            refine lv_istore (lv' := [(8, .int r115), (7, .int r114), (6, .int r113), (0, .ref (q 0)), (1, .int x1), (2, .int x2), (3, .int x3), (4, .int x4), (5, .int x5)]) hx hb dXM_linked_89 hl (by decide) rfl (fun ls hl => ?_)
            refine lv_iload hx hb dXM_linked_91 (lv_at hl 2 rfl) ?_
            refine lv_if_eq (tgt := 128) hx hb dXM_linked_93 (by decide) (fun c116 => ?_) (fun c116 => ?_)
            · rw [if_pos c116] at hm
              exact ih3 x1 x2 x3 x5 zn_113 zs_113 tn_113 ts_113 yn_113 ys_113 _ _ _ _ _ _ _ H locs ls hm hP hD hS (lv_sub hl [3, 4, 5, 6, 8] rfl)
            · rw [if_neg c116] at hm
              refine lv_iload hx hb dXM_linked_96 (lv_at hl 1 rfl) ?_
              refine lv_iload hx hb dXM_linked_98 (lv_at hl 0 rfl) ?_
              refine lv_icmp_eq (tgt := 124) hx hb dXM_linked_100 (by decide) (fun c117 => ?_) (fun c117 => ?_)
              · rw [if_pos c117] at hm
                exact ih2 x1 x2 x3 x5 zn_113 zs_113 tn_113 ts_113 yn_113 ys_113 _ _ _ _ _ _ _ H locs ls hm hP hD hS (lv_sub hl [3, 4, 5, 6, 8] rfl)
              · rw [if_neg c117] at hm
                refine lv_aload_n hx hb dXM_linked_103 rfl (lv_at hl 3 rfl) ?_
                refine lv_aload_n hx hb dXM_linked_104 rfl (lv_at hl 3 rfl) ?_
                refine va_get (D := D) (ci := 5) (v := .ref (q 4)) (C := RXM) (T := TXM) (N := 12) hx hb hts hinXM hown hK hP 0 rfl rfl 7 (by decide) (hts _ wd_396) (fun _ h9 => h9) rfl dXM_linked_105 ?_
                refine lv_iload hx hb dXM_linked_108 (lv_at hl 1 rfl) ?_
                obtain ⟨hg118, hm⟩ := kg_s hm
                refine va_iald hx hb hK hP 4 0 rfl rfl hg118 dXM_linked_110 ?_
                refine lv_aload_n hx hb dXM_linked_111 rfl (lv_at hl 3 rfl) ?_
                refine va_get (D := D) (ci := 5) (v := .ref (q 4)) (C := RXM) (T := TXM) (N := 12) hx hb hts hinXM hown hK hP 0 rfl rfl 7 (by decide) (hts _ wd_396) (fun _ h9 => h9) rfl dXM_linked_112 ?_
                refine lv_iload hx hb dXM_linked_115 (lv_at hl 0 rfl) ?_
                obtain ⟨hg119, hm⟩ := kg_s hm
                refine va_iald hx hb hK hP 4 0 rfl rfl hg119 dXM_linked_117 ?_
                obtain ⟨r120, hm120, hm⟩ := kb_s hm
                refine k_vi (As := [.int (ys_113 r114.toNatClampNeg), .int (ys_113 r115.toNatClampNeg)]) (rest := []) (w2 := (wM q cA N mr zn_113 zs_113 tn_113 ts_113 yn_113 ys_113 en es ew cv)) ⟨hx, hb, hml, hown, hts⟩ (cM_joined l D q cA N H.size mr zn_113 zs_113 tn_113 ts_113 yn_113 ys_113 en es ew cv (ys_113 r114.toNatClampNeg) (ys_113 r115.toNatClampNeg) n r120 hm120) (cwV 2 hts (gV wd_485 wd_486 wd_27 wd_41 wd_487) rfl rfl rfl (by decide +kernel) ⟨Nat.le_of_ble_eq_true rfl, Nat.le_of_ble_eq_true rfl⟩) hK hN hP hD hS hA [0, 1, 2, 3, 4, 5, 6] [] [0, 1, 2, 3, 4, 5, 6] ⟨rfl, rfl, by decide, rfl, by decide, by decide, rfl, rfl, by decide⟩ (va_recv hK hP (ci := 5) (q0 := 0) rfl rfl) rfl hl.1 rfl (Nat.le_of_ble_eq_true rfl) dXM_linked_118 ⟨Nat.le_of_ble_eq_true rfl, Nat.le_of_ble_eq_true rfl⟩ (fun hz120 H locs hP hD hS => ?_)
                refine lv_if_eq (tgt := 128) hx hb dXM_linked_121 (by decide) (fun c121 => ?_) (fun c121 => ?_)
                · rw [if_pos c121] at hm
                  exact ih3 x1 x2 x3 x5 zn_113 zs_113 tn_113 ts_113 yn_113 ys_113 _ _ _ _ _ _ _ H locs ls hm hP hD hS (lv_sub hl [3, 4, 5, 6, 8] rfl)
                · rw [if_neg c121] at hm
                  exact ih2 x1 x2 x3 x5 zn_113 zs_113 tn_113 ts_113 yn_113 ys_113 _ _ _ _ _ _ _ H locs ls hm hP hD hS (lv_sub hl [3, 4, 5, 6, 8] rfl)
      · intro x1 x2 x3 x5 zn zs tn ts yn ys r zn_1 zs_1 tn_1 ts_1 yn_1 ys_1 H locs ls hm hP hD hS hl
        rw [mM_linked_e2] at hm
        refine lv_iconst (v := 1) hx hb dXM_linked_124 (by decide) ?_
        refine lv_goto (tgt := 129) hx hb dXM_linked_125 (by decide) ?_
        refine lv_istore (lv' := [(4, .int 1), (0, .ref (q 0)), (1, .int x1), (2, .int x2), (3, .int x3), (5, .int x5)]) hx hb dXM_linked_129 hl (by decide) rfl (fun ls hl => ?_)
        refine lv_iinc (v := (x5 + 1)) (lv' := [(5, .int (x5 + 1)), (4, .int 1), (0, .ref (q 0)), (1, .int x1), (2, .int x2), (3, .int x3)]) hx hb dXM_linked_131 hl (k := 5) rfl rfl (by decide) rfl (fun ls hl => ?_)
        refine lv_goto (tgt := 57) hx hb dXM_linked_134 (by decide) ?_
        exact ih1 x1 x2 x3 1 (x5 + 1) zn zs tn ts yn ys _ _ _ _ _ _ _ H locs ls hm hP hD hS (lv_sub hl [2, 3, 4, 5, 1, 0] rfl)
      · intro x1 x2 x3 x5 zn zs tn ts yn ys r zn_1 zs_1 tn_1 ts_1 yn_1 ys_1 H locs ls hm hP hD hS hl
        rw [mM_linked_e3] at hm
        refine lv_iconst (v := 0) hx hb dXM_linked_128 (by decide) ?_
        refine lv_istore (lv' := [(4, .int 0), (0, .ref (q 0)), (1, .int x1), (2, .int x2), (3, .int x3), (5, .int x5)]) hx hb dXM_linked_129 hl (by decide) rfl (fun ls hl => ?_)
        refine lv_iinc (v := (x5 + 1)) (lv' := [(5, .int (x5 + 1)), (4, .int 0), (0, .ref (q 0)), (1, .int x1), (2, .int x2), (3, .int x3)]) hx hb dXM_linked_131 hl (k := 5) rfl rfl (by decide) rfl (fun ls hl => ?_)
        refine lv_goto (tgt := 57) hx hb dXM_linked_134 (by decide) ?_
        exact ih1 x1 x2 x3 0 (x5 + 1) zn zs tn ts yn ys _ _ _ _ _ _ _ H locs ls hm hP hD hS (lv_sub hl [2, 3, 4, 5, 1, 0] rfl)
  exact (key n).1 a1 a2 zn zs tn ts yn ys r zn_1 zs_1 tn_1 ts_1 yn_1 ys_1 s.heap [] ls hm hP hD va_S.rf hl
