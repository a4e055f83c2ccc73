set_option maxHeartbeats 4000000 in
set_option maxRecDepth 100000 in
theorem cM_open (l : Launch) (D : va_G) (q : Nat → Nat) (cA : ClassId) (N : Nat) (sz : Nat) (mr : Nat → Int32) (zn : Int32) (zs : Nat → Int32) (tn : Int32) (ts : Nat → Int32) (yn : Int32) (ys : Nat → Int32) (en : Int32) (es : Nat → Int32) (ew : Int32) (cv : Nat → Int32) (a1 a2 : Int32) (n : Nat) (r : Int32) (zn_1 : Int32) (zs_1 : Nat → Int32) (tn_1 : Int32) (ts_1 : Nat → Int32) (yn_1 : Int32) (ys_1 : Nat → Int32) (hm : mM_open N mr n 0 [a1, a2] zn zs tn ts yn ys = some (r, zn_1, zs_1, tn_1, ts_1, yn_1, ys_1)) : Met l yXM_open wsXM_open ({ frames := 3, cells := 0, slots := 0, locals := 74 }) (kPc D cA [.ref (q 0), .int a1, .int a2] (wM q cA N mr zn zs tn ts yn ys en es ew cv) sz) (kQi D cA kB (va_A (wM q cA N mr zn zs tn ts yn ys en es ew cv) sz) (wM q cA N mr zn_1 zs_1 tn_1 ts_1 yn_1 ys_1 en es ew cv) r) 0 0 (va_A (wM q cA N mr zn zs tn ts yn ys en es ew cv) sz) := by
  refine k_met (D := D) (cA := cA) (w := (wM q cA N mr zn zs tn ts yn ys en es ew cv)) (sz := sz) (av := [.ref (q 0), .int a1, .int a2]) (cc := cXM_open) (maxL := 6) (ret := (some .boolean)) (Qc := fun A => kQi D cA kB A (wM q cA N mr zn_1 zs_1 tn_1 ts_1 yn_1 ys_1 en es ew cv) r) (by decide) rfl (Nat.le_of_ble_eq_true rfl) ?_
  intro p e s m below meth c A ls hX hK hN hA hP hD hl
  obtain ⟨hx, hb, hr, hml, hown, hts, hlocks, -⟩ := hX
  have hown : s.vm.findClass RXM = some m.cls := hown
  have hl : lv_has ls 6 [(0, .ref (q 0)), (1, .int a1), (2, .int a2)] := hl
  have hts : ∀ w ∈ W0, w.before _ s = true := fun w h => hts w (List.mem_cons_of_mem _ h)
  have key : ∀ n : Nat, (∀ (x1 x2 : Int32) (zn : Int32) (zs : Nat → Int32) (tn : Int32) (ts : Nat → Int32) (yn : Int32) (ys : Nat → Int32) (r : Int32) (zn_1 : Int32) (zs_1 : Nat → Int32) (tn_1 : Int32) (ts_1 : Nat → Int32) (yn_1 : Int32) (ys_1 : Nat → Int32) (H : Heap) (locs : List Loc) (ls : Array Slot), mM_open N mr n 0 [x1, x2] zn zs tn ts yn ys = some (r, zn_1, zs_1, tn_1, ts_1, yn_1, ys_1) → va_P D vwCl (wM q cA N mr zn zs tn ts yn ys en es ew cv) H → va_D A (wM q cA N mr zn zs tn ts yn ys en es ew cv) → va_S A s.heap H locs → lv_has ls 6 [(0, .ref (q 0)), (1, .int x1), (2, .int x2)] → W p l e ({ frames := 3, cells := 0, slots := 0, locals := 74 }) s m ([.ref (q 0), .int a1, .int a2] : List Value).toArray below meth c H locs 0 0 (MQ below (kQi D cA kB A (wM q cA N mr zn_1 zs_1 tn_1 ts_1 yn_1 ys_1 en es ew cv) r) ([.ref (q 0), .int a1, .int a2] : List Value).toArray s 0 0 A) (F0 m 0 ls [])) ∧
    (∀ (x2 x3 x4 x5 : Int32) (zn : Int32) (zs : Nat → Int32) (tn : Int32) (ts : Nat → Int32) (yn : Int32) (ys : Nat → Int32) (r : Int32) (zn_1 : Int32) (zs_1 : Nat → Int32) (tn_1 : Int32) (ts_1 : Nat → Int32) (yn_1 : Int32) (ys_1 : Nat → Int32) (H : Heap) (locs : List Loc) (ls : Array Slot), mM_open N mr n 1 [x2, x3, x4, x5] zn zs tn ts yn ys = some (r, zn_1, zs_1, tn_1, ts_1, yn_1, ys_1) → va_P D vwCl (wM q cA N mr zn zs tn ts yn ys en es ew cv) H → va_D A (wM q cA N mr zn zs tn ts yn ys en es ew cv) → va_S A s.heap H locs → lv_has ls 6 [(0, .ref (q 0)), (2, .int x2), (3, .int x3), (4, .int x4), (5, .int x5)] → W p l e ({ frames := 3, cells := 0, slots := 0, locals := 74 }) s m ([.ref (q 0), .int a1, .int a2] : List Value).toArray below meth c H locs 0 0 (MQ below (kQi D cA kB A (wM q cA N mr zn_1 zs_1 tn_1 ts_1 yn_1 ys_1 en es ew cv) r) ([.ref (q 0), .int a1, .int a2] : List Value).toArray s 0 0 A) (F0 m 29 ls [])) ∧
    (∀ (x2 x3 x4 x5 y0 y1 y2 y3 : Int32) (zn : Int32) (zs : Nat → Int32) (tn : Int32) (ts : Nat → Int32) (yn : Int32) (ys : Nat → Int32) (r : Int32) (zn_1 : Int32) (zs_1 : Nat → Int32) (tn_1 : Int32) (ts_1 : Nat → Int32) (yn_1 : Int32) (ys_1 : Nat → Int32) (H : Heap) (locs : List Loc) (ls : Array Slot), mM_open N mr n 2 [x2, x3, x4, x5, y0, y1, y2, y3] zn zs tn ts yn ys = some (r, zn_1, zs_1, tn_1, ts_1, yn_1, ys_1) → va_P D vwCl (wM q cA N mr zn zs tn ts yn ys en es ew cv) H → va_D A (wM q cA N mr zn zs tn ts yn ys en es ew cv) → va_S A s.heap H locs → lv_has ls 6 [(0, .ref (q 0)), (2, .int x2), (3, .int x3), (4, .int x4), (5, .int x5)] → W p l e ({ frames := 3, cells := 0, slots := 0, locals := 74 }) s m ([.ref (q 0), .int a1, .int a2] : List Value).toArray below meth c H locs 0 0 (MQ below (kQi D cA kB A (wM q cA N mr zn_1 zs_1 tn_1 ts_1 yn_1 ys_1 en es ew cv) r) ([.ref (q 0), .int a1, .int a2] : List Value).toArray s 0 0 A) (F0 m 52 ls [.int y0, .int y1, .int y2, .int y3, .ref (q 0)])) := by
    intro n
    induction n with
    | zero => exact ⟨(by intros; rename_i h _ _ _ _; rw [mM_open_z] at h; cases h), (by intros; rename_i h _ _ _ _; rw [mM_open_z] at h; cases h), (by intros; rename_i h _ _ _ _; rw [mM_open_z] at h; cases h)⟩
    | succ n ih =>
      obtain ⟨ih0, ih1, ih2⟩ := ih
      refine ⟨?_, ?_, ?_⟩
      · intro x1 x2 zn zs tn ts yn ys r zn_1 zs_1 tn_1 ts_1 yn_1 ys_1 H locs ls hm hP hD hS hl
        rw [mM_open_e0] at hm
        refine lv_aload_n hx hb dXM_open_0 rfl (lv_at hl 0 rfl) ?_
        refine lv_iload_n hx hb dXM_open_1 rfl (lv_at hl 1 rfl) ?_
        refine lv_iload_n hx hb dXM_open_2 rfl (lv_at hl 2 rfl) ?_
        obtain ⟨⟨r11, zn_11, zs_11, tn_11, ts_11⟩, hm11, hm⟩ := kb_s hm
        dsimp only at hm
        refine k_vi (As := [.int x1, .int x2]) (rest := []) (w2 := (wM q cA N mr zn_11 zs_11 tn_11 ts_11 yn ys en es ew cv)) ⟨hx, hb, hml, hown, hts⟩ (cM_nodeSet l D q cA N H.size mr zn zs tn ts yn ys en es ew cv x1 x2 n r11 zn_11 zs_11 tn_11 ts_11 hm11) (cwV 2 hts (gV wd_463 wd_464 wd_22 wd_41 wd_465) rfl rfl rfl (by decide +kernel) ⟨Nat.le_of_ble_eq_true rfl, Nat.le_of_ble_eq_true rfl⟩) hK hN hP hD hS hA [0, 1, 2, 3, 4, 5, 6] [] [0, 1, 2, 3, 4, 5, 6] ⟨rfl, rfl, by decide, rfl, by decide, by decide, rfl, rfl, by decide⟩ (va_recv hK hP (ci := 5) (q0 := 0) rfl rfl) rfl hl.1 rfl (Nat.le_of_ble_eq_true rfl) dXM_open_3 ⟨Nat.le_of_ble_eq_true rfl, Nat.le_of_ble_eq_true rfl⟩ (fun hz11 H locs hP hD hS => ?_)
        refine lv_istore_n (lv' := [(3, .int r11), (0, .ref (q 0)), (1, .int x1), (2, .int x2)]) hx hb dXM_open_6 rfl hl (by decide) rfl (fun ls hl => ?_)
        refine lv_iload_n hx hb dXM_open_7 rfl (lv_at hl 0 rfl) ?_
        refine lv_iconst (v := (-1)) hx hb dXM_open_8 (by decide) ?_
        refine lv_icmp_ne (tgt := 14) hx hb dXM_open_9 (by decide) (fun c12 => ?_) (fun c12 => ?_)
        · rw [if_neg c12] at hm
          refine lv_aload_n hx hb dXM_open_14 rfl (lv_at hl 1 rfl) ?_
          refine lv_iload_n hx hb dXM_open_15 rfl (lv_at hl 2 rfl) ?_
          obtain ⟨r13, hm13, hm⟩ := kb_s hm
          refine k_vi (As := [.int x1]) (rest := []) (w2 := (wM q cA N mr zn_11 zs_11 tn_11 ts_11 yn ys en es ew cv)) ⟨hx, hb, hml, hown, hts⟩ (cM_component l D q cA N H.size mr zn_11 zs_11 tn_11 ts_11 yn ys en es ew cv x1 n r13 hm13) (cwV 1 hts (gV wd_439 wd_429 wd_430 wd_41 wd_431) rfl rfl rfl (by decide +kernel) ⟨Nat.le_of_ble_eq_true rfl, Nat.le_of_ble_eq_true rfl⟩) hK hN hP hD hS hA [0, 1, 2, 3, 4, 5, 6] [] [0, 1, 2, 3, 4, 5, 6] ⟨rfl, rfl, by decide, rfl, by decide, by decide, rfl, rfl, by decide⟩ (va_recv hK hP (ci := 5) (q0 := 0) rfl rfl) rfl hl.1 rfl (Nat.le_of_ble_eq_true rfl) dXM_open_16 ⟨Nat.le_of_ble_eq_true rfl, Nat.le_of_ble_eq_true rfl⟩ (fun hz13 H locs hP hD hS => ?_)
          refine lv_istore (lv' := [(4, .int r13), (3, .int r11), (0, .ref (q 0)), (1, .int x1), (2, .int x2)]) hx hb dXM_open_19 hl (by decide) rfl (fun ls hl => ?_)
          refine lv_aload_n hx hb dXM_open_21 rfl (lv_at hl 2 rfl) ?_
          refine lv_iconst (v := 0) hx hb dXM_open_22 (by decide) ?_
          refine va_put (D := D) (ci := 5) (v := .int 0) (ty := .int) (C := RXM) (T := TXM) (N := 12) hx hb hts hinXM tyXM tyXM_ok nXM hown hK hP hD hS 0 rfl rfl 6 (by decide) (hts _ wd_395) (fun _ h9 => h9) rfl (by decide +kernel) rfl rfl (Nat.le_of_ble_eq_true rfl) dXM_open_23 (fun H locs hP hD hS => ?_)
          have hP : va_P D vwCl (wM q cA N mr zn_11 zs_11 tn_11 ts_11 0 ys en es ew cv) H := hP
          have hD : va_D A (wM q cA N mr zn_11 zs_11 tn_11 ts_11 0 ys en es ew cv) := hD
          refine lv_iconst (v := 1) hx hb dXM_open_26 (by decide) ?_
          refine lv_istore (lv' := [(5, .int 1), (4, .int r13), (3, .int r11), (0, .ref (q 0)), (1, .int x1), (2, .int x2)]) hx hb dXM_open_27 hl (by decide) rfl (fun ls hl => ?_)
          exact ih1 x2 r11 r13 1 zn_11 zs_11 tn_11 ts_11 0 ys _ _ _ _ _ _ _ H locs ls hm hP hD hS (lv_sub hl [3, 5, 2, 1, 0] rfl)
        · rw [if_pos c12] at hm
          refine lv_iconst (v := 0) hx hb dXM_open_12 (by decide) ?_
          cases hm
          exact k_zret hx hb hr hlocks hK hP hD hS (Or.inl rfl) dXM_open_13
      · intro x2 x3 x4 x5 zn zs tn ts yn ys r zn_1 zs_1 tn_1 ts_1 yn_1 ys_1 H locs ls hm hP hD hS hl
        rw [mM_open_e1] at hm
        refine lv_iload hx hb dXM_open_29 (lv_at hl 4 rfl) ?_
        refine lv_sipush (v := 512) hx hb dXM_open_31 (by decide) ?_
        refine lv_icmp_ge (tgt := 85) hx hb dXM_open_34 (by decide) (fun c111 => ?_) (fun c111 => ?_)
        · rw [if_pos c111] at hm
          refine lv_iconst (v := 1) hx hb dXM_open_85 (by decide) ?_
          cases hm
          exact k_zret hx hb hr hlocks hK hP hD hS (Or.inr rfl) dXM_open_86
        · rw [if_neg c111] at hm
          refine lv_aload_n hx hb dXM_open_37 rfl (lv_at hl 0 rfl) ?_
          refine lv_iload hx hb dXM_open_38 (lv_at hl 4 rfl) ?_
          refine lv_iload_n hx hb dXM_open_40 rfl (lv_at hl 2 rfl) ?_
          refine lv_iload hx hb dXM_open_41 (lv_at hl 3 rfl) ?_
          refine lv_iload_n hx hb dXM_open_43 rfl (lv_at hl 1 rfl) ?_
          refine lv_if_ne (tgt := 51) hx hb dXM_open_44 (by decide) (fun c112 => ?_) (fun c112 => ?_)
          · rw [if_neg c112] at hm
            refine lv_iconst (v := 0) hx hb dXM_open_51 (by decide) ?_
            exact ih2 x2 x3 x4 x5 0 x4 x3 x5 zn zs tn ts yn ys _ _ _ _ _ _ _ H locs ls hm hP hD hS (lv_sub hl [0, 1, 2, 3, 4] rfl)
          · rw [if_pos c112] at hm
            refine lv_iconst (v := 1) hx hb dXM_open_47 (by decide) ?_
            refine lv_goto (tgt := 52) hx hb dXM_open_48 (by decide) ?_
            exact ih2 x2 x3 x4 x5 1 x4 x3 x5 zn zs tn ts yn ys _ _ _ _ _ _ _ H locs ls hm hP hD hS (lv_sub hl [0, 1, 2, 3, 4] rfl)
      · intro x2 x3 x4 x5 y0 y1 y2 y3 zn zs tn ts yn ys r zn_1 zs_1 tn_1 ts_1 yn_1 ys_1 H locs ls hm hP hD hS hl
        rw [mM_open_e2] at hm
        obtain ⟨r211, hm211, hm⟩ := kb_s hm
        refine k_vi (As := [.int y3, .int y2, .int y1, .int y0]) (rest := []) (w2 := (wM q cA N mr zn zs tn ts yn ys en es ew cv)) ⟨hx, hb, hml, hown, hts⟩ (cM_isPart l D q cA N H.size mr zn zs tn ts yn ys en es ew cv y3 y2 y1 y0 n r211 hm211) (cwV 4 hts (gV wd_473 wd_474 wd_24 wd_41 wd_475) rfl rfl rfl (by decide +kernel) ⟨Nat.le_of_ble_eq_true rfl, Nat.le_of_ble_eq_true rfl⟩) hK hN hP hD hS hA [0, 1, 2, 3, 4, 5, 6] [] [0, 1, 2, 3, 4, 5, 6] ⟨rfl, rfl, by decide, rfl, by decide, by decide, rfl, rfl, by decide⟩ (va_recv hK hP (ci := 5) (q0 := 0) rfl rfl) rfl hl.1 rfl (Nat.le_of_ble_eq_true rfl) dXM_open_52 ⟨Nat.le_of_ble_eq_true rfl, Nat.le_of_ble_eq_true rfl⟩ (fun hz211 H locs hP hD hS => ?_)
        refine lv_if_eq (tgt := 79) hx hb dXM_open_55 (by decide) (fun c212 => ?_) (fun c212 => ?_)
        · rw [if_pos c212] at hm
          refine lv_iinc (v := (x5 + 1)) (lv' := [(5, .int (x5 + 1)), (0, .ref (q 0)), (2, .int x2), (3, .int x3), (4, .int x4)]) hx hb dXM_open_79 hl (k := 4) rfl rfl (by decide) rfl (fun ls hl => ?_)
          refine lv_goto (tgt := 29) hx hb dXM_open_82 (by decide) ?_
          exact ih1 x2 x3 x4 (x5 + 1) zn zs tn ts yn ys _ _ _ _ _ _ _ H locs ls hm hP hD hS (lv_sub hl [1, 2, 3, 4, 0] rfl)
        · rw [if_neg c212] at hm
          refine lv_aload_n hx hb dXM_open_58 rfl (lv_at hl 0 rfl) ?_
          refine va_get (D := D) (ci := 5) (v := .ref (q 4)) (C := RXM) (T := TXM) (N := 12) hx hb hts hinXM hown hK hP 0 rfl rfl 7 (by decide) (hts _ wd_396) (fun _ h9 => h9) rfl dXM_open_59 ?_
          refine lv_aload_n hx hb dXM_open_62 rfl (lv_at hl 0 rfl) ?_
          refine va_get (D := D) (ci := 5) (v := .int yn) (C := RXM) (T := TXM) (N := 12) hx hb hts hinXM hown hK hP 0 rfl rfl 6 (by decide) (hts _ wd_395) (fun _ h9 => h9) rfl dXM_open_63 ?_
          refine lv_iload hx hb dXM_open_66 (lv_at hl 4 rfl) ?_
          obtain ⟨hg213, hm⟩ := kg_s hm
          refine va_iast hx hb hK hP hD hS 4 0 rfl rfl hg213 dXM_open_68 (fun H locs hP hD hS => ?_)
          have hP : va_P D vwCl (wM q cA N mr zn zs tn ts yn (upd ys yn.toNatClampNeg x5) en es ew cv) H := hP
          have hD : va_D A (wM q cA N mr zn zs tn ts yn (upd ys yn.toNatClampNeg x5) en es ew cv) := hD
          refine lv_aload_n hx hb dXM_open_69 rfl (lv_at hl 0 rfl) ?_
          refine lv_dup hx hb dXM_open_70 rfl ?_
          refine va_get (D := D) (ci := 5) (v := .int yn) (C := RXM) (T := TXM) (N := 12) hx hb hts hinXM hown hK hP 0 rfl rfl 6 (by decide) (hts _ wd_395) (fun _ h9 => h9) rfl dXM_open_71 ?_
          refine lv_iconst (v := 1) hx hb dXM_open_74 (by decide) ?_
          refine lv_iadd hx hb dXM_open_75 ?_
          refine va_put (D := D) (ci := 5) (v := .int (yn + 1)) (ty := .int) (C := RXM) (T := TXM) (N := 12) hx hb hts hinXM tyXM tyXM_ok nXM hown hK hP hD hS 0 rfl rfl 6 (by decide) (hts _ wd_395) (fun _ h9 => h9) rfl (by decide +kernel) rfl rfl (Nat.le_of_ble_eq_true rfl) dXM_open_76 (fun H locs hP hD hS => ?_)
          have hP : va_P D vwCl (wM q cA N mr zn zs tn ts (yn + 1) (upd ys yn.toNatClampNeg x5) en es ew cv) H := hP
          have hD : va_D A (wM q cA N mr zn zs tn ts (yn + 1) (upd ys yn.toNatClampNeg x5) en es ew cv) := hD
          refine lv_iinc (v := (x5 + 1)) (lv' := [(5, .int (x5 + 1)), (0, .ref (q 0)), (2, .int x2), (3, .int x3), (4, .int x4)]) hx hb dXM_open_79 hl (k := 4) rfl rfl (by decide) rfl (fun ls hl => ?_)
          refine lv_goto (tgt := 29) hx hb dXM_open_82 (by decide) ?_
          exact ih1 x2 x3 x4 (x5 + 1) zn zs tn ts (yn + 1) (upd ys yn.toNatClampNeg x5) _ _ _ _ _ _ _ H locs ls hm hP hD hS (lv_sub hl [1, 2, 3, 4, 0] rfl)
  exact (key n).1 a1 a2 zn zs tn ts yn ys r zn_1 zs_1 tn_1 ts_1 yn_1 ys_1 s.heap [] ls hm hP hD va_S.rf hl
set_option maxHeartbeats 4000000 in
set_option maxRecDepth 100000 in
theorem cM_joined (l : Launch) (D : va_G) (q : Nat → Nat) (cA : ClassId) (N : Nat) (sz : Nat) (mr : Nat → Int32) (zn : Int32) (zs : Nat → Int32) (tn : Int32) (ts : Nat → Int32) (yn : Int32) (ys : Nat → Int32) (en : Int32) (es : Nat → Int32) (ew : Int32) (cv : Nat → Int32) (a1 a2 : Int32) (n : Nat) (r : Int32) (hm : mM_joined N mr n 0 [a1, a2] = some r) : Met l yXM_joined wsXM_joined ({ frames := 0, cells := 0, slots := 0, locals := 0 }) (kPc D cA [.ref (q 0), .int a1, .int a2] (wM q cA N mr zn zs tn ts yn ys en es ew cv) sz) (kQi D cA kB (va_A (wM q cA N mr zn zs tn ts yn ys en es ew cv) sz) (wM q cA N mr zn zs tn ts yn ys en es ew cv) r) 0 0 (va_A (wM q cA N mr zn zs tn ts yn ys en es ew cv) sz) := by
  refine k_met (D := D) (cA := cA) (w := (wM q cA N mr zn zs tn ts yn ys en es ew cv)) (sz := sz) (av := [.ref (q 0), .int a1, .int a2]) (cc := cXM_joined) (maxL := 5) (ret := (some .boolean)) (Qc := fun A => kQi D cA kB A (wM q cA N mr zn zs tn ts yn ys en es ew cv) r) (by decide) rfl (Nat.le_of_ble_eq_true rfl) ?_
  intro p e s m below meth c A ls hX hK hN hA hP hD hl
  obtain ⟨hx, hb, hr, hml, hown, hts, hlocks, -⟩ := hX
  have hown : s.vm.findClass RXM = some m.cls := hown
  have hl : lv_has ls 5 [(0, .ref (q 0)), (1, .int a1), (2, .int a2)] := hl
  have hts : ∀ w ∈ W0, w.before _ s = true := fun w h => hts w (List.mem_cons_of_mem _ h)
  have key : ∀ n : Nat, (∀ (x1 x2 : Int32) (r : Int32) (H : Heap) (locs : List Loc) (ls : Array Slot), mM_joined N mr n 0 [x1, x2] = some r → va_P D vwCl (wM q cA N mr zn zs tn ts yn ys en es ew cv) H → va_D A (wM q cA N mr zn zs tn ts yn ys en es ew cv) → va_S A s.heap H locs → lv_has ls 5 [(0, .ref (q 0)), (1, .int x1), (2, .int x2)] → W p l e ({ frames := 0, cells := 0, slots := 0, locals := 0 }) s m ([.ref (q 0), .int a1, .int a2] : List Value).toArray below meth c H locs 0 0 (MQ below (kQi D cA kB A (wM q cA N mr zn zs tn ts yn ys en es ew cv) r) ([.ref (q 0), .int a1, .int a2] : List Value).toArray s 0 0 A) (F0 m 0 ls [])) ∧
    (∀ (x1 x2 x3 x4 : Int32) (r : Int32) (H : Heap) (locs : List Loc) (ls : Array Slot), mM_joined N mr n 1 [x1, x2, x3, x4] = some r → va_P D vwCl (wM q cA N mr zn zs tn ts yn ys en es ew cv) H → va_D A (wM q cA N mr zn zs tn ts yn ys en es ew cv) → va_S A s.heap H locs → lv_has ls 5 [(0, .ref (q 0)), (1, .int x1), (2, .int x2), (3, .int x3), (4, .int x4)] → W p l e ({ frames := 0, cells := 0, slots := 0, locals := 0 }) s m ([.ref (q 0), .int a1, .int a2] : List Value).toArray below meth c H locs 0 0 (MQ below (kQi D cA kB A (wM q cA N mr zn zs tn ts yn ys en es ew cv) r) ([.ref (q 0), .int a1, .int a2] : List Value).toArray s 0 0 A) (F0 m 5 ls [])) ∧
    (∀ (x1 x2 x4 : Int32) (r : Int32) (H : Heap) (locs : List Loc) (ls : Array Slot), mM_joined N mr n 2 [x1, x2, x4] = some r → va_P D vwCl (wM q cA N mr zn zs tn ts yn ys en es ew cv) H → va_D A (wM q cA N mr zn zs tn ts yn ys en es ew cv) → va_S A s.heap H locs → lv_has ls 5 [(0, .ref (q 0)), (1, .int x1), (2, .int x2), (4, .int x4)] → W p l e ({ frames := 0, cells := 0, slots := 0, locals := 0 }) s m ([.ref (q 0), .int a1, .int a2] : List Value).toArray below meth c H locs 0 0 (MQ below (kQi D cA kB A (wM q cA N mr zn zs tn ts yn ys en es ew cv) r) ([.ref (q 0), .int a1, .int a2] : List Value).toArray s 0 0 A) (F0 m 40 ls [])) ∧
    (∀ (x1 x2 x4 : Int32) (r : Int32) (H : Heap) (locs : List Loc) (ls : Array Slot), mM_joined N mr n 3 [x1, x2, x4] = some r → va_P D vwCl (wM q cA N mr zn zs tn ts yn ys en es ew cv) H → va_D A (wM q cA N mr zn zs tn ts yn ys en es ew cv) → va_S A s.heap H locs → lv_has ls 5 [(0, .ref (q 0)), (1, .int x1), (2, .int x2), (4, .int x4)] → W p l e ({ frames := 0, cells := 0, slots := 0, locals := 0 }) s m ([.ref (q 0), .int a1, .int a2] : List Value).toArray below meth c H locs 0 0 (MQ below (kQi D cA kB A (wM q cA N mr zn zs tn ts yn ys en es ew cv) r) ([.ref (q 0), .int a1, .int a2] : List Value).toArray s 0 0 A) (F0 m 44 ls [])) := by
    intro n
    induction n with
    | zero => exact ⟨(by intros; rename_i h _ _ _ _; rw [mM_joined_z] at h; cases h), (by intros; rename_i h _ _ _ _; rw [mM_joined_z] at h; cases h), (by intros; rename_i h _ _ _ _; rw [mM_joined_z] at h; cases h), (by intros; rename_i h _ _ _ _; rw [mM_joined_z] at h; cases h)⟩
    | succ n ih =>
      obtain ⟨ih0, ih1, ih2, ih3⟩ := ih
      refine ⟨?_, ?_, ?_, ?_⟩
      · intro x1 x2 r H locs ls hm hP hD hS hl
        rw [mM_joined_e0] at hm
        refine lv_iconst (v := 0) hx hb dXM_joined_0 (by decide) ?_
        refine lv_istore_n (lv' := [(3, .int 0), (0, .ref (q 0)), (1, .int x1), (2, .int x2)]) hx hb dXM_joined_1 rfl hl (by decide) rfl (fun ls hl => ?_)
        refine lv_iconst (v := 0) hx hb dXM_joined_2 (by decide) ?_
        refine lv_istore (lv' := [(4, .int 0), (3, .int 0), (0, .ref (q 0)), (1, .int x1), (2, .int x2)]) hx hb dXM_joined_3 hl (by decide) rfl (fun ls hl => ?_)
        exact ih1 x1 x2 0 0 _ H locs ls hm hP hD hS (lv_sub hl [2, 3, 4, 1, 0] rfl)
      · intro x1 x2 x3 x4 r H locs ls hm hP hD hS hl
        rw [mM_joined_e1] at hm
        refine lv_iload hx hb dXM_joined_5 (lv_at hl 4 rfl) ?_
        refine lv_aload_n hx hb dXM_joined_7 rfl (lv_at hl 0 rfl) ?_
        refine va_get (D := D) (ci := 5) (v := .int (nI N)) (C := RXM) (T := TXM) (N := 12) hx hb hts hinXM hown hK hP 0 rfl rfl 0 (by decide) (hts _ wd_389) (fun _ h9 => h9) rfl dXM_joined_8 ?_
        refine lv_icmp_ge (tgt := 52) hx hb dXM_joined_11 (by decide) (fun c111 => ?_) (fun c111 => ?_)
        · rw [if_pos c111] at hm
          refine lv_iload_n hx hb dXM_joined_52 rfl (lv_at hl 3 rfl) ?_
          obtain ⟨hz, hm⟩ := kz_s hm
          cases hm
          exact k_zret hx hb hr hlocks hK hP hD hS hz dXM_joined_53
        · rw [if_neg c111] at hm
          refine lv_iload_n hx hb dXM_joined_14 rfl (lv_at hl 3 rfl) ?_
          refine lv_if_ne (tgt := 40) hx hb dXM_joined_15 (by decide) (fun c112 => ?_) (fun c112 => ?_)
          · rw [if_neg c112] at hm
            exact ih2 x1 x2 x4 _ H locs ls hm hP hD hS (lv_sub hl [0, 1, 2, 4] rfl)
          · rw [if_pos c112] at hm
            refine lv_iload_n hx hb dXM_joined_18 rfl (lv_at hl 1 rfl) ?_
            refine lv_iload hx hb dXM_joined_19 (lv_at hl 4 rfl) ?_
            refine lv_ishr hx hb dXM_joined_21 ?_
            refine lv_iconst (v := 1) hx hb dXM_joined_22 (by decide) ?_
            refine lv_iand hx hb dXM_joined_23 ?_
            refine lv_iconst (v := 1) hx hb dXM_joined_24 (by decide) ?_
            refine lv_icmp_ne (tgt := 44) hx hb dXM_joined_25 (by decide) (fun c113 => ?_) (fun c113 => ?_)
            · rw [if_neg c113] at hm
              exact ih3 x1 x2 x4 _ H locs ls hm hP hD hS (lv_sub hl [0, 1, 2, 4] rfl)
            · rw [if_pos c113] at hm
              refine lv_aload_n hx hb dXM_joined_28 rfl (lv_at hl 0 rfl) ?_
              refine va_get (D := D) (ci := 5) (v := .ref (q 1)) (C := RXM) (T := TXM) (N := 12) hx hb hts hinXM hown hK hP 0 rfl rfl 1 (by decide) (hts _ wd_390) (fun _ h9 => h9) rfl dXM_joined_29 ?_
              refine lv_iload hx hb dXM_joined_32 (lv_at hl 4 rfl) ?_
              obtain ⟨hg114, hm⟩ := kg_s hm
              refine va_iald hx hb hK hP 1 0 rfl rfl hg114 dXM_joined_34 ?_
              refine lv_iload_n hx hb dXM_joined_35 rfl (lv_at hl 2 rfl) ?_
              refine lv_iand hx hb dXM_joined_36 ?_
              refine lv_if_eq (tgt := 44) hx hb dXM_joined_37 (by decide) (fun c115 => ?_) (fun c115 => ?_)
              · rw [if_pos c115] at hm
                exact ih3 x1 x2 x4 _ H locs ls hm hP hD hS (lv_sub hl [0, 1, 2, 4] rfl)
              · rw [if_neg c115] at hm
                exact ih2 x1 x2 x4 _ H locs ls hm hP hD hS (lv_sub hl [0, 1, 2, 4] rfl)
      · intro x1 x2 x4 r H locs ls hm hP hD hS hl
        rw [mM_joined_e2] at hm
        refine lv_iconst (v := 1) hx hb dXM_joined_40 (by decide) ?_
        refine lv_goto (tgt := 45) hx hb dXM_joined_41 (by decide) ?_
        refine lv_istore_n (lv' := [(3, .int 1), (0, .ref (q 0)), (1, .int x1), (2, .int x2), (4, .int x4)]) hx hb dXM_joined_45 rfl hl (by decide) rfl (fun ls hl => ?_)
        refine lv_iinc (v := (x4 + 1)) (lv' := [(4, .int (x4 + 1)), (3, .int 1), (0, .ref (q 0)), (1, .int x1), (2, .int x2)]) hx hb dXM_joined_46 hl (k := 4) rfl rfl (by decide) rfl (fun ls hl => ?_)
        refine lv_goto (tgt := 5) hx hb dXM_joined_49 (by decide) ?_
        exact ih1 x1 x2 1 (x4 + 1) _ H locs ls hm hP hD hS (lv_sub hl [2, 3, 4, 1, 0] rfl)
      · intro x1 x2 x4 r H locs ls hm hP hD hS hl
        rw [mM_joined_e3] at hm
        refine lv_iconst (v := 0) hx hb dXM_joined_44 (by decide) ?_
        refine lv_istore_n (lv' := [(3, .int 0), (0, .ref (q 0)), (1, .int x1), (2, .int x2), (4, .int x4)]) hx hb dXM_joined_45 rfl hl (by decide) rfl (fun ls hl => ?_)
        refine lv_iinc (v := (x4 + 1)) (lv' := [(4, .int (x4 + 1)), (3, .int 0), (0, .ref (q 0)), (1, .int x1), (2, .int x2)]) hx hb dXM_joined_46 hl (k := 4) rfl rfl (by decide) rfl (fun ls hl => ?_)
        refine lv_goto (tgt := 5) hx hb dXM_joined_49 (by decide) ?_
        exact ih1 x1 x2 0 (x4 + 1) _ H locs ls hm hP hD hS (lv_sub hl [2, 3, 4, 1, 0] rfl)
  exact (key n).1 a1 a2 r s.heap [] ls hm hP hD va_S.rf hl
set_option maxHeartbeats 4000000 in
set_option maxRecDepth 100000 in
theorem cM_links (l : Launch) (D : va_G) (q : Nat → Nat) (cA : ClassId) (N : Nat) (sz : Nat) (mr : Nat → Int32) (zn : Int32) (zs : Nat → Int32) (tn : Int32) (ts : Nat → Int32) (yn : Int32) (ys : Nat → Int32) (en : Int32) (es : Nat → Int32) (ew : Int32) (cv : Nat → Int32) (a1 : Int32) (n : Nat) (r : Int32) (hm : mM_links N mr yn ys n 0 [a1] = some r) : Met l yXM_links wsXM_links ({ frames := 1, cells := 0, slots := 0, locals := 24 }) (kPc D cA [.ref (q 0), .int a1] (wM q cA N mr zn zs tn ts yn ys en es ew cv) sz) (kQi D cA kT (va_A (wM q cA N mr zn zs tn ts yn ys en es ew cv) sz) (wM q cA N mr zn zs tn ts yn ys en es ew cv) r) 0 0 (va_A (wM q cA N mr zn zs tn ts yn ys en es ew cv) sz) := by
  refine k_met (D := D) (cA := cA) (w := (wM q cA N mr zn zs tn ts yn ys en es ew cv)) (sz := sz) (av := [.ref (q 0), .int a1]) (cc := cXM_links) (maxL := 4) (ret := (some .int)) (Qc := fun A => kQi D cA kT A (wM q cA N mr zn zs tn ts yn ys en es ew cv) r) (by decide) rfl (Nat.le_of_ble_eq_true rfl) ?_
  intro p e s m below meth c A ls hX hK hN hA hP hD hl
  obtain ⟨hx, hb, hr, hml, hown, hts, hlocks, -⟩ := hX
  have hown : s.vm.findClass RXM = some m.cls := hown
  have hl : lv_has ls 4 [(0, .ref (q 0)), (1, .int a1)] := hl
  have hts : ∀ w ∈ W0, w.before _ s = true := fun w h => hts w (List.mem_cons_of_mem _ h)
  have key : ∀ n : Nat, (∀ (x1 : Int32) (r : Int32) (H : Heap) (locs : List Loc) (ls : Array Slot), mM_links N mr yn ys n 0 [x1] = some r → va_P D vwCl (wM q cA N mr zn zs tn ts yn ys en es ew cv) H → va_D A (wM q cA N mr zn zs tn ts yn ys en es ew cv) → va_S A s.heap H locs → lv_has ls 4 [(0, .ref (q 0)), (1, .int x1)] → W p l e ({ frames := 1, cells := 0, slots := 0, locals := 24 }) s m ([.ref (q 0), .int a1] : List Value).toArray below meth c H locs 0 0 (MQ below (kQi D cA kT A (wM q cA N mr zn zs tn ts yn ys en es ew cv) r) ([.ref (q 0), .int a1] : List Value).toArray s 0 0 A) (F0 m 0 ls [])) ∧
    (∀ (x1 x2 x3 : Int32) (r : Int32) (H : Heap) (locs : List Loc) (ls : Array Slot), mM_links N mr yn ys n 1 [x1, x2, x3] = some r → va_P D vwCl (wM q cA N mr zn zs tn ts yn ys en es ew cv) H → va_D A (wM q cA N mr zn zs tn ts yn ys en es ew cv) → va_S A s.heap H locs → lv_has ls 4 [(0, .ref (q 0)), (1, .int x1), (2, .int x2), (3, .int x3)] → W p l e ({ frames := 1, cells := 0, slots := 0, locals := 24 }) s m ([.ref (q 0), .int a1] : List Value).toArray below meth c H locs 0 0 (MQ below (kQi D cA kT A (wM q cA N mr zn zs tn ts yn ys en es ew cv) r) ([.ref (q 0), .int a1] : List Value).toArray s 0 0 A) (F0 m 4 ls [])) ∧
    (∀ (x1 x3 y0 : Int32) (r : Int32) (H : Heap) (locs : List Loc) (ls : Array Slot), mM_links N mr yn ys n 2 [x1, x3, y0] = some r → va_P D vwCl (wM q cA N mr zn zs tn ts yn ys en es ew cv) H → va_D A (wM q cA N mr zn zs tn ts yn ys en es ew cv) → va_S A s.heap H locs → lv_has ls 4 [(0, .ref (q 0)), (1, .int x1), (3, .int x3)] → W p l e ({ frames := 1, cells := 0, slots := 0, locals := 24 }) s m ([.ref (q 0), .int a1] : List Value).toArray below meth c H locs 0 0 (MQ below (kQi D cA kT A (wM q cA N mr zn zs tn ts yn ys en es ew cv) r) ([.ref (q 0), .int a1] : List Value).toArray s 0 0 A) (F0 m 41 ls [.int y0])) ∧
    (∀ (x1 x3 y0 y1 : Int32) (r : Int32) (H : Heap) (locs : List Loc) (ls : Array Slot), mM_links N mr yn ys n 3 [x1, x3, y0, y1] = some r → va_P D vwCl (wM q cA N mr zn zs tn ts yn ys en es ew cv) H → va_D A (wM q cA N mr zn zs tn ts yn ys en es ew cv) → va_S A s.heap H locs → lv_has ls 4 [(0, .ref (q 0)), (1, .int x1), (3, .int x3)] → W p l e ({ frames := 1, cells := 0, slots := 0, locals := 24 }) s m ([.ref (q 0), .int a1] : List Value).toArray below meth c H locs 0 0 (MQ below (kQi D cA kT A (wM q cA N mr zn zs tn ts yn ys en es ew cv) r) ([.ref (q 0), .int a1] : List Value).toArray s 0 0 A) (F0 m 42 ls [.int y0, .int y1])) := by
    intro n
    induction n with
    | zero => exact ⟨(by intros; rename_i h _ _ _ _; rw [mM_links_z] at h; cases h), (by intros; rename_i h _ _ _ _; rw [mM_links_z] at h; cases h), (by intros; rename_i h _ _ _ _; rw [mM_links_z] at h; cases h), (by intros; rename_i h _ _ _ _; rw [mM_links_z] at h; cases h)⟩
    | succ n ih =>
      obtain ⟨ih0, ih1, ih2, ih3⟩ := ih
      refine ⟨?_, ?_, ?_, ?_⟩
      · intro x1 r H locs ls hm hP hD hS hl
        rw [mM_links_e0] at hm
        refine lv_iconst (v := 0) hx hb dXM_links_0 (by decide) ?_
        refine lv_istore_n (lv' := [(2, .int 0), (0, .ref (q 0)), (1, .int x1)]) hx hb dXM_links_1 rfl hl (by decide) rfl (fun ls hl => ?_)
        refine lv_iconst (v := 0) hx hb dXM_links_2 (by decide) ?_
        refine lv_istore_n (lv' := [(3, .int 0), (2, .int 0), (0, .ref (q 0)), (1, .int x1)]) hx hb dXM_links_3 rfl hl (by decide) rfl (fun ls hl => ?_)
        exact ih1 x1 0 0 _ H locs ls hm hP hD hS (lv_sub hl [2, 3, 1, 0] rfl)
      · intro x1 x2 x3 r H locs ls hm hP hD hS hl
        rw [mM_links_e1] at hm
        refine lv_iload_n hx hb dXM_links_4 rfl (lv_at hl 3 rfl) ?_
        refine lv_aload_n hx hb dXM_links_5 rfl (lv_at hl 0 rfl) ?_
        refine va_get (D := D) (ci := 5) (v := .int yn) (C := RXM) (T := TXM) (N := 12) hx hb hts hinXM hown hK hP 0 rfl rfl 6 (by decide) (hts _ wd_395) (fun _ h9 => h9) rfl dXM_links_6 ?_
        refine lv_icmp_ge (tgt := 50) hx hb dXM_links_9 (by decide) (fun c111 => ?_) (fun c111 => ?_)
        · rw [if_pos c111] at hm
          refine lv_iload_n hx hb dXM_links_50 rfl (lv_at hl 2 rfl) ?_
          cases hm
          exact k_iret hx hb hr hlocks hK hP hD hS trivial dXM_links_51
        · rw [if_neg c111] at hm
          refine lv_iload_n hx hb dXM_links_12 rfl (lv_at hl 2 rfl) ?_
          refine lv_iload_n hx hb dXM_links_13 rfl (lv_at hl 3 rfl) ?_
          refine lv_iload_n hx hb dXM_links_14 rfl (lv_at hl 1 rfl) ?_
          refine lv_icmp_eq (tgt := 41) hx hb dXM_links_15 (by decide) (fun c112 => ?_) (fun c112 => ?_)
          · rw [if_pos c112] at hm
            exact ih2 x1 x3 x2 _ H locs ls hm hP hD hS (lv_sub hl [0, 1, 3] rfl)
          · rw [if_neg c112] at hm
            refine lv_aload_n hx hb dXM_links_18 rfl (lv_at hl 0 rfl) ?_
            refine lv_aload_n hx hb dXM_links_19 rfl (lv_at hl 0 rfl) ?_
            refine va_get (D := D) (ci := 5) (v := .ref (q 4)) (C := RXM) (T := TXM) (N := 12) hx hb hts hinXM hown hK hP 0 rfl rfl 7 (by decide) (hts _ wd_396) (fun _ h9 => h9) rfl dXM_links_20 ?_
            refine lv_iload_n hx hb dXM_links_23 rfl (lv_at hl 1 rfl) ?_
            obtain ⟨hg113, hm⟩ := kg_s hm
            refine va_iald hx hb hK hP 4 0 rfl rfl hg113 dXM_links_24 ?_
            refine lv_aload_n hx hb dXM_links_25 rfl (lv_at hl 0 rfl) ?_
            refine va_get (D := D) (ci := 5) (v := .ref (q 4)) (C := RXM) (T := TXM) (N := 12) hx hb hts hinXM hown hK hP 0 rfl rfl 7 (by decide) (hts _ wd_396) (fun _ h9 => h9) rfl dXM_links_26 ?_
            refine lv_iload_n hx hb dXM_links_29 rfl (lv_at hl 3 rfl) ?_
            obtain ⟨hg114, hm⟩ := kg_s hm
            refine va_iald hx hb hK hP 4 0 rfl rfl hg114 dXM_links_30 ?_
            obtain ⟨r115, hm115, hm⟩ := kb_s hm
            refine k_vi (As := [.int (ys x1.toNatClampNeg), .int (ys x3.toNatClampNeg)]) (rest := [.int x2]) (w2 := (wM q cA N mr zn zs tn ts yn ys en es ew cv)) ⟨hx, hb, hml, hown, hts⟩ (cM_joined l D q cA N H.size mr zn zs tn ts yn ys en es ew cv (ys x1.toNatClampNeg) (ys x3.toNatClampNeg) n r115 hm115) (cwV 2 hts (gV wd_485 wd_486 wd_27 wd_41 wd_487) rfl rfl rfl (by decide +kernel) ⟨Nat.le_of_ble_eq_true rfl, Nat.le_of_ble_eq_true rfl⟩) hK hN hP hD hS hA [0, 1, 2, 3, 4, 5, 6] [] [0, 1, 2, 3, 4, 5, 6] ⟨rfl, rfl, by decide, rfl, by decide, by decide, rfl, rfl, by decide⟩ (va_recv hK hP (ci := 5) (q0 := 0) rfl rfl) rfl hl.1 rfl (Nat.le_of_ble_eq_true rfl) dXM_links_31 ⟨Nat.le_of_ble_eq_true rfl, Nat.le_of_ble_eq_true rfl⟩ (fun hz115 H locs hP hD hS => ?_)
            refine lv_if_eq (tgt := 41) hx hb dXM_links_34 (by decide) (fun c116 => ?_) (fun c116 => ?_)
            · rw [if_pos c116] at hm
              exact ih2 x1 x3 x2 _ H locs ls hm hP hD hS (lv_sub hl [0, 1, 3] rfl)
            · rw [if_neg c116] at hm
              refine lv_iconst (v := 1) hx hb dXM_links_37 (by decide) ?_
              refine lv_goto (tgt := 42) hx hb dXM_links_38 (by decide) ?_
              exact ih3 x1 x3 1 x2 _ H locs ls hm hP hD hS (lv_sub hl [0, 1, 3] rfl)
      · intro x1 x3 y0 r H locs ls hm hP hD hS hl
        rw [mM_links_e2] at hm
        refine lv_iconst (v := 0) hx hb dXM_links_41 (by decide) ?_
        exact ih3 x1 x3 0 y0 _ H locs ls hm hP hD hS (lv_sub hl [0, 1, 2] rfl)
      · intro x1 x3 y0 y1 r H locs ls hm hP hD hS hl
        rw [mM_links_e3] at hm
        refine lv_iadd hx hb dXM_links_42 ?_
        refine lv_topi (fun x2_311 ex2_311 => ?_)
        have hm := kl_s ex2_311 hm
        refine lv_istore_n (lv' := [(2, .int x2_311), (0, .ref (q 0)), (1, .int x1), (3, .int x3)]) hx hb dXM_links_43 rfl hl (by decide) rfl (fun ls hl => ?_)
        refine lv_iinc (v := (x3 + 1)) (lv' := [(3, .int (x3 + 1)), (2, .int x2_311), (0, .ref (q 0)), (1, .int x1)]) hx hb dXM_links_44 hl (k := 3) rfl rfl (by decide) rfl (fun ls hl => ?_)
        refine lv_goto (tgt := 4) hx hb dXM_links_47 (by decide) ?_
        exact ih1 x1 x2_311 (x3 + 1) _ H locs ls hm hP hD hS (lv_sub hl [2, 3, 1, 0] rfl)
  exact (key n).1 a1 r s.heap [] ls hm hP hD va_S.rf hl
set_option maxHeartbeats 4000000 in
set_option maxRecDepth 100000 in
theorem cM_middle (l : Launch) (D : va_G) (q : Nat → Nat) (cA : ClassId) (N : Nat) (sz : Nat) (mr : Nat → Int32) (zn : Int32) (zs : Nat → Int32) (tn : Int32) (ts : Nat → Int32) (yn : Int32) (ys : Nat → Int32) (en : Int32) (es : Nat → Int32) (ew : Int32) (cv : Nat → Int32) (n : Nat) (r : Int32) (hm : mM_middle N mr yn ys n 0 [] = some r) : Met l yXM_middle wsXM_middle ({ frames := 2, cells := 0, slots := 0, locals := 47 }) (kPc D cA [.ref (q 0)] (wM q cA N mr zn zs tn ts yn ys en es ew cv) sz) (kQi D cA kT (va_A (wM q cA N mr zn zs tn ts yn ys en es ew cv) sz) (wM q cA N mr zn zs tn ts yn ys en es ew cv) r) 0 0 (va_A (wM q cA N mr zn zs tn ts yn ys en es ew cv) sz) := by
  refine k_met (D := D) (cA := cA) (w := (wM q cA N mr zn zs tn ts yn ys en es ew cv)) (sz := sz) (av := [.ref (q 0)]) (cc := cXM_middle) (maxL := 4) (ret := (some .int)) (Qc := fun A => kQi D cA kT A (wM q cA N mr zn zs tn ts yn ys en es ew cv) r) (by decide) rfl (Nat.le_of_ble_eq_true rfl) ?_
  intro p e s m below meth c A ls hX hK hN hA hP hD hl
  obtain ⟨hx, hb, hr, hml, hown, hts, hlocks, -⟩ := hX
  have hown : s.vm.findClass RXM = some m.cls := hown
  have hl : lv_has ls 4 [(0, .ref (q 0))] := hl
  have hts : ∀ w ∈ W0, w.before _ s = true := fun w h => hts w (List.mem_cons_of_mem _ h)
  have key : ∀ n : Nat, (∀ (r : Int32) (H : Heap) (locs : List Loc) (ls : Array Slot), mM_middle N mr yn ys n 0 [] = some r → va_P D vwCl (wM q cA N mr zn zs tn ts yn ys en es ew cv) H → va_D A (wM q cA N mr zn zs tn ts yn ys en es ew cv) → va_S A s.heap H locs → lv_has ls 4 [(0, .ref (q 0))] → W p l e ({ frames := 2, cells := 0, slots := 0, locals := 47 }) s m ([.ref (q 0)] : List Value).toArray below meth c H locs 0 0 (MQ below (kQi D cA kT A (wM q cA N mr zn zs tn ts yn ys en es ew cv) r) ([.ref (q 0)] : List Value).toArray s 0 0 A) (F0 m 0 ls [])) ∧
    (∀ (x1 x2 x3 : Int32) (r : Int32) (H : Heap) (locs : List Loc) (ls : Array Slot), mM_middle N mr yn ys n 1 [x1, x2, x3] = some r → va_P D vwCl (wM q cA N mr zn zs tn ts yn ys en es ew cv) H → va_D A (wM q cA N mr zn zs tn ts yn ys en es ew cv) → va_S A s.heap H locs → lv_has ls 4 [(0, .ref (q 0)), (1, .int x1), (2, .int x2), (3, .int x3)] → W p l e ({ frames := 2, cells := 0, slots := 0, locals := 47 }) s m ([.ref (q 0)] : List Value).toArray below meth c H locs 0 0 (MQ below (kQi D cA kT A (wM q cA N mr zn zs tn ts yn ys en es ew cv) r) ([.ref (q 0)] : List Value).toArray s 0 0 A) (F0 m 6 ls [])) ∧
    (∀ (x1 x2 x3 : Int32) (r : Int32) (H : Heap) (locs : List Loc) (ls : Array Slot), mM_middle N mr yn ys n 2 [x1, x2, x3] = some r → va_P D vwCl (wM q cA N mr zn zs tn ts yn ys en es ew cv) H → va_D A (wM q cA N mr zn zs tn ts yn ys en es ew cv) → va_S A s.heap H locs → lv_has ls 4 [(0, .ref (q 0)), (1, .int x1), (2, .int x2), (3, .int x3)] → W p l e ({ frames := 2, cells := 0, slots := 0, locals := 47 }) s m ([.ref (q 0)] : List Value).toArray below meth c H locs 0 0 (MQ below (kQi D cA kT A (wM q cA N mr zn zs tn ts yn ys en es ew cv) r) ([.ref (q 0)] : List Value).toArray s 0 0 A) (F0 m 45 ls [])) := by
    intro n
    induction n with
    | zero => exact ⟨(by intros; rename_i h _ _ _ _; rw [mM_middle_z] at h; cases h), (by intros; rename_i h _ _ _ _; rw [mM_middle_z] at h; cases h), (by intros; rename_i h _ _ _ _; rw [mM_middle_z] at h; cases h)⟩
    | succ n ih =>
      obtain ⟨ih0, ih1, ih2⟩ := ih
      refine ⟨?_, ?_, ?_⟩
      · intro r H locs ls hm hP hD hS hl
        rw [mM_middle_e0] at hm
        refine lv_iconst (v := 0) hx hb dXM_middle_0 (by decide) ?_
        refine lv_istore_n (lv' := [(1, .int 0), (0, .ref (q 0))]) hx hb dXM_middle_1 rfl hl (by decide) rfl (fun ls hl => ?_)
        refine lv_iconst (v := (-1)) hx hb dXM_middle_2 (by decide) ?_
        refine lv_istore_n (lv' := [(2, .int (-1)), (1, .int 0), (0, .ref (q 0))]) hx hb dXM_middle_3 rfl hl (by decide) rfl (fun ls hl => ?_)
        refine lv_iconst (v := 0) hx hb dXM_middle_4 (by decide) ?_
        refine lv_istore_n (lv' := [(3, .int 0), (2, .int (-1)), (1, .int 0), (0, .ref (q 0))]) hx hb dXM_middle_5 rfl hl (by decide) rfl (fun ls hl => ?_)
        exact ih1 0 (-1) 0 _ H locs ls hm hP hD hS (lv_sub hl [3, 2, 1, 0] rfl)
      · intro x1 x2 x3 r H locs ls hm hP hD hS hl
        rw [mM_middle_e1] at hm
        refine lv_iload_n hx hb dXM_middle_6 rfl (lv_at hl 3 rfl) ?_
        refine lv_aload_n hx hb dXM_middle_7 rfl (lv_at hl 0 rfl) ?_
        refine va_get (D := D) (ci := 5) (v := .int yn) (C := RXM) (T := TXM) (N := 12) hx hb hts hinXM hown hK hP 0 rfl rfl 6 (by decide) (hts _ wd_395) (fun _ h9 => h9) rfl dXM_middle_8 ?_
        refine lv_icmp_ge (tgt := 53) hx hb dXM_middle_11 (by decide) (fun c111 => ?_) (fun c111 => ?_)
        · rw [if_pos c111] at hm
          refine lv_iload_n hx hb dXM_middle_53 rfl (lv_at hl 1 rfl) ?_
          refine lv_aload_n hx hb dXM_middle_54 rfl (lv_at hl 0 rfl) ?_
          refine va_get (D := D) (ci := 5) (v := .int yn) (C := RXM) (T := TXM) (N := 12) hx hb hts hinXM hown hK hP 0 rfl rfl 6 (by decide) (hts _ wd_395) (fun _ h9 => h9) rfl dXM_middle_55 ?_
          refine lv_aload_n hx hb dXM_middle_58 rfl (lv_at hl 0 rfl) ?_
          refine va_get (D := D) (ci := 5) (v := .int yn) (C := RXM) (T := TXM) (N := 12) hx hb hts hinXM hown hK hP 0 rfl rfl 6 (by decide) (hts _ wd_395) (fun _ h9 => h9) rfl dXM_middle_59 ?_
          refine lv_iconst (v := 1) hx hb dXM_middle_62 (by decide) ?_
          refine lv_isub hx hb dXM_middle_63 ?_
          refine lv_imul hx hb dXM_middle_64 ?_
          refine lv_icmp_ne (tgt := 71) hx hb dXM_middle_65 (by decide) (fun c112 => ?_) (fun c112 => ?_)
          · rw [if_neg c112] at hm
            refine lv_iload_n hx hb dXM_middle_71 rfl (lv_at hl 2 rfl) ?_
            refine lv_iconst (v := (-1)) hx hb dXM_middle_72 (by decide) ?_
            refine lv_icmp_eq (tgt := 92) hx hb dXM_middle_73 (by decide) (fun c113 => ?_) (fun c113 => ?_)
            · rw [if_pos c113] at hm
              refine lv_iconst (v := (-1)) hx hb dXM_middle_92 (by decide) ?_
              cases hm
              exact k_iret hx hb hr hlocks hK hP hD hS trivial dXM_middle_93
            · rw [if_neg c113] at hm
              refine lv_iload_n hx hb dXM_middle_76 rfl (lv_at hl 1 rfl) ?_
              refine lv_iconst (v := 2) hx hb dXM_middle_77 (by decide) ?_
              refine lv_aload_n hx hb dXM_middle_78 rfl (lv_at hl 0 rfl) ?_
              refine va_get (D := D) (ci := 5) (v := .int yn) (C := RXM) (T := TXM) (N := 12) hx hb hts hinXM hown hK hP 0 rfl rfl 6 (by decide) (hts _ wd_395) (fun _ h9 => h9) rfl dXM_middle_79 ?_
              refine lv_iconst (v := 1) hx hb dXM_middle_82 (by decide) ?_
              refine lv_isub hx hb dXM_middle_83 ?_
              refine lv_imul hx hb dXM_middle_84 ?_
              refine lv_icmp_ne (tgt := 92) hx hb dXM_middle_85 (by decide) (fun c114 => ?_) (fun c114 => ?_)
              · rw [if_neg c114] at hm
                refine lv_iconst (v := (-1)) hx hb dXM_middle_92 (by decide) ?_
                cases hm
                exact k_iret hx hb hr hlocks hK hP hD hS trivial dXM_middle_93
              · rw [if_pos c114] at hm
                refine lv_iload_n hx hb dXM_middle_88 rfl (lv_at hl 2 rfl) ?_
                refine lv_goto (tgt := 93) hx hb dXM_middle_89 (by decide) ?_
                cases hm
                exact k_iret hx hb hr hlocks hK hP hD hS trivial dXM_middle_93
          · rw [if_pos c112] at hm
            refine lv_bipush (v := (-2)) hx hb dXM_middle_68 (by decide) ?_
            cases hm
            exact k_iret hx hb hr hlocks hK hP hD hS trivial dXM_middle_70
        · rw [if_neg c111] at hm
          refine lv_iload_n hx hb dXM_middle_14 rfl (lv_at hl 1 rfl) ?_
          refine lv_aload_n hx hb dXM_middle_15 rfl (lv_at hl 0 rfl) ?_
          refine lv_iload_n hx hb dXM_middle_16 rfl (lv_at hl 3 rfl) ?_
          obtain ⟨r115, hm115, hm⟩ := kb_s hm
          refine k_vi (As := [.int x3]) (rest := [.int x1]) (w2 := (wM q cA N mr zn zs tn ts yn ys en es ew cv)) ⟨hx, hb, hml, hown, hts⟩ (cM_links l D q cA N H.size mr zn zs tn ts yn ys en es ew cv x3 n r115 hm115) (cwV 1 hts (gV wd_482 wd_483 wd_26 wd_41 wd_484) rfl rfl rfl (by decide +kernel) ⟨Nat.le_of_ble_eq_true rfl, Nat.le_of_ble_eq_true rfl⟩) hK hN hP hD hS hA [0, 1, 2, 3, 4, 5, 6] [] [0, 1, 2, 3, 4, 5, 6] ⟨rfl, rfl, by decide, rfl, by decide, by decide, rfl, rfl, by decide⟩ (va_recv hK hP (ci := 5) (q0 := 0) rfl rfl) rfl hl.1 rfl (Nat.le_of_ble_eq_true rfl) dXM_middle_17 ⟨Nat.le_of_ble_eq_true rfl, Nat.le_of_ble_eq_true rfl⟩ (fun hz115 H locs hP hD hS => ?_)
          refine lv_iadd hx hb dXM_middle_20 ?_
          refine lv_topi (fun x1_116 ex1_116 => ?_)
          have hm := kl_s ex1_116 hm
          refine lv_istore_n (lv' := [(1, .int x1_116), (0, .ref (q 0)), (2, .int x2), (3, .int x3)]) hx hb dXM_middle_21 rfl hl (by decide) rfl (fun ls hl => ?_)
          refine lv_aload_n hx hb dXM_middle_22 rfl (lv_at hl 1 rfl) ?_
          refine lv_iload_n hx hb dXM_middle_23 rfl (lv_at hl 3 rfl) ?_
          obtain ⟨r117, hm117, hm⟩ := kb_s hm
          refine k_vi (As := [.int x3]) (rest := []) (w2 := (wM q cA N mr zn zs tn ts yn ys en es ew cv)) ⟨hx, hb, hml, hown, hts⟩ (cM_links l D q cA N H.size mr zn zs tn ts yn ys en es ew cv x3 n r117 hm117) (cwV 1 hts (gV wd_482 wd_483 wd_26 wd_41 wd_484) rfl rfl rfl (by decide +kernel) ⟨Nat.le_of_ble_eq_true rfl, Nat.le_of_ble_eq_true rfl⟩) hK hN hP hD hS hA [0, 1, 2, 3, 4, 5, 6] [] [0, 1, 2, 3, 4, 5, 6] ⟨rfl, rfl, by decide, rfl, by decide, by decide, rfl, rfl, by decide⟩ (va_recv hK hP (ci := 5) (q0 := 0) rfl rfl) rfl hl.1 rfl (Nat.le_of_ble_eq_true rfl) dXM_middle_24 ⟨Nat.le_of_ble_eq_true rfl, Nat.le_of_ble_eq_true rfl⟩ (fun hz117 H locs hP hD hS => ?_)
          refine lv_aload_n hx hb dXM_middle_27 rfl (lv_at hl 1 rfl) ?_
          refine va_get (D := D) (ci := 5) (v := .int yn) (C := RXM) (T := TXM) (N := 12) hx hb hts hinXM hown hK hP 0 rfl rfl 6 (by decide) (hts _ wd_395) (fun _ h9 => h9) rfl dXM_middle_28 ?_
          refine lv_iconst (v := 1) hx hb dXM_middle_31 (by decide) ?_
          refine lv_isub hx hb dXM_middle_32 ?_
          refine lv_icmp_ne (tgt := 45) hx hb dXM_middle_33 (by decide) (fun c118 => ?_) (fun c118 => ?_)
          · rw [if_neg c118] at hm
            exact ih2 x1_116 x2 x3 _ H locs ls hm hP hD hS (lv_sub hl [1, 0, 2, 3] rfl)
          · rw [if_pos c118] at hm
            refine lv_iload_n hx hb dXM_middle_36 rfl (lv_at hl 2 rfl) ?_
            refine lv_iconst (v := (-1)) hx hb dXM_middle_37 (by decide) ?_
            refine lv_icmp_ne (tgt := 45) hx hb dXM_middle_38 (by decide) (fun c119 => ?_) (fun c119 => ?_)
            · rw [if_neg c119] at hm
              exact ih2 x1_116 x2 x3 _ H locs ls hm hP hD hS (lv_sub hl [1, 0, 2, 3] rfl)
            · rw [if_pos c119] at hm
              refine lv_iload_n hx hb dXM_middle_41 rfl (lv_at hl 3 rfl) ?_
              refine lv_goto (tgt := 46) hx hb dXM_middle_42 (by decide) ?_
              refine lv_istore_n (lv' := [(2, .int x3), (1, .int x1_116), (0, .ref (q 0)), (3, .int x3)]) hx hb dXM_middle_46 rfl hl (by decide) rfl (fun ls hl => ?_)
              refine lv_iinc (v := (x3 + 1)) (lv' := [(3, .int (x3 + 1)), (2, .int x3), (1, .int x1_116), (0, .ref (q 0))]) hx hb dXM_middle_47 hl (k := 3) rfl rfl (by decide) rfl (fun ls hl => ?_)
              refine lv_goto (tgt := 6) hx hb dXM_middle_50 (by decide) ?_
              exact ih1 x1_116 x3 (x3 + 1) _ H locs ls hm hP hD hS (lv_sub hl [3, 2, 1, 0] rfl)
      · intro x1 x2 x3 r H locs ls hm hP hD hS hl
        rw [mM_middle_e2] at hm
        refine lv_iload_n hx hb dXM_middle_45 rfl (lv_at hl 2 rfl) ?_
        refine lv_istore_n (lv' := [(2, .int x2), (0, .ref (q 0)), (1, .int x1), (3, .int x3)]) hx hb dXM_middle_46 rfl hl (by decide) rfl (fun ls hl => ?_)
        refine lv_iinc (v := (x3 + 1)) (lv' := [(3, .int (x3 + 1)), (2, .int x2), (0, .ref (q 0)), (1, .int x1)]) hx hb dXM_middle_47 hl (k := 3) rfl rfl (by decide) rfl (fun ls hl => ?_)
        refine lv_goto (tgt := 6) hx hb dXM_middle_50 (by decide) ?_
        exact ih1 x1 x2 (x3 + 1) _ H locs ls hm hP hD hS (lv_sub hl [2, 3, 1, 0] rfl)
  exact (key n).1 r s.heap [] ls hm hP hD va_S.rf hl
set_option maxHeartbeats 4000000 in
set_option maxRecDepth 100000 in
theorem cM_kind (l : Launch) (D : va_G) (q : Nat → Nat) (cA : ClassId) (N : Nat) (sz : Nat) (mr : Nat → Int32) (zn : Int32) (zs : Nat → Int32) (tn : Int32) (ts : Nat → Int32) (yn : Int32) (ys : Nat → Int32) (en : Int32) (es : Nat → Int32) (ew : Int32) (cv : Nat → Int32) (a1 a2 : Int32) (n : Nat) (r : Int32) (zn_1 : Int32) (zs_1 : Nat → Int32) (tn_1 : Int32) (ts_1 : Nat → Int32) (yn_1 : Int32) (ys_1 : Nat → Int32) (hm : mM_kind N mr n 0 [a1, a2] zn zs tn ts yn ys = some (r, zn_1, zs_1, tn_1, ts_1, yn_1, ys_1)) : Met l yXM_kind wsXM_kind ({ frames := 4, cells := 0, slots := 0, locals := 99 }) (kPc D cA [.ref (q 0), .int a1, .int a2] (wM q cA N mr zn zs tn ts yn ys en es ew cv) sz) (kQi D cA kT (va_A (wM q cA N mr zn zs tn ts yn ys en es ew cv) sz) (wM q cA N mr zn_1 zs_1 tn_1 ts_1 yn_1 ys_1 en es ew cv) r) 0 0 (va_A (wM q cA N mr zn zs tn ts yn ys en es ew cv) sz) := by
  refine k_met (D := D) (cA := cA) (w := (wM q cA N mr zn zs tn ts yn ys en es ew cv)) (sz := sz) (av := [.ref (q 0), .int a1, .int a2]) (cc := cXM_kind) (maxL := 4) (ret := (some .int)) (Qc := fun A => kQi D cA kT A (wM q cA N mr zn_1 zs_1 tn_1 ts_1 yn_1 ys_1 en es ew cv) r) (by decide) rfl (Nat.le_of_ble_eq_true rfl) ?_
  intro p e s m below meth c A ls hX hK hN hA hP hD hl
  obtain ⟨hx, hb, hr, hml, hown, hts, hlocks, -⟩ := hX
  have hown : s.vm.findClass RXM = some m.cls := hown
  have hl : lv_has ls 4 [(0, .ref (q 0)), (1, .int a1), (2, .int a2)] := hl
  have hts : ∀ w ∈ W0, w.before _ s = true := fun w h => hts w (List.mem_cons_of_mem _ h)
  have key : ∀ n : Nat, (∀ (x1 x2 : Int32) (zn : Int32) (zs : Nat → Int32) (tn : Int32) (ts : Nat → Int32) (yn : Int32) (ys : Nat → Int32) (r : Int32) (zn_1 : Int32) (zs_1 : Nat → Int32) (tn_1 : Int32) (ts_1 : Nat → Int32) (yn_1 : Int32) (ys_1 : Nat → Int32) (H : Heap) (locs : List Loc) (ls : Array Slot), mM_kind N mr n 0 [x1, x2] zn zs tn ts yn ys = some (r, zn_1, zs_1, tn_1, ts_1, yn_1, ys_1) → va_P D vwCl (wM q cA N mr zn zs tn ts yn ys en es ew cv) H → va_D A (wM q cA N mr zn zs tn ts yn ys en es ew cv) → va_S A s.heap H locs → lv_has ls 4 [(0, .ref (q 0)), (1, .int x1), (2, .int x2)] → W p l e ({ frames := 4, cells := 0, slots := 0, locals := 99 }) s m ([.ref (q 0), .int a1, .int a2] : List Value).toArray below meth c H locs 0 0 (MQ below (kQi D cA kT A (wM q cA N mr zn_1 zs_1 tn_1 ts_1 yn_1 ys_1 en es ew cv) r) ([.ref (q 0), .int a1, .int a2] : List Value).toArray s 0 0 A) (F0 m 0 ls [])) := by
    intro n
    induction n with
    | zero => exact (by intros; rename_i h _ _ _ _; rw [mM_kind_z] at h; cases h)
    | succ n ih =>
      have ih0 := ih
      intro x1 x2 zn zs tn ts yn ys r zn_1 zs_1 tn_1 ts_1 yn_1 ys_1 H locs ls hm hP hD hS hl
      rw [mM_kind_e0] at hm
      refine lv_aload_n hx hb dXM_kind_0 rfl (lv_at hl 0 rfl) ?_
      refine lv_iload_n hx hb dXM_kind_1 rfl (lv_at hl 1 rfl) ?_
      refine lv_iload_n hx hb dXM_kind_2 rfl (lv_at hl 2 rfl) ?_
      obtain ⟨⟨r11, zn_11, zs_11, tn_11, ts_11, yn_11, ys_11⟩, hm11, hm⟩ := kb_s hm
      dsimp only at hm
      refine k_vi (As := [.int x1, .int x2]) (rest := []) (w2 := (wM q cA N mr zn_11 zs_11 tn_11 ts_11 yn_11 ys_11 en es ew cv)) ⟨hx, hb, hml, hown, hts⟩ (cM_open l D q cA N H.size mr zn zs tn ts yn ys en es ew cv x1 x2 n r11 zn_11 zs_11 tn_11 ts_11 yn_11 ys_11 hm11) (cwV 2 hts (gV wd_470 wd_471 wd_23 wd_41 wd_472) rfl rfl rfl (by decide +kernel) ⟨Nat.le_of_ble_eq_true rfl, Nat.le_of_ble_eq_true rfl⟩) hK hN hP hD hS hA [0, 1, 2, 3, 4, 5, 6] [] [0, 1, 2, 3, 4, 5, 6] ⟨rfl, rfl, by decide, rfl, by decide, by decide, rfl, rfl, by decide⟩ (va_recv hK hP (ci := 5) (q0 := 0) rfl rfl) rfl hl.1 rfl (Nat.le_of_ble_eq_true rfl) dXM_kind_3 ⟨Nat.le_of_ble_eq_true rfl, Nat.le_of_ble_eq_true rfl⟩ (fun hz11 H locs hP hD hS => ?_)
      refine lv_if_ne (tgt := 11) hx hb dXM_kind_6 (by decide) (fun c12 => ?_) (fun c12 => ?_)
      · rw [if_neg c12] at hm
        refine lv_aload_n hx hb dXM_kind_11 rfl (lv_at hl 0 rfl) ?_
        obtain ⟨r13, hm13, hm⟩ := kb_s hm
        refine k_vi (As := []) (rest := []) (w2 := (wM q cA N mr zn_11 zs_11 tn_11 ts_11 yn_11 ys_11 en es ew cv)) ⟨hx, hb, hml, hown, hts⟩ (cM_middle l D q cA N H.size mr zn_11 zs_11 tn_11 ts_11 yn_11 ys_11 en es ew cv n r13 hm13) (cwV 0 hts (gV wd_479 wd_480 wd_25 wd_41 wd_481) rfl rfl rfl (by decide +kernel) ⟨Nat.le_of_ble_eq_true rfl, Nat.le_of_ble_eq_true rfl⟩) hK hN hP hD hS hA [0, 1, 2, 3, 4, 5, 6] [] [0, 1, 2, 3, 4, 5, 6] ⟨rfl, rfl, by decide, rfl, by decide, by decide, rfl, rfl, by decide⟩ (va_recv hK hP (ci := 5) (q0 := 0) rfl rfl) rfl hl.1 rfl (Nat.le_of_ble_eq_true rfl) dXM_kind_12 ⟨Nat.le_of_ble_eq_true rfl, Nat.le_of_ble_eq_true rfl⟩ (fun hz13 H locs hP hD hS => ?_)
        refine lv_istore_n (lv' := [(3, .int r13), (0, .ref (q 0)), (1, .int x1), (2, .int x2)]) hx hb dXM_kind_15 rfl hl (by decide) rfl (fun ls hl => ?_)
        refine lv_iload_n hx hb dXM_kind_16 rfl (lv_at hl 0 rfl) ?_
        refine lv_bipush (v := (-2)) hx hb dXM_kind_17 (by decide) ?_
        refine lv_icmp_ne (tgt := 26) hx hb dXM_kind_19 (by decide) (fun c14 => ?_) (fun c14 => ?_)
        · rw [if_neg c14] at hm
          refine lv_iload_n hx hb dXM_kind_26 rfl (lv_at hl 0 rfl) ?_
          refine lv_iconst (v := (-1)) hx hb dXM_kind_27 (by decide) ?_
          refine lv_icmp_ne (tgt := 35) hx hb dXM_kind_28 (by decide) (fun c15 => ?_) (fun c15 => ?_)
          · rw [if_neg c15] at hm
            refine lv_iconst (v := 2) hx hb dXM_kind_35 (by decide) ?_
            cases hm
            exact k_iret hx hb hr hlocks hK hP hD hS trivial dXM_kind_36
          · rw [if_pos c15] at hm
            refine lv_iconst (v := 3) hx hb dXM_kind_31 (by decide) ?_
            refine lv_goto (tgt := 36) hx hb dXM_kind_32 (by decide) ?_
            cases hm
            exact k_iret hx hb hr hlocks hK hP hD hS trivial dXM_kind_36
        · rw [if_pos c14] at hm
          refine lv_iconst (v := 1) hx hb dXM_kind_22 (by decide) ?_
          refine lv_goto (tgt := 36) hx hb dXM_kind_23 (by decide) ?_
          cases hm
          exact k_iret hx hb hr hlocks hK hP hD hS trivial dXM_kind_36
      · rw [if_pos c12] at hm
        refine lv_iconst (v := (-1)) hx hb dXM_kind_9 (by decide) ?_
        cases hm
        exact k_iret hx hb hr hlocks hK hP hD hS trivial dXM_kind_10
  exact key n a1 a2 zn zs tn ts yn ys r zn_1 zs_1 tn_1 ts_1 yn_1 ys_1 s.heap [] ls hm hP hD va_S.rf hl
