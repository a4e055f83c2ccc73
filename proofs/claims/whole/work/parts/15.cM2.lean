set_option maxHeartbeats 4000000 in
set_option maxRecDepth 100000 in
theorem cM_strong (l : Launch) (D : va_G) (q : Nat → Nat) (cA : ClassId) (N : Nat) (sz : Nat) (mr : Nat → Int32) (zn : Int32) (zs : Nat → Int32) (tn : Int32) (ts : Nat → Int32) (yn : Int32) (ys : Nat → Int32) (en : Int32) (es : Nat → Int32) (ew : Int32) (cv : Nat → Int32) (a1 : Int32) (n : Nat) (r : Int32) (zn_1 : Int32) (zs_1 : Nat → Int32) (tn_1 : Int32) (ts_1 : Nat → Int32) (hm : mM_strong N mr n 0 [a1] zn zs tn ts = some (r, zn_1, zs_1, tn_1, ts_1)) : Met l yXM_strong wsXM_strong ({ frames := 2, cells := 0, slots := 0, locals := 51 }) (kPc D cA [.ref (q 0), .int a1] (wM q cA N mr zn zs tn ts yn ys en es ew cv) sz) (kQi D cA kT (va_A (wM q cA N mr zn zs tn ts yn ys en es ew cv) sz) (wM q cA N mr zn_1 zs_1 tn_1 ts_1 yn ys en es ew cv) r) 0 0 (va_A (wM q cA N mr zn zs tn ts yn ys en es ew cv) sz) := by
  refine k_met (D := D) (cA := cA) (w := (wM q cA N mr zn zs tn ts yn ys en es ew cv)) (sz := sz) (av := [.ref (q 0), .int a1]) (cc := cXM_strong) (maxL := 2) (ret := (some .int)) (Qc := fun A => kQi D cA kT A (wM q cA N mr zn_1 zs_1 tn_1 ts_1 yn ys en es ew cv) r) (by decide) rfl (Nat.le_of_ble_eq_true rfl) ?_
  intro p e s m below meth c A ls hX hK hN hA hP hD hl
  obtain ⟨hx, hb, hr, hml, hown, hts, hlocks, -⟩ := hX
  have hown : s.vm.findClass RXM = some m.cls := hown
  have hl : lv_has ls 2 [(0, .ref (q 0)), (1, .int a1)] := hl
  have hts : ∀ w ∈ W0, w.before _ s = true := fun w h => hts w (List.mem_cons_of_mem _ h)
  have key : ∀ n : Nat, (∀ (x1 : Int32) (zn : Int32) (zs : Nat → Int32) (tn : Int32) (ts : Nat → Int32) (r : Int32) (zn_1 : Int32) (zs_1 : Nat → Int32) (tn_1 : Int32) (ts_1 : Nat → Int32) (H : Heap) (locs : List Loc) (ls : Array Slot), mM_strong N mr n 0 [x1] zn zs tn ts = some (r, zn_1, zs_1, tn_1, ts_1) → va_P D vwCl (wM q cA N mr zn zs tn ts yn ys en es ew cv) H → va_D A (wM q cA N mr zn zs tn ts yn ys en es ew cv) → va_S A s.heap H locs → lv_has ls 2 [(0, .ref (q 0)), (1, .int x1)] → W p l e ({ frames := 2, cells := 0, slots := 0, locals := 51 }) s m ([.ref (q 0), .int a1] : List Value).toArray below meth c H locs 0 0 (MQ below (kQi D cA kT A (wM q cA N mr zn_1 zs_1 tn_1 ts_1 yn ys en es ew cv) r) ([.ref (q 0), .int a1] : List Value).toArray s 0 0 A) (F0 m 0 ls [])) := by
    intro n
    induction n with
    | zero => exact (by intros; rename_i h _ _ _ _; rw [mM_strong_z] at h; cases h)
    | succ n ih =>
      have ih0 := ih
      intro x1 zn zs tn ts r zn_1 zs_1 tn_1 ts_1 H locs ls hm hP hD hS hl
      rw [mM_strong_e0] at hm
      refine lv_aload_n hx hb dXM_strong_0 rfl (lv_at hl 0 rfl) ?_
      refine lv_iload_n hx hb dXM_strong_1 rfl (lv_at hl 1 rfl) ?_
      obtain ⟨r11, hm11, hm⟩ := kb_s hm
      refine k_vi (As := [.int x1]) (rest := []) (w2 := (wM q cA N mr zn zs tn ts yn ys en es ew cv)) ⟨hx, hb, hml, hown, hts⟩ (cM_is l D q cA N H.size mr zn zs tn ts yn ys en es ew cv x1 n r11 hm11) (cwV 1 hts (gV wd_421 wd_422 wd_18 wd_41 wd_423) rfl rfl rfl (by decide +kernel) ⟨Nat.le_of_ble_eq_true rfl, Nat.le_of_ble_eq_true rfl⟩) hK hN hP hD hS hA [0, 1, 2, 3, 4, 5, 6] [] [0, 1, 2, 3, 4, 5, 6] ⟨rfl, rfl, by decide, rfl, by decide, by decide, rfl, rfl, by decide⟩ (va_recv hK hP (ci := 5) (q0 := 0) rfl rfl) rfl hl.1 rfl (Nat.le_of_ble_eq_true rfl) dXM_strong_2 ⟨Nat.le_of_ble_eq_true rfl, Nat.le_of_ble_eq_true rfl⟩ (fun hz11 H locs hP hD hS => ?_)
      refine lv_if_ne (tgt := 10) hx hb dXM_strong_5 (by decide) (fun c12 => ?_) (fun c12 => ?_)
      · rw [if_neg c12] at hm
        refine lv_aload_n hx hb dXM_strong_10 rfl (lv_at hl 0 rfl) ?_
        refine lv_aload_n hx hb dXM_strong_11 rfl (lv_at hl 0 rfl) ?_
        refine lv_iload_n hx hb dXM_strong_12 rfl (lv_at hl 1 rfl) ?_
        obtain ⟨r13, hm13, hm⟩ := kb_s hm
        refine k_vi (As := [.int x1]) (rest := [.ref (q 0)]) (w2 := (wM q cA N mr zn zs tn ts yn ys en es ew cv)) ⟨hx, hb, hml, hown, hts⟩ (cM_component l D q cA N H.size mr zn zs tn ts yn ys en es ew cv x1 n r13 hm13) (cwV 1 hts (gV wd_439 wd_429 wd_430 wd_41 wd_431) rfl rfl rfl (by decide +kernel) ⟨Nat.le_of_ble_eq_true rfl, Nat.le_of_ble_eq_true rfl⟩) hK hN hP hD hS hA [0, 1, 2, 3, 4, 5, 6] [] [0, 1, 2, 3, 4, 5, 6] ⟨rfl, rfl, by decide, rfl, by decide, by decide, rfl, rfl, by decide⟩ (va_recv hK hP (ci := 5) (q0 := 0) rfl rfl) rfl hl.1 rfl (Nat.le_of_ble_eq_true rfl) dXM_strong_13 ⟨Nat.le_of_ble_eq_true rfl, Nat.le_of_ble_eq_true rfl⟩ (fun hz13 H locs hP hD hS => ?_)
        obtain ⟨⟨zn_14, zs_14, tn_14, ts_14⟩, hm14, hm⟩ := kb_s hm
        dsimp only at hm
        refine k_vv (As := [.int r13]) (rest := []) (w2 := (wM q cA N mr zn_14 zs_14 tn_14 ts_14 yn ys en es ew cv)) ⟨hx, hb, hml, hown, hts⟩ (cM_find l D q cA N H.size mr zn zs tn ts yn ys en es ew cv r13 n zn_14 zs_14 tn_14 ts_14 hm14) (cwV 1 hts (gV wd_440 wd_441 wd_20 wd_41 wd_442) rfl rfl rfl (by decide +kernel) ⟨Nat.le_of_ble_eq_true rfl, Nat.le_of_ble_eq_true rfl⟩) hK hN hP hD hS hA [0, 1, 2, 3, 4, 5, 6] [] [0, 1, 2, 3, 4, 5, 6] ⟨rfl, rfl, by decide, rfl, by decide, by decide, rfl, rfl, by decide⟩ (va_recv hK hP (ci := 5) (q0 := 0) rfl rfl) rfl hl.1 rfl (Nat.le_of_ble_eq_true rfl) dXM_strong_16 ⟨Nat.le_of_ble_eq_true rfl, Nat.le_of_ble_eq_true rfl⟩ (fun H locs hP hD hS => ?_)
        refine lv_aload_n hx hb dXM_strong_19 rfl (lv_at hl 0 rfl) ?_
        refine va_get (D := D) (ci := 5) (v := .int tn_14) (C := RXM) (T := TXM) (N := 12) hx hb hts hinXM hown hK hP 0 rfl rfl 4 (by decide) (hts _ wd_393) (fun _ h9 => h9) rfl dXM_strong_20 ?_
        cases hm
        exact k_iret hx hb hr hlocks hK hP hD hS trivial dXM_strong_23
      · rw [if_pos c12] at hm
        refine lv_iconst (v := (-1)) hx hb dXM_strong_8 (by decide) ?_
        cases hm
        exact k_iret hx hb hr hlocks hK hP hD hS trivial dXM_strong_9
  exact key n a1 zn zs tn ts r zn_1 zs_1 tn_1 ts_1 s.heap [] ls hm hP hD va_S.rf hl
set_option maxHeartbeats 4000000 in
set_option maxRecDepth 100000 in
theorem cM_nodeSet (l : Launch) (D : va_G) (q : Nat → Nat) (cA : ClassId) (N : Nat) (sz : Nat) (mr : Nat → Int32) (zn : Int32) (zs : Nat → Int32) (tn : Int32) (ts : Nat → Int32) (yn : Int32) (ys : Nat → Int32) (en : Int32) (es : Nat → Int32) (ew : Int32) (cv : Nat → Int32) (a1 a2 : Int32) (n : Nat) (r : Int32) (zn_1 : Int32) (zs_1 : Nat → Int32) (tn_1 : Int32) (ts_1 : Nat → Int32) (hm : mM_nodeSet N mr n 0 [a1, a2] zn zs tn ts = some (r, zn_1, zs_1, tn_1, ts_1)) : Met l yXM_nodeSet wsXM_nodeSet ({ frames := 2, cells := 0, slots := 0, locals := 51 }) (kPc D cA [.ref (q 0), .int a1, .int a2] (wM q cA N mr zn zs tn ts yn ys en es ew cv) sz) (kQi D cA kT (va_A (wM q cA N mr zn zs tn ts yn ys en es ew cv) sz) (wM q cA N mr zn_1 zs_1 tn_1 ts_1 yn ys en es ew cv) r) 0 0 (va_A (wM q cA N mr zn zs tn ts yn ys en es ew cv) sz) := by
  refine k_met (D := D) (cA := cA) (w := (wM q cA N mr zn zs tn ts yn ys en es ew cv)) (sz := sz) (av := [.ref (q 0), .int a1, .int a2]) (cc := cXM_nodeSet) (maxL := 4) (ret := (some .int)) (Qc := fun A => kQi D cA kT A (wM q cA N mr zn_1 zs_1 tn_1 ts_1 yn ys en es ew cv) r) (by decide) rfl (Nat.le_of_ble_eq_true rfl) ?_
  intro p e s m below meth c A ls hX hK hN hA hP hD hl
  obtain ⟨hx, hb, hr, hml, hown, hts, hlocks, -⟩ := hX
  have hown : s.vm.findClass RXM = some m.cls := hown
  have hl : lv_has ls 4 [(0, .ref (q 0)), (1, .int a1), (2, .int a2)] := hl
  have hts : ∀ w ∈ W0, w.before _ s = true := fun w h => hts w (List.mem_cons_of_mem _ h)
  have key : ∀ n : Nat, (∀ (x1 x2 : Int32) (zn : Int32) (zs : Nat → Int32) (tn : Int32) (ts : Nat → Int32) (r : Int32) (zn_1 : Int32) (zs_1 : Nat → Int32) (tn_1 : Int32) (ts_1 : Nat → Int32) (H : Heap) (locs : List Loc) (ls : Array Slot), mM_nodeSet N mr n 0 [x1, x2] zn zs tn ts = some (r, zn_1, zs_1, tn_1, ts_1) → va_P D vwCl (wM q cA N mr zn zs tn ts yn ys en es ew cv) H → va_D A (wM q cA N mr zn zs tn ts yn ys en es ew cv) → va_S A s.heap H locs → lv_has ls 4 [(0, .ref (q 0)), (1, .int x1), (2, .int x2)] → W p l e ({ frames := 2, cells := 0, slots := 0, locals := 51 }) s m ([.ref (q 0), .int a1, .int a2] : List Value).toArray below meth c H locs 0 0 (MQ below (kQi D cA kT A (wM q cA N mr zn_1 zs_1 tn_1 ts_1 yn ys en es ew cv) r) ([.ref (q 0), .int a1, .int a2] : List Value).toArray s 0 0 A) (F0 m 0 ls [])) := by
    intro n
    induction n with
    | zero => exact (by intros; rename_i h _ _ _ _; rw [mM_nodeSet_z] at h; cases h)
    | succ n ih =>
      have ih0 := ih
      intro x1 x2 zn zs tn ts r zn_1 zs_1 tn_1 ts_1 H locs ls hm hP hD hS hl
      rw [mM_nodeSet_e0] at hm
      refine lv_aload_n hx hb dXM_nodeSet_0 rfl (lv_at hl 0 rfl) ?_
      refine lv_iload_n hx hb dXM_nodeSet_1 rfl (lv_at hl 1 rfl) ?_
      obtain ⟨r11, hm11, hm⟩ := kb_s hm
      refine k_vi (As := [.int x1]) (rest := []) (w2 := (wM q cA N mr zn zs tn ts yn ys en es ew cv)) ⟨hx, hb, hml, hown, hts⟩ (cM_is l D q cA N H.size mr zn zs tn ts yn ys en es ew cv x1 n r11 hm11) (cwV 1 hts (gV wd_421 wd_422 wd_18 wd_41 wd_423) rfl rfl rfl (by decide +kernel) ⟨Nat.le_of_ble_eq_true rfl, Nat.le_of_ble_eq_true rfl⟩) hK hN hP hD hS hA [0, 1, 2, 3, 4, 5, 6] [] [0, 1, 2, 3, 4, 5, 6] ⟨rfl, rfl, by decide, rfl, by decide, by decide, rfl, rfl, by decide⟩ (va_recv hK hP (ci := 5) (q0 := 0) rfl rfl) rfl hl.1 rfl (Nat.le_of_ble_eq_true rfl) dXM_nodeSet_2 ⟨Nat.le_of_ble_eq_true rfl, Nat.le_of_ble_eq_true rfl⟩ (fun hz11 H locs hP hD hS => ?_)
      refine lv_if_eq (tgt := 12) hx hb dXM_nodeSet_5 (by decide) (fun c12 => ?_) (fun c12 => ?_)
      · rw [if_pos c12] at hm
        refine lv_iconst (v := (-1)) hx hb dXM_nodeSet_12 (by decide) ?_
        cases hm
        exact k_iret hx hb hr hlocks hK hP hD hS trivial dXM_nodeSet_13
      · rw [if_neg c12] at hm
        refine lv_iload_n hx hb dXM_nodeSet_8 rfl (lv_at hl 2 rfl) ?_
        refine lv_if_ge (tgt := 14) hx hb dXM_nodeSet_9 (by decide) (fun c13 => ?_) (fun c13 => ?_)
        · rw [if_pos c13] at hm
          refine lv_aload_n hx hb dXM_nodeSet_14 rfl (lv_at hl 0 rfl) ?_
          refine lv_iload_n hx hb dXM_nodeSet_15 rfl (lv_at hl 1 rfl) ?_
          obtain ⟨r14, hm14, hm⟩ := kb_s hm
          refine k_vi (As := [.int x1]) (rest := []) (w2 := (wM q cA N mr zn zs tn ts yn ys en es ew cv)) ⟨hx, hb, hml, hown, hts⟩ (cM_component l D q cA N H.size mr zn zs tn ts yn ys en es ew cv x1 n r14 hm14) (cwV 1 hts (gV wd_439 wd_429 wd_430 wd_41 wd_431) rfl rfl rfl (by decide +kernel) ⟨Nat.le_of_ble_eq_true rfl, Nat.le_of_ble_eq_true rfl⟩) hK hN hP hD hS hA [0, 1, 2, 3, 4, 5, 6] [] [0, 1, 2, 3, 4, 5, 6] ⟨rfl, rfl, by decide, rfl, by decide, by decide, rfl, rfl, by decide⟩ (va_recv hK hP (ci := 5) (q0 := 0) rfl rfl) rfl hl.1 rfl (Nat.le_of_ble_eq_true rfl) dXM_nodeSet_16 ⟨Nat.le_of_ble_eq_true rfl, Nat.le_of_ble_eq_true rfl⟩ (fun hz14 H locs hP hD hS => ?_)
          refine lv_istore_n (lv' := [(3, .int r14), (0, .ref (q 0)), (1, .int x1), (2, .int x2)]) hx hb dXM_nodeSet_19 rfl hl (by decide) rfl (fun ls hl => ?_)
          refine lv_aload_n hx hb dXM_nodeSet_20 rfl (lv_at hl 1 rfl) ?_
          refine lv_iload_n hx hb dXM_nodeSet_21 rfl (lv_at hl 0 rfl) ?_
          obtain ⟨⟨zn_15, zs_15, tn_15, ts_15⟩, hm15, hm⟩ := kb_s hm
          dsimp only at hm
          refine k_vv (As := [.int r14]) (rest := []) (w2 := (wM q cA N mr zn_15 zs_15 tn_15 ts_15 yn ys en es ew cv)) ⟨hx, hb, hml, hown, hts⟩ (cM_find l D q cA N H.size mr zn zs tn ts yn ys en es ew cv r14 n zn_15 zs_15 tn_15 ts_15 hm15) (cwV 1 hts (gV wd_440 wd_441 wd_20 wd_41 wd_442) rfl rfl rfl (by decide +kernel) ⟨Nat.le_of_ble_eq_true rfl, Nat.le_of_ble_eq_true rfl⟩) hK hN hP hD hS hA [0, 1, 2, 3, 4, 5, 6] [] [0, 1, 2, 3, 4, 5, 6] ⟨rfl, rfl, by decide, rfl, by decide, by decide, rfl, rfl, by decide⟩ (va_recv hK hP (ci := 5) (q0 := 0) rfl rfl) rfl hl.1 rfl (Nat.le_of_ble_eq_true rfl) dXM_nodeSet_22 ⟨Nat.le_of_ble_eq_true rfl, Nat.le_of_ble_eq_true rfl⟩ (fun H locs hP hD hS => ?_)
          refine lv_iload_n hx hb dXM_nodeSet_25 rfl (lv_at hl 3 rfl) ?_
          refine lv_if_ne (tgt := 33) hx hb dXM_nodeSet_26 (by decide) (fun c16 => ?_) (fun c16 => ?_)
          · rw [if_neg c16] at hm
            refine lv_iload_n hx hb dXM_nodeSet_33 rfl (lv_at hl 3 rfl) ?_
            refine lv_aload_n hx hb dXM_nodeSet_34 rfl (lv_at hl 1 rfl) ?_
            refine va_get (D := D) (ci := 5) (v := .int tn_15) (C := RXM) (T := TXM) (N := 12) hx hb hts hinXM hown hK hP 0 rfl rfl 4 (by decide) (hts _ wd_393) (fun _ h9 => h9) rfl dXM_nodeSet_35 ?_
            refine lv_icmp_gt (tgt := 52) hx hb dXM_nodeSet_38 (by decide) (fun c17 => ?_) (fun c17 => ?_)
            · rw [if_pos c17] at hm
              refine lv_iconst (v := (-1)) hx hb dXM_nodeSet_52 (by decide) ?_
              cases hm
              exact k_iret hx hb hr hlocks hK hP hD hS trivial dXM_nodeSet_53
            · rw [if_neg c17] at hm
              refine lv_aload_n hx hb dXM_nodeSet_41 rfl (lv_at hl 1 rfl) ?_
              refine va_get (D := D) (ci := 5) (v := .ref (q 3)) (C := RXM) (T := TXM) (N := 12) hx hb hts hinXM hown hK hP 0 rfl rfl 5 (by decide) (hts _ wd_394) (fun _ h9 => h9) rfl dXM_nodeSet_42 ?_
              refine lv_iload_n hx hb dXM_nodeSet_45 rfl (lv_at hl 3 rfl) ?_
              refine lv_iconst (v := 1) hx hb dXM_nodeSet_46 (by decide) ?_
              refine lv_isub hx hb dXM_nodeSet_47 ?_
              obtain ⟨hg18, hm⟩ := kg_s hm
              refine va_iald hx hb hK hP 3 0 rfl rfl hg18 dXM_nodeSet_48 ?_
              refine lv_goto (tgt := 53) hx hb dXM_nodeSet_49 (by decide) ?_
              cases hm
              exact k_iret hx hb hr hlocks hK hP hD hS trivial dXM_nodeSet_53
          · rw [if_pos c16] at hm
            refine lv_iload_n hx hb dXM_nodeSet_29 rfl (lv_at hl 0 rfl) ?_
            refine lv_goto (tgt := 53) hx hb dXM_nodeSet_30 (by decide) ?_
            cases hm
            exact k_iret hx hb hr hlocks hK hP hD hS trivial dXM_nodeSet_53
        · rw [if_neg c13] at hm
          refine lv_iconst (v := (-1)) hx hb dXM_nodeSet_12 (by decide) ?_
          cases hm
          exact k_iret hx hb hr hlocks hK hP hD hS trivial dXM_nodeSet_13
  exact key n a1 a2 zn zs tn ts r zn_1 zs_1 tn_1 ts_1 s.heap [] ls hm hP hD va_S.rf hl
set_option maxHeartbeats 4000000 in
set_option maxRecDepth 100000 in
theorem cM_set (l : Launch) (D : va_G) (q : Nat → Nat) (cA : ClassId) (N : Nat) (sz : Nat) (mr : Nat → Int32) (zn : Int32) (zs : Nat → Int32) (tn : Int32) (ts : Nat → Int32) (yn : Int32) (ys : Nat → Int32) (en : Int32) (es : Nat → Int32) (ew : Int32) (cv : Nat → Int32) (a1 a2 : Int32) (n : Nat) (r : Int32) (zn_1 : Int32) (zs_1 : Nat → Int32) (tn_1 : Int32) (ts_1 : Nat → Int32) (hm : mM_set N mr n 0 [a1, a2] zn zs tn ts = some (r, zn_1, zs_1, tn_1, ts_1)) : Met l yXM_set wsXM_set ({ frames := 3, cells := 0, slots := 0, locals := 74 }) (kPc D cA [.ref (q 0), .int a1, .int a2] (wM q cA N mr zn zs tn ts yn ys en es ew cv) sz) (kQi D cA kT (va_A (wM q cA N mr zn zs tn ts yn ys en es ew cv) sz) (wM q cA N mr zn_1 zs_1 tn_1 ts_1 yn ys en es ew cv) r) 0 0 (va_A (wM q cA N mr zn zs tn ts yn ys en es ew cv) sz) := by
  refine k_met (D := D) (cA := cA) (w := (wM q cA N mr zn zs tn ts yn ys en es ew cv)) (sz := sz) (av := [.ref (q 0), .int a1, .int a2]) (cc := cXM_set) (maxL := 3) (ret := (some .int)) (Qc := fun A => kQi D cA kT A (wM q cA N mr zn_1 zs_1 tn_1 ts_1 yn ys en es ew cv) r) (by decide) rfl (Nat.le_of_ble_eq_true rfl) ?_
  intro p e s m below meth c A ls hX hK hN hA hP hD hl
  obtain ⟨hx, hb, hr, hml, hown, hts, hlocks, -⟩ := hX
  have hown : s.vm.findClass RXM = some m.cls := hown
  have hl : lv_has ls 3 [(0, .ref (q 0)), (1, .int a1), (2, .int a2)] := hl
  have hts : ∀ w ∈ W0, w.before _ s = true := fun w h => hts w (List.mem_cons_of_mem _ h)
  have key : ∀ n : Nat, (∀ (x1 x2 : Int32) (zn : Int32) (zs : Nat → Int32) (tn : Int32) (ts : Nat → Int32) (r : Int32) (zn_1 : Int32) (zs_1 : Nat → Int32) (tn_1 : Int32) (ts_1 : Nat → Int32) (H : Heap) (locs : List Loc) (ls : Array Slot), mM_set N mr n 0 [x1, x2] zn zs tn ts = some (r, zn_1, zs_1, tn_1, ts_1) → va_P D vwCl (wM q cA N mr zn zs tn ts yn ys en es ew cv) H → va_D A (wM q cA N mr zn zs tn ts yn ys en es ew cv) → va_S A s.heap H locs → lv_has ls 3 [(0, .ref (q 0)), (1, .int x1), (2, .int x2)] → W p l e ({ frames := 3, cells := 0, slots := 0, locals := 74 }) s m ([.ref (q 0), .int a1, .int a2] : List Value).toArray below meth c H locs 0 0 (MQ below (kQi D cA kT A (wM q cA N mr zn_1 zs_1 tn_1 ts_1 yn ys en es ew cv) r) ([.ref (q 0), .int a1, .int a2] : List Value).toArray s 0 0 A) (F0 m 0 ls [])) := by
    intro n
    induction n with
    | zero => exact (by intros; rename_i h _ _ _ _; rw [mM_set_z] at h; cases h)
    | succ n ih =>
      have ih0 := ih
      intro x1 x2 zn zs tn ts r zn_1 zs_1 tn_1 ts_1 H locs ls hm hP hD hS hl
      rw [mM_set_e0] at hm
      refine lv_aload_n hx hb dXM_set_0 rfl (lv_at hl 0 rfl) ?_
      refine lv_iload_n hx hb dXM_set_1 rfl (lv_at hl 1 rfl) ?_
      refine lv_iload_n hx hb dXM_set_2 rfl (lv_at hl 2 rfl) ?_
      obtain ⟨⟨r11, zn_11, zs_11, tn_11, ts_11⟩, hm11, hm⟩ := kb_s hm
      dsimp only at hm
      refine k_vi (As := [.int x1, .int x2]) (rest := []) (w2 := (wM q cA N mr zn_11 zs_11 tn_11 ts_11 yn ys en es ew cv)) ⟨hx, hb, hml, hown, hts⟩ (cM_nodeSet l D q cA N H.size mr zn zs tn ts yn ys en es ew cv x1 x2 n r11 zn_11 zs_11 tn_11 ts_11 hm11) (cwV 2 hts (gV wd_463 wd_464 wd_22 wd_41 wd_465) rfl rfl rfl (by decide +kernel) ⟨Nat.le_of_ble_eq_true rfl, Nat.le_of_ble_eq_true rfl⟩) hK hN hP hD hS hA [0, 1, 2, 3, 4, 5, 6] [] [0, 1, 2, 3, 4, 5, 6] ⟨rfl, rfl, by decide, rfl, by decide, by decide, rfl, rfl, by decide⟩ (va_recv hK hP (ci := 5) (q0 := 0) rfl rfl) rfl hl.1 rfl (Nat.le_of_ble_eq_true rfl) dXM_set_3 ⟨Nat.le_of_ble_eq_true rfl, Nat.le_of_ble_eq_true rfl⟩ (fun hz11 H locs hP hD hS => ?_)
      cases hm
      exact k_iret hx hb hr hlocks hK hP hD hS trivial dXM_set_6
  exact key n a1 a2 zn zs tn ts r zn_1 zs_1 tn_1 ts_1 s.heap [] ls hm hP hD va_S.rf hl
set_option maxHeartbeats 4000000 in
set_option maxRecDepth 100000 in
theorem cM_inside (l : Launch) (D : va_G) (cA : ClassId) (sz : Nat) (a0 a1 : Int32) (n : Nat) (r : Int32) (hm : mM_inside n 0 [a0, a1] = some r) : Met l yXM_inside wsXM_inside ({ frames := 0, cells := 0, slots := 0, locals := 0 }) (kPc D cA [.int a0, .int a1] [] sz) (kQi D cA kB (va_A [] sz) [] r) 0 0 (va_A [] sz) := by
  refine k_met (D := D) (cA := cA) (w := []) (sz := sz) (av := [.int a0, .int a1]) (cc := cXM_inside) (maxL := 2) (ret := (some .boolean)) (Qc := fun A => kQi D cA kB A [] r) (by decide) rfl (Nat.le_of_ble_eq_true rfl) ?_
  intro p e s m below meth c A ls hX hK hN hA hP hD hl
  obtain ⟨hx, hb, hr, hml, hown, hts, hlocks, -⟩ := hX
  have hown : s.vm.findClass RXM = some m.cls := hown
  have hl : lv_has ls 2 [(0, .int a0), (1, .int a1)] := hl
  have hts : ∀ w ∈ W0, w.before _ s = true := fun w h => hts w (List.mem_cons_of_mem _ h)
  have key : ∀ n : Nat, (∀ (x0 x1 : Int32) (r : Int32) (H : Heap) (locs : List Loc) (ls : Array Slot), mM_inside n 0 [x0, x1] = some r → va_P D vwCl [] H → va_D A [] → va_S A s.heap H locs → lv_has ls 2 [(0, .int x0), (1, .int x1)] → W p l e ({ frames := 0, cells := 0, slots := 0, locals := 0 }) s m ([.int a0, .int a1] : List Value).toArray below meth c H locs 0 0 (MQ below (kQi D cA kB A [] r) ([.int a0, .int a1] : List Value).toArray s 0 0 A) (F0 m 0 ls [])) := by
    intro n
    induction n with
    | zero => exact (by intros; rename_i h _ _ _ _; rw [mM_inside_z] at h; cases h)
    | succ n ih =>
      have ih0 := ih
      intro x0 x1 r H locs ls hm hP hD hS hl
      rw [mM_inside_e0] at hm
      refine lv_iload_n hx hb dXM_inside_0 rfl (lv_at hl 0 rfl) ?_
      refine lv_iload_n hx hb dXM_inside_1 rfl (lv_at hl 1 rfl) ?_
      refine lv_icmp_eq (tgt := 17) hx hb dXM_inside_2 (by decide) (fun c11 => ?_) (fun c11 => ?_)
      · rw [if_pos c11] at hm
        refine lv_iconst (v := 0) hx hb dXM_inside_17 (by decide) ?_
        cases hm
        exact k_zret hx hb hr hlocks hK hP hD hS (Or.inl rfl) dXM_inside_18
      · rw [if_neg c11] at hm
        refine lv_iload_n hx hb dXM_inside_5 rfl (lv_at hl 0 rfl) ?_
        refine lv_iload_n hx hb dXM_inside_6 rfl (lv_at hl 1 rfl) ?_
        refine lv_iconst (v := (-1)) hx hb dXM_inside_7 (by decide) ?_
        refine lv_ixor hx hb dXM_inside_8 ?_
        refine lv_iand hx hb dXM_inside_9 ?_
        refine lv_if_ne (tgt := 17) hx hb dXM_inside_10 (by decide) (fun c12 => ?_) (fun c12 => ?_)
        · rw [if_neg c12] at hm
          refine lv_iconst (v := 0) hx hb dXM_inside_17 (by decide) ?_
          cases hm
          exact k_zret hx hb hr hlocks hK hP hD hS (Or.inl rfl) dXM_inside_18
        · rw [if_pos c12] at hm
          refine lv_iconst (v := 1) hx hb dXM_inside_13 (by decide) ?_
          refine lv_goto (tgt := 18) hx hb dXM_inside_14 (by decide) ?_
          cases hm
          exact k_zret hx hb hr hlocks hK hP hD hS (Or.inr rfl) dXM_inside_18
  exact key n a0 a1 r s.heap [] ls hm hP hD va_S.rf hl
set_option maxHeartbeats 4000000 in
set_option maxRecDepth 100000 in
theorem cM_isPart (l : Launch) (D : va_G) (q : Nat → Nat) (cA : ClassId) (N : Nat) (sz : Nat) (mr : Nat → Int32) (zn : Int32) (zs : Nat → Int32) (tn : Int32) (ts : Nat → Int32) (yn : Int32) (ys : Nat → Int32) (en : Int32) (es : Nat → Int32) (ew : Int32) (cv : Nat → Int32) (a1 a2 a3 a4 : Int32) (n : Nat) (r : Int32) (hm : mM_isPart N tn ts n 0 [a1, a2, a3, a4] = some r) : Met l yXM_isPart wsXM_isPart ({ frames := 1, cells := 0, slots := 0, locals := 22 }) (kPc D cA [.ref (q 0), .int a1, .int a2, .int a3, .int a4] (wM q cA N mr zn zs tn ts yn ys en es ew cv) sz) (kQi D cA kB (va_A (wM q cA N mr zn zs tn ts yn ys en es ew cv) sz) (wM q cA N mr zn zs tn ts yn ys en es ew cv) r) 0 0 (va_A (wM q cA N mr zn zs tn ts yn ys en es ew cv) sz) := by
  refine k_met (D := D) (cA := cA) (w := (wM q cA N mr zn zs tn ts yn ys en es ew cv)) (sz := sz) (av := [.ref (q 0), .int a1, .int a2, .int a3, .int a4]) (cc := cXM_isPart) (maxL := 10) (ret := (some .boolean)) (Qc := fun A => kQi D cA kB A (wM q cA N mr zn zs tn ts yn ys en es ew cv) r) (by decide) rfl (Nat.le_of_ble_eq_true rfl) ?_
  intro p e s m below meth c A ls hX hK hN hA hP hD hl
  obtain ⟨hx, hb, hr, hml, hown, hts, hlocks, -⟩ := hX
  have hown : s.vm.findClass RXM = some m.cls := hown
  have hl : lv_has ls 10 [(0, .ref (q 0)), (1, .int a1), (2, .int a2), (3, .int a3), (4, .int a4)] := hl
  have hts : ∀ w ∈ W0, w.before _ s = true := fun w h => hts w (List.mem_cons_of_mem _ h)
  have key : ∀ n : Nat, (∀ (x1 x2 x3 x4 : Int32) (r : Int32) (H : Heap) (locs : List Loc) (ls : Array Slot), mM_isPart N tn ts n 0 [x1, x2, x3, x4] = some r → va_P D vwCl (wM q cA N mr zn zs tn ts yn ys en es ew cv) H → va_D A (wM q cA N mr zn zs tn ts yn ys en es ew cv) → va_S A s.heap H locs → lv_has ls 10 [(0, .ref (q 0)), (1, .int x1), (2, .int x2), (3, .int x3), (4, .int x4)] → W p l e ({ frames := 1, cells := 0, slots := 0, locals := 22 }) s m ([.ref (q 0), .int a1, .int a2, .int a3, .int a4] : List Value).toArray below meth c H locs 0 0 (MQ below (kQi D cA kB A (wM q cA N mr zn zs tn ts yn ys en es ew cv) r) ([.ref (q 0), .int a1, .int a2, .int a3, .int a4] : List Value).toArray s 0 0 A) (F0 m 0 ls [])) ∧
    (∀ (x1 x2 : Int32) (r : Int32) (H : Heap) (locs : List Loc) (ls : Array Slot), mM_isPart N tn ts n 1 [x1, x2] = some r → va_P D vwCl (wM q cA N mr zn zs tn ts yn ys en es ew cv) H → va_D A (wM q cA N mr zn zs tn ts yn ys en es ew cv) → va_S A s.heap H locs → lv_has ls 10 [(0, .ref (q 0)), (1, .int x1), (2, .int x2)] → W p l e ({ frames := 1, cells := 0, slots := 0, locals := 22 }) s m ([.ref (q 0), .int a1, .int a2, .int a3, .int a4] : List Value).toArray below meth c H locs 0 0 (MQ below (kQi D cA kB A (wM q cA N mr zn zs tn ts yn ys en es ew cv) r) ([.ref (q 0), .int a1, .int a2, .int a3, .int a4] : List Value).toArray s 0 0 A) (F0 m 16 ls [])) ∧
    (∀ (x1 x2 : Int32) (r : Int32) (H : Heap) (locs : List Loc) (ls : Array Slot), mM_isPart N tn ts n 2 [x1, x2] = some r → va_P D vwCl (wM q cA N mr zn zs tn ts yn ys en es ew cv) H → va_D A (wM q cA N mr zn zs tn ts yn ys en es ew cv) → va_S A s.heap H locs → lv_has ls 10 [(0, .ref (q 0)), (1, .int x1), (2, .int x2)] → W p l e ({ frames := 1, cells := 0, slots := 0, locals := 22 }) s m ([.ref (q 0), .int a1, .int a2, .int a3, .int a4] : List Value).toArray below meth c H locs 0 0 (MQ below (kQi D cA kB A (wM q cA N mr zn zs tn ts yn ys en es ew cv) r) ([.ref (q 0), .int a1, .int a2, .int a3, .int a4] : List Value).toArray s 0 0 A) (F0 m 34 ls [])) ∧
    (∀ (x1 x2 y0 : Int32) (r : Int32) (H : Heap) (locs : List Loc) (ls : Array Slot), mM_isPart N tn ts n 3 [x1, x2, y0] = some r → va_P D vwCl (wM q cA N mr zn zs tn ts yn ys en es ew cv) H → va_D A (wM q cA N mr zn zs tn ts yn ys en es ew cv) → va_S A s.heap H locs → lv_has ls 10 [(0, .ref (q 0)), (1, .int x1), (2, .int x2)] → W p l e ({ frames := 1, cells := 0, slots := 0, locals := 22 }) s m ([.ref (q 0), .int a1, .int a2, .int a3, .int a4] : List Value).toArray below meth c H locs 0 0 (MQ below (kQi D cA kB A (wM q cA N mr zn zs tn ts yn ys en es ew cv) r) ([.ref (q 0), .int a1, .int a2, .int a3, .int a4] : List Value).toArray s 0 0 A) (F0 m 35 ls [.int y0])) ∧
    (∀ (x1 x2 x5 x6 x7 x8 : Int32) (r : Int32) (H : Heap) (locs : List Loc) (ls : Array Slot), mM_isPart N tn ts n 4 [x1, x2, x5, x6, x7, x8] = some r → va_P D vwCl (wM q cA N mr zn zs tn ts yn ys en es ew cv) H → va_D A (wM q cA N mr zn zs tn ts yn ys en es ew cv) → va_S A s.heap H locs → lv_has ls 10 [(0, .ref (q 0)), (1, .int x1), (2, .int x2), (5, .int x5), (6, .int x6), (7, .int x7), (8, .int x8)] → W p l e ({ frames := 1, cells := 0, slots := 0, locals := 22 }) s m ([.ref (q 0), .int a1, .int a2, .int a3, .int a4] : List Value).toArray below meth c H locs 0 0 (MQ below (kQi D cA kB A (wM q cA N mr zn zs tn ts yn ys en es ew cv) r) ([.ref (q 0), .int a1, .int a2, .int a3, .int a4] : List Value).toArray s 0 0 A) (F0 m 46 ls [])) ∧
    (∀ (x1 x2 x5 x7 x8 x9 : Int32) (r : Int32) (H : Heap) (locs : List Loc) (ls : Array Slot), mM_isPart N tn ts n 5 [x1, x2, x5, x7, x8, x9] = some r → va_P D vwCl (wM q cA N mr zn zs tn ts yn ys en es ew cv) H → va_D A (wM q cA N mr zn zs tn ts yn ys en es ew cv) → va_S A s.heap H locs → lv_has ls 10 [(0, .ref (q 0)), (1, .int x1), (2, .int x2), (5, .int x5), (7, .int x7), (8, .int x8), (9, .int x9)] → W p l e ({ frames := 1, cells := 0, slots := 0, locals := 22 }) s m ([.ref (q 0), .int a1, .int a2, .int a3, .int a4] : List Value).toArray below meth c H locs 0 0 (MQ below (kQi D cA kB A (wM q cA N mr zn zs tn ts yn ys en es ew cv) r) ([.ref (q 0), .int a1, .int a2, .int a3, .int a4] : List Value).toArray s 0 0 A) (F0 m 89 ls [])) ∧
    (∀ (x1 x2 x5 x7 x8 x9 : Int32) (r : Int32) (H : Heap) (locs : List Loc) (ls : Array Slot), mM_isPart N tn ts n 6 [x1, x2, x5, x7, x8, x9] = some r → va_P D vwCl (wM q cA N mr zn zs tn ts yn ys en es ew cv) H → va_D A (wM q cA N mr zn zs tn ts yn ys en es ew cv) → va_S A s.heap H locs → lv_has ls 10 [(0, .ref (q 0)), (1, .int x1), (2, .int x2), (5, .int x5), (7, .int x7), (8, .int x8), (9, .int x9)] → W p l e ({ frames := 1, cells := 0, slots := 0, locals := 22 }) s m ([.ref (q 0), .int a1, .int a2, .int a3, .int a4] : List Value).toArray below meth c H locs 0 0 (MQ below (kQi D cA kB A (wM q cA N mr zn zs tn ts yn ys en es ew cv) r) ([.ref (q 0), .int a1, .int a2, .int a3, .int a4] : List Value).toArray s 0 0 A) (F0 m 93 ls [])) ∧
    (∀ (x1 x2 x5 x7 x8 x9 y0 : Int32) (r : Int32) (H : Heap) (locs : List Loc) (ls : Array Slot), mM_isPart N tn ts n 7 [x1, x2, x5, x7, x8, x9, y0] = some r → va_P D vwCl (wM q cA N mr zn zs tn ts yn ys en es ew cv) H → va_D A (wM q cA N mr zn zs tn ts yn ys en es ew cv) → va_S A s.heap H locs → lv_has ls 10 [(0, .ref (q 0)), (1, .int x1), (2, .int x2), (5, .int x5), (7, .int x7), (8, .int x8), (9, .int x9)] → W p l e ({ frames := 1, cells := 0, slots := 0, locals := 22 }) s m ([.ref (q 0), .int a1, .int a2, .int a3, .int a4] : List Value).toArray below meth c H locs 0 0 (MQ below (kQi D cA kB A (wM q cA N mr zn zs tn ts yn ys en es ew cv) r) ([.ref (q 0), .int a1, .int a2, .int a3, .int a4] : List Value).toArray s 0 0 A) (F0 m 94 ls [.int y0])) ∧
    (∀ (x1 x2 x5 x6 x8 : Int32) (r : Int32) (H : Heap) (locs : List Loc) (ls : Array Slot), mM_isPart N tn ts n 8 [x1, x2, x5, x6, x8] = some r → va_P D vwCl (wM q cA N mr zn zs tn ts yn ys en es ew cv) H → va_D A (wM q cA N mr zn zs tn ts yn ys en es ew cv) → va_S A s.heap H locs → lv_has ls 10 [(0, .ref (q 0)), (1, .int x1), (2, .int x2), (5, .int x5), (6, .int x6), (8, .int x8)] → W p l e ({ frames := 1, cells := 0, slots := 0, locals := 22 }) s m ([.ref (q 0), .int a1, .int a2, .int a3, .int a4] : List Value).toArray below meth c H locs 0 0 (MQ below (kQi D cA kB A (wM q cA N mr zn zs tn ts yn ys en es ew cv) r) ([.ref (q 0), .int a1, .int a2, .int a3, .int a4] : List Value).toArray s 0 0 A) (F0 m 120 ls [])) ∧
    (∀ (x1 x2 x5 x6 x8 : Int32) (r : Int32) (H : Heap) (locs : List Loc) (ls : Array Slot), mM_isPart N tn ts n 9 [x1, x2, x5, x6, x8] = some r → va_P D vwCl (wM q cA N mr zn zs tn ts yn ys en es ew cv) H → va_D A (wM q cA N mr zn zs tn ts yn ys en es ew cv) → va_S A s.heap H locs → lv_has ls 10 [(0, .ref (q 0)), (1, .int x1), (2, .int x2), (5, .int x5), (6, .int x6), (8, .int x8)] → W p l e ({ frames := 1, cells := 0, slots := 0, locals := 22 }) s m ([.ref (q 0), .int a1, .int a2, .int a3, .int a4] : List Value).toArray below meth c H locs 0 0 (MQ below (kQi D cA kB A (wM q cA N mr zn zs tn ts yn ys en es ew cv) r) ([.ref (q 0), .int a1, .int a2, .int a3, .int a4] : List Value).toArray s 0 0 A) (F0 m 124 ls [])) ∧
    (∀ (x7 : Int32) (r : Int32) (H : Heap) (locs : List Loc) (ls : Array Slot), mM_isPart N tn ts n 10 [x7] = some r → va_P D vwCl (wM q cA N mr zn zs tn ts yn ys en es ew cv) H → va_D A (wM q cA N mr zn zs tn ts yn ys en es ew cv) → va_S A s.heap H locs → lv_has ls 10 [(7, .int x7)] → W p l e ({ frames := 1, cells := 0, slots := 0, locals := 22 }) s m ([.ref (q 0), .int a1, .int a2, .int a3, .int a4] : List Value).toArray below meth c H locs 0 0 (MQ below (kQi D cA kB A (wM q cA N mr zn zs tn ts yn ys en es ew cv) r) ([.ref (q 0), .int a1, .int a2, .int a3, .int a4] : List Value).toArray s 0 0 A) (F0 m 143 ls [])) := by
    intro n
    induction n with
    | zero => exact ⟨(by intros; rename_i h _ _ _ _; rw [mM_isPart_z] at h; cases h), (by intros; rename_i h _ _ _ _; rw [mM_isPart_z] at h; cases h), (by intros; rename_i h _ _ _ _; rw [mM_isPart_z] at h; cases h), (by intros; rename_i h _ _ _ _; rw [mM_isPart_z] at h; cases h), (by intros; rename_i h _ _ _ _; rw [mM_isPart_z] at h; cases h), (by intros; rename_i h _ _ _ _; rw [mM_isPart_z] at h; cases h), (by intros; rename_i h _ _ _ _; rw [mM_isPart_z] at h; cases h), (by intros; rename_i h _ _ _ _; rw [mM_isPart_z] at h; cases h), (by intros; rename_i h _ _ _ _; rw [mM_isPart_z] at h; cases h), (by intros; rename_i h _ _ _ _; rw [mM_isPart_z] at h; cases h), (by intros; rename_i h _ _ _ _; rw [mM_isPart_z] at h; cases h)⟩
    | succ n ih =>
      obtain ⟨ih0, ih1, ih2, ih3, ih4, ih5, ih6, ih7, ih8, ih9, ih10⟩ := ih
      refine ⟨?_, ?_, ?_, ?_, ?_, ?_, ?_, ?_, ?_, ?_, ?_⟩
      · intro x1 x2 x3 x4 r H locs ls hm hP hD hS hl
        rw [mM_isPart_e0] at hm
        refine lv_iload hx hb dXM_isPart_0 (lv_at hl 4 rfl) ?_
        refine lv_if_ne (tgt := 16) hx hb dXM_isPart_2 (by decide) (fun c11 => ?_) (fun c11 => ?_)
        · rw [if_neg c11] at hm
          exact ih1 x1 x2 _ H locs ls hm hP hD hS (lv_sub hl [0, 1, 2] rfl)
        · rw [if_pos c11] at hm
          refine lv_iload_n hx hb dXM_isPart_5 rfl (lv_at hl 1 rfl) ?_
          refine lv_iload_n hx hb dXM_isPart_6 rfl (lv_at hl 3 rfl) ?_
          refine lv_iload_n hx hb dXM_isPart_7 rfl (lv_at hl 2 rfl) ?_
          refine lv_iconst (v := (-1)) hx hb dXM_isPart_8 (by decide) ?_
          refine lv_ixor hx hb dXM_isPart_9 ?_
          refine lv_iand hx hb dXM_isPart_10 ?_
          refine lv_icmp_ne (tgt := 16) hx hb dXM_isPart_11 (by decide) (fun c12 => ?_) (fun c12 => ?_)
          · rw [if_neg c12] at hm
            exact ih1 x1 x2 _ H locs ls hm hP hD hS (lv_sub hl [0, 1, 2] rfl)
          · rw [if_pos c12] at hm
            refine lv_iconst (v := 1) hx hb dXM_isPart_14 (by decide) ?_
            cases hm
            exact k_zret hx hb hr hlocks hK hP hD hS (Or.inr rfl) dXM_isPart_15
      · intro x1 x2 r H locs ls hm hP hD hS hl
        rw [mM_isPart_e1] at hm
        refine lv_iload_n hx hb dXM_isPart_16 rfl (lv_at hl 1 rfl) ?_
        obtain ⟨r111, hm111, hm⟩ := kb_s hm
        refine k_s0 (As := [.int x1]) (rest := []) ⟨hx, hb, hml, hown, hts⟩ (cM_size l D cA H.size x1 n r111 hm111) (cwS 1 hts (gS wd_446 wd_447 wd_41 wd_448) rfl rfl rfl (by decide +kernel) ⟨Nat.le_of_ble_eq_true rfl, Nat.le_of_ble_eq_true rfl⟩) hK hN hP hD hS hA rfl hl.1 rfl (Nat.le_of_ble_eq_true rfl) dXM_isPart_17 ⟨Nat.le_of_ble_eq_true rfl, Nat.le_of_ble_eq_true rfl⟩ (fun hz111 H locs hP hD hS => ?_)
        refine lv_iconst (v := 1) hx hb dXM_isPart_20 (by decide) ?_
        refine lv_icmp_ne (tgt := 34) hx hb dXM_isPart_21 (by decide) (fun c112 => ?_) (fun c112 => ?_)
        · rw [if_neg c112] at hm
          exact ih2 x1 x2 _ H locs ls hm hP hD hS (lv_sub hl [0, 1, 2] rfl)
        · rw [if_pos c112] at hm
          refine lv_iload_n hx hb dXM_isPart_24 rfl (lv_at hl 1 rfl) ?_
          refine lv_iload_n hx hb dXM_isPart_25 rfl (lv_at hl 2 rfl) ?_
          refine lv_iand hx hb dXM_isPart_26 ?_
          refine lv_if_eq (tgt := 34) hx hb dXM_isPart_27 (by decide) (fun c113 => ?_) (fun c113 => ?_)
          · rw [if_pos c113] at hm
            exact ih2 x1 x2 _ H locs ls hm hP hD hS (lv_sub hl [0, 1, 2] rfl)
          · rw [if_neg c113] at hm
            refine lv_iconst (v := 1) hx hb dXM_isPart_30 (by decide) ?_
            refine lv_goto (tgt := 35) hx hb dXM_isPart_31 (by decide) ?_
            exact ih3 x1 x2 1 _ H locs ls hm hP hD hS (lv_sub hl [0, 1, 2] rfl)
      · intro x1 x2 r H locs ls hm hP hD hS hl
        rw [mM_isPart_e2] at hm
        refine lv_iconst (v := 0) hx hb dXM_isPart_34 (by decide) ?_
        exact ih3 x1 x2 0 _ H locs ls hm hP hD hS (lv_sub hl [0, 1, 2] rfl)
      · intro x1 x2 y0 r H locs ls hm hP hD hS hl
        rw [mM_isPart_e3] at hm
        refine lv_istore (lv' := [(5, .int y0), (0, .ref (q 0)), (1, .int x1), (2, .int x2)]) hx hb dXM_isPart_35 hl (by decide) rfl (fun ls hl => ?_)
        refine lv_iconst (v := 0) hx hb dXM_isPart_37 (by decide) ?_
        refine lv_istore (lv' := [(6, .int 0), (5, .int y0), (0, .ref (q 0)), (1, .int x1), (2, .int x2)]) hx hb dXM_isPart_38 hl (by decide) rfl (fun ls hl => ?_)
        refine lv_iconst (v := 0) hx hb dXM_isPart_40 (by decide) ?_
        refine lv_istore (lv' := [(7, .int 0), (6, .int 0), (5, .int y0), (0, .ref (q 0)), (1, .int x1), (2, .int x2)]) hx hb dXM_isPart_41 hl (by decide) rfl (fun ls hl => ?_)
        refine lv_iconst (v := 0) hx hb dXM_isPart_43 (by decide) ?_
        refine lv_istore (lv' := [(8, .int 0), (7, .int 0), (6, .int 0), (5, .int y0), (0, .ref (q 0)), (1, .int x1), (2, .int x2)]) hx hb dXM_isPart_44 hl (by decide) rfl (fun ls hl => ?_)
        exact ih4 x1 x2 y0 0 0 0 _ H locs ls hm hP hD hS (lv_sub hl [4, 5, 6, 3, 2, 1, 0] rfl)
      · intro x1 x2 x5 x6 x7 x8 r H locs ls hm hP hD hS hl
        rw [mM_isPart_e4] at hm
        refine lv_iload hx hb dXM_isPart_46 (lv_at hl 6 rfl) ?_
        refine lv_aload_n hx hb dXM_isPart_48 rfl (lv_at hl 0 rfl) ?_
        refine va_get (D := D) (ci := 5) (v := .int tn) (C := RXM) (T := TXM) (N := 12) hx hb hts hinXM hown hK hP 0 rfl rfl 4 (by decide) (hts _ wd_393) (fun _ h9 => h9) rfl dXM_isPart_49 ?_
        refine lv_icmp_ge (tgt := 133) hx hb dXM_isPart_52 (by decide) (fun c411 => ?_) (fun c411 => ?_)
        · rw [if_pos c411] at hm
          refine lv_iload hx hb dXM_isPart_133 (lv_at hl 3 rfl) ?_
          refine lv_if_ne (tgt := 143) hx hb dXM_isPart_135 (by decide) (fun c412 => ?_) (fun c412 => ?_)
          · rw [if_neg c412] at hm
            exact ih10 x7 _ H locs ls hm hP hD hS (lv_sub hl [5] rfl)
          · rw [if_pos c412] at hm
            refine lv_iload hx hb dXM_isPart_138 (lv_at hl 4 rfl) ?_
            refine lv_if_eq (tgt := 152) hx hb dXM_isPart_140 (by decide) (fun c413 => ?_) (fun c413 => ?_)
            · rw [if_pos c413] at hm
              refine lv_iconst (v := 0) hx hb dXM_isPart_152 (by decide) ?_
              cases hm
              exact k_zret hx hb hr hlocks hK hP hD hS (Or.inl rfl) dXM_isPart_153
            · rw [if_neg c413] at hm
              exact ih10 x7 _ H locs ls hm hP hD hS (lv_sub hl [5] rfl)
        · rw [if_neg c411] at hm
          refine lv_aload_n hx hb dXM_isPart_55 rfl (lv_at hl 0 rfl) ?_
          refine va_get (D := D) (ci := 5) (v := .ref (q 3)) (C := RXM) (T := TXM) (N := 12) hx hb hts hinXM hown hK hP 0 rfl rfl 5 (by decide) (hts _ wd_394) (fun _ h9 => h9) rfl dXM_isPart_56 ?_
          refine lv_iload hx hb dXM_isPart_59 (lv_at hl 6 rfl) ?_
          obtain ⟨hg414, hm⟩ := kg_s hm
          refine va_iald hx hb hK hP 3 0 rfl rfl hg414 dXM_isPart_61 ?_
          refine lv_iload_n hx hb dXM_isPart_62 rfl (lv_at hl 2 rfl) ?_
          obtain ⟨r415, hm415, hm⟩ := kb_s hm
          refine k_s0 (As := [.int (ts x8.toNatClampNeg), .int x2]) (rest := []) ⟨hx, hb, hml, hown, hts⟩ (cM_inside l D cA H.size (ts x8.toNatClampNeg) x2 n r415 hm415) (cwS 2 hts (gS wd_476 wd_477 wd_41 wd_478) rfl rfl rfl (by decide +kernel) ⟨Nat.le_of_ble_eq_true rfl, Nat.le_of_ble_eq_true rfl⟩) hK hN hP hD hS hA rfl hl.1 rfl (Nat.le_of_ble_eq_true rfl) dXM_isPart_63 ⟨Nat.le_of_ble_eq_true rfl, Nat.le_of_ble_eq_true rfl⟩ (fun hz415 H locs hP hD hS => ?_)
          refine lv_istore (lv' := [(9, .int r415), (0, .ref (q 0)), (1, .int x1), (2, .int x2), (5, .int x5), (6, .int x6), (7, .int x7), (8, .int x8)]) hx hb dXM_isPart_66 hl (by decide) rfl (fun ls hl => ?_)
          refine lv_iload hx hb dXM_isPart_68 (lv_at hl 5 rfl) ?_
          refine lv_if_ne (tgt := 89) hx hb dXM_isPart_70 (by decide) (fun c416 => ?_) (fun c416 => ?_)
          · rw [if_neg c416] at hm
            exact ih5 x1 x2 x5 x7 x8 r415 _ H locs ls hm hP hD hS (lv_sub hl [1, 2, 3, 4, 6, 7, 0] rfl)
          · rw [if_pos c416] at hm
            refine lv_iload hx hb dXM_isPart_73 (lv_at hl 0 rfl) ?_
            refine lv_if_eq (tgt := 93) hx hb dXM_isPart_75 (by decide) (fun c417 => ?_) (fun c417 => ?_)
            · rw [if_pos c417] at hm
              exact ih6 x1 x2 x5 x7 x8 r415 _ H locs ls hm hP hD hS (lv_sub hl [1, 2, 3, 4, 6, 7, 0] rfl)
            · rw [if_neg c417] at hm
              refine lv_aload_n hx hb dXM_isPart_78 rfl (lv_at hl 1 rfl) ?_
              refine va_get (D := D) (ci := 5) (v := .ref (q 3)) (C := RXM) (T := TXM) (N := 12) hx hb hts hinXM hown hK hP 0 rfl rfl 5 (by decide) (hts _ wd_394) (fun _ h9 => h9) rfl dXM_isPart_79 ?_
              refine lv_iload hx hb dXM_isPart_82 (lv_at hl 7 rfl) ?_
              obtain ⟨hg418, hm⟩ := kg_s hm
              refine va_iald hx hb hK hP 3 0 rfl rfl hg418 dXM_isPart_84 ?_
              refine lv_iload_n hx hb dXM_isPart_85 rfl (lv_at hl 2 rfl) ?_
              refine lv_icmp_ne (tgt := 93) hx hb dXM_isPart_86 (by decide) (fun c419 => ?_) (fun c419 => ?_)
              · rw [if_neg c419] at hm
                exact ih6 x1 x2 x5 x7 x8 r415 _ H locs ls hm hP hD hS (lv_sub hl [1, 2, 3, 4, 6, 7, 0] rfl)
              · rw [if_pos c419] at hm
                exact ih5 x1 x2 x5 x7 x8 r415 _ H locs ls hm hP hD hS (lv_sub hl [1, 2, 3, 4, 6, 7, 0] rfl)
      · intro x1 x2 x5 x7 x8 x9 r H locs ls hm hP hD hS hl
        rw [mM_isPart_e5] at hm
        refine lv_iconst (v := 1) hx hb dXM_isPart_89 (by decide) ?_
        refine lv_goto (tgt := 94) hx hb dXM_isPart_90 (by decide) ?_
        exact ih7 x1 x2 x5 x7 x8 x9 1 _ H locs ls hm hP hD hS (lv_sub hl [0, 1, 2, 3, 4, 5, 6] rfl)
      · intro x1 x2 x5 x7 x8 x9 r H locs ls hm hP hD hS hl
        rw [mM_isPart_e6] at hm
        refine lv_iconst (v := 0) hx hb dXM_isPart_93 (by decide) ?_
        exact ih7 x1 x2 x5 x7 x8 x9 0 _ H locs ls hm hP hD hS (lv_sub hl [0, 1, 2, 3, 4, 5, 6] rfl)
      · intro x1 x2 x5 x7 x8 x9 y0 r H locs ls hm hP hD hS hl
        rw [mM_isPart_e7] at hm
        refine lv_istore (lv' := [(6, .int y0), (0, .ref (q 0)), (1, .int x1), (2, .int x2), (5, .int x5), (7, .int x7), (8, .int x8), (9, .int x9)]) hx hb dXM_isPart_94 hl (by decide) rfl (fun ls hl => ?_)
        refine lv_iload hx hb dXM_isPart_96 (lv_at hl 5 rfl) ?_
        refine lv_if_ne (tgt := 120) hx hb dXM_isPart_98 (by decide) (fun c711 => ?_) (fun c711 => ?_)
        · rw [if_neg c711] at hm
          exact ih8 x1 x2 x5 y0 x8 _ H locs ls hm hP hD hS (lv_sub hl [1, 2, 3, 4, 0, 6] rfl)
        · rw [if_pos c711] at hm
          refine lv_iload hx hb dXM_isPart_101 (lv_at hl 7 rfl) ?_
          refine lv_if_eq (tgt := 124) hx hb dXM_isPart_103 (by decide) (fun c712 => ?_) (fun c712 => ?_)
          · rw [if_pos c712] at hm
            exact ih9 x1 x2 x5 y0 x8 _ H locs ls hm hP hD hS (lv_sub hl [1, 2, 3, 4, 0, 6] rfl)
          · rw [if_neg c712] at hm
            refine lv_iload_n hx hb dXM_isPart_106 rfl (lv_at hl 2 rfl) ?_
            refine lv_aload_n hx hb dXM_isPart_107 rfl (lv_at hl 1 rfl) ?_
            refine va_get (D := D) (ci := 5) (v := .ref (q 3)) (C := RXM) (T := TXM) (N := 12) hx hb hts hinXM hown hK hP 0 rfl rfl 5 (by decide) (hts _ wd_394) (fun _ h9 => h9) rfl dXM_isPart_108 ?_
            refine lv_iload hx hb dXM_isPart_111 (lv_at hl 6 rfl) ?_
            obtain ⟨hg713, hm⟩ := kg_s hm
            refine va_iald hx hb hK hP 3 0 rfl rfl hg713 dXM_isPart_113 ?_
            obtain ⟨r714, hm714, hm⟩ := kb_s hm
            refine k_s0 (As := [.int x1, .int (ts x8.toNatClampNeg)]) (rest := []) ⟨hx, hb, hml, hown, hts⟩ (cM_inside l D cA H.size x1 (ts x8.toNatClampNeg) n r714 hm714) (cwS 2 hts (gS wd_476 wd_477 wd_41 wd_478) rfl rfl rfl (by decide +kernel) ⟨Nat.le_of_ble_eq_true rfl, Nat.le_of_ble_eq_true rfl⟩) hK hN hP hD hS hA rfl hl.1 rfl (Nat.le_of_ble_eq_true rfl) dXM_isPart_114 ⟨Nat.le_of_ble_eq_true rfl, Nat.le_of_ble_eq_true rfl⟩ (fun hz714 H locs hP hD hS => ?_)
            refine lv_if_eq (tgt := 124) hx hb dXM_isPart_117 (by decide) (fun c715 => ?_) (fun c715 => ?_)
            · rw [if_pos c715] at hm
              exact ih9 x1 x2 x5 y0 x8 _ H locs ls hm hP hD hS (lv_sub hl [1, 2, 3, 4, 0, 6] rfl)
            · rw [if_neg c715] at hm
              exact ih8 x1 x2 x5 y0 x8 _ H locs ls hm hP hD hS (lv_sub hl [1, 2, 3, 4, 0, 6] rfl)
      · intro x1 x2 x5 x6 x8 r H locs ls hm hP hD hS hl
        rw [mM_isPart_e8] at hm
        refine lv_iconst (v := 1) hx hb dXM_isPart_120 (by decide) ?_
        refine lv_goto (tgt := 125) hx hb dXM_isPart_121 (by decide) ?_
        refine lv_istore (lv' := [(7, .int 1), (0, .ref (q 0)), (1, .int x1), (2, .int x2), (5, .int x5), (6, .int x6), (8, .int x8)]) hx hb dXM_isPart_125 hl (by decide) rfl (fun ls hl => ?_)
        refine lv_iinc (v := (x8 + 1)) (lv' := [(8, .int (x8 + 1)), (7, .int 1), (0, .ref (q 0)), (1, .int x1), (2, .int x2), (5, .int x5), (6, .int x6)]) hx hb dXM_isPart_127 hl (k := 6) rfl rfl (by decide) rfl (fun ls hl => ?_)
        refine lv_goto (tgt := 46) hx hb dXM_isPart_130 (by decide) ?_
        exact ih4 x1 x2 x5 x6 1 (x8 + 1) _ H locs ls hm hP hD hS (lv_sub hl [2, 3, 4, 5, 6, 1, 0] rfl)
      · intro x1 x2 x5 x6 x8 r H locs ls hm hP hD hS hl
        rw [mM_isPart_e9] at hm
        refine lv_iconst (v := 0) hx hb dXM_isPart_124 (by decide) ?_
        refine lv_istore (lv' := [(7, .int 0), (0, .ref (q 0)), (1, .int x1), (2, .int x2), (5, .int x5), (6, .int x6), (8, .int x8)]) hx hb dXM_isPart_125 hl (by decide) rfl (fun ls hl => ?_)
        refine lv_iinc (v := (x8 + 1)) (lv' := [(8, .int (x8 + 1)), (7, .int 0), (0, .ref (q 0)), (1, .int x1), (2, .int x2), (5, .int x5), (6, .int x6)]) hx hb dXM_isPart_127 hl (k := 6) rfl rfl (by decide) rfl (fun ls hl => ?_)
        refine lv_goto (tgt := 46) hx hb dXM_isPart_130 (by decide) ?_
        exact ih4 x1 x2 x5 x6 0 (x8 + 1) _ H locs ls hm hP hD hS (lv_sub hl [2, 3, 4, 5, 6, 1, 0] rfl)
      · intro x7 r H locs ls hm hP hD hS hl
        rw [mM_isPart_e10] at hm
        refine lv_iload hx hb dXM_isPart_143 (lv_at hl 0 rfl) ?_
        refine lv_if_ne (tgt := 152) hx hb dXM_isPart_145 (by decide) (fun c1011 => ?_) (fun c1011 => ?_)
        · rw [if_neg c1011] at hm
          refine lv_iconst (v := 0) hx hb dXM_isPart_152 (by decide) ?_
          cases hm
          exact k_zret hx hb hr hlocks hK hP hD hS (Or.inl rfl) dXM_isPart_153
        · rw [if_pos c1011] at hm
          refine lv_iconst (v := 1) hx hb dXM_isPart_148 (by decide) ?_
          refine lv_goto (tgt := 153) hx hb dXM_isPart_149 (by decide) ?_
          cases hm
          exact k_zret hx hb hr hlocks hK hP hD hS (Or.inr rfl) dXM_isPart_153
  exact (key n).1 a1 a2 a3 a4 r s.heap [] ls hm hP hD va_S.rf hl
