set_option maxHeartbeats 4000000 in
set_option maxRecDepth 100000 in
theorem cM_step (l : Launch) (D : va_G) (q : Nat → Nat) (cA : ClassId) (N : Nat) (sz : Nat) (mr : Nat → Int32) (zn : Int32) (zs : Nat → Int32) (tn : Int32) (ts : Nat → Int32) (yn : Int32) (ys : Nat → Int32) (en : Int32) (es : Nat → Int32) (ew : Int32) (cv : Nat → Int32) (a1 a2 : Int32) (n : Nat) (r : Int32) (en_1 : Int32) (es_1 : Nat → Int32) (ew_1 : Int32) (hm : mM_step N mr n 0 [a1, a2] en es ew = some (r, en_1, es_1, ew_1)) : Met l yXM_step wsXM_step ({ frames := 3, cells := 0, slots := 0, locals := 72 }) (kPc D cA [.ref (q 0), .int a1, .int a2] (wM q cA N mr zn zs tn ts yn ys en es ew cv) sz) (kQi D cA kT (va_A (wM q cA N mr zn zs tn ts yn ys en es ew cv) sz) (wM q cA N mr zn zs tn ts yn ys en_1 es_1 ew_1 cv) r) 0 0 (va_A (wM q cA N mr zn zs tn ts yn ys en es ew cv) sz) := by
  refine k_met (D := D) (cA := cA) (w := (wM q cA N mr zn zs tn ts yn ys en es ew cv)) (sz := sz) (av := [.ref (q 0), .int a1, .int a2]) (cc := cXM_step) (maxL := 3) (ret := (some .int)) (Qc := fun A => kQi D cA kT A (wM q cA N mr zn zs tn ts yn ys en_1 es_1 ew_1 cv) r) (by decide) rfl (Nat.le_of_ble_eq_true rfl) ?_
  intro p e s m below meth c A ls hX hK hN hA hP hD hl
  obtain ⟨hx, hb, hr, hml, hown, hts, hlocks, -⟩ := hX
  have hown : s.vm.findClass RXM = some m.cls := hown
  have hl : lv_has ls 3 [(0, .ref (q 0)), (1, .int a1), (2, .int a2)] := hl
  have hts : ∀ w ∈ W0, w.before _ s = true := fun w h => hts w (List.mem_cons_of_mem _ h)
  have key : ∀ n : Nat, (∀ (x1 x2 : Int32) (en : Int32) (es : Nat → Int32) (ew : Int32) (r : Int32) (en_1 : Int32) (es_1 : Nat → Int32) (ew_1 : Int32) (H : Heap) (locs : List Loc) (ls : Array Slot), mM_step N mr n 0 [x1, x2] en es ew = some (r, en_1, es_1, ew_1) → va_P D vwCl (wM q cA N mr zn zs tn ts yn ys en es ew cv) H → va_D A (wM q cA N mr zn zs tn ts yn ys en es ew cv) → va_S A s.heap H locs → lv_has ls 3 [(0, .ref (q 0)), (1, .int x1), (2, .int x2)] → W p l e ({ frames := 3, cells := 0, slots := 0, locals := 72 }) s m ([.ref (q 0), .int a1, .int a2] : List Value).toArray below meth c H locs 0 0 (MQ below (kQi D cA kT A (wM q cA N mr zn zs tn ts yn ys en_1 es_1 ew_1 cv) r) ([.ref (q 0), .int a1, .int a2] : List Value).toArray s 0 0 A) (F0 m 0 ls [])) := by
    intro n
    induction n with
    | zero => exact (by intros; rename_i h _ _ _ _; rw [mM_step_z] at h; cases h)
    | succ n ih =>
      have ih0 := ih
      intro x1 x2 en es ew r en_1 es_1 ew_1 H locs ls hm hP hD hS hl
      rw [mM_step_e0] at hm
      refine lv_aload_n hx hb dXM_step_0 rfl (lv_at hl 0 rfl) ?_
      refine lv_iload_n hx hb dXM_step_1 rfl (lv_at hl 1 rfl) ?_
      obtain ⟨r11, hm11, hm⟩ := kb_s hm
      refine k_vi (As := [.int x1]) (rest := []) (w2 := (wM q cA N mr zn zs tn ts yn ys en es ew cv)) ⟨hx, hb, hml, hown, hts⟩ (cM_is l D q cA N H.size mr zn zs tn ts yn ys en es ew cv x1 n r11 hm11) (cwV 1 hts (gV wd_421 wd_422 wd_18 wd_41 wd_423) rfl rfl rfl (by decide +kernel) ⟨Nat.le_of_ble_eq_true rfl, Nat.le_of_ble_eq_true rfl⟩) hK hN hP hD hS hA [0, 1, 2, 3, 4, 5, 6] [] [0, 1, 2, 3, 4, 5, 6] ⟨rfl, rfl, by decide, rfl, by decide, by decide, rfl, rfl, by decide⟩ (va_recv hK hP (ci := 5) (q0 := 0) rfl rfl) rfl hl.1 rfl (Nat.le_of_ble_eq_true rfl) dXM_step_2 ⟨Nat.le_of_ble_eq_true rfl, Nat.le_of_ble_eq_true rfl⟩ (fun hz11 H locs hP hD hS => ?_)
      refine lv_if_ne (tgt := 10) hx hb dXM_step_5 (by decide) (fun c12 => ?_) (fun c12 => ?_)
      · rw [if_neg c12] at hm
        refine lv_aload_n hx hb dXM_step_10 rfl (lv_at hl 0 rfl) ?_
        refine lv_aload_n hx hb dXM_step_11 rfl (lv_at hl 0 rfl) ?_
        refine lv_iload_n hx hb dXM_step_12 rfl (lv_at hl 1 rfl) ?_
        obtain ⟨r13, hm13, hm⟩ := kb_s hm
        refine k_vi (As := [.int x1]) (rest := [.ref (q 0)]) (w2 := (wM q cA N mr zn zs tn ts yn ys en es ew cv)) ⟨hx, hb, hml, hown, hts⟩ (cM_component l D q cA N H.size mr zn zs tn ts yn ys en es ew cv x1 n r13 hm13) (cwV 1 hts (gV wd_439 wd_429 wd_430 wd_41 wd_431) rfl rfl rfl (by decide +kernel) ⟨Nat.le_of_ble_eq_true rfl, Nat.le_of_ble_eq_true rfl⟩) hK hN hP hD hS hA [0, 1, 2, 3, 4, 5, 6] [] [0, 1, 2, 3, 4, 5, 6] ⟨rfl, rfl, by decide, rfl, by decide, by decide, rfl, rfl, by decide⟩ (va_recv hK hP (ci := 5) (q0 := 0) rfl rfl) rfl hl.1 rfl (Nat.le_of_ble_eq_true rfl) dXM_step_13 ⟨Nat.le_of_ble_eq_true rfl, Nat.le_of_ble_eq_true rfl⟩ (fun hz13 H locs hP hD hS => ?_)
        obtain ⟨⟨en_14, es_14, ew_14⟩, hm14, hm⟩ := kb_s hm
        dsimp only at hm
        refine k_vv (As := [.int r13]) (rest := []) (w2 := (wM q cA N mr zn zs tn ts yn ys en_14 es_14 ew_14 cv)) ⟨hx, hb, hml, hown, hts⟩ (cM_eliminate l D q cA N H.size mr zn zs tn ts yn ys en es ew cv r13 n en_14 es_14 ew_14 hm14) (cwV 1 hts (gV wd_514 wd_515 wd_30 wd_41 wd_516) rfl rfl rfl (by decide +kernel) ⟨Nat.le_of_ble_eq_true rfl, Nat.le_of_ble_eq_true rfl⟩) hK hN hP hD hS hA [0, 1, 2, 3, 4, 5, 6] [] [0, 1, 2, 3, 4, 5, 6] ⟨rfl, rfl, by decide, rfl, by decide, by decide, rfl, rfl, by decide⟩ (va_recv hK hP (ci := 5) (q0 := 0) rfl rfl) rfl hl.1 rfl (Nat.le_of_ble_eq_true rfl) dXM_step_16 ⟨Nat.le_of_ble_eq_true rfl, Nat.le_of_ble_eq_true rfl⟩ (fun H locs hP hD hS => ?_)
        refine lv_iload_n hx hb dXM_step_19 rfl (lv_at hl 2 rfl) ?_
        refine lv_if_lt (tgt := 40) hx hb dXM_step_20 (by decide) (fun c15 => ?_) (fun c15 => ?_)
        · rw [if_pos c15] at hm
          refine lv_iconst (v := (-1)) hx hb dXM_step_40 (by decide) ?_
          cases hm
          exact k_iret hx hb hr hlocks hK hP hD hS trivial dXM_step_41
        · rw [if_neg c15] at hm
          refine lv_iload_n hx hb dXM_step_23 rfl (lv_at hl 2 rfl) ?_
          refine lv_aload_n hx hb dXM_step_24 rfl (lv_at hl 0 rfl) ?_
          refine va_get (D := D) (ci := 5) (v := .int en_14) (C := RXM) (T := TXM) (N := 12) hx hb hts hinXM hown hK hP 0 rfl rfl 8 (by decide) (hts _ wd_397) (fun _ h9 => h9) rfl dXM_step_25 ?_
          refine lv_icmp_ge (tgt := 40) hx hb dXM_step_28 (by decide) (fun c16 => ?_) (fun c16 => ?_)
          · rw [if_pos c16] at hm
            refine lv_iconst (v := (-1)) hx hb dXM_step_40 (by decide) ?_
            cases hm
            exact k_iret hx hb hr hlocks hK hP hD hS trivial dXM_step_41
          · rw [if_neg c16] at hm
            refine lv_aload_n hx hb dXM_step_31 rfl (lv_at hl 0 rfl) ?_
            refine va_get (D := D) (ci := 5) (v := .ref (q 5)) (C := RXM) (T := TXM) (N := 12) hx hb hts hinXM hown hK hP 0 rfl rfl 9 (by decide) (hts _ wd_398) (fun _ h9 => h9) rfl dXM_step_32 ?_
            refine lv_iload_n hx hb dXM_step_35 rfl (lv_at hl 2 rfl) ?_
            obtain ⟨hg17, hm⟩ := kg_s hm
            refine va_iald hx hb hK hP 5 0 rfl rfl hg17 dXM_step_36 ?_
            refine lv_goto (tgt := 41) hx hb dXM_step_37 (by decide) ?_
            cases hm
            exact k_iret hx hb hr hlocks hK hP hD hS trivial dXM_step_41
      · rw [if_pos c12] at hm
        refine lv_iconst (v := (-1)) hx hb dXM_step_8 (by decide) ?_
        cases hm
        exact k_iret hx hb hr hlocks hK hP hD hS trivial dXM_step_9
  exact key n a1 a2 en es ew r en_1 es_1 ew_1 s.heap [] ls hm hP hD va_S.rf hl
set_option maxHeartbeats 4000000 in
set_option maxRecDepth 100000 in
theorem cM_obstruction (l : Launch) (D : va_G) (q : Nat → Nat) (cA : ClassId) (N : Nat) (sz : Nat) (mr : Nat → Int32) (zn : Int32) (zs : Nat → Int32) (tn : Int32) (ts : Nat → Int32) (yn : Int32) (ys : Nat → Int32) (en : Int32) (es : Nat → Int32) (ew : Int32) (cv : Nat → Int32) (a1 : Int32) (n : Nat) (r : Int32) (en_1 : Int32) (es_1 : Nat → Int32) (ew_1 : Int32) (hm : mM_obstruction N mr n 0 [a1] en es ew = some (r, en_1, es_1, ew_1)) : Met l yXM_obstruction wsXM_obstruction ({ frames := 4, cells := 0, slots := 0, locals := 95 }) (kPc D cA [.ref (q 0), .int a1] (wM q cA N mr zn zs tn ts yn ys en es ew cv) sz) (kQi D cA kT (va_A (wM q cA N mr zn zs tn ts yn ys en es ew cv) sz) (wM q cA N mr zn zs tn ts yn ys en_1 es_1 ew_1 cv) r) 0 0 (va_A (wM q cA N mr zn zs tn ts yn ys en es ew cv) sz) := by
  refine k_met (D := D) (cA := cA) (w := (wM q cA N mr zn zs tn ts yn ys en es ew cv)) (sz := sz) (av := [.ref (q 0), .int a1]) (cc := cXM_obstruction) (maxL := 5) (ret := (some .int)) (Qc := fun A => kQi D cA kT A (wM q cA N mr zn zs tn ts yn ys en_1 es_1 ew_1 cv) r) (by decide) rfl (Nat.le_of_ble_eq_true rfl) ?_
  intro p e s m below meth c A ls hX hK hN hA hP hD hl
  obtain ⟨hx, hb, hr, hml, hown, hts, hlocks, -⟩ := hX
  have hown : s.vm.findClass RXM = some m.cls := hown
  have hl : lv_has ls 5 [(0, .ref (q 0)), (1, .int a1)] := hl
  have hts : ∀ w ∈ W0, w.before _ s = true := fun w h => hts w (List.mem_cons_of_mem _ h)
  have key : ∀ n : Nat, (∀ (x1 : Int32) (en : Int32) (es : Nat → Int32) (ew : Int32) (r : Int32) (en_1 : Int32) (es_1 : Nat → Int32) (ew_1 : Int32) (H : Heap) (locs : List Loc) (ls : Array Slot), mM_obstruction N mr n 0 [x1] en es ew = some (r, en_1, es_1, ew_1) → va_P D vwCl (wM q cA N mr zn zs tn ts yn ys en es ew cv) H → va_D A (wM q cA N mr zn zs tn ts yn ys en es ew cv) → va_S A s.heap H locs → lv_has ls 5 [(0, .ref (q 0)), (1, .int x1)] → W p l e ({ frames := 4, cells := 0, slots := 0, locals := 95 }) s m ([.ref (q 0), .int a1] : List Value).toArray below meth c H locs 0 0 (MQ below (kQi D cA kT A (wM q cA N mr zn zs tn ts yn ys en_1 es_1 ew_1 cv) r) ([.ref (q 0), .int a1] : List Value).toArray s 0 0 A) (F0 m 0 ls [])) ∧
    (∀ (x2 x3 : Int32) (en : Int32) (es : Nat → Int32) (ew : Int32) (r : Int32) (en_1 : Int32) (es_1 : Nat → Int32) (ew_1 : Int32) (H : Heap) (locs : List Loc) (ls : Array Slot), mM_obstruction N mr n 1 [x2, x3] en es ew = some (r, en_1, es_1, ew_1) → va_P D vwCl (wM q cA N mr zn zs tn ts yn ys en es ew cv) H → va_D A (wM q cA N mr zn zs tn ts yn ys en es ew cv) → va_S A s.heap H locs → lv_has ls 5 [(0, .ref (q 0)), (2, .int x2), (3, .int x3)] → W p l e ({ frames := 4, cells := 0, slots := 0, locals := 95 }) s m ([.ref (q 0), .int a1] : List Value).toArray below meth c H locs 0 0 (MQ below (kQi D cA kT A (wM q cA N mr zn zs tn ts yn ys en_1 es_1 ew_1 cv) r) ([.ref (q 0), .int a1] : List Value).toArray s 0 0 A) (F0 m 30 ls [])) := by
    intro n
    induction n with
    | zero => exact ⟨(by intros; rename_i h _ _ _ _; rw [mM_obstruction_z] at h; cases h), (by intros; rename_i h _ _ _ _; rw [mM_obstruction_z] at h; cases h)⟩
    | succ n ih =>
      obtain ⟨ih0, ih1⟩ := ih
      refine ⟨?_, ?_⟩
      · intro x1 en es ew r en_1 es_1 ew_1 H locs ls hm hP hD hS hl
        rw [mM_obstruction_e0] at hm
        refine lv_aload_n hx hb dXM_obstruction_0 rfl (lv_at hl 0 rfl) ?_
        refine lv_iload_n hx hb dXM_obstruction_1 rfl (lv_at hl 1 rfl) ?_
        obtain ⟨r11, hm11, hm⟩ := kb_s hm
        refine k_vi (As := [.int x1]) (rest := []) (w2 := (wM q cA N mr zn zs tn ts yn ys en es ew cv)) ⟨hx, hb, hml, hown, hts⟩ (cM_is l D q cA N H.size mr zn zs tn ts yn ys en es ew cv x1 n r11 hm11) (cwV 1 hts (gV wd_421 wd_422 wd_18 wd_41 wd_423) rfl rfl rfl (by decide +kernel) ⟨Nat.le_of_ble_eq_true rfl, Nat.le_of_ble_eq_true rfl⟩) hK hN hP hD hS hA [0, 1, 2, 3, 4, 5, 6] [] [0, 1, 2, 3, 4, 5, 6] ⟨rfl, rfl, by decide, rfl, by decide, by decide, rfl, rfl, by decide⟩ (va_recv hK hP (ci := 5) (q0 := 0) rfl rfl) rfl hl.1 rfl (Nat.le_of_ble_eq_true rfl) dXM_obstruction_2 ⟨Nat.le_of_ble_eq_true rfl, Nat.le_of_ble_eq_true rfl⟩ (fun hz11 H locs hP hD hS => ?_)
        refine lv_if_eq (tgt := 20) hx hb dXM_obstruction_5 (by decide) (fun c12 => ?_) (fun c12 => ?_)
        · rw [if_pos c12] at hm
          refine lv_iconst (v := (-1)) hx hb dXM_obstruction_20 (by decide) ?_
          cases hm
          exact k_iret hx hb hr hlocks hK hP hD hS trivial dXM_obstruction_21
        · rw [if_neg c12] at hm
          refine lv_aload_n hx hb dXM_obstruction_8 rfl (lv_at hl 0 rfl) ?_
          refine lv_aload_n hx hb dXM_obstruction_9 rfl (lv_at hl 0 rfl) ?_
          refine lv_iload_n hx hb dXM_obstruction_10 rfl (lv_at hl 1 rfl) ?_
          obtain ⟨r13, hm13, hm⟩ := kb_s hm
          refine k_vi (As := [.int x1]) (rest := [.ref (q 0)]) (w2 := (wM q cA N mr zn zs tn ts yn ys en es ew cv)) ⟨hx, hb, hml, hown, hts⟩ (cM_component l D q cA N H.size mr zn zs tn ts yn ys en es ew cv x1 n r13 hm13) (cwV 1 hts (gV wd_439 wd_429 wd_430 wd_41 wd_431) rfl rfl rfl (by decide +kernel) ⟨Nat.le_of_ble_eq_true rfl, Nat.le_of_ble_eq_true rfl⟩) hK hN hP hD hS hA [0, 1, 2, 3, 4, 5, 6] [] [0, 1, 2, 3, 4, 5, 6] ⟨rfl, rfl, by decide, rfl, by decide, by decide, rfl, rfl, by decide⟩ (va_recv hK hP (ci := 5) (q0 := 0) rfl rfl) rfl hl.1 rfl (Nat.le_of_ble_eq_true rfl) dXM_obstruction_11 ⟨Nat.le_of_ble_eq_true rfl, Nat.le_of_ble_eq_true rfl⟩ (fun hz13 H locs hP hD hS => ?_)
          obtain ⟨⟨r14, en_14, es_14, ew_14⟩, hm14, hm⟩ := kb_s hm
          dsimp only at hm
          refine k_vi (As := [.int r13]) (rest := []) (w2 := (wM q cA N mr zn zs tn ts yn ys en_14 es_14 ew_14 cv)) ⟨hx, hb, hml, hown, hts⟩ (cM_fine l D q cA N H.size mr zn zs tn ts yn ys en es ew cv r13 n r14 en_14 es_14 ew_14 hm14) (cwV 1 hts (gV wd_511 wd_512 wd_29 wd_41 wd_513) rfl rfl rfl (by decide +kernel) ⟨Nat.le_of_ble_eq_true rfl, Nat.le_of_ble_eq_true rfl⟩) hK hN hP hD hS hA [0, 1, 2, 3, 4, 5, 6] [] [0, 1, 2, 3, 4, 5, 6] ⟨rfl, rfl, by decide, rfl, by decide, by decide, rfl, rfl, by decide⟩ (va_recv hK hP (ci := 5) (q0 := 0) rfl rfl) rfl hl.1 rfl (Nat.le_of_ble_eq_true rfl) dXM_obstruction_14 ⟨Nat.le_of_ble_eq_true rfl, Nat.le_of_ble_eq_true rfl⟩ (fun hz14 H locs hP hD hS => ?_)
          refine lv_if_eq (tgt := 22) hx hb dXM_obstruction_17 (by decide) (fun c15 => ?_) (fun c15 => ?_)
          · rw [if_pos c15] at hm
            refine lv_aload_n hx hb dXM_obstruction_22 rfl (lv_at hl 0 rfl) ?_
            refine lv_iload_n hx hb dXM_obstruction_23 rfl (lv_at hl 1 rfl) ?_
            obtain ⟨r16, hm16, hm⟩ := kb_s hm
            refine k_vi (As := [.int x1]) (rest := []) (w2 := (wM q cA N mr zn zs tn ts yn ys en_14 es_14 ew_14 cv)) ⟨hx, hb, hml, hown, hts⟩ (cM_component l D q cA N H.size mr zn zs tn ts yn ys en_14 es_14 ew_14 cv x1 n r16 hm16) (cwV 1 hts (gV wd_439 wd_429 wd_430 wd_41 wd_431) rfl rfl rfl (by decide +kernel) ⟨Nat.le_of_ble_eq_true rfl, Nat.le_of_ble_eq_true rfl⟩) hK hN hP hD hS hA [0, 1, 2, 3, 4, 5, 6] [] [0, 1, 2, 3, 4, 5, 6] ⟨rfl, rfl, by decide, rfl, by decide, by decide, rfl, rfl, by decide⟩ (va_recv hK hP (ci := 5) (q0 := 0) rfl rfl) rfl hl.1 rfl (Nat.le_of_ble_eq_true rfl) dXM_obstruction_24 ⟨Nat.le_of_ble_eq_true rfl, Nat.le_of_ble_eq_true rfl⟩ (fun hz16 H locs hP hD hS => ?_)
            refine lv_istore_n (lv' := [(2, .int r16), (0, .ref (q 0)), (1, .int x1)]) hx hb dXM_obstruction_27 rfl hl (by decide) rfl (fun ls hl => ?_)
            refine lv_iconst (v := 0) hx hb dXM_obstruction_28 (by decide) ?_
            refine lv_istore_n (lv' := [(3, .int 0), (2, .int r16), (0, .ref (q 0)), (1, .int x1)]) hx hb dXM_obstruction_29 rfl hl (by decide) rfl (fun ls hl => ?_)
            exact ih1 r16 0 en_14 es_14 ew_14 _ _ _ _ H locs ls hm hP hD hS (lv_sub hl [2, 1, 0] rfl)
          · rw [if_neg c15] at hm
            refine lv_iconst (v := (-1)) hx hb dXM_obstruction_20 (by decide) ?_
            cases hm
            exact k_iret hx hb hr hlocks hK hP hD hS trivial dXM_obstruction_21
      · intro x2 x3 en es ew r en_1 es_1 ew_1 H locs ls hm hP hD hS hl
        rw [mM_obstruction_e1] at hm
        refine lv_iload_n hx hb dXM_obstruction_30 rfl (lv_at hl 2 rfl) ?_
        refine lv_aload_n hx hb dXM_obstruction_31 rfl (lv_at hl 0 rfl) ?_
        refine va_get (D := D) (ci := 5) (v := .int (nI N)) (C := RXM) (T := TXM) (N := 12) hx hb hts hinXM hown hK hP 0 rfl rfl 0 (by decide) (hts _ wd_389) (fun _ h9 => h9) rfl dXM_obstruction_32 ?_
        refine lv_icmp_ge (tgt := 69) hx hb dXM_obstruction_35 (by decide) (fun c111 => ?_) (fun c111 => ?_)
        · rw [if_pos c111] at hm
          refine lv_iload_n hx hb dXM_obstruction_69 rfl (lv_at hl 1 rfl) ?_
          cases hm
          exact k_iret hx hb hr hlocks hK hP hD hS trivial dXM_obstruction_70
        · rw [if_neg c111] at hm
          refine lv_iload_n hx hb dXM_obstruction_38 rfl (lv_at hl 1 rfl) ?_
          refine lv_iconst (v := 1) hx hb dXM_obstruction_39 (by decide) ?_
          refine lv_iload_n hx hb dXM_obstruction_40 rfl (lv_at hl 2 rfl) ?_
          refine lv_ishl hx hb dXM_obstruction_41 ?_
          refine lv_iconst (v := (-1)) hx hb dXM_obstruction_42 (by decide) ?_
          refine lv_ixor hx hb dXM_obstruction_43 ?_
          refine lv_iand hx hb dXM_obstruction_44 ?_
          refine lv_topi (fun x4_112 ex4_112 => ?_)
          have hm := kl_s ex4_112 hm
          refine lv_istore (lv' := [(4, .int x4_112), (0, .ref (q 0)), (2, .int x2), (3, .int x3)]) hx hb dXM_obstruction_45 hl (by decide) rfl (fun ls hl => ?_)
          refine lv_aload_n hx hb dXM_obstruction_47 rfl (lv_at hl 1 rfl) ?_
          refine lv_iload hx hb dXM_obstruction_48 (lv_at hl 0 rfl) ?_
          obtain ⟨⟨r113, en_113, es_113, ew_113⟩, hm113, hm⟩ := kb_s hm
          dsimp only at hm
          refine k_vi (As := [.int x4_112]) (rest := []) (w2 := (wM q cA N mr zn zs tn ts yn ys en_113 es_113 ew_113 cv)) ⟨hx, hb, hml, hown, hts⟩ (cM_fine l D q cA N H.size mr zn zs tn ts yn ys en es ew cv x4_112 n r113 en_113 es_113 ew_113 hm113) (cwV 1 hts (gV wd_511 wd_512 wd_29 wd_41 wd_513) rfl rfl rfl (by decide +kernel) ⟨Nat.le_of_ble_eq_true rfl, Nat.le_of_ble_eq_true rfl⟩) hK hN hP hD hS hA [0, 1, 2, 3, 4, 5, 6] [] [0, 1, 2, 3, 4, 5, 6] ⟨rfl, rfl, by decide, rfl, by decide, by decide, rfl, rfl, by decide⟩ (va_recv hK hP (ci := 5) (q0 := 0) rfl rfl) rfl hl.1 rfl (Nat.le_of_ble_eq_true rfl) dXM_obstruction_50 ⟨Nat.le_of_ble_eq_true rfl, Nat.le_of_ble_eq_true rfl⟩ (fun hz113 H locs hP hD hS => ?_)
          refine lv_if_eq (tgt := 60) hx hb dXM_obstruction_53 (by decide) (fun c114 => ?_) (fun c114 => ?_)
          · rw [if_pos c114] at hm
            refine lv_iload hx hb dXM_obstruction_60 (lv_at hl 0 rfl) ?_
            refine lv_istore_n (lv' := [(2, .int x4_112), (4, .int x4_112), (0, .ref (q 0)), (3, .int x3)]) hx hb dXM_obstruction_62 rfl hl (by decide) rfl (fun ls hl => ?_)
            refine lv_iinc (v := (x3 + 1)) (lv' := [(3, .int (x3 + 1)), (2, .int x4_112), (4, .int x4_112), (0, .ref (q 0))]) hx hb dXM_obstruction_63 hl (k := 3) rfl rfl (by decide) rfl (fun ls hl => ?_)
            refine lv_goto (tgt := 30) hx hb dXM_obstruction_66 (by decide) ?_
            exact ih1 x4_112 (x3 + 1) en_113 es_113 ew_113 _ _ _ _ H locs ls hm hP hD hS (lv_sub hl [3, 1, 0] rfl)
          · rw [if_neg c114] at hm
            refine lv_iload_n hx hb dXM_obstruction_56 rfl (lv_at hl 2 rfl) ?_
            refine lv_goto (tgt := 62) hx hb dXM_obstruction_57 (by decide) ?_
            refine lv_istore_n (lv' := [(2, .int x2), (4, .int x4_112), (0, .ref (q 0)), (3, .int x3)]) hx hb dXM_obstruction_62 rfl hl (by decide) rfl (fun ls hl => ?_)
            refine lv_iinc (v := (x3 + 1)) (lv' := [(3, .int (x3 + 1)), (2, .int x2), (4, .int x4_112), (0, .ref (q 0))]) hx hb dXM_obstruction_63 hl (k := 3) rfl rfl (by decide) rfl (fun ls hl => ?_)
            refine lv_goto (tgt := 30) hx hb dXM_obstruction_66 (by decide) ?_
            exact ih1 x2 (x3 + 1) en_113 es_113 ew_113 _ _ _ _ H locs ls hm hP hD hS (lv_sub hl [3, 1, 0] rfl)
  exact (key n).1 a1 en es ew r en_1 es_1 ew_1 s.heap [] ls hm hP hD va_S.rf hl
set_option maxHeartbeats 4000000 in
set_option maxRecDepth 100000 in
theorem cM_edges (l : Launch) (D : va_G) (q : Nat → Nat) (cA : ClassId) (N : Nat) (sz : Nat) (mr : Nat → Int32) (zn : Int32) (zs : Nat → Int32) (tn : Int32) (ts : Nat → Int32) (yn : Int32) (ys : Nat → Int32) (en : Int32) (es : Nat → Int32) (ew : Int32) (cv : Nat → Int32) (a1 : Int32) (n : Nat) (r : Int32) (hm : mM_edges N mr n 0 [a1] = some r) : Met l yXM_edges wsXM_edges ({ frames := 1, cells := 0, slots := 0, locals := 22 }) (kPc D cA [.ref (q 0), .int a1] (wM q cA N mr zn zs tn ts yn ys en es ew cv) sz) (kQi D cA kT (va_A (wM q cA N mr zn zs tn ts yn ys en es ew cv) sz) (wM q cA N mr zn zs tn ts yn ys en es ew cv) r) 0 0 (va_A (wM q cA N mr zn zs tn ts yn ys en es ew cv) sz) := by
  refine k_met (D := D) (cA := cA) (w := (wM q cA N mr zn zs tn ts yn ys en es ew cv)) (sz := sz) (av := [.ref (q 0), .int a1]) (cc := cXM_edges) (maxL := 4) (ret := (some .int)) (Qc := fun A => kQi D cA kT A (wM q cA N mr zn zs tn ts yn ys en es ew cv) r) (by decide) rfl (Nat.le_of_ble_eq_true rfl) ?_
  intro p e s m below meth c A ls hX hK hN hA hP hD hl
  obtain ⟨hx, hb, hr, hml, hown, hts, hlocks, -⟩ := hX
  have hown : s.vm.findClass RXM = some m.cls := hown
  have hl : lv_has ls 4 [(0, .ref (q 0)), (1, .int a1)] := hl
  have hts : ∀ w ∈ W0, w.before _ s = true := fun w h => hts w (List.mem_cons_of_mem _ h)
  have key : ∀ n : Nat, (∀ (x1 : Int32) (r : Int32) (H : Heap) (locs : List Loc) (ls : Array Slot), mM_edges N mr n 0 [x1] = some r → va_P D vwCl (wM q cA N mr zn zs tn ts yn ys en es ew cv) H → va_D A (wM q cA N mr zn zs tn ts yn ys en es ew cv) → va_S A s.heap H locs → lv_has ls 4 [(0, .ref (q 0)), (1, .int x1)] → W p l e ({ frames := 1, cells := 0, slots := 0, locals := 22 }) s m ([.ref (q 0), .int a1] : List Value).toArray below meth c H locs 0 0 (MQ below (kQi D cA kT A (wM q cA N mr zn zs tn ts yn ys en es ew cv) r) ([.ref (q 0), .int a1] : List Value).toArray s 0 0 A) (F0 m 0 ls [])) ∧
    (∀ (x1 x2 x3 : Int32) (r : Int32) (H : Heap) (locs : List Loc) (ls : Array Slot), mM_edges N mr n 1 [x1, x2, x3] = some r → va_P D vwCl (wM q cA N mr zn zs tn ts yn ys en es ew cv) H → va_D A (wM q cA N mr zn zs tn ts yn ys en es ew cv) → va_S A s.heap H locs → lv_has ls 4 [(0, .ref (q 0)), (1, .int x1), (2, .int x2), (3, .int x3)] → W p l e ({ frames := 1, cells := 0, slots := 0, locals := 22 }) s m ([.ref (q 0), .int a1] : List Value).toArray below meth c H locs 0 0 (MQ below (kQi D cA kT A (wM q cA N mr zn zs tn ts yn ys en es ew cv) r) ([.ref (q 0), .int a1] : List Value).toArray s 0 0 A) (F0 m 4 ls [])) ∧
    (∀ (x1 x3 y0 y1 : Int32) (r : Int32) (H : Heap) (locs : List Loc) (ls : Array Slot), mM_edges N mr n 2 [x1, x3, y0, y1] = some r → va_P D vwCl (wM q cA N mr zn zs tn ts yn ys en es ew cv) H → va_D A (wM q cA N mr zn zs tn ts yn ys en es ew cv) → va_S A s.heap H locs → lv_has ls 4 [(0, .ref (q 0)), (1, .int x1), (3, .int x3)] → W p l e ({ frames := 1, cells := 0, slots := 0, locals := 22 }) s m ([.ref (q 0), .int a1] : List Value).toArray below meth c H locs 0 0 (MQ below (kQi D cA kT A (wM q cA N mr zn zs tn ts yn ys en es ew cv) r) ([.ref (q 0), .int a1] : List Value).toArray s 0 0 A) (F0 m 37 ls [.int y0, .int y1])) := by
    intro n
    induction n with
    | zero => exact ⟨(by intros; rename_i h _ _ _ _; rw [mM_edges_z] at h; cases h), (by intros; rename_i h _ _ _ _; rw [mM_edges_z] at h; cases h), (by intros; rename_i h _ _ _ _; rw [mM_edges_z] at h; cases h)⟩
    | succ n ih =>
      obtain ⟨ih0, ih1, ih2⟩ := ih
      refine ⟨?_, ?_, ?_⟩
      · intro x1 r H locs ls hm hP hD hS hl
        rw [mM_edges_e0] at hm
        refine lv_iconst (v := 0) hx hb dXM_edges_0 (by decide) ?_
        refine lv_istore_n (lv' := [(2, .int 0), (0, .ref (q 0)), (1, .int x1)]) hx hb dXM_edges_1 rfl hl (by decide) rfl (fun ls hl => ?_)
        refine lv_iconst (v := 0) hx hb dXM_edges_2 (by decide) ?_
        refine lv_istore_n (lv' := [(3, .int 0), (2, .int 0), (0, .ref (q 0)), (1, .int x1)]) hx hb dXM_edges_3 rfl hl (by decide) rfl (fun ls hl => ?_)
        exact ih1 x1 0 0 _ H locs ls hm hP hD hS (lv_sub hl [2, 3, 1, 0] rfl)
      · intro x1 x2 x3 r H locs ls hm hP hD hS hl
        rw [mM_edges_e1] at hm
        refine lv_iload_n hx hb dXM_edges_4 rfl (lv_at hl 3 rfl) ?_
        refine lv_aload_n hx hb dXM_edges_5 rfl (lv_at hl 0 rfl) ?_
        refine va_get (D := D) (ci := 5) (v := .int (nI N)) (C := RXM) (T := TXM) (N := 12) hx hb hts hinXM hown hK hP 0 rfl rfl 0 (by decide) (hts _ wd_389) (fun _ h9 => h9) rfl dXM_edges_6 ?_
        refine lv_icmp_ge (tgt := 45) hx hb dXM_edges_9 (by decide) (fun c111 => ?_) (fun c111 => ?_)
        · rw [if_pos c111] at hm
          refine lv_iload_n hx hb dXM_edges_45 rfl (lv_at hl 2 rfl) ?_
          refine lv_iconst (v := 2) hx hb dXM_edges_46 (by decide) ?_
          refine lv_idiv hx hb dXM_edges_47 (by decide) ?_
          cases hm
          exact k_iret hx hb hr hlocks hK hP hD hS trivial dXM_edges_48
        · rw [if_neg c111] at hm
          refine lv_iload_n hx hb dXM_edges_12 rfl (lv_at hl 2 rfl) ?_
          refine lv_iload_n hx hb dXM_edges_13 rfl (lv_at hl 1 rfl) ?_
          refine lv_iload_n hx hb dXM_edges_14 rfl (lv_at hl 3 rfl) ?_
          refine lv_ishr hx hb dXM_edges_15 ?_
          refine lv_iconst (v := 1) hx hb dXM_edges_16 (by decide) ?_
          refine lv_iand hx hb dXM_edges_17 ?_
          refine lv_iconst (v := 1) hx hb dXM_edges_18 (by decide) ?_
          refine lv_icmp_ne (tgt := 36) hx hb dXM_edges_19 (by decide) (fun c112 => ?_) (fun c112 => ?_)
          · rw [if_neg c112] at hm
            refine lv_iconst (v := 0) hx hb dXM_edges_36 (by decide) ?_
            exact ih2 x1 x3 0 x2 _ H locs ls hm hP hD hS (lv_sub hl [0, 1, 3] rfl)
          · rw [if_pos c112] at hm
            refine lv_aload_n hx hb dXM_edges_22 rfl (lv_at hl 0 rfl) ?_
            refine va_get (D := D) (ci := 5) (v := .ref (q 1)) (C := RXM) (T := TXM) (N := 12) hx hb hts hinXM hown hK hP 0 rfl rfl 1 (by decide) (hts _ wd_390) (fun _ h9 => h9) rfl dXM_edges_23 ?_
            refine lv_iload_n hx hb dXM_edges_26 rfl (lv_at hl 3 rfl) ?_
            obtain ⟨hg113, hm⟩ := kg_s hm
            refine va_iald hx hb hK hP 1 0 rfl rfl hg113 dXM_edges_27 ?_
            refine lv_iload_n hx hb dXM_edges_28 rfl (lv_at hl 1 rfl) ?_
            refine lv_iand hx hb dXM_edges_29 ?_
            obtain ⟨r114, hm114, hm⟩ := kb_s hm
            refine k_s0 (As := [.int ((mr x3.toNatClampNeg) &&& x1)]) (rest := [.int x2]) ⟨hx, hb, hml, hown, hts⟩ (cM_size l D cA H.size ((mr x3.toNatClampNeg) &&& x1) n r114 hm114) (cwS 1 hts (gS wd_446 wd_447 wd_41 wd_448) rfl rfl rfl (by decide +kernel) ⟨Nat.le_of_ble_eq_true rfl, Nat.le_of_ble_eq_true rfl⟩) hK hN hP hD hS hA rfl hl.1 rfl (Nat.le_of_ble_eq_true rfl) dXM_edges_30 ⟨Nat.le_of_ble_eq_true rfl, Nat.le_of_ble_eq_true rfl⟩ (fun hz114 H locs hP hD hS => ?_)
            refine lv_goto (tgt := 37) hx hb dXM_edges_33 (by decide) ?_
            exact ih2 x1 x3 r114 x2 _ H locs ls hm hP hD hS (lv_sub hl [0, 1, 3] rfl)
      · intro x1 x3 y0 y1 r H locs ls hm hP hD hS hl
        rw [mM_edges_e2] at hm
        refine lv_iadd hx hb dXM_edges_37 ?_
        refine lv_topi (fun x2_211 ex2_211 => ?_)
        have hm := kl_s ex2_211 hm
        refine lv_istore_n (lv' := [(2, .int x2_211), (0, .ref (q 0)), (1, .int x1), (3, .int x3)]) hx hb dXM_edges_38 rfl hl (by decide) rfl (fun ls hl => ?_)
        refine lv_iinc (v := (x3 + 1)) (lv' := [(3, .int (x3 + 1)), (2, .int x2_211), (0, .ref (q 0)), (1, .int x1)]) hx hb dXM_edges_39 hl (k := 3) rfl rfl (by decide) rfl (fun ls hl => ?_)
        refine lv_goto (tgt := 4) hx hb dXM_edges_42 (by decide) ?_
        exact ih1 x1 x2_211 (x3 + 1) _ H locs ls hm hP hD hS (lv_sub hl [2, 3, 1, 0] rfl)
  exact (key n).1 a1 r s.heap [] ls hm hP hD va_S.rf hl
set_option maxHeartbeats 4000000 in
set_option maxRecDepth 100000 in
theorem cM_obstacle (l : Launch) (D : va_G) (q : Nat → Nat) (cA : ClassId) (N : Nat) (sz : Nat) (mr : Nat → Int32) (zn : Int32) (zs : Nat → Int32) (tn : Int32) (ts : Nat → Int32) (yn : Int32) (ys : Nat → Int32) (en : Int32) (es : Nat → Int32) (ew : Int32) (cv : Nat → Int32) (a1 : Int32) (n : Nat) (r : Int32) (en_1 : Int32) (es_1 : Nat → Int32) (ew_1 : Int32) (hm : mM_obstacle N mr n 0 [a1] en es ew = some (r, en_1, es_1, ew_1)) : Met l yXM_obstacle wsXM_obstacle ({ frames := 5, cells := 0, slots := 0, locals := 119 }) (kPc D cA [.ref (q 0), .int a1] (wM q cA N mr zn zs tn ts yn ys en es ew cv) sz) (kQi D cA kT (va_A (wM q cA N mr zn zs tn ts yn ys en es ew cv) sz) (wM q cA N mr zn zs tn ts yn ys en_1 es_1 ew_1 cv) r) 0 0 (va_A (wM q cA N mr zn zs tn ts yn ys en es ew cv) sz) := by
  refine k_met (D := D) (cA := cA) (w := (wM q cA N mr zn zs tn ts yn ys en es ew cv)) (sz := sz) (av := [.ref (q 0), .int a1]) (cc := cXM_obstacle) (maxL := 5) (ret := (some .int)) (Qc := fun A => kQi D cA kT A (wM q cA N mr zn zs tn ts yn ys en_1 es_1 ew_1 cv) r) (by decide) rfl (Nat.le_of_ble_eq_true rfl) ?_
  intro p e s m below meth c A ls hX hK hN hA hP hD hl
  obtain ⟨hx, hb, hr, hml, hown, hts, hlocks, -⟩ := hX
  have hown : s.vm.findClass RXM = some m.cls := hown
  have hl : lv_has ls 5 [(0, .ref (q 0)), (1, .int a1)] := hl
  have hts : ∀ w ∈ W0, w.before _ s = true := fun w h => hts w (List.mem_cons_of_mem _ h)
  have key : ∀ n : Nat, (∀ (x1 : Int32) (en : Int32) (es : Nat → Int32) (ew : Int32) (r : Int32) (en_1 : Int32) (es_1 : Nat → Int32) (ew_1 : Int32) (H : Heap) (locs : List Loc) (ls : Array Slot), mM_obstacle N mr n 0 [x1] en es ew = some (r, en_1, es_1, ew_1) → va_P D vwCl (wM q cA N mr zn zs tn ts yn ys en es ew cv) H → va_D A (wM q cA N mr zn zs tn ts yn ys en es ew cv) → va_S A s.heap H locs → lv_has ls 5 [(0, .ref (q 0)), (1, .int x1)] → W p l e ({ frames := 5, cells := 0, slots := 0, locals := 119 }) s m ([.ref (q 0), .int a1] : List Value).toArray below meth c H locs 0 0 (MQ below (kQi D cA kT A (wM q cA N mr zn zs tn ts yn ys en_1 es_1 ew_1 cv) r) ([.ref (q 0), .int a1] : List Value).toArray s 0 0 A) (F0 m 0 ls [])) ∧
    (∀ (x3 : Int32) (en : Int32) (es : Nat → Int32) (ew : Int32) (r : Int32) (en_1 : Int32) (es_1 : Nat → Int32) (ew_1 : Int32) (H : Heap) (locs : List Loc) (ls : Array Slot), mM_obstacle N mr n 1 [x3] en es ew = some (r, en_1, es_1, ew_1) → va_P D vwCl (wM q cA N mr zn zs tn ts yn ys en es ew cv) H → va_D A (wM q cA N mr zn zs tn ts yn ys en es ew cv) → va_S A s.heap H locs → lv_has ls 5 [(3, .int x3)] → W p l e ({ frames := 5, cells := 0, slots := 0, locals := 119 }) s m ([.ref (q 0), .int a1] : List Value).toArray below meth c H locs 0 0 (MQ below (kQi D cA kT A (wM q cA N mr zn zs tn ts yn ys en_1 es_1 ew_1 cv) r) ([.ref (q 0), .int a1] : List Value).toArray s 0 0 A) (F0 m 47 ls [])) := by
    intro n
    induction n with
    | zero => exact ⟨(by intros; rename_i h _ _ _ _; rw [mM_obstacle_z] at h; cases h), (by intros; rename_i h _ _ _ _; rw [mM_obstacle_z] at h; cases h)⟩
    | succ n ih =>
      obtain ⟨ih0, ih1⟩ := ih
      refine ⟨?_, ?_⟩
      · intro x1 en es ew r en_1 es_1 ew_1 H locs ls hm hP hD hS hl
        rw [mM_obstacle_e0] at hm
        refine lv_aload_n hx hb dXM_obstacle_0 rfl (lv_at hl 0 rfl) ?_
        refine lv_iload_n hx hb dXM_obstacle_1 rfl (lv_at hl 1 rfl) ?_
        obtain ⟨⟨r11, en_11, es_11, ew_11⟩, hm11, hm⟩ := kb_s hm
        dsimp only at hm
        refine k_vi (As := [.int x1]) (rest := []) (w2 := (wM q cA N mr zn zs tn ts yn ys en_11 es_11 ew_11 cv)) ⟨hx, hb, hml, hown, hts⟩ (cM_obstruction l D q cA N H.size mr zn zs tn ts yn ys en es ew cv x1 n r11 en_11 es_11 ew_11 hm11) (cwV 1 hts (gV wd_532 wd_525 wd_526 wd_41 wd_527) rfl rfl rfl (by decide +kernel) ⟨Nat.le_of_ble_eq_true rfl, Nat.le_of_ble_eq_true rfl⟩) hK hN hP hD hS hA [0, 1, 2, 3, 4, 5, 6] [] [0, 1, 2, 3, 4, 5, 6] ⟨rfl, rfl, by decide, rfl, by decide, by decide, rfl, rfl, by decide⟩ (va_recv hK hP (ci := 5) (q0 := 0) rfl rfl) rfl hl.1 rfl (Nat.le_of_ble_eq_true rfl) dXM_obstacle_2 ⟨Nat.le_of_ble_eq_true rfl, Nat.le_of_ble_eq_true rfl⟩ (fun hz11 H locs hP hD hS => ?_)
        refine lv_istore_n (lv' := [(2, .int r11), (0, .ref (q 0)), (1, .int x1)]) hx hb dXM_obstacle_5 rfl hl (by decide) rfl (fun ls hl => ?_)
        refine lv_iload_n hx hb dXM_obstacle_6 rfl (lv_at hl 0 rfl) ?_
        refine lv_iconst (v := (-1)) hx hb dXM_obstacle_7 (by decide) ?_
        refine lv_icmp_ne (tgt := 13) hx hb dXM_obstacle_8 (by decide) (fun c12 => ?_) (fun c12 => ?_)
        · rw [if_neg c12] at hm
          refine lv_iload_n hx hb dXM_obstacle_13 rfl (lv_at hl 0 rfl) ?_
          obtain ⟨r13, hm13, hm⟩ := kb_s hm
          refine k_s0 (As := [.int r11]) (rest := []) ⟨hx, hb, hml, hown, hts⟩ (cM_size l D cA H.size r11 n r13 hm13) (cwS 1 hts (gS wd_446 wd_447 wd_41 wd_448) rfl rfl rfl (by decide +kernel) ⟨Nat.le_of_ble_eq_true rfl, Nat.le_of_ble_eq_true rfl⟩) hK hN hP hD hS hA rfl hl.1 rfl (Nat.le_of_ble_eq_true rfl) dXM_obstacle_14 ⟨Nat.le_of_ble_eq_true rfl, Nat.le_of_ble_eq_true rfl⟩ (fun hz13 H locs hP hD hS => ?_)
          refine lv_istore_n (lv' := [(3, .int r13), (2, .int r11), (0, .ref (q 0)), (1, .int x1)]) hx hb dXM_obstacle_17 rfl hl (by decide) rfl (fun ls hl => ?_)
          refine lv_aload_n hx hb dXM_obstacle_18 rfl (lv_at hl 2 rfl) ?_
          refine lv_iload_n hx hb dXM_obstacle_19 rfl (lv_at hl 1 rfl) ?_
          obtain ⟨r14, hm14, hm⟩ := kb_s hm
          refine k_vi (As := [.int r11]) (rest := []) (w2 := (wM q cA N mr zn zs tn ts yn ys en_11 es_11 ew_11 cv)) ⟨hx, hb, hml, hown, hts⟩ (cM_edges l D q cA N H.size mr zn zs tn ts yn ys en_11 es_11 ew_11 cv r11 n r14 hm14) (cwV 1 hts (gV wd_533 wd_534 wd_32 wd_41 wd_535) rfl rfl rfl (by decide +kernel) ⟨Nat.le_of_ble_eq_true rfl, Nat.le_of_ble_eq_true rfl⟩) hK hN hP hD hS hA [0, 1, 2, 3, 4, 5, 6] [] [0, 1, 2, 3, 4, 5, 6] ⟨rfl, rfl, by decide, rfl, by decide, by decide, rfl, rfl, by decide⟩ (va_recv hK hP (ci := 5) (q0 := 0) rfl rfl) rfl hl.1 rfl (Nat.le_of_ble_eq_true rfl) dXM_obstacle_20 ⟨Nat.le_of_ble_eq_true rfl, Nat.le_of_ble_eq_true rfl⟩ (fun hz14 H locs hP hD hS => ?_)
          refine lv_istore (lv' := [(4, .int r14), (3, .int r13), (2, .int r11), (0, .ref (q 0)), (1, .int x1)]) hx hb dXM_obstacle_23 hl (by decide) rfl (fun ls hl => ?_)
          refine lv_iload hx hb dXM_obstacle_25 (lv_at hl 0 rfl) ?_
          refine lv_iload_n hx hb dXM_obstacle_27 rfl (lv_at hl 1 rfl) ?_
          refine lv_icmp_ne (tgt := 33) hx hb dXM_obstacle_28 (by decide) (fun c15 => ?_) (fun c15 => ?_)
          · rw [if_neg c15] at hm
            refine lv_iload_n hx hb dXM_obstacle_33 rfl (lv_at hl 1 rfl) ?_
            refine lv_iconst (v := 5) hx hb dXM_obstacle_34 (by decide) ?_
            refine lv_icmp_ne (tgt := 47) hx hb dXM_obstacle_35 (by decide) (fun c16 => ?_) (fun c16 => ?_)
            · rw [if_neg c16] at hm
              exact ih1 r13 en_11 es_11 ew_11 _ _ _ _ H locs ls hm hP hD hS (lv_sub hl [1] rfl)
            · rw [if_pos c16] at hm
              refine lv_iload hx hb dXM_obstacle_38 (lv_at hl 0 rfl) ?_
              refine lv_bipush (v := 6) hx hb dXM_obstacle_40 (by decide) ?_
              refine lv_icmp_ne (tgt := 47) hx hb dXM_obstacle_42 (by decide) (fun c17 => ?_) (fun c17 => ?_)
              · rw [if_neg c17] at hm
                exact ih1 r13 en_11 es_11 ew_11 _ _ _ _ H locs ls hm hP hD hS (lv_sub hl [1] rfl)
              · rw [if_pos c17] at hm
                refine lv_iconst (v := 2) hx hb dXM_obstacle_45 (by decide) ?_
                cases hm
                exact k_iret hx hb hr hlocks hK hP hD hS trivial dXM_obstacle_46
          · rw [if_pos c15] at hm
            refine lv_iconst (v := 1) hx hb dXM_obstacle_31 (by decide) ?_
            cases hm
            exact k_iret hx hb hr hlocks hK hP hD hS trivial dXM_obstacle_32
        · rw [if_pos c12] at hm
          refine lv_iconst (v := (-1)) hx hb dXM_obstacle_11 (by decide) ?_
          cases hm
          exact k_iret hx hb hr hlocks hK hP hD hS trivial dXM_obstacle_12
      · intro x3 en es ew r en_1 es_1 ew_1 H locs ls hm hP hD hS hl
        rw [mM_obstacle_e1] at hm
        refine lv_iload_n hx hb dXM_obstacle_47 rfl (lv_at hl 0 rfl) ?_
        refine lv_iconst (v := 5) hx hb dXM_obstacle_48 (by decide) ?_
        refine lv_icmp_ne (tgt := 56) hx hb dXM_obstacle_49 (by decide) (fun c111 => ?_) (fun c111 => ?_)
        · rw [if_neg c111] at hm
          refine lv_iconst (v := 4) hx hb dXM_obstacle_56 (by decide) ?_
          cases hm
          exact k_iret hx hb hr hlocks hK hP hD hS trivial dXM_obstacle_57
        · rw [if_pos c111] at hm
          refine lv_iconst (v := 3) hx hb dXM_obstacle_52 (by decide) ?_
          refine lv_goto (tgt := 57) hx hb dXM_obstacle_53 (by decide) ?_
          cases hm
          exact k_iret hx hb hr hlocks hK hP hD hS trivial dXM_obstacle_57
  exact (key n).1 a1 en es ew r en_1 es_1 ew_1 s.heap [] ls hm hP hD va_S.rf hl
set_option maxHeartbeats 4000000 in
set_option maxRecDepth 100000 in
theorem cM_best (l : Launch) (D : va_G) (q : Nat → Nat) (cA : ClassId) (N : Nat) (sz : Nat) (mr : Nat → Int32) (zn : Int32) (zs : Nat → Int32) (tn : Int32) (ts : Nat → Int32) (yn : Int32) (ys : Nat → Int32) (en : Int32) (es : Nat → Int32) (ew : Int32) (cv : Nat → Int32) (a1 a2 : Int32) (n : Nat) (r : Int32) (hm : mM_best N mr n 0 [a1, a2] = some r) : Met l yXM_best wsXM_best ({ frames := 2, cells := 0, slots := 0, locals := 45 }) (kPc D cA [.ref (q 0), .int a1, .int a2] (wM q cA N mr zn zs tn ts yn ys en es ew cv) sz) (kQi D cA kT (va_A (wM q cA N mr zn zs tn ts yn ys en es ew cv) sz) (wM q cA N mr zn zs tn ts yn ys en es ew cv) r) 0 0 (va_A (wM q cA N mr zn zs tn ts yn ys en es ew cv) sz) := by
  refine k_met (D := D) (cA := cA) (w := (wM q cA N mr zn zs tn ts yn ys en es ew cv)) (sz := sz) (av := [.ref (q 0), .int a1, .int a2]) (cc := cXM_best) (maxL := 6) (ret := (some .int)) (Qc := fun A => kQi D cA kT A (wM q cA N mr zn zs tn ts yn ys en es ew cv) r) (by decide) rfl (Nat.le_of_ble_eq_true rfl) ?_
  intro p e s m below meth c A ls hX hK hN hA hP hD hl
  obtain ⟨hx, hb, hr, hml, hown, hts, hlocks, -⟩ := hX
  have hown : s.vm.findClass RXM = some m.cls := hown
  have hl : lv_has ls 6 [(0, .ref (q 0)), (1, .int a1), (2, .int a2)] := hl
  have hts : ∀ w ∈ W0, w.before _ s = true := fun w h => hts w (List.mem_cons_of_mem _ h)
  have key : ∀ n : Nat, (∀ (x1 x2 : Int32) (r : Int32) (H : Heap) (locs : List Loc) (ls : Array Slot), mM_best N mr n 0 [x1, x2] = some r → va_P D vwCl (wM q cA N mr zn zs tn ts yn ys en es ew cv) H → va_D A (wM q cA N mr zn zs tn ts yn ys en es ew cv) → va_S A s.heap H locs → lv_has ls 6 [(0, .ref (q 0)), (1, .int x1), (2, .int x2)] → W p l e ({ frames := 2, cells := 0, slots := 0, locals := 45 }) s m ([.ref (q 0), .int a1, .int a2] : List Value).toArray below meth c H locs 0 0 (MQ below (kQi D cA kT A (wM q cA N mr zn zs tn ts yn ys en es ew cv) r) ([.ref (q 0), .int a1, .int a2] : List Value).toArray s 0 0 A) (F0 m 0 ls [])) ∧
    (∀ (x1 x2 x3 x4 x5 : Int32) (r : Int32) (H : Heap) (locs : List Loc) (ls : Array Slot), mM_best N mr n 1 [x1, x2, x3, x4, x5] = some r → va_P D vwCl (wM q cA N mr zn zs tn ts yn ys en es ew cv) H → va_D A (wM q cA N mr zn zs tn ts yn ys en es ew cv) → va_S A s.heap H locs → lv_has ls 6 [(0, .ref (q 0)), (1, .int x1), (2, .int x2), (3, .int x3), (4, .int x4), (5, .int x5)] → W p l e ({ frames := 2, cells := 0, slots := 0, locals := 45 }) s m ([.ref (q 0), .int a1, .int a2] : List Value).toArray below meth c H locs 0 0 (MQ below (kQi D cA kT A (wM q cA N mr zn zs tn ts yn ys en es ew cv) r) ([.ref (q 0), .int a1, .int a2] : List Value).toArray s 0 0 A) (F0 m 8 ls [])) := by
    intro n
    induction n with
    | zero => exact ⟨(by intros; rename_i h _ _ _ _; rw [mM_best_z] at h; cases h), (by intros; rename_i h _ _ _ _; rw [mM_best_z] at h; cases h)⟩
    | succ n ih =>
      obtain ⟨ih0, ih1⟩ := ih
      refine ⟨?_, ?_⟩
      · intro x1 x2 r H locs ls hm hP hD hS hl
        rw [mM_best_e0] at hm
        refine lv_iconst (v := 0) hx hb dXM_best_0 (by decide) ?_
        refine lv_istore_n (lv' := [(3, .int 0), (0, .ref (q 0)), (1, .int x1), (2, .int x2)]) hx hb dXM_best_1 rfl hl (by decide) rfl (fun ls hl => ?_)
        refine lv_iconst (v := 0) hx hb dXM_best_2 (by decide) ?_
        refine lv_istore (lv' := [(4, .int 0), (3, .int 0), (0, .ref (q 0)), (1, .int x1), (2, .int x2)]) hx hb dXM_best_3 hl (by decide) rfl (fun ls hl => ?_)
        refine lv_iconst (v := 1) hx hb dXM_best_5 (by decide) ?_
        refine lv_istore (lv' := [(5, .int 1), (4, .int 0), (3, .int 0), (0, .ref (q 0)), (1, .int x1), (2, .int x2)]) hx hb dXM_best_6 hl (by decide) rfl (fun ls hl => ?_)
        exact ih1 x1 x2 0 0 1 _ H locs ls hm hP hD hS (lv_sub hl [3, 4, 5, 2, 1, 0] rfl)
      · intro x1 x2 x3 x4 x5 r H locs ls hm hP hD hS hl
        rw [mM_best_e1] at hm
        refine lv_iload hx hb dXM_best_8 (lv_at hl 5 rfl) ?_
        refine lv_sipush (v := 512) hx hb dXM_best_10 (by decide) ?_
        refine lv_icmp_ge (tgt := 59) hx hb dXM_best_13 (by decide) (fun c111 => ?_) (fun c111 => ?_)
        · rw [if_pos c111] at hm
          refine lv_iload_n hx hb dXM_best_59 rfl (lv_at hl 2 rfl) ?_
          refine lv_if_eq (tgt := 68) hx hb dXM_best_60 (by decide) (fun c112 => ?_) (fun c112 => ?_)
          · rw [if_pos c112] at hm
            refine lv_iload_n hx hb dXM_best_68 rfl (lv_at hl 3 rfl) ?_
            cases hm
            exact k_iret hx hb hr hlocks hK hP hD hS trivial dXM_best_69
          · rw [if_neg c112] at hm
            refine lv_iload hx hb dXM_best_63 (lv_at hl 4 rfl) ?_
            refine lv_goto (tgt := 69) hx hb dXM_best_65 (by decide) ?_
            cases hm
            exact k_iret hx hb hr hlocks hK hP hD hS trivial dXM_best_69
        · rw [if_neg c111] at hm
          refine lv_iload hx hb dXM_best_16 (lv_at hl 5 rfl) ?_
          refine lv_iload_n hx hb dXM_best_18 rfl (lv_at hl 1 rfl) ?_
          refine lv_iconst (v := (-1)) hx hb dXM_best_19 (by decide) ?_
          refine lv_ixor hx hb dXM_best_20 ?_
          refine lv_iand hx hb dXM_best_21 ?_
          refine lv_if_ne (tgt := 53) hx hb dXM_best_22 (by decide) (fun c113 => ?_) (fun c113 => ?_)
          · rw [if_neg c113] at hm
            refine lv_iinc (v := (x5 + 1)) (lv' := [(5, .int (x5 + 1)), (0, .ref (q 0)), (1, .int x1), (2, .int x2), (3, .int x3), (4, .int x4)]) hx hb dXM_best_53 hl (k := 5) rfl rfl (by decide) rfl (fun ls hl => ?_)
            refine lv_goto (tgt := 8) hx hb dXM_best_56 (by decide) ?_
            exact ih1 x1 x2 x3 x4 (x5 + 1) _ H locs ls hm hP hD hS (lv_sub hl [1, 2, 3, 4, 5, 0] rfl)
          · rw [if_pos c113] at hm
            refine lv_aload_n hx hb dXM_best_25 rfl (lv_at hl 0 rfl) ?_
            refine lv_iload hx hb dXM_best_26 (lv_at hl 5 rfl) ?_
            obtain ⟨r114, hm114, hm⟩ := kb_s hm
            refine k_vi (As := [.int x5]) (rest := []) (w2 := (wM q cA N mr zn zs tn ts yn ys en es ew cv)) ⟨hx, hb, hml, hown, hts⟩ (cM_edges l D q cA N H.size mr zn zs tn ts yn ys en es ew cv x5 n r114 hm114) (cwV 1 hts (gV wd_533 wd_534 wd_32 wd_41 wd_535) rfl rfl rfl (by decide +kernel) ⟨Nat.le_of_ble_eq_true rfl, Nat.le_of_ble_eq_true rfl⟩) hK hN hP hD hS hA [0, 1, 2, 3, 4, 5, 6] [] [0, 1, 2, 3, 4, 5, 6] ⟨rfl, rfl, by decide, rfl, by decide, by decide, rfl, rfl, by decide⟩ (va_recv hK hP (ci := 5) (q0 := 0) rfl rfl) rfl hl.1 rfl (Nat.le_of_ble_eq_true rfl) dXM_best_28 ⟨Nat.le_of_ble_eq_true rfl, Nat.le_of_ble_eq_true rfl⟩ (fun hz114 H locs hP hD hS => ?_)
            refine lv_if_ne (tgt := 53) hx hb dXM_best_31 (by decide) (fun c115 => ?_) (fun c115 => ?_)
            · rw [if_neg c115] at hm
              refine lv_iinc (v := (x5 + 1)) (lv' := [(5, .int (x5 + 1)), (0, .ref (q 0)), (1, .int x1), (2, .int x2), (3, .int x3), (4, .int x4)]) hx hb dXM_best_53 hl (k := 5) rfl rfl (by decide) rfl (fun ls hl => ?_)
              refine lv_goto (tgt := 8) hx hb dXM_best_56 (by decide) ?_
              exact ih1 x1 x2 x3 x4 (x5 + 1) _ H locs ls hm hP hD hS (lv_sub hl [1, 2, 3, 4, 5, 0] rfl)
            · rw [if_pos c115] at hm
              refine lv_iload hx hb dXM_best_34 (lv_at hl 5 rfl) ?_
              obtain ⟨r116, hm116, hm⟩ := kb_s hm
              refine k_s0 (As := [.int x5]) (rest := []) ⟨hx, hb, hml, hown, hts⟩ (cM_size l D cA H.size x5 n r116 hm116) (cwS 1 hts (gS wd_446 wd_447 wd_41 wd_448) rfl rfl rfl (by decide +kernel) ⟨Nat.le_of_ble_eq_true rfl, Nat.le_of_ble_eq_true rfl⟩) hK hN hP hD hS hA rfl hl.1 rfl (Nat.le_of_ble_eq_true rfl) dXM_best_36 ⟨Nat.le_of_ble_eq_true rfl, Nat.le_of_ble_eq_true rfl⟩ (fun hz116 H locs hP hD hS => ?_)
              refine lv_iload_n hx hb dXM_best_39 rfl (lv_at hl 3 rfl) ?_
              refine lv_icmp_le (tgt := 53) hx hb dXM_best_40 (by decide) (fun c117 => ?_) (fun c117 => ?_)
              · rw [if_pos c117] at hm
                refine lv_iinc (v := (x5 + 1)) (lv' := [(5, .int (x5 + 1)), (0, .ref (q 0)), (1, .int x1), (2, .int x2), (3, .int x3), (4, .int x4)]) hx hb dXM_best_53 hl (k := 5) rfl rfl (by decide) rfl (fun ls hl => ?_)
                refine lv_goto (tgt := 8) hx hb dXM_best_56 (by decide) ?_
                exact ih1 x1 x2 x3 x4 (x5 + 1) _ H locs ls hm hP hD hS (lv_sub hl [1, 2, 3, 4, 5, 0] rfl)
              · rw [if_neg c117] at hm
                refine lv_iload hx hb dXM_best_43 (lv_at hl 5 rfl) ?_
                obtain ⟨r118, hm118, hm⟩ := kb_s hm
                refine k_s0 (As := [.int x5]) (rest := []) ⟨hx, hb, hml, hown, hts⟩ (cM_size l D cA H.size x5 n r118 hm118) (cwS 1 hts (gS wd_446 wd_447 wd_41 wd_448) rfl rfl rfl (by decide +kernel) ⟨Nat.le_of_ble_eq_true rfl, Nat.le_of_ble_eq_true rfl⟩) hK hN hP hD hS hA rfl hl.1 rfl (Nat.le_of_ble_eq_true rfl) dXM_best_45 ⟨Nat.le_of_ble_eq_true rfl, Nat.le_of_ble_eq_true rfl⟩ (fun hz118 H locs hP hD hS => ?_)
                refine lv_istore_n (lv' := [(3, .int r118), (0, .ref (q 0)), (1, .int x1), (2, .int x2), (4, .int x4), (5, .int x5)]) hx hb dXM_best_48 rfl hl (by decide) rfl (fun ls hl => ?_)
                refine lv_iload hx hb dXM_best_49 (lv_at hl 5 rfl) ?_
                refine lv_istore (lv' := [(4, .int x5), (3, .int r118), (0, .ref (q 0)), (1, .int x1), (2, .int x2), (5, .int x5)]) hx hb dXM_best_51 hl (by decide) rfl (fun ls hl => ?_)
                refine lv_iinc (v := (x5 + 1)) (lv' := [(5, .int (x5 + 1)), (4, .int x5), (3, .int r118), (0, .ref (q 0)), (1, .int x1), (2, .int x2)]) hx hb dXM_best_53 hl (k := 5) rfl rfl (by decide) rfl (fun ls hl => ?_)
                refine lv_goto (tgt := 8) hx hb dXM_best_56 (by decide) ?_
                exact ih1 x1 x2 r118 x5 (x5 + 1) _ H locs ls hm hP hD hS (lv_sub hl [3, 4, 5, 2, 1, 0] rfl)
  exact (key n).1 a1 a2 r s.heap [] ls hm hP hD va_S.rf hl
set_option maxHeartbeats 4000000 in
set_option maxRecDepth 100000 in
theorem cM_apart (l : Launch) (D : va_G) (q : Nat → Nat) (cA : ClassId) (N : Nat) (sz : Nat) (mr : Nat → Int32) (zn : Int32) (zs : Nat → Int32) (tn : Int32) (ts : Nat → Int32) (yn : Int32) (ys : Nat → Int32) (en : Int32) (es : Nat → Int32) (ew : Int32) (cv : Nat → Int32) (a1 : Int32) (n : Nat) (r : Int32) (en_1 : Int32) (es_1 : Nat → Int32) (ew_1 : Int32) (hm : mM_apart N mr n 0 [a1] en es ew = some (r, en_1, es_1, ew_1)) : Met l yXM_apart wsXM_apart ({ frames := 5, cells := 0, slots := 0, locals := 116 }) (kPc D cA [.ref (q 0), .int a1] (wM q cA N mr zn zs tn ts yn ys en es ew cv) sz) (kQi D cA kT (va_A (wM q cA N mr zn zs tn ts yn ys en es ew cv) sz) (wM q cA N mr zn zs tn ts yn ys en_1 es_1 ew_1 cv) r) 0 0 (va_A (wM q cA N mr zn zs tn ts yn ys en es ew cv) sz) := by
  refine k_met (D := D) (cA := cA) (w := (wM q cA N mr zn zs tn ts yn ys en es ew cv)) (sz := sz) (av := [.ref (q 0), .int a1]) (cc := cXM_apart) (maxL := 2) (ret := (some .int)) (Qc := fun A => kQi D cA kT A (wM q cA N mr zn zs tn ts yn ys en_1 es_1 ew_1 cv) r) (by decide) rfl (Nat.le_of_ble_eq_true rfl) ?_
  intro p e s m below meth c A ls hX hK hN hA hP hD hl
  obtain ⟨hx, hb, hr, hml, hown, hts, hlocks, -⟩ := hX
  have hown : s.vm.findClass RXM = some m.cls := hown
  have hl : lv_has ls 2 [(0, .ref (q 0)), (1, .int a1)] := hl
  have hts : ∀ w ∈ W0, w.before _ s = true := fun w h => hts w (List.mem_cons_of_mem _ h)
  have key : ∀ n : Nat, (∀ (x1 : Int32) (en : Int32) (es : Nat → Int32) (ew : Int32) (r : Int32) (en_1 : Int32) (es_1 : Nat → Int32) (ew_1 : Int32) (H : Heap) (locs : List Loc) (ls : Array Slot), mM_apart N mr n 0 [x1] en es ew = some (r, en_1, es_1, ew_1) → va_P D vwCl (wM q cA N mr zn zs tn ts yn ys en es ew cv) H → va_D A (wM q cA N mr zn zs tn ts yn ys en es ew cv) → va_S A s.heap H locs → lv_has ls 2 [(0, .ref (q 0)), (1, .int x1)] → W p l e ({ frames := 5, cells := 0, slots := 0, locals := 116 }) s m ([.ref (q 0), .int a1] : List Value).toArray below meth c H locs 0 0 (MQ below (kQi D cA kT A (wM q cA N mr zn zs tn ts yn ys en_1 es_1 ew_1 cv) r) ([.ref (q 0), .int a1] : List Value).toArray s 0 0 A) (F0 m 0 ls [])) := by
    intro n
    induction n with
    | zero => exact (by intros; rename_i h _ _ _ _; rw [mM_apart_z] at h; cases h)
    | succ n ih =>
      have ih0 := ih
      intro x1 en es ew r en_1 es_1 ew_1 H locs ls hm hP hD hS hl
      rw [mM_apart_e0] at hm
      refine lv_aload_n hx hb dXM_apart_0 rfl (lv_at hl 0 rfl) ?_
      refine lv_iload_n hx hb dXM_apart_1 rfl (lv_at hl 1 rfl) ?_
      obtain ⟨⟨r11, en_11, es_11, ew_11⟩, hm11, hm⟩ := kb_s hm
      dsimp only at hm
      refine k_vi (As := [.int x1]) (rest := []) (w2 := (wM q cA N mr zn zs tn ts yn ys en_11 es_11 ew_11 cv)) ⟨hx, hb, hml, hown, hts⟩ (cM_hereditary l D q cA N H.size mr zn zs tn ts yn ys en es ew cv x1 n r11 en_11 es_11 ew_11 hm11) (cwV 1 hts (gV wd_540 wd_508 wd_509 wd_41 wd_510) rfl rfl rfl (by decide +kernel) ⟨Nat.le_of_ble_eq_true rfl, Nat.le_of_ble_eq_true rfl⟩) hK hN hP hD hS hA [0, 1, 2, 3, 4, 5, 6] [] [0, 1, 2, 3, 4, 5, 6] ⟨rfl, rfl, by decide, rfl, by decide, by decide, rfl, rfl, by decide⟩ (va_recv hK hP (ci := 5) (q0 := 0) rfl rfl) rfl hl.1 rfl (Nat.le_of_ble_eq_true rfl) dXM_apart_2 ⟨Nat.le_of_ble_eq_true rfl, Nat.le_of_ble_eq_true rfl⟩ (fun hz11 H locs hP hD hS => ?_)
      refine lv_if_eq (tgt := 21) hx hb dXM_apart_5 (by decide) (fun c12 => ?_) (fun c12 => ?_)
      · rw [if_pos c12] at hm
        refine lv_iconst (v := (-1)) hx hb dXM_apart_21 (by decide) ?_
        cases hm
        exact k_iret hx hb hr hlocks hK hP hD hS trivial dXM_apart_22
      · rw [if_neg c12] at hm
        refine lv_aload_n hx hb dXM_apart_8 rfl (lv_at hl 0 rfl) ?_
        refine lv_aload_n hx hb dXM_apart_9 rfl (lv_at hl 0 rfl) ?_
        refine lv_iload_n hx hb dXM_apart_10 rfl (lv_at hl 1 rfl) ?_
        obtain ⟨r13, hm13, hm⟩ := kb_s hm
        refine k_vi (As := [.int x1]) (rest := [.ref (q 0)]) (w2 := (wM q cA N mr zn zs tn ts yn ys en_11 es_11 ew_11 cv)) ⟨hx, hb, hml, hown, hts⟩ (cM_component l D q cA N H.size mr zn zs tn ts yn ys en_11 es_11 ew_11 cv x1 n r13 hm13) (cwV 1 hts (gV wd_439 wd_429 wd_430 wd_41 wd_431) rfl rfl rfl (by decide +kernel) ⟨Nat.le_of_ble_eq_true rfl, Nat.le_of_ble_eq_true rfl⟩) hK hN hP hD hS hA [0, 1, 2, 3, 4, 5, 6] [] [0, 1, 2, 3, 4, 5, 6] ⟨rfl, rfl, by decide, rfl, by decide, by decide, rfl, rfl, by decide⟩ (va_recv hK hP (ci := 5) (q0 := 0) rfl rfl) rfl hl.1 rfl (Nat.le_of_ble_eq_true rfl) dXM_apart_11 ⟨Nat.le_of_ble_eq_true rfl, Nat.le_of_ble_eq_true rfl⟩ (fun hz13 H locs hP hD hS => ?_)
        refine lv_iconst (v := 0) hx hb dXM_apart_14 (by decide) ?_
        obtain ⟨r14, hm14, hm⟩ := kb_s hm
        refine k_vi (As := [.int r13, .int 0]) (rest := []) (w2 := (wM q cA N mr zn zs tn ts yn ys en_11 es_11 ew_11 cv)) ⟨hx, hb, hml, hown, hts⟩ (cM_best l D q cA N H.size mr zn zs tn ts yn ys en_11 es_11 ew_11 cv r13 0 n r14 hm14) (cwV 2 hts (gV wd_541 wd_542 wd_33 wd_41 wd_543) rfl rfl rfl (by decide +kernel) ⟨Nat.le_of_ble_eq_true rfl, Nat.le_of_ble_eq_true rfl⟩) hK hN hP hD hS hA [0, 1, 2, 3, 4, 5, 6] [] [0, 1, 2, 3, 4, 5, 6] ⟨rfl, rfl, by decide, rfl, by decide, by decide, rfl, rfl, by decide⟩ (va_recv hK hP (ci := 5) (q0 := 0) rfl rfl) rfl hl.1 rfl (Nat.le_of_ble_eq_true rfl) dXM_apart_15 ⟨Nat.le_of_ble_eq_true rfl, Nat.le_of_ble_eq_true rfl⟩ (fun hz14 H locs hP hD hS => ?_)
        refine lv_goto (tgt := 22) hx hb dXM_apart_18 (by decide) ?_
        cases hm
        exact k_iret hx hb hr hlocks hK hP hD hS trivial dXM_apart_22
  exact key n a1 en es ew r en_1 es_1 ew_1 s.heap [] ls hm hP hD va_S.rf hl
