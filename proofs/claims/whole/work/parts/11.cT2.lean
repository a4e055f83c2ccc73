set_option maxHeartbeats 4000000 in
set_option maxRecDepth 100000 in
theorem cT_centreIndex (l : Launch) (D : va_G) (q : Nat → Nat) (cA : ClassId) (N : Nat) (sz : Nat) (nr : Nat → Int32) (ss : Nat → Int32) (sc : Int32) (ns : Nat → Int32) (nc : Int32) (ps : Nat → Int32) (dg : Nat → Int32) (pn : Int32) (pj : Int32) (wh : Int32) (n : Nat) (r : Int32) (hm : mT_centreIndex N dg pn pj n 0 [] = some r) : Met l yXT_centreIndex wsXT_centreIndex ({ frames := 0, cells := 0, slots := 0, locals := 0 }) (kPc D cA [.ref (q 5)] (wT q cA N nr ss sc ns nc ps dg pn pj wh) sz) (kQi D cA kT (va_A (wT q cA N nr ss sc ns nc ps dg pn pj wh) sz) (wT q cA N nr ss sc ns nc ps dg pn pj wh) r) 0 0 (va_A (wT q cA N nr ss sc ns nc ps dg pn pj wh) sz) := by
  refine k_met (D := D) (cA := cA) (w := (wT q cA N nr ss sc ns nc ps dg pn pj wh)) (sz := sz) (av := [.ref (q 5)]) (cc := cXT_centreIndex) (maxL := 2) (ret := (some .int)) (Qc := fun A => kQi D cA kT A (wT q cA N nr ss sc ns nc ps dg pn pj wh) r) (by decide) rfl (Nat.le_of_ble_eq_true rfl) ?_
  intro p e s m below meth c A ls hX hK hN hA hP hD hl
  obtain ⟨hx, hb, hr, hml, hown, hts, hlocks, -⟩ := hX
  have hown : s.vm.findClass RXT = some m.cls := hown
  have hl : lv_has ls 2 [(0, .ref (q 5))] := hl
  have hts : ∀ w ∈ W0, w.before _ s = true := fun w h => hts w (List.mem_cons_of_mem _ h)
  have key : ∀ n : Nat, (∀ (r : Int32) (H : Heap) (locs : List Loc) (ls : Array Slot), mT_centreIndex N dg pn pj n 0 [] = some r → va_P D vwCl (wT q cA N nr ss sc ns nc ps dg pn pj wh) H → va_D A (wT q cA N nr ss sc ns nc ps dg pn pj wh) → va_S A s.heap H locs → lv_has ls 2 [(0, .ref (q 5))] → W p l e ({ frames := 0, cells := 0, slots := 0, locals := 0 }) s m ([.ref (q 5)] : List Value).toArray below meth c H locs 0 0 (MQ below (kQi D cA kT A (wT q cA N nr ss sc ns nc ps dg pn pj wh) r) ([.ref (q 5)] : List Value).toArray s 0 0 A) (F0 m 0 ls [])) ∧
    (∀ (x1 : Int32) (r : Int32) (H : Heap) (locs : List Loc) (ls : Array Slot), mT_centreIndex N dg pn pj n 1 [x1] = some r → va_P D vwCl (wT q cA N nr ss sc ns nc ps dg pn pj wh) H → va_D A (wT q cA N nr ss sc ns nc ps dg pn pj wh) → va_S A s.heap H locs → lv_has ls 2 [(0, .ref (q 5)), (1, .int x1)] → W p l e ({ frames := 0, cells := 0, slots := 0, locals := 0 }) s m ([.ref (q 5)] : List Value).toArray below meth c H locs 0 0 (MQ below (kQi D cA kT A (wT q cA N nr ss sc ns nc ps dg pn pj wh) r) ([.ref (q 5)] : List Value).toArray s 0 0 A) (F0 m 2 ls [])) := by
    intro n
    induction n with
    | zero => exact ⟨(by intros; rename_i h _ _ _ _; rw [mT_centreIndex_z] at h; cases h), (by intros; rename_i h _ _ _ _; rw [mT_centreIndex_z] at h; cases h)⟩
    | succ n ih =>
      obtain ⟨ih0, ih1⟩ := ih
      refine ⟨?_, ?_⟩
      · intro r H locs ls hm hP hD hS hl
        rw [mT_centreIndex_e0] at hm
        refine lv_iconst (v := 0) hx hb dXT_centreIndex_0 (by decide) ?_
        refine lv_istore_n (lv' := [(1, .int 0), (0, .ref (q 5))]) hx hb dXT_centreIndex_1 rfl hl (by decide) rfl (fun ls hl => ?_)
        exact ih1 0 _ H locs ls hm hP hD hS (lv_sub hl [1, 0] rfl)
      · intro x1 r H locs ls hm hP hD hS hl
        rw [mT_centreIndex_e1] at hm
        refine lv_iload_n hx hb dXT_centreIndex_2 rfl (lv_at hl 1 rfl) ?_
        refine lv_aload_n hx hb dXT_centreIndex_3 rfl (lv_at hl 0 rfl) ?_
        refine va_get (D := D) (ci := 3) (v := .int pn) (C := RXT) (T := TXT) (N := 10) hx hb hts hinXT hown hK hP 0 rfl rfl 7 (by decide) (hts _ wd_80) (fun _ h9 => h9) rfl dXT_centreIndex_4 ?_
        refine lv_icmp_ge (tgt := 46) hx hb dXT_centreIndex_7 (by decide) (fun c111 => ?_) (fun c111 => ?_)
        · rw [if_pos c111] at hm
          refine lv_iconst (v := (-1)) hx hb dXT_centreIndex_46 (by decide) ?_
          cases hm
          exact k_iret hx hb hr hlocks hK hP hD hS trivial dXT_centreIndex_47
        · rw [if_neg c111] at hm
          refine lv_aload_n hx hb dXT_centreIndex_10 rfl (lv_at hl 0 rfl) ?_
          refine va_get (D := D) (ci := 3) (v := .ref (q 9)) (C := RXT) (T := TXT) (N := 10) hx hb hts hinXT hown hK hP 0 rfl rfl 6 (by decide) (hts _ wd_79) (fun _ h9 => h9) rfl dXT_centreIndex_11 ?_
          refine lv_iload_n hx hb dXT_centreIndex_14 rfl (lv_at hl 1 rfl) ?_
          obtain ⟨hg112, hm⟩ := kg_s hm
          refine va_iald hx hb hK hP 4 0 rfl rfl hg112 dXT_centreIndex_15 ?_
          refine lv_aload_n hx hb dXT_centreIndex_16 rfl (lv_at hl 0 rfl) ?_
          refine va_get (D := D) (ci := 3) (v := .int pn) (C := RXT) (T := TXT) (N := 10) hx hb hts hinXT hown hK hP 0 rfl rfl 7 (by decide) (hts _ wd_80) (fun _ h9 => h9) rfl dXT_centreIndex_17 ?_
          refine lv_iconst (v := 1) hx hb dXT_centreIndex_20 (by decide) ?_
          refine lv_isub hx hb dXT_centreIndex_21 ?_
          refine lv_icmp_ne (tgt := 40) hx hb dXT_centreIndex_22 (by decide) (fun c113 => ?_) (fun c113 => ?_)
          · rw [if_neg c113] at hm
            refine lv_iinc (v := (x1 + 1)) (lv' := [(1, .int (x1 + 1)), (0, .ref (q 5))]) hx hb dXT_centreIndex_40 hl (k := 1) rfl rfl (by decide) rfl (fun ls hl => ?_)
            refine lv_goto (tgt := 2) hx hb dXT_centreIndex_43 (by decide) ?_
            exact ih1 (x1 + 1) _ H locs ls hm hP hD hS (lv_sub hl [1, 0] rfl)
          · rw [if_pos c113] at hm
            refine lv_aload_n hx hb dXT_centreIndex_25 rfl (lv_at hl 0 rfl) ?_
            refine va_get (D := D) (ci := 3) (v := .int pj) (C := RXT) (T := TXT) (N := 10) hx hb hts hinXT hown hK hP 0 rfl rfl 8 (by decide) (hts _ wd_81) (fun _ h9 => h9) rfl dXT_centreIndex_26 ?_
            refine lv_aload_n hx hb dXT_centreIndex_29 rfl (lv_at hl 0 rfl) ?_
            refine va_get (D := D) (ci := 3) (v := .int pn) (C := RXT) (T := TXT) (N := 10) hx hb hts hinXT hown hK hP 0 rfl rfl 7 (by decide) (hts _ wd_80) (fun _ h9 => h9) rfl dXT_centreIndex_30 ?_
            refine lv_iconst (v := 1) hx hb dXT_centreIndex_33 (by decide) ?_
            refine lv_isub hx hb dXT_centreIndex_34 ?_
            refine lv_icmp_ne (tgt := 40) hx hb dXT_centreIndex_35 (by decide) (fun c114 => ?_) (fun c114 => ?_)
            · rw [if_neg c114] at hm
              refine lv_iinc (v := (x1 + 1)) (lv' := [(1, .int (x1 + 1)), (0, .ref (q 5))]) hx hb dXT_centreIndex_40 hl (k := 1) rfl rfl (by decide) rfl (fun ls hl => ?_)
              refine lv_goto (tgt := 2) hx hb dXT_centreIndex_43 (by decide) ?_
              exact ih1 (x1 + 1) _ H locs ls hm hP hD hS (lv_sub hl [1, 0] rfl)
            · rw [if_pos c114] at hm
              refine lv_iload_n hx hb dXT_centreIndex_38 rfl (lv_at hl 1 rfl) ?_
              cases hm
              exact k_iret hx hb hr hlocks hK hP hD hS trivial dXT_centreIndex_39
  exact (key n).1 r s.heap [] ls hm hP hD va_S.rf hl
set_option maxHeartbeats 4000000 in
set_option maxRecDepth 100000 in
theorem cT_nodeKind (l : Launch) (D : va_G) (q : Nat → Nat) (cA : ClassId) (N : Nat) (sz : Nat) (nr : Nat → Int32) (ss : Nat → Int32) (sc : Int32) (ns : Nat → Int32) (nc : Int32) (ps : Nat → Int32) (dg : Nat → Int32) (pn : Int32) (pj : Int32) (wh : Int32) (a1 : Int32) (n : Nat) (r : Int32) (ps_1 : Nat → Int32) (dg_1 : Nat → Int32) (pn_1 : Int32) (pj_1 : Int32) (hm : mT_nodeKind N nr ns nc wh n 0 [a1] ps dg pn pj = some (r, ps_1, dg_1, pn_1, pj_1)) : Met l yXT_nodeKind wsXT_nodeKind ({ frames := 4, cells := 0, slots := 0, locals := 94 }) (kPc D cA [.ref (q 5), .int a1] (wT q cA N nr ss sc ns nc ps dg pn pj wh) sz) (kQi D cA kT (va_A (wT q cA N nr ss sc ns nc ps dg pn pj wh) sz) (wT q cA N nr ss sc ns nc ps_1 dg_1 pn_1 pj_1 wh) r) 0 0 (va_A (wT q cA N nr ss sc ns nc ps dg pn pj wh) sz) := by
  refine k_met (D := D) (cA := cA) (w := (wT q cA N nr ss sc ns nc ps dg pn pj wh)) (sz := sz) (av := [.ref (q 5), .int a1]) (cc := cXT_nodeKind) (maxL := 2) (ret := (some .int)) (Qc := fun A => kQi D cA kT A (wT q cA N nr ss sc ns nc ps_1 dg_1 pn_1 pj_1 wh) r) (by decide) rfl (Nat.le_of_ble_eq_true rfl) ?_
  intro p e s m below meth c A ls hX hK hN hA hP hD hl
  obtain ⟨hx, hb, hr, hml, hown, hts, hlocks, -⟩ := hX
  have hown : s.vm.findClass RXT = some m.cls := hown
  have hl : lv_has ls 2 [(0, .ref (q 5)), (1, .int a1)] := hl
  have hts : ∀ w ∈ W0, w.before _ s = true := fun w h => hts w (List.mem_cons_of_mem _ h)
  have key : ∀ n : Nat, (∀ (x1 : Int32) (ps : Nat → Int32) (dg : Nat → Int32) (pn : Int32) (pj : Int32) (r : Int32) (ps_1 : Nat → Int32) (dg_1 : Nat → Int32) (pn_1 : Int32) (pj_1 : Int32) (H : Heap) (locs : List Loc) (ls : Array Slot), mT_nodeKind N nr ns nc wh n 0 [x1] ps dg pn pj = some (r, ps_1, dg_1, pn_1, pj_1) → va_P D vwCl (wT q cA N nr ss sc ns nc ps dg pn pj wh) H → va_D A (wT q cA N nr ss sc ns nc ps dg pn pj wh) → va_S A s.heap H locs → lv_has ls 2 [(0, .ref (q 5)), (1, .int x1)] → W p l e ({ frames := 4, cells := 0, slots := 0, locals := 94 }) s m ([.ref (q 5), .int a1] : List Value).toArray below meth c H locs 0 0 (MQ below (kQi D cA kT A (wT q cA N nr ss sc ns nc ps_1 dg_1 pn_1 pj_1 wh) r) ([.ref (q 5), .int a1] : List Value).toArray s 0 0 A) (F0 m 0 ls [])) := by
    intro n
    induction n with
    | zero => exact (by intros; rename_i h _ _ _ _; rw [mT_nodeKind_z] at h; cases h)
    | succ n ih =>
      have ih0 := ih
      intro x1 ps dg pn pj r ps_1 dg_1 pn_1 pj_1 H locs ls hm hP hD hS hl
      rw [mT_nodeKind_e0] at hm
      refine lv_aload_n hx hb dXT_nodeKind_0 rfl (lv_at hl 0 rfl) ?_
      refine lv_iload_n hx hb dXT_nodeKind_1 rfl (lv_at hl 1 rfl) ?_
      obtain ⟨⟨ps_11, dg_11, pn_11, pj_11⟩, hm11, hm⟩ := kb_s hm
      dsimp only at hm
      refine k_vv (As := [.int x1]) (rest := []) (w2 := (wT q cA N nr ss sc ns nc ps_11 dg_11 pn_11 pj_11 wh)) ⟨hx, hb, hml, hown, hts⟩ (cT_findJoins l D q cA N H.size nr ss sc ns nc ps dg pn pj wh x1 n ps_11 dg_11 pn_11 pj_11 hm11) (cwV 1 hts (gV wd_240 wd_241 wd_8 wd_38 wd_242) rfl rfl rfl (by decide +kernel) ⟨Nat.le_of_ble_eq_true rfl, Nat.le_of_ble_eq_true rfl⟩) hK hN hP hD hS hA [0, 1, 2, 3, 4, 5, 6] [] [0, 1, 2, 3, 4, 5, 6] ⟨rfl, rfl, by decide, rfl, by decide, by decide, rfl, rfl, by decide⟩ (va_recv hK hP (ci := 3) (q0 := 0) rfl rfl) rfl hl.1 rfl (Nat.le_of_ble_eq_true rfl) dXT_nodeKind_2 ⟨Nat.le_of_ble_eq_true rfl, Nat.le_of_ble_eq_true rfl⟩ (fun H locs hP hD hS => ?_)
      refine lv_aload_n hx hb dXT_nodeKind_5 rfl (lv_at hl 0 rfl) ?_
      refine va_get (D := D) (ci := 3) (v := .int pj_11) (C := RXT) (T := TXT) (N := 10) hx hb hts hinXT hown hK hP 0 rfl rfl 8 (by decide) (hts _ wd_81) (fun _ h9 => h9) rfl dXT_nodeKind_6 ?_
      refine lv_aload_n hx hb dXT_nodeKind_9 rfl (lv_at hl 0 rfl) ?_
      refine va_get (D := D) (ci := 3) (v := .int pn_11) (C := RXT) (T := TXT) (N := 10) hx hb hts hinXT hown hK hP 0 rfl rfl 7 (by decide) (hts _ wd_80) (fun _ h9 => h9) rfl dXT_nodeKind_10 ?_
      refine lv_aload_n hx hb dXT_nodeKind_13 rfl (lv_at hl 0 rfl) ?_
      refine va_get (D := D) (ci := 3) (v := .int pn_11) (C := RXT) (T := TXT) (N := 10) hx hb hts hinXT hown hK hP 0 rfl rfl 7 (by decide) (hts _ wd_80) (fun _ h9 => h9) rfl dXT_nodeKind_14 ?_
      refine lv_iconst (v := 1) hx hb dXT_nodeKind_17 (by decide) ?_
      refine lv_isub hx hb dXT_nodeKind_18 ?_
      refine lv_imul hx hb dXT_nodeKind_19 ?_
      refine lv_iconst (v := 2) hx hb dXT_nodeKind_20 (by decide) ?_
      refine lv_idiv hx hb dXT_nodeKind_21 (by decide) ?_
      refine lv_icmp_ne (tgt := 27) hx hb dXT_nodeKind_22 (by decide) (fun c12 => ?_) (fun c12 => ?_)
      · rw [if_neg c12] at hm
        refine lv_aload_n hx hb dXT_nodeKind_27 rfl (lv_at hl 0 rfl) ?_
        obtain ⟨r13, hm13, hm⟩ := kb_s hm
        refine k_vi (As := []) (rest := []) (w2 := (wT q cA N nr ss sc ns nc ps_11 dg_11 pn_11 pj_11 wh)) ⟨hx, hb, hml, hown, hts⟩ (cT_centreIndex l D q cA N H.size nr ss sc ns nc ps_11 dg_11 pn_11 pj_11 wh n r13 hm13) (cwV 0 hts (gV wd_256 wd_257 wd_12 wd_38 wd_258) rfl rfl rfl (by decide +kernel) ⟨Nat.le_of_ble_eq_true rfl, Nat.le_of_ble_eq_true rfl⟩) hK hN hP hD hS hA [0, 1, 2, 3, 4, 5, 6] [] [0, 1, 2, 3, 4, 5, 6] ⟨rfl, rfl, by decide, rfl, by decide, by decide, rfl, rfl, by decide⟩ (va_recv hK hP (ci := 3) (q0 := 0) rfl rfl) rfl hl.1 rfl (Nat.le_of_ble_eq_true rfl) dXT_nodeKind_28 ⟨Nat.le_of_ble_eq_true rfl, Nat.le_of_ble_eq_true rfl⟩ (fun hz13 H locs hP hD hS => ?_)
        refine lv_iconst (v := (-1)) hx hb dXT_nodeKind_31 (by decide) ?_
        refine lv_icmp_ne (tgt := 39) hx hb dXT_nodeKind_32 (by decide) (fun c14 => ?_) (fun c14 => ?_)
        · rw [if_neg c14] at hm
          refine lv_iconst (v := 2) hx hb dXT_nodeKind_39 (by decide) ?_
          cases hm
          exact k_iret hx hb hr hlocks hK hP hD hS trivial dXT_nodeKind_40
        · rw [if_pos c14] at hm
          refine lv_iconst (v := 3) hx hb dXT_nodeKind_35 (by decide) ?_
          refine lv_goto (tgt := 40) hx hb dXT_nodeKind_36 (by decide) ?_
          cases hm
          exact k_iret hx hb hr hlocks hK hP hD hS trivial dXT_nodeKind_40
      · rw [if_pos c12] at hm
        refine lv_iconst (v := 1) hx hb dXT_nodeKind_25 (by decide) ?_
        cases hm
        exact k_iret hx hb hr hlocks hK hP hD hS trivial dXT_nodeKind_26
  exact key n a1 ps dg pn pj r ps_1 dg_1 pn_1 pj_1 s.heap [] ls hm hP hD va_S.rf hl
set_option maxHeartbeats 4000000 in
set_option maxRecDepth 100000 in
theorem cT_partCount (l : Launch) (D : va_G) (q : Nat → Nat) (cA : ClassId) (N : Nat) (sz : Nat) (nr : Nat → Int32) (ss : Nat → Int32) (sc : Int32) (ns : Nat → Int32) (nc : Int32) (ps : Nat → Int32) (dg : Nat → Int32) (pn : Int32) (pj : Int32) (wh : Int32) (a1 : Int32) (n : Nat) (r : Int32) (ps_1 : Nat → Int32) (pn_1 : Int32) (hm : mT_partCount N ns nc wh n 0 [a1] ps pn = some (r, ps_1, pn_1)) : Met l yXT_partCount wsXT_partCount ({ frames := 3, cells := 0, slots := 0, locals := 71 }) (kPc D cA [.ref (q 5), .int a1] (wT q cA N nr ss sc ns nc ps dg pn pj wh) sz) (kQi D cA kT (va_A (wT q cA N nr ss sc ns nc ps dg pn pj wh) sz) (wT q cA N nr ss sc ns nc ps_1 dg pn_1 pj wh) r) 0 0 (va_A (wT q cA N nr ss sc ns nc ps dg pn pj wh) sz) := by
  refine k_met (D := D) (cA := cA) (w := (wT q cA N nr ss sc ns nc ps dg pn pj wh)) (sz := sz) (av := [.ref (q 5), .int a1]) (cc := cXT_partCount) (maxL := 2) (ret := (some .int)) (Qc := fun A => kQi D cA kT A (wT q cA N nr ss sc ns nc ps_1 dg pn_1 pj wh) r) (by decide) rfl (Nat.le_of_ble_eq_true rfl) ?_
  intro p e s m below meth c A ls hX hK hN hA hP hD hl
  obtain ⟨hx, hb, hr, hml, hown, hts, hlocks, -⟩ := hX
  have hown : s.vm.findClass RXT = some m.cls := hown
  have hl : lv_has ls 2 [(0, .ref (q 5)), (1, .int a1)] := hl
  have hts : ∀ w ∈ W0, w.before _ s = true := fun w h => hts w (List.mem_cons_of_mem _ h)
  have key : ∀ n : Nat, (∀ (x1 : Int32) (ps : Nat → Int32) (pn : Int32) (r : Int32) (ps_1 : Nat → Int32) (pn_1 : Int32) (H : Heap) (locs : List Loc) (ls : Array Slot), mT_partCount N ns nc wh n 0 [x1] ps pn = some (r, ps_1, pn_1) → va_P D vwCl (wT q cA N nr ss sc ns nc ps dg pn pj wh) H → va_D A (wT q cA N nr ss sc ns nc ps dg pn pj wh) → va_S A s.heap H locs → lv_has ls 2 [(0, .ref (q 5)), (1, .int x1)] → W p l e ({ frames := 3, cells := 0, slots := 0, locals := 71 }) s m ([.ref (q 5), .int a1] : List Value).toArray below meth c H locs 0 0 (MQ below (kQi D cA kT A (wT q cA N nr ss sc ns nc ps_1 dg pn_1 pj wh) r) ([.ref (q 5), .int a1] : List Value).toArray s 0 0 A) (F0 m 0 ls [])) := by
    intro n
    induction n with
    | zero => exact (by intros; rename_i h _ _ _ _; rw [mT_partCount_z] at h; cases h)
    | succ n ih =>
      have ih0 := ih
      intro x1 ps pn r ps_1 pn_1 H locs ls hm hP hD hS hl
      rw [mT_partCount_e0] at hm
      refine lv_aload_n hx hb dXT_partCount_0 rfl (lv_at hl 0 rfl) ?_
      refine lv_iload_n hx hb dXT_partCount_1 rfl (lv_at hl 1 rfl) ?_
      obtain ⟨⟨ps_11, pn_11⟩, hm11, hm⟩ := kb_s hm
      dsimp only at hm
      refine k_vv (As := [.int x1]) (rest := []) (w2 := (wT q cA N nr ss sc ns nc ps_11 dg pn_11 pj wh)) ⟨hx, hb, hml, hown, hts⟩ (cT_findParts l D q cA N H.size nr ss sc ns nc ps dg pn pj wh x1 n ps_11 pn_11 hm11) (cwV 1 hts (gV wd_243 wd_244 wd_9 wd_38 wd_245) rfl rfl rfl (by decide +kernel) ⟨Nat.le_of_ble_eq_true rfl, Nat.le_of_ble_eq_true rfl⟩) hK hN hP hD hS hA [0, 1, 2, 3, 4, 5, 6] [] [0, 1, 2, 3, 4, 5, 6] ⟨rfl, rfl, by decide, rfl, by decide, by decide, rfl, rfl, by decide⟩ (va_recv hK hP (ci := 3) (q0 := 0) rfl rfl) rfl hl.1 rfl (Nat.le_of_ble_eq_true rfl) dXT_partCount_2 ⟨Nat.le_of_ble_eq_true rfl, Nat.le_of_ble_eq_true rfl⟩ (fun H locs hP hD hS => ?_)
      refine lv_aload_n hx hb dXT_partCount_5 rfl (lv_at hl 0 rfl) ?_
      refine va_get (D := D) (ci := 3) (v := .int pn_11) (C := RXT) (T := TXT) (N := 10) hx hb hts hinXT hown hK hP 0 rfl rfl 7 (by decide) (hts _ wd_80) (fun _ h9 => h9) rfl dXT_partCount_6 ?_
      cases hm
      exact k_iret hx hb hr hlocks hK hP hD hS trivial dXT_partCount_9
  exact key n a1 ps pn r ps_1 pn_1 s.heap [] ls hm hP hD va_S.rf hl
set_option maxHeartbeats 4000000 in
set_option maxRecDepth 100000 in
theorem cT_partSet (l : Launch) (D : va_G) (q : Nat → Nat) (cA : ClassId) (N : Nat) (sz : Nat) (nr : Nat → Int32) (ss : Nat → Int32) (sc : Int32) (ns : Nat → Int32) (nc : Int32) (ps : Nat → Int32) (dg : Nat → Int32) (pn : Int32) (pj : Int32) (wh : Int32) (a1 a2 : Int32) (n : Nat) (r : Int32) (ps_1 : Nat → Int32) (pn_1 : Int32) (hm : mT_partSet N ns nc wh n 0 [a1, a2] ps pn = some (r, ps_1, pn_1)) : Met l yXT_partSet wsXT_partSet ({ frames := 3, cells := 0, slots := 0, locals := 71 }) (kPc D cA [.ref (q 5), .int a1, .int a2] (wT q cA N nr ss sc ns nc ps dg pn pj wh) sz) (kQi D cA kT (va_A (wT q cA N nr ss sc ns nc ps dg pn pj wh) sz) (wT q cA N nr ss sc ns nc ps_1 dg pn_1 pj wh) r) 0 0 (va_A (wT q cA N nr ss sc ns nc ps dg pn pj wh) sz) := by
  refine k_met (D := D) (cA := cA) (w := (wT q cA N nr ss sc ns nc ps dg pn pj wh)) (sz := sz) (av := [.ref (q 5), .int a1, .int a2]) (cc := cXT_partSet) (maxL := 3) (ret := (some .int)) (Qc := fun A => kQi D cA kT A (wT q cA N nr ss sc ns nc ps_1 dg pn_1 pj wh) r) (by decide) rfl (Nat.le_of_ble_eq_true rfl) ?_
  intro p e s m below meth c A ls hX hK hN hA hP hD hl
  obtain ⟨hx, hb, hr, hml, hown, hts, hlocks, -⟩ := hX
  have hown : s.vm.findClass RXT = some m.cls := hown
  have hl : lv_has ls 3 [(0, .ref (q 5)), (1, .int a1), (2, .int a2)] := hl
  have hts : ∀ w ∈ W0, w.before _ s = true := fun w h => hts w (List.mem_cons_of_mem _ h)
  have key : ∀ n : Nat, (∀ (x1 x2 : Int32) (ps : Nat → Int32) (pn : Int32) (r : Int32) (ps_1 : Nat → Int32) (pn_1 : Int32) (H : Heap) (locs : List Loc) (ls : Array Slot), mT_partSet N ns nc wh n 0 [x1, x2] ps pn = some (r, ps_1, pn_1) → va_P D vwCl (wT q cA N nr ss sc ns nc ps dg pn pj wh) H → va_D A (wT q cA N nr ss sc ns nc ps dg pn pj wh) → va_S A s.heap H locs → lv_has ls 3 [(0, .ref (q 5)), (1, .int x1), (2, .int x2)] → W p l e ({ frames := 3, cells := 0, slots := 0, locals := 71 }) s m ([.ref (q 5), .int a1, .int a2] : List Value).toArray below meth c H locs 0 0 (MQ below (kQi D cA kT A (wT q cA N nr ss sc ns nc ps_1 dg pn_1 pj wh) r) ([.ref (q 5), .int a1, .int a2] : List Value).toArray s 0 0 A) (F0 m 0 ls [])) := by
    intro n
    induction n with
    | zero => exact (by intros; rename_i h _ _ _ _; rw [mT_partSet_z] at h; cases h)
    | succ n ih =>
      have ih0 := ih
      intro x1 x2 ps pn r ps_1 pn_1 H locs ls hm hP hD hS hl
      rw [mT_partSet_e0] at hm
      refine lv_aload_n hx hb dXT_partSet_0 rfl (lv_at hl 0 rfl) ?_
      refine lv_iload_n hx hb dXT_partSet_1 rfl (lv_at hl 1 rfl) ?_
      obtain ⟨⟨ps_11, pn_11⟩, hm11, hm⟩ := kb_s hm
      dsimp only at hm
      refine k_vv (As := [.int x1]) (rest := []) (w2 := (wT q cA N nr ss sc ns nc ps_11 dg pn_11 pj wh)) ⟨hx, hb, hml, hown, hts⟩ (cT_findParts l D q cA N H.size nr ss sc ns nc ps dg pn pj wh x1 n ps_11 pn_11 hm11) (cwV 1 hts (gV wd_243 wd_244 wd_9 wd_38 wd_245) rfl rfl rfl (by decide +kernel) ⟨Nat.le_of_ble_eq_true rfl, Nat.le_of_ble_eq_true rfl⟩) hK hN hP hD hS hA [0, 1, 2, 3, 4, 5, 6] [] [0, 1, 2, 3, 4, 5, 6] ⟨rfl, rfl, by decide, rfl, by decide, by decide, rfl, rfl, by decide⟩ (va_recv hK hP (ci := 3) (q0 := 0) rfl rfl) rfl hl.1 rfl (Nat.le_of_ble_eq_true rfl) dXT_partSet_2 ⟨Nat.le_of_ble_eq_true rfl, Nat.le_of_ble_eq_true rfl⟩ (fun H locs hP hD hS => ?_)
      refine lv_iload_n hx hb dXT_partSet_5 rfl (lv_at hl 2 rfl) ?_
      refine lv_if_lt (tgt := 26) hx hb dXT_partSet_6 (by decide) (fun c12 => ?_) (fun c12 => ?_)
      · rw [if_pos c12] at hm
        refine lv_iconst (v := (-1)) hx hb dXT_partSet_26 (by decide) ?_
        cases hm
        exact k_iret hx hb hr hlocks hK hP hD hS trivial dXT_partSet_27
      · rw [if_neg c12] at hm
        refine lv_iload_n hx hb dXT_partSet_9 rfl (lv_at hl 2 rfl) ?_
        refine lv_aload_n hx hb dXT_partSet_10 rfl (lv_at hl 0 rfl) ?_
        refine va_get (D := D) (ci := 3) (v := .int pn_11) (C := RXT) (T := TXT) (N := 10) hx hb hts hinXT hown hK hP 0 rfl rfl 7 (by decide) (hts _ wd_80) (fun _ h9 => h9) rfl dXT_partSet_11 ?_
        refine lv_icmp_ge (tgt := 26) hx hb dXT_partSet_14 (by decide) (fun c13 => ?_) (fun c13 => ?_)
        · rw [if_pos c13] at hm
          refine lv_iconst (v := (-1)) hx hb dXT_partSet_26 (by decide) ?_
          cases hm
          exact k_iret hx hb hr hlocks hK hP hD hS trivial dXT_partSet_27
        · rw [if_neg c13] at hm
          refine lv_aload_n hx hb dXT_partSet_17 rfl (lv_at hl 0 rfl) ?_
          refine va_get (D := D) (ci := 3) (v := .ref (q 8)) (C := RXT) (T := TXT) (N := 10) hx hb hts hinXT hown hK hP 0 rfl rfl 5 (by decide) (hts _ wd_78) (fun _ h9 => h9) rfl dXT_partSet_18 ?_
          refine lv_iload_n hx hb dXT_partSet_21 rfl (lv_at hl 2 rfl) ?_
          obtain ⟨hg14, hm⟩ := kg_s hm
          refine va_iald hx hb hK hP 3 0 rfl rfl hg14 dXT_partSet_22 ?_
          refine lv_goto (tgt := 27) hx hb dXT_partSet_23 (by decide) ?_
          cases hm
          exact k_iret hx hb hr hlocks hK hP hD hS trivial dXT_partSet_27
  exact key n a1 a2 ps pn r ps_1 pn_1 s.heap [] ls hm hP hD va_S.rf hl
set_option maxHeartbeats 4000000 in
set_option maxRecDepth 100000 in
theorem cT_centreSet (l : Launch) (D : va_G) (q : Nat → Nat) (cA : ClassId) (N : Nat) (sz : Nat) (nr : Nat → Int32) (ss : Nat → Int32) (sc : Int32) (ns : Nat → Int32) (nc : Int32) (ps : Nat → Int32) (dg : Nat → Int32) (pn : Int32) (pj : Int32) (wh : Int32) (a1 : Int32) (n : Nat) (r : Int32) (ps_1 : Nat → Int32) (dg_1 : Nat → Int32) (pn_1 : Int32) (pj_1 : Int32) (hm : mT_centreSet N nr ns nc wh n 0 [a1] ps dg pn pj = some (r, ps_1, dg_1, pn_1, pj_1)) : Met l yXT_centreSet wsXT_centreSet ({ frames := 5, cells := 0, slots := 0, locals := 115 }) (kPc D cA [.ref (q 5), .int a1] (wT q cA N nr ss sc ns nc ps dg pn pj wh) sz) (kQi D cA kT (va_A (wT q cA N nr ss sc ns nc ps dg pn pj wh) sz) (wT q cA N nr ss sc ns nc ps_1 dg_1 pn_1 pj_1 wh) r) 0 0 (va_A (wT q cA N nr ss sc ns nc ps dg pn pj wh) sz) := by
  refine k_met (D := D) (cA := cA) (w := (wT q cA N nr ss sc ns nc ps dg pn pj wh)) (sz := sz) (av := [.ref (q 5), .int a1]) (cc := cXT_centreSet) (maxL := 2) (ret := (some .int)) (Qc := fun A => kQi D cA kT A (wT q cA N nr ss sc ns nc ps_1 dg_1 pn_1 pj_1 wh) r) (by decide) rfl (Nat.le_of_ble_eq_true rfl) ?_
  intro p e s m below meth c A ls hX hK hN hA hP hD hl
  obtain ⟨hx, hb, hr, hml, hown, hts, hlocks, -⟩ := hX
  have hown : s.vm.findClass RXT = some m.cls := hown
  have hl : lv_has ls 2 [(0, .ref (q 5)), (1, .int a1)] := hl
  have hts : ∀ w ∈ W0, w.before _ s = true := fun w h => hts w (List.mem_cons_of_mem _ h)
  have key : ∀ n : Nat, (∀ (x1 : Int32) (ps : Nat → Int32) (dg : Nat → Int32) (pn : Int32) (pj : Int32) (r : Int32) (ps_1 : Nat → Int32) (dg_1 : Nat → Int32) (pn_1 : Int32) (pj_1 : Int32) (H : Heap) (locs : List Loc) (ls : Array Slot), mT_centreSet N nr ns nc wh n 0 [x1] ps dg pn pj = some (r, ps_1, dg_1, pn_1, pj_1) → va_P D vwCl (wT q cA N nr ss sc ns nc ps dg pn pj wh) H → va_D A (wT q cA N nr ss sc ns nc ps dg pn pj wh) → va_S A s.heap H locs → lv_has ls 2 [(0, .ref (q 5)), (1, .int x1)] → W p l e ({ frames := 5, cells := 0, slots := 0, locals := 115 }) s m ([.ref (q 5), .int a1] : List Value).toArray below meth c H locs 0 0 (MQ below (kQi D cA kT A (wT q cA N nr ss sc ns nc ps_1 dg_1 pn_1 pj_1 wh) r) ([.ref (q 5), .int a1] : List Value).toArray s 0 0 A) (F0 m 0 ls [])) := by
    intro n
    induction n with
    | zero => exact (by intros; rename_i h _ _ _ _; rw [mT_centreSet_z] at h; cases h)
    | succ n ih =>
      have ih0 := ih
      intro x1 ps dg pn pj r ps_1 dg_1 pn_1 pj_1 H locs ls hm hP hD hS hl
      rw [mT_centreSet_e0] at hm
      refine lv_aload_n hx hb dXT_centreSet_0 rfl (lv_at hl 0 rfl) ?_
      refine lv_iload_n hx hb dXT_centreSet_1 rfl (lv_at hl 1 rfl) ?_
      obtain ⟨⟨r11, ps_11, dg_11, pn_11, pj_11⟩, hm11, hm⟩ := kb_s hm
      dsimp only at hm
      refine k_vi (As := [.int x1]) (rest := []) (w2 := (wT q cA N nr ss sc ns nc ps_11 dg_11 pn_11 pj_11 wh)) ⟨hx, hb, hml, hown, hts⟩ (cT_nodeKind l D q cA N H.size nr ss sc ns nc ps dg pn pj wh x1 n r11 ps_11 dg_11 pn_11 pj_11 hm11) (cwV 1 hts (gV wd_283 wd_237 wd_238 wd_38 wd_239) rfl rfl rfl (by decide +kernel) ⟨Nat.le_of_ble_eq_true rfl, Nat.le_of_ble_eq_true rfl⟩) hK hN hP hD hS hA [0, 1, 2, 3, 4, 5, 6] [] [0, 1, 2, 3, 4, 5, 6] ⟨rfl, rfl, by decide, rfl, by decide, by decide, rfl, rfl, by decide⟩ (va_recv hK hP (ci := 3) (q0 := 0) rfl rfl) rfl hl.1 rfl (Nat.le_of_ble_eq_true rfl) dXT_centreSet_2 ⟨Nat.le_of_ble_eq_true rfl, Nat.le_of_ble_eq_true rfl⟩ (fun hz11 H locs hP hD hS => ?_)
      refine lv_iconst (v := 2) hx hb dXT_centreSet_5 (by decide) ?_
      refine lv_icmp_ne (tgt := 21) hx hb dXT_centreSet_6 (by decide) (fun c12 => ?_) (fun c12 => ?_)
      · rw [if_neg c12] at hm
        refine lv_iconst (v := (-1)) hx hb dXT_centreSet_21 (by decide) ?_
        cases hm
        exact k_iret hx hb hr hlocks hK hP hD hS trivial dXT_centreSet_22
      · rw [if_pos c12] at hm
        refine lv_aload_n hx hb dXT_centreSet_9 rfl (lv_at hl 0 rfl) ?_
        refine va_get (D := D) (ci := 3) (v := .ref (q 8)) (C := RXT) (T := TXT) (N := 10) hx hb hts hinXT hown hK hP 0 rfl rfl 5 (by decide) (hts _ wd_78) (fun _ h9 => h9) rfl dXT_centreSet_10 ?_
        refine lv_aload_n hx hb dXT_centreSet_13 rfl (lv_at hl 0 rfl) ?_
        obtain ⟨r13, hm13, hm⟩ := kb_s hm
        refine k_vi (As := []) (rest := [.ref (q 8)]) (w2 := (wT q cA N nr ss sc ns nc ps_11 dg_11 pn_11 pj_11 wh)) ⟨hx, hb, hml, hown, hts⟩ (cT_centreIndex l D q cA N H.size nr ss sc ns nc ps_11 dg_11 pn_11 pj_11 wh n r13 hm13) (cwV 0 hts (gV wd_256 wd_257 wd_12 wd_38 wd_258) rfl rfl rfl (by decide +kernel) ⟨Nat.le_of_ble_eq_true rfl, Nat.le_of_ble_eq_true rfl⟩) hK hN hP hD hS hA [0, 1, 2, 3, 4, 5, 6] [] [0, 1, 2, 3, 4, 5, 6] ⟨rfl, rfl, by decide, rfl, by decide, by decide, rfl, rfl, by decide⟩ (va_recv hK hP (ci := 3) (q0 := 0) rfl rfl) rfl hl.1 rfl (Nat.le_of_ble_eq_true rfl) dXT_centreSet_14 ⟨Nat.le_of_ble_eq_true rfl, Nat.le_of_ble_eq_true rfl⟩ (fun hz13 H locs hP hD hS => ?_)
        obtain ⟨hg14, hm⟩ := kg_s hm
        refine va_iald hx hb hK hP 3 0 rfl rfl hg14 dXT_centreSet_17 ?_
        refine lv_goto (tgt := 22) hx hb dXT_centreSet_18 (by decide) ?_
        cases hm
        exact k_iret hx hb hr hlocks hK hP hD hS trivial dXT_centreSet_22
  exact key n a1 ps dg pn pj r ps_1 dg_1 pn_1 pj_1 s.heap [] ls hm hP hD va_S.rf hl
set_option maxHeartbeats 4000000 in
set_option maxRecDepth 100000 in
theorem cT_links (l : Launch) (D : va_G) (q : Nat → Nat) (cA : ClassId) (N : Nat) (sz : Nat) (nr : Nat → Int32) (ss : Nat → Int32) (sc : Int32) (ns : Nat → Int32) (nc : Int32) (ps : Nat → Int32) (dg : Nat → Int32) (pn : Int32) (pj : Int32) (wh : Int32) (a1 a2 : Int32) (n : Nat) (r : Int32) (hm : mT_links N nr ns nc wh n 0 [a1, a2] = some r) : Met l yXT_links wsXT_links ({ frames := 3, cells := 0, slots := 0, locals := 67 }) (kPc D cA [.ref (q 5), .int a1, .int a2] (wT q cA N nr ss sc ns nc ps dg pn pj wh) sz) (kQi D cA kB (va_A (wT q cA N nr ss sc ns nc ps dg pn pj wh) sz) (wT q cA N nr ss sc ns nc ps dg pn pj wh) r) 0 0 (va_A (wT q cA N nr ss sc ns nc ps dg pn pj wh) sz) := by
  refine k_met (D := D) (cA := cA) (w := (wT q cA N nr ss sc ns nc ps dg pn pj wh)) (sz := sz) (av := [.ref (q 5), .int a1, .int a2]) (cc := cXT_links) (maxL := 6) (ret := (some .boolean)) (Qc := fun A => kQi D cA kB A (wT q cA N nr ss sc ns nc ps dg pn pj wh) r) (by decide) rfl (Nat.le_of_ble_eq_true rfl) ?_
  intro p e s m below meth c A ls hX hK hN hA hP hD hl
  obtain ⟨hx, hb, hr, hml, hown, hts, hlocks, -⟩ := hX
  have hown : s.vm.findClass RXT = some m.cls := hown
  have hl : lv_has ls 6 [(0, .ref (q 5)), (1, .int a1), (2, .int a2)] := hl
  have hts : ∀ w ∈ W0, w.before _ s = true := fun w h => hts w (List.mem_cons_of_mem _ h)
  have key : ∀ n : Nat, (∀ (x1 x2 : Int32) (r : Int32) (H : Heap) (locs : List Loc) (ls : Array Slot), mT_links N nr ns nc wh n 0 [x1, x2] = some r → va_P D vwCl (wT q cA N nr ss sc ns nc ps dg pn pj wh) H → va_D A (wT q cA N nr ss sc ns nc ps dg pn pj wh) → va_S A s.heap H locs → lv_has ls 6 [(0, .ref (q 5)), (1, .int x1), (2, .int x2)] → W p l e ({ frames := 3, cells := 0, slots := 0, locals := 67 }) s m ([.ref (q 5), .int a1, .int a2] : List Value).toArray below meth c H locs 0 0 (MQ below (kQi D cA kB A (wT q cA N nr ss sc ns nc ps dg pn pj wh) r) ([.ref (q 5), .int a1, .int a2] : List Value).toArray s 0 0 A) (F0 m 0 ls [])) ∧
    (∀ (x1 x2 x3 : Int32) (r : Int32) (H : Heap) (locs : List Loc) (ls : Array Slot), mT_links N nr ns nc wh n 1 [x1, x2, x3] = some r → va_P D vwCl (wT q cA N nr ss sc ns nc ps dg pn pj wh) H → va_D A (wT q cA N nr ss sc ns nc ps dg pn pj wh) → va_S A s.heap H locs → lv_has ls 6 [(0, .ref (q 5)), (1, .int x1), (2, .int x2), (3, .int x3)] → W p l e ({ frames := 3, cells := 0, slots := 0, locals := 67 }) s m ([.ref (q 5), .int a1, .int a2] : List Value).toArray below meth c H locs 0 0 (MQ below (kQi D cA kB A (wT q cA N nr ss sc ns nc ps dg pn pj wh) r) ([.ref (q 5), .int a1, .int a2] : List Value).toArray s 0 0 A) (F0 m 2 ls [])) := by
    intro n
    induction n with
    | zero => exact ⟨(by intros; rename_i h _ _ _ _; rw [mT_links_z] at h; cases h), (by intros; rename_i h _ _ _ _; rw [mT_links_z] at h; cases h)⟩
    | succ n ih =>
      obtain ⟨ih0, ih1⟩ := ih
      refine ⟨?_, ?_⟩
      · intro x1 x2 r H locs ls hm hP hD hS hl
        rw [mT_links_e0] at hm
        refine lv_iconst (v := 0) hx hb dXT_links_0 (by decide) ?_
        refine lv_istore_n (lv' := [(3, .int 0), (0, .ref (q 5)), (1, .int x1), (2, .int x2)]) hx hb dXT_links_1 rfl hl (by decide) rfl (fun ls hl => ?_)
        exact ih1 x1 x2 0 _ H locs ls hm hP hD hS (lv_sub hl [1, 2, 3, 0] rfl)
      · intro x1 x2 x3 r H locs ls hm hP hD hS hl
        rw [mT_links_e1] at hm
        refine lv_iload_n hx hb dXT_links_2 rfl (lv_at hl 3 rfl) ?_
        refine lv_aload_n hx hb dXT_links_3 rfl (lv_at hl 0 rfl) ?_
        refine va_get (D := D) (ci := 3) (v := .int nc) (C := RXT) (T := TXT) (N := 10) hx hb hts hinXT hown hK hP 0 rfl rfl 4 (by decide) (hts _ wd_77) (fun _ h9 => h9) rfl dXT_links_4 ?_
        refine lv_icmp_ge (tgt := 55) hx hb dXT_links_7 (by decide) (fun c111 => ?_) (fun c111 => ?_)
        · rw [if_pos c111] at hm
          refine lv_iconst (v := 1) hx hb dXT_links_55 (by decide) ?_
          cases hm
          exact k_zret hx hb hr hlocks hK hP hD hS (Or.inr rfl) dXT_links_56
        · rw [if_neg c111] at hm
          refine lv_aload_n hx hb dXT_links_10 rfl (lv_at hl 0 rfl) ?_
          refine lv_iload_n hx hb dXT_links_11 rfl (lv_at hl 3 rfl) ?_
          refine lv_iload_n hx hb dXT_links_12 rfl (lv_at hl 1 rfl) ?_
          obtain ⟨r112, hm112, hm⟩ := kb_s hm
          refine k_vi (As := [.int x3, .int x1]) (rest := []) (w2 := (wT q cA N nr ss sc ns nc ps dg pn pj wh)) ⟨hx, hb, hml, hown, hts⟩ (cT_partWith l D q cA N H.size nr ss sc ns nc ps dg pn pj wh x3 x1 n r112 hm112) (cwV 2 hts (gV wd_246 wd_247 wd_10 wd_38 wd_248) rfl rfl rfl (by decide +kernel) ⟨Nat.le_of_ble_eq_true rfl, Nat.le_of_ble_eq_true rfl⟩) hK hN hP hD hS hA [0, 1, 2, 3, 4, 5, 6] [] [0, 1, 2, 3, 4, 5, 6] ⟨rfl, rfl, by decide, rfl, by decide, by decide, rfl, rfl, by decide⟩ (va_recv hK hP (ci := 3) (q0 := 0) rfl rfl) rfl hl.1 rfl (Nat.le_of_ble_eq_true rfl) dXT_links_13 ⟨Nat.le_of_ble_eq_true rfl, Nat.le_of_ble_eq_true rfl⟩ (fun hz112 H locs hP hD hS => ?_)
          refine lv_istore (lv' := [(4, .int r112), (0, .ref (q 5)), (1, .int x1), (2, .int x2), (3, .int x3)]) hx hb dXT_links_16 hl (by decide) rfl (fun ls hl => ?_)
          refine lv_aload_n hx hb dXT_links_18 rfl (lv_at hl 1 rfl) ?_
          refine lv_iload_n hx hb dXT_links_19 rfl (lv_at hl 4 rfl) ?_
          refine lv_iload_n hx hb dXT_links_20 rfl (lv_at hl 3 rfl) ?_
          obtain ⟨r113, hm113, hm⟩ := kb_s hm
          refine k_vi (As := [.int x3, .int x2]) (rest := []) (w2 := (wT q cA N nr ss sc ns nc ps dg pn pj wh)) ⟨hx, hb, hml, hown, hts⟩ (cT_partWith l D q cA N H.size nr ss sc ns nc ps dg pn pj wh x3 x2 n r113 hm113) (cwV 2 hts (gV wd_246 wd_247 wd_10 wd_38 wd_248) rfl rfl rfl (by decide +kernel) ⟨Nat.le_of_ble_eq_true rfl, Nat.le_of_ble_eq_true rfl⟩) hK hN hP hD hS hA [0, 1, 2, 3, 4, 5, 6] [] [0, 1, 2, 3, 4, 5, 6] ⟨rfl, rfl, by decide, rfl, by decide, by decide, rfl, rfl, by decide⟩ (va_recv hK hP (ci := 3) (q0 := 0) rfl rfl) rfl hl.1 rfl (Nat.le_of_ble_eq_true rfl) dXT_links_21 ⟨Nat.le_of_ble_eq_true rfl, Nat.le_of_ble_eq_true rfl⟩ (fun hz113 H locs hP hD hS => ?_)
          refine lv_istore (lv' := [(5, .int r113), (4, .int r112), (0, .ref (q 5)), (1, .int x1), (2, .int x2), (3, .int x3)]) hx hb dXT_links_24 hl (by decide) rfl (fun ls hl => ?_)
          refine lv_iload hx hb dXT_links_26 (lv_at hl 1 rfl) ?_
          refine lv_iload hx hb dXT_links_28 (lv_at hl 0 rfl) ?_
          refine lv_icmp_eq (tgt := 49) hx hb dXT_links_30 (by decide) (fun c114 => ?_) (fun c114 => ?_)
          · rw [if_pos c114] at hm
            refine lv_iinc (v := (x3 + 1)) (lv' := [(3, .int (x3 + 1)), (5, .int r113), (4, .int r112), (0, .ref (q 5)), (1, .int x1), (2, .int x2)]) hx hb dXT_links_49 hl (k := 5) rfl rfl (by decide) rfl (fun ls hl => ?_)
            refine lv_goto (tgt := 2) hx hb dXT_links_52 (by decide) ?_
            exact ih1 x1 x2 (x3 + 1) _ H locs ls hm hP hD hS (lv_sub hl [3, 4, 5, 0] rfl)
          · rw [if_neg c114] at hm
            refine lv_aload_n hx hb dXT_links_33 rfl (lv_at hl 2 rfl) ?_
            refine va_get (D := D) (ci := 3) (v := .ref (q 10)) (C := RXT) (T := TXT) (N := 10) hx hb hts hinXT hown hK hP 0 rfl rfl 0 (by decide) (hts _ wd_73) (fun _ h9 => h9) rfl dXT_links_34 ?_
            refine lv_iload hx hb dXT_links_37 (lv_at hl 1 rfl) ?_
            refine lv_iload hx hb dXT_links_39 (lv_at hl 0 rfl) ?_
            obtain ⟨r115, hm115, hm⟩ := kb_s hm
            refine k_vi (As := [.int r112, .int r113]) (rest := []) (w2 := (wT q cA N nr ss sc ns nc ps dg pn pj wh)) ⟨hx, hb, hml, hown, hts⟩ (cG_joined l D q cA N H.size nr r112 r113 n r115 hm115) (cwV 2 hts (gV wd_252 wd_253 wd_254 wd_37 wd_255) rfl rfl rfl (by decide +kernel) ⟨Nat.le_of_ble_eq_true rfl, Nat.le_of_ble_eq_true rfl⟩) hK hN hP hD hS hA [5, 6] [0, 1, 2, 3, 4] [0, 1, 2, 3, 4, 5, 6] ⟨rfl, rfl, by decide, rfl, by decide, by decide, rfl, rfl, by decide⟩ (va_recv hK hP (ci := 2) (q0 := 5) rfl rfl) rfl hl.1 rfl (Nat.le_of_ble_eq_true rfl) dXT_links_41 ⟨Nat.le_of_ble_eq_true rfl, Nat.le_of_ble_eq_true rfl⟩ (fun hz115 H locs hP hD hS => ?_)
            refine lv_if_ne (tgt := 49) hx hb dXT_links_44 (by decide) (fun c116 => ?_) (fun c116 => ?_)
            · rw [if_neg c116] at hm
              refine lv_iinc (v := (x3 + 1)) (lv' := [(3, .int (x3 + 1)), (5, .int r113), (4, .int r112), (0, .ref (q 5)), (1, .int x1), (2, .int x2)]) hx hb dXT_links_49 hl (k := 5) rfl rfl (by decide) rfl (fun ls hl => ?_)
              refine lv_goto (tgt := 2) hx hb dXT_links_52 (by decide) ?_
              exact ih1 x1 x2 (x3 + 1) _ H locs ls hm hP hD hS (lv_sub hl [3, 4, 5, 0] rfl)
            · rw [if_pos c116] at hm
              refine lv_iconst (v := 0) hx hb dXT_links_47 (by decide) ?_
              cases hm
              exact k_zret hx hb hr hlocks hK hP hD hS (Or.inl rfl) dXT_links_48
  exact (key n).1 a1 a2 r s.heap [] ls hm hP hD va_S.rf hl
