set_option maxHeartbeats 4000000 in
set_option maxRecDepth 100000 in
theorem cM_complete (l : Launch) (D : va_G) (q : Nat → Nat) (cA : ClassId) (N : Nat) (sz : Nat) (mr : Nat → Int32) (zn : Int32) (zs : Nat → Int32) (tn : Int32) (ts : Nat → Int32) (yn : Int32) (ys : Nat → Int32) (en : Int32) (es : Nat → Int32) (ew : Int32) (cv : Nat → Int32) (a1 a2 : Int32) (n : Nat) (r : Int32) (hm : mM_complete N mr n 0 [a1, a2] = some r) : Met l yXM_complete wsXM_complete ({ frames := 0, cells := 0, slots := 0, locals := 0 }) (kPc D cA [.ref (q 0), .int a1, .int a2] (wM q cA N mr zn zs tn ts yn ys en es ew cv) sz) (kQi D cA kB (va_A (wM q cA N mr zn zs tn ts yn ys en es ew cv) sz) (wM q cA N mr zn zs tn ts yn ys en es ew cv) r) 0 0 (va_A (wM q cA N mr zn zs tn ts yn ys en es ew cv) sz) := by
  refine k_met (D := D) (cA := cA) (w := (wM q cA N mr zn zs tn ts yn ys en es ew cv)) (sz := sz) (av := [.ref (q 0), .int a1, .int a2]) (cc := cXM_complete) (maxL := 7) (ret := (some .boolean)) (Qc := fun A => kQi D cA kB A (wM q cA N mr zn zs tn ts yn ys en es ew cv) r) (by decide) rfl (Nat.le_of_ble_eq_true rfl) ?_
  intro p e s m below meth c A ls hX hK hN hA hP hD hl
  obtain ⟨hx, hb, hr, hml, hown, hts, hlocks, -⟩ := hX
  have hown : s.vm.findClass RXM = some m.cls := hown
  have hl : lv_has ls 7 [(0, .ref (q 0)), (1, .int a1), (2, .int a2)] := hl
  have hts : ∀ w ∈ W0, w.before _ s = true := fun w h => hts w (List.mem_cons_of_mem _ h)
  have key : ∀ n : Nat, (∀ (x1 x2 : Int32) (r : Int32) (H : Heap) (locs : List Loc) (ls : Array Slot), mM_complete N mr n 0 [x1, x2] = some r → va_P D vwCl (wM q cA N mr zn zs tn ts yn ys en es ew cv) H → va_D A (wM q cA N mr zn zs tn ts yn ys en es ew cv) → va_S A s.heap H locs → lv_has ls 7 [(0, .ref (q 0)), (1, .int x1), (2, .int x2)] → W p l e ({ frames := 0, cells := 0, slots := 0, locals := 0 }) s m ([.ref (q 0), .int a1, .int a2] : List Value).toArray below meth c H locs 0 0 (MQ below (kQi D cA kB A (wM q cA N mr zn zs tn ts yn ys en es ew cv) r) ([.ref (q 0), .int a1, .int a2] : List Value).toArray s 0 0 A) (F0 m 0 ls [])) ∧
    (∀ (x1 x2 x3 x4 x5 : Int32) (r : Int32) (H : Heap) (locs : List Loc) (ls : Array Slot), mM_complete N mr n 1 [x1, x2, x3, x4, x5] = some r → va_P D vwCl (wM q cA N mr zn zs tn ts yn ys en es ew cv) H → va_D A (wM q cA N mr zn zs tn ts yn ys en es ew cv) → va_S A s.heap H locs → lv_has ls 7 [(0, .ref (q 0)), (1, .int x1), (2, .int x2), (3, .int x3), (4, .int x4), (5, .int x5)] → W p l e ({ frames := 0, cells := 0, slots := 0, locals := 0 }) s m ([.ref (q 0), .int a1, .int a2] : List Value).toArray below meth c H locs 0 0 (MQ below (kQi D cA kB A (wM q cA N mr zn zs tn ts yn ys en es ew cv) r) ([.ref (q 0), .int a1, .int a2] : List Value).toArray s 0 0 A) (F0 m 8 ls [])) ∧
    (∀ (x1 x2 x3 x4 x5 y0 : Int32) (r : Int32) (H : Heap) (locs : List Loc) (ls : Array Slot), mM_complete N mr n 2 [x1, x2, x3, x4, x5, y0] = some r → va_P D vwCl (wM q cA N mr zn zs tn ts yn ys en es ew cv) H → va_D A (wM q cA N mr zn zs tn ts yn ys en es ew cv) → va_S A s.heap H locs → lv_has ls 7 [(0, .ref (q 0)), (1, .int x1), (2, .int x2), (3, .int x3), (4, .int x4), (5, .int x5)] → W p l e ({ frames := 0, cells := 0, slots := 0, locals := 0 }) s m ([.ref (q 0), .int a1, .int a2] : List Value).toArray below meth c H locs 0 0 (MQ below (kQi D cA kB A (wM q cA N mr zn zs tn ts yn ys en es ew cv) r) ([.ref (q 0), .int a1, .int a2] : List Value).toArray s 0 0 A) (F0 m 40 ls [.int y0])) ∧
    (∀ (x1 x2 x3 x5 x6 : Int32) (r : Int32) (H : Heap) (locs : List Loc) (ls : Array Slot), mM_complete N mr n 3 [x1, x2, x3, x5, x6] = some r → va_P D vwCl (wM q cA N mr zn zs tn ts yn ys en es ew cv) H → va_D A (wM q cA N mr zn zs tn ts yn ys en es ew cv) → va_S A s.heap H locs → lv_has ls 7 [(0, .ref (q 0)), (1, .int x1), (2, .int x2), (3, .int x3), (5, .int x5), (6, .int x6)] → W p l e ({ frames := 0, cells := 0, slots := 0, locals := 0 }) s m ([.ref (q 0), .int a1, .int a2] : List Value).toArray below meth c H locs 0 0 (MQ below (kQi D cA kB A (wM q cA N mr zn zs tn ts yn ys en es ew cv) r) ([.ref (q 0), .int a1, .int a2] : List Value).toArray s 0 0 A) (F0 m 62 ls [])) ∧
    (∀ (x1 x2 x3 x5 x6 : Int32) (r : Int32) (H : Heap) (locs : List Loc) (ls : Array Slot), mM_complete N mr n 4 [x1, x2, x3, x5, x6] = some r → va_P D vwCl (wM q cA N mr zn zs tn ts yn ys en es ew cv) H → va_D A (wM q cA N mr zn zs tn ts yn ys en es ew cv) → va_S A s.heap H locs → lv_has ls 7 [(0, .ref (q 0)), (1, .int x1), (2, .int x2), (3, .int x3), (5, .int x5), (6, .int x6)] → W p l e ({ frames := 0, cells := 0, slots := 0, locals := 0 }) s m ([.ref (q 0), .int a1, .int a2] : List Value).toArray below meth c H locs 0 0 (MQ below (kQi D cA kB A (wM q cA N mr zn zs tn ts yn ys en es ew cv) r) ([.ref (q 0), .int a1, .int a2] : List Value).toArray s 0 0 A) (F0 m 66 ls [])) ∧
    (∀ (x1 x2 x3 x5 x6 y0 : Int32) (r : Int32) (H : Heap) (locs : List Loc) (ls : Array Slot), mM_complete N mr n 5 [x1, x2, x3, x5, x6, y0] = some r → va_P D vwCl (wM q cA N mr zn zs tn ts yn ys en es ew cv) H → va_D A (wM q cA N mr zn zs tn ts yn ys en es ew cv) → va_S A s.heap H locs → lv_has ls 7 [(0, .ref (q 0)), (1, .int x1), (2, .int x2), (3, .int x3), (5, .int x5), (6, .int x6)] → W p l e ({ frames := 0, cells := 0, slots := 0, locals := 0 }) s m ([.ref (q 0), .int a1, .int a2] : List Value).toArray below meth c H locs 0 0 (MQ below (kQi D cA kB A (wM q cA N mr zn zs tn ts yn ys en es ew cv) r) ([.ref (q 0), .int a1, .int a2] : List Value).toArray s 0 0 A) (F0 m 67 ls [.int y0])) := by
    intro n
    induction n with
    | zero => exact ⟨(by intros; rename_i h _ _ _ _; rw [mM_complete_z] at h; cases h), (by intros; rename_i h _ _ _ _; rw [mM_complete_z] at h; cases h), (by intros; rename_i h _ _ _ _; rw [mM_complete_z] at h; cases h), (by intros; rename_i h _ _ _ _; rw [mM_complete_z] at h; cases h), (by intros; rename_i h _ _ _ _; rw [mM_complete_z] at h; cases h), (by intros; rename_i h _ _ _ _; rw [mM_complete_z] at h; cases h)⟩
    | succ n ih =>
      obtain ⟨ih0, ih1, ih2, ih3, ih4, ih5⟩ := ih
      refine ⟨?_, ?_, ?_, ?_, ?_, ?_⟩
      · intro x1 x2 r H locs ls hm hP hD hS hl
        rw [mM_complete_e0] at hm
        refine lv_iconst (v := 0) hx hb dXM_complete_0 (by decide) ?_
        refine lv_istore_n (lv' := [(3, .int 0), (0, .ref (q 0)), (1, .int x1), (2, .int x2)]) hx hb dXM_complete_1 rfl hl (by decide) rfl (fun ls hl => ?_)
        refine lv_iconst (v := 1) hx hb dXM_complete_2 (by decide) ?_
        refine lv_istore (lv' := [(4, .int 1), (3, .int 0), (0, .ref (q 0)), (1, .int x1), (2, .int x2)]) hx hb dXM_complete_3 hl (by decide) rfl (fun ls hl => ?_)
        refine lv_iconst (v := 0) hx hb dXM_complete_5 (by decide) ?_
        refine lv_istore (lv' := [(5, .int 0), (4, .int 1), (3, .int 0), (0, .ref (q 0)), (1, .int x1), (2, .int x2)]) hx hb dXM_complete_6 hl (by decide) rfl (fun ls hl => ?_)
        exact ih1 x1 x2 0 1 0 _ H locs ls hm hP hD hS (lv_sub hl [3, 4, 5, 2, 1, 0] rfl)
      · intro x1 x2 x3 x4 x5 r H locs ls hm hP hD hS hl
        rw [mM_complete_e1] at hm
        refine lv_iload hx hb dXM_complete_8 (lv_at hl 5 rfl) ?_
        refine lv_aload_n hx hb dXM_complete_10 rfl (lv_at hl 0 rfl) ?_
        refine va_get (D := D) (ci := 5) (v := .int (nI N)) (C := RXM) (T := TXM) (N := 12) hx hb hts hinXM hown hK hP 0 rfl rfl 0 (by decide) (hts _ wd_389) (fun _ h9 => h9) rfl dXM_complete_11 ?_
        refine lv_icmp_ge (tgt := 87) hx hb dXM_complete_14 (by decide) (fun c111 => ?_) (fun c111 => ?_)
        · rw [if_pos c111] at hm
          refine lv_iload hx hb dXM_complete_87 (lv_at hl 4 rfl) ?_
          obtain ⟨hz, hm⟩ := kz_s hm
          cases hm
          exact k_zret hx hb hr hlocks hK hP hD hS hz dXM_complete_89
        · rw [if_neg c111] at hm
          refine lv_iload_n hx hb dXM_complete_17 rfl (lv_at hl 1 rfl) ?_
          refine lv_iload hx hb dXM_complete_18 (lv_at hl 5 rfl) ?_
          refine lv_ishr hx hb dXM_complete_20 ?_
          refine lv_iconst (v := 1) hx hb dXM_complete_21 (by decide) ?_
          refine lv_iand hx hb dXM_complete_22 ?_
          refine lv_iconst (v := 1) hx hb dXM_complete_23 (by decide) ?_
          refine lv_icmp_ne (tgt := 39) hx hb dXM_complete_24 (by decide) (fun c112 => ?_) (fun c112 => ?_)
          · rw [if_neg c112] at hm
            refine lv_iconst (v := 0) hx hb dXM_complete_39 (by decide) ?_
            exact ih2 x1 x2 x3 x4 x5 0 _ H locs ls hm hP hD hS (lv_sub hl [0, 1, 2, 3, 4, 5] rfl)
          · rw [if_pos c112] at hm
            refine lv_aload_n hx hb dXM_complete_27 rfl (lv_at hl 0 rfl) ?_
            refine va_get (D := D) (ci := 5) (v := .ref (q 1)) (C := RXM) (T := TXM) (N := 12) hx hb hts hinXM hown hK hP 0 rfl rfl 1 (by decide) (hts _ wd_390) (fun _ h9 => h9) rfl dXM_complete_28 ?_
            refine lv_iload hx hb dXM_complete_31 (lv_at hl 5 rfl) ?_
            obtain ⟨hg113, hm⟩ := kg_s hm
            refine va_iald hx hb hK hP 1 0 rfl rfl hg113 dXM_complete_33 ?_
            refine lv_iload_n hx hb dXM_complete_34 rfl (lv_at hl 2 rfl) ?_
            refine lv_iand hx hb dXM_complete_35 ?_
            refine lv_goto (tgt := 40) hx hb dXM_complete_36 (by decide) ?_
            exact ih2 x1 x2 x3 x4 x5 ((mr x5.toNatClampNeg) &&& x2) _ H locs ls hm hP hD hS (lv_sub hl [0, 1, 2, 3, 4, 5] rfl)
      · intro x1 x2 x3 x4 x5 y0 r H locs ls hm hP hD hS hl
        rw [mM_complete_e2] at hm
        refine lv_istore (lv' := [(6, .int y0), (0, .ref (q 0)), (1, .int x1), (2, .int x2), (3, .int x3), (4, .int x4), (5, .int x5)]) hx hb dXM_complete_40 hl (by decide) rfl (fun ls hl => ?_)
        refine lv_iload hx hb dXM_complete_42 (lv_at hl 5 rfl) ?_
        refine lv_if_eq (tgt := 66) hx hb dXM_complete_44 (by decide) (fun c211 => ?_) (fun c211 => ?_)
        · rw [if_pos c211] at hm
          exact ih4 x1 x2 x3 x5 y0 _ H locs ls hm hP hD hS (lv_sub hl [1, 2, 3, 4, 6, 0] rfl)
        · rw [if_neg c211] at hm
          refine lv_iload hx hb dXM_complete_47 (lv_at hl 0 rfl) ?_
          refine lv_if_eq (tgt := 62) hx hb dXM_complete_49 (by decide) (fun c212 => ?_) (fun c212 => ?_)
          · rw [if_pos c212] at hm
            exact ih3 x1 x2 x3 x5 y0 _ H locs ls hm hP hD hS (lv_sub hl [1, 2, 3, 4, 6, 0] rfl)
          · rw [if_neg c212] at hm
            refine lv_iload_n hx hb dXM_complete_52 rfl (lv_at hl 4 rfl) ?_
            refine lv_if_eq (tgt := 62) hx hb dXM_complete_53 (by decide) (fun c213 => ?_) (fun c213 => ?_)
            · rw [if_pos c213] at hm
              exact ih3 x1 x2 x3 x5 y0 _ H locs ls hm hP hD hS (lv_sub hl [1, 2, 3, 4, 6, 0] rfl)
            · rw [if_neg c213] at hm
              refine lv_iload hx hb dXM_complete_56 (lv_at hl 0 rfl) ?_
              refine lv_iload_n hx hb dXM_complete_58 rfl (lv_at hl 4 rfl) ?_
              refine lv_icmp_ne (tgt := 66) hx hb dXM_complete_59 (by decide) (fun c214 => ?_) (fun c214 => ?_)
              · rw [if_neg c214] at hm
                exact ih4 x1 x2 x3 x5 y0 _ H locs ls hm hP hD hS (lv_sub hl [1, 2, 3, 4, 6, 0] rfl)
              · rw [if_pos c214] at hm
                exact ih3 x1 x2 x3 x5 y0 _ H locs ls hm hP hD hS (lv_sub hl [1, 2, 3, 4, 6, 0] rfl)
      · intro x1 x2 x3 x5 x6 r H locs ls hm hP hD hS hl
        rw [mM_complete_e3] at hm
        refine lv_iconst (v := 1) hx hb dXM_complete_62 (by decide) ?_
        refine lv_goto (tgt := 67) hx hb dXM_complete_63 (by decide) ?_
        exact ih5 x1 x2 x3 x5 x6 1 _ H locs ls hm hP hD hS (lv_sub hl [0, 1, 2, 3, 4, 5] rfl)
      · intro x1 x2 x3 x5 x6 r H locs ls hm hP hD hS hl
        rw [mM_complete_e4] at hm
        refine lv_iconst (v := 0) hx hb dXM_complete_66 (by decide) ?_
        exact ih5 x1 x2 x3 x5 x6 0 _ H locs ls hm hP hD hS (lv_sub hl [0, 1, 2, 3, 4, 5] rfl)
      · intro x1 x2 x3 x5 x6 y0 r H locs ls hm hP hD hS hl
        rw [mM_complete_e5] at hm
        refine lv_istore (lv' := [(4, .int y0), (0, .ref (q 0)), (1, .int x1), (2, .int x2), (3, .int x3), (5, .int x5), (6, .int x6)]) hx hb dXM_complete_67 hl (by decide) rfl (fun ls hl => ?_)
        refine lv_iload hx hb dXM_complete_69 (lv_at hl 6 rfl) ?_
        refine lv_if_ne (tgt := 78) hx hb dXM_complete_71 (by decide) (fun c511 => ?_) (fun c511 => ?_)
        · rw [if_neg c511] at hm
          refine lv_iload hx hb dXM_complete_78 (lv_at hl 6 rfl) ?_
          refine lv_istore_n (lv' := [(3, .int x6), (4, .int y0), (0, .ref (q 0)), (1, .int x1), (2, .int x2), (5, .int x5), (6, .int x6)]) hx hb dXM_complete_80 rfl hl (by decide) rfl (fun ls hl => ?_)
          refine lv_iinc (v := (x5 + 1)) (lv' := [(5, .int (x5 + 1)), (3, .int x6), (4, .int y0), (0, .ref (q 0)), (1, .int x1), (2, .int x2), (6, .int x6)]) hx hb dXM_complete_81 hl (k := 5) rfl rfl (by decide) rfl (fun ls hl => ?_)
          refine lv_goto (tgt := 8) hx hb dXM_complete_84 (by decide) ?_
          exact ih1 x1 x2 x6 y0 (x5 + 1) _ H locs ls hm hP hD hS (lv_sub hl [3, 4, 5, 1, 2, 0] rfl)
        · rw [if_pos c511] at hm
          refine lv_iload_n hx hb dXM_complete_74 rfl (lv_at hl 4 rfl) ?_
          refine lv_goto (tgt := 80) hx hb dXM_complete_75 (by decide) ?_
          refine lv_istore_n (lv' := [(3, .int x3), (4, .int y0), (0, .ref (q 0)), (1, .int x1), (2, .int x2), (5, .int x5), (6, .int x6)]) hx hb dXM_complete_80 rfl hl (by decide) rfl (fun ls hl => ?_)
          refine lv_iinc (v := (x5 + 1)) (lv' := [(5, .int (x5 + 1)), (3, .int x3), (4, .int y0), (0, .ref (q 0)), (1, .int x1), (2, .int x2), (6, .int x6)]) hx hb dXM_complete_81 hl (k := 5) rfl rfl (by decide) rfl (fun ls hl => ?_)
          refine lv_goto (tgt := 8) hx hb dXM_complete_84 (by decide) ?_
          exact ih1 x1 x2 x3 y0 (x5 + 1) _ H locs ls hm hP hD hS (lv_sub hl [3, 4, 5, 1, 2, 0] rfl)
  exact (key n).1 a1 a2 r s.heap [] ls hm hP hD va_S.rf hl
set_option maxHeartbeats 4000000 in
set_option maxRecDepth 100000 in
theorem cM_cross (l : Launch) (D : va_G) (cA : ClassId) (sz : Nat) (a0 a1 : Int32) (n : Nat) (r : Int32) (hm : mM_cross n 0 [a0, a1] = some r) : Met l yXM_cross wsXM_cross ({ frames := 0, cells := 0, slots := 0, locals := 0 }) (kPc D cA [.int a0, .int a1] [] sz) (kQi D cA kB (va_A [] sz) [] r) 0 0 (va_A [] sz) := by
  refine k_met (D := D) (cA := cA) (w := []) (sz := sz) (av := [.int a0, .int a1]) (cc := cXM_cross) (maxL := 2) (ret := (some .boolean)) (Qc := fun A => kQi D cA kB A [] r) (by decide) rfl (Nat.le_of_ble_eq_true rfl) ?_
  intro p e s m below meth c A ls hX hK hN hA hP hD hl
  obtain ⟨hx, hb, hr, hml, hown, hts, hlocks, -⟩ := hX
  have hown : s.vm.findClass RXM = some m.cls := hown
  have hl : lv_has ls 2 [(0, .int a0), (1, .int a1)] := hl
  have hts : ∀ w ∈ W0, w.before _ s = true := fun w h => hts w (List.mem_cons_of_mem _ h)
  have key : ∀ n : Nat, (∀ (x0 x1 : Int32) (r : Int32) (H : Heap) (locs : List Loc) (ls : Array Slot), mM_cross n 0 [x0, x1] = some r → va_P D vwCl [] H → va_D A [] → va_S A s.heap H locs → lv_has ls 2 [(0, .int x0), (1, .int x1)] → W p l e ({ frames := 0, cells := 0, slots := 0, locals := 0 }) s m ([.int a0, .int a1] : List Value).toArray below meth c H locs 0 0 (MQ below (kQi D cA kB A [] r) ([.int a0, .int a1] : List Value).toArray s 0 0 A) (F0 m 0 ls [])) := by
    intro n
    induction n with
    | zero => exact (by intros; rename_i h _ _ _ _; rw [mM_cross_z] at h; cases h)
    | succ n ih =>
      have ih0 := ih
      intro x0 x1 r H locs ls hm hP hD hS hl
      rw [mM_cross_e0] at hm
      refine lv_iload_n hx hb dXM_cross_0 rfl (lv_at hl 0 rfl) ?_
      refine lv_iload_n hx hb dXM_cross_1 rfl (lv_at hl 1 rfl) ?_
      refine lv_iand hx hb dXM_cross_2 ?_
      refine lv_if_eq (tgt := 26) hx hb dXM_cross_3 (by decide) (fun c11 => ?_) (fun c11 => ?_)
      · rw [if_pos c11] at hm
        refine lv_iconst (v := 0) hx hb dXM_cross_26 (by decide) ?_
        cases hm
        exact k_zret hx hb hr hlocks hK hP hD hS (Or.inl rfl) dXM_cross_27
      · rw [if_neg c11] at hm
        refine lv_iload_n hx hb dXM_cross_6 rfl (lv_at hl 0 rfl) ?_
        refine lv_iload_n hx hb dXM_cross_7 rfl (lv_at hl 1 rfl) ?_
        refine lv_iconst (v := (-1)) hx hb dXM_cross_8 (by decide) ?_
        refine lv_ixor hx hb dXM_cross_9 ?_
        refine lv_iand hx hb dXM_cross_10 ?_
        refine lv_if_eq (tgt := 26) hx hb dXM_cross_11 (by decide) (fun c12 => ?_) (fun c12 => ?_)
        · rw [if_pos c12] at hm
          refine lv_iconst (v := 0) hx hb dXM_cross_26 (by decide) ?_
          cases hm
          exact k_zret hx hb hr hlocks hK hP hD hS (Or.inl rfl) dXM_cross_27
        · rw [if_neg c12] at hm
          refine lv_iload_n hx hb dXM_cross_14 rfl (lv_at hl 1 rfl) ?_
          refine lv_iload_n hx hb dXM_cross_15 rfl (lv_at hl 0 rfl) ?_
          refine lv_iconst (v := (-1)) hx hb dXM_cross_16 (by decide) ?_
          refine lv_ixor hx hb dXM_cross_17 ?_
          refine lv_iand hx hb dXM_cross_18 ?_
          refine lv_if_eq (tgt := 26) hx hb dXM_cross_19 (by decide) (fun c13 => ?_) (fun c13 => ?_)
          · rw [if_pos c13] at hm
            refine lv_iconst (v := 0) hx hb dXM_cross_26 (by decide) ?_
            cases hm
            exact k_zret hx hb hr hlocks hK hP hD hS (Or.inl rfl) dXM_cross_27
          · rw [if_neg c13] at hm
            refine lv_iconst (v := 1) hx hb dXM_cross_22 (by decide) ?_
            refine lv_goto (tgt := 27) hx hb dXM_cross_23 (by decide) ?_
            cases hm
            exact k_zret hx hb hr hlocks hK hP hD hS (Or.inr rfl) dXM_cross_27
  exact key n a0 a1 r s.heap [] ls hm hP hD va_S.rf hl
set_option maxHeartbeats 4000000 in
set_option maxRecDepth 100000 in
theorem cM_find (l : Launch) (D : va_G) (q : Nat → Nat) (cA : ClassId) (N : Nat) (sz : Nat) (mr : Nat → Int32) (zn : Int32) (zs : Nat → Int32) (tn : Int32) (ts : Nat → Int32) (yn : Int32) (ys : Nat → Int32) (en : Int32) (es : Nat → Int32) (ew : Int32) (cv : Nat → Int32) (a1 : Int32) (n : Nat) (zn_1 : Int32) (zs_1 : Nat → Int32) (tn_1 : Int32) (ts_1 : Nat → Int32) (hm : mM_find N mr n 0 [a1] zn zs tn ts = some (zn_1, zs_1, tn_1, ts_1)) : Met l yXM_find wsXM_find ({ frames := 1, cells := 0, slots := 0, locals := 26 }) (kPc D cA [.ref (q 0), .int a1] (wM q cA N mr zn zs tn ts yn ys en es ew cv) sz) (kQv D cA (va_A (wM q cA N mr zn zs tn ts yn ys en es ew cv) sz) (wM q cA N mr zn_1 zs_1 tn_1 ts_1 yn ys en es ew cv)) 0 0 (va_A (wM q cA N mr zn zs tn ts yn ys en es ew cv) sz) := by
  refine k_met (D := D) (cA := cA) (w := (wM q cA N mr zn zs tn ts yn ys en es ew cv)) (sz := sz) (av := [.ref (q 0), .int a1]) (cc := cXM_find) (maxL := 6) (ret := none) (Qc := fun A => kQv D cA A (wM q cA N mr zn_1 zs_1 tn_1 ts_1 yn ys en es ew cv)) (by decide) rfl (Nat.le_of_ble_eq_true rfl) ?_
  intro p e s m below meth c A ls hX hK hN hA hP hD hl
  obtain ⟨hx, hb, hr, hml, hown, hts, hlocks, -⟩ := hX
  have hown : s.vm.findClass RXM = some m.cls := hown
  have hl : lv_has ls 6 [(0, .ref (q 0)), (1, .int a1)] := hl
  have hts : ∀ w ∈ W0, w.before _ s = true := fun w h => hts w (List.mem_cons_of_mem _ h)
  have key : ∀ n : Nat, (∀ (x1 : Int32) (zn : Int32) (zs : Nat → Int32) (tn : Int32) (ts : Nat → Int32) (zn_1 : Int32) (zs_1 : Nat → Int32) (tn_1 : Int32) (ts_1 : Nat → Int32) (H : Heap) (locs : List Loc) (ls : Array Slot), mM_find N mr n 0 [x1] zn zs tn ts = some (zn_1, zs_1, tn_1, ts_1) → va_P D vwCl (wM q cA N mr zn zs tn ts yn ys en es ew cv) H → va_D A (wM q cA N mr zn zs tn ts yn ys en es ew cv) → va_S A s.heap H locs → lv_has ls 6 [(0, .ref (q 0)), (1, .int x1)] → W p l e ({ frames := 1, cells := 0, slots := 0, locals := 26 }) s m ([.ref (q 0), .int a1] : List Value).toArray below meth c H locs 0 0 (MQ below (kQv D cA A (wM q cA N mr zn_1 zs_1 tn_1 ts_1 yn ys en es ew cv)) ([.ref (q 0), .int a1] : List Value).toArray s 0 0 A) (F0 m 0 ls [])) ∧
    (∀ (x1 x2 x3 : Int32) (zn : Int32) (zs : Nat → Int32) (tn : Int32) (ts : Nat → Int32) (zn_1 : Int32) (zs_1 : Nat → Int32) (tn_1 : Int32) (ts_1 : Nat → Int32) (H : Heap) (locs : List Loc) (ls : Array Slot), mM_find N mr n 1 [x1, x2, x3] zn zs tn ts = some (zn_1, zs_1, tn_1, ts_1) → va_P D vwCl (wM q cA N mr zn zs tn ts yn ys en es ew cv) H → va_D A (wM q cA N mr zn zs tn ts yn ys en es ew cv) → va_S A s.heap H locs → lv_has ls 6 [(0, .ref (q 0)), (1, .int x1), (2, .int x2), (3, .int x3)] → W p l e ({ frames := 1, cells := 0, slots := 0, locals := 26 }) s m ([.ref (q 0), .int a1] : List Value).toArray below meth c H locs 0 0 (MQ below (kQv D cA A (wM q cA N mr zn_1 zs_1 tn_1 ts_1 yn ys en es ew cv)) ([.ref (q 0), .int a1] : List Value).toArray s 0 0 A) (F0 m 14 ls [])) ∧
    (∀ (x1 x2 x3 : Int32) (zn : Int32) (zs : Nat → Int32) (tn : Int32) (ts : Nat → Int32) (zn_1 : Int32) (zs_1 : Nat → Int32) (tn_1 : Int32) (ts_1 : Nat → Int32) (H : Heap) (locs : List Loc) (ls : Array Slot), mM_find N mr n 2 [x1, x2, x3] zn zs tn ts = some (zn_1, zs_1, tn_1, ts_1) → va_P D vwCl (wM q cA N mr zn zs tn ts yn ys en es ew cv) H → va_D A (wM q cA N mr zn zs tn ts yn ys en es ew cv) → va_S A s.heap H locs → lv_has ls 6 [(0, .ref (q 0)), (1, .int x1), (2, .int x2), (3, .int x3)] → W p l e ({ frames := 1, cells := 0, slots := 0, locals := 26 }) s m ([.ref (q 0), .int a1] : List Value).toArray below meth c H locs 0 0 (MQ below (kQv D cA A (wM q cA N mr zn_1 zs_1 tn_1 ts_1 yn ys en es ew cv)) ([.ref (q 0), .int a1] : List Value).toArray s 0 0 A) (F0 m 59 ls [])) ∧
    (∀ (x1 x2 x3 y0 : Int32) (zn : Int32) (zs : Nat → Int32) (tn : Int32) (ts : Nat → Int32) (zn_1 : Int32) (zs_1 : Nat → Int32) (tn_1 : Int32) (ts_1 : Nat → Int32) (H : Heap) (locs : List Loc) (ls : Array Slot), mM_find N mr n 3 [x1, x2, x3, y0] zn zs tn ts = some (zn_1, zs_1, tn_1, ts_1) → va_P D vwCl (wM q cA N mr zn zs tn ts yn ys en es ew cv) H → va_D A (wM q cA N mr zn zs tn ts yn ys en es ew cv) → va_S A s.heap H locs → lv_has ls 6 [(0, .ref (q 0)), (1, .int x1), (2, .int x2), (3, .int x3)] → W p l e ({ frames := 1, cells := 0, slots := 0, locals := 26 }) s m ([.ref (q 0), .int a1] : List Value).toArray below meth c H locs 0 0 (MQ below (kQv D cA A (wM q cA N mr zn_1 zs_1 tn_1 ts_1 yn ys en es ew cv)) ([.ref (q 0), .int a1] : List Value).toArray s 0 0 A) (F0 m 60 ls [.int y0])) ∧
    (∀ (x3 : Int32) (zn : Int32) (zs : Nat → Int32) (tn : Int32) (ts : Nat → Int32) (zn_1 : Int32) (zs_1 : Nat → Int32) (tn_1 : Int32) (ts_1 : Nat → Int32) (H : Heap) (locs : List Loc) (ls : Array Slot), mM_find N mr n 4 [x3] zn zs tn ts = some (zn_1, zs_1, tn_1, ts_1) → va_P D vwCl (wM q cA N mr zn zs tn ts yn ys en es ew cv) H → va_D A (wM q cA N mr zn zs tn ts yn ys en es ew cv) → va_S A s.heap H locs → lv_has ls 6 [(0, .ref (q 0)), (3, .int x3)] → W p l e ({ frames := 1, cells := 0, slots := 0, locals := 26 }) s m ([.ref (q 0), .int a1] : List Value).toArray below meth c H locs 0 0 (MQ below (kQv D cA A (wM q cA N mr zn_1 zs_1 tn_1 ts_1 yn ys en es ew cv)) ([.ref (q 0), .int a1] : List Value).toArray s 0 0 A) (F0 m 113 ls [])) ∧
    (∀ (x3 x4 x5 : Int32) (zn : Int32) (zs : Nat → Int32) (tn : Int32) (ts : Nat → Int32) (zn_1 : Int32) (zs_1 : Nat → Int32) (tn_1 : Int32) (ts_1 : Nat → Int32) (H : Heap) (locs : List Loc) (ls : Array Slot), mM_find N mr n 5 [x3, x4, x5] zn zs tn ts = some (zn_1, zs_1, tn_1, ts_1) → va_P D vwCl (wM q cA N mr zn zs tn ts yn ys en es ew cv) H → va_D A (wM q cA N mr zn zs tn ts yn ys en es ew cv) → va_S A s.heap H locs → lv_has ls 6 [(0, .ref (q 0)), (3, .int x3), (4, .int x4), (5, .int x5)] → W p l e ({ frames := 1, cells := 0, slots := 0, locals := 26 }) s m ([.ref (q 0), .int a1] : List Value).toArray below meth c H locs 0 0 (MQ below (kQv D cA A (wM q cA N mr zn_1 zs_1 tn_1 ts_1 yn ys en es ew cv)) ([.ref (q 0), .int a1] : List Value).toArray s 0 0 A) (F0 m 127 ls [])) ∧
    (∀ (x3 x5 : Int32) (zn : Int32) (zs : Nat → Int32) (tn : Int32) (ts : Nat → Int32) (zn_1 : Int32) (zs_1 : Nat → Int32) (tn_1 : Int32) (ts_1 : Nat → Int32) (H : Heap) (locs : List Loc) (ls : Array Slot), mM_find N mr n 6 [x3, x5] zn zs tn ts = some (zn_1, zs_1, tn_1, ts_1) → va_P D vwCl (wM q cA N mr zn zs tn ts yn ys en es ew cv) H → va_D A (wM q cA N mr zn zs tn ts yn ys en es ew cv) → va_S A s.heap H locs → lv_has ls 6 [(0, .ref (q 0)), (3, .int x3), (5, .int x5)] → W p l e ({ frames := 1, cells := 0, slots := 0, locals := 26 }) s m ([.ref (q 0), .int a1] : List Value).toArray below meth c H locs 0 0 (MQ below (kQv D cA A (wM q cA N mr zn_1 zs_1 tn_1 ts_1 yn ys en es ew cv)) ([.ref (q 0), .int a1] : List Value).toArray s 0 0 A) (F0 m 164 ls [])) := by
    intro n
    induction n with
    | zero => exact ⟨(by intros; rename_i h _ _ _ _; rw [mM_find_z] at h; cases h), (by intros; rename_i h _ _ _ _; rw [mM_find_z] at h; cases h), (by intros; rename_i h _ _ _ _; rw [mM_find_z] at h; cases h), (by intros; rename_i h _ _ _ _; rw [mM_find_z] at h; cases h), (by intros; rename_i h _ _ _ _; rw [mM_find_z] at h; cases h), (by intros; rename_i h _ _ _ _; rw [mM_find_z] at h; cases h), (by intros; rename_i h _ _ _ _; rw [mM_find_z] at h; cases h)⟩
    | succ n ih =>
      obtain ⟨ih0, ih1, ih2, ih3, ih4, ih5, ih6⟩ := ih
      refine ⟨?_, ?_, ?_, ?_, ?_, ?_, ?_⟩
      · intro x1 zn zs tn ts zn_1 zs_1 tn_1 ts_1 H locs ls hm hP hD hS hl
        rw [mM_find_e0] at hm
        refine lv_aload_n hx hb dXM_find_0 rfl (lv_at hl 0 rfl) ?_
        refine lv_iconst (v := 0) hx hb dXM_find_1 (by decide) ?_
        refine va_put (D := D) (ci := 5) (v := .int 0) (ty := .int) (C := RXM) (T := TXM) (N := 12) hx hb hts hinXM tyXM tyXM_ok nXM hown hK hP hD hS 0 rfl rfl 2 (by decide) (hts _ wd_391) (fun _ h9 => h9) rfl (by decide +kernel) rfl rfl (Nat.le_of_ble_eq_true rfl) dXM_find_2 (fun H locs hP hD hS => ?_)
        have hP : va_P D vwCl (wM q cA N mr 0 zs tn ts yn ys en es ew cv) H := hP
        have hD : va_D A (wM q cA N mr 0 zs tn ts yn ys en es ew cv) := hD
        refine lv_iconst (v := 1) hx hb dXM_find_5 (by decide) ?_
        refine lv_iload_n hx hb dXM_find_6 rfl (lv_at hl 1 rfl) ?_
        obtain ⟨r11, hm11, hm⟩ := kb_s hm
        refine k_s0 (As := [.int x1]) (rest := [.int 1]) ⟨hx, hb, hml, hown, hts⟩ (cM_least l D cA H.size x1 n r11 hm11) (cwS 1 hts (gS wd_443 wd_444 wd_41 wd_445) rfl rfl rfl (by decide +kernel) ⟨Nat.le_of_ble_eq_true rfl, Nat.le_of_ble_eq_true rfl⟩) hK hN hP hD hS hA rfl hl.1 rfl (Nat.le_of_ble_eq_true rfl) dXM_find_7 ⟨Nat.le_of_ble_eq_true rfl, Nat.le_of_ble_eq_true rfl⟩ (fun hz11 H locs hP hD hS => ?_)
        refine lv_ishl hx hb dXM_find_10 ?_
        refine lv_topi (fun x2_12 ex2_12 => ?_)
        have hm := kl_s ex2_12 hm
        refine lv_istore_n (lv' := [(2, .int x2_12), (0, .ref (q 0)), (1, .int x1)]) hx hb dXM_find_11 rfl hl (by decide) rfl (fun ls hl => ?_)
        refine lv_iconst (v := 0) hx hb dXM_find_12 (by decide) ?_
        refine lv_istore_n (lv' := [(3, .int 0), (2, .int x2_12), (0, .ref (q 0)), (1, .int x1)]) hx hb dXM_find_13 rfl hl (by decide) rfl (fun ls hl => ?_)
        exact ih1 x1 x2_12 0 0 zs tn ts _ _ _ _ H locs ls hm hP hD hS (lv_sub hl [2, 3, 1, 0] rfl)
      · intro x1 x2 x3 zn zs tn ts zn_1 zs_1 tn_1 ts_1 H locs ls hm hP hD hS hl
        rw [mM_find_e1] at hm
        refine lv_iload_n hx hb dXM_find_14 rfl (lv_at hl 3 rfl) ?_
        refine lv_sipush (v := 512) hx hb dXM_find_15 (by decide) ?_
        refine lv_icmp_ge (tgt := 106) hx hb dXM_find_18 (by decide) (fun c111 => ?_) (fun c111 => ?_)
        · rw [if_pos c111] at hm
          refine lv_aload_n hx hb dXM_find_106 rfl (lv_at hl 0 rfl) ?_
          refine lv_iconst (v := 0) hx hb dXM_find_107 (by decide) ?_
          refine va_put (D := D) (ci := 5) (v := .int 0) (ty := .int) (C := RXM) (T := TXM) (N := 12) hx hb hts hinXM tyXM tyXM_ok nXM hown hK hP hD hS 0 rfl rfl 4 (by decide) (hts _ wd_393) (fun _ h9 => h9) rfl (by decide +kernel) rfl rfl (Nat.le_of_ble_eq_true rfl) dXM_find_108 (fun H locs hP hD hS => ?_)
          have hP : va_P D vwCl (wM q cA N mr zn zs 0 ts yn ys en es ew cv) H := hP
          have hD : va_D A (wM q cA N mr zn zs 0 ts yn ys en es ew cv) := hD
          refine lv_iconst (v := 0) hx hb dXM_find_111 (by decide) ?_
          refine lv_istore_n (lv' := [(3, .int 0), (0, .ref (q 0)), (1, .int x1), (2, .int x2)]) hx hb dXM_find_112 rfl hl (by decide) rfl (fun ls hl => ?_)
          exact ih4 0 zn zs 0 ts _ _ _ _ H locs ls hm hP hD hS (lv_sub hl [1, 0] rfl)
        · rw [if_neg c111] at hm
          refine lv_iload_n hx hb dXM_find_21 rfl (lv_at hl 3 rfl) ?_
          refine lv_iload_n hx hb dXM_find_22 rfl (lv_at hl 1 rfl) ?_
          refine lv_iconst (v := (-1)) hx hb dXM_find_23 (by decide) ?_
          refine lv_ixor hx hb dXM_find_24 ?_
          refine lv_iand hx hb dXM_find_25 ?_
          refine lv_if_ne (tgt := 59) hx hb dXM_find_26 (by decide) (fun c112 => ?_) (fun c112 => ?_)
          · rw [if_neg c112] at hm
            exact ih2 x1 x2 x3 zn zs tn ts _ _ _ _ H locs ls hm hP hD hS (lv_sub hl [0, 1, 2, 3] rfl)
          · rw [if_pos c112] at hm
            refine lv_iload_n hx hb dXM_find_29 rfl (lv_at hl 3 rfl) ?_
            refine lv_iload_n hx hb dXM_find_30 rfl (lv_at hl 2 rfl) ?_
            refine lv_iand hx hb dXM_find_31 ?_
            refine lv_if_ne (tgt := 59) hx hb dXM_find_32 (by decide) (fun c113 => ?_) (fun c113 => ?_)
            · rw [if_neg c113] at hm
              exact ih2 x1 x2 x3 zn zs tn ts _ _ _ _ H locs ls hm hP hD hS (lv_sub hl [0, 1, 2, 3] rfl)
            · rw [if_pos c113] at hm
              refine lv_iload_n hx hb dXM_find_35 rfl (lv_at hl 3 rfl) ?_
              obtain ⟨r114, hm114, hm⟩ := kb_s hm
              refine k_s0 (As := [.int x3]) (rest := []) ⟨hx, hb, hml, hown, hts⟩ (cM_size l D cA H.size x3 n r114 hm114) (cwS 1 hts (gS wd_446 wd_447 wd_41 wd_448) rfl rfl rfl (by decide +kernel) ⟨Nat.le_of_ble_eq_true rfl, Nat.le_of_ble_eq_true rfl⟩) hK hN hP hD hS hA rfl hl.1 rfl (Nat.le_of_ble_eq_true rfl) dXM_find_36 ⟨Nat.le_of_ble_eq_true rfl, Nat.le_of_ble_eq_true rfl⟩ (fun hz114 H locs hP hD hS => ?_)
              refine lv_iconst (v := 2) hx hb dXM_find_39 (by decide) ?_
              refine lv_icmp_lt (tgt := 59) hx hb dXM_find_40 (by decide) (fun c115 => ?_) (fun c115 => ?_)
              · rw [if_pos c115] at hm
                exact ih2 x1 x2 x3 zn zs tn ts _ _ _ _ H locs ls hm hP hD hS (lv_sub hl [0, 1, 2, 3] rfl)
              · rw [if_neg c115] at hm
                refine lv_iload_n hx hb dXM_find_43 rfl (lv_at hl 1 rfl) ?_
                refine lv_iload_n hx hb dXM_find_44 rfl (lv_at hl 3 rfl) ?_
                refine lv_iconst (v := (-1)) hx hb dXM_find_45 (by decide) ?_
                refine lv_ixor hx hb dXM_find_46 ?_
                refine lv_iand hx hb dXM_find_47 ?_
                obtain ⟨r116, hm116, hm⟩ := kb_s hm
                refine k_s0 (As := [.int (x1 &&& (x3 ^^^ (-1)))]) (rest := []) ⟨hx, hb, hml, hown, hts⟩ (cM_size l D cA H.size (x1 &&& (x3 ^^^ (-1))) n r116 hm116) (cwS 1 hts (gS wd_446 wd_447 wd_41 wd_448) rfl rfl rfl (by decide +kernel) ⟨Nat.le_of_ble_eq_true rfl, Nat.le_of_ble_eq_true rfl⟩) hK hN hP hD hS hA rfl hl.1 rfl (Nat.le_of_ble_eq_true rfl) dXM_find_48 ⟨Nat.le_of_ble_eq_true rfl, Nat.le_of_ble_eq_true rfl⟩ (fun hz116 H locs hP hD hS => ?_)
                refine lv_iconst (v := 2) hx hb dXM_find_51 (by decide) ?_
                refine lv_icmp_lt (tgt := 59) hx hb dXM_find_52 (by decide) (fun c117 => ?_) (fun c117 => ?_)
                · rw [if_pos c117] at hm
                  exact ih2 x1 x2 x3 zn zs tn ts _ _ _ _ H locs ls hm hP hD hS (lv_sub hl [0, 1, 2, 3] rfl)
                · rw [if_neg c117] at hm
                  refine lv_iconst (v := 1) hx hb dXM_find_55 (by decide) ?_
                  refine lv_goto (tgt := 60) hx hb dXM_find_56 (by decide) ?_
                  exact ih3 x1 x2 x3 1 zn zs tn ts _ _ _ _ H locs ls hm hP hD hS (lv_sub hl [0, 1, 2, 3] rfl)
      · intro x1 x2 x3 zn zs tn ts zn_1 zs_1 tn_1 ts_1 H locs ls hm hP hD hS hl
        rw [mM_find_e2] at hm
        refine lv_iconst (v := 0) hx hb dXM_find_59 (by decide) ?_
        exact ih3 x1 x2 x3 0 zn zs tn ts _ _ _ _ H locs ls hm hP hD hS (lv_sub hl [0, 1, 2, 3] rfl)
      · intro x1 x2 x3 y0 zn zs tn ts zn_1 zs_1 tn_1 ts_1 H locs ls hm hP hD hS hl
        rw [mM_find_e3] at hm
        refine lv_istore (lv' := [(4, .int y0), (0, .ref (q 0)), (1, .int x1), (2, .int x2), (3, .int x3)]) hx hb dXM_find_60 hl (by decide) rfl (fun ls hl => ?_)
        refine lv_iload hx hb dXM_find_62 (lv_at hl 0 rfl) ?_
        refine lv_if_eq (tgt := 100) hx hb dXM_find_64 (by decide) (fun c311 => ?_) (fun c311 => ?_)
        · rw [if_pos c311] at hm
          refine lv_iinc (v := (x3 + 1)) (lv' := [(3, .int (x3 + 1)), (4, .int y0), (0, .ref (q 0)), (1, .int x1), (2, .int x2)]) hx hb dXM_find_100 hl (k := 4) rfl rfl (by decide) rfl (fun ls hl => ?_)
          refine lv_goto (tgt := 14) hx hb dXM_find_103 (by decide) ?_
          exact ih1 x1 x2 (x3 + 1) zn zs tn ts _ _ _ _ H locs ls hm hP hD hS (lv_sub hl [2, 3, 4, 0] rfl)
        · rw [if_neg c311] at hm
          refine lv_aload_n hx hb dXM_find_67 rfl (lv_at hl 1 rfl) ?_
          refine lv_iload_n hx hb dXM_find_68 rfl (lv_at hl 4 rfl) ?_
          refine lv_iload_n hx hb dXM_find_69 rfl (lv_at hl 2 rfl) ?_
          refine lv_iload_n hx hb dXM_find_70 rfl (lv_at hl 4 rfl) ?_
          refine lv_iconst (v := (-1)) hx hb dXM_find_71 (by decide) ?_
          refine lv_ixor hx hb dXM_find_72 ?_
          refine lv_iand hx hb dXM_find_73 ?_
          obtain ⟨r312, hm312, hm⟩ := kb_s hm
          refine k_vi (As := [.int x3, .int (x1 &&& (x3 ^^^ (-1)))]) (rest := []) (w2 := (wM q cA N mr zn zs tn ts yn ys en es ew cv)) ⟨hx, hb, hml, hown, hts⟩ (cM_complete l D q cA N H.size mr zn zs tn ts yn ys en es ew cv x3 (x1 &&& (x3 ^^^ (-1))) n r312 hm312) (cwV 2 hts (gV wd_449 wd_450 wd_21 wd_41 wd_451) rfl rfl rfl (by decide +kernel) ⟨Nat.le_of_ble_eq_true rfl, Nat.le_of_ble_eq_true rfl⟩) hK hN hP hD hS hA [0, 1, 2, 3, 4, 5, 6] [] [0, 1, 2, 3, 4, 5, 6] ⟨rfl, rfl, by decide, rfl, by decide, by decide, rfl, rfl, by decide⟩ (va_recv hK hP (ci := 5) (q0 := 0) rfl rfl) rfl hl.1 rfl (Nat.le_of_ble_eq_true rfl) dXM_find_74 ⟨Nat.le_of_ble_eq_true rfl, Nat.le_of_ble_eq_true rfl⟩ (fun hz312 H locs hP hD hS => ?_)
          refine lv_if_eq (tgt := 100) hx hb dXM_find_77 (by decide) (fun c313 => ?_) (fun c313 => ?_)
          · rw [if_pos c313] at hm
            refine lv_iinc (v := (x3 + 1)) (lv' := [(3, .int (x3 + 1)), (4, .int y0), (0, .ref (q 0)), (1, .int x1), (2, .int x2)]) hx hb dXM_find_100 hl (k := 4) rfl rfl (by decide) rfl (fun ls hl => ?_)
            refine lv_goto (tgt := 14) hx hb dXM_find_103 (by decide) ?_
            exact ih1 x1 x2 (x3 + 1) zn zs tn ts _ _ _ _ H locs ls hm hP hD hS (lv_sub hl [2, 3, 4, 0] rfl)
          · rw [if_neg c313] at hm
            refine lv_aload_n hx hb dXM_find_80 rfl (lv_at hl 1 rfl) ?_
            refine va_get (D := D) (ci := 5) (v := .ref (q 2)) (C := RXM) (T := TXM) (N := 12) hx hb hts hinXM hown hK hP 0 rfl rfl 3 (by decide) (hts _ wd_392) (fun _ h9 => h9) rfl dXM_find_81 ?_
            refine lv_aload_n hx hb dXM_find_84 rfl (lv_at hl 1 rfl) ?_
            refine va_get (D := D) (ci := 5) (v := .int zn) (C := RXM) (T := TXM) (N := 12) hx hb hts hinXM hown hK hP 0 rfl rfl 2 (by decide) (hts _ wd_391) (fun _ h9 => h9) rfl dXM_find_85 ?_
            refine lv_iload_n hx hb dXM_find_88 rfl (lv_at hl 4 rfl) ?_
            obtain ⟨hg314, hm⟩ := kg_s hm
            refine va_iast hx hb hK hP hD hS 2 0 rfl rfl hg314 dXM_find_89 (fun H locs hP hD hS => ?_)
            have hP : va_P D vwCl (wM q cA N mr zn (upd zs zn.toNatClampNeg x3) tn ts yn ys en es ew cv) H := hP
            have hD : va_D A (wM q cA N mr zn (upd zs zn.toNatClampNeg x3) tn ts yn ys en es ew cv) := hD
            refine lv_aload_n hx hb dXM_find_90 rfl (lv_at hl 1 rfl) ?_
            refine lv_dup hx hb dXM_find_91 rfl ?_
            refine va_get (D := D) (ci := 5) (v := .int zn) (C := RXM) (T := TXM) (N := 12) hx hb hts hinXM hown hK hP 0 rfl rfl 2 (by decide) (hts _ wd_391) (fun _ h9 => h9) rfl dXM_find_92 ?_
            refine lv_iconst (v := 1) hx hb dXM_find_95 (by decide) ?_
            refine lv_iadd hx hb dXM_find_96 ?_
            refine va_put (D := D) (ci := 5) (v := .int (zn + 1)) (ty := .int) (C := RXM) (T := TXM) (N := 12) hx hb hts hinXM tyXM tyXM_ok nXM hown hK hP hD hS 0 rfl rfl 2 (by decide) (hts _ wd_391) (fun _ h9 => h9) rfl (by decide +kernel) rfl rfl (Nat.le_of_ble_eq_true rfl) dXM_find_97 (fun H locs hP hD hS => ?_)
            have hP : va_P D vwCl (wM q cA N mr (zn + 1) (upd zs zn.toNatClampNeg x3) tn ts yn ys en es ew cv) H := hP
            have hD : va_D A (wM q cA N mr (zn + 1) (upd zs zn.toNatClampNeg x3) tn ts yn ys en es ew cv) := hD
            refine lv_iinc (v := (x3 + 1)) (lv' := [(3, .int (x3 + 1)), (4, .int y0), (0, .ref (q 0)), (1, .int x1), (2, .int x2)]) hx hb dXM_find_100 hl (k := 4) rfl rfl (by decide) rfl (fun ls hl => ?_)
            refine lv_goto (tgt := 14) hx hb dXM_find_103 (by decide) ?_
            exact ih1 x1 x2 (x3 + 1) (zn + 1) (upd zs zn.toNatClampNeg x3) tn ts _ _ _ _ H locs ls hm hP hD hS (lv_sub hl [2, 3, 4, 0] rfl)
      · intro x3 zn zs tn ts zn_1 zs_1 tn_1 ts_1 H locs ls hm hP hD hS hl
        rw [mM_find_e4] at hm
        refine lv_iload_n hx hb dXM_find_113 rfl (lv_at hl 1 rfl) ?_
        refine lv_aload_n hx hb dXM_find_114 rfl (lv_at hl 0 rfl) ?_
        refine va_get (D := D) (ci := 5) (v := .int zn) (C := RXM) (T := TXM) (N := 12) hx hb hts hinXM hown hK hP 0 rfl rfl 2 (by decide) (hts _ wd_391) (fun _ h9 => h9) rfl dXM_find_115 ?_
        refine lv_icmp_ge (tgt := 209) hx hb dXM_find_118 (by decide) (fun c411 => ?_) (fun c411 => ?_)
        · rw [if_pos c411] at hm
          cases hm
          exact k_vret hx hb hr hlocks hK hP hD hS dXM_find_209
        · rw [if_neg c411] at hm
          refine lv_iconst (v := 1) hx hb dXM_find_121 (by decide) ?_
          refine lv_istore (lv' := [(4, .int 1), (0, .ref (q 0)), (3, .int x3)]) hx hb dXM_find_122 hl (by decide) rfl (fun ls hl => ?_)
          refine lv_iconst (v := 0) hx hb dXM_find_124 (by decide) ?_
          refine lv_istore (lv' := [(5, .int 0), (4, .int 1), (0, .ref (q 0)), (3, .int x3)]) hx hb dXM_find_125 hl (by decide) rfl (fun ls hl => ?_)
          exact ih5 x3 1 0 zn zs tn ts _ _ _ _ H locs ls hm hP hD hS (lv_sub hl [2, 3, 1, 0] rfl)
      · intro x3 x4 x5 zn zs tn ts zn_1 zs_1 tn_1 ts_1 H locs ls hm hP hD hS hl
        rw [mM_find_e5] at hm
        refine lv_iload hx hb dXM_find_127 (lv_at hl 3 rfl) ?_
        refine lv_aload_n hx hb dXM_find_129 rfl (lv_at hl 0 rfl) ?_
        refine va_get (D := D) (ci := 5) (v := .int zn) (C := RXM) (T := TXM) (N := 12) hx hb hts hinXM hown hK hP 0 rfl rfl 2 (by decide) (hts _ wd_391) (fun _ h9 => h9) rfl dXM_find_130 ?_
        refine lv_icmp_ge (tgt := 173) hx hb dXM_find_133 (by decide) (fun c511 => ?_) (fun c511 => ?_)
        · rw [if_pos c511] at hm
          refine lv_iload hx hb dXM_find_173 (lv_at hl 2 rfl) ?_
          refine lv_if_eq (tgt := 203) hx hb dXM_find_175 (by decide) (fun c512 => ?_) (fun c512 => ?_)
          · rw [if_pos c512] at hm
            refine lv_iinc (v := (x3 + 1)) (lv' := [(3, .int (x3 + 1)), (0, .ref (q 0)), (4, .int x4), (5, .int x5)]) hx hb dXM_find_203 hl (k := 1) rfl rfl (by decide) rfl (fun ls hl => ?_)
            refine lv_goto (tgt := 113) hx hb dXM_find_206 (by decide) ?_
            exact ih4 (x3 + 1) zn zs tn ts _ _ _ _ H locs ls hm hP hD hS (lv_sub hl [1, 0] rfl)
          · rw [if_neg c512] at hm
            refine lv_aload_n hx hb dXM_find_178 rfl (lv_at hl 0 rfl) ?_
            refine va_get (D := D) (ci := 5) (v := .ref (q 3)) (C := RXM) (T := TXM) (N := 12) hx hb hts hinXM hown hK hP 0 rfl rfl 5 (by decide) (hts _ wd_394) (fun _ h9 => h9) rfl dXM_find_179 ?_
            refine lv_aload_n hx hb dXM_find_182 rfl (lv_at hl 0 rfl) ?_
            refine va_get (D := D) (ci := 5) (v := .int tn) (C := RXM) (T := TXM) (N := 12) hx hb hts hinXM hown hK hP 0 rfl rfl 4 (by decide) (hts _ wd_393) (fun _ h9 => h9) rfl dXM_find_183 ?_
            refine lv_aload_n hx hb dXM_find_186 rfl (lv_at hl 0 rfl) ?_
            refine va_get (D := D) (ci := 5) (v := .ref (q 2)) (C := RXM) (T := TXM) (N := 12) hx hb hts hinXM hown hK hP 0 rfl rfl 3 (by decide) (hts _ wd_392) (fun _ h9 => h9) rfl dXM_find_187 ?_
            refine lv_iload_n hx hb dXM_find_190 rfl (lv_at hl 1 rfl) ?_
            obtain ⟨hg513, hm⟩ := kg_s hm
            refine va_iald hx hb hK hP 2 0 rfl rfl hg513 dXM_find_191 ?_
            obtain ⟨hg514, hm⟩ := kg_s hm
            refine va_iast hx hb hK hP hD hS 3 0 rfl rfl hg514 dXM_find_192 (fun H locs hP hD hS => ?_)
            have hP : va_P D vwCl (wM q cA N mr zn zs tn (upd ts tn.toNatClampNeg (zs x3.toNatClampNeg)) yn ys en es ew cv) H := hP
            have hD : va_D A (wM q cA N mr zn zs tn (upd ts tn.toNatClampNeg (zs x3.toNatClampNeg)) yn ys en es ew cv) := hD
            refine lv_aload_n hx hb dXM_find_193 rfl (lv_at hl 0 rfl) ?_
            refine lv_dup hx hb dXM_find_194 rfl ?_
            refine va_get (D := D) (ci := 5) (v := .int tn) (C := RXM) (T := TXM) (N := 12) hx hb hts hinXM hown hK hP 0 rfl rfl 4 (by decide) (hts _ wd_393) (fun _ h9 => h9) rfl dXM_find_195 ?_
            refine lv_iconst (v := 1) hx hb dXM_find_198 (by decide) ?_
            refine lv_iadd hx hb dXM_find_199 ?_
            refine va_put (D := D) (ci := 5) (v := .int (tn + 1)) (ty := .int) (C := RXM) (T := TXM) (N := 12) hx hb hts hinXM tyXM tyXM_ok nXM hown hK hP hD hS 0 rfl rfl 4 (by decide) (hts _ wd_393) (fun _ h9 => h9) rfl (by decide +kernel) rfl rfl (Nat.le_of_ble_eq_true rfl) dXM_find_200 (fun H locs hP hD hS => ?_)
            have hP : va_P D vwCl (wM q cA N mr zn zs (tn + 1) (upd ts tn.toNatClampNeg (zs x3.toNatClampNeg)) yn ys en es ew cv) H := hP
            have hD : va_D A (wM q cA N mr zn zs (tn + 1) (upd ts tn.toNatClampNeg (zs x3.toNatClampNeg)) yn ys en es ew cv) := hD
            refine lv_iinc (v := (x3 + 1)) (lv' := [(3, .int (x3 + 1)), (0, .ref (q 0)), (4, .int x4), (5, .int x5)]) hx hb dXM_find_203 hl (k := 1) rfl rfl (by decide) rfl (fun ls hl => ?_)
            refine lv_goto (tgt := 113) hx hb dXM_find_206 (by decide) ?_
            exact ih4 (x3 + 1) zn zs (tn + 1) (upd ts tn.toNatClampNeg (zs x3.toNatClampNeg)) _ _ _ _ H locs ls hm hP hD hS (lv_sub hl [1, 0] rfl)
        · rw [if_neg c511] at hm
          refine lv_iload hx hb dXM_find_136 (lv_at hl 2 rfl) ?_
          refine lv_if_eq (tgt := 164) hx hb dXM_find_138 (by decide) (fun c515 => ?_) (fun c515 => ?_)
          · rw [if_pos c515] at hm
            exact ih6 x3 x5 zn zs tn ts _ _ _ _ H locs ls hm hP hD hS (lv_sub hl [0, 1, 3] rfl)
          · rw [if_neg c515] at hm
            refine lv_aload_n hx hb dXM_find_141 rfl (lv_at hl 0 rfl) ?_
            refine va_get (D := D) (ci := 5) (v := .ref (q 2)) (C := RXM) (T := TXM) (N := 12) hx hb hts hinXM hown hK hP 0 rfl rfl 3 (by decide) (hts _ wd_392) (fun _ h9 => h9) rfl dXM_find_142 ?_
            refine lv_iload_n hx hb dXM_find_145 rfl (lv_at hl 1 rfl) ?_
            obtain ⟨hg516, hm⟩ := kg_s hm
            refine va_iald hx hb hK hP 2 0 rfl rfl hg516 dXM_find_146 ?_
            refine lv_aload_n hx hb dXM_find_147 rfl (lv_at hl 0 rfl) ?_
            refine va_get (D := D) (ci := 5) (v := .ref (q 2)) (C := RXM) (T := TXM) (N := 12) hx hb hts hinXM hown hK hP 0 rfl rfl 3 (by decide) (hts _ wd_392) (fun _ h9 => h9) rfl dXM_find_148 ?_
            refine lv_iload hx hb dXM_find_151 (lv_at hl 3 rfl) ?_
            obtain ⟨hg517, hm⟩ := kg_s hm
            refine va_iald hx hb hK hP 2 0 rfl rfl hg517 dXM_find_153 ?_
            obtain ⟨r518, hm518, hm⟩ := kb_s hm
            refine k_s0 (As := [.int (zs x3.toNatClampNeg), .int (zs x5.toNatClampNeg)]) (rest := []) ⟨hx, hb, hml, hown, hts⟩ (cM_cross l D cA H.size (zs x3.toNatClampNeg) (zs x5.toNatClampNeg) n r518 hm518) (cwS 2 hts (gS wd_452 wd_453 wd_41 wd_454) rfl rfl rfl (by decide +kernel) ⟨Nat.le_of_ble_eq_true rfl, Nat.le_of_ble_eq_true rfl⟩) hK hN hP hD hS hA rfl hl.1 rfl (Nat.le_of_ble_eq_true rfl) dXM_find_154 ⟨Nat.le_of_ble_eq_true rfl, Nat.le_of_ble_eq_true rfl⟩ (fun hz518 H locs hP hD hS => ?_)
            refine lv_if_ne (tgt := 164) hx hb dXM_find_157 (by decide) (fun c519 => ?_) (fun c519 => ?_)
            · rw [if_neg c519] at hm
              exact ih6 x3 x5 zn zs tn ts _ _ _ _ H locs ls hm hP hD hS (lv_sub hl [0, 1, 3] rfl)
            · rw [if_pos c519] at hm
              refine lv_iconst (v := 1) hx hb dXM_find_160 (by decide) ?_
              refine lv_goto (tgt := 165) hx hb dXM_find_161 (by decide) ?_
              refine lv_istore (lv' := [(4, .int 1), (0, .ref (q 0)), (3, .int x3), (5, .int x5)]) hx hb dXM_find_165 hl (by decide) rfl (fun ls hl => ?_)
              refine lv_iinc (v := (x5 + 1)) (lv' := [(5, .int (x5 + 1)), (4, .int 1), (0, .ref (q 0)), (3, .int x3)]) hx hb dXM_find_167 hl (k := 3) rfl rfl (by decide) rfl (fun ls hl => ?_)
              refine lv_goto (tgt := 127) hx hb dXM_find_170 (by decide) ?_
              exact ih5 x3 1 (x5 + 1) zn zs tn ts _ _ _ _ H locs ls hm hP hD hS (lv_sub hl [2, 3, 1, 0] rfl)
      · intro x3 x5 zn zs tn ts zn_1 zs_1 tn_1 ts_1 H locs ls hm hP hD hS hl
        rw [mM_find_e6] at hm
        refine lv_iconst (v := 0) hx hb dXM_find_164 (by decide) ?_
        refine lv_istore (lv' := [(4, .int 0), (0, .ref (q 0)), (3, .int x3), (5, .int x5)]) hx hb dXM_find_165 hl (by decide) rfl (fun ls hl => ?_)
        refine lv_iinc (v := (x5 + 1)) (lv' := [(5, .int (x5 + 1)), (4, .int 0), (0, .ref (q 0)), (3, .int x3)]) hx hb dXM_find_167 hl (k := 3) rfl rfl (by decide) rfl (fun ls hl => ?_)
        refine lv_goto (tgt := 127) hx hb dXM_find_170 (by decide) ?_
        exact ih5 x3 0 (x5 + 1) zn zs tn ts _ _ _ _ H locs ls hm hP hD hS (lv_sub hl [2, 3, 1, 0] rfl)
  exact (key n).1 a1 zn zs tn ts zn_1 zs_1 tn_1 ts_1 s.heap [] ls hm hP hD va_S.rf hl
set_option maxHeartbeats 4000000 in
set_option maxRecDepth 100000 in
theorem cM_splits (l : Launch) (D : va_G) (q : Nat → Nat) (cA : ClassId) (N : Nat) (sz : Nat) (mr : Nat → Int32) (zn : Int32) (zs : Nat → Int32) (tn : Int32) (ts : Nat → Int32) (yn : Int32) (ys : Nat → Int32) (en : Int32) (es : Nat → Int32) (ew : Int32) (cv : Nat → Int32) (a1 : Int32) (n : Nat) (r : Int32) (zn_1 : Int32) (zs_1 : Nat → Int32) (tn_1 : Int32) (ts_1 : Nat → Int32) (hm : mM_splits N mr n 0 [a1] zn zs tn ts = some (r, zn_1, zs_1, tn_1, ts_1)) : Met l yXM_splits wsXM_splits ({ frames := 2, cells := 0, slots := 0, locals := 51 }) (kPc D cA [.ref (q 0), .int a1] (wM q cA N mr zn zs tn ts yn ys en es ew cv) sz) (kQi D cA kT (va_A (wM q cA N mr zn zs tn ts yn ys en es ew cv) sz) (wM q cA N mr zn_1 zs_1 tn_1 ts_1 yn ys en es ew cv) r) 0 0 (va_A (wM q cA N mr zn zs tn ts yn ys en es ew cv) sz) := by
  refine k_met (D := D) (cA := cA) (w := (wM q cA N mr zn zs tn ts yn ys en es ew cv)) (sz := sz) (av := [.ref (q 0), .int a1]) (cc := cXM_splits) (maxL := 2) (ret := (some .int)) (Qc := fun A => kQi D cA kT A (wM q cA N mr zn_1 zs_1 tn_1 ts_1 yn ys en es ew cv) r) (by decide) rfl (Nat.le_of_ble_eq_true rfl) ?_
  intro p e s m below meth c A ls hX hK hN hA hP hD hl
  obtain ⟨hx, hb, hr, hml, hown, hts, hlocks, -⟩ := hX
  have hown : s.vm.findClass RXM = some m.cls := hown
  have hl : lv_has ls 2 [(0, .ref (q 0)), (1, .int a1)] := hl
  have hts : ∀ w ∈ W0, w.before _ s = true := fun w h => hts w (List.mem_cons_of_mem _ h)
  have key : ∀ n : Nat, (∀ (x1 : Int32) (zn : Int32) (zs : Nat → Int32) (tn : Int32) (ts : Nat → Int32) (r : Int32) (zn_1 : Int32) (zs_1 : Nat → Int32) (tn_1 : Int32) (ts_1 : Nat → Int32) (H : Heap) (locs : List Loc) (ls : Array Slot), mM_splits N mr n 0 [x1] zn zs tn ts = some (r, zn_1, zs_1, tn_1, ts_1) → va_P D vwCl (wM q cA N mr zn zs tn ts yn ys en es ew cv) H → va_D A (wM q cA N mr zn zs tn ts yn ys en es ew cv) → va_S A s.heap H locs → lv_has ls 2 [(0, .ref (q 0)), (1, .int x1)] → W p l e ({ frames := 2, cells := 0, slots := 0, locals := 51 }) s m ([.ref (q 0), .int a1] : List Value).toArray below meth c H locs 0 0 (MQ below (kQi D cA kT A (wM q cA N mr zn_1 zs_1 tn_1 ts_1 yn ys en es ew cv) r) ([.ref (q 0), .int a1] : List Value).toArray s 0 0 A) (F0 m 0 ls [])) := by
    intro n
    induction n with
    | zero => exact (by intros; rename_i h _ _ _ _; rw [mM_splits_z] at h; cases h)
    | succ n ih =>
      have ih0 := ih
      intro x1 zn zs tn ts r zn_1 zs_1 tn_1 ts_1 H locs ls hm hP hD hS hl
      rw [mM_splits_e0] at hm
      refine lv_aload_n hx hb dXM_splits_0 rfl (lv_at hl 0 rfl) ?_
      refine lv_iload_n hx hb dXM_splits_1 rfl (lv_at hl 1 rfl) ?_
      obtain ⟨r11, hm11, hm⟩ := kb_s hm
      refine k_vi (As := [.int x1]) (rest := []) (w2 := (wM q cA N mr zn zs tn ts yn ys en es ew cv)) ⟨hx, hb, hml, hown, hts⟩ (cM_is l D q cA N H.size mr zn zs tn ts yn ys en es ew cv x1 n r11 hm11) (cwV 1 hts (gV wd_421 wd_422 wd_18 wd_41 wd_423) rfl rfl rfl (by decide +kernel) ⟨Nat.le_of_ble_eq_true rfl, Nat.le_of_ble_eq_true rfl⟩) hK hN hP hD hS hA [0, 1, 2, 3, 4, 5, 6] [] [0, 1, 2, 3, 4, 5, 6] ⟨rfl, rfl, by decide, rfl, by decide, by decide, rfl, rfl, by decide⟩ (va_recv hK hP (ci := 5) (q0 := 0) rfl rfl) rfl hl.1 rfl (Nat.le_of_ble_eq_true rfl) dXM_splits_2 ⟨Nat.le_of_ble_eq_true rfl, Nat.le_of_ble_eq_true rfl⟩ (fun hz11 H locs hP hD hS => ?_)
      refine lv_if_ne (tgt := 10) hx hb dXM_splits_5 (by decide) (fun c12 => ?_) (fun c12 => ?_)
      · rw [if_neg c12] at hm
        refine lv_aload_n hx hb dXM_splits_10 rfl (lv_at hl 0 rfl) ?_
        refine lv_aload_n hx hb dXM_splits_11 rfl (lv_at hl 0 rfl) ?_
        refine lv_iload_n hx hb dXM_splits_12 rfl (lv_at hl 1 rfl) ?_
        obtain ⟨r13, hm13, hm⟩ := kb_s hm
        refine k_vi (As := [.int x1]) (rest := [.ref (q 0)]) (w2 := (wM q cA N mr zn zs tn ts yn ys en es ew cv)) ⟨hx, hb, hml, hown, hts⟩ (cM_component l D q cA N H.size mr zn zs tn ts yn ys en es ew cv x1 n r13 hm13) (cwV 1 hts (gV wd_439 wd_429 wd_430 wd_41 wd_431) rfl rfl rfl (by decide +kernel) ⟨Nat.le_of_ble_eq_true rfl, Nat.le_of_ble_eq_true rfl⟩) hK hN hP hD hS hA [0, 1, 2, 3, 4, 5, 6] [] [0, 1, 2, 3, 4, 5, 6] ⟨rfl, rfl, by decide, rfl, by decide, by decide, rfl, rfl, by decide⟩ (va_recv hK hP (ci := 5) (q0 := 0) rfl rfl) rfl hl.1 rfl (Nat.le_of_ble_eq_true rfl) dXM_splits_13 ⟨Nat.le_of_ble_eq_true rfl, Nat.le_of_ble_eq_true rfl⟩ (fun hz13 H locs hP hD hS => ?_)
        obtain ⟨⟨zn_14, zs_14, tn_14, ts_14⟩, hm14, hm⟩ := kb_s hm
        dsimp only at hm
        refine k_vv (As := [.int r13]) (rest := []) (w2 := (wM q cA N mr zn_14 zs_14 tn_14 ts_14 yn ys en es ew cv)) ⟨hx, hb, hml, hown, hts⟩ (cM_find l D q cA N H.size mr zn zs tn ts yn ys en es ew cv r13 n zn_14 zs_14 tn_14 ts_14 hm14) (cwV 1 hts (gV wd_440 wd_441 wd_20 wd_41 wd_442) rfl rfl rfl (by decide +kernel) ⟨Nat.le_of_ble_eq_true rfl, Nat.le_of_ble_eq_true rfl⟩) hK hN hP hD hS hA [0, 1, 2, 3, 4, 5, 6] [] [0, 1, 2, 3, 4, 5, 6] ⟨rfl, rfl, by decide, rfl, by decide, by decide, rfl, rfl, by decide⟩ (va_recv hK hP (ci := 5) (q0 := 0) rfl rfl) rfl hl.1 rfl (Nat.le_of_ble_eq_true rfl) dXM_splits_16 ⟨Nat.le_of_ble_eq_true rfl, Nat.le_of_ble_eq_true rfl⟩ (fun H locs hP hD hS => ?_)
        refine lv_aload_n hx hb dXM_splits_19 rfl (lv_at hl 0 rfl) ?_
        refine va_get (D := D) (ci := 5) (v := .int zn_14) (C := RXM) (T := TXM) (N := 12) hx hb hts hinXM hown hK hP 0 rfl rfl 2 (by decide) (hts _ wd_391) (fun _ h9 => h9) rfl dXM_splits_20 ?_
        cases hm
        exact k_iret hx hb hr hlocks hK hP hD hS trivial dXM_splits_23
      · rw [if_pos c12] at hm
        refine lv_iconst (v := (-1)) hx hb dXM_splits_8 (by decide) ?_
        cases hm
        exact k_iret hx hb hr hlocks hK hP hD hS trivial dXM_splits_9
  exact key n a1 zn zs tn ts r zn_1 zs_1 tn_1 ts_1 s.heap [] ls hm hP hD va_S.rf hl
