set_option maxHeartbeats 4000000 in
set_option maxRecDepth 100000 in
theorem cC_largestApart (l : Launch) (D : va_G) (q : Nat → Nat) (cA : ClassId) (N : Nat) (sz : Nat) (nr : Nat → Int32) (fw : Nat → Int32) (a1 : Int32) (n : Nat) (r : Int32) (hm : mC_largestApart N nr n 0 [a1] = some r) : Met l yXC_largestApart wsXC_largestApart ({ frames := 3, cells := 0, slots := 0, locals := 67 }) (kPc D cA [.ref (q 1), .int a1] (wC q cA N nr fw) sz) (kQi D cA kT (va_A (wC q cA N nr fw) sz) (wC q cA N nr fw) r) 0 0 (va_A (wC q cA N nr fw) sz) := by
  refine k_met (D := D) (cA := cA) (w := (wC q cA N nr fw)) (sz := sz) (av := [.ref (q 1), .int a1]) (cc := cXC_largestApart) (maxL := 4) (ret := (some .int)) (Qc := fun A => kQi D cA kT A (wC q cA N nr fw) r) (by decide) rfl (Nat.le_of_ble_eq_true rfl) ?_
  intro p e s m below meth c A ls hX hK hN hA hP hD hl
  obtain ⟨hx, hb, hr, hml, hown, hts, hlocks, -⟩ := hX
  have hown : s.vm.findClass RXC = some m.cls := hown
  have hl : lv_has ls 4 [(0, .ref (q 1)), (1, .int a1)] := hl
  have hts : ∀ w ∈ W0, w.before _ s = true := fun w h => hts w (List.mem_cons_of_mem _ h)
  have key : ∀ n : Nat, (∀ (x1 : Int32) (r : Int32) (H : Heap) (locs : List Loc) (ls : Array Slot), mC_largestApart N nr n 0 [x1] = some r → va_P D vwCl (wC q cA N nr fw) H → va_D A (wC q cA N nr fw) → va_S A s.heap H locs → lv_has ls 4 [(0, .ref (q 1)), (1, .int x1)] → W p l e ({ frames := 3, cells := 0, slots := 0, locals := 67 }) s m ([.ref (q 1), .int a1] : List Value).toArray below meth c H locs 0 0 (MQ below (kQi D cA kT A (wC q cA N nr fw) r) ([.ref (q 1), .int a1] : List Value).toArray s 0 0 A) (F0 m 0 ls [])) ∧
    (∀ (x1 x2 x3 : Int32) (r : Int32) (H : Heap) (locs : List Loc) (ls : Array Slot), mC_largestApart N nr n 1 [x1, x2, x3] = some r → va_P D vwCl (wC q cA N nr fw) H → va_D A (wC q cA N nr fw) → va_S A s.heap H locs → lv_has ls 4 [(0, .ref (q 1)), (1, .int x1), (2, .int x2), (3, .int x3)] → W p l e ({ frames := 3, cells := 0, slots := 0, locals := 67 }) s m ([.ref (q 1), .int a1] : List Value).toArray below meth c H locs 0 0 (MQ below (kQi D cA kT A (wC q cA N nr fw) r) ([.ref (q 1), .int a1] : List Value).toArray s 0 0 A) (F0 m 4 ls [])) := by
    intro n
    induction n with
    | zero => exact ⟨(by intros; rename_i h _ _ _ _; rw [mC_largestApart_z] at h; cases h), (by intros; rename_i h _ _ _ _; rw [mC_largestApart_z] at h; cases h)⟩
    | succ n ih =>
      obtain ⟨ih0, ih1⟩ := ih
      refine ⟨?_, ?_⟩
      · intro x1 r H locs ls hm hP hD hS hl
        rw [mC_largestApart_e0] at hm
        refine lv_iconst (v := 0) hx hb dXC_largestApart_0 (by decide) ?_
        refine lv_istore_n (lv' := [(2, .int 0), (0, .ref (q 1)), (1, .int x1)]) hx hb dXC_largestApart_1 rfl hl (by decide) rfl (fun ls hl => ?_)
        refine lv_iconst (v := 1) hx hb dXC_largestApart_2 (by decide) ?_
        refine lv_istore_n (lv' := [(3, .int 1), (2, .int 0), (0, .ref (q 1)), (1, .int x1)]) hx hb dXC_largestApart_3 rfl hl (by decide) rfl (fun ls hl => ?_)
        exact ih1 x1 0 1 _ H locs ls hm hP hD hS (lv_sub hl [2, 3, 1, 0] rfl)
      · intro x1 x2 x3 r H locs ls hm hP hD hS hl
        rw [mC_largestApart_e1] at hm
        refine lv_iload_n hx hb dXC_largestApart_4 rfl (lv_at hl 3 rfl) ?_
        refine lv_iload_n hx hb dXC_largestApart_5 rfl (lv_at hl 1 rfl) ?_
        refine lv_icmp_gt (tgt := 48) hx hb dXC_largestApart_6 (by decide) (fun c111 => ?_) (fun c111 => ?_)
        · rw [if_pos c111] at hm
          refine lv_iload_n hx hb dXC_largestApart_48 rfl (lv_at hl 2 rfl) ?_
          cases hm
          exact k_iret hx hb hr hlocks hK hP hD hS trivial dXC_largestApart_49
        · rw [if_neg c111] at hm
          refine lv_iload_n hx hb dXC_largestApart_9 rfl (lv_at hl 3 rfl) ?_
          refine lv_iload_n hx hb dXC_largestApart_10 rfl (lv_at hl 1 rfl) ?_
          refine lv_iconst (v := (-1)) hx hb dXC_largestApart_11 (by decide) ?_
          refine lv_ixor hx hb dXC_largestApart_12 ?_
          refine lv_iand hx hb dXC_largestApart_13 ?_
          refine lv_if_ne (tgt := 42) hx hb dXC_largestApart_14 (by decide) (fun c112 => ?_) (fun c112 => ?_)
          · rw [if_neg c112] at hm
            refine lv_iinc (v := (x3 + 1)) (lv' := [(3, .int (x3 + 1)), (0, .ref (q 1)), (1, .int x1), (2, .int x2)]) hx hb dXC_largestApart_42 hl (k := 3) rfl rfl (by decide) rfl (fun ls hl => ?_)
            refine lv_goto (tgt := 4) hx hb dXC_largestApart_45 (by decide) ?_
            exact ih1 x1 x2 (x3 + 1) _ H locs ls hm hP hD hS (lv_sub hl [1, 2, 3, 0] rfl)
          · rw [if_pos c112] at hm
            refine lv_iload_n hx hb dXC_largestApart_17 rfl (lv_at hl 3 rfl) ?_
            obtain ⟨r113, hm113, hm⟩ := kb_s hm
            refine k_s0 (As := [.int x3]) (rest := []) ⟨hx, hb, hml, hown, hts⟩ (cJ_bitCount l D cA H.size x3 n r113 hm113) ⟨callB_of 1 hts (gC wd_195) rfl rfl rfl (hts _ wd_42) (hts _ wd_356) (by decide +kernel) ⟨Nat.le_of_ble_eq_true rfl, Nat.le_of_ble_eq_true rfl⟩, hts _ wd_194⟩ hK hN hP hD hS hA rfl hl.1 rfl (Nat.le_of_ble_eq_true rfl) dXC_largestApart_18 ⟨Nat.le_of_ble_eq_true rfl, Nat.le_of_ble_eq_true rfl⟩ (fun hz113 H locs hP hD hS => ?_)
            refine lv_iload_n hx hb dXC_largestApart_21 rfl (lv_at hl 2 rfl) ?_
            obtain ⟨r114, hm114, hm⟩ := kb_s hm
            refine k_s0 (As := [.int x2]) (rest := [.int r113]) ⟨hx, hb, hml, hown, hts⟩ (cJ_bitCount l D cA H.size x2 n r114 hm114) ⟨callB_of 1 hts (gC wd_195) rfl rfl rfl (hts _ wd_42) (hts _ wd_356) (by decide +kernel) ⟨Nat.le_of_ble_eq_true rfl, Nat.le_of_ble_eq_true rfl⟩, hts _ wd_194⟩ hK hN hP hD hS hA rfl hl.1 rfl (Nat.le_of_ble_eq_true rfl) dXC_largestApart_22 ⟨Nat.le_of_ble_eq_true rfl, Nat.le_of_ble_eq_true rfl⟩ (fun hz114 H locs hP hD hS => ?_)
            refine lv_icmp_le (tgt := 42) hx hb dXC_largestApart_25 (by decide) (fun c115 => ?_) (fun c115 => ?_)
            · rw [if_pos c115] at hm
              refine lv_iinc (v := (x3 + 1)) (lv' := [(3, .int (x3 + 1)), (0, .ref (q 1)), (1, .int x1), (2, .int x2)]) hx hb dXC_largestApart_42 hl (k := 3) rfl rfl (by decide) rfl (fun ls hl => ?_)
              refine lv_goto (tgt := 4) hx hb dXC_largestApart_45 (by decide) ?_
              exact ih1 x1 x2 (x3 + 1) _ H locs ls hm hP hD hS (lv_sub hl [1, 2, 3, 0] rfl)
            · rw [if_neg c115] at hm
              refine lv_aload_n hx hb dXC_largestApart_28 rfl (lv_at hl 0 rfl) ?_
              refine va_get (D := D) (ci := 0) (v := .ref (q 10)) (C := RXC) (T := TXC) (N := 2) hx hb hts hinXC hown hK hP 0 rfl rfl 0 (by decide) (hts _ wd_115) (fun _ h9 => h9) rfl dXC_largestApart_29 ?_
              refine lv_iload_n hx hb dXC_largestApart_32 rfl (lv_at hl 3 rfl) ?_
              refine lv_iload_n hx hb dXC_largestApart_33 rfl (lv_at hl 3 rfl) ?_
              obtain ⟨r116, hm116, hm⟩ := kb_s hm
              refine k_vi (As := [.int x3, .int x3]) (rest := []) (w2 := (wC q cA N nr fw)) ⟨hx, hb, hml, hown, hts⟩ (cG_joined l D q cA N H.size nr x3 x3 n r116 hm116) (cwV 2 hts (gV wd_357 wd_253 wd_254 wd_37 wd_255) rfl rfl rfl (by decide +kernel) ⟨Nat.le_of_ble_eq_true rfl, Nat.le_of_ble_eq_true rfl⟩) hK hN hP hD hS hA [2, 3] [0, 1] [0, 1, 2, 3] ⟨rfl, rfl, by decide, rfl, by decide, by decide, rfl, rfl, by decide⟩ (va_recv hK hP (ci := 2) (q0 := 2) rfl rfl) rfl hl.1 rfl (Nat.le_of_ble_eq_true rfl) dXC_largestApart_34 ⟨Nat.le_of_ble_eq_true rfl, Nat.le_of_ble_eq_true rfl⟩ (fun hz116 H locs hP hD hS => ?_)
              refine lv_if_ne (tgt := 42) hx hb dXC_largestApart_37 (by decide) (fun c117 => ?_) (fun c117 => ?_)
              · rw [if_neg c117] at hm
                refine lv_iinc (v := (x3 + 1)) (lv' := [(3, .int (x3 + 1)), (0, .ref (q 1)), (1, .int x1), (2, .int x2)]) hx hb dXC_largestApart_42 hl (k := 3) rfl rfl (by decide) rfl (fun ls hl => ?_)
                refine lv_goto (tgt := 4) hx hb dXC_largestApart_45 (by decide) ?_
                exact ih1 x1 x2 (x3 + 1) _ H locs ls hm hP hD hS (lv_sub hl [1, 2, 3, 0] rfl)
              · rw [if_pos c117] at hm
                refine lv_iload_n hx hb dXC_largestApart_40 rfl (lv_at hl 3 rfl) ?_
                refine lv_istore_n (lv' := [(2, .int x3), (0, .ref (q 1)), (1, .int x1), (3, .int x3)]) hx hb dXC_largestApart_41 rfl hl (by decide) rfl (fun ls hl => ?_)
                refine lv_iinc (v := (x3 + 1)) (lv' := [(3, .int (x3 + 1)), (2, .int x3), (0, .ref (q 1)), (1, .int x1)]) hx hb dXC_largestApart_42 hl (k := 3) rfl rfl (by decide) rfl (fun ls hl => ?_)
                refine lv_goto (tgt := 4) hx hb dXC_largestApart_45 (by decide) ?_
                exact ih1 x1 x3 (x3 + 1) _ H locs ls hm hP hD hS (lv_sub hl [2, 3, 1, 0] rfl)
  exact (key n).1 a1 r s.heap [] ls hm hP hD va_S.rf hl
set_option maxHeartbeats 4000000 in
set_option maxRecDepth 100000 in
theorem cC_fewestWith (l : Launch) (D : va_G) (q : Nat → Nat) (cA : ClassId) (N : Nat) (sz : Nat) (nr : Nat → Int32) (fw : Nat → Int32) (a1 a2 : Int32) (n : Nat) (r : Int32) (hm : mC_fewestWith N nr fw n 0 [a1, a2] = some r) : Met l yXC_fewestWith wsXC_fewestWith ({ frames := 1, cells := 0, slots := 0, locals := 22 }) (kPc D cA [.ref (q 1), .int a1, .int a2] (wC q cA N nr fw) sz) (kQi D cA kT (va_A (wC q cA N nr fw) sz) (wC q cA N nr fw) r) 0 0 (va_A (wC q cA N nr fw) sz) := by
  refine k_met (D := D) (cA := cA) (w := (wC q cA N nr fw)) (sz := sz) (av := [.ref (q 1), .int a1, .int a2]) (cc := cXC_fewestWith) (maxL := 6) (ret := (some .int)) (Qc := fun A => kQi D cA kT A (wC q cA N nr fw) r) (by decide) rfl (Nat.le_of_ble_eq_true rfl) ?_
  intro p e s m below meth c A ls hX hK hN hA hP hD hl
  obtain ⟨hx, hb, hr, hml, hown, hts, hlocks, -⟩ := hX
  have hown : s.vm.findClass RXC = some m.cls := hown
  have hl : lv_has ls 6 [(0, .ref (q 1)), (1, .int a1), (2, .int a2)] := hl
  have hts : ∀ w ∈ W0, w.before _ s = true := fun w h => hts w (List.mem_cons_of_mem _ h)
  have key : ∀ n : Nat, (∀ (x1 x2 : Int32) (r : Int32) (H : Heap) (locs : List Loc) (ls : Array Slot), mC_fewestWith N nr fw n 0 [x1, x2] = some r → va_P D vwCl (wC q cA N nr fw) H → va_D A (wC q cA N nr fw) → va_S A s.heap H locs → lv_has ls 6 [(0, .ref (q 1)), (1, .int x1), (2, .int x2)] → W p l e ({ frames := 1, cells := 0, slots := 0, locals := 22 }) s m ([.ref (q 1), .int a1, .int a2] : List Value).toArray below meth c H locs 0 0 (MQ below (kQi D cA kT A (wC q cA N nr fw) r) ([.ref (q 1), .int a1, .int a2] : List Value).toArray s 0 0 A) (F0 m 0 ls [])) ∧
    (∀ (x2 x3 x4 x5 : Int32) (r : Int32) (H : Heap) (locs : List Loc) (ls : Array Slot), mC_fewestWith N nr fw n 1 [x2, x3, x4, x5] = some r → va_P D vwCl (wC q cA N nr fw) H → va_D A (wC q cA N nr fw) → va_S A s.heap H locs → lv_has ls 6 [(0, .ref (q 1)), (2, .int x2), (3, .int x3), (4, .int x4), (5, .int x5)] → W p l e ({ frames := 1, cells := 0, slots := 0, locals := 22 }) s m ([.ref (q 1), .int a1, .int a2] : List Value).toArray below meth c H locs 0 0 (MQ below (kQi D cA kT A (wC q cA N nr fw) r) ([.ref (q 1), .int a1, .int a2] : List Value).toArray s 0 0 A) (F0 m 23 ls [])) ∧
    (∀ (x2 x3 x4 x5 : Int32) (r : Int32) (H : Heap) (locs : List Loc) (ls : Array Slot), mC_fewestWith N nr fw n 2 [x2, x3, x4, x5] = some r → va_P D vwCl (wC q cA N nr fw) H → va_D A (wC q cA N nr fw) → va_S A s.heap H locs → lv_has ls 6 [(0, .ref (q 1)), (2, .int x2), (3, .int x3), (4, .int x4), (5, .int x5)] → W p l e ({ frames := 1, cells := 0, slots := 0, locals := 22 }) s m ([.ref (q 1), .int a1, .int a2] : List Value).toArray below meth c H locs 0 0 (MQ below (kQi D cA kT A (wC q cA N nr fw) r) ([.ref (q 1), .int a1, .int a2] : List Value).toArray s 0 0 A) (F0 m 59 ls [])) := by
    intro n
    induction n with
    | zero => exact ⟨(by intros; rename_i h _ _ _ _; rw [mC_fewestWith_z] at h; cases h), (by intros; rename_i h _ _ _ _; rw [mC_fewestWith_z] at h; cases h), (by intros; rename_i h _ _ _ _; rw [mC_fewestWith_z] at h; cases h)⟩
    | succ n ih =>
      obtain ⟨ih0, ih1, ih2⟩ := ih
      refine ⟨?_, ?_, ?_⟩
      · intro x1 x2 r H locs ls hm hP hD hS hl
        rw [mC_fewestWith_e0] at hm
        refine lv_aload_n hx hb dXC_fewestWith_0 rfl (lv_at hl 0 rfl) ?_
        refine va_get (D := D) (ci := 0) (v := .ref (q 10)) (C := RXC) (T := TXC) (N := 2) hx hb hts hinXC hown hK hP 0 rfl rfl 0 (by decide) (hts _ wd_115) (fun _ h9 => h9) rfl dXC_fewestWith_1 ?_
        refine lv_iload_n hx hb dXC_fewestWith_4 rfl (lv_at hl 1 rfl) ?_
        refine lv_iload_n hx hb dXC_fewestWith_5 rfl (lv_at hl 2 rfl) ?_
        obtain ⟨r11, hm11, hm⟩ := kb_s hm
        refine k_vi (As := [.int x1, .int x2]) (rest := []) (w2 := (wC q cA N nr fw)) ⟨hx, hb, hml, hown, hts⟩ (cG_nearInside l D q cA N H.size nr x1 x2 n r11 hm11) (cwV 2 hts (gV wd_376 wd_200 wd_201 wd_37 wd_202) rfl rfl rfl (by decide +kernel) ⟨Nat.le_of_ble_eq_true rfl, Nat.le_of_ble_eq_true rfl⟩) hK hN hP hD hS hA [2, 3] [0, 1] [0, 1, 2, 3] ⟨rfl, rfl, by decide, rfl, by decide, by decide, rfl, rfl, by decide⟩ (va_recv hK hP (ci := 2) (q0 := 2) rfl rfl) rfl hl.1 rfl (Nat.le_of_ble_eq_true rfl) dXC_fewestWith_6 ⟨Nat.le_of_ble_eq_true rfl, Nat.le_of_ble_eq_true rfl⟩ (fun hz11 H locs hP hD hS => ?_)
        refine lv_istore_n (lv' := [(3, .int r11), (0, .ref (q 1)), (1, .int x1), (2, .int x2)]) hx hb dXC_fewestWith_9 rfl hl (by decide) rfl (fun ls hl => ?_)
        refine lv_iconst (v := 1) hx hb dXC_fewestWith_10 (by decide) ?_
        refine lv_aload_n hx hb dXC_fewestWith_11 rfl (lv_at hl 1 rfl) ?_
        refine va_get (D := D) (ci := 0) (v := .ref (q 2)) (C := RXC) (T := TXC) (N := 2) hx hb hts hinXC hown hK hP 0 rfl rfl 1 (by decide) (hts _ wd_116) (fun _ h9 => h9) rfl dXC_fewestWith_12 ?_
        refine lv_iload_n hx hb dXC_fewestWith_15 rfl (lv_at hl 3 rfl) ?_
        obtain ⟨hg12, hm⟩ := kg_s hm
        refine va_iald hx hb hK hP 1 0 rfl rfl hg12 dXC_fewestWith_16 ?_
        refine lv_iadd hx hb dXC_fewestWith_17 ?_
        refine lv_topi (fun x4_13 ex4_13 => ?_)
        have hm := kl_s ex4_13 hm
        refine lv_istore (lv' := [(4, .int x4_13), (3, .int r11), (0, .ref (q 1)), (1, .int x1), (2, .int x2)]) hx hb dXC_fewestWith_18 hl (by decide) rfl (fun ls hl => ?_)
        refine lv_iload_n hx hb dXC_fewestWith_20 rfl (lv_at hl 1 rfl) ?_
        refine lv_istore (lv' := [(5, .int r11), (4, .int x4_13), (3, .int r11), (0, .ref (q 1)), (1, .int x1), (2, .int x2)]) hx hb dXC_fewestWith_21 hl (by decide) rfl (fun ls hl => ?_)
        exact ih1 x2 r11 x4_13 r11 _ H locs ls hm hP hD hS (lv_sub hl [3, 5, 2, 1, 0] rfl)
      · intro x2 x3 x4 x5 r H locs ls hm hP hD hS hl
        rw [mC_fewestWith_e1] at hm
        refine lv_iload hx hb dXC_fewestWith_23 (lv_at hl 4 rfl) ?_
        refine lv_if_le (tgt := 70) hx hb dXC_fewestWith_25 (by decide) (fun c111 => ?_) (fun c111 => ?_)
        · rw [if_pos c111] at hm
          refine lv_iload hx hb dXC_fewestWith_70 (lv_at hl 3 rfl) ?_
          cases hm
          exact k_iret hx hb hr hlocks hK hP hD hS trivial dXC_fewestWith_72
        · rw [if_neg c111] at hm
          refine lv_aload_n hx hb dXC_fewestWith_28 rfl (lv_at hl 0 rfl) ?_
          refine va_get (D := D) (ci := 0) (v := .ref (q 2)) (C := RXC) (T := TXC) (N := 2) hx hb hts hinXC hown hK hP 0 rfl rfl 1 (by decide) (hts _ wd_116) (fun _ h9 => h9) rfl dXC_fewestWith_29 ?_
          refine lv_iload hx hb dXC_fewestWith_32 (lv_at hl 4 rfl) ?_
          obtain ⟨hg112, hm⟩ := kg_s hm
          refine va_iald hx hb hK hP 1 0 rfl rfl hg112 dXC_fewestWith_34 ?_
          refine lv_iconst (v := 1) hx hb dXC_fewestWith_35 (by decide) ?_
          refine lv_icmp_ne (tgt := 59) hx hb dXC_fewestWith_36 (by decide) (fun c113 => ?_) (fun c113 => ?_)
          · rw [if_neg c113] at hm
            exact ih2 x2 x3 x4 x5 _ H locs ls hm hP hD hS (lv_sub hl [0, 1, 2, 3, 4] rfl)
          · rw [if_pos c113] at hm
            refine lv_iload hx hb dXC_fewestWith_39 (lv_at hl 3 rfl) ?_
            refine lv_iconst (v := 1) hx hb dXC_fewestWith_41 (by decide) ?_
            refine lv_aload_n hx hb dXC_fewestWith_42 rfl (lv_at hl 0 rfl) ?_
            refine va_get (D := D) (ci := 0) (v := .ref (q 2)) (C := RXC) (T := TXC) (N := 2) hx hb hts hinXC hown hK hP 0 rfl rfl 1 (by decide) (hts _ wd_116) (fun _ h9 => h9) rfl dXC_fewestWith_43 ?_
            refine lv_iload_n hx hb dXC_fewestWith_46 rfl (lv_at hl 1 rfl) ?_
            refine lv_iload hx hb dXC_fewestWith_47 (lv_at hl 4 rfl) ?_
            refine lv_iconst (v := (-1)) hx hb dXC_fewestWith_49 (by decide) ?_
            refine lv_ixor hx hb dXC_fewestWith_50 ?_
            refine lv_iand hx hb dXC_fewestWith_51 ?_
            obtain ⟨hg114, hm⟩ := kg_s hm
            refine va_iald hx hb hK hP 1 0 rfl rfl hg114 dXC_fewestWith_52 ?_
            refine lv_iadd hx hb dXC_fewestWith_53 ?_
            refine va_mmin hx hb (hml.trans hl.1.symm) hown (hts _ wd_377) (hts _ wd_378) (hts _ wd_43) (hts _ wd_379) (Nat.le_of_ble_eq_true rfl) (Nat.le_of_ble_eq_true rfl) (Nat.le_of_ble_eq_true rfl) (Nat.le_of_ble_eq_true rfl) dXC_fewestWith_54 ?_
            refine lv_topi (fun x4_115 ex4_115 => ?_)
            have hm := kl_s ex4_115 hm
            refine lv_istore (lv' := [(4, .int x4_115), (0, .ref (q 1)), (2, .int x2), (3, .int x3), (5, .int x5)]) hx hb dXC_fewestWith_57 hl (by decide) rfl (fun ls hl => ?_)
            exact ih2 x2 x3 x4_115 x5 _ H locs ls hm hP hD hS (lv_sub hl [1, 2, 3, 0, 4] rfl)
      · intro x2 x3 x4 x5 r H locs ls hm hP hD hS hl
        rw [mC_fewestWith_e2] at hm
        refine lv_iload hx hb dXC_fewestWith_59 (lv_at hl 4 rfl) ?_
        refine lv_iconst (v := 1) hx hb dXC_fewestWith_61 (by decide) ?_
        refine lv_isub hx hb dXC_fewestWith_62 ?_
        refine lv_iload_n hx hb dXC_fewestWith_63 rfl (lv_at hl 2 rfl) ?_
        refine lv_iand hx hb dXC_fewestWith_64 ?_
        refine lv_topi (fun x5_211 ex5_211 => ?_)
        have hm := kl_s ex5_211 hm
        refine lv_istore (lv' := [(5, .int x5_211), (0, .ref (q 1)), (2, .int x2), (3, .int x3), (4, .int x4)]) hx hb dXC_fewestWith_65 hl (by decide) rfl (fun ls hl => ?_)
        refine lv_goto (tgt := 23) hx hb dXC_fewestWith_67 (by decide) ?_
        exact ih1 x2 x3 x4 x5_211 _ H locs ls hm hP hD hS (lv_sub hl [1, 2, 3, 4, 0] rfl)
  exact (key n).1 a1 a2 r s.heap [] ls hm hP hD va_S.rf hl
set_option maxHeartbeats 4000000 in
set_option maxRecDepth 100000 in
theorem cC_coverWith (l : Launch) (D : va_G) (q : Nat → Nat) (cA : ClassId) (N : Nat) (sz : Nat) (nr : Nat → Int32) (fw : Nat → Int32) (a1 a2 : Int32) (n : Nat) (fw_1 : Nat → Int32) (hm : mC_coverWith N nr n 0 [a1, a2] fw = some fw_1) : Met l yXC_coverWith wsXC_coverWith ({ frames := 2, cells := 0, slots := 0, locals := 47 }) (kPc D cA [.ref (q 1), .int a1, .int a2] (wC q cA N nr fw) sz) (kQv D cA (va_A (wC q cA N nr fw) sz) (wC q cA N nr fw_1)) 0 0 (va_A (wC q cA N nr fw) sz) := by
  refine k_met (D := D) (cA := cA) (w := (wC q cA N nr fw)) (sz := sz) (av := [.ref (q 1), .int a1, .int a2]) (cc := cXC_coverWith) (maxL := 4) (ret := none) (Qc := fun A => kQv D cA A (wC q cA N nr fw_1)) (by decide) rfl (Nat.le_of_ble_eq_true rfl) ?_
  intro p e s m below meth c A ls hX hK hN hA hP hD hl
  obtain ⟨hx, hb, hr, hml, hown, hts, hlocks, -⟩ := hX
  have hown : s.vm.findClass RXC = some m.cls := hown
  have hl : lv_has ls 4 [(0, .ref (q 1)), (1, .int a1), (2, .int a2)] := hl
  have hts : ∀ w ∈ W0, w.before _ s = true := fun w h => hts w (List.mem_cons_of_mem _ h)
  have key : ∀ n : Nat, (∀ (x1 x2 : Int32) (fw : Nat → Int32) (fw_1 : Nat → Int32) (H : Heap) (locs : List Loc) (ls : Array Slot), mC_coverWith N nr n 0 [x1, x2] fw = some fw_1 → va_P D vwCl (wC q cA N nr fw) H → va_D A (wC q cA N nr fw) → va_S A s.heap H locs → lv_has ls 4 [(0, .ref (q 1)), (1, .int x1), (2, .int x2)] → W p l e ({ frames := 2, cells := 0, slots := 0, locals := 47 }) s m ([.ref (q 1), .int a1, .int a2] : List Value).toArray below meth c H locs 0 0 (MQ below (kQv D cA A (wC q cA N nr fw_1)) ([.ref (q 1), .int a1, .int a2] : List Value).toArray s 0 0 A) (F0 m 0 ls [])) ∧
    (∀ (x1 x2 x3 : Int32) (fw : Nat → Int32) (fw_1 : Nat → Int32) (H : Heap) (locs : List Loc) (ls : Array Slot), mC_coverWith N nr n 1 [x1, x2, x3] fw = some fw_1 → va_P D vwCl (wC q cA N nr fw) H → va_D A (wC q cA N nr fw) → va_S A s.heap H locs → lv_has ls 4 [(0, .ref (q 1)), (1, .int x1), (2, .int x2), (3, .int x3)] → W p l e ({ frames := 2, cells := 0, slots := 0, locals := 47 }) s m ([.ref (q 1), .int a1, .int a2] : List Value).toArray below meth c H locs 0 0 (MQ below (kQv D cA A (wC q cA N nr fw_1)) ([.ref (q 1), .int a1, .int a2] : List Value).toArray s 0 0 A) (F0 m 2 ls [])) := by
    intro n
    induction n with
    | zero => exact ⟨(by intros; rename_i h _ _ _ _; rw [mC_coverWith_z] at h; cases h), (by intros; rename_i h _ _ _ _; rw [mC_coverWith_z] at h; cases h)⟩
    | succ n ih =>
      obtain ⟨ih0, ih1⟩ := ih
      refine ⟨?_, ?_⟩
      · intro x1 x2 fw fw_1 H locs ls hm hP hD hS hl
        rw [mC_coverWith_e0] at hm
        refine lv_iconst (v := 0) hx hb dXC_coverWith_0 (by decide) ?_
        refine lv_istore_n (lv' := [(3, .int 0), (0, .ref (q 1)), (1, .int x1), (2, .int x2)]) hx hb dXC_coverWith_1 rfl hl (by decide) rfl (fun ls hl => ?_)
        exact ih1 x1 x2 0 fw _ H locs ls hm hP hD hS (lv_sub hl [1, 2, 3, 0] rfl)
      · intro x1 x2 x3 fw fw_1 H locs ls hm hP hD hS hl
        rw [mC_coverWith_e1] at hm
        refine lv_iload_n hx hb dXC_coverWith_2 rfl (lv_at hl 3 rfl) ?_
        refine lv_iload_n hx hb dXC_coverWith_3 rfl (lv_at hl 2 rfl) ?_
        refine lv_icmp_gt (tgt := 37) hx hb dXC_coverWith_4 (by decide) (fun c111 => ?_) (fun c111 => ?_)
        · rw [if_pos c111] at hm
          cases hm
          exact k_vret hx hb hr hlocks hK hP hD hS dXC_coverWith_37
        · rw [if_neg c111] at hm
          refine lv_iload_n hx hb dXC_coverWith_7 rfl (lv_at hl 3 rfl) ?_
          refine lv_iload_n hx hb dXC_coverWith_8 rfl (lv_at hl 2 rfl) ?_
          refine lv_iconst (v := (-1)) hx hb dXC_coverWith_9 (by decide) ?_
          refine lv_ixor hx hb dXC_coverWith_10 ?_
          refine lv_iand hx hb dXC_coverWith_11 ?_
          refine lv_if_ne (tgt := 31) hx hb dXC_coverWith_12 (by decide) (fun c112 => ?_) (fun c112 => ?_)
          · rw [if_neg c112] at hm
            refine lv_iinc (v := (x3 + 1)) (lv' := [(3, .int (x3 + 1)), (0, .ref (q 1)), (1, .int x1), (2, .int x2)]) hx hb dXC_coverWith_31 hl (k := 3) rfl rfl (by decide) rfl (fun ls hl => ?_)
            refine lv_goto (tgt := 2) hx hb dXC_coverWith_34 (by decide) ?_
            exact ih1 x1 x2 (x3 + 1) fw _ H locs ls hm hP hD hS (lv_sub hl [1, 2, 3, 0] rfl)
          · rw [if_pos c112] at hm
            refine lv_aload_n hx hb dXC_coverWith_15 rfl (lv_at hl 0 rfl) ?_
            refine va_get (D := D) (ci := 0) (v := .ref (q 2)) (C := RXC) (T := TXC) (N := 2) hx hb hts hinXC hown hK hP 0 rfl rfl 1 (by decide) (hts _ wd_116) (fun _ h9 => h9) rfl dXC_coverWith_16 ?_
            refine lv_iload_n hx hb dXC_coverWith_19 rfl (lv_at hl 3 rfl) ?_
            refine lv_iconst (v := 1) hx hb dXC_coverWith_20 (by decide) ?_
            refine lv_iload_n hx hb dXC_coverWith_21 rfl (lv_at hl 1 rfl) ?_
            refine lv_ishl hx hb dXC_coverWith_22 ?_
            refine lv_ior hx hb dXC_coverWith_23 ?_
            refine lv_aload_n hx hb dXC_coverWith_24 rfl (lv_at hl 0 rfl) ?_
            refine lv_iload_n hx hb dXC_coverWith_25 rfl (lv_at hl 1 rfl) ?_
            refine lv_iload_n hx hb dXC_coverWith_26 rfl (lv_at hl 3 rfl) ?_
            obtain ⟨r113, hm113, hm⟩ := kb_s hm
            refine k_vi (As := [.int x1, .int x3]) (rest := [.int (x3 ||| ((1 : Int32) <<< (x1 &&& 31))), .ref (q 2)]) (w2 := (wC q cA N nr fw)) ⟨hx, hb, hml, hown, hts⟩ (cC_fewestWith l D q cA N H.size nr fw x1 x3 n r113 hm113) (cwV 2 hts (gV wd_373 wd_374 wd_17 wd_40 wd_375) rfl rfl rfl (by decide +kernel) ⟨Nat.le_of_ble_eq_true rfl, Nat.le_of_ble_eq_true rfl⟩) hK hN hP hD hS hA [0, 1, 2, 3] [] [0, 1, 2, 3] ⟨rfl, rfl, by decide, rfl, by decide, by decide, rfl, rfl, by decide⟩ (va_recv hK hP (ci := 0) (q0 := 0) rfl rfl) rfl hl.1 rfl (Nat.le_of_ble_eq_true rfl) dXC_coverWith_27 ⟨Nat.le_of_ble_eq_true rfl, Nat.le_of_ble_eq_true rfl⟩ (fun hz113 H locs hP hD hS => ?_)
            obtain ⟨hg114, hm⟩ := kg_s hm
            refine va_iast hx hb hK hP hD hS 1 0 rfl rfl hg114 dXC_coverWith_30 (fun H locs hP hD hS => ?_)
            have hP : va_P D vwCl (wC q cA N nr (upd fw (x3 ||| ((1 : Int32) <<< (x1 &&& 31))).toNatClampNeg r113)) H := hP
            have hD : va_D A (wC q cA N nr (upd fw (x3 ||| ((1 : Int32) <<< (x1 &&& 31))).toNatClampNeg r113)) := hD
            refine lv_iinc (v := (x3 + 1)) (lv' := [(3, .int (x3 + 1)), (0, .ref (q 1)), (1, .int x1), (2, .int x2)]) hx hb dXC_coverWith_31 hl (k := 3) rfl rfl (by decide) rfl (fun ls hl => ?_)
            refine lv_goto (tgt := 2) hx hb dXC_coverWith_34 (by decide) ?_
            exact ih1 x1 x2 (x3 + 1) (upd fw (x3 ||| ((1 : Int32) <<< (x1 &&& 31))).toNatClampNeg r113) _ H locs ls hm hP hD hS (lv_sub hl [1, 2, 3, 0] rfl)
  exact (key n).1 a1 a2 fw fw_1 s.heap [] ls hm hP hD va_S.rf hl
set_option maxHeartbeats 4000000 in
set_option maxRecDepth 100000 in
theorem cC_fewestCliques (l : Launch) (D : va_G) (q : Nat → Nat) (cA : ClassId) (N : Nat) (sz : Nat) (nr : Nat → Int32) (fw : Nat → Int32) (a1 : Int32) (n : Nat) (r : Int32) (fw_1 : Nat → Int32) (hm : mC_fewestCliques N nr n 0 [a1] fw = some (r, fw_1)) : Met l yXC_fewestCliques wsXC_fewestCliques ({ frames := 3, cells := 0, slots := 0, locals := 70 }) (kPc D cA [.ref (q 1), .int a1] (wC q cA N nr fw) sz) (kQi D cA kT (va_A (wC q cA N nr fw) sz) (wC q cA N nr fw_1) r) 0 0 (va_A (wC q cA N nr fw) sz) := by
  refine k_met (D := D) (cA := cA) (w := (wC q cA N nr fw)) (sz := sz) (av := [.ref (q 1), .int a1]) (cc := cXC_fewestCliques) (maxL := 4) (ret := (some .int)) (Qc := fun A => kQi D cA kT A (wC q cA N nr fw_1) r) (by decide) rfl (Nat.le_of_ble_eq_true rfl) ?_
  intro p e s m below meth c A ls hX hK hN hA hP hD hl
  obtain ⟨hx, hb, hr, hml, hown, hts, hlocks, -⟩ := hX
  have hown : s.vm.findClass RXC = some m.cls := hown
  have hl : lv_has ls 4 [(0, .ref (q 1)), (1, .int a1)] := hl
  have hts : ∀ w ∈ W0, w.before _ s = true := fun w h => hts w (List.mem_cons_of_mem _ h)
  have key : ∀ n : Nat, (∀ (x1 : Int32) (fw : Nat → Int32) (r : Int32) (fw_1 : Nat → Int32) (H : Heap) (locs : List Loc) (ls : Array Slot), mC_fewestCliques N nr n 0 [x1] fw = some (r, fw_1) → va_P D vwCl (wC q cA N nr fw) H → va_D A (wC q cA N nr fw) → va_S A s.heap H locs → lv_has ls 4 [(0, .ref (q 1)), (1, .int x1)] → W p l e ({ frames := 3, cells := 0, slots := 0, locals := 70 }) s m ([.ref (q 1), .int a1] : List Value).toArray below meth c H locs 0 0 (MQ below (kQi D cA kT A (wC q cA N nr fw_1) r) ([.ref (q 1), .int a1] : List Value).toArray s 0 0 A) (F0 m 0 ls [])) ∧
    (∀ (x1 x2 x3 : Int32) (fw : Nat → Int32) (r : Int32) (fw_1 : Nat → Int32) (H : Heap) (locs : List Loc) (ls : Array Slot), mC_fewestCliques N nr n 1 [x1, x2, x3] fw = some (r, fw_1) → va_P D vwCl (wC q cA N nr fw) H → va_D A (wC q cA N nr fw) → va_S A s.heap H locs → lv_has ls 4 [(0, .ref (q 1)), (1, .int x1), (2, .int x2), (3, .int x3)] → W p l e ({ frames := 3, cells := 0, slots := 0, locals := 70 }) s m ([.ref (q 1), .int a1] : List Value).toArray below meth c H locs 0 0 (MQ below (kQi D cA kT A (wC q cA N nr fw_1) r) ([.ref (q 1), .int a1] : List Value).toArray s 0 0 A) (F0 m 4 ls [])) := by
    intro n
    induction n with
    | zero => exact ⟨(by intros; rename_i h _ _ _ _; rw [mC_fewestCliques_z] at h; cases h), (by intros; rename_i h _ _ _ _; rw [mC_fewestCliques_z] at h; cases h)⟩
    | succ n ih =>
      obtain ⟨ih0, ih1⟩ := ih
      refine ⟨?_, ?_⟩
      · intro x1 fw r fw_1 H locs ls hm hP hD hS hl
        rw [mC_fewestCliques_e0] at hm
        refine lv_iconst (v := 0) hx hb dXC_fewestCliques_0 (by decide) ?_
        refine lv_istore_n (lv' := [(2, .int 0), (0, .ref (q 1)), (1, .int x1)]) hx hb dXC_fewestCliques_1 rfl hl (by decide) rfl (fun ls hl => ?_)
        refine lv_iconst (v := 0) hx hb dXC_fewestCliques_2 (by decide) ?_
        refine lv_istore_n (lv' := [(3, .int 0), (2, .int 0), (0, .ref (q 1)), (1, .int x1)]) hx hb dXC_fewestCliques_3 rfl hl (by decide) rfl (fun ls hl => ?_)
        exact ih1 x1 0 0 fw _ _ H locs ls hm hP hD hS (lv_sub hl [2, 3, 1, 0] rfl)
      · intro x1 x2 x3 fw r fw_1 H locs ls hm hP hD hS hl
        rw [mC_fewestCliques_e1] at hm
        refine lv_iload_n hx hb dXC_fewestCliques_4 rfl (lv_at hl 3 rfl) ?_
        refine lv_aload_n hx hb dXC_fewestCliques_5 rfl (lv_at hl 0 rfl) ?_
        refine va_get (D := D) (ci := 0) (v := .ref (q 10)) (C := RXC) (T := TXC) (N := 2) hx hb hts hinXC hown hK hP 0 rfl rfl 0 (by decide) (hts _ wd_115) (fun _ h9 => h9) rfl dXC_fewestCliques_6 ?_
        obtain ⟨r111, hm111, hm⟩ := kb_s hm
        refine k_vi (As := []) (rest := [.int x3]) (w2 := (wC q cA N nr fw)) ⟨hx, hb, hml, hown, hts⟩ (cG_size l D q cA N H.size nr n r111 hm111) (cwV 0 hts (gV wd_114 wd_70 wd_71 wd_37 wd_72) rfl rfl rfl (by decide +kernel) ⟨Nat.le_of_ble_eq_true rfl, Nat.le_of_ble_eq_true rfl⟩) hK hN hP hD hS hA [2, 3] [0, 1] [0, 1, 2, 3] ⟨rfl, rfl, by decide, rfl, by decide, by decide, rfl, rfl, by decide⟩ (va_recv hK hP (ci := 2) (q0 := 2) rfl rfl) rfl hl.1 rfl (Nat.le_of_ble_eq_true rfl) dXC_fewestCliques_9 ⟨Nat.le_of_ble_eq_true rfl, Nat.le_of_ble_eq_true rfl⟩ (fun hz111 H locs hP hD hS => ?_)
        refine lv_icmp_ge (tgt := 41) hx hb dXC_fewestCliques_12 (by decide) (fun c112 => ?_) (fun c112 => ?_)
        · rw [if_pos c112] at hm
          refine lv_aload_n hx hb dXC_fewestCliques_41 rfl (lv_at hl 0 rfl) ?_
          refine va_get (D := D) (ci := 0) (v := .ref (q 2)) (C := RXC) (T := TXC) (N := 2) hx hb hts hinXC hown hK hP 0 rfl rfl 1 (by decide) (hts _ wd_116) (fun _ h9 => h9) rfl dXC_fewestCliques_42 ?_
          refine lv_iload_n hx hb dXC_fewestCliques_45 rfl (lv_at hl 1 rfl) ?_
          obtain ⟨hg113, hm⟩ := kg_s hm
          refine va_iald hx hb hK hP 1 0 rfl rfl hg113 dXC_fewestCliques_46 ?_
          cases hm
          exact k_iret hx hb hr hlocks hK hP hD hS trivial dXC_fewestCliques_47
        · rw [if_neg c112] at hm
          refine lv_iload_n hx hb dXC_fewestCliques_15 rfl (lv_at hl 1 rfl) ?_
          refine lv_iload_n hx hb dXC_fewestCliques_16 rfl (lv_at hl 3 rfl) ?_
          obtain ⟨r114, hm114, hm⟩ := kb_s hm
          refine k_n0 (As := [.int x1, .int x3]) (rest := []) ⟨hx, hb, hml, hown, hts⟩ (cF_contains l D cA H.size x1 x3 n r114 hm114) ⟨va_cnB 2 hts (gC wd_153) rfl rfl rfl hN.2.2.2 (hts _ wd_36) (by decide +kernel) ⟨Nat.le_of_ble_eq_true rfl, Nat.le_of_ble_eq_true rfl⟩, hts _ wd_152, trivial⟩ hK hN hP hD hS hA rfl hl.1 rfl (Nat.le_of_ble_eq_true rfl) dXC_fewestCliques_17 ⟨Nat.le_of_ble_eq_true rfl, Nat.le_of_ble_eq_true rfl⟩ (fun hz114 H locs hP hD hS => ?_)
          refine lv_if_eq (tgt := 35) hx hb dXC_fewestCliques_20 (by decide) (fun c115 => ?_) (fun c115 => ?_)
          · rw [if_pos c115] at hm
            refine lv_iinc (v := (x3 + 1)) (lv' := [(3, .int (x3 + 1)), (0, .ref (q 1)), (1, .int x1), (2, .int x2)]) hx hb dXC_fewestCliques_35 hl (k := 3) rfl rfl (by decide) rfl (fun ls hl => ?_)
            refine lv_goto (tgt := 4) hx hb dXC_fewestCliques_38 (by decide) ?_
            exact ih1 x1 x2 (x3 + 1) fw _ _ H locs ls hm hP hD hS (lv_sub hl [1, 2, 3, 0] rfl)
          · rw [if_neg c115] at hm
            refine lv_aload_n hx hb dXC_fewestCliques_23 rfl (lv_at hl 0 rfl) ?_
            refine lv_iload_n hx hb dXC_fewestCliques_24 rfl (lv_at hl 3 rfl) ?_
            refine lv_iload_n hx hb dXC_fewestCliques_25 rfl (lv_at hl 2 rfl) ?_
            obtain ⟨fw_116, hm116, hm⟩ := kb_s hm
            refine k_vv (As := [.int x3, .int x2]) (rest := []) (w2 := (wC q cA N nr fw_116)) ⟨hx, hb, hml, hown, hts⟩ (cC_coverWith l D q cA N H.size nr fw x3 x2 n fw_116 hm116) (cwV 2 hts (gV wd_370 wd_371 wd_16 wd_40 wd_372) rfl rfl rfl (by decide +kernel) ⟨Nat.le_of_ble_eq_true rfl, Nat.le_of_ble_eq_true rfl⟩) hK hN hP hD hS hA [0, 1, 2, 3] [] [0, 1, 2, 3] ⟨rfl, rfl, by decide, rfl, by decide, by decide, rfl, rfl, by decide⟩ (va_recv hK hP (ci := 0) (q0 := 0) rfl rfl) rfl hl.1 rfl (Nat.le_of_ble_eq_true rfl) dXC_fewestCliques_26 ⟨Nat.le_of_ble_eq_true rfl, Nat.le_of_ble_eq_true rfl⟩ (fun H locs hP hD hS => ?_)
            refine lv_iload_n hx hb dXC_fewestCliques_29 rfl (lv_at hl 2 rfl) ?_
            refine lv_iconst (v := 1) hx hb dXC_fewestCliques_30 (by decide) ?_
            refine lv_iload_n hx hb dXC_fewestCliques_31 rfl (lv_at hl 3 rfl) ?_
            refine lv_ishl hx hb dXC_fewestCliques_32 ?_
            refine lv_ior hx hb dXC_fewestCliques_33 ?_
            refine lv_topi (fun x2_117 ex2_117 => ?_)
            have hm := kl_s ex2_117 hm
            refine lv_istore_n (lv' := [(2, .int x2_117), (0, .ref (q 1)), (1, .int x1), (3, .int x3)]) hx hb dXC_fewestCliques_34 rfl hl (by decide) rfl (fun ls hl => ?_)
            refine lv_iinc (v := (x3 + 1)) (lv' := [(3, .int (x3 + 1)), (2, .int x2_117), (0, .ref (q 1)), (1, .int x1)]) hx hb dXC_fewestCliques_35 hl (k := 3) rfl rfl (by decide) rfl (fun ls hl => ?_)
            refine lv_goto (tgt := 4) hx hb dXC_fewestCliques_38 (by decide) ?_
            exact ih1 x1 x2_117 (x3 + 1) fw_116 _ _ H locs ls hm hP hD hS (lv_sub hl [2, 3, 1, 0] rfl)
  exact (key n).1 a1 fw r fw_1 s.heap [] ls hm hP hD va_S.rf hl
