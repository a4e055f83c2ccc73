set_option maxHeartbeats 4000000 in
set_option maxRecDepth 100000 in
theorem cT_forget (l : Launch) (D : va_G) (q : Nat → Nat) (cA : ClassId) (N : Nat) (sz : Nat) (nr : Nat → Int32) (ss : Nat → Int32) (sc : Int32) (ns : Nat → Int32) (nc : Int32) (ps : Nat → Int32) (dg : Nat → Int32) (pn : Int32) (pj : Int32) (wh : Int32) (n : Nat) (wh_1 : Int32) (hm : mT_forget N n 0 [] wh = some wh_1) : Met l yXT_forget wsXT_forget ({ frames := 0, cells := 0, slots := 0, locals := 0 }) (kPc D cA [.ref (q 5)] (wT q cA N nr ss sc ns nc ps dg pn pj wh) sz) (kQv D cA (va_A (wT q cA N nr ss sc ns nc ps dg pn pj wh) sz) (wT q cA N nr ss sc ns nc ps dg pn pj wh_1)) 0 0 (va_A (wT q cA N nr ss sc ns nc ps dg pn pj wh) sz) := by
  refine k_met (D := D) (cA := cA) (w := (wT q cA N nr ss sc ns nc ps dg pn pj wh)) (sz := sz) (av := [.ref (q 5)]) (cc := cXT_forget) (maxL := 1) (ret := none) (Qc := fun A => kQv D cA A (wT q cA N nr ss sc ns nc ps dg pn pj wh_1)) (by decide) rfl (Nat.le_of_ble_eq_true rfl) ?_
  intro p e s m below meth c A ls hX hK hN hA hP hD hl
  obtain ⟨hx, hb, hr, hml, hown, hts, hlocks, -⟩ := hX
  have hown : s.vm.findClass RXT = some m.cls := hown
  have hl : lv_has ls 1 [(0, .ref (q 5))] := hl
  have hts : ∀ w ∈ W0, w.before _ s = true := fun w h => hts w (List.mem_cons_of_mem _ h)
  have key : ∀ n : Nat, (∀ (wh : Int32) (wh_1 : Int32) (H : Heap) (locs : List Loc) (ls : Array Slot), mT_forget N n 0 [] wh = some wh_1 → va_P D vwCl (wT q cA N nr ss sc ns nc ps dg pn pj wh) H → va_D A (wT q cA N nr ss sc ns nc ps dg pn pj wh) → va_S A s.heap H locs → lv_has ls 1 [(0, .ref (q 5))] → W p l e ({ frames := 0, cells := 0, slots := 0, locals := 0 }) s m ([.ref (q 5)] : List Value).toArray below meth c H locs 0 0 (MQ below (kQv D cA A (wT q cA N nr ss sc ns nc ps dg pn pj wh_1)) ([.ref (q 5)] : List Value).toArray s 0 0 A) (F0 m 0 ls [])) := by
    intro n
    induction n with
    | zero => exact (by intros; rename_i h _ _ _ _; rw [mT_forget_z] at h; cases h)
    | succ n ih =>
      have ih0 := ih
      intro wh wh_1 H locs ls hm hP hD hS hl
      rw [mT_forget_e0] at hm
      refine lv_aload_n hx hb dXT_forget_0 rfl (lv_at hl 0 rfl) ?_
      refine lv_iconst (v := 0) hx hb dXT_forget_1 (by decide) ?_
      refine va_put (D := D) (ci := 3) (v := .int 0) (ty := .int) (C := RXT) (T := TXT) (N := 10) hx hb hts hinXT tyXT tyXT_ok nXT hown hK hP hD hS 0 rfl rfl 9 (by decide) (hts _ wd_82) (fun _ h9 => h9) rfl (by decide +kernel) rfl rfl (Nat.le_of_ble_eq_true rfl) dXT_forget_2 (fun H locs hP hD hS => ?_)
      have hP : va_P D vwCl (wT q cA N nr ss sc ns nc ps dg pn pj 0) H := hP
      have hD : va_D A (wT q cA N nr ss sc ns nc ps dg pn pj 0) := hD
      cases hm
      exact k_vret hx hb hr hlocks hK hP hD hS dXT_forget_5
  exact key n wh wh_1 s.heap [] ls hm hP hD va_S.rf hl
set_option maxHeartbeats 4000000 in
set_option maxRecDepth 100000 in
theorem cT_isSplit (l : Launch) (D : va_G) (q : Nat → Nat) (cA : ClassId) (N : Nat) (sz : Nat) (nr : Nat → Int32) (ss : Nat → Int32) (sc : Int32) (ns : Nat → Int32) (nc : Int32) (ps : Nat → Int32) (dg : Nat → Int32) (pn : Int32) (pj : Int32) (wh : Int32) (a1 a2 : Int32) (n : Nat) (r : Int32) (hm : mT_isSplit N nr n 0 [a1, a2] = some r) : Met l yXT_isSplit wsXT_isSplit ({ frames := 1, cells := 0, slots := 0, locals := 22 }) (kPc D cA [.ref (q 5), .int a1, .int a2] (wT q cA N nr ss sc ns nc ps dg pn pj wh) sz) (kQi D cA kB (va_A (wT q cA N nr ss sc ns nc ps dg pn pj wh) sz) (wT q cA N nr ss sc ns nc ps dg pn pj wh) r) 0 0 (va_A (wT q cA N nr ss sc ns nc ps dg pn pj wh) sz) := by
  refine k_met (D := D) (cA := cA) (w := (wT q cA N nr ss sc ns nc ps dg pn pj wh)) (sz := sz) (av := [.ref (q 5), .int a1, .int a2]) (cc := cXT_isSplit) (maxL := 6) (ret := (some .boolean)) (Qc := fun A => kQi D cA kB A (wT q cA N nr ss sc ns nc ps dg pn pj wh) r) (by decide) rfl (Nat.le_of_ble_eq_true rfl) ?_
  intro p e s m below meth c A ls hX hK hN hA hP hD hl
  obtain ⟨hx, hb, hr, hml, hown, hts, hlocks, -⟩ := hX
  have hown : s.vm.findClass RXT = some m.cls := hown
  have hl : lv_has ls 6 [(0, .ref (q 5)), (1, .int a1), (2, .int a2)] := hl
  have hts : ∀ w ∈ W0, w.before _ s = true := fun w h => hts w (List.mem_cons_of_mem _ h)
  have key : ∀ n : Nat, (∀ (x1 x2 : Int32) (r : Int32) (H : Heap) (locs : List Loc) (ls : Array Slot), mT_isSplit N nr n 0 [x1, x2] = some r → va_P D vwCl (wT q cA N nr ss sc ns nc ps dg pn pj wh) H → va_D A (wT q cA N nr ss sc ns nc ps dg pn pj wh) → va_S A s.heap H locs → lv_has ls 6 [(0, .ref (q 5)), (1, .int x1), (2, .int x2)] → W p l e ({ frames := 1, cells := 0, slots := 0, locals := 22 }) s m ([.ref (q 5), .int a1, .int a2] : List Value).toArray below meth c H locs 0 0 (MQ below (kQi D cA kB A (wT q cA N nr ss sc ns nc ps dg pn pj wh) r) ([.ref (q 5), .int a1, .int a2] : List Value).toArray s 0 0 A) (F0 m 0 ls [])) ∧
    (∀ (x1 x2 x3 x4 : Int32) (r : Int32) (H : Heap) (locs : List Loc) (ls : Array Slot), mT_isSplit N nr n 1 [x1, x2, x3, x4] = some r → va_P D vwCl (wT q cA N nr ss sc ns nc ps dg pn pj wh) H → va_D A (wT q cA N nr ss sc ns nc ps dg pn pj wh) → va_S A s.heap H locs → lv_has ls 6 [(0, .ref (q 5)), (1, .int x1), (2, .int x2), (3, .int x3), (4, .int x4)] → W p l e ({ frames := 1, cells := 0, slots := 0, locals := 22 }) s m ([.ref (q 5), .int a1, .int a2] : List Value).toArray below meth c H locs 0 0 (MQ below (kQi D cA kB A (wT q cA N nr ss sc ns nc ps dg pn pj wh) r) ([.ref (q 5), .int a1, .int a2] : List Value).toArray s 0 0 A) (F0 m 23 ls [])) ∧
    (∀ (x1 x2 x3 x4 y0 : Int32) (r : Int32) (H : Heap) (locs : List Loc) (ls : Array Slot), mT_isSplit N nr n 2 [x1, x2, x3, x4, y0] = some r → va_P D vwCl (wT q cA N nr ss sc ns nc ps dg pn pj wh) H → va_D A (wT q cA N nr ss sc ns nc ps dg pn pj wh) → va_S A s.heap H locs → lv_has ls 6 [(0, .ref (q 5)), (1, .int x1), (2, .int x2), (3, .int x3), (4, .int x4)] → W p l e ({ frames := 1, cells := 0, slots := 0, locals := 22 }) s m ([.ref (q 5), .int a1, .int a2] : List Value).toArray below meth c H locs 0 0 (MQ below (kQi D cA kB A (wT q cA N nr ss sc ns nc ps dg pn pj wh) r) ([.ref (q 5), .int a1, .int a2] : List Value).toArray s 0 0 A) (F0 m 58 ls [.int y0])) ∧
    (∀ (x1 x2 x3 x4 x5 : Int32) (r : Int32) (H : Heap) (locs : List Loc) (ls : Array Slot), mT_isSplit N nr n 3 [x1, x2, x3, x4, x5] = some r → va_P D vwCl (wT q cA N nr ss sc ns nc ps dg pn pj wh) H → va_D A (wT q cA N nr ss sc ns nc ps dg pn pj wh) → va_S A s.heap H locs → lv_has ls 6 [(0, .ref (q 5)), (1, .int x1), (2, .int x2), (3, .int x3), (4, .int x4), (5, .int x5)] → W p l e ({ frames := 1, cells := 0, slots := 0, locals := 22 }) s m ([.ref (q 5), .int a1, .int a2] : List Value).toArray below meth c H locs 0 0 (MQ below (kQi D cA kB A (wT q cA N nr ss sc ns nc ps dg pn pj wh) r) ([.ref (q 5), .int a1, .int a2] : List Value).toArray s 0 0 A) (F0 m 77 ls [])) := by
    intro n
    induction n with
    | zero => exact ⟨(by intros; rename_i h _ _ _ _; rw [mT_isSplit_z] at h; cases h), (by intros; rename_i h _ _ _ _; rw [mT_isSplit_z] at h; cases h), (by intros; rename_i h _ _ _ _; rw [mT_isSplit_z] at h; cases h), (by intros; rename_i h _ _ _ _; rw [mT_isSplit_z] at h; cases h)⟩
    | succ n ih =>
      obtain ⟨ih0, ih1, ih2, ih3⟩ := ih
      refine ⟨?_, ?_, ?_, ?_⟩
      · intro x1 x2 r H locs ls hm hP hD hS hl
        rw [mT_isSplit_e0] at hm
        refine lv_iload_n hx hb dXT_isSplit_0 rfl (lv_at hl 1 rfl) ?_
        obtain ⟨r11, hm11, hm⟩ := kb_s hm
        refine k_s0 (As := [.int x1]) (rest := []) ⟨hx, hb, hml, hown, hts⟩ (cJ_bitCount l D cA H.size x1 n r11 hm11) ⟨callB_of 1 hts (gC wd_195) rfl rfl rfl (hts _ wd_42) (hts _ wd_193) (by decide +kernel) ⟨Nat.le_of_ble_eq_true rfl, Nat.le_of_ble_eq_true rfl⟩, hts _ wd_194⟩ hK hN hP hD hS hA rfl hl.1 rfl (Nat.le_of_ble_eq_true rfl) dXT_isSplit_1 ⟨Nat.le_of_ble_eq_true rfl, Nat.le_of_ble_eq_true rfl⟩ (fun hz11 H locs hP hD hS => ?_)
        refine lv_iconst (v := 2) hx hb dXT_isSplit_4 (by decide) ?_
        refine lv_icmp_lt (tgt := 16) hx hb dXT_isSplit_5 (by decide) (fun c12 => ?_) (fun c12 => ?_)
        · rw [if_pos c12] at hm
          refine lv_iconst (v := 0) hx hb dXT_isSplit_16 (by decide) ?_
          cases hm
          exact k_zret hx hb hr hlocks hK hP hD hS (Or.inl rfl) dXT_isSplit_17
        · rw [if_neg c12] at hm
          refine lv_iload_n hx hb dXT_isSplit_8 rfl (lv_at hl 2 rfl) ?_
          obtain ⟨r13, hm13, hm⟩ := kb_s hm
          refine k_s0 (As := [.int x2]) (rest := []) ⟨hx, hb, hml, hown, hts⟩ (cJ_bitCount l D cA H.size x2 n r13 hm13) ⟨callB_of 1 hts (gC wd_195) rfl rfl rfl (hts _ wd_42) (hts _ wd_193) (by decide +kernel) ⟨Nat.le_of_ble_eq_true rfl, Nat.le_of_ble_eq_true rfl⟩, hts _ wd_194⟩ hK hN hP hD hS hA rfl hl.1 rfl (Nat.le_of_ble_eq_true rfl) dXT_isSplit_9 ⟨Nat.le_of_ble_eq_true rfl, Nat.le_of_ble_eq_true rfl⟩ (fun hz13 H locs hP hD hS => ?_)
          refine lv_iconst (v := 2) hx hb dXT_isSplit_12 (by decide) ?_
          refine lv_icmp_ge (tgt := 18) hx hb dXT_isSplit_13 (by decide) (fun c14 => ?_) (fun c14 => ?_)
          · rw [if_pos c14] at hm
            refine lv_iconst (v := 0) hx hb dXT_isSplit_18 (by decide) ?_
            refine lv_istore_n (lv' := [(3, .int 0), (0, .ref (q 5)), (1, .int x1), (2, .int x2)]) hx hb dXT_isSplit_19 rfl hl (by decide) rfl (fun ls hl => ?_)
            refine lv_iconst (v := 0) hx hb dXT_isSplit_20 (by decide) ?_
            refine lv_istore (lv' := [(4, .int 0), (3, .int 0), (0, .ref (q 5)), (1, .int x1), (2, .int x2)]) hx hb dXT_isSplit_21 hl (by decide) rfl (fun ls hl => ?_)
            exact ih1 x1 x2 0 0 _ H locs ls hm hP hD hS (lv_sub hl [2, 3, 4, 1, 0] rfl)
          · rw [if_neg c14] at hm
            refine lv_iconst (v := 0) hx hb dXT_isSplit_16 (by decide) ?_
            cases hm
            exact k_zret hx hb hr hlocks hK hP hD hS (Or.inl rfl) dXT_isSplit_17
      · intro x1 x2 x3 x4 r H locs ls hm hP hD hS hl
        rw [mT_isSplit_e1] at hm
        refine lv_iload hx hb dXT_isSplit_23 (lv_at hl 4 rfl) ?_
        refine lv_aload_n hx hb dXT_isSplit_25 rfl (lv_at hl 0 rfl) ?_
        refine va_get (D := D) (ci := 3) (v := .ref (q 10)) (C := RXT) (T := TXT) (N := 10) hx hb hts hinXT hown hK hP 0 rfl rfl 0 (by decide) (hts _ wd_73) (fun _ h9 => h9) rfl dXT_isSplit_26 ?_
        obtain ⟨r111, hm111, hm⟩ := kb_s hm
        refine k_vi (As := []) (rest := [.int x4]) (w2 := (wT q cA N nr ss sc ns nc ps dg pn pj wh)) ⟨hx, hb, hml, hown, hts⟩ (cG_size l D q cA N H.size nr n r111 hm111) (cwV 0 hts (gV wd_69 wd_70 wd_71 wd_37 wd_72) rfl rfl rfl (by decide +kernel) ⟨Nat.le_of_ble_eq_true rfl, Nat.le_of_ble_eq_true rfl⟩) hK hN hP hD hS hA [5, 6] [0, 1, 2, 3, 4] [0, 1, 2, 3, 4, 5, 6] ⟨rfl, rfl, by decide, rfl, by decide, by decide, rfl, rfl, by decide⟩ (va_recv hK hP (ci := 2) (q0 := 5) rfl rfl) rfl hl.1 rfl (Nat.le_of_ble_eq_true rfl) dXT_isSplit_29 ⟨Nat.le_of_ble_eq_true rfl, Nat.le_of_ble_eq_true rfl⟩ (fun hz111 H locs hP hD hS => ?_)
        refine lv_icmp_ge (tgt := 88) hx hb dXT_isSplit_32 (by decide) (fun c112 => ?_) (fun c112 => ?_)
        · rw [if_pos c112] at hm
          refine lv_iconst (v := 1) hx hb dXT_isSplit_88 (by decide) ?_
          cases hm
          exact k_zret hx hb hr hlocks hK hP hD hS (Or.inr rfl) dXT_isSplit_89
        · rw [if_neg c112] at hm
          refine lv_iload_n hx hb dXT_isSplit_35 rfl (lv_at hl 1 rfl) ?_
          refine lv_iload hx hb dXT_isSplit_36 (lv_at hl 4 rfl) ?_
          obtain ⟨r113, hm113, hm⟩ := kb_s hm
          refine k_n0 (As := [.int x1, .int x4]) (rest := []) ⟨hx, hb, hml, hown, hts⟩ (cF_contains l D cA H.size x1 x4 n r113 hm113) ⟨va_cnB 2 hts (gC wd_153) rfl rfl rfl hN.2.1 (hts _ wd_36) (by decide +kernel) ⟨Nat.le_of_ble_eq_true rfl, Nat.le_of_ble_eq_true rfl⟩, hts _ wd_152, trivial⟩ hK hN hP hD hS hA rfl hl.1 rfl (Nat.le_of_ble_eq_true rfl) dXT_isSplit_38 ⟨Nat.le_of_ble_eq_true rfl, Nat.le_of_ble_eq_true rfl⟩ (fun hz113 H locs hP hD hS => ?_)
          refine lv_if_eq (tgt := 57) hx hb dXT_isSplit_41 (by decide) (fun c114 => ?_) (fun c114 => ?_)
          · rw [if_pos c114] at hm
            refine lv_iconst (v := 0) hx hb dXT_isSplit_57 (by decide) ?_
            exact ih2 x1 x2 x3 x4 0 _ H locs ls hm hP hD hS (lv_sub hl [0, 1, 2, 3, 4] rfl)
          · rw [if_neg c114] at hm
            refine lv_aload_n hx hb dXT_isSplit_44 rfl (lv_at hl 0 rfl) ?_
            refine va_get (D := D) (ci := 3) (v := .ref (q 10)) (C := RXT) (T := TXT) (N := 10) hx hb hts hinXT hown hK hP 0 rfl rfl 0 (by decide) (hts _ wd_73) (fun _ h9 => h9) rfl dXT_isSplit_45 ?_
            refine lv_iload hx hb dXT_isSplit_48 (lv_at hl 4 rfl) ?_
            refine lv_iload_n hx hb dXT_isSplit_50 rfl (lv_at hl 2 rfl) ?_
            obtain ⟨r115, hm115, hm⟩ := kb_s hm
            refine k_vi (As := [.int x4, .int x2]) (rest := []) (w2 := (wT q cA N nr ss sc ns nc ps dg pn pj wh)) ⟨hx, hb, hml, hown, hts⟩ (cG_nearInside l D q cA N H.size nr x4 x2 n r115 hm115) (cwV 2 hts (gV wd_199 wd_200 wd_201 wd_37 wd_202) rfl rfl rfl (by decide +kernel) ⟨Nat.le_of_ble_eq_true rfl, Nat.le_of_ble_eq_true rfl⟩) hK hN hP hD hS hA [5, 6] [0, 1, 2, 3, 4] [0, 1, 2, 3, 4, 5, 6] ⟨rfl, rfl, by decide, rfl, by decide, by decide, rfl, rfl, by decide⟩ (va_recv hK hP (ci := 2) (q0 := 5) rfl rfl) rfl hl.1 rfl (Nat.le_of_ble_eq_true rfl) dXT_isSplit_51 ⟨Nat.le_of_ble_eq_true rfl, Nat.le_of_ble_eq_true rfl⟩ (fun hz115 H locs hP hD hS => ?_)
            refine lv_goto (tgt := 58) hx hb dXT_isSplit_54 (by decide) ?_
            exact ih2 x1 x2 x3 x4 r115 _ H locs ls hm hP hD hS (lv_sub hl [0, 1, 2, 3, 4] rfl)
      · intro x1 x2 x3 x4 y0 r H locs ls hm hP hD hS hl
        rw [mT_isSplit_e2] at hm
        refine lv_istore (lv' := [(5, .int y0), (0, .ref (q 5)), (1, .int x1), (2, .int x2), (3, .int x3), (4, .int x4)]) hx hb dXT_isSplit_58 hl (by decide) rfl (fun ls hl => ?_)
        refine lv_iload hx hb dXT_isSplit_60 (lv_at hl 0 rfl) ?_
        refine lv_if_eq (tgt := 77) hx hb dXT_isSplit_62 (by decide) (fun c211 => ?_) (fun c211 => ?_)
        · rw [if_pos c211] at hm
          exact ih3 x1 x2 x3 x4 y0 _ H locs ls hm hP hD hS (lv_sub hl [1, 2, 3, 4, 5, 0] rfl)
        · rw [if_neg c211] at hm
          refine lv_iload_n hx hb dXT_isSplit_65 rfl (lv_at hl 4 rfl) ?_
          refine lv_if_eq (tgt := 77) hx hb dXT_isSplit_66 (by decide) (fun c212 => ?_) (fun c212 => ?_)
          · rw [if_pos c212] at hm
            exact ih3 x1 x2 x3 x4 y0 _ H locs ls hm hP hD hS (lv_sub hl [1, 2, 3, 4, 5, 0] rfl)
          · rw [if_neg c212] at hm
            refine lv_iload hx hb dXT_isSplit_69 (lv_at hl 0 rfl) ?_
            refine lv_iload_n hx hb dXT_isSplit_71 rfl (lv_at hl 4 rfl) ?_
            refine lv_icmp_eq (tgt := 77) hx hb dXT_isSplit_72 (by decide) (fun c213 => ?_) (fun c213 => ?_)
            · rw [if_pos c213] at hm
              exact ih3 x1 x2 x3 x4 y0 _ H locs ls hm hP hD hS (lv_sub hl [1, 2, 3, 4, 5, 0] rfl)
            · rw [if_neg c213] at hm
              refine lv_iconst (v := 0) hx hb dXT_isSplit_75 (by decide) ?_
              cases hm
              exact k_zret hx hb hr hlocks hK hP hD hS (Or.inl rfl) dXT_isSplit_76
      · intro x1 x2 x3 x4 x5 r H locs ls hm hP hD hS hl
        rw [mT_isSplit_e3] at hm
        refine lv_iload_n hx hb dXT_isSplit_77 rfl (lv_at hl 3 rfl) ?_
        refine lv_iload hx hb dXT_isSplit_78 (lv_at hl 5 rfl) ?_
        refine lv_ior hx hb dXT_isSplit_80 ?_
        refine lv_topi (fun x3_311 ex3_311 => ?_)
        have hm := kl_s ex3_311 hm
        refine lv_istore_n (lv' := [(3, .int x3_311), (0, .ref (q 5)), (1, .int x1), (2, .int x2), (4, .int x4), (5, .int x5)]) hx hb dXT_isSplit_81 rfl hl (by decide) rfl (fun ls hl => ?_)
        refine lv_iinc (v := (x4 + 1)) (lv' := [(4, .int (x4 + 1)), (3, .int x3_311), (0, .ref (q 5)), (1, .int x1), (2, .int x2), (5, .int x5)]) hx hb dXT_isSplit_82 hl (k := 4) rfl rfl (by decide) rfl (fun ls hl => ?_)
        refine lv_goto (tgt := 23) hx hb dXT_isSplit_85 (by decide) ?_
        exact ih1 x1 x2 x3_311 (x4 + 1) _ H locs ls hm hP hD hS (lv_sub hl [2, 3, 4, 1, 0] rfl)
  exact (key n).1 a1 a2 r s.heap [] ls hm hP hD va_S.rf hl
set_option maxHeartbeats 4000000 in
set_option maxRecDepth 100000 in
theorem cT_findSplits (l : Launch) (D : va_G) (q : Nat → Nat) (cA : ClassId) (N : Nat) (sz : Nat) (nr : Nat → Int32) (ss : Nat → Int32) (sc : Int32) (ns : Nat → Int32) (nc : Int32) (ps : Nat → Int32) (dg : Nat → Int32) (pn : Int32) (pj : Int32) (wh : Int32) (n : Nat) (ss_1 : Nat → Int32) (sc_1 : Int32) (hm : mT_findSplits N nr wh n 0 [] ss sc = some (ss_1, sc_1)) : Met l yXT_findSplits wsXT_findSplits ({ frames := 2, cells := 0, slots := 0, locals := 47 }) (kPc D cA [.ref (q 5)] (wT q cA N nr ss sc ns nc ps dg pn pj wh) sz) (kQv D cA (va_A (wT q cA N nr ss sc ns nc ps dg pn pj wh) sz) (wT q cA N nr ss_1 sc_1 ns nc ps dg pn pj wh)) 0 0 (va_A (wT q cA N nr ss sc ns nc ps dg pn pj wh) sz) := by
  refine k_met (D := D) (cA := cA) (w := (wT q cA N nr ss sc ns nc ps dg pn pj wh)) (sz := sz) (av := [.ref (q 5)]) (cc := cXT_findSplits) (maxL := 3) (ret := none) (Qc := fun A => kQv D cA A (wT q cA N nr ss_1 sc_1 ns nc ps dg pn pj wh)) (by decide) rfl (Nat.le_of_ble_eq_true rfl) ?_
  intro p e s m below meth c A ls hX hK hN hA hP hD hl
  obtain ⟨hx, hb, hr, hml, hown, hts, hlocks, -⟩ := hX
  have hown : s.vm.findClass RXT = some m.cls := hown
  have hl : lv_has ls 3 [(0, .ref (q 5))] := hl
  have hts : ∀ w ∈ W0, w.before _ s = true := fun w h => hts w (List.mem_cons_of_mem _ h)
  have key : ∀ n : Nat, (∀ (ss : Nat → Int32) (sc : Int32) (ss_1 : Nat → Int32) (sc_1 : Int32) (H : Heap) (locs : List Loc) (ls : Array Slot), mT_findSplits N nr wh n 0 [] ss sc = some (ss_1, sc_1) → va_P D vwCl (wT q cA N nr ss sc ns nc ps dg pn pj wh) H → va_D A (wT q cA N nr ss sc ns nc ps dg pn pj wh) → va_S A s.heap H locs → lv_has ls 3 [(0, .ref (q 5))] → W p l e ({ frames := 2, cells := 0, slots := 0, locals := 47 }) s m ([.ref (q 5)] : List Value).toArray below meth c H locs 0 0 (MQ below (kQv D cA A (wT q cA N nr ss_1 sc_1 ns nc ps dg pn pj wh)) ([.ref (q 5)] : List Value).toArray s 0 0 A) (F0 m 0 ls [])) ∧
    (∀ (x1 x2 : Int32) (ss : Nat → Int32) (sc : Int32) (ss_1 : Nat → Int32) (sc_1 : Int32) (H : Heap) (locs : List Loc) (ls : Array Slot), mT_findSplits N nr wh n 1 [x1, x2] ss sc = some (ss_1, sc_1) → va_P D vwCl (wT q cA N nr ss sc ns nc ps dg pn pj wh) H → va_D A (wT q cA N nr ss sc ns nc ps dg pn pj wh) → va_S A s.heap H locs → lv_has ls 3 [(0, .ref (q 5)), (1, .int x1), (2, .int x2)] → W p l e ({ frames := 2, cells := 0, slots := 0, locals := 47 }) s m ([.ref (q 5)] : List Value).toArray below meth c H locs 0 0 (MQ below (kQv D cA A (wT q cA N nr ss_1 sc_1 ns nc ps dg pn pj wh)) ([.ref (q 5)] : List Value).toArray s 0 0 A) (F0 m 19 ls [])) := by
    intro n
    induction n with
    | zero => exact ⟨(by intros; rename_i h _ _ _ _; rw [mT_findSplits_z] at h; cases h), (by intros; rename_i h _ _ _ _; rw [mT_findSplits_z] at h; cases h)⟩
    | succ n ih =>
      obtain ⟨ih0, ih1⟩ := ih
      refine ⟨?_, ?_⟩
      · intro ss sc ss_1 sc_1 H locs ls hm hP hD hS hl
        rw [mT_findSplits_e0] at hm
        refine lv_aload_n hx hb dXT_findSplits_0 rfl (lv_at hl 0 rfl) ?_
        refine va_get (D := D) (ci := 3) (v := .int wh) (C := RXT) (T := TXT) (N := 10) hx hb hts hinXT hown hK hP 0 rfl rfl 9 (by decide) (hts _ wd_82) (fun _ h9 => h9) rfl dXT_findSplits_1 ?_
        refine lv_aload_n hx hb dXT_findSplits_4 rfl (lv_at hl 0 rfl) ?_
        refine va_get (D := D) (ci := 3) (v := .int wh) (C := RXT) (T := TXT) (N := 10) hx hb hts hinXT hown hK hP 0 rfl rfl 9 (by decide) (hts _ wd_82) (fun _ h9 => h9) rfl dXT_findSplits_5 ?_
        refine lv_iconst (v := 1) hx hb dXT_findSplits_8 (by decide) ?_
        refine lv_isub hx hb dXT_findSplits_9 ?_
        refine lv_iand hx hb dXT_findSplits_10 ?_
        refine lv_topi (fun x1_11 ex1_11 => ?_)
        have hm := kl_s ex1_11 hm
        refine lv_istore_n (lv' := [(1, .int x1_11), (0, .ref (q 5))]) hx hb dXT_findSplits_11 rfl hl (by decide) rfl (fun ls hl => ?_)
        refine lv_aload_n hx hb dXT_findSplits_12 rfl (lv_at hl 1 rfl) ?_
        refine lv_iconst (v := 0) hx hb dXT_findSplits_13 (by decide) ?_
        refine va_put (D := D) (ci := 3) (v := .int 0) (ty := .int) (C := RXT) (T := TXT) (N := 10) hx hb hts hinXT tyXT tyXT_ok nXT hown hK hP hD hS 0 rfl rfl 2 (by decide) (hts _ wd_75) (fun _ h9 => h9) rfl (by decide +kernel) rfl rfl (Nat.le_of_ble_eq_true rfl) dXT_findSplits_14 (fun H locs hP hD hS => ?_)
        have hP : va_P D vwCl (wT q cA N nr ss 0 ns nc ps dg pn pj wh) H := hP
        have hD : va_D A (wT q cA N nr ss 0 ns nc ps dg pn pj wh) := hD
        refine lv_iconst (v := 1) hx hb dXT_findSplits_17 (by decide) ?_
        refine lv_istore_n (lv' := [(2, .int 1), (1, .int x1_11), (0, .ref (q 5))]) hx hb dXT_findSplits_18 rfl hl (by decide) rfl (fun ls hl => ?_)
        exact ih1 x1_11 1 ss 0 _ _ H locs ls hm hP hD hS (lv_sub hl [2, 1, 0] rfl)
      · intro x1 x2 ss sc ss_1 sc_1 H locs ls hm hP hD hS hl
        rw [mT_findSplits_e1] at hm
        refine lv_iload_n hx hb dXT_findSplits_19 rfl (lv_at hl 2 rfl) ?_
        refine lv_iload_n hx hb dXT_findSplits_20 rfl (lv_at hl 1 rfl) ?_
        refine lv_icmp_gt (tgt := 74) hx hb dXT_findSplits_21 (by decide) (fun c111 => ?_) (fun c111 => ?_)
        · rw [if_pos c111] at hm
          cases hm
          exact k_vret hx hb hr hlocks hK hP hD hS dXT_findSplits_74
        · rw [if_neg c111] at hm
          refine lv_iload_n hx hb dXT_findSplits_24 rfl (lv_at hl 2 rfl) ?_
          refine lv_iload_n hx hb dXT_findSplits_25 rfl (lv_at hl 1 rfl) ?_
          refine lv_iconst (v := (-1)) hx hb dXT_findSplits_26 (by decide) ?_
          refine lv_ixor hx hb dXT_findSplits_27 ?_
          refine lv_iand hx hb dXT_findSplits_28 ?_
          refine lv_if_ne (tgt := 68) hx hb dXT_findSplits_29 (by decide) (fun c112 => ?_) (fun c112 => ?_)
          · rw [if_neg c112] at hm
            refine lv_iinc (v := (x2 + 1)) (lv' := [(2, .int (x2 + 1)), (0, .ref (q 5)), (1, .int x1)]) hx hb dXT_findSplits_68 hl (k := 2) rfl rfl (by decide) rfl (fun ls hl => ?_)
            refine lv_goto (tgt := 19) hx hb dXT_findSplits_71 (by decide) ?_
            exact ih1 x1 (x2 + 1) ss sc _ _ H locs ls hm hP hD hS (lv_sub hl [1, 2, 0] rfl)
          · rw [if_pos c112] at hm
            refine lv_aload_n hx hb dXT_findSplits_32 rfl (lv_at hl 0 rfl) ?_
            refine lv_iload_n hx hb dXT_findSplits_33 rfl (lv_at hl 2 rfl) ?_
            refine lv_aload_n hx hb dXT_findSplits_34 rfl (lv_at hl 0 rfl) ?_
            refine va_get (D := D) (ci := 3) (v := .int wh) (C := RXT) (T := TXT) (N := 10) hx hb hts hinXT hown hK hP 0 rfl rfl 9 (by decide) (hts _ wd_82) (fun _ h9 => h9) rfl dXT_findSplits_35 ?_
            refine lv_iload_n hx hb dXT_findSplits_38 rfl (lv_at hl 2 rfl) ?_
            refine lv_iconst (v := (-1)) hx hb dXT_findSplits_39 (by decide) ?_
            refine lv_ixor hx hb dXT_findSplits_40 ?_
            refine lv_iand hx hb dXT_findSplits_41 ?_
            obtain ⟨r113, hm113, hm⟩ := kb_s hm
            refine k_vi (As := [.int x2, .int (wh &&& (x2 ^^^ (-1)))]) (rest := []) (w2 := (wT q cA N nr ss sc ns nc ps dg pn pj wh)) ⟨hx, hb, hml, hown, hts⟩ (cT_isSplit l D q cA N H.size nr ss sc ns nc ps dg pn pj wh x2 (wh &&& (x2 ^^^ (-1))) n r113 hm113) (cwV 2 hts (gV wd_190 wd_191 wd_4 wd_38 wd_192) rfl rfl rfl (by decide +kernel) ⟨Nat.le_of_ble_eq_true rfl, Nat.le_of_ble_eq_true rfl⟩) hK hN hP hD hS hA [0, 1, 2, 3, 4, 5, 6] [] [0, 1, 2, 3, 4, 5, 6] ⟨rfl, rfl, by decide, rfl, by decide, by decide, rfl, rfl, by decide⟩ (va_recv hK hP (ci := 3) (q0 := 0) rfl rfl) rfl hl.1 rfl (Nat.le_of_ble_eq_true rfl) dXT_findSplits_42 ⟨Nat.le_of_ble_eq_true rfl, Nat.le_of_ble_eq_true rfl⟩ (fun hz113 H locs hP hD hS => ?_)
            refine lv_if_eq (tgt := 68) hx hb dXT_findSplits_45 (by decide) (fun c114 => ?_) (fun c114 => ?_)
            · rw [if_pos c114] at hm
              refine lv_iinc (v := (x2 + 1)) (lv' := [(2, .int (x2 + 1)), (0, .ref (q 5)), (1, .int x1)]) hx hb dXT_findSplits_68 hl (k := 2) rfl rfl (by decide) rfl (fun ls hl => ?_)
              refine lv_goto (tgt := 19) hx hb dXT_findSplits_71 (by decide) ?_
              exact ih1 x1 (x2 + 1) ss sc _ _ H locs ls hm hP hD hS (lv_sub hl [1, 2, 0] rfl)
            · rw [if_neg c114] at hm
              refine lv_aload_n hx hb dXT_findSplits_48 rfl (lv_at hl 0 rfl) ?_
              refine va_get (D := D) (ci := 3) (v := .ref (q 6)) (C := RXT) (T := TXT) (N := 10) hx hb hts hinXT hown hK hP 0 rfl rfl 1 (by decide) (hts _ wd_74) (fun _ h9 => h9) rfl dXT_findSplits_49 ?_
              refine lv_aload_n hx hb dXT_findSplits_52 rfl (lv_at hl 0 rfl) ?_
              refine va_get (D := D) (ci := 3) (v := .int sc) (C := RXT) (T := TXT) (N := 10) hx hb hts hinXT hown hK hP 0 rfl rfl 2 (by decide) (hts _ wd_75) (fun _ h9 => h9) rfl dXT_findSplits_53 ?_
              refine lv_iload_n hx hb dXT_findSplits_56 rfl (lv_at hl 2 rfl) ?_
              obtain ⟨hg115, hm⟩ := kg_s hm
              refine va_iast hx hb hK hP hD hS 1 0 rfl rfl hg115 dXT_findSplits_57 (fun H locs hP hD hS => ?_)
              have hP : va_P D vwCl (wT q cA N nr (upd ss sc.toNatClampNeg x2) sc ns nc ps dg pn pj wh) H := hP
              have hD : va_D A (wT q cA N nr (upd ss sc.toNatClampNeg x2) sc ns nc ps dg pn pj wh) := hD
              refine lv_aload_n hx hb dXT_findSplits_58 rfl (lv_at hl 0 rfl) ?_
              refine lv_dup hx hb dXT_findSplits_59 rfl ?_
              refine va_get (D := D) (ci := 3) (v := .int sc) (C := RXT) (T := TXT) (N := 10) hx hb hts hinXT hown hK hP 0 rfl rfl 2 (by decide) (hts _ wd_75) (fun _ h9 => h9) rfl dXT_findSplits_60 ?_
              refine lv_iconst (v := 1) hx hb dXT_findSplits_63 (by decide) ?_
              refine lv_iadd hx hb dXT_findSplits_64 ?_
              refine va_put (D := D) (ci := 3) (v := .int (sc + 1)) (ty := .int) (C := RXT) (T := TXT) (N := 10) hx hb hts hinXT tyXT tyXT_ok nXT hown hK hP hD hS 0 rfl rfl 2 (by decide) (hts _ wd_75) (fun _ h9 => h9) rfl (by decide +kernel) rfl rfl (Nat.le_of_ble_eq_true rfl) dXT_findSplits_65 (fun H locs hP hD hS => ?_)
              have hP : va_P D vwCl (wT q cA N nr (upd ss sc.toNatClampNeg x2) (sc + 1) ns nc ps dg pn pj wh) H := hP
              have hD : va_D A (wT q cA N nr (upd ss sc.toNatClampNeg x2) (sc + 1) ns nc ps dg pn pj wh) := hD
              refine lv_iinc (v := (x2 + 1)) (lv' := [(2, .int (x2 + 1)), (0, .ref (q 5)), (1, .int x1)]) hx hb dXT_findSplits_68 hl (k := 2) rfl rfl (by decide) rfl (fun ls hl => ?_)
              refine lv_goto (tgt := 19) hx hb dXT_findSplits_71 (by decide) ?_
              exact ih1 x1 (x2 + 1) (upd ss sc.toNatClampNeg x2) (sc + 1) _ _ H locs ls hm hP hD hS (lv_sub hl [1, 2, 0] rfl)
  exact (key n).1 ss sc ss_1 sc_1 s.heap [] ls hm hP hD va_S.rf hl
set_option maxHeartbeats 4000000 in
set_option maxRecDepth 100000 in
theorem cT_isStrong (l : Launch) (D : va_G) (q : Nat → Nat) (cA : ClassId) (N : Nat) (sz : Nat) (nr : Nat → Int32) (ss : Nat → Int32) (sc : Int32) (ns : Nat → Int32) (nc : Int32) (ps : Nat → Int32) (dg : Nat → Int32) (pn : Int32) (pj : Int32) (wh : Int32) (a1 : Int32) (n : Nat) (r : Int32) (hm : mT_isStrong N ss sc n 0 [a1] = some r) : Met l yXT_isStrong wsXT_isStrong ({ frames := 0, cells := 0, slots := 0, locals := 0 }) (kPc D cA [.ref (q 5), .int a1] (wT q cA N nr ss sc ns nc ps dg pn pj wh) sz) (kQi D cA kB (va_A (wT q cA N nr ss sc ns nc ps dg pn pj wh) sz) (wT q cA N nr ss sc ns nc ps dg pn pj wh) r) 0 0 (va_A (wT q cA N nr ss sc ns nc ps dg pn pj wh) sz) := by
  refine k_met (D := D) (cA := cA) (w := (wT q cA N nr ss sc ns nc ps dg pn pj wh)) (sz := sz) (av := [.ref (q 5), .int a1]) (cc := cXT_isStrong) (maxL := 4) (ret := (some .boolean)) (Qc := fun A => kQi D cA kB A (wT q cA N nr ss sc ns nc ps dg pn pj wh) r) (by decide) rfl (Nat.le_of_ble_eq_true rfl) ?_
  intro p e s m below meth c A ls hX hK hN hA hP hD hl
  obtain ⟨hx, hb, hr, hml, hown, hts, hlocks, -⟩ := hX
  have hown : s.vm.findClass RXT = some m.cls := hown
  have hl : lv_has ls 4 [(0, .ref (q 5)), (1, .int a1)] := hl
  have hts : ∀ w ∈ W0, w.before _ s = true := fun w h => hts w (List.mem_cons_of_mem _ h)
  have key : ∀ n : Nat, (∀ (x1 : Int32) (r : Int32) (H : Heap) (locs : List Loc) (ls : Array Slot), mT_isStrong N ss sc n 0 [x1] = some r → va_P D vwCl (wT q cA N nr ss sc ns nc ps dg pn pj wh) H → va_D A (wT q cA N nr ss sc ns nc ps dg pn pj wh) → va_S A s.heap H locs → lv_has ls 4 [(0, .ref (q 5)), (1, .int x1)] → W p l e ({ frames := 0, cells := 0, slots := 0, locals := 0 }) s m ([.ref (q 5), .int a1] : List Value).toArray below meth c H locs 0 0 (MQ below (kQi D cA kB A (wT q cA N nr ss sc ns nc ps dg pn pj wh) r) ([.ref (q 5), .int a1] : List Value).toArray s 0 0 A) (F0 m 0 ls [])) ∧
    (∀ (x1 x2 : Int32) (r : Int32) (H : Heap) (locs : List Loc) (ls : Array Slot), mT_isStrong N ss sc n 1 [x1, x2] = some r → va_P D vwCl (wT q cA N nr ss sc ns nc ps dg pn pj wh) H → va_D A (wT q cA N nr ss sc ns nc ps dg pn pj wh) → va_S A s.heap H locs → lv_has ls 4 [(0, .ref (q 5)), (1, .int x1), (2, .int x2)] → W p l e ({ frames := 0, cells := 0, slots := 0, locals := 0 }) s m ([.ref (q 5), .int a1] : List Value).toArray below meth c H locs 0 0 (MQ below (kQi D cA kB A (wT q cA N nr ss sc ns nc ps dg pn pj wh) r) ([.ref (q 5), .int a1] : List Value).toArray s 0 0 A) (F0 m 2 ls [])) := by
    intro n
    induction n with
    | zero => exact ⟨(by intros; rename_i h _ _ _ _; rw [mT_isStrong_z] at h; cases h), (by intros; rename_i h _ _ _ _; rw [mT_isStrong_z] at h; cases h)⟩
    | succ n ih =>
      obtain ⟨ih0, ih1⟩ := ih
      refine ⟨?_, ?_⟩
      · intro x1 r H locs ls hm hP hD hS hl
        rw [mT_isStrong_e0] at hm
        refine lv_iconst (v := 0) hx hb dXT_isStrong_0 (by decide) ?_
        refine lv_istore_n (lv' := [(2, .int 0), (0, .ref (q 5)), (1, .int x1)]) hx hb dXT_isStrong_1 rfl hl (by decide) rfl (fun ls hl => ?_)
        exact ih1 x1 0 _ H locs ls hm hP hD hS (lv_sub hl [1, 2, 0] rfl)
      · intro x1 x2 r H locs ls hm hP hD hS hl
        rw [mT_isStrong_e1] at hm
        refine lv_iload_n hx hb dXT_isStrong_2 rfl (lv_at hl 2 rfl) ?_
        refine lv_aload_n hx hb dXT_isStrong_3 rfl (lv_at hl 0 rfl) ?_
        refine va_get (D := D) (ci := 3) (v := .int sc) (C := RXT) (T := TXT) (N := 10) hx hb hts hinXT hown hK hP 0 rfl rfl 2 (by decide) (hts _ wd_75) (fun _ h9 => h9) rfl dXT_isStrong_4 ?_
        refine lv_icmp_ge (tgt := 47) hx hb dXT_isStrong_7 (by decide) (fun c111 => ?_) (fun c111 => ?_)
        · rw [if_pos c111] at hm
          refine lv_iconst (v := 1) hx hb dXT_isStrong_47 (by decide) ?_
          cases hm
          exact k_zret hx hb hr hlocks hK hP hD hS (Or.inr rfl) dXT_isStrong_48
        · rw [if_neg c111] at hm
          refine lv_aload_n hx hb dXT_isStrong_10 rfl (lv_at hl 0 rfl) ?_
          refine va_get (D := D) (ci := 3) (v := .ref (q 6)) (C := RXT) (T := TXT) (N := 10) hx hb hts hinXT hown hK hP 0 rfl rfl 1 (by decide) (hts _ wd_74) (fun _ h9 => h9) rfl dXT_isStrong_11 ?_
          refine lv_iload_n hx hb dXT_isStrong_14 rfl (lv_at hl 2 rfl) ?_
          obtain ⟨hg112, hm⟩ := kg_s hm
          refine va_iald hx hb hK hP 1 0 rfl rfl hg112 dXT_isStrong_15 ?_
          refine lv_topi (fun x3_113 ex3_113 => ?_)
          have hm := kl_s ex3_113 hm
          refine lv_istore_n (lv' := [(3, .int x3_113), (0, .ref (q 5)), (1, .int x1), (2, .int x2)]) hx hb dXT_isStrong_16 rfl hl (by decide) rfl (fun ls hl => ?_)
          refine lv_iload_n hx hb dXT_isStrong_17 rfl (lv_at hl 2 rfl) ?_
          refine lv_iload_n hx hb dXT_isStrong_18 rfl (lv_at hl 0 rfl) ?_
          refine lv_iand hx hb dXT_isStrong_19 ?_
          refine lv_if_eq (tgt := 41) hx hb dXT_isStrong_20 (by decide) (fun c114 => ?_) (fun c114 => ?_)
          · rw [if_pos c114] at hm
            refine lv_iinc (v := (x2 + 1)) (lv' := [(2, .int (x2 + 1)), (3, .int x3_113), (0, .ref (q 5)), (1, .int x1)]) hx hb dXT_isStrong_41 hl (k := 3) rfl rfl (by decide) rfl (fun ls hl => ?_)
            refine lv_goto (tgt := 2) hx hb dXT_isStrong_44 (by decide) ?_
            exact ih1 x1 (x2 + 1) _ H locs ls hm hP hD hS (lv_sub hl [2, 3, 0] rfl)
          · rw [if_neg c114] at hm
            refine lv_iload_n hx hb dXT_isStrong_23 rfl (lv_at hl 2 rfl) ?_
            refine lv_iload_n hx hb dXT_isStrong_24 rfl (lv_at hl 0 rfl) ?_
            refine lv_iconst (v := (-1)) hx hb dXT_isStrong_25 (by decide) ?_
            refine lv_ixor hx hb dXT_isStrong_26 ?_
            refine lv_iand hx hb dXT_isStrong_27 ?_
            refine lv_if_eq (tgt := 41) hx hb dXT_isStrong_28 (by decide) (fun c115 => ?_) (fun c115 => ?_)
            · rw [if_pos c115] at hm
              refine lv_iinc (v := (x2 + 1)) (lv' := [(2, .int (x2 + 1)), (3, .int x3_113), (0, .ref (q 5)), (1, .int x1)]) hx hb dXT_isStrong_41 hl (k := 3) rfl rfl (by decide) rfl (fun ls hl => ?_)
              refine lv_goto (tgt := 2) hx hb dXT_isStrong_44 (by decide) ?_
              exact ih1 x1 (x2 + 1) _ H locs ls hm hP hD hS (lv_sub hl [2, 3, 0] rfl)
            · rw [if_neg c115] at hm
              refine lv_iload_n hx hb dXT_isStrong_31 rfl (lv_at hl 0 rfl) ?_
              refine lv_iload_n hx hb dXT_isStrong_32 rfl (lv_at hl 2 rfl) ?_
              refine lv_iconst (v := (-1)) hx hb dXT_isStrong_33 (by decide) ?_
              refine lv_ixor hx hb dXT_isStrong_34 ?_
              refine lv_iand hx hb dXT_isStrong_35 ?_
              refine lv_if_eq (tgt := 41) hx hb dXT_isStrong_36 (by decide) (fun c116 => ?_) (fun c116 => ?_)
              · rw [if_pos c116] at hm
                refine lv_iinc (v := (x2 + 1)) (lv' := [(2, .int (x2 + 1)), (3, .int x3_113), (0, .ref (q 5)), (1, .int x1)]) hx hb dXT_isStrong_41 hl (k := 3) rfl rfl (by decide) rfl (fun ls hl => ?_)
                refine lv_goto (tgt := 2) hx hb dXT_isStrong_44 (by decide) ?_
                exact ih1 x1 (x2 + 1) _ H locs ls hm hP hD hS (lv_sub hl [2, 3, 0] rfl)
              · rw [if_neg c116] at hm
                refine lv_iconst (v := 0) hx hb dXT_isStrong_39 (by decide) ?_
                cases hm
                exact k_zret hx hb hr hlocks hK hP hD hS (Or.inl rfl) dXT_isStrong_40
  exact (key n).1 a1 r s.heap [] ls hm hP hD va_S.rf hl
set_option maxHeartbeats 4000000 in
set_option maxRecDepth 100000 in
theorem cT_findNodes (l : Launch) (D : va_G) (q : Nat → Nat) (cA : ClassId) (N : Nat) (sz : Nat) (nr : Nat → Int32) (ss : Nat → Int32) (sc : Int32) (ns : Nat → Int32) (nc : Int32) (ps : Nat → Int32) (dg : Nat → Int32) (pn : Int32) (pj : Int32) (wh : Int32) (n : Nat) (ns_1 : Nat → Int32) (nc_1 : Int32) (hm : mT_findNodes N ss sc wh n 0 [] ns nc = some (ns_1, nc_1)) : Met l yXT_findNodes wsXT_findNodes ({ frames := 1, cells := 0, slots := 0, locals := 23 }) (kPc D cA [.ref (q 5)] (wT q cA N nr ss sc ns nc ps dg pn pj wh) sz) (kQv D cA (va_A (wT q cA N nr ss sc ns nc ps dg pn pj wh) sz) (wT q cA N nr ss sc ns_1 nc_1 ps dg pn pj wh)) 0 0 (va_A (wT q cA N nr ss sc ns nc ps dg pn pj wh) sz) := by
  refine k_met (D := D) (cA := cA) (w := (wT q cA N nr ss sc ns nc ps dg pn pj wh)) (sz := sz) (av := [.ref (q 5)]) (cc := cXT_findNodes) (maxL := 2) (ret := none) (Qc := fun A => kQv D cA A (wT q cA N nr ss sc ns_1 nc_1 ps dg pn pj wh)) (by decide) rfl (Nat.le_of_ble_eq_true rfl) ?_
  intro p e s m below meth c A ls hX hK hN hA hP hD hl
  obtain ⟨hx, hb, hr, hml, hown, hts, hlocks, -⟩ := hX
  have hown : s.vm.findClass RXT = some m.cls := hown
  have hl : lv_has ls 2 [(0, .ref (q 5))] := hl
  have hts : ∀ w ∈ W0, w.before _ s = true := fun w h => hts w (List.mem_cons_of_mem _ h)
  have key : ∀ n : Nat, (∀ (ns : Nat → Int32) (nc : Int32) (ns_1 : Nat → Int32) (nc_1 : Int32) (H : Heap) (locs : List Loc) (ls : Array Slot), mT_findNodes N ss sc wh n 0 [] ns nc = some (ns_1, nc_1) → va_P D vwCl (wT q cA N nr ss sc ns nc ps dg pn pj wh) H → va_D A (wT q cA N nr ss sc ns nc ps dg pn pj wh) → va_S A s.heap H locs → lv_has ls 2 [(0, .ref (q 5))] → W p l e ({ frames := 1, cells := 0, slots := 0, locals := 23 }) s m ([.ref (q 5)] : List Value).toArray below meth c H locs 0 0 (MQ below (kQv D cA A (wT q cA N nr ss sc ns_1 nc_1 ps dg pn pj wh)) ([.ref (q 5)] : List Value).toArray s 0 0 A) (F0 m 0 ls [])) ∧
    (∀ (x1 : Int32) (ns : Nat → Int32) (nc : Int32) (ns_1 : Nat → Int32) (nc_1 : Int32) (H : Heap) (locs : List Loc) (ls : Array Slot), mT_findNodes N ss sc wh n 1 [x1] ns nc = some (ns_1, nc_1) → va_P D vwCl (wT q cA N nr ss sc ns nc ps dg pn pj wh) H → va_D A (wT q cA N nr ss sc ns nc ps dg pn pj wh) → va_S A s.heap H locs → lv_has ls 2 [(0, .ref (q 5)), (1, .int x1)] → W p l e ({ frames := 1, cells := 0, slots := 0, locals := 23 }) s m ([.ref (q 5)] : List Value).toArray below meth c H locs 0 0 (MQ below (kQv D cA A (wT q cA N nr ss sc ns_1 nc_1 ps dg pn pj wh)) ([.ref (q 5)] : List Value).toArray s 0 0 A) (F0 m 17 ls [])) := by
    intro n
    induction n with
    | zero => exact ⟨(by intros; rename_i h _ _ _ _; rw [mT_findNodes_z] at h; cases h), (by intros; rename_i h _ _ _ _; rw [mT_findNodes_z] at h; cases h)⟩
    | succ n ih =>
      obtain ⟨ih0, ih1⟩ := ih
      refine ⟨?_, ?_⟩
      · intro ns nc ns_1 nc_1 H locs ls hm hP hD hS hl
        rw [mT_findNodes_e0] at hm
        refine lv_aload_n hx hb dXT_findNodes_0 rfl (lv_at hl 0 rfl) ?_
        refine va_get (D := D) (ci := 3) (v := .ref (q 7)) (C := RXT) (T := TXT) (N := 10) hx hb hts hinXT hown hK hP 0 rfl rfl 3 (by decide) (hts _ wd_76) (fun _ h9 => h9) rfl dXT_findNodes_1 ?_
        refine lv_iconst (v := 0) hx hb dXT_findNodes_4 (by decide) ?_
        refine lv_aload_n hx hb dXT_findNodes_5 rfl (lv_at hl 0 rfl) ?_
        refine va_get (D := D) (ci := 3) (v := .int wh) (C := RXT) (T := TXT) (N := 10) hx hb hts hinXT hown hK hP 0 rfl rfl 9 (by decide) (hts _ wd_82) (fun _ h9 => h9) rfl dXT_findNodes_6 ?_
        obtain ⟨hg11, hm⟩ := kg_s hm
        refine va_iast hx hb hK hP hD hS 2 0 rfl rfl hg11 dXT_findNodes_9 (fun H locs hP hD hS => ?_)
        have hP : va_P D vwCl (wT q cA N nr ss sc (upd ns (0 : Int32).toNatClampNeg wh) nc ps dg pn pj wh) H := hP
        have hD : va_D A (wT q cA N nr ss sc (upd ns (0 : Int32).toNatClampNeg wh) nc ps dg pn pj wh) := hD
        refine lv_aload_n hx hb dXT_findNodes_10 rfl (lv_at hl 0 rfl) ?_
        refine lv_iconst (v := 1) hx hb dXT_findNodes_11 (by decide) ?_
        refine va_put (D := D) (ci := 3) (v := .int 1) (ty := .int) (C := RXT) (T := TXT) (N := 10) hx hb hts hinXT tyXT tyXT_ok nXT hown hK hP hD hS 0 rfl rfl 4 (by decide) (hts _ wd_77) (fun _ h9 => h9) rfl (by decide +kernel) rfl rfl (Nat.le_of_ble_eq_true rfl) dXT_findNodes_12 (fun H locs hP hD hS => ?_)
        have hP : va_P D vwCl (wT q cA N nr ss sc (upd ns (0 : Int32).toNatClampNeg wh) 1 ps dg pn pj wh) H := hP
        have hD : va_D A (wT q cA N nr ss sc (upd ns (0 : Int32).toNatClampNeg wh) 1 ps dg pn pj wh) := hD
        refine lv_iconst (v := 0) hx hb dXT_findNodes_15 (by decide) ?_
        refine lv_istore_n (lv' := [(1, .int 0), (0, .ref (q 5))]) hx hb dXT_findNodes_16 rfl hl (by decide) rfl (fun ls hl => ?_)
        exact ih1 0 (upd ns (0 : Int32).toNatClampNeg wh) 1 _ _ H locs ls hm hP hD hS (lv_sub hl [1, 0] rfl)
      · intro x1 ns nc ns_1 nc_1 H locs ls hm hP hD hS hl
        rw [mT_findNodes_e1] at hm
        refine lv_iload_n hx hb dXT_findNodes_17 rfl (lv_at hl 1 rfl) ?_
        refine lv_aload_n hx hb dXT_findNodes_18 rfl (lv_at hl 0 rfl) ?_
        refine va_get (D := D) (ci := 3) (v := .int sc) (C := RXT) (T := TXT) (N := 10) hx hb hts hinXT hown hK hP 0 rfl rfl 2 (by decide) (hts _ wd_75) (fun _ h9 => h9) rfl dXT_findNodes_19 ?_
        refine lv_icmp_ge (tgt := 69) hx hb dXT_findNodes_22 (by decide) (fun c111 => ?_) (fun c111 => ?_)
        · rw [if_pos c111] at hm
          cases hm
          exact k_vret hx hb hr hlocks hK hP hD hS dXT_findNodes_69
        · rw [if_neg c111] at hm
          refine lv_aload_n hx hb dXT_findNodes_25 rfl (lv_at hl 0 rfl) ?_
          refine lv_aload_n hx hb dXT_findNodes_26 rfl (lv_at hl 0 rfl) ?_
          refine va_get (D := D) (ci := 3) (v := .ref (q 6)) (C := RXT) (T := TXT) (N := 10) hx hb hts hinXT hown hK hP 0 rfl rfl 1 (by decide) (hts _ wd_74) (fun _ h9 => h9) rfl dXT_findNodes_27 ?_
          refine lv_iload_n hx hb dXT_findNodes_30 rfl (lv_at hl 1 rfl) ?_
          obtain ⟨hg112, hm⟩ := kg_s hm
          refine va_iald hx hb hK hP 1 0 rfl rfl hg112 dXT_findNodes_31 ?_
          obtain ⟨r113, hm113, hm⟩ := kb_s hm
          refine k_vi (As := [.int (ss x1.toNatClampNeg)]) (rest := []) (w2 := (wT q cA N nr ss sc ns nc ps dg pn pj wh)) ⟨hx, hb, hml, hown, hts⟩ (cT_isStrong l D q cA N H.size nr ss sc ns nc ps dg pn pj wh (ss x1.toNatClampNeg) n r113 hm113) (cwV 1 hts (gV wd_206 wd_207 wd_6 wd_38 wd_208) rfl rfl rfl (by decide +kernel) ⟨Nat.le_of_ble_eq_true rfl, Nat.le_of_ble_eq_true rfl⟩) hK hN hP hD hS hA [0, 1, 2, 3, 4, 5, 6] [] [0, 1, 2, 3, 4, 5, 6] ⟨rfl, rfl, by decide, rfl, by decide, by decide, rfl, rfl, by decide⟩ (va_recv hK hP (ci := 3) (q0 := 0) rfl rfl) rfl hl.1 rfl (Nat.le_of_ble_eq_true rfl) dXT_findNodes_32 ⟨Nat.le_of_ble_eq_true rfl, Nat.le_of_ble_eq_true rfl⟩ (fun hz113 H locs hP hD hS => ?_)
          refine lv_if_eq (tgt := 63) hx hb dXT_findNodes_35 (by decide) (fun c114 => ?_) (fun c114 => ?_)
          · rw [if_pos c114] at hm
            refine lv_iinc (v := (x1 + 1)) (lv' := [(1, .int (x1 + 1)), (0, .ref (q 5))]) hx hb dXT_findNodes_63 hl (k := 1) rfl rfl (by decide) rfl (fun ls hl => ?_)
            refine lv_goto (tgt := 17) hx hb dXT_findNodes_66 (by decide) ?_
            exact ih1 (x1 + 1) ns nc _ _ H locs ls hm hP hD hS (lv_sub hl [1, 0] rfl)
          · rw [if_neg c114] at hm
            refine lv_aload_n hx hb dXT_findNodes_38 rfl (lv_at hl 0 rfl) ?_
            refine va_get (D := D) (ci := 3) (v := .ref (q 7)) (C := RXT) (T := TXT) (N := 10) hx hb hts hinXT hown hK hP 0 rfl rfl 3 (by decide) (hts _ wd_76) (fun _ h9 => h9) rfl dXT_findNodes_39 ?_
            refine lv_aload_n hx hb dXT_findNodes_42 rfl (lv_at hl 0 rfl) ?_
            refine va_get (D := D) (ci := 3) (v := .int nc) (C := RXT) (T := TXT) (N := 10) hx hb hts hinXT hown hK hP 0 rfl rfl 4 (by decide) (hts _ wd_77) (fun _ h9 => h9) rfl dXT_findNodes_43 ?_
            refine lv_aload_n hx hb dXT_findNodes_46 rfl (lv_at hl 0 rfl) ?_
            refine va_get (D := D) (ci := 3) (v := .ref (q 6)) (C := RXT) (T := TXT) (N := 10) hx hb hts hinXT hown hK hP 0 rfl rfl 1 (by decide) (hts _ wd_74) (fun _ h9 => h9) rfl dXT_findNodes_47 ?_
            refine lv_iload_n hx hb dXT_findNodes_50 rfl (lv_at hl 1 rfl) ?_
            obtain ⟨hg115, hm⟩ := kg_s hm
            refine va_iald hx hb hK hP 1 0 rfl rfl hg115 dXT_findNodes_51 ?_
            obtain ⟨hg116, hm⟩ := kg_s hm
            refine va_iast hx hb hK hP hD hS 2 0 rfl rfl hg116 dXT_findNodes_52 (fun H locs hP hD hS => ?_)
            have hP : va_P D vwCl (wT q cA N nr ss sc (upd ns nc.toNatClampNeg (ss x1.toNatClampNeg)) nc ps dg pn pj wh) H := hP
            have hD : va_D A (wT q cA N nr ss sc (upd ns nc.toNatClampNeg (ss x1.toNatClampNeg)) nc ps dg pn pj wh) := hD
            refine lv_aload_n hx hb dXT_findNodes_53 rfl (lv_at hl 0 rfl) ?_
            refine lv_dup hx hb dXT_findNodes_54 rfl ?_
            refine va_get (D := D) (ci := 3) (v := .int nc) (C := RXT) (T := TXT) (N := 10) hx hb hts hinXT hown hK hP 0 rfl rfl 4 (by decide) (hts _ wd_77) (fun _ h9 => h9) rfl dXT_findNodes_55 ?_
            refine lv_iconst (v := 1) hx hb dXT_findNodes_58 (by decide) ?_
            refine lv_iadd hx hb dXT_findNodes_59 ?_
            refine va_put (D := D) (ci := 3) (v := .int (nc + 1)) (ty := .int) (C := RXT) (T := TXT) (N := 10) hx hb hts hinXT tyXT tyXT_ok nXT hown hK hP hD hS 0 rfl rfl 4 (by decide) (hts _ wd_77) (fun _ h9 => h9) rfl (by decide +kernel) rfl rfl (Nat.le_of_ble_eq_true rfl) dXT_findNodes_60 (fun H locs hP hD hS => ?_)
            have hP : va_P D vwCl (wT q cA N nr ss sc (upd ns nc.toNatClampNeg (ss x1.toNatClampNeg)) (nc + 1) ps dg pn pj wh) H := hP
            have hD : va_D A (wT q cA N nr ss sc (upd ns nc.toNatClampNeg (ss x1.toNatClampNeg)) (nc + 1) ps dg pn pj wh) := hD
            refine lv_iinc (v := (x1 + 1)) (lv' := [(1, .int (x1 + 1)), (0, .ref (q 5))]) hx hb dXT_findNodes_63 hl (k := 1) rfl rfl (by decide) rfl (fun ls hl => ?_)
            refine lv_goto (tgt := 17) hx hb dXT_findNodes_66 (by decide) ?_
            exact ih1 (x1 + 1) (upd ns nc.toNatClampNeg (ss x1.toNatClampNeg)) (nc + 1) _ _ H locs ls hm hP hD hS (lv_sub hl [1, 0] rfl)
  exact (key n).1 ns nc ns_1 nc_1 s.heap [] ls hm hP hD va_S.rf hl
set_option maxHeartbeats 4000000 in
set_option maxRecDepth 100000 in
theorem cT_growFor (l : Launch) (D : va_G) (q : Nat → Nat) (cA : ClassId) (N : Nat) (sz : Nat) (nr : Nat → Int32) (ss : Nat → Int32) (sc : Int32) (ns : Nat → Int32) (nc : Int32) (ps : Nat → Int32) (dg : Nat → Int32) (pn : Int32) (pj : Int32) (wh : Int32) (a1 : Int32) (n : Nat) (ss_1 : Nat → Int32) (sc_1 : Int32) (ns_1 : Nat → Int32) (nc_1 : Int32) (wh_1 : Int32) (hm : mT_growFor N nr n 0 [a1] ss sc ns nc wh = some (ss_1, sc_1, ns_1, nc_1, wh_1)) : Met l yXT_growFor wsXT_growFor ({ frames := 3, cells := 0, slots := 0, locals := 69 }) (kPc D cA [.ref (q 5), .int a1] (wT q cA N nr ss sc ns nc ps dg pn pj wh) sz) (kQv D cA (va_A (wT q cA N nr ss sc ns nc ps dg pn pj wh) sz) (wT q cA N nr ss_1 sc_1 ns_1 nc_1 ps dg pn pj wh_1)) 0 0 (va_A (wT q cA N nr ss sc ns nc ps dg pn pj wh) sz) := by
  refine k_met (D := D) (cA := cA) (w := (wT q cA N nr ss sc ns nc ps dg pn pj wh)) (sz := sz) (av := [.ref (q 5), .int a1]) (cc := cXT_growFor) (maxL := 2) (ret := none) (Qc := fun A => kQv D cA A (wT q cA N nr ss_1 sc_1 ns_1 nc_1 ps dg pn pj wh_1)) (by decide) rfl (Nat.le_of_ble_eq_true rfl) ?_
  intro p e s m below meth c A ls hX hK hN hA hP hD hl
  obtain ⟨hx, hb, hr, hml, hown, hts, hlocks, -⟩ := hX
  have hown : s.vm.findClass RXT = some m.cls := hown
  have hl : lv_has ls 2 [(0, .ref (q 5)), (1, .int a1)] := hl
  have hts : ∀ w ∈ W0, w.before _ s = true := fun w h => hts w (List.mem_cons_of_mem _ h)
  have key : ∀ n : Nat, (∀ (x1 : Int32) (ss : Nat → Int32) (sc : Int32) (ns : Nat → Int32) (nc : Int32) (wh : Int32) (ss_1 : Nat → Int32) (sc_1 : Int32) (ns_1 : Nat → Int32) (nc_1 : Int32) (wh_1 : Int32) (H : Heap) (locs : List Loc) (ls : Array Slot), mT_growFor N nr n 0 [x1] ss sc ns nc wh = some (ss_1, sc_1, ns_1, nc_1, wh_1) → va_P D vwCl (wT q cA N nr ss sc ns nc ps dg pn pj wh) H → va_D A (wT q cA N nr ss sc ns nc ps dg pn pj wh) → va_S A s.heap H locs → lv_has ls 2 [(0, .ref (q 5)), (1, .int x1)] → W p l e ({ frames := 3, cells := 0, slots := 0, locals := 69 }) s m ([.ref (q 5), .int a1] : List Value).toArray below meth c H locs 0 0 (MQ below (kQv D cA A (wT q cA N nr ss_1 sc_1 ns_1 nc_1 ps dg pn pj wh_1)) ([.ref (q 5), .int a1] : List Value).toArray s 0 0 A) (F0 m 0 ls [])) := by
    intro n
    induction n with
    | zero => exact (by intros; rename_i h _ _ _ _; rw [mT_growFor_z] at h; cases h)
    | succ n ih =>
      have ih0 := ih
      intro x1 ss sc ns nc wh ss_1 sc_1 ns_1 nc_1 wh_1 H locs ls hm hP hD hS hl
      rw [mT_growFor_e0] at hm
      refine lv_aload_n hx hb dXT_growFor_0 rfl (lv_at hl 0 rfl) ?_
      refine va_get (D := D) (ci := 3) (v := .int wh) (C := RXT) (T := TXT) (N := 10) hx hb hts hinXT hown hK hP 0 rfl rfl 9 (by decide) (hts _ wd_82) (fun _ h9 => h9) rfl dXT_growFor_1 ?_
      refine lv_iload_n hx hb dXT_growFor_4 rfl (lv_at hl 1 rfl) ?_
      refine lv_icmp_eq (tgt := 21) hx hb dXT_growFor_5 (by decide) (fun c11 => ?_) (fun c11 => ?_)
      · rw [if_pos c11] at hm
        cases hm
        exact k_vret hx hb hr hlocks hK hP hD hS dXT_growFor_21
      · rw [if_neg c11] at hm
        refine lv_aload_n hx hb dXT_growFor_8 rfl (lv_at hl 0 rfl) ?_
        refine lv_iload_n hx hb dXT_growFor_9 rfl (lv_at hl 1 rfl) ?_
        refine va_put (D := D) (ci := 3) (v := .int x1) (ty := .int) (C := RXT) (T := TXT) (N := 10) hx hb hts hinXT tyXT tyXT_ok nXT hown hK hP hD hS 0 rfl rfl 9 (by decide) (hts _ wd_82) (fun _ h9 => h9) rfl (by decide +kernel) rfl rfl (Nat.le_of_ble_eq_true rfl) dXT_growFor_10 (fun H locs hP hD hS => ?_)
        have hP : va_P D vwCl (wT q cA N nr ss sc ns nc ps dg pn pj x1) H := hP
        have hD : va_D A (wT q cA N nr ss sc ns nc ps dg pn pj x1) := hD
        refine lv_aload_n hx hb dXT_growFor_13 rfl (lv_at hl 0 rfl) ?_
        obtain ⟨⟨ss_12, sc_12⟩, hm12, hm⟩ := kb_s hm
        dsimp only at hm
        refine k_vv (As := []) (rest := []) (w2 := (wT q cA N nr ss_12 sc_12 ns nc ps dg pn pj x1)) ⟨hx, hb, hml, hown, hts⟩ (cT_findSplits l D q cA N H.size nr ss sc ns nc ps dg pn pj x1 n ss_12 sc_12 hm12) (cwV 0 hts (gV wd_187 wd_188 wd_3 wd_38 wd_189) rfl rfl rfl (by decide +kernel) ⟨Nat.le_of_ble_eq_true rfl, Nat.le_of_ble_eq_true rfl⟩) hK hN hP hD hS hA [0, 1, 2, 3, 4, 5, 6] [] [0, 1, 2, 3, 4, 5, 6] ⟨rfl, rfl, by decide, rfl, by decide, by decide, rfl, rfl, by decide⟩ (va_recv hK hP (ci := 3) (q0 := 0) rfl rfl) rfl hl.1 rfl (Nat.le_of_ble_eq_true rfl) dXT_growFor_14 ⟨Nat.le_of_ble_eq_true rfl, Nat.le_of_ble_eq_true rfl⟩ (fun H locs hP hD hS => ?_)
        refine lv_aload_n hx hb dXT_growFor_17 rfl (lv_at hl 0 rfl) ?_
        obtain ⟨⟨ns_13, nc_13⟩, hm13, hm⟩ := kb_s hm
        dsimp only at hm
        refine k_vv (As := []) (rest := []) (w2 := (wT q cA N nr ss_12 sc_12 ns_13 nc_13 ps dg pn pj x1)) ⟨hx, hb, hml, hown, hts⟩ (cT_findNodes l D q cA N H.size nr ss_12 sc_12 ns nc ps dg pn pj x1 n ns_13 nc_13 hm13) (cwV 0 hts (gV wd_203 wd_204 wd_5 wd_38 wd_205) rfl rfl rfl (by decide +kernel) ⟨Nat.le_of_ble_eq_true rfl, Nat.le_of_ble_eq_true rfl⟩) hK hN hP hD hS hA [0, 1, 2, 3, 4, 5, 6] [] [0, 1, 2, 3, 4, 5, 6] ⟨rfl, rfl, by decide, rfl, by decide, by decide, rfl, rfl, by decide⟩ (va_recv hK hP (ci := 3) (q0 := 0) rfl rfl) rfl hl.1 rfl (Nat.le_of_ble_eq_true rfl) dXT_growFor_18 ⟨Nat.le_of_ble_eq_true rfl, Nat.le_of_ble_eq_true rfl⟩ (fun H locs hP hD hS => ?_)
        cases hm
        exact k_vret hx hb hr hlocks hK hP hD hS dXT_growFor_21
  exact key n a1 ss sc ns nc wh ss_1 sc_1 ns_1 nc_1 wh_1 s.heap [] ls hm hP hD va_S.rf hl
set_option maxHeartbeats 4000000 in
set_option maxRecDepth 100000 in
theorem cT_splitCount (l : Launch) (D : va_G) (q : Nat → Nat) (cA : ClassId) (N : Nat) (sz : Nat) (nr : Nat → Int32) (ss : Nat → Int32) (sc : Int32) (ns : Nat → Int32) (nc : Int32) (ps : Nat → Int32) (dg : Nat → Int32) (pn : Int32) (pj : Int32) (wh : Int32) (n : Nat) (r : Int32) (hm : mT_splitCount N sc n 0 [] = some r) : Met l yXT_splitCount wsXT_splitCount ({ frames := 0, cells := 0, slots := 0, locals := 0 }) (kPc D cA [.ref (q 5)] (wT q cA N nr ss sc ns nc ps dg pn pj wh) sz) (kQi D cA kT (va_A (wT q cA N nr ss sc ns nc ps dg pn pj wh) sz) (wT q cA N nr ss sc ns nc ps dg pn pj wh) r) 0 0 (va_A (wT q cA N nr ss sc ns nc ps dg pn pj wh) sz) := by
  refine k_met (D := D) (cA := cA) (w := (wT q cA N nr ss sc ns nc ps dg pn pj wh)) (sz := sz) (av := [.ref (q 5)]) (cc := cXT_splitCount) (maxL := 1) (ret := (some .int)) (Qc := fun A => kQi D cA kT A (wT q cA N nr ss sc ns nc ps dg pn pj wh) r) (by decide) rfl (Nat.le_of_ble_eq_true rfl) ?_
  intro p e s m below meth c A ls hX hK hN hA hP hD hl
  obtain ⟨hx, hb, hr, hml, hown, hts, hlocks, -⟩ := hX
  have hown : s.vm.findClass RXT = some m.cls := hown
  have hl : lv_has ls 1 [(0, .ref (q 5))] := hl
  have hts : ∀ w ∈ W0, w.before _ s = true := fun w h => hts w (List.mem_cons_of_mem _ h)
  have key : ∀ n : Nat, (∀ (r : Int32) (H : Heap) (locs : List Loc) (ls : Array Slot), mT_splitCount N sc n 0 [] = some r → va_P D vwCl (wT q cA N nr ss sc ns nc ps dg pn pj wh) H → va_D A (wT q cA N nr ss sc ns nc ps dg pn pj wh) → va_S A s.heap H locs → lv_has ls 1 [(0, .ref (q 5))] → W p l e ({ frames := 0, cells := 0, slots := 0, locals := 0 }) s m ([.ref (q 5)] : List Value).toArray below meth c H locs 0 0 (MQ below (kQi D cA kT A (wT q cA N nr ss sc ns nc ps dg pn pj wh) r) ([.ref (q 5)] : List Value).toArray s 0 0 A) (F0 m 0 ls [])) := by
    intro n
    induction n with
    | zero => exact (by intros; rename_i h _ _ _ _; rw [mT_splitCount_z] at h; cases h)
    | succ n ih =>
      have ih0 := ih
      intro r H locs ls hm hP hD hS hl
      rw [mT_splitCount_e0] at hm
      refine lv_aload_n hx hb dXT_splitCount_0 rfl (lv_at hl 0 rfl) ?_
      refine va_get (D := D) (ci := 3) (v := .int sc) (C := RXT) (T := TXT) (N := 10) hx hb hts hinXT hown hK hP 0 rfl rfl 2 (by decide) (hts _ wd_75) (fun _ h9 => h9) rfl dXT_splitCount_1 ?_
      cases hm
      exact k_iret hx hb hr hlocks hK hP hD hS trivial dXT_splitCount_4
  exact key n r s.heap [] ls hm hP hD va_S.rf hl
