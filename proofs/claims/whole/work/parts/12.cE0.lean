set_option maxHeartbeats 4000000 in
set_option maxRecDepth 100000 in
theorem cE_stepAt (l : Launch) (D : va_G) (q : Nat → Nat) (cA : ClassId) (N : Nat) (sz : Nat) (nr : Nat → Int32) (st : Nat → Int32) (sn : Int32) (lf : Int32) (a1 : Int32) (n : Nat) (r : Int32) (hm : mE_stepAt N nr lf n 0 [a1] = some r) : Met l yXE_stepAt wsXE_stepAt ({ frames := 1, cells := 0, slots := 0, locals := 24 }) (kPc D cA [.ref (q 3), .int a1] (wE q cA N nr st sn lf) sz) (kQi D cA kT (va_A (wE q cA N nr st sn lf) sz) (wE q cA N nr st sn lf) r) 0 0 (va_A (wE q cA N nr st sn lf) sz) := by
  refine k_met (D := D) (cA := cA) (w := (wE q cA N nr st sn lf)) (sz := sz) (av := [.ref (q 3), .int a1]) (cc := cXE_stepAt) (maxL := 6) (ret := (some .int)) (Qc := fun A => kQi D cA kT A (wE q cA N nr st sn lf) r) (by decide) rfl (Nat.le_of_ble_eq_true rfl) ?_
  intro p e s m below meth c A ls hX hK hN hA hP hD hl
  obtain ⟨hx, hb, hr, hml, hown, hts, hlocks, -⟩ := hX
  have hown : s.vm.findClass RXE = some m.cls := hown
  have hl : lv_has ls 6 [(0, .ref (q 3)), (1, .int a1)] := hl
  have hts : ∀ w ∈ W0, w.before _ s = true := fun w h => hts w (List.mem_cons_of_mem _ h)
  have key : ∀ n : Nat, (∀ (x1 : Int32) (r : Int32) (H : Heap) (locs : List Loc) (ls : Array Slot), mE_stepAt N nr lf n 0 [x1] = some r → va_P D vwCl (wE q cA N nr st sn lf) H → va_D A (wE q cA N nr st sn lf) → va_S A s.heap H locs → lv_has ls 6 [(0, .ref (q 3)), (1, .int x1)] → W p l e ({ frames := 1, cells := 0, slots := 0, locals := 24 }) s m ([.ref (q 3), .int a1] : List Value).toArray below meth c H locs 0 0 (MQ below (kQi D cA kT A (wE q cA N nr st sn lf) r) ([.ref (q 3), .int a1] : List Value).toArray s 0 0 A) (F0 m 0 ls [])) ∧
    (∀ (x1 x2 y0 : Int32) (r : Int32) (H : Heap) (locs : List Loc) (ls : Array Slot), mE_stepAt N nr lf n 1 [x1, x2, y0] = some r → va_P D vwCl (wE q cA N nr st sn lf) H → va_D A (wE q cA N nr st sn lf) → va_S A s.heap H locs → lv_has ls 6 [(0, .ref (q 3)), (1, .int x1), (2, .int x2)] → W p l e ({ frames := 1, cells := 0, slots := 0, locals := 24 }) s m ([.ref (q 3), .int a1] : List Value).toArray below meth c H locs 0 0 (MQ below (kQi D cA kT A (wE q cA N nr st sn lf) r) ([.ref (q 3), .int a1] : List Value).toArray s 0 0 A) (F0 m 26 ls [.int y0])) ∧
    (∀ (x1 x2 x3 x4 : Int32) (r : Int32) (H : Heap) (locs : List Loc) (ls : Array Slot), mE_stepAt N nr lf n 2 [x1, x2, x3, x4] = some r → va_P D vwCl (wE q cA N nr st sn lf) H → va_D A (wE q cA N nr st sn lf) → va_S A s.heap H locs → lv_has ls 6 [(0, .ref (q 3)), (1, .int x1), (2, .int x2), (3, .int x3), (4, .int x4)] → W p l e ({ frames := 1, cells := 0, slots := 0, locals := 24 }) s m ([.ref (q 3), .int a1] : List Value).toArray below meth c H locs 0 0 (MQ below (kQi D cA kT A (wE q cA N nr st sn lf) r) ([.ref (q 3), .int a1] : List Value).toArray s 0 0 A) (F0 m 30 ls [])) ∧
    (∀ (x1 x2 x3 x4 x5 : Int32) (r : Int32) (H : Heap) (locs : List Loc) (ls : Array Slot), mE_stepAt N nr lf n 3 [x1, x2, x3, x4, x5] = some r → va_P D vwCl (wE q cA N nr st sn lf) H → va_D A (wE q cA N nr st sn lf) → va_S A s.heap H locs → lv_has ls 6 [(0, .ref (q 3)), (1, .int x1), (2, .int x2), (3, .int x3), (4, .int x4), (5, .int x5)] → W p l e ({ frames := 1, cells := 0, slots := 0, locals := 24 }) s m ([.ref (q 3), .int a1] : List Value).toArray below meth c H locs 0 0 (MQ below (kQi D cA kT A (wE q cA N nr st sn lf) r) ([.ref (q 3), .int a1] : List Value).toArray s 0 0 A) (F0 m 67 ls [])) := by
    intro n
    induction n with
    | zero => exact ⟨(by intros; rename_i h _ _ _ _; rw [mE_stepAt_z] at h; cases h), (by intros; rename_i h _ _ _ _; rw [mE_stepAt_z] at h; cases h), (by intros; rename_i h _ _ _ _; rw [mE_stepAt_z] at h; cases h), (by intros; rename_i h _ _ _ _; rw [mE_stepAt_z] at h; cases h)⟩
    | succ n ih =>
      obtain ⟨ih0, ih1, ih2, ih3⟩ := ih
      refine ⟨?_, ?_, ?_, ?_⟩
      · intro x1 r H locs ls hm hP hD hS hl
        rw [mE_stepAt_e0] at hm
        refine lv_aload_n hx hb dXE_stepAt_0 rfl (lv_at hl 0 rfl) ?_
        refine va_get (D := D) (ci := 1) (v := .ref (q 10)) (C := RXE) (T := TXE) (N := 4) hx hb hts hinXE hown hK hP 0 rfl rfl 0 (by decide) (hts _ wd_100) (fun _ h9 => h9) rfl dXE_stepAt_1 ?_
        refine lv_iload_n hx hb dXE_stepAt_4 rfl (lv_at hl 1 rfl) ?_
        refine lv_aload_n hx hb dXE_stepAt_5 rfl (lv_at hl 0 rfl) ?_
        refine va_get (D := D) (ci := 1) (v := .int lf) (C := RXE) (T := TXE) (N := 4) hx hb hts hinXE hown hK hP 0 rfl rfl 3 (by decide) (hts _ wd_103) (fun _ h9 => h9) rfl dXE_stepAt_6 ?_
        obtain ⟨r11, hm11, hm⟩ := kb_s hm
        refine k_vi (As := [.int x1, .int lf]) (rest := []) (w2 := (wE q cA N nr st sn lf)) ⟨hx, hb, hml, hown, hts⟩ (cG_nearInside l D q cA N H.size nr x1 lf n r11 hm11) (cwV 2 hts (gV wd_311 wd_200 wd_201 wd_37 wd_202) rfl rfl rfl (by decide +kernel) ⟨Nat.le_of_ble_eq_true rfl, Nat.le_of_ble_eq_true rfl⟩) hK hN hP hD hS hA [2, 3] [0, 1] [0, 1, 2, 3] ⟨rfl, rfl, by decide, rfl, by decide, by decide, rfl, rfl, by decide⟩ (va_recv hK hP (ci := 2) (q0 := 2) rfl rfl) rfl hl.1 rfl (Nat.le_of_ble_eq_true rfl) dXE_stepAt_9 ⟨Nat.le_of_ble_eq_true rfl, Nat.le_of_ble_eq_true rfl⟩ (fun hz11 H locs hP hD hS => ?_)
        refine lv_istore_n (lv' := [(2, .int r11), (0, .ref (q 3)), (1, .int x1)]) hx hb dXE_stepAt_12 rfl hl (by decide) rfl (fun ls hl => ?_)
        refine lv_iload_n hx hb dXE_stepAt_13 rfl (lv_at hl 0 rfl) ?_
        obtain ⟨r12, hm12, hm⟩ := kb_s hm
        refine k_s0 (As := [.int r11]) (rest := []) ⟨hx, hb, hml, hown, hts⟩ (cJ_bitCount l D cA H.size r11 n r12 hm12) ⟨callB_of 1 hts (gC wd_195) rfl rfl rfl (hts _ wd_42) (hts _ wd_312) (by decide +kernel) ⟨Nat.le_of_ble_eq_true rfl, Nat.le_of_ble_eq_true rfl⟩, hts _ wd_194⟩ hK hN hP hD hS hA rfl hl.1 rfl (Nat.le_of_ble_eq_true rfl) dXE_stepAt_14 ⟨Nat.le_of_ble_eq_true rfl, Nat.le_of_ble_eq_true rfl⟩ (fun hz12 H locs hP hD hS => ?_)
        refine lv_iconst (v := 1) hx hb dXE_stepAt_17 (by decide) ?_
        refine lv_icmp_ne (tgt := 25) hx hb dXE_stepAt_18 (by decide) (fun c13 => ?_) (fun c13 => ?_)
        · rw [if_neg c13] at hm
          refine lv_iconst (v := 0) hx hb dXE_stepAt_25 (by decide) ?_
          exact ih1 x1 r11 0 _ H locs ls hm hP hD hS (lv_sub hl [1, 2, 0] rfl)
        · rw [if_pos c13] at hm
          refine lv_iconst (v := 1) hx hb dXE_stepAt_21 (by decide) ?_
          refine lv_goto (tgt := 26) hx hb dXE_stepAt_22 (by decide) ?_
          exact ih1 x1 r11 1 _ H locs ls hm hP hD hS (lv_sub hl [1, 2, 0] rfl)
      · intro x1 x2 y0 r H locs ls hm hP hD hS hl
        rw [mE_stepAt_e1] at hm
        refine lv_istore_n (lv' := [(3, .int y0), (0, .ref (q 3)), (1, .int x1), (2, .int x2)]) hx hb dXE_stepAt_26 rfl hl (by decide) rfl (fun ls hl => ?_)
        refine lv_iconst (v := 0) hx hb dXE_stepAt_27 (by decide) ?_
        refine lv_istore (lv' := [(4, .int 0), (3, .int y0), (0, .ref (q 3)), (1, .int x1), (2, .int x2)]) hx hb dXE_stepAt_28 hl (by decide) rfl (fun ls hl => ?_)
        exact ih2 x1 x2 y0 0 _ H locs ls hm hP hD hS (lv_sub hl [2, 3, 4, 1, 0] rfl)
      · intro x1 x2 x3 x4 r H locs ls hm hP hD hS hl
        rw [mE_stepAt_e2] at hm
        refine lv_iload hx hb dXE_stepAt_30 (lv_at hl 4 rfl) ?_
        refine lv_aload_n hx hb dXE_stepAt_32 rfl (lv_at hl 0 rfl) ?_
        refine va_get (D := D) (ci := 1) (v := .ref (q 10)) (C := RXE) (T := TXE) (N := 4) hx hb hts hinXE hown hK hP 0 rfl rfl 0 (by decide) (hts _ wd_100) (fun _ h9 => h9) rfl dXE_stepAt_33 ?_
        obtain ⟨r211, hm211, hm⟩ := kb_s hm
        refine k_vi (As := []) (rest := [.int x4]) (w2 := (wE q cA N nr st sn lf)) ⟨hx, hb, hml, hown, hts⟩ (cG_size l D q cA N H.size nr n r211 hm211) (cwV 0 hts (gV wd_99 wd_70 wd_71 wd_37 wd_72) rfl rfl rfl (by decide +kernel) ⟨Nat.le_of_ble_eq_true rfl, Nat.le_of_ble_eq_true rfl⟩) hK hN hP hD hS hA [2, 3] [0, 1] [0, 1, 2, 3] ⟨rfl, rfl, by decide, rfl, by decide, by decide, rfl, rfl, by decide⟩ (va_recv hK hP (ci := 2) (q0 := 2) rfl rfl) rfl hl.1 rfl (Nat.le_of_ble_eq_true rfl) dXE_stepAt_36 ⟨Nat.le_of_ble_eq_true rfl, Nat.le_of_ble_eq_true rfl⟩ (fun hz211 H locs hP hD hS => ?_)
        refine lv_icmp_ge (tgt := 135) hx hb dXE_stepAt_39 (by decide) (fun c212 => ?_) (fun c212 => ?_)
        · rw [if_pos c212] at hm
          refine lv_iconst (v := (-1)) hx hb dXE_stepAt_135 (by decide) ?_
          cases hm
          exact k_iret hx hb hr hlocks hK hP hD hS trivial dXE_stepAt_136
        · rw [if_neg c212] at hm
          refine lv_iload_n hx hb dXE_stepAt_42 rfl (lv_at hl 2 rfl) ?_
          refine lv_iload hx hb dXE_stepAt_43 (lv_at hl 4 rfl) ?_
          obtain ⟨r213, hm213, hm⟩ := kb_s hm
          refine k_n0 (As := [.int x2, .int x4]) (rest := []) ⟨hx, hb, hml, hown, hts⟩ (cF_contains l D cA H.size x2 x4 n r213 hm213) ⟨va_cnB 2 hts (gC wd_153) rfl rfl rfl hN.2.2.1 (hts _ wd_36) (by decide +kernel) ⟨Nat.le_of_ble_eq_true rfl, Nat.le_of_ble_eq_true rfl⟩, hts _ wd_152, trivial⟩ hK hN hP hD hS hA rfl hl.1 rfl (Nat.le_of_ble_eq_true rfl) dXE_stepAt_45 ⟨Nat.le_of_ble_eq_true rfl, Nat.le_of_ble_eq_true rfl⟩ (fun hz213 H locs hP hD hS => ?_)
          refine lv_istore (lv' := [(5, .int r213), (0, .ref (q 3)), (1, .int x1), (2, .int x2), (3, .int x3), (4, .int x4)]) hx hb dXE_stepAt_48 hl (by decide) rfl (fun ls hl => ?_)
          refine lv_iload_n hx hb dXE_stepAt_50 rfl (lv_at hl 4 rfl) ?_
          refine lv_if_eq (tgt := 67) hx hb dXE_stepAt_51 (by decide) (fun c214 => ?_) (fun c214 => ?_)
          · rw [if_pos c214] at hm
            exact ih3 x1 x2 x3 x4 r213 _ H locs ls hm hP hD hS (lv_sub hl [1, 2, 3, 4, 5, 0] rfl)
          · rw [if_neg c214] at hm
            refine lv_iload hx hb dXE_stepAt_54 (lv_at hl 0 rfl) ?_
            refine lv_if_eq (tgt := 67) hx hb dXE_stepAt_56 (by decide) (fun c215 => ?_) (fun c215 => ?_)
            · rw [if_pos c215] at hm
              exact ih3 x1 x2 x3 x4 r213 _ H locs ls hm hP hD hS (lv_sub hl [1, 2, 3, 4, 5, 0] rfl)
            · rw [if_neg c215] at hm
              refine lv_iload_n hx hb dXE_stepAt_59 rfl (lv_at hl 2 rfl) ?_
              refine lv_bipush (v := 16) hx hb dXE_stepAt_60 (by decide) ?_
              refine lv_iload hx hb dXE_stepAt_62 (lv_at hl 5 rfl) ?_
              refine lv_imul hx hb dXE_stepAt_64 ?_
              refine lv_iadd hx hb dXE_stepAt_65 ?_
              cases hm
              exact k_iret hx hb hr hlocks hK hP hD hS trivial dXE_stepAt_66
      · intro x1 x2 x3 x4 x5 r H locs ls hm hP hD hS hl
        rw [mE_stepAt_e3] at hm
        refine lv_iload_n hx hb dXE_stepAt_67 rfl (lv_at hl 3 rfl) ?_
        refine lv_if_ne (tgt := 129) hx hb dXE_stepAt_68 (by decide) (fun c311 => ?_) (fun c311 => ?_)
        · rw [if_neg c311] at hm
          refine lv_iinc (v := (x4 + 1)) (lv' := [(4, .int (x4 + 1)), (0, .ref (q 3)), (1, .int x1), (2, .int x2), (3, .int x3), (5, .int x5)]) hx hb dXE_stepAt_129 hl (k := 4) rfl rfl (by decide) rfl (fun ls hl => ?_)
          refine lv_goto (tgt := 30) hx hb dXE_stepAt_132 (by decide) ?_
          exact ih2 x1 x2 x3 (x4 + 1) _ H locs ls hm hP hD hS (lv_sub hl [1, 2, 3, 4, 0] rfl)
        · rw [if_pos c311] at hm
          refine lv_iload hx hb dXE_stepAt_71 (lv_at hl 4 rfl) ?_
          refine lv_iload_n hx hb dXE_stepAt_73 rfl (lv_at hl 1 rfl) ?_
          refine lv_icmp_eq (tgt := 129) hx hb dXE_stepAt_74 (by decide) (fun c312 => ?_) (fun c312 => ?_)
          · rw [if_pos c312] at hm
            refine lv_iinc (v := (x4 + 1)) (lv' := [(4, .int (x4 + 1)), (0, .ref (q 3)), (1, .int x1), (2, .int x2), (3, .int x3), (5, .int x5)]) hx hb dXE_stepAt_129 hl (k := 4) rfl rfl (by decide) rfl (fun ls hl => ?_)
            refine lv_goto (tgt := 30) hx hb dXE_stepAt_132 (by decide) ?_
            exact ih2 x1 x2 x3 (x4 + 1) _ H locs ls hm hP hD hS (lv_sub hl [1, 2, 3, 4, 0] rfl)
          · rw [if_neg c312] at hm
            refine lv_aload_n hx hb dXE_stepAt_77 rfl (lv_at hl 0 rfl) ?_
            refine va_get (D := D) (ci := 1) (v := .int lf) (C := RXE) (T := TXE) (N := 4) hx hb hts hinXE hown hK hP 0 rfl rfl 3 (by decide) (hts _ wd_103) (fun _ h9 => h9) rfl dXE_stepAt_78 ?_
            refine lv_iload hx hb dXE_stepAt_81 (lv_at hl 4 rfl) ?_
            obtain ⟨r313, hm313, hm⟩ := kb_s hm
            refine k_n0 (As := [.int lf, .int x4]) (rest := []) ⟨hx, hb, hml, hown, hts⟩ (cF_contains l D cA H.size lf x4 n r313 hm313) ⟨va_cnB 2 hts (gC wd_153) rfl rfl rfl hN.2.2.1 (hts _ wd_36) (by decide +kernel) ⟨Nat.le_of_ble_eq_true rfl, Nat.le_of_ble_eq_true rfl⟩, hts _ wd_152, trivial⟩ hK hN hP hD hS hA rfl hl.1 rfl (Nat.le_of_ble_eq_true rfl) dXE_stepAt_83 ⟨Nat.le_of_ble_eq_true rfl, Nat.le_of_ble_eq_true rfl⟩ (fun hz313 H locs hP hD hS => ?_)
            refine lv_if_eq (tgt := 129) hx hb dXE_stepAt_86 (by decide) (fun c314 => ?_) (fun c314 => ?_)
            · rw [if_pos c314] at hm
              refine lv_iinc (v := (x4 + 1)) (lv' := [(4, .int (x4 + 1)), (0, .ref (q 3)), (1, .int x1), (2, .int x2), (3, .int x3), (5, .int x5)]) hx hb dXE_stepAt_129 hl (k := 4) rfl rfl (by decide) rfl (fun ls hl => ?_)
              refine lv_goto (tgt := 30) hx hb dXE_stepAt_132 (by decide) ?_
              exact ih2 x1 x2 x3 (x4 + 1) _ H locs ls hm hP hD hS (lv_sub hl [1, 2, 3, 4, 0] rfl)
            · rw [if_neg c314] at hm
              refine lv_aload_n hx hb dXE_stepAt_89 rfl (lv_at hl 0 rfl) ?_
              refine va_get (D := D) (ci := 1) (v := .ref (q 10)) (C := RXE) (T := TXE) (N := 4) hx hb hts hinXE hown hK hP 0 rfl rfl 0 (by decide) (hts _ wd_100) (fun _ h9 => h9) rfl dXE_stepAt_90 ?_
              refine lv_iload_n hx hb dXE_stepAt_93 rfl (lv_at hl 1 rfl) ?_
              refine lv_iload hx hb dXE_stepAt_94 (lv_at hl 4 rfl) ?_
              refine lv_aload_n hx hb dXE_stepAt_96 rfl (lv_at hl 0 rfl) ?_
              refine va_get (D := D) (ci := 1) (v := .int lf) (C := RXE) (T := TXE) (N := 4) hx hb hts hinXE hown hK hP 0 rfl rfl 3 (by decide) (hts _ wd_103) (fun _ h9 => h9) rfl dXE_stepAt_97 ?_
              obtain ⟨r315, hm315, hm⟩ := kb_s hm
              refine k_vi (As := [.int x1, .int x4, .int lf]) (rest := []) (w2 := (wE q cA N nr st sn lf)) ⟨hx, hb, hml, hown, hts⟩ (cG_areTwins l D q cA N H.size nr x1 x4 lf n r315 hm315) (cwV 3 hts (gV wd_313 wd_314 wd_315 wd_37 wd_316) rfl rfl rfl (by decide +kernel) ⟨Nat.le_of_ble_eq_true rfl, Nat.le_of_ble_eq_true rfl⟩) hK hN hP hD hS hA [2, 3] [0, 1] [0, 1, 2, 3] ⟨rfl, rfl, by decide, rfl, by decide, by decide, rfl, rfl, by decide⟩ (va_recv hK hP (ci := 2) (q0 := 2) rfl rfl) rfl hl.1 rfl (Nat.le_of_ble_eq_true rfl) dXE_stepAt_100 ⟨Nat.le_of_ble_eq_true rfl, Nat.le_of_ble_eq_true rfl⟩ (fun hz315 H locs hP hD hS => ?_)
              refine lv_if_eq (tgt := 129) hx hb dXE_stepAt_103 (by decide) (fun c316 => ?_) (fun c316 => ?_)
              · rw [if_pos c316] at hm
                refine lv_iinc (v := (x4 + 1)) (lv' := [(4, .int (x4 + 1)), (0, .ref (q 3)), (1, .int x1), (2, .int x2), (3, .int x3), (5, .int x5)]) hx hb dXE_stepAt_129 hl (k := 4) rfl rfl (by decide) rfl (fun ls hl => ?_)
                refine lv_goto (tgt := 30) hx hb dXE_stepAt_132 (by decide) ?_
                exact ih2 x1 x2 x3 (x4 + 1) _ H locs ls hm hP hD hS (lv_sub hl [1, 2, 3, 4, 0] rfl)
              · rw [if_neg c316] at hm
                refine lv_iload_n hx hb dXE_stepAt_106 rfl (lv_at hl 1 rfl) ?_
                refine lv_bipush (v := 16) hx hb dXE_stepAt_107 (by decide) ?_
                refine lv_iload hx hb dXE_stepAt_109 (lv_at hl 4 rfl) ?_
                refine lv_imul hx hb dXE_stepAt_111 ?_
                refine lv_iadd hx hb dXE_stepAt_112 ?_
                refine lv_iload hx hb dXE_stepAt_113 (lv_at hl 5 rfl) ?_
                refine lv_if_eq (tgt := 124) hx hb dXE_stepAt_115 (by decide) (fun c317 => ?_) (fun c317 => ?_)
                · rw [if_pos c317] at hm
                  refine lv_sipush (v := 256) hx hb dXE_stepAt_124 (by decide) ?_
                  refine lv_iadd hx hb dXE_stepAt_127 ?_
                  cases hm
                  exact k_iret hx hb hr hlocks hK hP hD hS trivial dXE_stepAt_128
                · rw [if_neg c317] at hm
                  refine lv_sipush (v := 512) hx hb dXE_stepAt_118 (by decide) ?_
                  refine lv_goto (tgt := 127) hx hb dXE_stepAt_121 (by decide) ?_
                  refine lv_iadd hx hb dXE_stepAt_127 ?_
                  cases hm
                  exact k_iret hx hb hr hlocks hK hP hD hS trivial dXE_stepAt_128
  exact (key n).1 a1 r s.heap [] ls hm hP hD va_S.rf hl
set_option maxHeartbeats 4000000 in
set_option maxRecDepth 100000 in
theorem cE_nextStep (l : Launch) (D : va_G) (q : Nat → Nat) (cA : ClassId) (N : Nat) (sz : Nat) (nr : Nat → Int32) (st : Nat → Int32) (sn : Int32) (lf : Int32) (n : Nat) (r : Int32) (hm : mE_nextStep N nr lf n 0 [] = some r) : Met l yXE_nextStep wsXE_nextStep ({ frames := 2, cells := 0, slots := 0, locals := 49 }) (kPc D cA [.ref (q 3)] (wE q cA N nr st sn lf) sz) (kQi D cA kT (va_A (wE q cA N nr st sn lf) sz) (wE q cA N nr st sn lf) r) 0 0 (va_A (wE q cA N nr st sn lf) sz) := by
  refine k_met (D := D) (cA := cA) (w := (wE q cA N nr st sn lf)) (sz := sz) (av := [.ref (q 3)]) (cc := cXE_nextStep) (maxL := 3) (ret := (some .int)) (Qc := fun A => kQi D cA kT A (wE q cA N nr st sn lf) r) (by decide) rfl (Nat.le_of_ble_eq_true rfl) ?_
  intro p e s m below meth c A ls hX hK hN hA hP hD hl
  obtain ⟨hx, hb, hr, hml, hown, hts, hlocks, -⟩ := hX
  have hown : s.vm.findClass RXE = some m.cls := hown
  have hl : lv_has ls 3 [(0, .ref (q 3))] := hl
  have hts : ∀ w ∈ W0, w.before _ s = true := fun w h => hts w (List.mem_cons_of_mem _ h)
  have key : ∀ n : Nat, (∀ (r : Int32) (H : Heap) (locs : List Loc) (ls : Array Slot), mE_nextStep N nr lf n 0 [] = some r → va_P D vwCl (wE q cA N nr st sn lf) H → va_D A (wE q cA N nr st sn lf) → va_S A s.heap H locs → lv_has ls 3 [(0, .ref (q 3))] → W p l e ({ frames := 2, cells := 0, slots := 0, locals := 49 }) s m ([.ref (q 3)] : List Value).toArray below meth c H locs 0 0 (MQ below (kQi D cA kT A (wE q cA N nr st sn lf) r) ([.ref (q 3)] : List Value).toArray s 0 0 A) (F0 m 0 ls [])) ∧
    (∀ (x1 : Int32) (r : Int32) (H : Heap) (locs : List Loc) (ls : Array Slot), mE_nextStep N nr lf n 1 [x1] = some r → va_P D vwCl (wE q cA N nr st sn lf) H → va_D A (wE q cA N nr st sn lf) → va_S A s.heap H locs → lv_has ls 3 [(0, .ref (q 3)), (1, .int x1)] → W p l e ({ frames := 2, cells := 0, slots := 0, locals := 49 }) s m ([.ref (q 3)] : List Value).toArray below meth c H locs 0 0 (MQ below (kQi D cA kT A (wE q cA N nr st sn lf) r) ([.ref (q 3)] : List Value).toArray s 0 0 A) (F0 m 10 ls [])) ∧
    (∀ (x1 y0 : Int32) (r : Int32) (H : Heap) (locs : List Loc) (ls : Array Slot), mE_nextStep N nr lf n 2 [x1, y0] = some r → va_P D vwCl (wE q cA N nr st sn lf) H → va_D A (wE q cA N nr st sn lf) → va_S A s.heap H locs → lv_has ls 3 [(0, .ref (q 3)), (1, .int x1)] → W p l e ({ frames := 2, cells := 0, slots := 0, locals := 49 }) s m ([.ref (q 3)] : List Value).toArray below meth c H locs 0 0 (MQ below (kQi D cA kT A (wE q cA N nr st sn lf) r) ([.ref (q 3)] : List Value).toArray s 0 0 A) (F0 m 34 ls [.int y0])) := by
    intro n
    induction n with
    | zero => exact ⟨(by intros; rename_i h _ _ _ _; rw [mE_nextStep_z] at h; cases h), (by intros; rename_i h _ _ _ _; rw [mE_nextStep_z] at h; cases h), (by intros; rename_i h _ _ _ _; rw [mE_nextStep_z] at h; cases h)⟩
    | succ n ih =>
      obtain ⟨ih0, ih1, ih2⟩ := ih
      refine ⟨?_, ?_, ?_⟩
      · intro r H locs ls hm hP hD hS hl
        rw [mE_nextStep_e0] at hm
        refine lv_aload_n hx hb dXE_nextStep_0 rfl (lv_at hl 0 rfl) ?_
        refine va_get (D := D) (ci := 1) (v := .ref (q 10)) (C := RXE) (T := TXE) (N := 4) hx hb hts hinXE hown hK hP 0 rfl rfl 0 (by decide) (hts _ wd_100) (fun _ h9 => h9) rfl dXE_nextStep_1 ?_
        obtain ⟨r11, hm11, hm⟩ := kb_s hm
        refine k_vi (As := []) (rest := []) (w2 := (wE q cA N nr st sn lf)) ⟨hx, hb, hml, hown, hts⟩ (cG_size l D q cA N H.size nr n r11 hm11) (cwV 0 hts (gV wd_99 wd_70 wd_71 wd_37 wd_72) rfl rfl rfl (by decide +kernel) ⟨Nat.le_of_ble_eq_true rfl, Nat.le_of_ble_eq_true rfl⟩) hK hN hP hD hS hA [2, 3] [0, 1] [0, 1, 2, 3] ⟨rfl, rfl, by decide, rfl, by decide, by decide, rfl, rfl, by decide⟩ (va_recv hK hP (ci := 2) (q0 := 2) rfl rfl) rfl hl.1 rfl (Nat.le_of_ble_eq_true rfl) dXE_nextStep_4 ⟨Nat.le_of_ble_eq_true rfl, Nat.le_of_ble_eq_true rfl⟩ (fun hz11 H locs hP hD hS => ?_)
        refine lv_iconst (v := 1) hx hb dXE_nextStep_7 (by decide) ?_
        refine lv_isub hx hb dXE_nextStep_8 ?_
        refine lv_topi (fun x1_12 ex1_12 => ?_)
        have hm := kl_s ex1_12 hm
        refine lv_istore_n (lv' := [(1, .int x1_12), (0, .ref (q 3))]) hx hb dXE_nextStep_9 rfl hl (by decide) rfl (fun ls hl => ?_)
        exact ih1 x1_12 _ H locs ls hm hP hD hS (lv_sub hl [1, 0] rfl)
      · intro x1 r H locs ls hm hP hD hS hl
        rw [mE_nextStep_e1] at hm
        refine lv_iload_n hx hb dXE_nextStep_10 rfl (lv_at hl 1 rfl) ?_
        refine lv_if_lt (tgt := 48) hx hb dXE_nextStep_11 (by decide) (fun c111 => ?_) (fun c111 => ?_)
        · rw [if_pos c111] at hm
          refine lv_iconst (v := (-1)) hx hb dXE_nextStep_48 (by decide) ?_
          cases hm
          exact k_iret hx hb hr hlocks hK hP hD hS trivial dXE_nextStep_49
        · rw [if_neg c111] at hm
          refine lv_aload_n hx hb dXE_nextStep_14 rfl (lv_at hl 0 rfl) ?_
          refine va_get (D := D) (ci := 1) (v := .int lf) (C := RXE) (T := TXE) (N := 4) hx hb hts hinXE hown hK hP 0 rfl rfl 3 (by decide) (hts _ wd_103) (fun _ h9 => h9) rfl dXE_nextStep_15 ?_
          refine lv_iload_n hx hb dXE_nextStep_18 rfl (lv_at hl 1 rfl) ?_
          obtain ⟨r112, hm112, hm⟩ := kb_s hm
          refine k_n0 (As := [.int lf, .int x1]) (rest := []) ⟨hx, hb, hml, hown, hts⟩ (cF_contains l D cA H.size lf x1 n r112 hm112) ⟨va_cnB 2 hts (gC wd_153) rfl rfl rfl hN.2.2.1 (hts _ wd_36) (by decide +kernel) ⟨Nat.le_of_ble_eq_true rfl, Nat.le_of_ble_eq_true rfl⟩, hts _ wd_152, trivial⟩ hK hN hP hD hS hA rfl hl.1 rfl (Nat.le_of_ble_eq_true rfl) dXE_nextStep_19 ⟨Nat.le_of_ble_eq_true rfl, Nat.le_of_ble_eq_true rfl⟩ (fun hz112 H locs hP hD hS => ?_)
          refine lv_if_eq (tgt := 33) hx hb dXE_nextStep_22 (by decide) (fun c113 => ?_) (fun c113 => ?_)
          · rw [if_pos c113] at hm
            refine lv_iconst (v := (-1)) hx hb dXE_nextStep_33 (by decide) ?_
            exact ih2 x1 (-1) _ H locs ls hm hP hD hS (lv_sub hl [0, 1] rfl)
          · rw [if_neg c113] at hm
            refine lv_aload_n hx hb dXE_nextStep_25 rfl (lv_at hl 0 rfl) ?_
            refine lv_iload_n hx hb dXE_nextStep_26 rfl (lv_at hl 1 rfl) ?_
            obtain ⟨r114, hm114, hm⟩ := kb_s hm
            refine k_vi (As := [.int x1]) (rest := []) (w2 := (wE q cA N nr st sn lf)) ⟨hx, hb, hml, hown, hts⟩ (cE_stepAt l D q cA N H.size nr st sn lf x1 n r114 hm114) (cwV 1 hts (gV wd_308 wd_309 wd_15 wd_39 wd_310) rfl rfl rfl (by decide +kernel) ⟨Nat.le_of_ble_eq_true rfl, Nat.le_of_ble_eq_true rfl⟩) hK hN hP hD hS hA [0, 1, 2, 3] [] [0, 1, 2, 3] ⟨rfl, rfl, by decide, rfl, by decide, by decide, rfl, rfl, by decide⟩ (va_recv hK hP (ci := 1) (q0 := 0) rfl rfl) rfl hl.1 rfl (Nat.le_of_ble_eq_true rfl) dXE_nextStep_27 ⟨Nat.le_of_ble_eq_true rfl, Nat.le_of_ble_eq_true rfl⟩ (fun hz114 H locs hP hD hS => ?_)
            refine lv_goto (tgt := 34) hx hb dXE_nextStep_30 (by decide) ?_
            exact ih2 x1 r114 _ H locs ls hm hP hD hS (lv_sub hl [0, 1] rfl)
      · intro x1 y0 r H locs ls hm hP hD hS hl
        rw [mE_nextStep_e2] at hm
        refine lv_istore_n (lv' := [(2, .int y0), (0, .ref (q 3)), (1, .int x1)]) hx hb dXE_nextStep_34 rfl hl (by decide) rfl (fun ls hl => ?_)
        refine lv_iload_n hx hb dXE_nextStep_35 rfl (lv_at hl 0 rfl) ?_
        refine lv_iconst (v := (-1)) hx hb dXE_nextStep_36 (by decide) ?_
        refine lv_icmp_eq (tgt := 42) hx hb dXE_nextStep_37 (by decide) (fun c211 => ?_) (fun c211 => ?_)
        · rw [if_pos c211] at hm
          refine lv_iinc (v := (x1 + (-1))) (lv' := [(1, .int (x1 + (-1))), (2, .int y0), (0, .ref (q 3))]) hx hb dXE_nextStep_42 hl (k := 2) rfl rfl (by decide) rfl (fun ls hl => ?_)
          refine lv_goto (tgt := 10) hx hb dXE_nextStep_45 (by decide) ?_
          exact ih1 (x1 + (-1)) _ H locs ls hm hP hD hS (lv_sub hl [2, 0] rfl)
        · rw [if_neg c211] at hm
          refine lv_iload_n hx hb dXE_nextStep_40 rfl (lv_at hl 0 rfl) ?_
          cases hm
          exact k_iret hx hb hr hlocks hK hP hD hS trivial dXE_nextStep_41
  exact (key n).1 r s.heap [] ls hm hP hD va_S.rf hl
set_option maxHeartbeats 4000000 in
set_option maxRecDepth 100000 in
theorem cE_run (l : Launch) (D : va_G) (q : Nat → Nat) (cA : ClassId) (N : Nat) (sz : Nat) (nr : Nat → Int32) (st : Nat → Int32) (sn : Int32) (lf : Int32) (a1 : Int32) (n : Nat) (st_1 : Nat → Int32) (sn_1 : Int32) (lf_1 : Int32) (hm : mE_run N nr n 0 [a1] st sn lf = some (st_1, sn_1, lf_1)) : Met l yXE_run wsXE_run ({ frames := 3, cells := 0, slots := 0, locals := 71 }) (kPc D cA [.ref (q 3), .int a1] (wE q cA N nr st sn lf) sz) (kQv D cA (va_A (wE q cA N nr st sn lf) sz) (wE q cA N nr st_1 sn_1 lf_1)) 0 0 (va_A (wE q cA N nr st sn lf) sz) := by
  refine k_met (D := D) (cA := cA) (w := (wE q cA N nr st sn lf)) (sz := sz) (av := [.ref (q 3), .int a1]) (cc := cXE_run) (maxL := 3) (ret := none) (Qc := fun A => kQv D cA A (wE q cA N nr st_1 sn_1 lf_1)) (by decide) rfl (Nat.le_of_ble_eq_true rfl) ?_
  intro p e s m below meth c A ls hX hK hN hA hP hD hl
  obtain ⟨hx, hb, hr, hml, hown, hts, hlocks, -⟩ := hX
  have hown : s.vm.findClass RXE = some m.cls := hown
  have hl : lv_has ls 3 [(0, .ref (q 3)), (1, .int a1)] := hl
  have hts : ∀ w ∈ W0, w.before _ s = true := fun w h => hts w (List.mem_cons_of_mem _ h)
  have key : ∀ n : Nat, (∀ (x1 : Int32) (st : Nat → Int32) (sn : Int32) (lf : Int32) (st_1 : Nat → Int32) (sn_1 : Int32) (lf_1 : Int32) (H : Heap) (locs : List Loc) (ls : Array Slot), mE_run N nr n 0 [x1] st sn lf = some (st_1, sn_1, lf_1) → va_P D vwCl (wE q cA N nr st sn lf) H → va_D A (wE q cA N nr st sn lf) → va_S A s.heap H locs → lv_has ls 3 [(0, .ref (q 3)), (1, .int x1)] → W p l e ({ frames := 3, cells := 0, slots := 0, locals := 71 }) s m ([.ref (q 3), .int a1] : List Value).toArray below meth c H locs 0 0 (MQ below (kQv D cA A (wE q cA N nr st_1 sn_1 lf_1)) ([.ref (q 3), .int a1] : List Value).toArray s 0 0 A) (F0 m 0 ls [])) ∧
    (∀ (x2 : Int32) (st : Nat → Int32) (sn : Int32) (lf : Int32) (st_1 : Nat → Int32) (sn_1 : Int32) (lf_1 : Int32) (H : Heap) (locs : List Loc) (ls : Array Slot), mE_run N nr n 1 [x2] st sn lf = some (st_1, sn_1, lf_1) → va_P D vwCl (wE q cA N nr st sn lf) H → va_D A (wE q cA N nr st sn lf) → va_S A s.heap H locs → lv_has ls 3 [(0, .ref (q 3)), (2, .int x2)] → W p l e ({ frames := 3, cells := 0, slots := 0, locals := 71 }) s m ([.ref (q 3), .int a1] : List Value).toArray below meth c H locs 0 0 (MQ below (kQv D cA A (wE q cA N nr st_1 sn_1 lf_1)) ([.ref (q 3), .int a1] : List Value).toArray s 0 0 A) (F0 m 15 ls [])) := by
    intro n
    induction n with
    | zero => exact ⟨(by intros; rename_i h _ _ _ _; rw [mE_run_z] at h; cases h), (by intros; rename_i h _ _ _ _; rw [mE_run_z] at h; cases h)⟩
    | succ n ih =>
      obtain ⟨ih0, ih1⟩ := ih
      refine ⟨?_, ?_⟩
      · intro x1 st sn lf st_1 sn_1 lf_1 H locs ls hm hP hD hS hl
        rw [mE_run_e0] at hm
        refine lv_aload_n hx hb dXE_run_0 rfl (lv_at hl 0 rfl) ?_
        refine lv_iload_n hx hb dXE_run_1 rfl (lv_at hl 1 rfl) ?_
        refine va_put (D := D) (ci := 1) (v := .int x1) (ty := .int) (C := RXE) (T := TXE) (N := 4) hx hb hts hinXE tyXE tyXE_ok nXE hown hK hP hD hS 0 rfl rfl 3 (by decide) (hts _ wd_103) (fun _ h9 => h9) rfl (by decide +kernel) rfl rfl (Nat.le_of_ble_eq_true rfl) dXE_run_2 (fun H locs hP hD hS => ?_)
        have hP : va_P D vwCl (wE q cA N nr st sn x1) H := hP
        have hD : va_D A (wE q cA N nr st sn x1) := hD
        refine lv_aload_n hx hb dXE_run_5 rfl (lv_at hl 0 rfl) ?_
        refine lv_iconst (v := 0) hx hb dXE_run_6 (by decide) ?_
        refine va_put (D := D) (ci := 1) (v := .int 0) (ty := .int) (C := RXE) (T := TXE) (N := 4) hx hb hts hinXE tyXE tyXE_ok nXE hown hK hP hD hS 0 rfl rfl 2 (by decide) (hts _ wd_102) (fun _ h9 => h9) rfl (by decide +kernel) rfl rfl (Nat.le_of_ble_eq_true rfl) dXE_run_7 (fun H locs hP hD hS => ?_)
        have hP : va_P D vwCl (wE q cA N nr st 0 x1) H := hP
        have hD : va_D A (wE q cA N nr st 0 x1) := hD
        refine lv_aload_n hx hb dXE_run_10 rfl (lv_at hl 0 rfl) ?_
        obtain ⟨r11, hm11, hm⟩ := kb_s hm
        refine k_vi (As := []) (rest := []) (w2 := (wE q cA N nr st 0 x1)) ⟨hx, hb, hml, hown, hts⟩ (cE_nextStep l D q cA N H.size nr st 0 x1 n r11 hm11) (cwV 0 hts (gV wd_305 wd_306 wd_14 wd_39 wd_307) rfl rfl rfl (by decide +kernel) ⟨Nat.le_of_ble_eq_true rfl, Nat.le_of_ble_eq_true rfl⟩) hK hN hP hD hS hA [0, 1, 2, 3] [] [0, 1, 2, 3] ⟨rfl, rfl, by decide, rfl, by decide, by decide, rfl, rfl, by decide⟩ (va_recv hK hP (ci := 1) (q0 := 0) rfl rfl) rfl hl.1 rfl (Nat.le_of_ble_eq_true rfl) dXE_run_11 ⟨Nat.le_of_ble_eq_true rfl, Nat.le_of_ble_eq_true rfl⟩ (fun hz11 H locs hP hD hS => ?_)
        refine lv_istore_n (lv' := [(2, .int r11), (0, .ref (q 3)), (1, .int x1)]) hx hb dXE_run_14 rfl hl (by decide) rfl (fun ls hl => ?_)
        exact ih1 r11 st 0 x1 _ _ _ H locs ls hm hP hD hS (lv_sub hl [1, 0] rfl)
      · intro x2 st sn lf st_1 sn_1 lf_1 H locs ls hm hP hD hS hl
        rw [mE_run_e1] at hm
        refine lv_iload_n hx hb dXE_run_15 rfl (lv_at hl 1 rfl) ?_
        refine lv_iconst (v := (-1)) hx hb dXE_run_16 (by decide) ?_
        refine lv_icmp_eq (tgt := 77) hx hb dXE_run_17 (by decide) (fun c111 => ?_) (fun c111 => ?_)
        · rw [if_pos c111] at hm
          cases hm
          exact k_vret hx hb hr hlocks hK hP hD hS dXE_run_77
        · rw [if_neg c111] at hm
          refine lv_aload_n hx hb dXE_run_20 rfl (lv_at hl 0 rfl) ?_
          refine va_get (D := D) (ci := 1) (v := .int sn) (C := RXE) (T := TXE) (N := 4) hx hb hts hinXE hown hK hP 0 rfl rfl 2 (by decide) (hts _ wd_102) (fun _ h9 => h9) rfl dXE_run_21 ?_
          refine lv_aload_n hx hb dXE_run_24 rfl (lv_at hl 0 rfl) ?_
          refine va_get (D := D) (ci := 1) (v := .ref (q 4)) (C := RXE) (T := TXE) (N := 4) hx hb hts hinXE hown hK hP 0 rfl rfl 1 (by decide) (hts _ wd_101) (fun _ h9 => h9) rfl dXE_run_25 ?_
          refine va_alen (v := (nI N)) hx hb hK hP 1 0 rfl rfl rfl dXE_run_28 ?_
          refine lv_icmp_ge (tgt := 77) hx hb dXE_run_29 (by decide) (fun c112 => ?_) (fun c112 => ?_)
          · rw [if_pos c112] at hm
            cases hm
            exact k_vret hx hb hr hlocks hK hP hD hS dXE_run_77
          · rw [if_neg c112] at hm
            refine lv_aload_n hx hb dXE_run_32 rfl (lv_at hl 0 rfl) ?_
            refine va_get (D := D) (ci := 1) (v := .ref (q 4)) (C := RXE) (T := TXE) (N := 4) hx hb hts hinXE hown hK hP 0 rfl rfl 1 (by decide) (hts _ wd_101) (fun _ h9 => h9) rfl dXE_run_33 ?_
            refine lv_aload_n hx hb dXE_run_36 rfl (lv_at hl 0 rfl) ?_
            refine va_get (D := D) (ci := 1) (v := .int sn) (C := RXE) (T := TXE) (N := 4) hx hb hts hinXE hown hK hP 0 rfl rfl 2 (by decide) (hts _ wd_102) (fun _ h9 => h9) rfl dXE_run_37 ?_
            refine lv_iload_n hx hb dXE_run_40 rfl (lv_at hl 1 rfl) ?_
            obtain ⟨hg113, hm⟩ := kg_s hm
            refine va_iast hx hb hK hP hD hS 1 0 rfl rfl hg113 dXE_run_41 (fun H locs hP hD hS => ?_)
            have hP : va_P D vwCl (wE q cA N nr (upd st sn.toNatClampNeg x2) sn lf) H := hP
            have hD : va_D A (wE q cA N nr (upd st sn.toNatClampNeg x2) sn lf) := hD
            refine lv_aload_n hx hb dXE_run_42 rfl (lv_at hl 0 rfl) ?_
            refine lv_dup hx hb dXE_run_43 rfl ?_
            refine va_get (D := D) (ci := 1) (v := .int sn) (C := RXE) (T := TXE) (N := 4) hx hb hts hinXE hown hK hP 0 rfl rfl 2 (by decide) (hts _ wd_102) (fun _ h9 => h9) rfl dXE_run_44 ?_
            refine lv_iconst (v := 1) hx hb dXE_run_47 (by decide) ?_
            refine lv_iadd hx hb dXE_run_48 ?_
            refine va_put (D := D) (ci := 1) (v := .int (sn + 1)) (ty := .int) (C := RXE) (T := TXE) (N := 4) hx hb hts hinXE tyXE tyXE_ok nXE hown hK hP hD hS 0 rfl rfl 2 (by decide) (hts _ wd_102) (fun _ h9 => h9) rfl (by decide +kernel) rfl rfl (Nat.le_of_ble_eq_true rfl) dXE_run_49 (fun H locs hP hD hS => ?_)
            have hP : va_P D vwCl (wE q cA N nr (upd st sn.toNatClampNeg x2) (sn + 1) lf) H := hP
            have hD : va_D A (wE q cA N nr (upd st sn.toNatClampNeg x2) (sn + 1) lf) := hD
            refine lv_aload_n hx hb dXE_run_52 rfl (lv_at hl 0 rfl) ?_
            refine lv_dup hx hb dXE_run_53 rfl ?_
            refine va_get (D := D) (ci := 1) (v := .int lf) (C := RXE) (T := TXE) (N := 4) hx hb hts hinXE hown hK hP 0 rfl rfl 3 (by decide) (hts _ wd_103) (fun _ h9 => h9) rfl dXE_run_54 ?_
            refine lv_iconst (v := 1) hx hb dXE_run_57 (by decide) ?_
            refine lv_iload_n hx hb dXE_run_58 rfl (lv_at hl 1 rfl) ?_
            refine lv_bipush (v := 16) hx hb dXE_run_59 (by decide) ?_
            refine lv_irem hx hb dXE_run_61 (by decide) ?_
            refine lv_ishl hx hb dXE_run_62 ?_
            refine lv_iconst (v := (-1)) hx hb dXE_run_63 (by decide) ?_
            refine lv_ixor hx hb dXE_run_64 ?_
            refine lv_iand hx hb dXE_run_65 ?_
            refine va_put (D := D) (ci := 1) (v := .int (lf &&& (((1 : Int32) <<< ((x2 - x2 / 16 * 16) &&& 31)) ^^^ (-1)))) (ty := .int) (C := RXE) (T := TXE) (N := 4) hx hb hts hinXE tyXE tyXE_ok nXE hown hK hP hD hS 0 rfl rfl 3 (by decide) (hts _ wd_103) (fun _ h9 => h9) rfl (by decide +kernel) rfl rfl (Nat.le_of_ble_eq_true rfl) dXE_run_66 (fun H locs hP hD hS => ?_)
            have hP : va_P D vwCl (wE q cA N nr (upd st sn.toNatClampNeg x2) (sn + 1) (lf &&& (((1 : Int32) <<< ((x2 - x2 / 16 * 16) &&& 31)) ^^^ (-1)))) H := hP
            have hD : va_D A (wE q cA N nr (upd st sn.toNatClampNeg x2) (sn + 1) (lf &&& (((1 : Int32) <<< ((x2 - x2 / 16 * 16) &&& 31)) ^^^ (-1)))) := hD
            refine lv_aload_n hx hb dXE_run_69 rfl (lv_at hl 0 rfl) ?_
            obtain ⟨r114, hm114, hm⟩ := kb_s hm
            refine k_vi (As := []) (rest := []) (w2 := (wE q cA N nr (upd st sn.toNatClampNeg x2) (sn + 1) (lf &&& (((1 : Int32) <<< ((x2 - x2 / 16 * 16) &&& 31)) ^^^ (-1))))) ⟨hx, hb, hml, hown, hts⟩ (cE_nextStep l D q cA N H.size nr (upd st sn.toNatClampNeg x2) (sn + 1) (lf &&& (((1 : Int32) <<< ((x2 - x2 / 16 * 16) &&& 31)) ^^^ (-1))) n r114 hm114) (cwV 0 hts (gV wd_305 wd_306 wd_14 wd_39 wd_307) rfl rfl rfl (by decide +kernel) ⟨Nat.le_of_ble_eq_true rfl, Nat.le_of_ble_eq_true rfl⟩) hK hN hP hD hS hA [0, 1, 2, 3] [] [0, 1, 2, 3] ⟨rfl, rfl, by decide, rfl, by decide, by decide, rfl, rfl, by decide⟩ (va_recv hK hP (ci := 1) (q0 := 0) rfl rfl) rfl hl.1 rfl (Nat.le_of_ble_eq_true rfl) dXE_run_70 ⟨Nat.le_of_ble_eq_true rfl, Nat.le_of_ble_eq_true rfl⟩ (fun hz114 H locs hP hD hS => ?_)
            refine lv_istore_n (lv' := [(2, .int r114), (0, .ref (q 3))]) hx hb dXE_run_73 rfl hl (by decide) rfl (fun ls hl => ?_)
            refine lv_goto (tgt := 15) hx hb dXE_run_74 (by decide) ?_
            exact ih1 r114 (upd st sn.toNatClampNeg x2) (sn + 1) (lf &&& (((1 : Int32) <<< ((x2 - x2 / 16 * 16) &&& 31)) ^^^ (-1))) _ _ _ H locs ls hm hP hD hS (lv_sub hl [1, 0] rfl)
  exact (key n).1 a1 st sn lf st_1 sn_1 lf_1 s.heap [] ls hm hP hD va_S.rf hl
set_option maxHeartbeats 4000000 in
set_option maxRecDepth 100000 in
theorem cE_clears (l : Launch) (D : va_G) (q : Nat → Nat) (cA : ClassId) (N : Nat) (sz : Nat) (nr : Nat → Int32) (st : Nat → Int32) (sn : Int32) (lf : Int32) (a1 : Int32) (n : Nat) (r : Int32) (st_1 : Nat → Int32) (sn_1 : Int32) (lf_1 : Int32) (hm : mE_clears N nr n 0 [a1] st sn lf = some (r, st_1, sn_1, lf_1)) : Met l yXE_clears wsXE_clears ({ frames := 4, cells := 0, slots := 0, locals := 93 }) (kPc D cA [.ref (q 3), .int a1] (wE q cA N nr st sn lf) sz) (kQi D cA kB (va_A (wE q cA N nr st sn lf) sz) (wE q cA N nr st_1 sn_1 lf_1) r) 0 0 (va_A (wE q cA N nr st sn lf) sz) := by
  refine k_met (D := D) (cA := cA) (w := (wE q cA N nr st sn lf)) (sz := sz) (av := [.ref (q 3), .int a1]) (cc := cXE_clears) (maxL := 5) (ret := (some .boolean)) (Qc := fun A => kQi D cA kB A (wE q cA N nr st_1 sn_1 lf_1) r) (by decide) rfl (Nat.le_of_ble_eq_true rfl) ?_
  intro p e s m below meth c A ls hX hK hN hA hP hD hl
  obtain ⟨hx, hb, hr, hml, hown, hts, hlocks, -⟩ := hX
  have hown : s.vm.findClass RXE = some m.cls := hown
  have hl : lv_has ls 5 [(0, .ref (q 3)), (1, .int a1)] := hl
  have hts : ∀ w ∈ W0, w.before _ s = true := fun w h => hts w (List.mem_cons_of_mem _ h)
  have key : ∀ n : Nat, (∀ (x1 : Int32) (st : Nat → Int32) (sn : Int32) (lf : Int32) (r : Int32) (st_1 : Nat → Int32) (sn_1 : Int32) (lf_1 : Int32) (H : Heap) (locs : List Loc) (ls : Array Slot), mE_clears N nr n 0 [x1] st sn lf = some (r, st_1, sn_1, lf_1) → va_P D vwCl (wE q cA N nr st sn lf) H → va_D A (wE q cA N nr st sn lf) → va_S A s.heap H locs → lv_has ls 5 [(0, .ref (q 3)), (1, .int x1)] → W p l e ({ frames := 4, cells := 0, slots := 0, locals := 93 }) s m ([.ref (q 3), .int a1] : List Value).toArray below meth c H locs 0 0 (MQ below (kQi D cA kB A (wE q cA N nr st_1 sn_1 lf_1) r) ([.ref (q 3), .int a1] : List Value).toArray s 0 0 A) (F0 m 0 ls [])) ∧
    (∀ (x1 x2 x3 : Int32) (st : Nat → Int32) (sn : Int32) (lf : Int32) (r : Int32) (st_1 : Nat → Int32) (sn_1 : Int32) (lf_1 : Int32) (H : Heap) (locs : List Loc) (ls : Array Slot), mE_clears N nr n 1 [x1, x2, x3] st sn lf = some (r, st_1, sn_1, lf_1) → va_P D vwCl (wE q cA N nr st sn lf) H → va_D A (wE q cA N nr st sn lf) → va_S A s.heap H locs → lv_has ls 5 [(0, .ref (q 3)), (1, .int x1), (2, .int x2), (3, .int x3)] → W p l e ({ frames := 4, cells := 0, slots := 0, locals := 93 }) s m ([.ref (q 3), .int a1] : List Value).toArray below meth c H locs 0 0 (MQ below (kQi D cA kB A (wE q cA N nr st_1 sn_1 lf_1) r) ([.ref (q 3), .int a1] : List Value).toArray s 0 0 A) (F0 m 4 ls [])) := by
    intro n
    induction n with
    | zero => exact ⟨(by intros; rename_i h _ _ _ _; rw [mE_clears_z] at h; cases h), (by intros; rename_i h _ _ _ _; rw [mE_clears_z] at h; cases h)⟩
    | succ n ih =>
      obtain ⟨ih0, ih1⟩ := ih
      refine ⟨?_, ?_⟩
      · intro x1 st sn lf r st_1 sn_1 lf_1 H locs ls hm hP hD hS hl
        rw [mE_clears_e0] at hm
        refine lv_iload_n hx hb dXE_clears_0 rfl (lv_at hl 1 rfl) ?_
        refine lv_istore_n (lv' := [(2, .int x1), (0, .ref (q 3)), (1, .int x1)]) hx hb dXE_clears_1 rfl hl (by decide) rfl (fun ls hl => ?_)
        refine lv_iconst (v := 0) hx hb dXE_clears_2 (by decide) ?_
        refine lv_istore_n (lv' := [(3, .int 0), (2, .int x1), (0, .ref (q 3)), (1, .int x1)]) hx hb dXE_clears_3 rfl hl (by decide) rfl (fun ls hl => ?_)
        exact ih1 x1 x1 0 st sn lf _ _ _ _ H locs ls hm hP hD hS (lv_sub hl [2, 3, 1, 0] rfl)
      · intro x1 x2 x3 st sn lf r st_1 sn_1 lf_1 H locs ls hm hP hD hS hl
        rw [mE_clears_e1] at hm
        refine lv_iload_n hx hb dXE_clears_4 rfl (lv_at hl 3 rfl) ?_
        refine lv_aload_n hx hb dXE_clears_5 rfl (lv_at hl 0 rfl) ?_
        refine va_get (D := D) (ci := 1) (v := .ref (q 10)) (C := RXE) (T := TXE) (N := 4) hx hb hts hinXE hown hK hP 0 rfl rfl 0 (by decide) (hts _ wd_100) (fun _ h9 => h9) rfl dXE_clears_6 ?_
        obtain ⟨r111, hm111, hm⟩ := kb_s hm
        refine k_vi (As := []) (rest := [.int x3]) (w2 := (wE q cA N nr st sn lf)) ⟨hx, hb, hml, hown, hts⟩ (cG_size l D q cA N H.size nr n r111 hm111) (cwV 0 hts (gV wd_99 wd_70 wd_71 wd_37 wd_72) rfl rfl rfl (by decide +kernel) ⟨Nat.le_of_ble_eq_true rfl, Nat.le_of_ble_eq_true rfl⟩) hK hN hP hD hS hA [2, 3] [0, 1] [0, 1, 2, 3] ⟨rfl, rfl, by decide, rfl, by decide, by decide, rfl, rfl, by decide⟩ (va_recv hK hP (ci := 2) (q0 := 2) rfl rfl) rfl hl.1 rfl (Nat.le_of_ble_eq_true rfl) dXE_clears_9 ⟨Nat.le_of_ble_eq_true rfl, Nat.le_of_ble_eq_true rfl⟩ (fun hz111 H locs hP hD hS => ?_)
        refine lv_icmp_ge (tgt := 66) hx hb dXE_clears_12 (by decide) (fun c112 => ?_) (fun c112 => ?_)
        · rw [if_pos c112] at hm
          refine lv_iconst (v := 1) hx hb dXE_clears_66 (by decide) ?_
          cases hm
          exact k_zret hx hb hr hlocks hK hP hD hS (Or.inr rfl) dXE_clears_67
        · rw [if_neg c112] at hm
          refine lv_iload_n hx hb dXE_clears_15 rfl (lv_at hl 2 rfl) ?_
          refine lv_iload_n hx hb dXE_clears_16 rfl (lv_at hl 3 rfl) ?_
          obtain ⟨r113, hm113, hm⟩ := kb_s hm
          refine k_n0 (As := [.int x2, .int x3]) (rest := []) ⟨hx, hb, hml, hown, hts⟩ (cF_contains l D cA H.size x2 x3 n r113 hm113) ⟨va_cnB 2 hts (gC wd_153) rfl rfl rfl hN.2.2.1 (hts _ wd_36) (by decide +kernel) ⟨Nat.le_of_ble_eq_true rfl, Nat.le_of_ble_eq_true rfl⟩, hts _ wd_152, trivial⟩ hK hN hP hD hS hA rfl hl.1 rfl (Nat.le_of_ble_eq_true rfl) dXE_clears_17 ⟨Nat.le_of_ble_eq_true rfl, Nat.le_of_ble_eq_true rfl⟩ (fun hz113 H locs hP hD hS => ?_)
          refine lv_if_eq (tgt := 60) hx hb dXE_clears_20 (by decide) (fun c114 => ?_) (fun c114 => ?_)
          · rw [if_pos c114] at hm
            refine lv_iinc (v := (x3 + 1)) (lv' := [(3, .int (x3 + 1)), (0, .ref (q 3)), (1, .int x1), (2, .int x2)]) hx hb dXE_clears_60 hl (k := 3) rfl rfl (by decide) rfl (fun ls hl => ?_)
            refine lv_goto (tgt := 4) hx hb dXE_clears_63 (by decide) ?_
            exact ih1 x1 x2 (x3 + 1) st sn lf _ _ _ _ H locs ls hm hP hD hS (lv_sub hl [1, 2, 3, 0] rfl)
          · rw [if_neg c114] at hm
            refine lv_aload_n hx hb dXE_clears_23 rfl (lv_at hl 0 rfl) ?_
            refine va_get (D := D) (ci := 1) (v := .ref (q 10)) (C := RXE) (T := TXE) (N := 4) hx hb hts hinXE hown hK hP 0 rfl rfl 0 (by decide) (hts _ wd_100) (fun _ h9 => h9) rfl dXE_clears_24 ?_
            refine lv_iload_n hx hb dXE_clears_27 rfl (lv_at hl 3 rfl) ?_
            refine lv_iload_n hx hb dXE_clears_28 rfl (lv_at hl 1 rfl) ?_
            obtain ⟨r115, hm115, hm⟩ := kb_s hm
            refine k_vi (As := [.int x3, .int x1]) (rest := []) (w2 := (wE q cA N nr st sn lf)) ⟨hx, hb, hml, hown, hts⟩ (cG_reached l D q cA N H.size nr x3 x1 n r115 hm115) (cwV 2 hts (gV wd_301 wd_170 wd_171 wd_37 wd_172) rfl rfl rfl (by decide +kernel) ⟨Nat.le_of_ble_eq_true rfl, Nat.le_of_ble_eq_true rfl⟩) hK hN hP hD hS hA [2, 3] [0, 1] [0, 1, 2, 3] ⟨rfl, rfl, by decide, rfl, by decide, by decide, rfl, rfl, by decide⟩ (va_recv hK hP (ci := 2) (q0 := 2) rfl rfl) rfl hl.1 rfl (Nat.le_of_ble_eq_true rfl) dXE_clears_29 ⟨Nat.le_of_ble_eq_true rfl, Nat.le_of_ble_eq_true rfl⟩ (fun hz115 H locs hP hD hS => ?_)
            refine lv_istore (lv' := [(4, .int r115), (0, .ref (q 3)), (1, .int x1), (2, .int x2), (3, .int x3)]) hx hb dXE_clears_32 hl (by decide) rfl (fun ls hl => ?_)
            refine lv_iload_n hx hb dXE_clears_34 rfl (lv_at hl 3 rfl) ?_
            refine lv_iload hx hb dXE_clears_35 (lv_at hl 0 rfl) ?_
            refine lv_iconst (v := (-1)) hx hb dXE_clears_37 (by decide) ?_
            refine lv_ixor hx hb dXE_clears_38 ?_
            refine lv_iand hx hb dXE_clears_39 ?_
            refine lv_topi (fun x2_116 ex2_116 => ?_)
            have hm := kl_s ex2_116 hm
            refine lv_istore_n (lv' := [(2, .int x2_116), (4, .int r115), (0, .ref (q 3)), (1, .int x1), (3, .int x3)]) hx hb dXE_clears_40 rfl hl (by decide) rfl (fun ls hl => ?_)
            refine lv_aload_n hx hb dXE_clears_41 rfl (lv_at hl 2 rfl) ?_
            refine lv_iload hx hb dXE_clears_42 (lv_at hl 1 rfl) ?_
            obtain ⟨⟨st_117, sn_117, lf_117⟩, hm117, hm⟩ := kb_s hm
            dsimp only at hm
            refine k_vv (As := [.int r115]) (rest := []) (w2 := (wE q cA N nr st_117 sn_117 lf_117)) ⟨hx, hb, hml, hown, hts⟩ (cE_run l D q cA N H.size nr st sn lf r115 n st_117 sn_117 lf_117 hm117) (cwV 1 hts (gV wd_302 wd_303 wd_13 wd_39 wd_304) rfl rfl rfl (by decide +kernel) ⟨Nat.le_of_ble_eq_true rfl, Nat.le_of_ble_eq_true rfl⟩) hK hN hP hD hS hA [0, 1, 2, 3] [] [0, 1, 2, 3] ⟨rfl, rfl, by decide, rfl, by decide, by decide, rfl, rfl, by decide⟩ (va_recv hK hP (ci := 1) (q0 := 0) rfl rfl) rfl hl.1 rfl (Nat.le_of_ble_eq_true rfl) dXE_clears_44 ⟨Nat.le_of_ble_eq_true rfl, Nat.le_of_ble_eq_true rfl⟩ (fun H locs hP hD hS => ?_)
            refine lv_aload_n hx hb dXE_clears_47 rfl (lv_at hl 2 rfl) ?_
            refine va_get (D := D) (ci := 1) (v := .int lf_117) (C := RXE) (T := TXE) (N := 4) hx hb hts hinXE hown hK hP 0 rfl rfl 3 (by decide) (hts _ wd_103) (fun _ h9 => h9) rfl dXE_clears_48 ?_
            obtain ⟨r118, hm118, hm⟩ := kb_s hm
            refine k_s0 (As := [.int lf_117]) (rest := []) ⟨hx, hb, hml, hown, hts⟩ (cJ_bitCount l D cA H.size lf_117 n r118 hm118) ⟨callB_of 1 hts (gC wd_195) rfl rfl rfl (hts _ wd_42) (hts _ wd_312) (by decide +kernel) ⟨Nat.le_of_ble_eq_true rfl, Nat.le_of_ble_eq_true rfl⟩, hts _ wd_194⟩ hK hN hP hD hS hA rfl hl.1 rfl (Nat.le_of_ble_eq_true rfl) dXE_clears_51 ⟨Nat.le_of_ble_eq_true rfl, Nat.le_of_ble_eq_true rfl⟩ (fun hz118 H locs hP hD hS => ?_)
            refine lv_iconst (v := 1) hx hb dXE_clears_54 (by decide) ?_
            refine lv_icmp_eq (tgt := 60) hx hb dXE_clears_55 (by decide) (fun c119 => ?_) (fun c119 => ?_)
            · rw [if_pos c119] at hm
              refine lv_iinc (v := (x3 + 1)) (lv' := [(3, .int (x3 + 1)), (2, .int x2_116), (4, .int r115), (0, .ref (q 3)), (1, .int x1)]) hx hb dXE_clears_60 hl (k := 4) rfl rfl (by decide) rfl (fun ls hl => ?_)
              refine lv_goto (tgt := 4) hx hb dXE_clears_63 (by decide) ?_
              exact ih1 x1 x2_116 (x3 + 1) st_117 sn_117 lf_117 _ _ _ _ H locs ls hm hP hD hS (lv_sub hl [3, 4, 1, 0] rfl)
            · rw [if_neg c119] at hm
              refine lv_iconst (v := 0) hx hb dXE_clears_58 (by decide) ?_
              cases hm
              exact k_zret hx hb hr hlocks hK hP hD hS (Or.inl rfl) dXE_clears_59
  exact (key n).1 a1 st sn lf r st_1 sn_1 lf_1 s.heap [] ls hm hP hD va_S.rf hl
set_option maxHeartbeats 4000000 in
set_option maxRecDepth 100000 in
theorem cE_stepOf (l : Launch) (D : va_G) (q : Nat → Nat) (cA : ClassId) (N : Nat) (sz : Nat) (nr : Nat → Int32) (st : Nat → Int32) (sn : Int32) (lf : Int32) (a1 a2 : Int32) (n : Nat) (r : Int32) (st_1 : Nat → Int32) (sn_1 : Int32) (lf_1 : Int32) (hm : mE_stepOf N nr n 0 [a1, a2] st sn lf = some (r, st_1, sn_1, lf_1)) : Met l yXE_stepOf wsXE_stepOf ({ frames := 4, cells := 0, slots := 0, locals := 93 }) (kPc D cA [.ref (q 3), .int a1, .int a2] (wE q cA N nr st sn lf) sz) (kQi D cA kT (va_A (wE q cA N nr st sn lf) sz) (wE q cA N nr st_1 sn_1 lf_1) r) 0 0 (va_A (wE q cA N nr st sn lf) sz) := by
  refine k_met (D := D) (cA := cA) (w := (wE q cA N nr st sn lf)) (sz := sz) (av := [.ref (q 3), .int a1, .int a2]) (cc := cXE_stepOf) (maxL := 3) (ret := (some .int)) (Qc := fun A => kQi D cA kT A (wE q cA N nr st_1 sn_1 lf_1) r) (by decide) rfl (Nat.le_of_ble_eq_true rfl) ?_
  intro p e s m below meth c A ls hX hK hN hA hP hD hl
  obtain ⟨hx, hb, hr, hml, hown, hts, hlocks, -⟩ := hX
  have hown : s.vm.findClass RXE = some m.cls := hown
  have hl : lv_has ls 3 [(0, .ref (q 3)), (1, .int a1), (2, .int a2)] := hl
  have hts : ∀ w ∈ W0, w.before _ s = true := fun w h => hts w (List.mem_cons_of_mem _ h)
  have key : ∀ n : Nat, (∀ (x1 x2 : Int32) (st : Nat → Int32) (sn : Int32) (lf : Int32) (r : Int32) (st_1 : Nat → Int32) (sn_1 : Int32) (lf_1 : Int32) (H : Heap) (locs : List Loc) (ls : Array Slot), mE_stepOf N nr n 0 [x1, x2] st sn lf = some (r, st_1, sn_1, lf_1) → va_P D vwCl (wE q cA N nr st sn lf) H → va_D A (wE q cA N nr st sn lf) → va_S A s.heap H locs → lv_has ls 3 [(0, .ref (q 3)), (1, .int x1), (2, .int x2)] → W p l e ({ frames := 4, cells := 0, slots := 0, locals := 93 }) s m ([.ref (q 3), .int a1, .int a2] : List Value).toArray below meth c H locs 0 0 (MQ below (kQi D cA kT A (wE q cA N nr st_1 sn_1 lf_1) r) ([.ref (q 3), .int a1, .int a2] : List Value).toArray s 0 0 A) (F0 m 0 ls [])) := by
    intro n
    induction n with
    | zero => exact (by intros; rename_i h _ _ _ _; rw [mE_stepOf_z] at h; cases h)
    | succ n ih =>
      have ih0 := ih
      intro x1 x2 st sn lf r st_1 sn_1 lf_1 H locs ls hm hP hD hS hl
      rw [mE_stepOf_e0] at hm
      refine lv_aload_n hx hb dXE_stepOf_0 rfl (lv_at hl 0 rfl) ?_
      refine lv_iload_n hx hb dXE_stepOf_1 rfl (lv_at hl 1 rfl) ?_
      obtain ⟨⟨st_11, sn_11, lf_11⟩, hm11, hm⟩ := kb_s hm
      dsimp only at hm
      refine k_vv (As := [.int x1]) (rest := []) (w2 := (wE q cA N nr st_11 sn_11 lf_11)) ⟨hx, hb, hml, hown, hts⟩ (cE_run l D q cA N H.size nr st sn lf x1 n st_11 sn_11 lf_11 hm11) (cwV 1 hts (gV wd_302 wd_303 wd_13 wd_39 wd_304) rfl rfl rfl (by decide +kernel) ⟨Nat.le_of_ble_eq_true rfl, Nat.le_of_ble_eq_true rfl⟩) hK hN hP hD hS hA [0, 1, 2, 3] [] [0, 1, 2, 3] ⟨rfl, rfl, by decide, rfl, by decide, by decide, rfl, rfl, by decide⟩ (va_recv hK hP (ci := 1) (q0 := 0) rfl rfl) rfl hl.1 rfl (Nat.le_of_ble_eq_true rfl) dXE_stepOf_2 ⟨Nat.le_of_ble_eq_true rfl, Nat.le_of_ble_eq_true rfl⟩ (fun H locs hP hD hS => ?_)
      refine lv_iload_n hx hb dXE_stepOf_5 rfl (lv_at hl 2 rfl) ?_
      refine lv_if_lt (tgt := 26) hx hb dXE_stepOf_6 (by decide) (fun c12 => ?_) (fun c12 => ?_)
      · rw [if_pos c12] at hm
        refine lv_iconst (v := (-1)) hx hb dXE_stepOf_26 (by decide) ?_
        cases hm
        exact k_iret hx hb hr hlocks hK hP hD hS trivial dXE_stepOf_27
      · rw [if_neg c12] at hm
        refine lv_iload_n hx hb dXE_stepOf_9 rfl (lv_at hl 2 rfl) ?_
        refine lv_aload_n hx hb dXE_stepOf_10 rfl (lv_at hl 0 rfl) ?_
        refine va_get (D := D) (ci := 1) (v := .int sn_11) (C := RXE) (T := TXE) (N := 4) hx hb hts hinXE hown hK hP 0 rfl rfl 2 (by decide) (hts _ wd_102) (fun _ h9 => h9) rfl dXE_stepOf_11 ?_
        refine lv_icmp_ge (tgt := 26) hx hb dXE_stepOf_14 (by decide) (fun c13 => ?_) (fun c13 => ?_)
        · rw [if_pos c13] at hm
          refine lv_iconst (v := (-1)) hx hb dXE_stepOf_26 (by decide) ?_
          cases hm
          exact k_iret hx hb hr hlocks hK hP hD hS trivial dXE_stepOf_27
        · rw [if_neg c13] at hm
          refine lv_aload_n hx hb dXE_stepOf_17 rfl (lv_at hl 0 rfl) ?_
          refine va_get (D := D) (ci := 1) (v := .ref (q 4)) (C := RXE) (T := TXE) (N := 4) hx hb hts hinXE hown hK hP 0 rfl rfl 1 (by decide) (hts _ wd_101) (fun _ h9 => h9) rfl dXE_stepOf_18 ?_
          refine lv_iload_n hx hb dXE_stepOf_21 rfl (lv_at hl 2 rfl) ?_
          obtain ⟨hg14, hm⟩ := kg_s hm
          refine va_iald hx hb hK hP 1 0 rfl rfl hg14 dXE_stepOf_22 ?_
          refine lv_goto (tgt := 27) hx hb dXE_stepOf_23 (by decide) ?_
          cases hm
          exact k_iret hx hb hr hlocks hK hP hD hS trivial dXE_stepOf_27
  exact key n a1 a2 st sn lf r st_1 sn_1 lf_1 s.heap [] ls hm hP hD va_S.rf hl
