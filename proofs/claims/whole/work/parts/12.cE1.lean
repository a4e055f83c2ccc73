set_option maxHeartbeats 4000000 in
set_option maxRecDepth 100000 in
theorem cE_obstructionIn (l : Launch) (D : va_G) (q : Nat → Nat) (cA : ClassId) (N : Nat) (sz : Nat) (nr : Nat → Int32) (st : Nat → Int32) (sn : Int32) (lf : Int32) (a1 : Int32) (n : Nat) (r : Int32) (st_1 : Nat → Int32) (sn_1 : Int32) (lf_1 : Int32) (hm : mE_obstructionIn N nr n 0 [a1] st sn lf = some (r, st_1, sn_1, lf_1)) : Met l yXE_obstructionIn wsXE_obstructionIn ({ frames := 5, cells := 0, slots := 0, locals := 117 }) (kPc D cA [.ref (q 3), .int a1] (wE q cA N nr st sn lf) sz) (kQi D cA kT (va_A (wE q cA N nr st sn lf) sz) (wE q cA N nr st_1 sn_1 lf_1) r) 0 0 (va_A (wE q cA N nr st sn lf) sz) := by
  refine k_met (D := D) (cA := cA) (w := (wE q cA N nr st sn lf)) (sz := sz) (av := [.ref (q 3), .int a1]) (cc := cXE_obstructionIn) (maxL := 5) (ret := (some .int)) (Qc := fun A => kQi D cA kT A (wE q cA N nr st_1 sn_1 lf_1) r) (by decide) rfl (Nat.le_of_ble_eq_true rfl) ?_
  intro p e s m below meth c A ls hX hK hN hA hP hD hl
  obtain ⟨hx, hb, hr, hml, hown, hts, hlocks, -⟩ := hX
  have hown : s.vm.findClass RXE = some m.cls := hown
  have hl : lv_has ls 5 [(0, .ref (q 3)), (1, .int a1)] := hl
  have hts : ∀ w ∈ W0, w.before _ s = true := fun w h => hts w (List.mem_cons_of_mem _ h)
  have key : ∀ n : Nat, (∀ (x1 : Int32) (st : Nat → Int32) (sn : Int32) (lf : Int32) (r : Int32) (st_1 : Nat → Int32) (sn_1 : Int32) (lf_1 : Int32) (H : Heap) (locs : List Loc) (ls : Array Slot), mE_obstructionIn N nr n 0 [x1] st sn lf = some (r, st_1, sn_1, lf_1) → va_P D vwCl (wE q cA N nr st sn lf) H → va_D A (wE q cA N nr st sn lf) → va_S A s.heap H locs → lv_has ls 5 [(0, .ref (q 3)), (1, .int x1)] → W p l e ({ frames := 5, cells := 0, slots := 0, locals := 117 }) s m ([.ref (q 3), .int a1] : List Value).toArray below meth c H locs 0 0 (MQ below (kQi D cA kT A (wE q cA N nr st_1 sn_1 lf_1) r) ([.ref (q 3), .int a1] : List Value).toArray s 0 0 A) (F0 m 0 ls [])) ∧
    (∀ (x2 x3 : Int32) (st : Nat → Int32) (sn : Int32) (lf : Int32) (r : Int32) (st_1 : Nat → Int32) (sn_1 : Int32) (lf_1 : Int32) (H : Heap) (locs : List Loc) (ls : Array Slot), mE_obstructionIn N nr n 1 [x2, x3] st sn lf = some (r, st_1, sn_1, lf_1) → va_P D vwCl (wE q cA N nr st sn lf) H → va_D A (wE q cA N nr st sn lf) → va_S A s.heap H locs → lv_has ls 5 [(0, .ref (q 3)), (2, .int x2), (3, .int x3)] → W p l e ({ frames := 5, cells := 0, slots := 0, locals := 117 }) s m ([.ref (q 3), .int a1] : List Value).toArray below meth c H locs 0 0 (MQ below (kQi D cA kT A (wE q cA N nr st_1 sn_1 lf_1) r) ([.ref (q 3), .int a1] : List Value).toArray s 0 0 A) (F0 m 14 ls [])) := by
    intro n
    induction n with
    | zero => exact ⟨(by intros; rename_i h _ _ _ _; rw [mE_obstructionIn_z] at h; cases h), (by intros; rename_i h _ _ _ _; rw [mE_obstructionIn_z] at h; cases h)⟩
    | succ n ih =>
      obtain ⟨ih0, ih1⟩ := ih
      refine ⟨?_, ?_⟩
      · intro x1 st sn lf r st_1 sn_1 lf_1 H locs ls hm hP hD hS hl
        rw [mE_obstructionIn_e0] at hm
        refine lv_aload_n hx hb dXE_obstructionIn_0 rfl (lv_at hl 0 rfl) ?_
        refine lv_iload_n hx hb dXE_obstructionIn_1 rfl (lv_at hl 1 rfl) ?_
        obtain ⟨⟨r11, st_11, sn_11, lf_11⟩, hm11, hm⟩ := kb_s hm
        dsimp only at hm
        refine k_vi (As := [.int x1]) (rest := []) (w2 := (wE q cA N nr st_11 sn_11 lf_11)) ⟨hx, hb, hml, hown, hts⟩ (cE_clears l D q cA N H.size nr st sn lf x1 n r11 st_11 sn_11 lf_11 hm11) (cwV 1 hts (gV wd_333 wd_298 wd_299 wd_39 wd_300) rfl rfl rfl (by decide +kernel) ⟨Nat.le_of_ble_eq_true rfl, Nat.le_of_ble_eq_true rfl⟩) hK hN hP hD hS hA [0, 1, 2, 3] [] [0, 1, 2, 3] ⟨rfl, rfl, by decide, rfl, by decide, by decide, rfl, rfl, by decide⟩ (va_recv hK hP (ci := 1) (q0 := 0) rfl rfl) rfl hl.1 rfl (Nat.le_of_ble_eq_true rfl) dXE_obstructionIn_2 ⟨Nat.le_of_ble_eq_true rfl, Nat.le_of_ble_eq_true rfl⟩ (fun hz11 H locs hP hD hS => ?_)
        refine lv_if_eq (tgt := 10) hx hb dXE_obstructionIn_5 (by decide) (fun c12 => ?_) (fun c12 => ?_)
        · rw [if_pos c12] at hm
          refine lv_iload_n hx hb dXE_obstructionIn_10 rfl (lv_at hl 1 rfl) ?_
          refine lv_istore_n (lv' := [(2, .int x1), (0, .ref (q 3)), (1, .int x1)]) hx hb dXE_obstructionIn_11 rfl hl (by decide) rfl (fun ls hl => ?_)
          refine lv_iconst (v := 0) hx hb dXE_obstructionIn_12 (by decide) ?_
          refine lv_istore_n (lv' := [(3, .int 0), (2, .int x1), (0, .ref (q 3)), (1, .int x1)]) hx hb dXE_obstructionIn_13 rfl hl (by decide) rfl (fun ls hl => ?_)
          exact ih1 x1 0 st_11 sn_11 lf_11 _ _ _ _ H locs ls hm hP hD hS (lv_sub hl [2, 1, 0] rfl)
        · rw [if_neg c12] at hm
          refine lv_iconst (v := (-1)) hx hb dXE_obstructionIn_8 (by decide) ?_
          cases hm
          exact k_iret hx hb hr hlocks hK hP hD hS trivial dXE_obstructionIn_9
      · intro x2 x3 st sn lf r st_1 sn_1 lf_1 H locs ls hm hP hD hS hl
        rw [mE_obstructionIn_e1] at hm
        refine lv_iload_n hx hb dXE_obstructionIn_14 rfl (lv_at hl 2 rfl) ?_
        refine lv_aload_n hx hb dXE_obstructionIn_15 rfl (lv_at hl 0 rfl) ?_
        refine va_get (D := D) (ci := 1) (v := .ref (q 10)) (C := RXE) (T := TXE) (N := 4) hx hb hts hinXE hown hK hP 0 rfl rfl 0 (by decide) (hts _ wd_100) (fun _ h9 => h9) rfl dXE_obstructionIn_16 ?_
        obtain ⟨r111, hm111, hm⟩ := kb_s hm
        refine k_vi (As := []) (rest := [.int x3]) (w2 := (wE q cA N nr st sn lf)) ⟨hx, hb, hml, hown, hts⟩ (cG_size l D q cA N H.size nr n r111 hm111) (cwV 0 hts (gV wd_99 wd_70 wd_71 wd_37 wd_72) rfl rfl rfl (by decide +kernel) ⟨Nat.le_of_ble_eq_true rfl, Nat.le_of_ble_eq_true rfl⟩) hK hN hP hD hS hA [2, 3] [0, 1] [0, 1, 2, 3] ⟨rfl, rfl, by decide, rfl, by decide, by decide, rfl, rfl, by decide⟩ (va_recv hK hP (ci := 2) (q0 := 2) rfl rfl) rfl hl.1 rfl (Nat.le_of_ble_eq_true rfl) dXE_obstructionIn_19 ⟨Nat.le_of_ble_eq_true rfl, Nat.le_of_ble_eq_true rfl⟩ (fun hz111 H locs hP hD hS => ?_)
        refine lv_icmp_ge (tgt := 60) hx hb dXE_obstructionIn_22 (by decide) (fun c112 => ?_) (fun c112 => ?_)
        · rw [if_pos c112] at hm
          refine lv_iload_n hx hb dXE_obstructionIn_60 rfl (lv_at hl 1 rfl) ?_
          cases hm
          exact k_iret hx hb hr hlocks hK hP hD hS trivial dXE_obstructionIn_61
        · rw [if_neg c112] at hm
          refine lv_iload_n hx hb dXE_obstructionIn_25 rfl (lv_at hl 1 rfl) ?_
          refine lv_iconst (v := 1) hx hb dXE_obstructionIn_26 (by decide) ?_
          refine lv_iload_n hx hb dXE_obstructionIn_27 rfl (lv_at hl 2 rfl) ?_
          refine lv_ishl hx hb dXE_obstructionIn_28 ?_
          refine lv_iconst (v := (-1)) hx hb dXE_obstructionIn_29 (by decide) ?_
          refine lv_ixor hx hb dXE_obstructionIn_30 ?_
          refine lv_iand hx hb dXE_obstructionIn_31 ?_
          refine lv_topi (fun x4_113 ex4_113 => ?_)
          have hm := kl_s ex4_113 hm
          refine lv_istore (lv' := [(4, .int x4_113), (0, .ref (q 3)), (2, .int x2), (3, .int x3)]) hx hb dXE_obstructionIn_32 hl (by decide) rfl (fun ls hl => ?_)
          refine lv_iload_n hx hb dXE_obstructionIn_34 rfl (lv_at hl 2 rfl) ?_
          refine lv_iload_n hx hb dXE_obstructionIn_35 rfl (lv_at hl 3 rfl) ?_
          obtain ⟨r114, hm114, hm⟩ := kb_s hm
          refine k_n0 (As := [.int x2, .int x3]) (rest := []) ⟨hx, hb, hml, hown, hts⟩ (cF_contains l D cA H.size x2 x3 n r114 hm114) ⟨va_cnB 2 hts (gC wd_153) rfl rfl rfl hN.2.2.1 (hts _ wd_36) (by decide +kernel) ⟨Nat.le_of_ble_eq_true rfl, Nat.le_of_ble_eq_true rfl⟩, hts _ wd_152, trivial⟩ hK hN hP hD hS hA rfl hl.1 rfl (Nat.le_of_ble_eq_true rfl) dXE_obstructionIn_36 ⟨Nat.le_of_ble_eq_true rfl, Nat.le_of_ble_eq_true rfl⟩ (fun hz114 H locs hP hD hS => ?_)
          refine lv_if_eq (tgt := 54) hx hb dXE_obstructionIn_39 (by decide) (fun c115 => ?_) (fun c115 => ?_)
          · rw [if_pos c115] at hm
            refine lv_iinc (v := (x3 + 1)) (lv' := [(3, .int (x3 + 1)), (4, .int x4_113), (0, .ref (q 3)), (2, .int x2)]) hx hb dXE_obstructionIn_54 hl (k := 3) rfl rfl (by decide) rfl (fun ls hl => ?_)
            refine lv_goto (tgt := 14) hx hb dXE_obstructionIn_57 (by decide) ?_
            exact ih1 x2 (x3 + 1) st sn lf _ _ _ _ H locs ls hm hP hD hS (lv_sub hl [2, 3, 0] rfl)
          · rw [if_neg c115] at hm
            refine lv_aload_n hx hb dXE_obstructionIn_42 rfl (lv_at hl 1 rfl) ?_
            refine lv_iload hx hb dXE_obstructionIn_43 (lv_at hl 0 rfl) ?_
            obtain ⟨⟨r116, st_116, sn_116, lf_116⟩, hm116, hm⟩ := kb_s hm
            dsimp only at hm
            refine k_vi (As := [.int x4_113]) (rest := []) (w2 := (wE q cA N nr st_116 sn_116 lf_116)) ⟨hx, hb, hml, hown, hts⟩ (cE_clears l D q cA N H.size nr st sn lf x4_113 n r116 st_116 sn_116 lf_116 hm116) (cwV 1 hts (gV wd_333 wd_298 wd_299 wd_39 wd_300) rfl rfl rfl (by decide +kernel) ⟨Nat.le_of_ble_eq_true rfl, Nat.le_of_ble_eq_true rfl⟩) hK hN hP hD hS hA [0, 1, 2, 3] [] [0, 1, 2, 3] ⟨rfl, rfl, by decide, rfl, by decide, by decide, rfl, rfl, by decide⟩ (va_recv hK hP (ci := 1) (q0 := 0) rfl rfl) rfl hl.1 rfl (Nat.le_of_ble_eq_true rfl) dXE_obstructionIn_45 ⟨Nat.le_of_ble_eq_true rfl, Nat.le_of_ble_eq_true rfl⟩ (fun hz116 H locs hP hD hS => ?_)
            refine lv_if_ne (tgt := 54) hx hb dXE_obstructionIn_48 (by decide) (fun c117 => ?_) (fun c117 => ?_)
            · rw [if_neg c117] at hm
              refine lv_iinc (v := (x3 + 1)) (lv' := [(3, .int (x3 + 1)), (4, .int x4_113), (0, .ref (q 3)), (2, .int x2)]) hx hb dXE_obstructionIn_54 hl (k := 3) rfl rfl (by decide) rfl (fun ls hl => ?_)
              refine lv_goto (tgt := 14) hx hb dXE_obstructionIn_57 (by decide) ?_
              exact ih1 x2 (x3 + 1) st_116 sn_116 lf_116 _ _ _ _ H locs ls hm hP hD hS (lv_sub hl [2, 3, 0] rfl)
            · rw [if_pos c117] at hm
              refine lv_iload hx hb dXE_obstructionIn_51 (lv_at hl 0 rfl) ?_
              refine lv_istore_n (lv' := [(2, .int x4_113), (4, .int x4_113), (0, .ref (q 3)), (3, .int x3)]) hx hb dXE_obstructionIn_53 rfl hl (by decide) rfl (fun ls hl => ?_)
              refine lv_iinc (v := (x3 + 1)) (lv' := [(3, .int (x3 + 1)), (2, .int x4_113), (4, .int x4_113), (0, .ref (q 3))]) hx hb dXE_obstructionIn_54 hl (k := 3) rfl rfl (by decide) rfl (fun ls hl => ?_)
              refine lv_goto (tgt := 14) hx hb dXE_obstructionIn_57 (by decide) ?_
              exact ih1 x4_113 (x3 + 1) st_116 sn_116 lf_116 _ _ _ _ H locs ls hm hP hD hS (lv_sub hl [3, 1, 0] rfl)
  exact (key n).1 a1 st sn lf r st_1 sn_1 lf_1 s.heap [] ls hm hP hD va_S.rf hl
