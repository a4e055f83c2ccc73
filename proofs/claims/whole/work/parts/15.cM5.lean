set_option maxHeartbeats 4000000 in
set_option maxRecDepth 100000 in
theorem cM_way (l : Launch) (D : va_G) (q : Nat → Nat) (cA : ClassId) (N : Nat) (sz : Nat) (mr : Nat → Int32) (zn : Int32) (zs : Nat → Int32) (tn : Int32) (ts : Nat → Int32) (yn : Int32) (ys : Nat → Int32) (en : Int32) (es : Nat → Int32) (ew : Int32) (cv : Nat → Int32) (a1 a2 : Int32) (n : Nat) (r : Int32) (hm : mM_way N mr n 0 [a1, a2] = some r) : Met l yXM_way wsXM_way ({ frames := 1, cells := 0, slots := 0, locals := 22 }) (kPc D cA [.ref (q 0), .int a1, .int a2] (wM q cA N mr zn zs tn ts yn ys en es ew cv) sz) (kQi D cA kT (va_A (wM q cA N mr zn zs tn ts yn ys en es ew cv) sz) (wM q cA N mr zn zs tn ts yn ys en es ew cv) r) 0 0 (va_A (wM q cA N mr zn zs tn ts yn ys en es ew cv) sz) := by
  refine k_met (D := D) (cA := cA) (w := (wM q cA N mr zn zs tn ts yn ys en es ew cv)) (sz := sz) (av := [.ref (q 0), .int a1, .int a2]) (cc := cXM_way) (maxL := 7) (ret := (some .int)) (Qc := fun A => kQi D cA kT A (wM q cA N mr zn zs tn ts yn ys en es ew cv) r) (by decide) rfl (Nat.le_of_ble_eq_true rfl) ?_
  intro p e s m below meth c A ls hX hK hN hA hP hD hl
  obtain ⟨hx, hb, hr, hml, hown, hts, hlocks, -⟩ := hX
  have hown : s.vm.findClass RXM = some m.cls := hown
  have hl : lv_has ls 7 [(0, .ref (q 0)), (1, .int a1), (2, .int a2)] := hl
  have hts : ∀ w ∈ W0, w.before _ s = true := fun w h => hts w (List.mem_cons_of_mem _ h)
  have key : ∀ n : Nat, (∀ (x1 x2 : Int32) (r : Int32) (H : Heap) (locs : List Loc) (ls : Array Slot), mM_way N mr n 0 [x1, x2] = some r → va_P D vwCl (wM q cA N mr zn zs tn ts yn ys en es ew cv) H → va_D A (wM q cA N mr zn zs tn ts yn ys en es ew cv) → va_S A s.heap H locs → lv_has ls 7 [(0, .ref (q 0)), (1, .int x1), (2, .int x2)] → W p l e ({ frames := 1, cells := 0, slots := 0, locals := 22 }) s m ([.ref (q 0), .int a1, .int a2] : List Value).toArray below meth c H locs 0 0 (MQ below (kQi D cA kT A (wM q cA N mr zn zs tn ts yn ys en es ew cv) r) ([.ref (q 0), .int a1, .int a2] : List Value).toArray s 0 0 A) (F0 m 0 ls [])) ∧
    (∀ (x1 x2 x3 x4 : Int32) (r : Int32) (H : Heap) (locs : List Loc) (ls : Array Slot), mM_way N mr n 1 [x1, x2, x3, x4] = some r → va_P D vwCl (wM q cA N mr zn zs tn ts yn ys en es ew cv) H → va_D A (wM q cA N mr zn zs tn ts yn ys en es ew cv) → va_S A s.heap H locs → lv_has ls 7 [(0, .ref (q 0)), (1, .int x1), (2, .int x2), (3, .int x3), (4, .int x4)] → W p l e ({ frames := 1, cells := 0, slots := 0, locals := 22 }) s m ([.ref (q 0), .int a1, .int a2] : List Value).toArray below meth c H locs 0 0 (MQ below (kQi D cA kT A (wM q cA N mr zn zs tn ts yn ys en es ew cv) r) ([.ref (q 0), .int a1, .int a2] : List Value).toArray s 0 0 A) (F0 m 25 ls [])) ∧
    (∀ (x1 x2 x3 x4 : Int32) (r : Int32) (H : Heap) (locs : List Loc) (ls : Array Slot), mM_way N mr n 2 [x1, x2, x3, x4] = some r → va_P D vwCl (wM q cA N mr zn zs tn ts yn ys en es ew cv) H → va_D A (wM q cA N mr zn zs tn ts yn ys en es ew cv) → va_S A s.heap H locs → lv_has ls 7 [(0, .ref (q 0)), (1, .int x1), (2, .int x2), (3, .int x3), (4, .int x4)] → W p l e ({ frames := 1, cells := 0, slots := 0, locals := 22 }) s m ([.ref (q 0), .int a1, .int a2] : List Value).toArray below meth c H locs 0 0 (MQ below (kQi D cA kT A (wM q cA N mr zn zs tn ts yn ys en es ew cv) r) ([.ref (q 0), .int a1, .int a2] : List Value).toArray s 0 0 A) (F0 m 87 ls [])) ∧
    (∀ (x1 x2 x3 x4 y0 : Int32) (r : Int32) (H : Heap) (locs : List Loc) (ls : Array Slot), mM_way N mr n 3 [x1, x2, x3, x4, y0] = some r → va_P D vwCl (wM q cA N mr zn zs tn ts yn ys en es ew cv) H → va_D A (wM q cA N mr zn zs tn ts yn ys en es ew cv) → va_S A s.heap H locs → lv_has ls 7 [(0, .ref (q 0)), (1, .int x1), (2, .int x2), (3, .int x3), (4, .int x4)] → W p l e ({ frames := 1, cells := 0, slots := 0, locals := 22 }) s m ([.ref (q 0), .int a1, .int a2] : List Value).toArray below meth c H locs 0 0 (MQ below (kQi D cA kT A (wM q cA N mr zn zs tn ts yn ys en es ew cv) r) ([.ref (q 0), .int a1, .int a2] : List Value).toArray s 0 0 A) (F0 m 88 ls [.int y0])) := by
    intro n
    induction n with
    | zero => exact ⟨(by intros; rename_i h _ _ _ _; rw [mM_way_z] at h; cases h), (by intros; rename_i h _ _ _ _; rw [mM_way_z] at h; cases h), (by intros; rename_i h _ _ _ _; rw [mM_way_z] at h; cases h), (by intros; rename_i h _ _ _ _; rw [mM_way_z] at h; cases h)⟩
    | succ n ih =>
      obtain ⟨ih0, ih1, ih2, ih3⟩ := ih
      refine ⟨?_, ?_, ?_, ?_⟩
      · intro x1 x2 r H locs ls hm hP hD hS hl
        rw [mM_way_e0] at hm
        refine lv_aload_n hx hb dXM_way_0 rfl (lv_at hl 0 rfl) ?_
        refine va_get (D := D) (ci := 5) (v := .ref (q 1)) (C := RXM) (T := TXM) (N := 12) hx hb hts hinXM hown hK hP 0 rfl rfl 1 (by decide) (hts _ wd_390) (fun _ h9 => h9) rfl dXM_way_1 ?_
        refine lv_iload_n hx hb dXM_way_4 rfl (lv_at hl 1 rfl) ?_
        obtain ⟨hg11, hm⟩ := kg_s hm
        refine va_iald hx hb hK hP 1 0 rfl rfl hg11 dXM_way_5 ?_
        refine lv_iload_n hx hb dXM_way_6 rfl (lv_at hl 2 rfl) ?_
        refine lv_iand hx hb dXM_way_7 ?_
        refine lv_topi (fun x3_12 ex3_12 => ?_)
        have hm := kl_s ex3_12 hm
        refine lv_istore_n (lv' := [(3, .int x3_12), (0, .ref (q 0)), (1, .int x1), (2, .int x2)]) hx hb dXM_way_8 rfl hl (by decide) rfl (fun ls hl => ?_)
        refine lv_iload_n hx hb dXM_way_9 rfl (lv_at hl 0 rfl) ?_
        obtain ⟨r13, hm13, hm⟩ := kb_s hm
        refine k_s0 (As := [.int x3_12]) (rest := []) ⟨hx, hb, hml, hown, hts⟩ (cM_size l D cA H.size x3_12 n r13 hm13) (cwS 1 hts (gS wd_446 wd_447 wd_41 wd_448) rfl rfl rfl (by decide +kernel) ⟨Nat.le_of_ble_eq_true rfl, Nat.le_of_ble_eq_true rfl⟩) hK hN hP hD hS hA rfl hl.1 rfl (Nat.le_of_ble_eq_true rfl) dXM_way_10 ⟨Nat.le_of_ble_eq_true rfl, Nat.le_of_ble_eq_true rfl⟩ (fun hz13 H locs hP hD hS => ?_)
        refine lv_iconst (v := 1) hx hb dXM_way_13 (by decide) ?_
        refine lv_icmp_ne (tgt := 22) hx hb dXM_way_14 (by decide) (fun c14 => ?_) (fun c14 => ?_)
        · rw [if_neg c14] at hm
          refine lv_iconst (v := 0) hx hb dXM_way_22 (by decide) ?_
          refine lv_istore (lv' := [(4, .int 0), (3, .int x3_12), (0, .ref (q 0)), (1, .int x1), (2, .int x2)]) hx hb dXM_way_23 hl (by decide) rfl (fun ls hl => ?_)
          exact ih1 x1 x2 x3_12 0 _ H locs ls hm hP hD hS (lv_sub hl [2, 3, 4, 1, 0] rfl)
        · rw [if_pos c14] at hm
          refine lv_iload_n hx hb dXM_way_17 rfl (lv_at hl 0 rfl) ?_
          obtain ⟨r15, hm15, hm⟩ := kb_s hm
          refine k_s0 (As := [.int x3_12]) (rest := []) ⟨hx, hb, hml, hown, hts⟩ (cM_least l D cA H.size x3_12 n r15 hm15) (cwS 1 hts (gS wd_443 wd_444 wd_41 wd_445) rfl rfl rfl (by decide +kernel) ⟨Nat.le_of_ble_eq_true rfl, Nat.le_of_ble_eq_true rfl⟩) hK hN hP hD hS hA rfl hl.1 rfl (Nat.le_of_ble_eq_true rfl) dXM_way_18 ⟨Nat.le_of_ble_eq_true rfl, Nat.le_of_ble_eq_true rfl⟩ (fun hz15 H locs hP hD hS => ?_)
          cases hm
          exact k_iret hx hb hr hlocks hK hP hD hS trivial dXM_way_21
      · intro x1 x2 x3 x4 r H locs ls hm hP hD hS hl
        rw [mM_way_e1] at hm
        refine lv_iload hx hb dXM_way_25 (lv_at hl 4 rfl) ?_
        refine lv_aload_n hx hb dXM_way_27 rfl (lv_at hl 0 rfl) ?_
        refine va_get (D := D) (ci := 5) (v := .int (nI N)) (C := RXM) (T := TXM) (N := 12) hx hb hts hinXM hown hK hP 0 rfl rfl 0 (by decide) (hts _ wd_389) (fun _ h9 => h9) rfl dXM_way_28 ?_
        refine lv_icmp_ge (tgt := 122) hx hb dXM_way_31 (by decide) (fun c111 => ?_) (fun c111 => ?_)
        · rw [if_pos c111] at hm
          refine lv_iconst (v := (-1)) hx hb dXM_way_122 (by decide) ?_
          cases hm
          exact k_iret hx hb hr hlocks hK hP hD hS trivial dXM_way_123
        · rw [if_neg c111] at hm
          refine lv_iconst (v := 1) hx hb dXM_way_34 (by decide) ?_
          refine lv_iload_n hx hb dXM_way_35 rfl (lv_at hl 1 rfl) ?_
          refine lv_ishl hx hb dXM_way_36 ?_
          refine lv_iconst (v := 1) hx hb dXM_way_37 (by decide) ?_
          refine lv_iload hx hb dXM_way_38 (lv_at hl 4 rfl) ?_
          refine lv_ishl hx hb dXM_way_40 ?_
          refine lv_ior hx hb dXM_way_41 ?_
          refine lv_topi (fun x5_112 ex5_112 => ?_)
          have hm := kl_s ex5_112 hm
          refine lv_istore (lv' := [(5, .int x5_112), (0, .ref (q 0)), (1, .int x1), (2, .int x2), (3, .int x3), (4, .int x4)]) hx hb dXM_way_42 hl (by decide) rfl (fun ls hl => ?_)
          refine lv_iload hx hb dXM_way_44 (lv_at hl 5 rfl) ?_
          refine lv_iload_n hx hb dXM_way_46 rfl (lv_at hl 2 rfl) ?_
          refine lv_icmp_eq (tgt := 87) hx hb dXM_way_47 (by decide) (fun c113 => ?_) (fun c113 => ?_)
          · rw [if_pos c113] at hm
            exact ih2 x1 x2 x3 x4 _ H locs ls hm hP hD hS (lv_sub hl [1, 2, 3, 4, 5] rfl)
          · rw [if_neg c113] at hm
            refine lv_iload_n hx hb dXM_way_50 rfl (lv_at hl 3 rfl) ?_
            refine lv_iload hx hb dXM_way_51 (lv_at hl 5 rfl) ?_
            refine lv_ishr hx hb dXM_way_53 ?_
            refine lv_iconst (v := 1) hx hb dXM_way_54 (by decide) ?_
            refine lv_iand hx hb dXM_way_55 ?_
            refine lv_iconst (v := 1) hx hb dXM_way_56 (by decide) ?_
            refine lv_icmp_ne (tgt := 87) hx hb dXM_way_57 (by decide) (fun c114 => ?_) (fun c114 => ?_)
            · rw [if_neg c114] at hm
              exact ih2 x1 x2 x3 x4 _ H locs ls hm hP hD hS (lv_sub hl [1, 2, 3, 4, 5] rfl)
            · rw [if_pos c114] at hm
              refine lv_iload_n hx hb dXM_way_60 rfl (lv_at hl 4 rfl) ?_
              refine lv_iload hx hb dXM_way_61 (lv_at hl 0 rfl) ?_
              refine lv_iconst (v := (-1)) hx hb dXM_way_63 (by decide) ?_
              refine lv_ixor hx hb dXM_way_64 ?_
              refine lv_iand hx hb dXM_way_65 ?_
              refine lv_aload_n hx hb dXM_way_66 rfl (lv_at hl 1 rfl) ?_
              refine va_get (D := D) (ci := 5) (v := .ref (q 1)) (C := RXM) (T := TXM) (N := 12) hx hb hts hinXM hown hK hP 0 rfl rfl 1 (by decide) (hts _ wd_390) (fun _ h9 => h9) rfl dXM_way_67 ?_
              refine lv_iload hx hb dXM_way_70 (lv_at hl 5 rfl) ?_
              obtain ⟨hg115, hm⟩ := kg_s hm
              refine va_iald hx hb hK hP 1 0 rfl rfl hg115 dXM_way_72 ?_
              refine lv_iload_n hx hb dXM_way_73 rfl (lv_at hl 3 rfl) ?_
              refine lv_iand hx hb dXM_way_74 ?_
              refine lv_iload hx hb dXM_way_75 (lv_at hl 0 rfl) ?_
              refine lv_iconst (v := (-1)) hx hb dXM_way_77 (by decide) ?_
              refine lv_ixor hx hb dXM_way_78 ?_
              refine lv_iand hx hb dXM_way_79 ?_
              refine lv_icmp_ne (tgt := 87) hx hb dXM_way_80 (by decide) (fun c116 => ?_) (fun c116 => ?_)
              · rw [if_neg c116] at hm
                exact ih2 x1 x2 x3 x4 _ H locs ls hm hP hD hS (lv_sub hl [1, 2, 3, 4, 5] rfl)
              · rw [if_pos c116] at hm
                refine lv_iconst (v := 1) hx hb dXM_way_83 (by decide) ?_
                refine lv_goto (tgt := 88) hx hb dXM_way_84 (by decide) ?_
                exact ih3 x1 x2 x3 x4 1 _ H locs ls hm hP hD hS (lv_sub hl [1, 2, 3, 4, 5] rfl)
      · intro x1 x2 x3 x4 r H locs ls hm hP hD hS hl
        rw [mM_way_e2] at hm
        refine lv_iconst (v := 0) hx hb dXM_way_87 (by decide) ?_
        exact ih3 x1 x2 x3 x4 0 _ H locs ls hm hP hD hS (lv_sub hl [0, 1, 2, 3, 4] rfl)
      · intro x1 x2 x3 x4 y0 r H locs ls hm hP hD hS hl
        rw [mM_way_e3] at hm
        refine lv_istore (lv' := [(6, .int y0), (0, .ref (q 0)), (1, .int x1), (2, .int x2), (3, .int x3), (4, .int x4)]) hx hb dXM_way_88 hl (by decide) rfl (fun ls hl => ?_)
        refine lv_iload hx hb dXM_way_90 (lv_at hl 0 rfl) ?_
        refine lv_if_eq (tgt := 116) hx hb dXM_way_92 (by decide) (fun c311 => ?_) (fun c311 => ?_)
        · rw [if_pos c311] at hm
          refine lv_iinc (v := (x4 + 1)) (lv' := [(4, .int (x4 + 1)), (6, .int y0), (0, .ref (q 0)), (1, .int x1), (2, .int x2), (3, .int x3)]) hx hb dXM_way_116 hl (k := 5) rfl rfl (by decide) rfl (fun ls hl => ?_)
          refine lv_goto (tgt := 25) hx hb dXM_way_119 (by decide) ?_
          exact ih1 x1 x2 x3 (x4 + 1) _ H locs ls hm hP hD hS (lv_sub hl [2, 3, 4, 5, 0] rfl)
        · rw [if_neg c311] at hm
          refine lv_iload hx hb dXM_way_95 (lv_at hl 5 rfl) ?_
          refine lv_iload_n hx hb dXM_way_97 rfl (lv_at hl 4 rfl) ?_
          refine lv_iload hx hb dXM_way_98 (lv_at hl 5 rfl) ?_
          refine lv_ishr hx hb dXM_way_100 ?_
          refine lv_iconst (v := 1) hx hb dXM_way_101 (by decide) ?_
          refine lv_iand hx hb dXM_way_102 ?_
          refine lv_iconst (v := 1) hx hb dXM_way_103 (by decide) ?_
          refine lv_icmp_ne (tgt := 112) hx hb dXM_way_104 (by decide) (fun c312 => ?_) (fun c312 => ?_)
          · rw [if_neg c312] at hm
            refine lv_bipush (v := 16) hx hb dXM_way_112 (by decide) ?_
            refine lv_iadd hx hb dXM_way_114 ?_
            cases hm
            exact k_iret hx hb hr hlocks hK hP hD hS trivial dXM_way_115
          · rw [if_pos c312] at hm
            refine lv_bipush (v := 32) hx hb dXM_way_107 (by decide) ?_
            refine lv_goto (tgt := 114) hx hb dXM_way_109 (by decide) ?_
            refine lv_iadd hx hb dXM_way_114 ?_
            cases hm
            exact k_iret hx hb hr hlocks hK hP hD hS trivial dXM_way_115
  exact (key n).1 a1 a2 r s.heap [] ls hm hP hD va_S.rf hl
set_option maxHeartbeats 4000000 in
set_option maxRecDepth 100000 in
theorem cM_eliminate (l : Launch) (D : va_G) (q : Nat → Nat) (cA : ClassId) (N : Nat) (sz : Nat) (mr : Nat → Int32) (zn : Int32) (zs : Nat → Int32) (tn : Int32) (ts : Nat → Int32) (yn : Int32) (ys : Nat → Int32) (en : Int32) (es : Nat → Int32) (ew : Int32) (cv : Nat → Int32) (a1 : Int32) (n : Nat) (en_1 : Int32) (es_1 : Nat → Int32) (ew_1 : Int32) (hm : mM_eliminate N mr n 0 [a1] en es ew = some (en_1, es_1, ew_1)) : Met l yXM_eliminate wsXM_eliminate ({ frames := 2, cells := 0, slots := 0, locals := 48 }) (kPc D cA [.ref (q 0), .int a1] (wM q cA N mr zn zs tn ts yn ys en es ew cv) sz) (kQv D cA (va_A (wM q cA N mr zn zs tn ts yn ys en es ew cv) sz) (wM q cA N mr zn zs tn ts yn ys en_1 es_1 ew_1 cv)) 0 0 (va_A (wM q cA N mr zn zs tn ts yn ys en es ew cv) sz) := by
  refine k_met (D := D) (cA := cA) (w := (wM q cA N mr zn zs tn ts yn ys en es ew cv)) (sz := sz) (av := [.ref (q 0), .int a1]) (cc := cXM_eliminate) (maxL := 5) (ret := none) (Qc := fun A => kQv D cA A (wM q cA N mr zn zs tn ts yn ys en_1 es_1 ew_1 cv)) (by decide) rfl (Nat.le_of_ble_eq_true rfl) ?_
  intro p e s m below meth c A ls hX hK hN hA hP hD hl
  obtain ⟨hx, hb, hr, hml, hown, hts, hlocks, -⟩ := hX
  have hown : s.vm.findClass RXM = some m.cls := hown
  have hl : lv_has ls 5 [(0, .ref (q 0)), (1, .int a1)] := hl
  have hts : ∀ w ∈ W0, w.before _ s = true := fun w h => hts w (List.mem_cons_of_mem _ h)
  have key : ∀ n : Nat, (∀ (x1 : Int32) (en : Int32) (es : Nat → Int32) (ew : Int32) (en_1 : Int32) (es_1 : Nat → Int32) (ew_1 : Int32) (H : Heap) (locs : List Loc) (ls : Array Slot), mM_eliminate N mr n 0 [x1] en es ew = some (en_1, es_1, ew_1) → va_P D vwCl (wM q cA N mr zn zs tn ts yn ys en es ew cv) H → va_D A (wM q cA N mr zn zs tn ts yn ys en es ew cv) → va_S A s.heap H locs → lv_has ls 5 [(0, .ref (q 0)), (1, .int x1)] → W p l e ({ frames := 2, cells := 0, slots := 0, locals := 48 }) s m ([.ref (q 0), .int a1] : List Value).toArray below meth c H locs 0 0 (MQ below (kQv D cA A (wM q cA N mr zn zs tn ts yn ys en_1 es_1 ew_1 cv)) ([.ref (q 0), .int a1] : List Value).toArray s 0 0 A) (F0 m 0 ls [])) ∧
    (∀ (x2 y0 : Int32) (en : Int32) (es : Nat → Int32) (ew : Int32) (en_1 : Int32) (es_1 : Nat → Int32) (ew_1 : Int32) (H : Heap) (locs : List Loc) (ls : Array Slot), mM_eliminate N mr n 1 [x2, y0] en es ew = some (en_1, es_1, ew_1) → va_P D vwCl (wM q cA N mr zn zs tn ts yn ys en es ew cv) H → va_D A (wM q cA N mr zn zs tn ts yn ys en es ew cv) → va_S A s.heap H locs → lv_has ls 5 [(0, .ref (q 0)), (2, .int x2)] → W p l e ({ frames := 2, cells := 0, slots := 0, locals := 48 }) s m ([.ref (q 0), .int a1] : List Value).toArray below meth c H locs 0 0 (MQ below (kQv D cA A (wM q cA N mr zn zs tn ts yn ys en_1 es_1 ew_1 cv)) ([.ref (q 0), .int a1] : List Value).toArray s 0 0 A) (F0 m 20 ls [.int y0])) ∧
    (∀ (x2 x3 : Int32) (en : Int32) (es : Nat → Int32) (ew : Int32) (en_1 : Int32) (es_1 : Nat → Int32) (ew_1 : Int32) (H : Heap) (locs : List Loc) (ls : Array Slot), mM_eliminate N mr n 2 [x2, x3] en es ew = some (en_1, es_1, ew_1) → va_P D vwCl (wM q cA N mr zn zs tn ts yn ys en es ew cv) H → va_D A (wM q cA N mr zn zs tn ts yn ys en es ew cv) → va_S A s.heap H locs → lv_has ls 5 [(0, .ref (q 0)), (2, .int x2), (3, .int x3)] → W p l e ({ frames := 2, cells := 0, slots := 0, locals := 48 }) s m ([.ref (q 0), .int a1] : List Value).toArray below meth c H locs 0 0 (MQ below (kQv D cA A (wM q cA N mr zn zs tn ts yn ys en_1 es_1 ew_1 cv)) ([.ref (q 0), .int a1] : List Value).toArray s 0 0 A) (F0 m 21 ls [])) ∧
    (∀ (x2 x4 : Int32) (en : Int32) (es : Nat → Int32) (ew : Int32) (en_1 : Int32) (es_1 : Nat → Int32) (ew_1 : Int32) (H : Heap) (locs : List Loc) (ls : Array Slot), mM_eliminate N mr n 3 [x2, x4] en es ew = some (en_1, es_1, ew_1) → va_P D vwCl (wM q cA N mr zn zs tn ts yn ys en es ew cv) H → va_D A (wM q cA N mr zn zs tn ts yn ys en es ew cv) → va_S A s.heap H locs → lv_has ls 5 [(0, .ref (q 0)), (2, .int x2), (4, .int x4)] → W p l e ({ frames := 2, cells := 0, slots := 0, locals := 48 }) s m ([.ref (q 0), .int a1] : List Value).toArray below meth c H locs 0 0 (MQ below (kQv D cA A (wM q cA N mr zn zs tn ts yn ys en_1 es_1 ew_1 cv)) ([.ref (q 0), .int a1] : List Value).toArray s 0 0 A) (F0 m 29 ls [])) ∧
    (∀ (x2 x4 : Int32) (en : Int32) (es : Nat → Int32) (ew : Int32) (en_1 : Int32) (es_1 : Nat → Int32) (ew_1 : Int32) (H : Heap) (locs : List Loc) (ls : Array Slot), mM_eliminate N mr n 4 [x2, x4] en es ew = some (en_1, es_1, ew_1) → va_P D vwCl (wM q cA N mr zn zs tn ts yn ys en es ew cv) H → va_D A (wM q cA N mr zn zs tn ts yn ys en es ew cv) → va_S A s.heap H locs → lv_has ls 5 [(0, .ref (q 0)), (2, .int x2), (4, .int x4)] → W p l e ({ frames := 2, cells := 0, slots := 0, locals := 48 }) s m ([.ref (q 0), .int a1] : List Value).toArray below meth c H locs 0 0 (MQ below (kQv D cA A (wM q cA N mr zn zs tn ts yn ys en_1 es_1 ew_1 cv)) ([.ref (q 0), .int a1] : List Value).toArray s 0 0 A) (F0 m 60 ls [])) ∧
    (∀ (x2 x4 : Int32) (en : Int32) (es : Nat → Int32) (ew : Int32) (en_1 : Int32) (es_1 : Nat → Int32) (ew_1 : Int32) (H : Heap) (locs : List Loc) (ls : Array Slot), mM_eliminate N mr n 5 [x2, x4] en es ew = some (en_1, es_1, ew_1) → va_P D vwCl (wM q cA N mr zn zs tn ts yn ys en es ew cv) H → va_D A (wM q cA N mr zn zs tn ts yn ys en es ew cv) → va_S A s.heap H locs → lv_has ls 5 [(0, .ref (q 0)), (2, .int x2), (4, .int x4)] → W p l e ({ frames := 2, cells := 0, slots := 0, locals := 48 }) s m ([.ref (q 0), .int a1] : List Value).toArray below meth c H locs 0 0 (MQ below (kQv D cA A (wM q cA N mr zn zs tn ts yn ys en_1 es_1 ew_1 cv)) ([.ref (q 0), .int a1] : List Value).toArray s 0 0 A) (F0 m 106 ls [])) := by
    intro n
    induction n with
    | zero => exact ⟨(by intros; rename_i h _ _ _ _; rw [mM_eliminate_z] at h; cases h), (by intros; rename_i h _ _ _ _; rw [mM_eliminate_z] at h; cases h), (by intros; rename_i h _ _ _ _; rw [mM_eliminate_z] at h; cases h), (by intros; rename_i h _ _ _ _; rw [mM_eliminate_z] at h; cases h), (by intros; rename_i h _ _ _ _; rw [mM_eliminate_z] at h; cases h), (by intros; rename_i h _ _ _ _; rw [mM_eliminate_z] at h; cases h)⟩
    | succ n ih =>
      obtain ⟨ih0, ih1, ih2, ih3, ih4, ih5⟩ := ih
      refine ⟨?_, ?_, ?_, ?_, ?_, ?_⟩
      · intro x1 en es ew en_1 es_1 ew_1 H locs ls hm hP hD hS hl
        rw [mM_eliminate_e0] at hm
        refine lv_iload_n hx hb dXM_eliminate_0 rfl (lv_at hl 1 rfl) ?_
        refine lv_istore_n (lv' := [(2, .int x1), (0, .ref (q 0)), (1, .int x1)]) hx hb dXM_eliminate_1 rfl hl (by decide) rfl (fun ls hl => ?_)
        refine lv_aload_n hx hb dXM_eliminate_2 rfl (lv_at hl 1 rfl) ?_
        refine lv_iconst (v := 0) hx hb dXM_eliminate_3 (by decide) ?_
        refine va_put (D := D) (ci := 5) (v := .int 0) (ty := .int) (C := RXM) (T := TXM) (N := 12) hx hb hts hinXM tyXM tyXM_ok nXM hown hK hP hD hS 0 rfl rfl 8 (by decide) (hts _ wd_397) (fun _ h9 => h9) rfl (by decide +kernel) rfl rfl (Nat.le_of_ble_eq_true rfl) dXM_eliminate_4 (fun H locs hP hD hS => ?_)
        have hP : va_P D vwCl (wM q cA N mr zn zs tn ts yn ys 0 es ew cv) H := hP
        have hD : va_D A (wM q cA N mr zn zs tn ts yn ys 0 es ew cv) := hD
        refine lv_iload_n hx hb dXM_eliminate_7 rfl (lv_at hl 0 rfl) ?_
        obtain ⟨r11, hm11, hm⟩ := kb_s hm
        refine k_s0 (As := [.int x1]) (rest := []) ⟨hx, hb, hml, hown, hts⟩ (cM_size l D cA H.size x1 n r11 hm11) (cwS 1 hts (gS wd_446 wd_447 wd_41 wd_448) rfl rfl rfl (by decide +kernel) ⟨Nat.le_of_ble_eq_true rfl, Nat.le_of_ble_eq_true rfl⟩) hK hN hP hD hS hA rfl hl.1 rfl (Nat.le_of_ble_eq_true rfl) dXM_eliminate_8 ⟨Nat.le_of_ble_eq_true rfl, Nat.le_of_ble_eq_true rfl⟩ (fun hz11 H locs hP hD hS => ?_)
        refine lv_iconst (v := 1) hx hb dXM_eliminate_11 (by decide) ?_
        refine lv_icmp_le (tgt := 19) hx hb dXM_eliminate_12 (by decide) (fun c12 => ?_) (fun c12 => ?_)
        · rw [if_pos c12] at hm
          refine lv_iconst (v := 0) hx hb dXM_eliminate_19 (by decide) ?_
          exact ih1 x1 0 0 es ew _ _ _ H locs ls hm hP hD hS (lv_sub hl [1, 0] rfl)
        · rw [if_neg c12] at hm
          refine lv_iconst (v := 1) hx hb dXM_eliminate_15 (by decide) ?_
          refine lv_goto (tgt := 20) hx hb dXM_eliminate_16 (by decide) ?_
          exact ih1 x1 1 0 es ew _ _ _ H locs ls hm hP hD hS (lv_sub hl [1, 0] rfl)
      · intro x2 y0 en es ew en_1 es_1 ew_1 H locs ls hm hP hD hS hl
        rw [mM_eliminate_e1] at hm
        refine lv_istore_n (lv' := [(3, .int y0), (0, .ref (q 0)), (2, .int x2)]) hx hb dXM_eliminate_20 rfl hl (by decide) rfl (fun ls hl => ?_)
        exact ih2 x2 y0 en es ew _ _ _ H locs ls hm hP hD hS (lv_sub hl [1, 2, 0] rfl)
      · intro x2 x3 en es ew en_1 es_1 ew_1 H locs ls hm hP hD hS hl
        rw [mM_eliminate_e2] at hm
        refine lv_iload_n hx hb dXM_eliminate_21 rfl (lv_at hl 2 rfl) ?_
        refine lv_if_eq (tgt := 128) hx hb dXM_eliminate_22 (by decide) (fun c211 => ?_) (fun c211 => ?_)
        · rw [if_pos c211] at hm
          refine lv_aload_n hx hb dXM_eliminate_128 rfl (lv_at hl 0 rfl) ?_
          refine lv_iload_n hx hb dXM_eliminate_129 rfl (lv_at hl 1 rfl) ?_
          obtain ⟨r212, hm212, hm⟩ := kb_s hm
          refine k_s0 (As := [.int x2]) (rest := [.ref (q 0)]) ⟨hx, hb, hml, hown, hts⟩ (cM_size l D cA H.size x2 n r212 hm212) (cwS 1 hts (gS wd_446 wd_447 wd_41 wd_448) rfl rfl rfl (by decide +kernel) ⟨Nat.le_of_ble_eq_true rfl, Nat.le_of_ble_eq_true rfl⟩) hK hN hP hD hS hA rfl hl.1 rfl (Nat.le_of_ble_eq_true rfl) dXM_eliminate_130 ⟨Nat.le_of_ble_eq_true rfl, Nat.le_of_ble_eq_true rfl⟩ (fun hz212 H locs hP hD hS => ?_)
          refine lv_iconst (v := 1) hx hb dXM_eliminate_133 (by decide) ?_
          refine lv_icmp_gt (tgt := 141) hx hb dXM_eliminate_134 (by decide) (fun c213 => ?_) (fun c213 => ?_)
          · rw [if_pos c213] at hm
            refine lv_iconst (v := 0) hx hb dXM_eliminate_141 (by decide) ?_
            refine va_put (D := D) (ci := 5) (v := .int 0) (ty := .boolean) (C := RXM) (T := TXM) (N := 12) hx hb hts hinXM tyXM tyXM_ok nXM hown hK hP hD hS 0 rfl rfl 10 (by decide) (hts _ wd_399) (fun _ h9 => h9) rfl (by decide +kernel) rfl rfl (Nat.le_of_ble_eq_true rfl) dXM_eliminate_142 (fun H locs hP hD hS => ?_)
            have hP : va_P D vwCl (wM q cA N mr zn zs tn ts yn ys en es 0 cv) H := hP
            have hD : va_D A (wM q cA N mr zn zs tn ts yn ys en es 0 cv) := hD
            cases hm
            exact k_vret hx hb hr hlocks hK hP hD hS dXM_eliminate_145
          · rw [if_neg c213] at hm
            refine lv_iconst (v := 1) hx hb dXM_eliminate_137 (by decide) ?_
            refine lv_goto (tgt := 142) hx hb dXM_eliminate_138 (by decide) ?_
            refine va_put (D := D) (ci := 5) (v := .int 1) (ty := .boolean) (C := RXM) (T := TXM) (N := 12) hx hb hts hinXM tyXM tyXM_ok nXM hown hK hP hD hS 0 rfl rfl 10 (by decide) (hts _ wd_399) (fun _ h9 => h9) rfl (by decide +kernel) rfl rfl (Nat.le_of_ble_eq_true rfl) dXM_eliminate_142 (fun H locs hP hD hS => ?_)
            have hP : va_P D vwCl (wM q cA N mr zn zs tn ts yn ys en es 1 cv) H := hP
            have hD : va_D A (wM q cA N mr zn zs tn ts yn ys en es 1 cv) := hD
            cases hm
            exact k_vret hx hb hr hlocks hK hP hD hS dXM_eliminate_145
        · rw [if_neg c211] at hm
          refine lv_bipush (v := 8) hx hb dXM_eliminate_25 (by decide) ?_
          refine lv_istore (lv' := [(4, .int 8), (0, .ref (q 0)), (2, .int x2), (3, .int x3)]) hx hb dXM_eliminate_27 hl (by decide) rfl (fun ls hl => ?_)
          exact ih3 x2 8 en es ew _ _ _ H locs ls hm hP hD hS (lv_sub hl [1, 2, 0] rfl)
      · intro x2 x4 en es ew en_1 es_1 ew_1 H locs ls hm hP hD hS hl
        rw [mM_eliminate_e3] at hm
        refine lv_iload hx hb dXM_eliminate_29 (lv_at hl 2 rfl) ?_
        refine lv_if_lt (tgt := 60) hx hb dXM_eliminate_31 (by decide) (fun c311 => ?_) (fun c311 => ?_)
        · rw [if_pos c311] at hm
          exact ih4 x2 x4 en es ew _ _ _ H locs ls hm hP hD hS (lv_sub hl [0, 1, 2] rfl)
        · rw [if_neg c311] at hm
          refine lv_iload_n hx hb dXM_eliminate_34 rfl (lv_at hl 1 rfl) ?_
          refine lv_iload hx hb dXM_eliminate_35 (lv_at hl 2 rfl) ?_
          refine lv_ishr hx hb dXM_eliminate_37 ?_
          refine lv_iconst (v := 1) hx hb dXM_eliminate_38 (by decide) ?_
          refine lv_iand hx hb dXM_eliminate_39 ?_
          refine lv_if_eq (tgt := 54) hx hb dXM_eliminate_40 (by decide) (fun c312 => ?_) (fun c312 => ?_)
          · rw [if_pos c312] at hm
            refine lv_iinc (v := (x4 + (-1))) (lv' := [(4, .int (x4 + (-1))), (0, .ref (q 0)), (2, .int x2)]) hx hb dXM_eliminate_54 hl (k := 2) rfl rfl (by decide) rfl (fun ls hl => ?_)
            refine lv_goto (tgt := 29) hx hb dXM_eliminate_57 (by decide) ?_
            exact ih3 x2 (x4 + (-1)) en es ew _ _ _ H locs ls hm hP hD hS (lv_sub hl [1, 2, 0] rfl)
          · rw [if_neg c312] at hm
            refine lv_aload_n hx hb dXM_eliminate_43 rfl (lv_at hl 0 rfl) ?_
            refine lv_iload hx hb dXM_eliminate_44 (lv_at hl 2 rfl) ?_
            refine lv_iload_n hx hb dXM_eliminate_46 rfl (lv_at hl 1 rfl) ?_
            obtain ⟨r313, hm313, hm⟩ := kb_s hm
            refine k_vi (As := [.int x4, .int x2]) (rest := []) (w2 := (wM q cA N mr zn zs tn ts yn ys en es ew cv)) ⟨hx, hb, hml, hown, hts⟩ (cM_way l D q cA N H.size mr zn zs tn ts yn ys en es ew cv x4 x2 n r313 hm313) (cwV 2 hts (gV wd_517 wd_518 wd_31 wd_41 wd_519) rfl rfl rfl (by decide +kernel) ⟨Nat.le_of_ble_eq_true rfl, Nat.le_of_ble_eq_true rfl⟩) hK hN hP hD hS hA [0, 1, 2, 3, 4, 5, 6] [] [0, 1, 2, 3, 4, 5, 6] ⟨rfl, rfl, by decide, rfl, by decide, by decide, rfl, rfl, by decide⟩ (va_recv hK hP (ci := 5) (q0 := 0) rfl rfl) rfl hl.1 rfl (Nat.le_of_ble_eq_true rfl) dXM_eliminate_47 ⟨Nat.le_of_ble_eq_true rfl, Nat.le_of_ble_eq_true rfl⟩ (fun hz313 H locs hP hD hS => ?_)
            refine lv_iconst (v := (-1)) hx hb dXM_eliminate_50 (by decide) ?_
            refine lv_icmp_ne (tgt := 60) hx hb dXM_eliminate_51 (by decide) (fun c314 => ?_) (fun c314 => ?_)
            · rw [if_neg c314] at hm
              exact ih4 x2 x4 en es ew _ _ _ H locs ls hm hP hD hS (lv_sub hl [0, 1, 2] rfl)
            · rw [if_pos c314] at hm
              refine lv_iinc (v := (x4 + (-1))) (lv' := [(4, .int (x4 + (-1))), (0, .ref (q 0)), (2, .int x2)]) hx hb dXM_eliminate_54 hl (k := 2) rfl rfl (by decide) rfl (fun ls hl => ?_)
              refine lv_goto (tgt := 29) hx hb dXM_eliminate_57 (by decide) ?_
              exact ih3 x2 (x4 + (-1)) en es ew _ _ _ H locs ls hm hP hD hS (lv_sub hl [1, 2, 0] rfl)
      · intro x2 x4 en es ew en_1 es_1 ew_1 H locs ls hm hP hD hS hl
        rw [mM_eliminate_e4] at hm
        refine lv_iload hx hb dXM_eliminate_60 (lv_at hl 2 rfl) ?_
        refine lv_if_lt (tgt := 106) hx hb dXM_eliminate_62 (by decide) (fun c411 => ?_) (fun c411 => ?_)
        · rw [if_pos c411] at hm
          exact ih5 x2 x4 en es ew _ _ _ H locs ls hm hP hD hS (lv_sub hl [0, 1, 2] rfl)
        · rw [if_neg c411] at hm
          refine lv_aload_n hx hb dXM_eliminate_65 rfl (lv_at hl 0 rfl) ?_
          refine va_get (D := D) (ci := 5) (v := .ref (q 5)) (C := RXM) (T := TXM) (N := 12) hx hb hts hinXM hown hK hP 0 rfl rfl 9 (by decide) (hts _ wd_398) (fun _ h9 => h9) rfl dXM_eliminate_66 ?_
          refine lv_aload_n hx hb dXM_eliminate_69 rfl (lv_at hl 0 rfl) ?_
          refine va_get (D := D) (ci := 5) (v := .int en) (C := RXM) (T := TXM) (N := 12) hx hb hts hinXM hown hK hP 0 rfl rfl 8 (by decide) (hts _ wd_397) (fun _ h9 => h9) rfl dXM_eliminate_70 ?_
          refine lv_iload hx hb dXM_eliminate_73 (lv_at hl 2 rfl) ?_
          refine lv_bipush (v := 16) hx hb dXM_eliminate_75 (by decide) ?_
          refine lv_aload_n hx hb dXM_eliminate_77 rfl (lv_at hl 0 rfl) ?_
          refine lv_iload hx hb dXM_eliminate_78 (lv_at hl 2 rfl) ?_
          refine lv_iload_n hx hb dXM_eliminate_80 rfl (lv_at hl 1 rfl) ?_
          obtain ⟨r412, hm412, hm⟩ := kb_s hm
          refine k_vi (As := [.int x4, .int x2]) (rest := [.int 16, .int x4, .int en, .ref (q 5)]) (w2 := (wM q cA N mr zn zs tn ts yn ys en es ew cv)) ⟨hx, hb, hml, hown, hts⟩ (cM_way l D q cA N H.size mr zn zs tn ts yn ys en es ew cv x4 x2 n r412 hm412) (cwV 2 hts (gV wd_517 wd_518 wd_31 wd_41 wd_519) rfl rfl rfl (by decide +kernel) ⟨Nat.le_of_ble_eq_true rfl, Nat.le_of_ble_eq_true rfl⟩) hK hN hP hD hS hA [0, 1, 2, 3, 4, 5, 6] [] [0, 1, 2, 3, 4, 5, 6] ⟨rfl, rfl, by decide, rfl, by decide, by decide, rfl, rfl, by decide⟩ (va_recv hK hP (ci := 5) (q0 := 0) rfl rfl) rfl hl.1 rfl (Nat.le_of_ble_eq_true rfl) dXM_eliminate_81 ⟨Nat.le_of_ble_eq_true rfl, Nat.le_of_ble_eq_true rfl⟩ (fun hz412 H locs hP hD hS => ?_)
          refine lv_imul hx hb dXM_eliminate_84 ?_
          refine lv_iadd hx hb dXM_eliminate_85 ?_
          obtain ⟨hg413, hm⟩ := kg_s hm
          refine va_iast hx hb hK hP hD hS 5 0 rfl rfl hg413 dXM_eliminate_86 (fun H locs hP hD hS => ?_)
          have hP : va_P D vwCl (wM q cA N mr zn zs tn ts yn ys en (upd es en.toNatClampNeg (x4 + (16 * r412))) ew cv) H := hP
          have hD : va_D A (wM q cA N mr zn zs tn ts yn ys en (upd es en.toNatClampNeg (x4 + (16 * r412))) ew cv) := hD
          refine lv_aload_n hx hb dXM_eliminate_87 rfl (lv_at hl 0 rfl) ?_
          refine lv_dup hx hb dXM_eliminate_88 rfl ?_
          refine va_get (D := D) (ci := 5) (v := .int en) (C := RXM) (T := TXM) (N := 12) hx hb hts hinXM hown hK hP 0 rfl rfl 8 (by decide) (hts _ wd_397) (fun _ h9 => h9) rfl dXM_eliminate_89 ?_
          refine lv_iconst (v := 1) hx hb dXM_eliminate_92 (by decide) ?_
          refine lv_iadd hx hb dXM_eliminate_93 ?_
          refine va_put (D := D) (ci := 5) (v := .int (en + 1)) (ty := .int) (C := RXM) (T := TXM) (N := 12) hx hb hts hinXM tyXM tyXM_ok nXM hown hK hP hD hS 0 rfl rfl 8 (by decide) (hts _ wd_397) (fun _ h9 => h9) rfl (by decide +kernel) rfl rfl (Nat.le_of_ble_eq_true rfl) dXM_eliminate_94 (fun H locs hP hD hS => ?_)
          have hP : va_P D vwCl (wM q cA N mr zn zs tn ts yn ys (en + 1) (upd es en.toNatClampNeg (x4 + (16 * r412))) ew cv) H := hP
          have hD : va_D A (wM q cA N mr zn zs tn ts yn ys (en + 1) (upd es en.toNatClampNeg (x4 + (16 * r412))) ew cv) := hD
          refine lv_iload_n hx hb dXM_eliminate_97 rfl (lv_at hl 1 rfl) ?_
          refine lv_iconst (v := 1) hx hb dXM_eliminate_98 (by decide) ?_
          refine lv_iload hx hb dXM_eliminate_99 (lv_at hl 2 rfl) ?_
          refine lv_ishl hx hb dXM_eliminate_101 ?_
          refine lv_iconst (v := (-1)) hx hb dXM_eliminate_102 (by decide) ?_
          refine lv_ixor hx hb dXM_eliminate_103 ?_
          refine lv_iand hx hb dXM_eliminate_104 ?_
          refine lv_topi (fun x2_414 ex2_414 => ?_)
          have hm := kl_s ex2_414 hm
          refine lv_istore_n (lv' := [(2, .int x2_414), (0, .ref (q 0)), (4, .int x4)]) hx hb dXM_eliminate_105 rfl hl (by decide) rfl (fun ls hl => ?_)
          exact ih5 x2_414 x4 (en + 1) (upd es en.toNatClampNeg (x4 + (16 * r412))) ew _ _ _ H locs ls hm hP hD hS (lv_sub hl [1, 0, 2] rfl)
      · intro x2 x4 en es ew en_1 es_1 ew_1 H locs ls hm hP hD hS hl
        rw [mM_eliminate_e5] at hm
        refine lv_iload hx hb dXM_eliminate_106 (lv_at hl 2 rfl) ?_
        refine lv_if_lt (tgt := 123) hx hb dXM_eliminate_108 (by decide) (fun c511 => ?_) (fun c511 => ?_)
        · rw [if_pos c511] at hm
          refine lv_iconst (v := 0) hx hb dXM_eliminate_123 (by decide) ?_
          refine lv_istore_n (lv' := [(3, .int 0), (0, .ref (q 0)), (2, .int x2), (4, .int x4)]) hx hb dXM_eliminate_124 rfl hl (by decide) rfl (fun ls hl => ?_)
          refine lv_goto (tgt := 21) hx hb dXM_eliminate_125 (by decide) ?_
          exact ih2 x2 0 en es ew _ _ _ H locs ls hm hP hD hS (lv_sub hl [1, 2, 0] rfl)
        · rw [if_neg c511] at hm
          refine lv_iload_n hx hb dXM_eliminate_111 rfl (lv_at hl 1 rfl) ?_
          obtain ⟨r512, hm512, hm⟩ := kb_s hm
          refine k_s0 (As := [.int x2]) (rest := []) ⟨hx, hb, hml, hown, hts⟩ (cM_size l D cA H.size x2 n r512 hm512) (cwS 1 hts (gS wd_446 wd_447 wd_41 wd_448) rfl rfl rfl (by decide +kernel) ⟨Nat.le_of_ble_eq_true rfl, Nat.le_of_ble_eq_true rfl⟩) hK hN hP hD hS hA rfl hl.1 rfl (Nat.le_of_ble_eq_true rfl) dXM_eliminate_112 ⟨Nat.le_of_ble_eq_true rfl, Nat.le_of_ble_eq_true rfl⟩ (fun hz512 H locs hP hD hS => ?_)
          refine lv_iconst (v := 1) hx hb dXM_eliminate_115 (by decide) ?_
          refine lv_icmp_le (tgt := 123) hx hb dXM_eliminate_116 (by decide) (fun c513 => ?_) (fun c513 => ?_)
          · rw [if_pos c513] at hm
            refine lv_iconst (v := 0) hx hb dXM_eliminate_123 (by decide) ?_
            refine lv_istore_n (lv' := [(3, .int 0), (0, .ref (q 0)), (2, .int x2), (4, .int x4)]) hx hb dXM_eliminate_124 rfl hl (by decide) rfl (fun ls hl => ?_)
            refine lv_goto (tgt := 21) hx hb dXM_eliminate_125 (by decide) ?_
            exact ih2 x2 0 en es ew _ _ _ H locs ls hm hP hD hS (lv_sub hl [1, 2, 0] rfl)
          · rw [if_neg c513] at hm
            refine lv_iconst (v := 1) hx hb dXM_eliminate_119 (by decide) ?_
            refine lv_goto (tgt := 124) hx hb dXM_eliminate_120 (by decide) ?_
            refine lv_istore_n (lv' := [(3, .int 1), (0, .ref (q 0)), (2, .int x2), (4, .int x4)]) hx hb dXM_eliminate_124 rfl hl (by decide) rfl (fun ls hl => ?_)
            refine lv_goto (tgt := 21) hx hb dXM_eliminate_125 (by decide) ?_
            exact ih2 x2 1 en es ew _ _ _ H locs ls hm hP hD hS (lv_sub hl [1, 2, 0] rfl)
  exact (key n).1 a1 en es ew en_1 es_1 ew_1 s.heap [] ls hm hP hD va_S.rf hl
set_option maxHeartbeats 4000000 in
set_option maxRecDepth 100000 in
theorem cM_fine (l : Launch) (D : va_G) (q : Nat → Nat) (cA : ClassId) (N : Nat) (sz : Nat) (mr : Nat → Int32) (zn : Int32) (zs : Nat → Int32) (tn : Int32) (ts : Nat → Int32) (yn : Int32) (ys : Nat → Int32) (en : Int32) (es : Nat → Int32) (ew : Int32) (cv : Nat → Int32) (a1 : Int32) (n : Nat) (r : Int32) (en_1 : Int32) (es_1 : Nat → Int32) (ew_1 : Int32) (hm : mM_fine N mr n 0 [a1] en es ew = some (r, en_1, es_1, ew_1)) : Met l yXM_fine wsXM_fine ({ frames := 3, cells := 0, slots := 0, locals := 72 }) (kPc D cA [.ref (q 0), .int a1] (wM q cA N mr zn zs tn ts yn ys en es ew cv) sz) (kQi D cA kB (va_A (wM q cA N mr zn zs tn ts yn ys en es ew cv) sz) (wM q cA N mr zn zs tn ts yn ys en_1 es_1 ew_1 cv) r) 0 0 (va_A (wM q cA N mr zn zs tn ts yn ys en es ew cv) sz) := by
  refine k_met (D := D) (cA := cA) (w := (wM q cA N mr zn zs tn ts yn ys en es ew cv)) (sz := sz) (av := [.ref (q 0), .int a1]) (cc := cXM_fine) (maxL := 4) (ret := (some .boolean)) (Qc := fun A => kQi D cA kB A (wM q cA N mr zn zs tn ts yn ys en_1 es_1 ew_1 cv) r) (by decide) rfl (Nat.le_of_ble_eq_true rfl) ?_
  intro p e s m below meth c A ls hX hK hN hA hP hD hl
  obtain ⟨hx, hb, hr, hml, hown, hts, hlocks, -⟩ := hX
  have hown : s.vm.findClass RXM = some m.cls := hown
  have hl : lv_has ls 4 [(0, .ref (q 0)), (1, .int a1)] := hl
  have hts : ∀ w ∈ W0, w.before _ s = true := fun w h => hts w (List.mem_cons_of_mem _ h)
  have key : ∀ n : Nat, (∀ (x1 : Int32) (en : Int32) (es : Nat → Int32) (ew : Int32) (r : Int32) (en_1 : Int32) (es_1 : Nat → Int32) (ew_1 : Int32) (H : Heap) (locs : List Loc) (ls : Array Slot), mM_fine N mr n 0 [x1] en es ew = some (r, en_1, es_1, ew_1) → va_P D vwCl (wM q cA N mr zn zs tn ts yn ys en es ew cv) H → va_D A (wM q cA N mr zn zs tn ts yn ys en es ew cv) → va_S A s.heap H locs → lv_has ls 4 [(0, .ref (q 0)), (1, .int x1)] → W p l e ({ frames := 3, cells := 0, slots := 0, locals := 72 }) s m ([.ref (q 0), .int a1] : List Value).toArray below meth c H locs 0 0 (MQ below (kQi D cA kB A (wM q cA N mr zn zs tn ts yn ys en_1 es_1 ew_1 cv) r) ([.ref (q 0), .int a1] : List Value).toArray s 0 0 A) (F0 m 0 ls [])) ∧
    (∀ (x1 x2 x3 : Int32) (en : Int32) (es : Nat → Int32) (ew : Int32) (r : Int32) (en_1 : Int32) (es_1 : Nat → Int32) (ew_1 : Int32) (H : Heap) (locs : List Loc) (ls : Array Slot), mM_fine N mr n 1 [x1, x2, x3] en es ew = some (r, en_1, es_1, ew_1) → va_P D vwCl (wM q cA N mr zn zs tn ts yn ys en es ew cv) H → va_D A (wM q cA N mr zn zs tn ts yn ys en es ew cv) → va_S A s.heap H locs → lv_has ls 4 [(0, .ref (q 0)), (1, .int x1), (2, .int x2), (3, .int x3)] → W p l e ({ frames := 3, cells := 0, slots := 0, locals := 72 }) s m ([.ref (q 0), .int a1] : List Value).toArray below meth c H locs 0 0 (MQ below (kQi D cA kB A (wM q cA N mr zn zs tn ts yn ys en_1 es_1 ew_1 cv) r) ([.ref (q 0), .int a1] : List Value).toArray s 0 0 A) (F0 m 4 ls [])) := by
    intro n
    induction n with
    | zero => exact ⟨(by intros; rename_i h _ _ _ _; rw [mM_fine_z] at h; cases h), (by intros; rename_i h _ _ _ _; rw [mM_fine_z] at h; cases h)⟩
    | succ n ih =>
      obtain ⟨ih0, ih1⟩ := ih
      refine ⟨?_, ?_⟩
      · intro x1 en es ew r en_1 es_1 ew_1 H locs ls hm hP hD hS hl
        rw [mM_fine_e0] at hm
        refine lv_iconst (v := 1) hx hb dXM_fine_0 (by decide) ?_
        refine lv_istore_n (lv' := [(2, .int 1), (0, .ref (q 0)), (1, .int x1)]) hx hb dXM_fine_1 rfl hl (by decide) rfl (fun ls hl => ?_)
        refine lv_iconst (v := 0) hx hb dXM_fine_2 (by decide) ?_
        refine lv_istore_n (lv' := [(3, .int 0), (2, .int 1), (0, .ref (q 0)), (1, .int x1)]) hx hb dXM_fine_3 rfl hl (by decide) rfl (fun ls hl => ?_)
        exact ih1 x1 1 0 en es ew _ _ _ _ H locs ls hm hP hD hS (lv_sub hl [2, 3, 1, 0] rfl)
      · intro x1 x2 x3 en es ew r en_1 es_1 ew_1 H locs ls hm hP hD hS hl
        rw [mM_fine_e1] at hm
        refine lv_iload_n hx hb dXM_fine_4 rfl (lv_at hl 3 rfl) ?_
        refine lv_aload_n hx hb dXM_fine_5 rfl (lv_at hl 0 rfl) ?_
        refine va_get (D := D) (ci := 5) (v := .int (nI N)) (C := RXM) (T := TXM) (N := 12) hx hb hts hinXM hown hK hP 0 rfl rfl 0 (by decide) (hts _ wd_389) (fun _ h9 => h9) rfl dXM_fine_6 ?_
        refine lv_icmp_ge (tgt := 46) hx hb dXM_fine_9 (by decide) (fun c111 => ?_) (fun c111 => ?_)
        · rw [if_pos c111] at hm
          refine lv_iload_n hx hb dXM_fine_46 rfl (lv_at hl 2 rfl) ?_
          obtain ⟨hz, hm⟩ := kz_s hm
          cases hm
          exact k_zret hx hb hr hlocks hK hP hD hS hz dXM_fine_47
        · rw [if_neg c111] at hm
          refine lv_iload_n hx hb dXM_fine_12 rfl (lv_at hl 2 rfl) ?_
          refine lv_if_eq (tgt := 46) hx hb dXM_fine_13 (by decide) (fun c112 => ?_) (fun c112 => ?_)
          · rw [if_pos c112] at hm
            refine lv_iload_n hx hb dXM_fine_46 rfl (lv_at hl 2 rfl) ?_
            obtain ⟨hz, hm⟩ := kz_s hm
            cases hm
            exact k_zret hx hb hr hlocks hK hP hD hS hz dXM_fine_47
          · rw [if_neg c112] at hm
            refine lv_iload_n hx hb dXM_fine_16 rfl (lv_at hl 1 rfl) ?_
            refine lv_iload_n hx hb dXM_fine_17 rfl (lv_at hl 3 rfl) ?_
            refine lv_ishr hx hb dXM_fine_18 ?_
            refine lv_iconst (v := 1) hx hb dXM_fine_19 (by decide) ?_
            refine lv_iand hx hb dXM_fine_20 ?_
            refine lv_iconst (v := 1) hx hb dXM_fine_21 (by decide) ?_
            refine lv_icmp_ne (tgt := 40) hx hb dXM_fine_22 (by decide) (fun c113 => ?_) (fun c113 => ?_)
            · rw [if_neg c113] at hm
              refine lv_iinc (v := (x3 + 1)) (lv' := [(3, .int (x3 + 1)), (0, .ref (q 0)), (1, .int x1), (2, .int x2)]) hx hb dXM_fine_40 hl (k := 3) rfl rfl (by decide) rfl (fun ls hl => ?_)
              refine lv_goto (tgt := 4) hx hb dXM_fine_43 (by decide) ?_
              exact ih1 x1 x2 (x3 + 1) en es ew _ _ _ _ H locs ls hm hP hD hS (lv_sub hl [1, 2, 3, 0] rfl)
            · rw [if_pos c113] at hm
              refine lv_aload_n hx hb dXM_fine_25 rfl (lv_at hl 0 rfl) ?_
              refine lv_aload_n hx hb dXM_fine_26 rfl (lv_at hl 0 rfl) ?_
              refine lv_iload_n hx hb dXM_fine_27 rfl (lv_at hl 3 rfl) ?_
              refine lv_iload_n hx hb dXM_fine_28 rfl (lv_at hl 1 rfl) ?_
              obtain ⟨r114, hm114, hm⟩ := kb_s hm
              refine k_vi (As := [.int x3, .int x1]) (rest := [.ref (q 0)]) (w2 := (wM q cA N mr zn zs tn ts yn ys en es ew cv)) ⟨hx, hb, hml, hown, hts⟩ (cM_within l D q cA N H.size mr zn zs tn ts yn ys en es ew cv x3 x1 n r114 hm114) (cwV 2 hts (gV wd_432 wd_433 wd_19 wd_41 wd_434) rfl rfl rfl (by decide +kernel) ⟨Nat.le_of_ble_eq_true rfl, Nat.le_of_ble_eq_true rfl⟩) hK hN hP hD hS hA [0, 1, 2, 3, 4, 5, 6] [] [0, 1, 2, 3, 4, 5, 6] ⟨rfl, rfl, by decide, rfl, by decide, by decide, rfl, rfl, by decide⟩ (va_recv hK hP (ci := 5) (q0 := 0) rfl rfl) rfl hl.1 rfl (Nat.le_of_ble_eq_true rfl) dXM_fine_29 ⟨Nat.le_of_ble_eq_true rfl, Nat.le_of_ble_eq_true rfl⟩ (fun hz114 H locs hP hD hS => ?_)
              obtain ⟨⟨en_115, es_115, ew_115⟩, hm115, hm⟩ := kb_s hm
              dsimp only at hm
              refine k_vv (As := [.int r114]) (rest := []) (w2 := (wM q cA N mr zn zs tn ts yn ys en_115 es_115 ew_115 cv)) ⟨hx, hb, hml, hown, hts⟩ (cM_eliminate l D q cA N H.size mr zn zs tn ts yn ys en es ew cv r114 n en_115 es_115 ew_115 hm115) (cwV 1 hts (gV wd_514 wd_515 wd_30 wd_41 wd_516) rfl rfl rfl (by decide +kernel) ⟨Nat.le_of_ble_eq_true rfl, Nat.le_of_ble_eq_true rfl⟩) hK hN hP hD hS hA [0, 1, 2, 3, 4, 5, 6] [] [0, 1, 2, 3, 4, 5, 6] ⟨rfl, rfl, by decide, rfl, by decide, by decide, rfl, rfl, by decide⟩ (va_recv hK hP (ci := 5) (q0 := 0) rfl rfl) rfl hl.1 rfl (Nat.le_of_ble_eq_true rfl) dXM_fine_32 ⟨Nat.le_of_ble_eq_true rfl, Nat.le_of_ble_eq_true rfl⟩ (fun H locs hP hD hS => ?_)
              refine lv_aload_n hx hb dXM_fine_35 rfl (lv_at hl 0 rfl) ?_
              refine va_get (D := D) (ci := 5) (v := .int ew_115) (C := RXM) (T := TXM) (N := 12) hx hb hts hinXM hown hK hP 0 rfl rfl 10 (by decide) (hts _ wd_399) (fun _ h9 => h9) rfl dXM_fine_36 ?_
              refine lv_istore_n (lv' := [(2, .int ew_115), (0, .ref (q 0)), (1, .int x1), (3, .int x3)]) hx hb dXM_fine_39 rfl hl (by decide) rfl (fun ls hl => ?_)
              refine lv_iinc (v := (x3 + 1)) (lv' := [(3, .int (x3 + 1)), (2, .int ew_115), (0, .ref (q 0)), (1, .int x1)]) hx hb dXM_fine_40 hl (k := 3) rfl rfl (by decide) rfl (fun ls hl => ?_)
              refine lv_goto (tgt := 4) hx hb dXM_fine_43 (by decide) ?_
              exact ih1 x1 ew_115 (x3 + 1) en_115 es_115 ew_115 _ _ _ _ H locs ls hm hP hD hS (lv_sub hl [2, 3, 1, 0] rfl)
  exact (key n).1 a1 en es ew r en_1 es_1 ew_1 s.heap [] ls hm hP hD va_S.rf hl
set_option maxHeartbeats 4000000 in
set_option maxRecDepth 100000 in
theorem cM_hereditary (l : Launch) (D : va_G) (q : Nat → Nat) (cA : ClassId) (N : Nat) (sz : Nat) (mr : Nat → Int32) (zn : Int32) (zs : Nat → Int32) (tn : Int32) (ts : Nat → Int32) (yn : Int32) (ys : Nat → Int32) (en : Int32) (es : Nat → Int32) (ew : Int32) (cv : Nat → Int32) (a1 : Int32) (n : Nat) (r : Int32) (en_1 : Int32) (es_1 : Nat → Int32) (ew_1 : Int32) (hm : mM_hereditary N mr n 0 [a1] en es ew = some (r, en_1, es_1, ew_1)) : Met l yXM_hereditary wsXM_hereditary ({ frames := 4, cells := 0, slots := 0, locals := 95 }) (kPc D cA [.ref (q 0), .int a1] (wM q cA N mr zn zs tn ts yn ys en es ew cv) sz) (kQi D cA kB (va_A (wM q cA N mr zn zs tn ts yn ys en es ew cv) sz) (wM q cA N mr zn zs tn ts yn ys en_1 es_1 ew_1 cv) r) 0 0 (va_A (wM q cA N mr zn zs tn ts yn ys en es ew cv) sz) := by
  refine k_met (D := D) (cA := cA) (w := (wM q cA N mr zn zs tn ts yn ys en es ew cv)) (sz := sz) (av := [.ref (q 0), .int a1]) (cc := cXM_hereditary) (maxL := 2) (ret := (some .boolean)) (Qc := fun A => kQi D cA kB A (wM q cA N mr zn zs tn ts yn ys en_1 es_1 ew_1 cv) r) (by decide) rfl (Nat.le_of_ble_eq_true rfl) ?_
  intro p e s m below meth c A ls hX hK hN hA hP hD hl
  obtain ⟨hx, hb, hr, hml, hown, hts, hlocks, -⟩ := hX
  have hown : s.vm.findClass RXM = some m.cls := hown
  have hl : lv_has ls 2 [(0, .ref (q 0)), (1, .int a1)] := hl
  have hts : ∀ w ∈ W0, w.before _ s = true := fun w h => hts w (List.mem_cons_of_mem _ h)
  have key : ∀ n : Nat, (∀ (x1 : Int32) (en : Int32) (es : Nat → Int32) (ew : Int32) (r : Int32) (en_1 : Int32) (es_1 : Nat → Int32) (ew_1 : Int32) (H : Heap) (locs : List Loc) (ls : Array Slot), mM_hereditary N mr n 0 [x1] en es ew = some (r, en_1, es_1, ew_1) → va_P D vwCl (wM q cA N mr zn zs tn ts yn ys en es ew cv) H → va_D A (wM q cA N mr zn zs tn ts yn ys en es ew cv) → va_S A s.heap H locs → lv_has ls 2 [(0, .ref (q 0)), (1, .int x1)] → W p l e ({ frames := 4, cells := 0, slots := 0, locals := 95 }) s m ([.ref (q 0), .int a1] : List Value).toArray below meth c H locs 0 0 (MQ below (kQi D cA kB A (wM q cA N mr zn zs tn ts yn ys en_1 es_1 ew_1 cv) r) ([.ref (q 0), .int a1] : List Value).toArray s 0 0 A) (F0 m 0 ls [])) := by
    intro n
    induction n with
    | zero => exact (by intros; rename_i h _ _ _ _; rw [mM_hereditary_z] at h; cases h)
    | succ n ih =>
      have ih0 := ih
      intro x1 en es ew r en_1 es_1 ew_1 H locs ls hm hP hD hS hl
      rw [mM_hereditary_e0] at hm
      refine lv_aload_n hx hb dXM_hereditary_0 rfl (lv_at hl 0 rfl) ?_
      refine lv_iload_n hx hb dXM_hereditary_1 rfl (lv_at hl 1 rfl) ?_
      obtain ⟨r11, hm11, hm⟩ := kb_s hm
      refine k_vi (As := [.int x1]) (rest := []) (w2 := (wM q cA N mr zn zs tn ts yn ys en es ew cv)) ⟨hx, hb, hml, hown, hts⟩ (cM_is l D q cA N H.size mr zn zs tn ts yn ys en es ew cv x1 n r11 hm11) (cwV 1 hts (gV wd_421 wd_422 wd_18 wd_41 wd_423) rfl rfl rfl (by decide +kernel) ⟨Nat.le_of_ble_eq_true rfl, Nat.le_of_ble_eq_true rfl⟩) hK hN hP hD hS hA [0, 1, 2, 3, 4, 5, 6] [] [0, 1, 2, 3, 4, 5, 6] ⟨rfl, rfl, by decide, rfl, by decide, by decide, rfl, rfl, by decide⟩ (va_recv hK hP (ci := 5) (q0 := 0) rfl rfl) rfl hl.1 rfl (Nat.le_of_ble_eq_true rfl) dXM_hereditary_2 ⟨Nat.le_of_ble_eq_true rfl, Nat.le_of_ble_eq_true rfl⟩ (fun hz11 H locs hP hD hS => ?_)
      refine lv_if_eq (tgt := 24) hx hb dXM_hereditary_5 (by decide) (fun c12 => ?_) (fun c12 => ?_)
      · rw [if_pos c12] at hm
        refine lv_iconst (v := 0) hx hb dXM_hereditary_24 (by decide) ?_
        cases hm
        exact k_zret hx hb hr hlocks hK hP hD hS (Or.inl rfl) dXM_hereditary_25
      · rw [if_neg c12] at hm
        refine lv_aload_n hx hb dXM_hereditary_8 rfl (lv_at hl 0 rfl) ?_
        refine lv_aload_n hx hb dXM_hereditary_9 rfl (lv_at hl 0 rfl) ?_
        refine lv_iload_n hx hb dXM_hereditary_10 rfl (lv_at hl 1 rfl) ?_
        obtain ⟨r13, hm13, hm⟩ := kb_s hm
        refine k_vi (As := [.int x1]) (rest := [.ref (q 0)]) (w2 := (wM q cA N mr zn zs tn ts yn ys en es ew cv)) ⟨hx, hb, hml, hown, hts⟩ (cM_component l D q cA N H.size mr zn zs tn ts yn ys en es ew cv x1 n r13 hm13) (cwV 1 hts (gV wd_439 wd_429 wd_430 wd_41 wd_431) rfl rfl rfl (by decide +kernel) ⟨Nat.le_of_ble_eq_true rfl, Nat.le_of_ble_eq_true rfl⟩) hK hN hP hD hS hA [0, 1, 2, 3, 4, 5, 6] [] [0, 1, 2, 3, 4, 5, 6] ⟨rfl, rfl, by decide, rfl, by decide, by decide, rfl, rfl, by decide⟩ (va_recv hK hP (ci := 5) (q0 := 0) rfl rfl) rfl hl.1 rfl (Nat.le_of_ble_eq_true rfl) dXM_hereditary_11 ⟨Nat.le_of_ble_eq_true rfl, Nat.le_of_ble_eq_true rfl⟩ (fun hz13 H locs hP hD hS => ?_)
        obtain ⟨⟨r14, en_14, es_14, ew_14⟩, hm14, hm⟩ := kb_s hm
        dsimp only at hm
        refine k_vi (As := [.int r13]) (rest := []) (w2 := (wM q cA N mr zn zs tn ts yn ys en_14 es_14 ew_14 cv)) ⟨hx, hb, hml, hown, hts⟩ (cM_fine l D q cA N H.size mr zn zs tn ts yn ys en es ew cv r13 n r14 en_14 es_14 ew_14 hm14) (cwV 1 hts (gV wd_511 wd_512 wd_29 wd_41 wd_513) rfl rfl rfl (by decide +kernel) ⟨Nat.le_of_ble_eq_true rfl, Nat.le_of_ble_eq_true rfl⟩) hK hN hP hD hS hA [0, 1, 2, 3, 4, 5, 6] [] [0, 1, 2, 3, 4, 5, 6] ⟨rfl, rfl, by decide, rfl, by decide, by decide, rfl, rfl, by decide⟩ (va_recv hK hP (ci := 5) (q0 := 0) rfl rfl) rfl hl.1 rfl (Nat.le_of_ble_eq_true rfl) dXM_hereditary_14 ⟨Nat.le_of_ble_eq_true rfl, Nat.le_of_ble_eq_true rfl⟩ (fun hz14 H locs hP hD hS => ?_)
        refine lv_if_eq (tgt := 24) hx hb dXM_hereditary_17 (by decide) (fun c15 => ?_) (fun c15 => ?_)
        · rw [if_pos c15] at hm
          refine lv_iconst (v := 0) hx hb dXM_hereditary_24 (by decide) ?_
          cases hm
          exact k_zret hx hb hr hlocks hK hP hD hS (Or.inl rfl) dXM_hereditary_25
        · rw [if_neg c15] at hm
          refine lv_iconst (v := 1) hx hb dXM_hereditary_20 (by decide) ?_
          refine lv_goto (tgt := 25) hx hb dXM_hereditary_21 (by decide) ?_
          cases hm
          exact k_zret hx hb hr hlocks hK hP hD hS (Or.inr rfl) dXM_hereditary_25
  exact key n a1 en es ew r en_1 es_1 ew_1 s.heap [] ls hm hP hD va_S.rf hl
