set_option maxHeartbeats 4000000 in
set_option maxRecDepth 100000 in
theorem cM_chosen (l : Launch) (D : va_G) (q : Nat → Nat) (cA : ClassId) (N : Nat) (sz : Nat) (mr : Nat → Int32) (zn : Int32) (zs : Nat → Int32) (tn : Int32) (ts : Nat → Int32) (yn : Int32) (ys : Nat → Int32) (en : Int32) (es : Nat → Int32) (ew : Int32) (cv : Nat → Int32) (a1 : Int32) (n : Nat) (r : Int32) (en_1 : Int32) (es_1 : Nat → Int32) (ew_1 : Int32) (hm : mM_chosen N mr n 0 [a1] en es ew = some (r, en_1, es_1, ew_1)) : Met l yXM_chosen wsXM_chosen ({ frames := 5, cells := 0, slots := 0, locals := 116 }) (kPc D cA [.ref (q 0), .int a1] (wM q cA N mr zn zs tn ts yn ys en es ew cv) sz) (kQi D cA kT (va_A (wM q cA N mr zn zs tn ts yn ys en es ew cv) sz) (wM q cA N mr zn zs tn ts yn ys en_1 es_1 ew_1 cv) r) 0 0 (va_A (wM q cA N mr zn zs tn ts yn ys en es ew cv) sz) := by
  refine k_met (D := D) (cA := cA) (w := (wM q cA N mr zn zs tn ts yn ys en es ew cv)) (sz := sz) (av := [.ref (q 0), .int a1]) (cc := cXM_chosen) (maxL := 2) (ret := (some .int)) (Qc := fun A => kQi D cA kT A (wM q cA N mr zn zs tn ts yn ys en_1 es_1 ew_1 cv) r) (by decide) rfl (Nat.le_of_ble_eq_true rfl) ?_
  intro p e s m below meth c A ls hX hK hN hA hP hD hl
  obtain ⟨hx, hb, hr, hml, hown, hts, hlocks, -⟩ := hX
  have hown : s.vm.findClass RXM = some m.cls := hown
  have hl : lv_has ls 2 [(0, .ref (q 0)), (1, .int a1)] := hl
  have hts : ∀ w ∈ W0, w.before _ s = true := fun w h => hts w (List.mem_cons_of_mem _ h)
  have key : ∀ n : Nat, (∀ (x1 : Int32) (en : Int32) (es : Nat → Int32) (ew : Int32) (r : Int32) (en_1 : Int32) (es_1 : Nat → Int32) (ew_1 : Int32) (H : Heap) (locs : List Loc) (ls : Array Slot), mM_chosen N mr n 0 [x1] en es ew = some (r, en_1, es_1, ew_1) → va_P D vwCl (wM q cA N mr zn zs tn ts yn ys en es ew cv) H → va_D A (wM q cA N mr zn zs tn ts yn ys en es ew cv) → va_S A s.heap H locs → lv_has ls 2 [(0, .ref (q 0)), (1, .int x1)] → W p l e ({ frames := 5, cells := 0, slots := 0, locals := 116 }) s m ([.ref (q 0), .int a1] : List Value).toArray below meth c H locs 0 0 (MQ below (kQi D cA kT A (wM q cA N mr zn zs tn ts yn ys en_1 es_1 ew_1 cv) r) ([.ref (q 0), .int a1] : List Value).toArray s 0 0 A) (F0 m 0 ls [])) := by
    intro n
    induction n with
    | zero => exact (by intros; rename_i h _ _ _ _; rw [mM_chosen_z] at h; cases h)
    | succ n ih =>
      have ih0 := ih
      intro x1 en es ew r en_1 es_1 ew_1 H locs ls hm hP hD hS hl
      rw [mM_chosen_e0] at hm
      refine lv_aload_n hx hb dXM_chosen_0 rfl (lv_at hl 0 rfl) ?_
      refine lv_iload_n hx hb dXM_chosen_1 rfl (lv_at hl 1 rfl) ?_
      obtain ⟨⟨r11, en_11, es_11, ew_11⟩, hm11, hm⟩ := kb_s hm
      dsimp only at hm
      refine k_vi (As := [.int x1]) (rest := []) (w2 := (wM q cA N mr zn zs tn ts yn ys en_11 es_11 ew_11 cv)) ⟨hx, hb, hml, hown, hts⟩ (cM_hereditary l D q cA N H.size mr zn zs tn ts yn ys en es ew cv x1 n r11 en_11 es_11 ew_11 hm11) (cwV 1 hts (gV wd_540 wd_508 wd_509 wd_41 wd_510) rfl rfl rfl (by decide +kernel) ⟨Nat.le_of_ble_eq_true rfl, Nat.le_of_ble_eq_true rfl⟩) hK hN hP hD hS hA [0, 1, 2, 3, 4, 5, 6] [] [0, 1, 2, 3, 4, 5, 6] ⟨rfl, rfl, by decide, rfl, by decide, by decide, rfl, rfl, by decide⟩ (va_recv hK hP (ci := 5) (q0 := 0) rfl rfl) rfl hl.1 rfl (Nat.le_of_ble_eq_true rfl) dXM_chosen_2 ⟨Nat.le_of_ble_eq_true rfl, Nat.le_of_ble_eq_true rfl⟩ (fun hz11 H locs hP hD hS => ?_)
      refine lv_if_eq (tgt := 21) hx hb dXM_chosen_5 (by decide) (fun c12 => ?_) (fun c12 => ?_)
      · rw [if_pos c12] at hm
        refine lv_iconst (v := (-1)) hx hb dXM_chosen_21 (by decide) ?_
        cases hm
        exact k_iret hx hb hr hlocks hK hP hD hS trivial dXM_chosen_22
      · rw [if_neg c12] at hm
        refine lv_aload_n hx hb dXM_chosen_8 rfl (lv_at hl 0 rfl) ?_
        refine lv_aload_n hx hb dXM_chosen_9 rfl (lv_at hl 0 rfl) ?_
        refine lv_iload_n hx hb dXM_chosen_10 rfl (lv_at hl 1 rfl) ?_
        obtain ⟨r13, hm13, hm⟩ := kb_s hm
        refine k_vi (As := [.int x1]) (rest := [.ref (q 0)]) (w2 := (wM q cA N mr zn zs tn ts yn ys en_11 es_11 ew_11 cv)) ⟨hx, hb, hml, hown, hts⟩ (cM_component l D q cA N H.size mr zn zs tn ts yn ys en_11 es_11 ew_11 cv x1 n r13 hm13) (cwV 1 hts (gV wd_439 wd_429 wd_430 wd_41 wd_431) rfl rfl rfl (by decide +kernel) ⟨Nat.le_of_ble_eq_true rfl, Nat.le_of_ble_eq_true rfl⟩) hK hN hP hD hS hA [0, 1, 2, 3, 4, 5, 6] [] [0, 1, 2, 3, 4, 5, 6] ⟨rfl, rfl, by decide, rfl, by decide, by decide, rfl, rfl, by decide⟩ (va_recv hK hP (ci := 5) (q0 := 0) rfl rfl) rfl hl.1 rfl (Nat.le_of_ble_eq_true rfl) dXM_chosen_11 ⟨Nat.le_of_ble_eq_true rfl, Nat.le_of_ble_eq_true rfl⟩ (fun hz13 H locs hP hD hS => ?_)
        refine lv_iconst (v := 1) hx hb dXM_chosen_14 (by decide) ?_
        obtain ⟨r14, hm14, hm⟩ := kb_s hm
        refine k_vi (As := [.int r13, .int 1]) (rest := []) (w2 := (wM q cA N mr zn zs tn ts yn ys en_11 es_11 ew_11 cv)) ⟨hx, hb, hml, hown, hts⟩ (cM_best l D q cA N H.size mr zn zs tn ts yn ys en_11 es_11 ew_11 cv r13 1 n r14 hm14) (cwV 2 hts (gV wd_541 wd_542 wd_33 wd_41 wd_543) rfl rfl rfl (by decide +kernel) ⟨Nat.le_of_ble_eq_true rfl, Nat.le_of_ble_eq_true rfl⟩) hK hN hP hD hS hA [0, 1, 2, 3, 4, 5, 6] [] [0, 1, 2, 3, 4, 5, 6] ⟨rfl, rfl, by decide, rfl, by decide, by decide, rfl, rfl, by decide⟩ (va_recv hK hP (ci := 5) (q0 := 0) rfl rfl) rfl hl.1 rfl (Nat.le_of_ble_eq_true rfl) dXM_chosen_15 ⟨Nat.le_of_ble_eq_true rfl, Nat.le_of_ble_eq_true rfl⟩ (fun hz14 H locs hP hD hS => ?_)
        refine lv_goto (tgt := 22) hx hb dXM_chosen_18 (by decide) ?_
        cases hm
        exact k_iret hx hb hr hlocks hK hP hD hS trivial dXM_chosen_22
  exact key n a1 en es ew r en_1 es_1 ew_1 s.heap [] ls hm hP hD va_S.rf hl
set_option maxHeartbeats 4000000 in
set_option maxRecDepth 100000 in
theorem cM_clique (l : Launch) (D : va_G) (q : Nat → Nat) (cA : ClassId) (N : Nat) (sz : Nat) (mr : Nat → Int32) (zn : Int32) (zs : Nat → Int32) (tn : Int32) (ts : Nat → Int32) (yn : Int32) (ys : Nat → Int32) (en : Int32) (es : Nat → Int32) (ew : Int32) (cv : Nat → Int32) (a1 : Int32) (n : Nat) (r : Int32) (hm : mM_clique N mr n 0 [a1] = some r) : Met l yXM_clique wsXM_clique ({ frames := 2, cells := 0, slots := 0, locals := 45 }) (kPc D cA [.ref (q 0), .int a1] (wM q cA N mr zn zs tn ts yn ys en es ew cv) sz) (kQi D cA kB (va_A (wM q cA N mr zn zs tn ts yn ys en es ew cv) sz) (wM q cA N mr zn zs tn ts yn ys en es ew cv) r) 0 0 (va_A (wM q cA N mr zn zs tn ts yn ys en es ew cv) sz) := by
  refine k_met (D := D) (cA := cA) (w := (wM q cA N mr zn zs tn ts yn ys en es ew cv)) (sz := sz) (av := [.ref (q 0), .int a1]) (cc := cXM_clique) (maxL := 3) (ret := (some .boolean)) (Qc := fun A => kQi D cA kB A (wM q cA N mr zn zs tn ts yn ys en es ew cv) r) (by decide) rfl (Nat.le_of_ble_eq_true rfl) ?_
  intro p e s m below meth c A ls hX hK hN hA hP hD hl
  obtain ⟨hx, hb, hr, hml, hown, hts, hlocks, -⟩ := hX
  have hown : s.vm.findClass RXM = some m.cls := hown
  have hl : lv_has ls 3 [(0, .ref (q 0)), (1, .int a1)] := hl
  have hts : ∀ w ∈ W0, w.before _ s = true := fun w h => hts w (List.mem_cons_of_mem _ h)
  have key : ∀ n : Nat, (∀ (x1 : Int32) (r : Int32) (H : Heap) (locs : List Loc) (ls : Array Slot), mM_clique N mr n 0 [x1] = some r → va_P D vwCl (wM q cA N mr zn zs tn ts yn ys en es ew cv) H → va_D A (wM q cA N mr zn zs tn ts yn ys en es ew cv) → va_S A s.heap H locs → lv_has ls 3 [(0, .ref (q 0)), (1, .int x1)] → W p l e ({ frames := 2, cells := 0, slots := 0, locals := 45 }) s m ([.ref (q 0), .int a1] : List Value).toArray below meth c H locs 0 0 (MQ below (kQi D cA kB A (wM q cA N mr zn zs tn ts yn ys en es ew cv) r) ([.ref (q 0), .int a1] : List Value).toArray s 0 0 A) (F0 m 0 ls [])) := by
    intro n
    induction n with
    | zero => exact (by intros; rename_i h _ _ _ _; rw [mM_clique_z] at h; cases h)
    | succ n ih =>
      have ih0 := ih
      intro x1 r H locs ls hm hP hD hS hl
      rw [mM_clique_e0] at hm
      refine lv_iload_n hx hb dXM_clique_0 rfl (lv_at hl 1 rfl) ?_
      obtain ⟨r11, hm11, hm⟩ := kb_s hm
      refine k_s0 (As := [.int x1]) (rest := []) ⟨hx, hb, hml, hown, hts⟩ (cM_size l D cA H.size x1 n r11 hm11) (cwS 1 hts (gS wd_446 wd_447 wd_41 wd_448) rfl rfl rfl (by decide +kernel) ⟨Nat.le_of_ble_eq_true rfl, Nat.le_of_ble_eq_true rfl⟩) hK hN hP hD hS hA rfl hl.1 rfl (Nat.le_of_ble_eq_true rfl) dXM_clique_1 ⟨Nat.le_of_ble_eq_true rfl, Nat.le_of_ble_eq_true rfl⟩ (fun hz11 H locs hP hD hS => ?_)
      refine lv_istore_n (lv' := [(2, .int r11), (0, .ref (q 0)), (1, .int x1)]) hx hb dXM_clique_4 rfl hl (by decide) rfl (fun ls hl => ?_)
      refine lv_aload_n hx hb dXM_clique_5 rfl (lv_at hl 1 rfl) ?_
      refine lv_iload_n hx hb dXM_clique_6 rfl (lv_at hl 2 rfl) ?_
      obtain ⟨r12, hm12, hm⟩ := kb_s hm
      refine k_vi (As := [.int x1]) (rest := []) (w2 := (wM q cA N mr zn zs tn ts yn ys en es ew cv)) ⟨hx, hb, hml, hown, hts⟩ (cM_edges l D q cA N H.size mr zn zs tn ts yn ys en es ew cv x1 n r12 hm12) (cwV 1 hts (gV wd_533 wd_534 wd_32 wd_41 wd_535) rfl rfl rfl (by decide +kernel) ⟨Nat.le_of_ble_eq_true rfl, Nat.le_of_ble_eq_true rfl⟩) hK hN hP hD hS hA [0, 1, 2, 3, 4, 5, 6] [] [0, 1, 2, 3, 4, 5, 6] ⟨rfl, rfl, by decide, rfl, by decide, by decide, rfl, rfl, by decide⟩ (va_recv hK hP (ci := 5) (q0 := 0) rfl rfl) rfl hl.1 rfl (Nat.le_of_ble_eq_true rfl) dXM_clique_7 ⟨Nat.le_of_ble_eq_true rfl, Nat.le_of_ble_eq_true rfl⟩ (fun hz12 H locs hP hD hS => ?_)
      refine lv_iload_n hx hb dXM_clique_10 rfl (lv_at hl 0 rfl) ?_
      refine lv_iload_n hx hb dXM_clique_11 rfl (lv_at hl 0 rfl) ?_
      refine lv_iconst (v := 1) hx hb dXM_clique_12 (by decide) ?_
      refine lv_isub hx hb dXM_clique_13 ?_
      refine lv_imul hx hb dXM_clique_14 ?_
      refine lv_iconst (v := 2) hx hb dXM_clique_15 (by decide) ?_
      refine lv_idiv hx hb dXM_clique_16 (by decide) ?_
      refine lv_icmp_ne (tgt := 24) hx hb dXM_clique_17 (by decide) (fun c13 => ?_) (fun c13 => ?_)
      · rw [if_neg c13] at hm
        refine lv_iconst (v := 0) hx hb dXM_clique_24 (by decide) ?_
        cases hm
        exact k_zret hx hb hr hlocks hK hP hD hS (Or.inl rfl) dXM_clique_25
      · rw [if_pos c13] at hm
        refine lv_iconst (v := 1) hx hb dXM_clique_20 (by decide) ?_
        refine lv_goto (tgt := 25) hx hb dXM_clique_21 (by decide) ?_
        cases hm
        exact k_zret hx hb hr hlocks hK hP hD hS (Or.inr rfl) dXM_clique_25
  exact key n a1 r s.heap [] ls hm hP hD va_S.rf hl
set_option maxHeartbeats 4000000 in
set_option maxRecDepth 100000 in
theorem cM_cover (l : Launch) (D : va_G) (q : Nat → Nat) (cA : ClassId) (N : Nat) (sz : Nat) (mr : Nat → Int32) (zn : Int32) (zs : Nat → Int32) (tn : Int32) (ts : Nat → Int32) (yn : Int32) (ys : Nat → Int32) (en : Int32) (es : Nat → Int32) (ew : Int32) (cv : Nat → Int32) (a1 : Int32) (n : Nat) (r : Int32) (en_1 : Int32) (es_1 : Nat → Int32) (ew_1 : Int32) (cv_1 : Nat → Int32) (hm : mM_cover N mr n 0 [a1] en es ew cv = some (r, en_1, es_1, ew_1, cv_1)) : Met l yXM_cover wsXM_cover ({ frames := 5, cells := 0, slots := 0, locals := 116 }) (kPc D cA [.ref (q 0), .int a1] (wM q cA N mr zn zs tn ts yn ys en es ew cv) sz) (kQi D cA kT (va_A (wM q cA N mr zn zs tn ts yn ys en es ew cv) sz) (wM q cA N mr zn zs tn ts yn ys en_1 es_1 ew_1 cv_1) r) 0 0 (va_A (wM q cA N mr zn zs tn ts yn ys en es ew cv) sz) := by
  refine k_met (D := D) (cA := cA) (w := (wM q cA N mr zn zs tn ts yn ys en es ew cv)) (sz := sz) (av := [.ref (q 0), .int a1]) (cc := cXM_cover) (maxL := 6) (ret := (some .int)) (Qc := fun A => kQi D cA kT A (wM q cA N mr zn zs tn ts yn ys en_1 es_1 ew_1 cv_1) r) (by decide) rfl (Nat.le_of_ble_eq_true rfl) ?_
  intro p e s m below meth c A ls hX hK hN hA hP hD hl
  obtain ⟨hx, hb, hr, hml, hown, hts, hlocks, -⟩ := hX
  have hown : s.vm.findClass RXM = some m.cls := hown
  have hl : lv_has ls 6 [(0, .ref (q 0)), (1, .int a1)] := hl
  have hts : ∀ w ∈ W0, w.before _ s = true := fun w h => hts w (List.mem_cons_of_mem _ h)
  have key : ∀ n : Nat, (∀ (x1 : Int32) (en : Int32) (es : Nat → Int32) (ew : Int32) (cv : Nat → Int32) (r : Int32) (en_1 : Int32) (es_1 : Nat → Int32) (ew_1 : Int32) (cv_1 : Nat → Int32) (H : Heap) (locs : List Loc) (ls : Array Slot), mM_cover N mr n 0 [x1] en es ew cv = some (r, en_1, es_1, ew_1, cv_1) → va_P D vwCl (wM q cA N mr zn zs tn ts yn ys en es ew cv) H → va_D A (wM q cA N mr zn zs tn ts yn ys en es ew cv) → va_S A s.heap H locs → lv_has ls 6 [(0, .ref (q 0)), (1, .int x1)] → W p l e ({ frames := 5, cells := 0, slots := 0, locals := 116 }) s m ([.ref (q 0), .int a1] : List Value).toArray below meth c H locs 0 0 (MQ below (kQi D cA kT A (wM q cA N mr zn zs tn ts yn ys en_1 es_1 ew_1 cv_1) r) ([.ref (q 0), .int a1] : List Value).toArray s 0 0 A) (F0 m 0 ls [])) ∧
    (∀ (x2 x3 : Int32) (en : Int32) (es : Nat → Int32) (ew : Int32) (cv : Nat → Int32) (r : Int32) (en_1 : Int32) (es_1 : Nat → Int32) (ew_1 : Int32) (cv_1 : Nat → Int32) (H : Heap) (locs : List Loc) (ls : Array Slot), mM_cover N mr n 1 [x2, x3] en es ew cv = some (r, en_1, es_1, ew_1, cv_1) → va_P D vwCl (wM q cA N mr zn zs tn ts yn ys en es ew cv) H → va_D A (wM q cA N mr zn zs tn ts yn ys en es ew cv) → va_S A s.heap H locs → lv_has ls 6 [(0, .ref (q 0)), (2, .int x2), (3, .int x3)] → W p l e ({ frames := 5, cells := 0, slots := 0, locals := 116 }) s m ([.ref (q 0), .int a1] : List Value).toArray below meth c H locs 0 0 (MQ below (kQi D cA kT A (wM q cA N mr zn zs tn ts yn ys en_1 es_1 ew_1 cv_1) r) ([.ref (q 0), .int a1] : List Value).toArray s 0 0 A) (F0 m 25 ls [])) ∧
    (∀ (x2 x3 x4 : Int32) (en : Int32) (es : Nat → Int32) (ew : Int32) (cv : Nat → Int32) (r : Int32) (en_1 : Int32) (es_1 : Nat → Int32) (ew_1 : Int32) (cv_1 : Nat → Int32) (H : Heap) (locs : List Loc) (ls : Array Slot), mM_cover N mr n 2 [x2, x3, x4] en es ew cv = some (r, en_1, es_1, ew_1, cv_1) → va_P D vwCl (wM q cA N mr zn zs tn ts yn ys en es ew cv) H → va_D A (wM q cA N mr zn zs tn ts yn ys en es ew cv) → va_S A s.heap H locs → lv_has ls 6 [(0, .ref (q 0)), (2, .int x2), (3, .int x3), (4, .int x4)] → W p l e ({ frames := 5, cells := 0, slots := 0, locals := 116 }) s m ([.ref (q 0), .int a1] : List Value).toArray below meth c H locs 0 0 (MQ below (kQi D cA kT A (wM q cA N mr zn zs tn ts yn ys en_1 es_1 ew_1 cv_1) r) ([.ref (q 0), .int a1] : List Value).toArray s 0 0 A) (F0 m 51 ls [])) ∧
    (∀ (x2 x3 x4 : Int32) (en : Int32) (es : Nat → Int32) (ew : Int32) (cv : Nat → Int32) (r : Int32) (en_1 : Int32) (es_1 : Nat → Int32) (ew_1 : Int32) (cv_1 : Nat → Int32) (H : Heap) (locs : List Loc) (ls : Array Slot), mM_cover N mr n 3 [x2, x3, x4] en es ew cv = some (r, en_1, es_1, ew_1, cv_1) → va_P D vwCl (wM q cA N mr zn zs tn ts yn ys en es ew cv) H → va_D A (wM q cA N mr zn zs tn ts yn ys en es ew cv) → va_S A s.heap H locs → lv_has ls 6 [(0, .ref (q 0)), (2, .int x2), (3, .int x3), (4, .int x4)] → W p l e ({ frames := 5, cells := 0, slots := 0, locals := 116 }) s m ([.ref (q 0), .int a1] : List Value).toArray below meth c H locs 0 0 (MQ below (kQi D cA kT A (wM q cA N mr zn zs tn ts yn ys en_1 es_1 ew_1 cv_1) r) ([.ref (q 0), .int a1] : List Value).toArray s 0 0 A) (F0 m 104 ls [])) ∧
    (∀ (x2 x3 x4 y0 : Int32) (en : Int32) (es : Nat → Int32) (ew : Int32) (cv : Nat → Int32) (r : Int32) (en_1 : Int32) (es_1 : Nat → Int32) (ew_1 : Int32) (cv_1 : Nat → Int32) (H : Heap) (locs : List Loc) (ls : Array Slot), mM_cover N mr n 4 [x2, x3, x4, y0] en es ew cv = some (r, en_1, es_1, ew_1, cv_1) → va_P D vwCl (wM q cA N mr zn zs tn ts yn ys en es ew cv) H → va_D A (wM q cA N mr zn zs tn ts yn ys en es ew cv) → va_S A s.heap H locs → lv_has ls 6 [(0, .ref (q 0)), (2, .int x2), (3, .int x3), (4, .int x4)] → W p l e ({ frames := 5, cells := 0, slots := 0, locals := 116 }) s m ([.ref (q 0), .int a1] : List Value).toArray below meth c H locs 0 0 (MQ below (kQi D cA kT A (wM q cA N mr zn zs tn ts yn ys en_1 es_1 ew_1 cv_1) r) ([.ref (q 0), .int a1] : List Value).toArray s 0 0 A) (F0 m 105 ls [.int y0])) ∧
    (∀ (x2 x3 x4 y0 y1 : Int32) (en : Int32) (es : Nat → Int32) (ew : Int32) (cv : Nat → Int32) (r : Int32) (en_1 : Int32) (es_1 : Nat → Int32) (ew_1 : Int32) (cv_1 : Nat → Int32) (H : Heap) (locs : List Loc) (ls : Array Slot), mM_cover N mr n 5 [x2, x3, x4, y0, y1] en es ew cv = some (r, en_1, es_1, ew_1, cv_1) → va_P D vwCl (wM q cA N mr zn zs tn ts yn ys en es ew cv) H → va_D A (wM q cA N mr zn zs tn ts yn ys en es ew cv) → va_S A s.heap H locs → lv_has ls 6 [(0, .ref (q 0)), (2, .int x2), (3, .int x3), (4, .int x4)] → W p l e ({ frames := 5, cells := 0, slots := 0, locals := 116 }) s m ([.ref (q 0), .int a1] : List Value).toArray below meth c H locs 0 0 (MQ below (kQi D cA kT A (wM q cA N mr zn zs tn ts yn ys en_1 es_1 ew_1 cv_1) r) ([.ref (q 0), .int a1] : List Value).toArray s 0 0 A) (F0 m 139 ls [.int y0, .int y1, .ref (q 6)])) := by
    intro n
    induction n with
    | zero => exact ⟨(by intros; rename_i h _ _ _ _; rw [mM_cover_z] at h; cases h), (by intros; rename_i h _ _ _ _; rw [mM_cover_z] at h; cases h), (by intros; rename_i h _ _ _ _; rw [mM_cover_z] at h; cases h), (by intros; rename_i h _ _ _ _; rw [mM_cover_z] at h; cases h), (by intros; rename_i h _ _ _ _; rw [mM_cover_z] at h; cases h), (by intros; rename_i h _ _ _ _; rw [mM_cover_z] at h; cases h)⟩
    | succ n ih =>
      obtain ⟨ih0, ih1, ih2, ih3, ih4, ih5⟩ := ih
      refine ⟨?_, ?_, ?_, ?_, ?_, ?_⟩
      · intro x1 en es ew cv r en_1 es_1 ew_1 cv_1 H locs ls hm hP hD hS hl
        rw [mM_cover_e0] at hm
        refine lv_aload_n hx hb dXM_cover_0 rfl (lv_at hl 0 rfl) ?_
        refine lv_iload_n hx hb dXM_cover_1 rfl (lv_at hl 1 rfl) ?_
        obtain ⟨⟨r11, en_11, es_11, ew_11⟩, hm11, hm⟩ := kb_s hm
        dsimp only at hm
        refine k_vi (As := [.int x1]) (rest := []) (w2 := (wM q cA N mr zn zs tn ts yn ys en_11 es_11 ew_11 cv)) ⟨hx, hb, hml, hown, hts⟩ (cM_hereditary l D q cA N H.size mr zn zs tn ts yn ys en es ew cv x1 n r11 en_11 es_11 ew_11 hm11) (cwV 1 hts (gV wd_540 wd_508 wd_509 wd_41 wd_510) rfl rfl rfl (by decide +kernel) ⟨Nat.le_of_ble_eq_true rfl, Nat.le_of_ble_eq_true rfl⟩) hK hN hP hD hS hA [0, 1, 2, 3, 4, 5, 6] [] [0, 1, 2, 3, 4, 5, 6] ⟨rfl, rfl, by decide, rfl, by decide, by decide, rfl, rfl, by decide⟩ (va_recv hK hP (ci := 5) (q0 := 0) rfl rfl) rfl hl.1 rfl (Nat.le_of_ble_eq_true rfl) dXM_cover_2 ⟨Nat.le_of_ble_eq_true rfl, Nat.le_of_ble_eq_true rfl⟩ (fun hz11 H locs hP hD hS => ?_)
        refine lv_if_ne (tgt := 10) hx hb dXM_cover_5 (by decide) (fun c12 => ?_) (fun c12 => ?_)
        · rw [if_neg c12] at hm
          refine lv_aload_n hx hb dXM_cover_10 rfl (lv_at hl 0 rfl) ?_
          refine lv_iload_n hx hb dXM_cover_11 rfl (lv_at hl 1 rfl) ?_
          obtain ⟨r13, hm13, hm⟩ := kb_s hm
          refine k_vi (As := [.int x1]) (rest := []) (w2 := (wM q cA N mr zn zs tn ts yn ys en_11 es_11 ew_11 cv)) ⟨hx, hb, hml, hown, hts⟩ (cM_component l D q cA N H.size mr zn zs tn ts yn ys en_11 es_11 ew_11 cv x1 n r13 hm13) (cwV 1 hts (gV wd_439 wd_429 wd_430 wd_41 wd_431) rfl rfl rfl (by decide +kernel) ⟨Nat.le_of_ble_eq_true rfl, Nat.le_of_ble_eq_true rfl⟩) hK hN hP hD hS hA [0, 1, 2, 3, 4, 5, 6] [] [0, 1, 2, 3, 4, 5, 6] ⟨rfl, rfl, by decide, rfl, by decide, by decide, rfl, rfl, by decide⟩ (va_recv hK hP (ci := 5) (q0 := 0) rfl rfl) rfl hl.1 rfl (Nat.le_of_ble_eq_true rfl) dXM_cover_12 ⟨Nat.le_of_ble_eq_true rfl, Nat.le_of_ble_eq_true rfl⟩ (fun hz13 H locs hP hD hS => ?_)
          refine lv_istore_n (lv' := [(2, .int r13), (0, .ref (q 0)), (1, .int x1)]) hx hb dXM_cover_15 rfl hl (by decide) rfl (fun ls hl => ?_)
          refine lv_aload_n hx hb dXM_cover_16 rfl (lv_at hl 1 rfl) ?_
          refine va_get (D := D) (ci := 5) (v := .ref (q 6)) (C := RXM) (T := TXM) (N := 12) hx hb hts hinXM hown hK hP 0 rfl rfl 11 (by decide) (hts _ wd_400) (fun _ h9 => h9) rfl dXM_cover_17 ?_
          refine lv_iconst (v := 0) hx hb dXM_cover_20 (by decide) ?_
          refine lv_iconst (v := 0) hx hb dXM_cover_21 (by decide) ?_
          obtain ⟨hg14, hm⟩ := kg_s hm
          refine va_iast hx hb hK hP hD hS 6 0 rfl rfl hg14 dXM_cover_22 (fun H locs hP hD hS => ?_)
          have hP : va_P D vwCl (wM q cA N mr zn zs tn ts yn ys en_11 es_11 ew_11 (upd cv (0 : Int32).toNatClampNeg 0)) H := hP
          have hD : va_D A (wM q cA N mr zn zs tn ts yn ys en_11 es_11 ew_11 (upd cv (0 : Int32).toNatClampNeg 0)) := hD
          refine lv_iconst (v := 1) hx hb dXM_cover_23 (by decide) ?_
          refine lv_istore_n (lv' := [(3, .int 1), (2, .int r13), (0, .ref (q 0)), (1, .int x1)]) hx hb dXM_cover_24 rfl hl (by decide) rfl (fun ls hl => ?_)
          exact ih1 r13 1 en_11 es_11 ew_11 (upd cv (0 : Int32).toNatClampNeg 0) _ _ _ _ _ H locs ls hm hP hD hS (lv_sub hl [2, 1, 0] rfl)
        · rw [if_pos c12] at hm
          refine lv_iconst (v := (-1)) hx hb dXM_cover_8 (by decide) ?_
          cases hm
          exact k_iret hx hb hr hlocks hK hP hD hS trivial dXM_cover_9
      · intro x2 x3 en es ew cv r en_1 es_1 ew_1 cv_1 H locs ls hm hP hD hS hl
        rw [mM_cover_e1] at hm
        refine lv_iload_n hx hb dXM_cover_25 rfl (lv_at hl 2 rfl) ?_
        refine lv_sipush (v := 512) hx hb dXM_cover_26 (by decide) ?_
        refine lv_icmp_ge (tgt := 157) hx hb dXM_cover_29 (by decide) (fun c111 => ?_) (fun c111 => ?_)
        · rw [if_pos c111] at hm
          refine lv_aload_n hx hb dXM_cover_157 rfl (lv_at hl 0 rfl) ?_
          refine va_get (D := D) (ci := 5) (v := .ref (q 6)) (C := RXM) (T := TXM) (N := 12) hx hb hts hinXM hown hK hP 0 rfl rfl 11 (by decide) (hts _ wd_400) (fun _ h9 => h9) rfl dXM_cover_158 ?_
          refine lv_iload_n hx hb dXM_cover_161 rfl (lv_at hl 1 rfl) ?_
          obtain ⟨hg112, hm⟩ := kg_s hm
          refine va_iald hx hb hK hP 6 0 rfl rfl hg112 dXM_cover_162 ?_
          cases hm
          exact k_iret hx hb hr hlocks hK hP hD hS trivial dXM_cover_163
        · rw [if_neg c111] at hm
          refine lv_aload_n hx hb dXM_cover_32 rfl (lv_at hl 0 rfl) ?_
          refine va_get (D := D) (ci := 5) (v := .ref (q 6)) (C := RXM) (T := TXM) (N := 12) hx hb hts hinXM hown hK hP 0 rfl rfl 11 (by decide) (hts _ wd_400) (fun _ h9 => h9) rfl dXM_cover_33 ?_
          refine lv_iload_n hx hb dXM_cover_36 rfl (lv_at hl 2 rfl) ?_
          refine lv_bipush (v := 9) hx hb dXM_cover_37 (by decide) ?_
          obtain ⟨hg113, hm⟩ := kg_s hm
          refine va_iast hx hb hK hP hD hS 6 0 rfl rfl hg113 dXM_cover_39 (fun H locs hP hD hS => ?_)
          have hP : va_P D vwCl (wM q cA N mr zn zs tn ts yn ys en es ew (upd cv x3.toNatClampNeg 9)) H := hP
          have hD : va_D A (wM q cA N mr zn zs tn ts yn ys en es ew (upd cv x3.toNatClampNeg 9)) := hD
          refine lv_iload_n hx hb dXM_cover_40 rfl (lv_at hl 2 rfl) ?_
          refine lv_iload_n hx hb dXM_cover_41 rfl (lv_at hl 1 rfl) ?_
          refine lv_iconst (v := (-1)) hx hb dXM_cover_42 (by decide) ?_
          refine lv_ixor hx hb dXM_cover_43 ?_
          refine lv_iand hx hb dXM_cover_44 ?_
          refine lv_if_ne (tgt := 151) hx hb dXM_cover_45 (by decide) (fun c114 => ?_) (fun c114 => ?_)
          · rw [if_neg c114] at hm
            refine lv_iinc (v := (x3 + 1)) (lv' := [(3, .int (x3 + 1)), (0, .ref (q 0)), (2, .int x2)]) hx hb dXM_cover_151 hl (k := 2) rfl rfl (by decide) rfl (fun ls hl => ?_)
            refine lv_goto (tgt := 25) hx hb dXM_cover_154 (by decide) ?_
            exact ih1 x2 (x3 + 1) en es ew (upd cv x3.toNatClampNeg 9) _ _ _ _ _ H locs ls hm hP hD hS (lv_sub hl [1, 2, 0] rfl)
          · rw [if_pos c114] at hm
            refine lv_iload_n hx hb dXM_cover_48 rfl (lv_at hl 2 rfl) ?_
            refine lv_istore (lv' := [(4, .int x3), (0, .ref (q 0)), (2, .int x2), (3, .int x3)]) hx hb dXM_cover_49 hl (by decide) rfl (fun ls hl => ?_)
            exact ih2 x2 x3 x3 en es ew (upd cv x3.toNatClampNeg 9) _ _ _ _ _ H locs ls hm hP hD hS (lv_sub hl [1, 2, 3, 0] rfl)
      · intro x2 x3 x4 en es ew cv r en_1 es_1 ew_1 cv_1 H locs ls hm hP hD hS hl
        rw [mM_cover_e2] at hm
        refine lv_iload hx hb dXM_cover_51 (lv_at hl 3 rfl) ?_
        refine lv_if_le (tgt := 151) hx hb dXM_cover_53 (by decide) (fun c211 => ?_) (fun c211 => ?_)
        · rw [if_pos c211] at hm
          refine lv_iinc (v := (x3 + 1)) (lv' := [(3, .int (x3 + 1)), (0, .ref (q 0)), (2, .int x2), (4, .int x4)]) hx hb dXM_cover_151 hl (k := 2) rfl rfl (by decide) rfl (fun ls hl => ?_)
          refine lv_goto (tgt := 25) hx hb dXM_cover_154 (by decide) ?_
          exact ih1 x2 (x3 + 1) en es ew cv _ _ _ _ _ H locs ls hm hP hD hS (lv_sub hl [1, 2, 0] rfl)
        · rw [if_neg c211] at hm
          refine lv_iload hx hb dXM_cover_56 (lv_at hl 3 rfl) ?_
          refine lv_iload_n hx hb dXM_cover_58 rfl (lv_at hl 2 rfl) ?_
          obtain ⟨r212, hm212, hm⟩ := kb_s hm
          refine k_s0 (As := [.int x3]) (rest := [.int x4]) ⟨hx, hb, hml, hown, hts⟩ (cM_least l D cA H.size x3 n r212 hm212) (cwS 1 hts (gS wd_443 wd_444 wd_41 wd_445) rfl rfl rfl (by decide +kernel) ⟨Nat.le_of_ble_eq_true rfl, Nat.le_of_ble_eq_true rfl⟩) hK hN hP hD hS hA rfl hl.1 rfl (Nat.le_of_ble_eq_true rfl) dXM_cover_59 ⟨Nat.le_of_ble_eq_true rfl, Nat.le_of_ble_eq_true rfl⟩ (fun hz212 H locs hP hD hS => ?_)
          refine lv_ishr hx hb dXM_cover_62 ?_
          refine lv_iconst (v := 1) hx hb dXM_cover_63 (by decide) ?_
          refine lv_iand hx hb dXM_cover_64 ?_
          refine lv_iconst (v := 1) hx hb dXM_cover_65 (by decide) ?_
          refine lv_icmp_ne (tgt := 104) hx hb dXM_cover_66 (by decide) (fun c213 => ?_) (fun c213 => ?_)
          · rw [if_neg c213] at hm
            exact ih3 x2 x3 x4 en es ew cv _ _ _ _ _ H locs ls hm hP hD hS (lv_sub hl [0, 1, 2, 3] rfl)
          · rw [if_pos c213] at hm
            refine lv_aload_n hx hb dXM_cover_69 rfl (lv_at hl 0 rfl) ?_
            refine va_get (D := D) (ci := 5) (v := .ref (q 6)) (C := RXM) (T := TXM) (N := 12) hx hb hts hinXM hown hK hP 0 rfl rfl 11 (by decide) (hts _ wd_400) (fun _ h9 => h9) rfl dXM_cover_70 ?_
            refine lv_iload_n hx hb dXM_cover_73 rfl (lv_at hl 2 rfl) ?_
            refine lv_iload hx hb dXM_cover_74 (lv_at hl 3 rfl) ?_
            refine lv_iconst (v := (-1)) hx hb dXM_cover_76 (by decide) ?_
            refine lv_ixor hx hb dXM_cover_77 ?_
            refine lv_iand hx hb dXM_cover_78 ?_
            obtain ⟨hg214, hm⟩ := kg_s hm
            refine va_iald hx hb hK hP 6 0 rfl rfl hg214 dXM_cover_79 ?_
            refine lv_aload_n hx hb dXM_cover_80 rfl (lv_at hl 0 rfl) ?_
            refine va_get (D := D) (ci := 5) (v := .ref (q 6)) (C := RXM) (T := TXM) (N := 12) hx hb hts hinXM hown hK hP 0 rfl rfl 11 (by decide) (hts _ wd_400) (fun _ h9 => h9) rfl dXM_cover_81 ?_
            refine lv_iload_n hx hb dXM_cover_84 rfl (lv_at hl 2 rfl) ?_
            obtain ⟨hg215, hm⟩ := kg_s hm
            refine va_iald hx hb hK hP 6 0 rfl rfl hg215 dXM_cover_85 ?_
            refine lv_iconst (v := 1) hx hb dXM_cover_86 (by decide) ?_
            refine lv_isub hx hb dXM_cover_87 ?_
            refine lv_icmp_ge (tgt := 104) hx hb dXM_cover_88 (by decide) (fun c216 => ?_) (fun c216 => ?_)
            · rw [if_pos c216] at hm
              exact ih3 x2 x3 x4 en es ew cv _ _ _ _ _ H locs ls hm hP hD hS (lv_sub hl [0, 1, 2, 3] rfl)
            · rw [if_neg c216] at hm
              refine lv_aload_n hx hb dXM_cover_91 rfl (lv_at hl 0 rfl) ?_
              refine lv_iload hx hb dXM_cover_92 (lv_at hl 3 rfl) ?_
              obtain ⟨r217, hm217, hm⟩ := kb_s hm
              refine k_vi (As := [.int x4]) (rest := []) (w2 := (wM q cA N mr zn zs tn ts yn ys en es ew cv)) ⟨hx, hb, hml, hown, hts⟩ (cM_clique l D q cA N H.size mr zn zs tn ts yn ys en es ew cv x4 n r217 hm217) (cwV 1 hts (gV wd_552 wd_553 wd_34 wd_41 wd_554) rfl rfl rfl (by decide +kernel) ⟨Nat.le_of_ble_eq_true rfl, Nat.le_of_ble_eq_true rfl⟩) hK hN hP hD hS hA [0, 1, 2, 3, 4, 5, 6] [] [0, 1, 2, 3, 4, 5, 6] ⟨rfl, rfl, by decide, rfl, by decide, by decide, rfl, rfl, by decide⟩ (va_recv hK hP (ci := 5) (q0 := 0) rfl rfl) rfl hl.1 rfl (Nat.le_of_ble_eq_true rfl) dXM_cover_94 ⟨Nat.le_of_ble_eq_true rfl, Nat.le_of_ble_eq_true rfl⟩ (fun hz217 H locs hP hD hS => ?_)
              refine lv_if_eq (tgt := 104) hx hb dXM_cover_97 (by decide) (fun c218 => ?_) (fun c218 => ?_)
              · rw [if_pos c218] at hm
                exact ih3 x2 x3 x4 en es ew cv _ _ _ _ _ H locs ls hm hP hD hS (lv_sub hl [0, 1, 2, 3] rfl)
              · rw [if_neg c218] at hm
                refine lv_iconst (v := 1) hx hb dXM_cover_100 (by decide) ?_
                refine lv_goto (tgt := 105) hx hb dXM_cover_101 (by decide) ?_
                exact ih4 x2 x3 x4 1 en es ew cv _ _ _ _ _ H locs ls hm hP hD hS (lv_sub hl [0, 1, 2, 3] rfl)
      · intro x2 x3 x4 en es ew cv r en_1 es_1 ew_1 cv_1 H locs ls hm hP hD hS hl
        rw [mM_cover_e3] at hm
        refine lv_iconst (v := 0) hx hb dXM_cover_104 (by decide) ?_
        exact ih4 x2 x3 x4 0 en es ew cv _ _ _ _ _ H locs ls hm hP hD hS (lv_sub hl [0, 1, 2, 3] rfl)
      · intro x2 x3 x4 y0 en es ew cv r en_1 es_1 ew_1 cv_1 H locs ls hm hP hD hS hl
        rw [mM_cover_e4] at hm
        refine lv_istore (lv' := [(5, .int y0), (0, .ref (q 0)), (2, .int x2), (3, .int x3), (4, .int x4)]) hx hb dXM_cover_105 hl (by decide) rfl (fun ls hl => ?_)
        refine lv_aload_n hx hb dXM_cover_107 rfl (lv_at hl 1 rfl) ?_
        refine va_get (D := D) (ci := 5) (v := .ref (q 6)) (C := RXM) (T := TXM) (N := 12) hx hb hts hinXM hown hK hP 0 rfl rfl 11 (by decide) (hts _ wd_400) (fun _ h9 => h9) rfl dXM_cover_108 ?_
        refine lv_iload_n hx hb dXM_cover_111 rfl (lv_at hl 3 rfl) ?_
        refine lv_iload hx hb dXM_cover_112 (lv_at hl 0 rfl) ?_
        refine lv_if_eq (tgt := 133) hx hb dXM_cover_114 (by decide) (fun c411 => ?_) (fun c411 => ?_)
        · rw [if_pos c411] at hm
          refine lv_aload_n hx hb dXM_cover_133 rfl (lv_at hl 1 rfl) ?_
          refine va_get (D := D) (ci := 5) (v := .ref (q 6)) (C := RXM) (T := TXM) (N := 12) hx hb hts hinXM hown hK hP 0 rfl rfl 11 (by decide) (hts _ wd_400) (fun _ h9 => h9) rfl dXM_cover_134 ?_
          refine lv_iload_n hx hb dXM_cover_137 rfl (lv_at hl 3 rfl) ?_
          obtain ⟨hg412, hm⟩ := kg_s hm
          refine va_iald hx hb hK hP 6 0 rfl rfl hg412 dXM_cover_138 ?_
          exact ih5 x2 x3 x4 (cv x3.toNatClampNeg) x3 en es ew cv _ _ _ _ _ H locs ls hm hP hD hS (lv_sub hl [1, 2, 3, 4] rfl)
        · rw [if_neg c411] at hm
          refine lv_aload_n hx hb dXM_cover_117 rfl (lv_at hl 1 rfl) ?_
          refine va_get (D := D) (ci := 5) (v := .ref (q 6)) (C := RXM) (T := TXM) (N := 12) hx hb hts hinXM hown hK hP 0 rfl rfl 11 (by decide) (hts _ wd_400) (fun _ h9 => h9) rfl dXM_cover_118 ?_
          refine lv_iload_n hx hb dXM_cover_121 rfl (lv_at hl 3 rfl) ?_
          refine lv_iload hx hb dXM_cover_122 (lv_at hl 4 rfl) ?_
          refine lv_iconst (v := (-1)) hx hb dXM_cover_124 (by decide) ?_
          refine lv_ixor hx hb dXM_cover_125 ?_
          refine lv_iand hx hb dXM_cover_126 ?_
          obtain ⟨hg413, hm⟩ := kg_s hm
          refine va_iald hx hb hK hP 6 0 rfl rfl hg413 dXM_cover_127 ?_
          refine lv_iconst (v := 1) hx hb dXM_cover_128 (by decide) ?_
          refine lv_iadd hx hb dXM_cover_129 ?_
          refine lv_goto (tgt := 139) hx hb dXM_cover_130 (by decide) ?_
          exact ih5 x2 x3 x4 ((cv (x3 &&& (x4 ^^^ (-1))).toNatClampNeg) + 1) x3 en es ew cv _ _ _ _ _ H locs ls hm hP hD hS (lv_sub hl [1, 2, 3, 4] rfl)
      · intro x2 x3 x4 y0 y1 en es ew cv r en_1 es_1 ew_1 cv_1 H locs ls hm hP hD hS hl
        rw [mM_cover_e5] at hm
        obtain ⟨hg511, hm⟩ := kg_s hm
        refine va_iast hx hb hK hP hD hS 6 0 rfl rfl hg511 dXM_cover_139 (fun H locs hP hD hS => ?_)
        have hP : va_P D vwCl (wM q cA N mr zn zs tn ts yn ys en es ew (upd cv y1.toNatClampNeg y0)) H := hP
        have hD : va_D A (wM q cA N mr zn zs tn ts yn ys en es ew (upd cv y1.toNatClampNeg y0)) := hD
        refine lv_iload hx hb dXM_cover_140 (lv_at hl 3 rfl) ?_
        refine lv_iconst (v := 1) hx hb dXM_cover_142 (by decide) ?_
        refine lv_isub hx hb dXM_cover_143 ?_
        refine lv_iload_n hx hb dXM_cover_144 rfl (lv_at hl 2 rfl) ?_
        refine lv_iand hx hb dXM_cover_145 ?_
        refine lv_topi (fun x4_512 ex4_512 => ?_)
        have hm := kl_s ex4_512 hm
        refine lv_istore (lv' := [(4, .int x4_512), (0, .ref (q 0)), (2, .int x2), (3, .int x3)]) hx hb dXM_cover_146 hl (by decide) rfl (fun ls hl => ?_)
        refine lv_goto (tgt := 51) hx hb dXM_cover_148 (by decide) ?_
        exact ih2 x2 x3 x4_512 en es ew (upd cv y1.toNatClampNeg y0) _ _ _ _ _ H locs ls hm hP hD hS (lv_sub hl [1, 2, 3, 0] rfl)
  exact (key n).1 a1 en es ew cv r en_1 es_1 ew_1 cv_1 s.heap [] ls hm hP hD va_S.rf hl
