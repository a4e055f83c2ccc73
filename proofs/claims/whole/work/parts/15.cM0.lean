set_option maxHeartbeats 4000000 in
set_option maxRecDepth 100000 in
theorem cM_vertices (l : Launch) (D : va_G) (q : Nat → Nat) (cA : ClassId) (N : Nat) (sz : Nat) (mr : Nat → Int32) (zn : Int32) (zs : Nat → Int32) (tn : Int32) (ts : Nat → Int32) (yn : Int32) (ys : Nat → Int32) (en : Int32) (es : Nat → Int32) (ew : Int32) (cv : Nat → Int32) (n : Nat) (r : Int32) (hm : mM_vertices N n 0 [] = some r) : Met l yXM_vertices wsXM_vertices ({ frames := 0, cells := 0, slots := 0, locals := 0 }) (kPc D cA [.ref (q 0)] (wM q cA N mr zn zs tn ts yn ys en es ew cv) sz) (kQi D cA kT (va_A (wM q cA N mr zn zs tn ts yn ys en es ew cv) sz) (wM q cA N mr zn zs tn ts yn ys en es ew cv) r) 0 0 (va_A (wM q cA N mr zn zs tn ts yn ys en es ew cv) sz) := by
  refine k_met (D := D) (cA := cA) (w := (wM q cA N mr zn zs tn ts yn ys en es ew cv)) (sz := sz) (av := [.ref (q 0)]) (cc := cXM_vertices) (maxL := 1) (ret := (some .int)) (Qc := fun A => kQi D cA kT A (wM q cA N mr zn zs tn ts yn ys en es ew cv) r) (by decide) rfl (Nat.le_of_ble_eq_true rfl) ?_
  intro p e s m below meth c A ls hX hK hN hA hP hD hl
  obtain ⟨hx, hb, hr, hml, hown, hts, hlocks, -⟩ := hX
  have hown : s.vm.findClass RXM = some m.cls := hown
  have hl : lv_has ls 1 [(0, .ref (q 0))] := hl
  have hts : ∀ w ∈ W0, w.before _ s = true := fun w h => hts w (List.mem_cons_of_mem _ h)
  have key : ∀ n : Nat, (∀ (r : Int32) (H : Heap) (locs : List Loc) (ls : Array Slot), mM_vertices N n 0 [] = some r → va_P D vwCl (wM q cA N mr zn zs tn ts yn ys en es ew cv) H → va_D A (wM q cA N mr zn zs tn ts yn ys en es ew cv) → va_S A s.heap H locs → lv_has ls 1 [(0, .ref (q 0))] → W p l e ({ frames := 0, cells := 0, slots := 0, locals := 0 }) s m ([.ref (q 0)] : List Value).toArray below meth c H locs 0 0 (MQ below (kQi D cA kT A (wM q cA N mr zn zs tn ts yn ys en es ew cv) r) ([.ref (q 0)] : List Value).toArray s 0 0 A) (F0 m 0 ls [])) := by
    intro n
    induction n with
    | zero => exact (by intros; rename_i h _ _ _ _; rw [mM_vertices_z] at h; cases h)
    | succ n ih =>
      have ih0 := ih
      intro r H locs ls hm hP hD hS hl
      rw [mM_vertices_e0] at hm
      refine lv_aload_n hx hb dXM_vertices_0 rfl (lv_at hl 0 rfl) ?_
      refine va_get (D := D) (ci := 5) (v := .int (nI N)) (C := RXM) (T := TXM) (N := 12) hx hb hts hinXM hown hK hP 0 rfl rfl 0 (by decide) (hts _ wd_389) (fun _ h9 => h9) rfl dXM_vertices_1 ?_
      cases hm
      exact k_iret hx hb hr hlocks hK hP hD hS trivial dXM_vertices_4
  exact key n r s.heap [] ls hm hP hD va_S.rf hl
set_option maxHeartbeats 4000000 in
set_option maxRecDepth 100000 in
theorem cM_is (l : Launch) (D : va_G) (q : Nat → Nat) (cA : ClassId) (N : Nat) (sz : Nat) (mr : Nat → Int32) (zn : Int32) (zs : Nat → Int32) (tn : Int32) (ts : Nat → Int32) (yn : Int32) (ys : Nat → Int32) (en : Int32) (es : Nat → Int32) (ew : Int32) (cv : Nat → Int32) (a1 : Int32) (n : Nat) (r : Int32) (hm : mM_is N n 0 [a1] = some r) : Met l yXM_is wsXM_is ({ frames := 0, cells := 0, slots := 0, locals := 0 }) (kPc D cA [.ref (q 0), .int a1] (wM q cA N mr zn zs tn ts yn ys en es ew cv) sz) (kQi D cA kB (va_A (wM q cA N mr zn zs tn ts yn ys en es ew cv) sz) (wM q cA N mr zn zs tn ts yn ys en es ew cv) r) 0 0 (va_A (wM q cA N mr zn zs tn ts yn ys en es ew cv) sz) := by
  refine k_met (D := D) (cA := cA) (w := (wM q cA N mr zn zs tn ts yn ys en es ew cv)) (sz := sz) (av := [.ref (q 0), .int a1]) (cc := cXM_is) (maxL := 2) (ret := (some .boolean)) (Qc := fun A => kQi D cA kB A (wM q cA N mr zn zs tn ts yn ys en es ew cv) r) (by decide) rfl (Nat.le_of_ble_eq_true rfl) ?_
  intro p e s m below meth c A ls hX hK hN hA hP hD hl
  obtain ⟨hx, hb, hr, hml, hown, hts, hlocks, -⟩ := hX
  have hown : s.vm.findClass RXM = some m.cls := hown
  have hl : lv_has ls 2 [(0, .ref (q 0)), (1, .int a1)] := hl
  have hts : ∀ w ∈ W0, w.before _ s = true := fun w h => hts w (List.mem_cons_of_mem _ h)
  have key : ∀ n : Nat, (∀ (x1 : Int32) (r : Int32) (H : Heap) (locs : List Loc) (ls : Array Slot), mM_is N n 0 [x1] = some r → va_P D vwCl (wM q cA N mr zn zs tn ts yn ys en es ew cv) H → va_D A (wM q cA N mr zn zs tn ts yn ys en es ew cv) → va_S A s.heap H locs → lv_has ls 2 [(0, .ref (q 0)), (1, .int x1)] → W p l e ({ frames := 0, cells := 0, slots := 0, locals := 0 }) s m ([.ref (q 0), .int a1] : List Value).toArray below meth c H locs 0 0 (MQ below (kQi D cA kB A (wM q cA N mr zn zs tn ts yn ys en es ew cv) r) ([.ref (q 0), .int a1] : List Value).toArray s 0 0 A) (F0 m 0 ls [])) := by
    intro n
    induction n with
    | zero => exact (by intros; rename_i h _ _ _ _; rw [mM_is_z] at h; cases h)
    | succ n ih =>
      have ih0 := ih
      intro x1 r H locs ls hm hP hD hS hl
      rw [mM_is_e0] at hm
      refine lv_iload_n hx hb dXM_is_0 rfl (lv_at hl 1 rfl) ?_
      refine lv_if_lt (tgt := 16) hx hb dXM_is_1 (by decide) (fun c11 => ?_) (fun c11 => ?_)
      · rw [if_pos c11] at hm
        refine lv_iconst (v := 0) hx hb dXM_is_16 (by decide) ?_
        cases hm
        exact k_zret hx hb hr hlocks hK hP hD hS (Or.inl rfl) dXM_is_17
      · rw [if_neg c11] at hm
        refine lv_iload_n hx hb dXM_is_4 rfl (lv_at hl 1 rfl) ?_
        refine lv_aload_n hx hb dXM_is_5 rfl (lv_at hl 0 rfl) ?_
        refine va_get (D := D) (ci := 5) (v := .int (nI N)) (C := RXM) (T := TXM) (N := 12) hx hb hts hinXM hown hK hP 0 rfl rfl 0 (by decide) (hts _ wd_389) (fun _ h9 => h9) rfl dXM_is_6 ?_
        refine lv_icmp_ge (tgt := 16) hx hb dXM_is_9 (by decide) (fun c12 => ?_) (fun c12 => ?_)
        · rw [if_pos c12] at hm
          refine lv_iconst (v := 0) hx hb dXM_is_16 (by decide) ?_
          cases hm
          exact k_zret hx hb hr hlocks hK hP hD hS (Or.inl rfl) dXM_is_17
        · rw [if_neg c12] at hm
          refine lv_iconst (v := 1) hx hb dXM_is_12 (by decide) ?_
          refine lv_goto (tgt := 17) hx hb dXM_is_13 (by decide) ?_
          cases hm
          exact k_zret hx hb hr hlocks hK hP hD hS (Or.inr rfl) dXM_is_17
  exact key n a1 r s.heap [] ls hm hP hD va_S.rf hl
set_option maxHeartbeats 4000000 in
set_option maxRecDepth 100000 in
theorem cM_size (l : Launch) (D : va_G) (cA : ClassId) (sz : Nat) (a0 : Int32) (n : Nat) (r : Int32) (hm : mM_size n 0 [a0] = some r) : Met l yXM_size wsXM_size ({ frames := 0, cells := 0, slots := 0, locals := 0 }) (kPc D cA [.int a0] [] sz) (kQi D cA kT (va_A [] sz) [] r) 0 0 (va_A [] sz) := by
  refine k_met (D := D) (cA := cA) (w := []) (sz := sz) (av := [.int a0]) (cc := cXM_size) (maxL := 3) (ret := (some .int)) (Qc := fun A => kQi D cA kT A [] r) (by decide) rfl (Nat.le_of_ble_eq_true rfl) ?_
  intro p e s m below meth c A ls hX hK hN hA hP hD hl
  obtain ⟨hx, hb, hr, hml, hown, hts, hlocks, -⟩ := hX
  have hown : s.vm.findClass RXM = some m.cls := hown
  have hl : lv_has ls 3 [(0, .int a0)] := hl
  have hts : ∀ w ∈ W0, w.before _ s = true := fun w h => hts w (List.mem_cons_of_mem _ h)
  have key : ∀ n : Nat, (∀ (x0 : Int32) (r : Int32) (H : Heap) (locs : List Loc) (ls : Array Slot), mM_size n 0 [x0] = some r → va_P D vwCl [] H → va_D A [] → va_S A s.heap H locs → lv_has ls 3 [(0, .int x0)] → W p l e ({ frames := 0, cells := 0, slots := 0, locals := 0 }) s m ([.int a0] : List Value).toArray below meth c H locs 0 0 (MQ below (kQi D cA kT A [] r) ([.int a0] : List Value).toArray s 0 0 A) (F0 m 0 ls [])) ∧
    (∀ (x0 x1 x2 : Int32) (r : Int32) (H : Heap) (locs : List Loc) (ls : Array Slot), mM_size n 1 [x0, x1, x2] = some r → va_P D vwCl [] H → va_D A [] → va_S A s.heap H locs → lv_has ls 3 [(0, .int x0), (1, .int x1), (2, .int x2)] → W p l e ({ frames := 0, cells := 0, slots := 0, locals := 0 }) s m ([.int a0] : List Value).toArray below meth c H locs 0 0 (MQ below (kQi D cA kT A [] r) ([.int a0] : List Value).toArray s 0 0 A) (F0 m 4 ls [])) := by
    intro n
    induction n with
    | zero => exact ⟨(by intros; rename_i h _ _ _ _; rw [mM_size_z] at h; cases h), (by intros; rename_i h _ _ _ _; rw [mM_size_z] at h; cases h)⟩
    | succ n ih =>
      obtain ⟨ih0, ih1⟩ := ih
      refine ⟨?_, ?_⟩
      · intro x0 r H locs ls hm hP hD hS hl
        rw [mM_size_e0] at hm
        refine lv_iconst (v := 0) hx hb dXM_size_0 (by decide) ?_
        refine lv_istore_n (lv' := [(1, .int 0), (0, .int x0)]) hx hb dXM_size_1 rfl hl (by decide) rfl (fun ls hl => ?_)
        refine lv_iconst (v := 0) hx hb dXM_size_2 (by decide) ?_
        refine lv_istore_n (lv' := [(2, .int 0), (1, .int 0), (0, .int x0)]) hx hb dXM_size_3 rfl hl (by decide) rfl (fun ls hl => ?_)
        exact ih1 x0 0 0 _ H locs ls hm hP hD hS (lv_sub hl [2, 1, 0] rfl)
      · intro x0 x1 x2 r H locs ls hm hP hD hS hl
        rw [mM_size_e1] at hm
        refine lv_iload_n hx hb dXM_size_4 rfl (lv_at hl 2 rfl) ?_
        refine lv_bipush (v := 9) hx hb dXM_size_5 (by decide) ?_
        refine lv_icmp_ge (tgt := 24) hx hb dXM_size_7 (by decide) (fun c111 => ?_) (fun c111 => ?_)
        · rw [if_pos c111] at hm
          refine lv_iload_n hx hb dXM_size_24 rfl (lv_at hl 1 rfl) ?_
          cases hm
          exact k_iret hx hb hr hlocks hK hP hD hS trivial dXM_size_25
        · rw [if_neg c111] at hm
          refine lv_iload_n hx hb dXM_size_10 rfl (lv_at hl 1 rfl) ?_
          refine lv_iload_n hx hb dXM_size_11 rfl (lv_at hl 0 rfl) ?_
          refine lv_iload_n hx hb dXM_size_12 rfl (lv_at hl 2 rfl) ?_
          refine lv_ishr hx hb dXM_size_13 ?_
          refine lv_iconst (v := 1) hx hb dXM_size_14 (by decide) ?_
          refine lv_iand hx hb dXM_size_15 ?_
          refine lv_iadd hx hb dXM_size_16 ?_
          refine lv_topi (fun x1_112 ex1_112 => ?_)
          have hm := kl_s ex1_112 hm
          refine lv_istore_n (lv' := [(1, .int x1_112), (0, .int x0), (2, .int x2)]) hx hb dXM_size_17 rfl hl (by decide) rfl (fun ls hl => ?_)
          refine lv_iinc (v := (x2 + 1)) (lv' := [(2, .int (x2 + 1)), (1, .int x1_112), (0, .int x0)]) hx hb dXM_size_18 hl (k := 2) rfl rfl (by decide) rfl (fun ls hl => ?_)
          refine lv_goto (tgt := 4) hx hb dXM_size_21 (by decide) ?_
          exact ih1 x0 x1_112 (x2 + 1) _ H locs ls hm hP hD hS (lv_sub hl [2, 1, 0] rfl)
  exact (key n).1 a0 r s.heap [] ls hm hP hD va_S.rf hl
set_option maxHeartbeats 4000000 in
set_option maxRecDepth 100000 in
theorem cM_least (l : Launch) (D : va_G) (cA : ClassId) (sz : Nat) (a0 : Int32) (n : Nat) (r : Int32) (hm : mM_least n 0 [a0] = some r) : Met l yXM_least wsXM_least ({ frames := 0, cells := 0, slots := 0, locals := 0 }) (kPc D cA [.int a0] [] sz) (kQi D cA kT (va_A [] sz) [] r) 0 0 (va_A [] sz) := by
  refine k_met (D := D) (cA := cA) (w := []) (sz := sz) (av := [.int a0]) (cc := cXM_least) (maxL := 2) (ret := (some .int)) (Qc := fun A => kQi D cA kT A [] r) (by decide) rfl (Nat.le_of_ble_eq_true rfl) ?_
  intro p e s m below meth c A ls hX hK hN hA hP hD hl
  obtain ⟨hx, hb, hr, hml, hown, hts, hlocks, -⟩ := hX
  have hown : s.vm.findClass RXM = some m.cls := hown
  have hl : lv_has ls 2 [(0, .int a0)] := hl
  have hts : ∀ w ∈ W0, w.before _ s = true := fun w h => hts w (List.mem_cons_of_mem _ h)
  have key : ∀ n : Nat, (∀ (x0 : Int32) (r : Int32) (H : Heap) (locs : List Loc) (ls : Array Slot), mM_least n 0 [x0] = some r → va_P D vwCl [] H → va_D A [] → va_S A s.heap H locs → lv_has ls 2 [(0, .int x0)] → W p l e ({ frames := 0, cells := 0, slots := 0, locals := 0 }) s m ([.int a0] : List Value).toArray below meth c H locs 0 0 (MQ below (kQi D cA kT A [] r) ([.int a0] : List Value).toArray s 0 0 A) (F0 m 0 ls [])) ∧
    (∀ (x0 x1 : Int32) (r : Int32) (H : Heap) (locs : List Loc) (ls : Array Slot), mM_least n 1 [x0, x1] = some r → va_P D vwCl [] H → va_D A [] → va_S A s.heap H locs → lv_has ls 2 [(0, .int x0), (1, .int x1)] → W p l e ({ frames := 0, cells := 0, slots := 0, locals := 0 }) s m ([.int a0] : List Value).toArray below meth c H locs 0 0 (MQ below (kQi D cA kT A [] r) ([.int a0] : List Value).toArray s 0 0 A) (F0 m 2 ls [])) := by
    intro n
    induction n with
    | zero => exact ⟨(by intros; rename_i h _ _ _ _; rw [mM_least_z] at h; cases h), (by intros; rename_i h _ _ _ _; rw [mM_least_z] at h; cases h)⟩
    | succ n ih =>
      obtain ⟨ih0, ih1⟩ := ih
      refine ⟨?_, ?_⟩
      · intro x0 r H locs ls hm hP hD hS hl
        rw [mM_least_e0] at hm
        refine lv_iconst (v := 0) hx hb dXM_least_0 (by decide) ?_
        refine lv_istore_n (lv' := [(1, .int 0), (0, .int x0)]) hx hb dXM_least_1 rfl hl (by decide) rfl (fun ls hl => ?_)
        exact ih1 x0 0 _ H locs ls hm hP hD hS (lv_sub hl [1, 0] rfl)
      · intro x0 x1 r H locs ls hm hP hD hS hl
        rw [mM_least_e1] at hm
        refine lv_iload_n hx hb dXM_least_2 rfl (lv_at hl 1 rfl) ?_
        refine lv_bipush (v := 9) hx hb dXM_least_3 (by decide) ?_
        refine lv_icmp_ge (tgt := 22) hx hb dXM_least_5 (by decide) (fun c111 => ?_) (fun c111 => ?_)
        · rw [if_pos c111] at hm
          refine lv_iload_n hx hb dXM_least_22 rfl (lv_at hl 1 rfl) ?_
          cases hm
          exact k_iret hx hb hr hlocks hK hP hD hS trivial dXM_least_23
        · rw [if_neg c111] at hm
          refine lv_iload_n hx hb dXM_least_8 rfl (lv_at hl 0 rfl) ?_
          refine lv_iload_n hx hb dXM_least_9 rfl (lv_at hl 1 rfl) ?_
          refine lv_ishr hx hb dXM_least_10 ?_
          refine lv_iconst (v := 1) hx hb dXM_least_11 (by decide) ?_
          refine lv_iand hx hb dXM_least_12 ?_
          refine lv_if_ne (tgt := 22) hx hb dXM_least_13 (by decide) (fun c112 => ?_) (fun c112 => ?_)
          · rw [if_neg c112] at hm
            refine lv_iload_n hx hb dXM_least_22 rfl (lv_at hl 1 rfl) ?_
            cases hm
            exact k_iret hx hb hr hlocks hK hP hD hS trivial dXM_least_23
          · rw [if_pos c112] at hm
            refine lv_iinc (v := (x1 + 1)) (lv' := [(1, .int (x1 + 1)), (0, .int x0)]) hx hb dXM_least_16 hl (k := 1) rfl rfl (by decide) rfl (fun ls hl => ?_)
            refine lv_goto (tgt := 2) hx hb dXM_least_19 (by decide) ?_
            exact ih1 x0 (x1 + 1) _ H locs ls hm hP hD hS (lv_sub hl [1, 0] rfl)
  exact (key n).1 a0 r s.heap [] ls hm hP hD va_S.rf hl
set_option maxHeartbeats 4000000 in
set_option maxRecDepth 100000 in
theorem cM_flip (l : Launch) (D : va_G) (q : Nat → Nat) (cA : ClassId) (N : Nat) (sz : Nat) (mr : Nat → Int32) (zn : Int32) (zs : Nat → Int32) (tn : Int32) (ts : Nat → Int32) (yn : Int32) (ys : Nat → Int32) (en : Int32) (es : Nat → Int32) (ew : Int32) (cv : Nat → Int32) (a1 a2 : Int32) (n : Nat) (r : Int32) (mr_1 : Nat → Int32) (hm : mM_flip N n 0 [a1, a2] mr = some (r, mr_1)) : Met l yXM_flip wsXM_flip ({ frames := 1, cells := 0, slots := 0, locals := 21 }) (kPc D cA [.ref (q 0), .int a1, .int a2] (wM q cA N mr zn zs tn ts yn ys en es ew cv) sz) (kQi D cA kB (va_A (wM q cA N mr zn zs tn ts yn ys en es ew cv) sz) (wM q cA N mr_1 zn zs tn ts yn ys en es ew cv) r) 0 0 (va_A (wM q cA N mr zn zs tn ts yn ys en es ew cv) sz) := by
  refine k_met (D := D) (cA := cA) (w := (wM q cA N mr zn zs tn ts yn ys en es ew cv)) (sz := sz) (av := [.ref (q 0), .int a1, .int a2]) (cc := cXM_flip) (maxL := 3) (ret := (some .boolean)) (Qc := fun A => kQi D cA kB A (wM q cA N mr_1 zn zs tn ts yn ys en es ew cv) r) (by decide) rfl (Nat.le_of_ble_eq_true rfl) ?_
  intro p e s m below meth c A ls hX hK hN hA hP hD hl
  obtain ⟨hx, hb, hr, hml, hown, hts, hlocks, -⟩ := hX
  have hown : s.vm.findClass RXM = some m.cls := hown
  have hl : lv_has ls 3 [(0, .ref (q 0)), (1, .int a1), (2, .int a2)] := hl
  have hts : ∀ w ∈ W0, w.before _ s = true := fun w h => hts w (List.mem_cons_of_mem _ h)
  have key : ∀ n : Nat, (∀ (x1 x2 : Int32) (mr : Nat → Int32) (r : Int32) (mr_1 : Nat → Int32) (H : Heap) (locs : List Loc) (ls : Array Slot), mM_flip N n 0 [x1, x2] mr = some (r, mr_1) → va_P D vwCl (wM q cA N mr zn zs tn ts yn ys en es ew cv) H → va_D A (wM q cA N mr zn zs tn ts yn ys en es ew cv) → va_S A s.heap H locs → lv_has ls 3 [(0, .ref (q 0)), (1, .int x1), (2, .int x2)] → W p l e ({ frames := 1, cells := 0, slots := 0, locals := 21 }) s m ([.ref (q 0), .int a1, .int a2] : List Value).toArray below meth c H locs 0 0 (MQ below (kQi D cA kB A (wM q cA N mr_1 zn zs tn ts yn ys en es ew cv) r) ([.ref (q 0), .int a1, .int a2] : List Value).toArray s 0 0 A) (F0 m 0 ls [])) := by
    intro n
    induction n with
    | zero => exact (by intros; rename_i h _ _ _ _; rw [mM_flip_z] at h; cases h)
    | succ n ih =>
      have ih0 := ih
      intro x1 x2 mr r mr_1 H locs ls hm hP hD hS hl
      rw [mM_flip_e0] at hm
      refine lv_aload_n hx hb dXM_flip_0 rfl (lv_at hl 0 rfl) ?_
      refine lv_iload_n hx hb dXM_flip_1 rfl (lv_at hl 1 rfl) ?_
      obtain ⟨r11, hm11, hm⟩ := kb_s hm
      refine k_vi (As := [.int x1]) (rest := []) (w2 := (wM q cA N mr zn zs tn ts yn ys en es ew cv)) ⟨hx, hb, hml, hown, hts⟩ (cM_is l D q cA N H.size mr zn zs tn ts yn ys en es ew cv x1 n r11 hm11) (cwV 1 hts (gV wd_421 wd_422 wd_18 wd_41 wd_423) rfl rfl rfl (by decide +kernel) ⟨Nat.le_of_ble_eq_true rfl, Nat.le_of_ble_eq_true rfl⟩) hK hN hP hD hS hA [0, 1, 2, 3, 4, 5, 6] [] [0, 1, 2, 3, 4, 5, 6] ⟨rfl, rfl, by decide, rfl, by decide, by decide, rfl, rfl, by decide⟩ (va_recv hK hP (ci := 5) (q0 := 0) rfl rfl) rfl hl.1 rfl (Nat.le_of_ble_eq_true rfl) dXM_flip_2 ⟨Nat.le_of_ble_eq_true rfl, Nat.le_of_ble_eq_true rfl⟩ (fun hz11 H locs hP hD hS => ?_)
      refine lv_if_eq (tgt := 21) hx hb dXM_flip_5 (by decide) (fun c12 => ?_) (fun c12 => ?_)
      · rw [if_pos c12] at hm
        refine lv_iconst (v := 0) hx hb dXM_flip_21 (by decide) ?_
        cases hm
        exact k_zret hx hb hr hlocks hK hP hD hS (Or.inl rfl) dXM_flip_22
      · rw [if_neg c12] at hm
        refine lv_aload_n hx hb dXM_flip_8 rfl (lv_at hl 0 rfl) ?_
        refine lv_iload_n hx hb dXM_flip_9 rfl (lv_at hl 2 rfl) ?_
        obtain ⟨r13, hm13, hm⟩ := kb_s hm
        refine k_vi (As := [.int x2]) (rest := []) (w2 := (wM q cA N mr zn zs tn ts yn ys en es ew cv)) ⟨hx, hb, hml, hown, hts⟩ (cM_is l D q cA N H.size mr zn zs tn ts yn ys en es ew cv x2 n r13 hm13) (cwV 1 hts (gV wd_421 wd_422 wd_18 wd_41 wd_423) rfl rfl rfl (by decide +kernel) ⟨Nat.le_of_ble_eq_true rfl, Nat.le_of_ble_eq_true rfl⟩) hK hN hP hD hS hA [0, 1, 2, 3, 4, 5, 6] [] [0, 1, 2, 3, 4, 5, 6] ⟨rfl, rfl, by decide, rfl, by decide, by decide, rfl, rfl, by decide⟩ (va_recv hK hP (ci := 5) (q0 := 0) rfl rfl) rfl hl.1 rfl (Nat.le_of_ble_eq_true rfl) dXM_flip_10 ⟨Nat.le_of_ble_eq_true rfl, Nat.le_of_ble_eq_true rfl⟩ (fun hz13 H locs hP hD hS => ?_)
        refine lv_if_eq (tgt := 21) hx hb dXM_flip_13 (by decide) (fun c14 => ?_) (fun c14 => ?_)
        · rw [if_pos c14] at hm
          refine lv_iconst (v := 0) hx hb dXM_flip_21 (by decide) ?_
          cases hm
          exact k_zret hx hb hr hlocks hK hP hD hS (Or.inl rfl) dXM_flip_22
        · rw [if_neg c14] at hm
          refine lv_iload_n hx hb dXM_flip_16 rfl (lv_at hl 1 rfl) ?_
          refine lv_iload_n hx hb dXM_flip_17 rfl (lv_at hl 2 rfl) ?_
          refine lv_icmp_ne (tgt := 23) hx hb dXM_flip_18 (by decide) (fun c15 => ?_) (fun c15 => ?_)
          · rw [if_neg c15] at hm
            refine lv_aload_n hx hb dXM_flip_23 rfl (lv_at hl 0 rfl) ?_
            refine va_get (D := D) (ci := 5) (v := .ref (q 1)) (C := RXM) (T := TXM) (N := 12) hx hb hts hinXM hown hK hP 0 rfl rfl 1 (by decide) (hts _ wd_390) (fun _ h9 => h9) rfl dXM_flip_24 ?_
            refine lv_iload_n hx hb dXM_flip_27 rfl (lv_at hl 1 rfl) ?_
            refine lv_aload_n hx hb dXM_flip_28 rfl (lv_at hl 0 rfl) ?_
            refine va_get (D := D) (ci := 5) (v := .ref (q 1)) (C := RXM) (T := TXM) (N := 12) hx hb hts hinXM hown hK hP 0 rfl rfl 1 (by decide) (hts _ wd_390) (fun _ h9 => h9) rfl dXM_flip_29 ?_
            refine lv_iload_n hx hb dXM_flip_32 rfl (lv_at hl 1 rfl) ?_
            obtain ⟨hg16, hm⟩ := kg_s hm
            refine va_iald hx hb hK hP 1 0 rfl rfl hg16 dXM_flip_33 ?_
            refine lv_iconst (v := 1) hx hb dXM_flip_34 (by decide) ?_
            refine lv_iload_n hx hb dXM_flip_35 rfl (lv_at hl 2 rfl) ?_
            refine lv_ishl hx hb dXM_flip_36 ?_
            refine lv_ixor hx hb dXM_flip_37 ?_
            obtain ⟨hg17, hm⟩ := kg_s hm
            refine va_iast hx hb hK hP hD hS 1 0 rfl rfl hg17 dXM_flip_38 (fun H locs hP hD hS => ?_)
            have hP : va_P D vwCl (wM q cA N (upd mr x1.toNatClampNeg ((mr x1.toNatClampNeg) ^^^ ((1 : Int32) <<< (x2 &&& 31)))) zn zs tn ts yn ys en es ew cv) H := hP
            have hD : va_D A (wM q cA N (upd mr x1.toNatClampNeg ((mr x1.toNatClampNeg) ^^^ ((1 : Int32) <<< (x2 &&& 31)))) zn zs tn ts yn ys en es ew cv) := hD
            refine lv_aload_n hx hb dXM_flip_39 rfl (lv_at hl 0 rfl) ?_
            refine va_get (D := D) (ci := 5) (v := .ref (q 1)) (C := RXM) (T := TXM) (N := 12) hx hb hts hinXM hown hK hP 0 rfl rfl 1 (by decide) (hts _ wd_390) (fun _ h9 => h9) rfl dXM_flip_40 ?_
            refine lv_iload_n hx hb dXM_flip_43 rfl (lv_at hl 2 rfl) ?_
            refine lv_aload_n hx hb dXM_flip_44 rfl (lv_at hl 0 rfl) ?_
            refine va_get (D := D) (ci := 5) (v := .ref (q 1)) (C := RXM) (T := TXM) (N := 12) hx hb hts hinXM hown hK hP 0 rfl rfl 1 (by decide) (hts _ wd_390) (fun _ h9 => h9) rfl dXM_flip_45 ?_
            refine lv_iload_n hx hb dXM_flip_48 rfl (lv_at hl 2 rfl) ?_
            obtain ⟨hg18, hm⟩ := kg_s hm
            refine va_iald hx hb hK hP 1 0 rfl rfl hg18 dXM_flip_49 ?_
            refine lv_iconst (v := 1) hx hb dXM_flip_50 (by decide) ?_
            refine lv_iload_n hx hb dXM_flip_51 rfl (lv_at hl 1 rfl) ?_
            refine lv_ishl hx hb dXM_flip_52 ?_
            refine lv_ixor hx hb dXM_flip_53 ?_
            obtain ⟨hg19, hm⟩ := kg_s hm
            refine va_iast hx hb hK hP hD hS 1 0 rfl rfl hg19 dXM_flip_54 (fun H locs hP hD hS => ?_)
            have hP : va_P D vwCl (wM q cA N (upd (upd mr x1.toNatClampNeg ((mr x1.toNatClampNeg) ^^^ ((1 : Int32) <<< (x2 &&& 31)))) x2.toNatClampNeg (((upd mr x1.toNatClampNeg ((mr x1.toNatClampNeg) ^^^ ((1 : Int32) <<< (x2 &&& 31)))) x2.toNatClampNeg) ^^^ ((1 : Int32) <<< (x1 &&& 31)))) zn zs tn ts yn ys en es ew cv) H := hP
            have hD : va_D A (wM q cA N (upd (upd mr x1.toNatClampNeg ((mr x1.toNatClampNeg) ^^^ ((1 : Int32) <<< (x2 &&& 31)))) x2.toNatClampNeg (((upd mr x1.toNatClampNeg ((mr x1.toNatClampNeg) ^^^ ((1 : Int32) <<< (x2 &&& 31)))) x2.toNatClampNeg) ^^^ ((1 : Int32) <<< (x1 &&& 31)))) zn zs tn ts yn ys en es ew cv) := hD
            refine lv_aload_n hx hb dXM_flip_55 rfl (lv_at hl 0 rfl) ?_
            refine va_get (D := D) (ci := 5) (v := .ref (q 1)) (C := RXM) (T := TXM) (N := 12) hx hb hts hinXM hown hK hP 0 rfl rfl 1 (by decide) (hts _ wd_390) (fun _ h9 => h9) rfl dXM_flip_56 ?_
            refine lv_iload_n hx hb dXM_flip_59 rfl (lv_at hl 1 rfl) ?_
            obtain ⟨hg20, hm⟩ := kg_s hm
            refine va_iald hx hb hK hP 1 0 rfl rfl hg20 dXM_flip_60 ?_
            refine lv_iload_n hx hb dXM_flip_61 rfl (lv_at hl 2 rfl) ?_
            refine lv_ishr hx hb dXM_flip_62 ?_
            refine lv_iconst (v := 1) hx hb dXM_flip_63 (by decide) ?_
            refine lv_iand hx hb dXM_flip_64 ?_
            refine lv_iconst (v := 1) hx hb dXM_flip_65 (by decide) ?_
            refine lv_icmp_ne (tgt := 73) hx hb dXM_flip_66 (by decide) (fun c21 => ?_) (fun c21 => ?_)
            · rw [if_neg c21] at hm
              refine lv_iconst (v := 0) hx hb dXM_flip_73 (by decide) ?_
              cases hm
              exact k_zret hx hb hr hlocks hK hP hD hS (Or.inl rfl) dXM_flip_74
            · rw [if_pos c21] at hm
              refine lv_iconst (v := 1) hx hb dXM_flip_69 (by decide) ?_
              refine lv_goto (tgt := 74) hx hb dXM_flip_70 (by decide) ?_
              cases hm
              exact k_zret hx hb hr hlocks hK hP hD hS (Or.inr rfl) dXM_flip_74
          · rw [if_pos c15] at hm
            refine lv_iconst (v := 0) hx hb dXM_flip_21 (by decide) ?_
            cases hm
            exact k_zret hx hb hr hlocks hK hP hD hS (Or.inl rfl) dXM_flip_22
  exact key n a1 a2 mr r mr_1 s.heap [] ls hm hP hD va_S.rf hl
set_option maxHeartbeats 4000000 in
set_option maxRecDepth 100000 in
theorem cM_neighbours (l : Launch) (D : va_G) (q : Nat → Nat) (cA : ClassId) (N : Nat) (sz : Nat) (mr : Nat → Int32) (zn : Int32) (zs : Nat → Int32) (tn : Int32) (ts : Nat → Int32) (yn : Int32) (ys : Nat → Int32) (en : Int32) (es : Nat → Int32) (ew : Int32) (cv : Nat → Int32) (a1 a2 : Int32) (n : Nat) (r : Int32) (hm : mM_neighbours N mr n 0 [a1, a2] = some r) : Met l yXM_neighbours wsXM_neighbours ({ frames := 1, cells := 0, slots := 0, locals := 21 }) (kPc D cA [.ref (q 0), .int a1, .int a2] (wM q cA N mr zn zs tn ts yn ys en es ew cv) sz) (kQi D cA kB (va_A (wM q cA N mr zn zs tn ts yn ys en es ew cv) sz) (wM q cA N mr zn zs tn ts yn ys en es ew cv) r) 0 0 (va_A (wM q cA N mr zn zs tn ts yn ys en es ew cv) sz) := by
  refine k_met (D := D) (cA := cA) (w := (wM q cA N mr zn zs tn ts yn ys en es ew cv)) (sz := sz) (av := [.ref (q 0), .int a1, .int a2]) (cc := cXM_neighbours) (maxL := 3) (ret := (some .boolean)) (Qc := fun A => kQi D cA kB A (wM q cA N mr zn zs tn ts yn ys en es ew cv) r) (by decide) rfl (Nat.le_of_ble_eq_true rfl) ?_
  intro p e s m below meth c A ls hX hK hN hA hP hD hl
  obtain ⟨hx, hb, hr, hml, hown, hts, hlocks, -⟩ := hX
  have hown : s.vm.findClass RXM = some m.cls := hown
  have hl : lv_has ls 3 [(0, .ref (q 0)), (1, .int a1), (2, .int a2)] := hl
  have hts : ∀ w ∈ W0, w.before _ s = true := fun w h => hts w (List.mem_cons_of_mem _ h)
  have key : ∀ n : Nat, (∀ (x1 x2 : Int32) (r : Int32) (H : Heap) (locs : List Loc) (ls : Array Slot), mM_neighbours N mr n 0 [x1, x2] = some r → va_P D vwCl (wM q cA N mr zn zs tn ts yn ys en es ew cv) H → va_D A (wM q cA N mr zn zs tn ts yn ys en es ew cv) → va_S A s.heap H locs → lv_has ls 3 [(0, .ref (q 0)), (1, .int x1), (2, .int x2)] → W p l e ({ frames := 1, cells := 0, slots := 0, locals := 21 }) s m ([.ref (q 0), .int a1, .int a2] : List Value).toArray below meth c H locs 0 0 (MQ below (kQi D cA kB A (wM q cA N mr zn zs tn ts yn ys en es ew cv) r) ([.ref (q 0), .int a1, .int a2] : List Value).toArray s 0 0 A) (F0 m 0 ls [])) := by
    intro n
    induction n with
    | zero => exact (by intros; rename_i h _ _ _ _; rw [mM_neighbours_z] at h; cases h)
    | succ n ih =>
      have ih0 := ih
      intro x1 x2 r H locs ls hm hP hD hS hl
      rw [mM_neighbours_e0] at hm
      refine lv_aload_n hx hb dXM_neighbours_0 rfl (lv_at hl 0 rfl) ?_
      refine lv_iload_n hx hb dXM_neighbours_1 rfl (lv_at hl 1 rfl) ?_
      obtain ⟨r11, hm11, hm⟩ := kb_s hm
      refine k_vi (As := [.int x1]) (rest := []) (w2 := (wM q cA N mr zn zs tn ts yn ys en es ew cv)) ⟨hx, hb, hml, hown, hts⟩ (cM_is l D q cA N H.size mr zn zs tn ts yn ys en es ew cv x1 n r11 hm11) (cwV 1 hts (gV wd_421 wd_422 wd_18 wd_41 wd_423) rfl rfl rfl (by decide +kernel) ⟨Nat.le_of_ble_eq_true rfl, Nat.le_of_ble_eq_true rfl⟩) hK hN hP hD hS hA [0, 1, 2, 3, 4, 5, 6] [] [0, 1, 2, 3, 4, 5, 6] ⟨rfl, rfl, by decide, rfl, by decide, by decide, rfl, rfl, by decide⟩ (va_recv hK hP (ci := 5) (q0 := 0) rfl rfl) rfl hl.1 rfl (Nat.le_of_ble_eq_true rfl) dXM_neighbours_2 ⟨Nat.le_of_ble_eq_true rfl, Nat.le_of_ble_eq_true rfl⟩ (fun hz11 H locs hP hD hS => ?_)
      refine lv_if_eq (tgt := 34) hx hb dXM_neighbours_5 (by decide) (fun c12 => ?_) (fun c12 => ?_)
      · rw [if_pos c12] at hm
        refine lv_iconst (v := 0) hx hb dXM_neighbours_34 (by decide) ?_
        cases hm
        exact k_zret hx hb hr hlocks hK hP hD hS (Or.inl rfl) dXM_neighbours_35
      · rw [if_neg c12] at hm
        refine lv_aload_n hx hb dXM_neighbours_8 rfl (lv_at hl 0 rfl) ?_
        refine lv_iload_n hx hb dXM_neighbours_9 rfl (lv_at hl 2 rfl) ?_
        obtain ⟨r13, hm13, hm⟩ := kb_s hm
        refine k_vi (As := [.int x2]) (rest := []) (w2 := (wM q cA N mr zn zs tn ts yn ys en es ew cv)) ⟨hx, hb, hml, hown, hts⟩ (cM_is l D q cA N H.size mr zn zs tn ts yn ys en es ew cv x2 n r13 hm13) (cwV 1 hts (gV wd_421 wd_422 wd_18 wd_41 wd_423) rfl rfl rfl (by decide +kernel) ⟨Nat.le_of_ble_eq_true rfl, Nat.le_of_ble_eq_true rfl⟩) hK hN hP hD hS hA [0, 1, 2, 3, 4, 5, 6] [] [0, 1, 2, 3, 4, 5, 6] ⟨rfl, rfl, by decide, rfl, by decide, by decide, rfl, rfl, by decide⟩ (va_recv hK hP (ci := 5) (q0 := 0) rfl rfl) rfl hl.1 rfl (Nat.le_of_ble_eq_true rfl) dXM_neighbours_10 ⟨Nat.le_of_ble_eq_true rfl, Nat.le_of_ble_eq_true rfl⟩ (fun hz13 H locs hP hD hS => ?_)
        refine lv_if_eq (tgt := 34) hx hb dXM_neighbours_13 (by decide) (fun c14 => ?_) (fun c14 => ?_)
        · rw [if_pos c14] at hm
          refine lv_iconst (v := 0) hx hb dXM_neighbours_34 (by decide) ?_
          cases hm
          exact k_zret hx hb hr hlocks hK hP hD hS (Or.inl rfl) dXM_neighbours_35
        · rw [if_neg c14] at hm
          refine lv_aload_n hx hb dXM_neighbours_16 rfl (lv_at hl 0 rfl) ?_
          refine va_get (D := D) (ci := 5) (v := .ref (q 1)) (C := RXM) (T := TXM) (N := 12) hx hb hts hinXM hown hK hP 0 rfl rfl 1 (by decide) (hts _ wd_390) (fun _ h9 => h9) rfl dXM_neighbours_17 ?_
          refine lv_iload_n hx hb dXM_neighbours_20 rfl (lv_at hl 1 rfl) ?_
          obtain ⟨hg15, hm⟩ := kg_s hm
          refine va_iald hx hb hK hP 1 0 rfl rfl hg15 dXM_neighbours_21 ?_
          refine lv_iload_n hx hb dXM_neighbours_22 rfl (lv_at hl 2 rfl) ?_
          refine lv_ishr hx hb dXM_neighbours_23 ?_
          refine lv_iconst (v := 1) hx hb dXM_neighbours_24 (by decide) ?_
          refine lv_iand hx hb dXM_neighbours_25 ?_
          refine lv_iconst (v := 1) hx hb dXM_neighbours_26 (by decide) ?_
          refine lv_icmp_ne (tgt := 34) hx hb dXM_neighbours_27 (by decide) (fun c16 => ?_) (fun c16 => ?_)
          · rw [if_neg c16] at hm
            refine lv_iconst (v := 0) hx hb dXM_neighbours_34 (by decide) ?_
            cases hm
            exact k_zret hx hb hr hlocks hK hP hD hS (Or.inl rfl) dXM_neighbours_35
          · rw [if_pos c16] at hm
            refine lv_iconst (v := 1) hx hb dXM_neighbours_30 (by decide) ?_
            refine lv_goto (tgt := 35) hx hb dXM_neighbours_31 (by decide) ?_
            cases hm
            exact k_zret hx hb hr hlocks hK hP hD hS (Or.inr rfl) dXM_neighbours_35
  exact key n a1 a2 r s.heap [] ls hm hP hD va_S.rf hl
set_option maxHeartbeats 4000000 in
set_option maxRecDepth 100000 in
theorem cM_within (l : Launch) (D : va_G) (q : Nat → Nat) (cA : ClassId) (N : Nat) (sz : Nat) (mr : Nat → Int32) (zn : Int32) (zs : Nat → Int32) (tn : Int32) (ts : Nat → Int32) (yn : Int32) (ys : Nat → Int32) (en : Int32) (es : Nat → Int32) (ew : Int32) (cv : Nat → Int32) (a1 a2 : Int32) (n : Nat) (r : Int32) (hm : mM_within N mr n 0 [a1, a2] = some r) : Met l yXM_within wsXM_within ({ frames := 0, cells := 0, slots := 0, locals := 0 }) (kPc D cA [.ref (q 0), .int a1, .int a2] (wM q cA N mr zn zs tn ts yn ys en es ew cv) sz) (kQi D cA kT (va_A (wM q cA N mr zn zs tn ts yn ys en es ew cv) sz) (wM q cA N mr zn zs tn ts yn ys en es ew cv) r) 0 0 (va_A (wM q cA N mr zn zs tn ts yn ys en es ew cv) sz) := by
  refine k_met (D := D) (cA := cA) (w := (wM q cA N mr zn zs tn ts yn ys en es ew cv)) (sz := sz) (av := [.ref (q 0), .int a1, .int a2]) (cc := cXM_within) (maxL := 6) (ret := (some .int)) (Qc := fun A => kQi D cA kT A (wM q cA N mr zn zs tn ts yn ys en es ew cv) r) (by decide) rfl (Nat.le_of_ble_eq_true rfl) ?_
  intro p e s m below meth c A ls hX hK hN hA hP hD hl
  obtain ⟨hx, hb, hr, hml, hown, hts, hlocks, -⟩ := hX
  have hown : s.vm.findClass RXM = some m.cls := hown
  have hl : lv_has ls 6 [(0, .ref (q 0)), (1, .int a1), (2, .int a2)] := hl
  have hts : ∀ w ∈ W0, w.before _ s = true := fun w h => hts w (List.mem_cons_of_mem _ h)
  have key : ∀ n : Nat, (∀ (x1 x2 : Int32) (r : Int32) (H : Heap) (locs : List Loc) (ls : Array Slot), mM_within N mr n 0 [x1, x2] = some r → va_P D vwCl (wM q cA N mr zn zs tn ts yn ys en es ew cv) H → va_D A (wM q cA N mr zn zs tn ts yn ys en es ew cv) → va_S A s.heap H locs → lv_has ls 6 [(0, .ref (q 0)), (1, .int x1), (2, .int x2)] → W p l e ({ frames := 0, cells := 0, slots := 0, locals := 0 }) s m ([.ref (q 0), .int a1, .int a2] : List Value).toArray below meth c H locs 0 0 (MQ below (kQi D cA kT A (wM q cA N mr zn zs tn ts yn ys en es ew cv) r) ([.ref (q 0), .int a1, .int a2] : List Value).toArray s 0 0 A) (F0 m 0 ls [])) ∧
    (∀ (x2 x3 x4 : Int32) (r : Int32) (H : Heap) (locs : List Loc) (ls : Array Slot), mM_within N mr n 1 [x2, x3, x4] = some r → va_P D vwCl (wM q cA N mr zn zs tn ts yn ys en es ew cv) H → va_D A (wM q cA N mr zn zs tn ts yn ys en es ew cv) → va_S A s.heap H locs → lv_has ls 6 [(0, .ref (q 0)), (2, .int x2), (3, .int x3), (4, .int x4)] → W p l e ({ frames := 0, cells := 0, slots := 0, locals := 0 }) s m ([.ref (q 0), .int a1, .int a2] : List Value).toArray below meth c H locs 0 0 (MQ below (kQi D cA kT A (wM q cA N mr zn zs tn ts yn ys en es ew cv) r) ([.ref (q 0), .int a1, .int a2] : List Value).toArray s 0 0 A) (F0 m 7 ls [])) ∧
    (∀ (x2 x3 x4 x5 : Int32) (r : Int32) (H : Heap) (locs : List Loc) (ls : Array Slot), mM_within N mr n 2 [x2, x3, x4, x5] = some r → va_P D vwCl (wM q cA N mr zn zs tn ts yn ys en es ew cv) H → va_D A (wM q cA N mr zn zs tn ts yn ys en es ew cv) → va_S A s.heap H locs → lv_has ls 6 [(0, .ref (q 0)), (2, .int x2), (3, .int x3), (4, .int x4), (5, .int x5)] → W p l e ({ frames := 0, cells := 0, slots := 0, locals := 0 }) s m ([.ref (q 0), .int a1, .int a2] : List Value).toArray below meth c H locs 0 0 (MQ below (kQi D cA kT A (wM q cA N mr zn zs tn ts yn ys en es ew cv) r) ([.ref (q 0), .int a1, .int a2] : List Value).toArray s 0 0 A) (F0 m 17 ls [])) := by
    intro n
    induction n with
    | zero => exact ⟨(by intros; rename_i h _ _ _ _; rw [mM_within_z] at h; cases h), (by intros; rename_i h _ _ _ _; rw [mM_within_z] at h; cases h), (by intros; rename_i h _ _ _ _; rw [mM_within_z] at h; cases h)⟩
    | succ n ih =>
      obtain ⟨ih0, ih1, ih2⟩ := ih
      refine ⟨?_, ?_, ?_⟩
      · intro x1 x2 r H locs ls hm hP hD hS hl
        rw [mM_within_e0] at hm
        refine lv_iconst (v := 1) hx hb dXM_within_0 (by decide) ?_
        refine lv_iload_n hx hb dXM_within_1 rfl (lv_at hl 1 rfl) ?_
        refine lv_ishl hx hb dXM_within_2 ?_
        refine lv_topi (fun x3_11 ex3_11 => ?_)
        have hm := kl_s ex3_11 hm
        refine lv_istore_n (lv' := [(3, .int x3_11), (0, .ref (q 0)), (1, .int x1), (2, .int x2)]) hx hb dXM_within_3 rfl hl (by decide) rfl (fun ls hl => ?_)
        refine lv_iconst (v := 0) hx hb dXM_within_4 (by decide) ?_
        refine lv_istore (lv' := [(4, .int 0), (3, .int x3_11), (0, .ref (q 0)), (1, .int x1), (2, .int x2)]) hx hb dXM_within_5 hl (by decide) rfl (fun ls hl => ?_)
        exact ih1 x2 x3_11 0 _ H locs ls hm hP hD hS (lv_sub hl [2, 4, 1, 0] rfl)
      · intro x2 x3 x4 r H locs ls hm hP hD hS hl
        rw [mM_within_e1] at hm
        refine lv_iload hx hb dXM_within_7 (lv_at hl 3 rfl) ?_
        refine lv_bipush (v := 9) hx hb dXM_within_9 (by decide) ?_
        refine lv_icmp_ge (tgt := 64) hx hb dXM_within_11 (by decide) (fun c111 => ?_) (fun c111 => ?_)
        · rw [if_pos c111] at hm
          refine lv_iload_n hx hb dXM_within_64 rfl (lv_at hl 2 rfl) ?_
          cases hm
          exact k_iret hx hb hr hlocks hK hP hD hS trivial dXM_within_65
        · rw [if_neg c111] at hm
          refine lv_iconst (v := 0) hx hb dXM_within_14 (by decide) ?_
          refine lv_istore (lv' := [(5, .int 0), (0, .ref (q 0)), (2, .int x2), (3, .int x3), (4, .int x4)]) hx hb dXM_within_15 hl (by decide) rfl (fun ls hl => ?_)
          exact ih2 x2 x3 x4 0 _ H locs ls hm hP hD hS (lv_sub hl [1, 2, 3, 4, 0] rfl)
      · intro x2 x3 x4 x5 r H locs ls hm hP hD hS hl
        rw [mM_within_e2] at hm
        refine lv_iload hx hb dXM_within_17 (lv_at hl 4 rfl) ?_
        refine lv_aload_n hx hb dXM_within_19 rfl (lv_at hl 0 rfl) ?_
        refine va_get (D := D) (ci := 5) (v := .int (nI N)) (C := RXM) (T := TXM) (N := 12) hx hb hts hinXM hown hK hP 0 rfl rfl 0 (by decide) (hts _ wd_389) (fun _ h9 => h9) rfl dXM_within_20 ?_
        refine lv_icmp_ge (tgt := 58) hx hb dXM_within_23 (by decide) (fun c211 => ?_) (fun c211 => ?_)
        · rw [if_pos c211] at hm
          refine lv_iinc (v := (x4 + 1)) (lv' := [(4, .int (x4 + 1)), (0, .ref (q 0)), (2, .int x2), (3, .int x3), (5, .int x5)]) hx hb dXM_within_58 hl (k := 3) rfl rfl (by decide) rfl (fun ls hl => ?_)
          refine lv_goto (tgt := 7) hx hb dXM_within_61 (by decide) ?_
          exact ih1 x2 x3 (x4 + 1) _ H locs ls hm hP hD hS (lv_sub hl [1, 2, 3, 0] rfl)
        · rw [if_neg c211] at hm
          refine lv_iload_n hx hb dXM_within_26 rfl (lv_at hl 2 rfl) ?_
          refine lv_iload hx hb dXM_within_27 (lv_at hl 4 rfl) ?_
          refine lv_ishr hx hb dXM_within_29 ?_
          refine lv_iconst (v := 1) hx hb dXM_within_30 (by decide) ?_
          refine lv_iand hx hb dXM_within_31 ?_
          refine lv_iconst (v := 1) hx hb dXM_within_32 (by decide) ?_
          refine lv_icmp_ne (tgt := 50) hx hb dXM_within_33 (by decide) (fun c212 => ?_) (fun c212 => ?_)
          · rw [if_neg c212] at hm
            refine lv_iload_n hx hb dXM_within_50 rfl (lv_at hl 2 rfl) ?_
            refine lv_istore_n (lv' := [(3, .int x3), (0, .ref (q 0)), (2, .int x2), (4, .int x4), (5, .int x5)]) hx hb dXM_within_51 rfl hl (by decide) rfl (fun ls hl => ?_)
            refine lv_iinc (v := (x5 + 1)) (lv' := [(5, .int (x5 + 1)), (3, .int x3), (0, .ref (q 0)), (2, .int x2), (4, .int x4)]) hx hb dXM_within_52 hl (k := 4) rfl rfl (by decide) rfl (fun ls hl => ?_)
            refine lv_goto (tgt := 17) hx hb dXM_within_55 (by decide) ?_
            exact ih2 x2 x3 x4 (x5 + 1) _ H locs ls hm hP hD hS (lv_sub hl [2, 3, 1, 4, 0] rfl)
          · rw [if_pos c212] at hm
            refine lv_iload_n hx hb dXM_within_36 rfl (lv_at hl 2 rfl) ?_
            refine lv_aload_n hx hb dXM_within_37 rfl (lv_at hl 0 rfl) ?_
            refine va_get (D := D) (ci := 5) (v := .ref (q 1)) (C := RXM) (T := TXM) (N := 12) hx hb hts hinXM hown hK hP 0 rfl rfl 1 (by decide) (hts _ wd_390) (fun _ h9 => h9) rfl dXM_within_38 ?_
            refine lv_iload hx hb dXM_within_41 (lv_at hl 4 rfl) ?_
            obtain ⟨hg213, hm⟩ := kg_s hm
            refine va_iald hx hb hK hP 1 0 rfl rfl hg213 dXM_within_43 ?_
            refine lv_iload_n hx hb dXM_within_44 rfl (lv_at hl 1 rfl) ?_
            refine lv_iand hx hb dXM_within_45 ?_
            refine lv_ior hx hb dXM_within_46 ?_
            refine lv_goto (tgt := 51) hx hb dXM_within_47 (by decide) ?_
            refine lv_topi (fun x3_214 ex3_214 => ?_)
            have hm := kl_s ex3_214 hm
            refine lv_istore_n (lv' := [(3, .int x3_214), (0, .ref (q 0)), (2, .int x2), (4, .int x4), (5, .int x5)]) hx hb dXM_within_51 rfl hl (by decide) rfl (fun ls hl => ?_)
            refine lv_iinc (v := (x5 + 1)) (lv' := [(5, .int (x5 + 1)), (3, .int x3_214), (0, .ref (q 0)), (2, .int x2), (4, .int x4)]) hx hb dXM_within_52 hl (k := 4) rfl rfl (by decide) rfl (fun ls hl => ?_)
            refine lv_goto (tgt := 17) hx hb dXM_within_55 (by decide) ?_
            exact ih2 x2 x3_214 x4 (x5 + 1) _ H locs ls hm hP hD hS (lv_sub hl [2, 3, 1, 4, 0] rfl)
  exact (key n).1 a1 a2 r s.heap [] ls hm hP hD va_S.rf hl
set_option maxHeartbeats 4000000 in
set_option maxRecDepth 100000 in
theorem cM_component (l : Launch) (D : va_G) (q : Nat → Nat) (cA : ClassId) (N : Nat) (sz : Nat) (mr : Nat → Int32) (zn : Int32) (zs : Nat → Int32) (tn : Int32) (ts : Nat → Int32) (yn : Int32) (ys : Nat → Int32) (en : Int32) (es : Nat → Int32) (ew : Int32) (cv : Nat → Int32) (a1 : Int32) (n : Nat) (r : Int32) (hm : mM_component N mr n 0 [a1] = some r) : Met l yXM_component wsXM_component ({ frames := 1, cells := 0, slots := 0, locals := 25 }) (kPc D cA [.ref (q 0), .int a1] (wM q cA N mr zn zs tn ts yn ys en es ew cv) sz) (kQi D cA kT (va_A (wM q cA N mr zn zs tn ts yn ys en es ew cv) sz) (wM q cA N mr zn zs tn ts yn ys en es ew cv) r) 0 0 (va_A (wM q cA N mr zn zs tn ts yn ys en es ew cv) sz) := by
  refine k_met (D := D) (cA := cA) (w := (wM q cA N mr zn zs tn ts yn ys en es ew cv)) (sz := sz) (av := [.ref (q 0), .int a1]) (cc := cXM_component) (maxL := 2) (ret := (some .int)) (Qc := fun A => kQi D cA kT A (wM q cA N mr zn zs tn ts yn ys en es ew cv) r) (by decide) rfl (Nat.le_of_ble_eq_true rfl) ?_
  intro p e s m below meth c A ls hX hK hN hA hP hD hl
  obtain ⟨hx, hb, hr, hml, hown, hts, hlocks, -⟩ := hX
  have hown : s.vm.findClass RXM = some m.cls := hown
  have hl : lv_has ls 2 [(0, .ref (q 0)), (1, .int a1)] := hl
  have hts : ∀ w ∈ W0, w.before _ s = true := fun w h => hts w (List.mem_cons_of_mem _ h)
  have key : ∀ n : Nat, (∀ (x1 : Int32) (r : Int32) (H : Heap) (locs : List Loc) (ls : Array Slot), mM_component N mr n 0 [x1] = some r → va_P D vwCl (wM q cA N mr zn zs tn ts yn ys en es ew cv) H → va_D A (wM q cA N mr zn zs tn ts yn ys en es ew cv) → va_S A s.heap H locs → lv_has ls 2 [(0, .ref (q 0)), (1, .int x1)] → W p l e ({ frames := 1, cells := 0, slots := 0, locals := 25 }) s m ([.ref (q 0), .int a1] : List Value).toArray below meth c H locs 0 0 (MQ below (kQi D cA kT A (wM q cA N mr zn zs tn ts yn ys en es ew cv) r) ([.ref (q 0), .int a1] : List Value).toArray s 0 0 A) (F0 m 0 ls [])) := by
    intro n
    induction n with
    | zero => exact (by intros; rename_i h _ _ _ _; rw [mM_component_z] at h; cases h)
    | succ n ih =>
      have ih0 := ih
      intro x1 r H locs ls hm hP hD hS hl
      rw [mM_component_e0] at hm
      refine lv_aload_n hx hb dXM_component_0 rfl (lv_at hl 0 rfl) ?_
      refine lv_iload_n hx hb dXM_component_1 rfl (lv_at hl 1 rfl) ?_
      obtain ⟨r11, hm11, hm⟩ := kb_s hm
      refine k_vi (As := [.int x1]) (rest := []) (w2 := (wM q cA N mr zn zs tn ts yn ys en es ew cv)) ⟨hx, hb, hml, hown, hts⟩ (cM_is l D q cA N H.size mr zn zs tn ts yn ys en es ew cv x1 n r11 hm11) (cwV 1 hts (gV wd_421 wd_422 wd_18 wd_41 wd_423) rfl rfl rfl (by decide +kernel) ⟨Nat.le_of_ble_eq_true rfl, Nat.le_of_ble_eq_true rfl⟩) hK hN hP hD hS hA [0, 1, 2, 3, 4, 5, 6] [] [0, 1, 2, 3, 4, 5, 6] ⟨rfl, rfl, by decide, rfl, by decide, by decide, rfl, rfl, by decide⟩ (va_recv hK hP (ci := 5) (q0 := 0) rfl rfl) rfl hl.1 rfl (Nat.le_of_ble_eq_true rfl) dXM_component_2 ⟨Nat.le_of_ble_eq_true rfl, Nat.le_of_ble_eq_true rfl⟩ (fun hz11 H locs hP hD hS => ?_)
      refine lv_if_eq (tgt := 24) hx hb dXM_component_5 (by decide) (fun c12 => ?_) (fun c12 => ?_)
      · rw [if_pos c12] at hm
        refine lv_iconst (v := 0) hx hb dXM_component_24 (by decide) ?_
        cases hm
        exact k_iret hx hb hr hlocks hK hP hD hS trivial dXM_component_25
      · rw [if_neg c12] at hm
        refine lv_aload_n hx hb dXM_component_8 rfl (lv_at hl 0 rfl) ?_
        refine lv_iload_n hx hb dXM_component_9 rfl (lv_at hl 1 rfl) ?_
        refine lv_iconst (v := 1) hx hb dXM_component_10 (by decide) ?_
        refine lv_aload_n hx hb dXM_component_11 rfl (lv_at hl 0 rfl) ?_
        refine va_get (D := D) (ci := 5) (v := .int (nI N)) (C := RXM) (T := TXM) (N := 12) hx hb hts hinXM hown hK hP 0 rfl rfl 0 (by decide) (hts _ wd_389) (fun _ h9 => h9) rfl dXM_component_12 ?_
        refine lv_ishl hx hb dXM_component_15 ?_
        refine lv_iconst (v := 1) hx hb dXM_component_16 (by decide) ?_
        refine lv_isub hx hb dXM_component_17 ?_
        obtain ⟨r13, hm13, hm⟩ := kb_s hm
        refine k_vi (As := [.int x1, .int (((1 : Int32) <<< ((nI N) &&& 31)) - 1)]) (rest := []) (w2 := (wM q cA N mr zn zs tn ts yn ys en es ew cv)) ⟨hx, hb, hml, hown, hts⟩ (cM_within l D q cA N H.size mr zn zs tn ts yn ys en es ew cv x1 (((1 : Int32) <<< ((nI N) &&& 31)) - 1) n r13 hm13) (cwV 2 hts (gV wd_432 wd_433 wd_19 wd_41 wd_434) rfl rfl rfl (by decide +kernel) ⟨Nat.le_of_ble_eq_true rfl, Nat.le_of_ble_eq_true rfl⟩) hK hN hP hD hS hA [0, 1, 2, 3, 4, 5, 6] [] [0, 1, 2, 3, 4, 5, 6] ⟨rfl, rfl, by decide, rfl, by decide, by decide, rfl, rfl, by decide⟩ (va_recv hK hP (ci := 5) (q0 := 0) rfl rfl) rfl hl.1 rfl (Nat.le_of_ble_eq_true rfl) dXM_component_18 ⟨Nat.le_of_ble_eq_true rfl, Nat.le_of_ble_eq_true rfl⟩ (fun hz13 H locs hP hD hS => ?_)
        refine lv_goto (tgt := 25) hx hb dXM_component_21 (by decide) ?_
        cases hm
        exact k_iret hx hb hr hlocks hK hP hD hS trivial dXM_component_25
  exact key n a1 r s.heap [] ls hm hP hD va_S.rf hl
