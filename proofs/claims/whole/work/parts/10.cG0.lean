set_option maxHeartbeats 4000000 in
set_option maxRecDepth 100000 in
theorem cG_size (l : Launch) (D : va_G) (q : Nat → Nat) (cA : ClassId) (N : Nat) (sz : Nat) (nr : Nat → Int32) (n : Nat) (r : Int32) (hm : mG_size N n 0 [] = some r) : Met l yXG_size wsXG_size ({ frames := 0, cells := 0, slots := 0, locals := 0 }) (kPc D cA [.ref (q 10)] (wG q cA N nr) sz) (kQi D cA kT (va_A (wG q cA N nr) sz) (wG q cA N nr) r) 0 0 (va_A (wG q cA N nr) sz) := by
  refine k_met (D := D) (cA := cA) (w := (wG q cA N nr)) (sz := sz) (av := [.ref (q 10)]) (cc := cXG_size) (maxL := 1) (ret := (some .int)) (Qc := fun A => kQi D cA kT A (wG q cA N nr) r) (by decide) rfl (Nat.le_of_ble_eq_true rfl) ?_
  intro p e s m below meth c A ls hX hK hN hA hP hD hl
  obtain ⟨hx, hb, hr, hml, hown, hts, hlocks, -⟩ := hX
  have hown : s.vm.findClass RXG = some m.cls := hown
  have hl : lv_has ls 1 [(0, .ref (q 10))] := hl
  have hts : ∀ w ∈ W0, w.before _ s = true := fun w h => hts w (List.mem_cons_of_mem _ h)
  have key : ∀ n : Nat, (∀ (r : Int32) (H : Heap) (locs : List Loc) (ls : Array Slot), mG_size N n 0 [] = some r → va_P D vwCl (wG q cA N nr) H → va_D A (wG q cA N nr) → va_S A s.heap H locs → lv_has ls 1 [(0, .ref (q 10))] → W p l e ({ frames := 0, cells := 0, slots := 0, locals := 0 }) s m ([.ref (q 10)] : List Value).toArray below meth c H locs 0 0 (MQ below (kQi D cA kT A (wG q cA N nr) r) ([.ref (q 10)] : List Value).toArray s 0 0 A) (F0 m 0 ls [])) := by
    intro n
    induction n with
    | zero => exact (by intros; rename_i h _ _ _ _; rw [mG_size_z] at h; cases h)
    | succ n ih =>
      have ih0 := ih
      intro r H locs ls hm hP hD hS hl
      rw [mG_size_e0] at hm
      refine lv_aload_n hx hb dXG_size_0 rfl (lv_at hl 0 rfl) ?_
      refine va_get (D := D) (ci := 2) (v := .int (nI N)) (C := RXG) (T := TXG) (N := 2) hx hb hts hinXG hown hK hP 0 rfl rfl 0 (by decide) (hts _ wd_58) (fun _ h9 => h9) rfl dXG_size_1 ?_
      cases hm
      exact k_iret hx hb hr hlocks hK hP hD hS trivial dXG_size_4
  exact key n r s.heap [] ls hm hP hD va_S.rf hl
set_option maxHeartbeats 4000000 in
set_option maxRecDepth 100000 in
theorem cG_has (l : Launch) (D : va_G) (q : Nat → Nat) (cA : ClassId) (N : Nat) (sz : Nat) (nr : Nat → Int32) (a1 : Int32) (n : Nat) (r : Int32) (hm : mG_has N n 0 [a1] = some r) : Met l yXG_has wsXG_has ({ frames := 0, cells := 0, slots := 0, locals := 0 }) (kPc D cA [.ref (q 10), .int a1] (wG q cA N nr) sz) (kQi D cA kB (va_A (wG q cA N nr) sz) (wG q cA N nr) r) 0 0 (va_A (wG q cA N nr) sz) := by
  refine k_met (D := D) (cA := cA) (w := (wG q cA N nr)) (sz := sz) (av := [.ref (q 10), .int a1]) (cc := cXG_has) (maxL := 2) (ret := (some .boolean)) (Qc := fun A => kQi D cA kB A (wG q cA N nr) r) (by decide) rfl (Nat.le_of_ble_eq_true rfl) ?_
  intro p e s m below meth c A ls hX hK hN hA hP hD hl
  obtain ⟨hx, hb, hr, hml, hown, hts, hlocks, -⟩ := hX
  have hown : s.vm.findClass RXG = some m.cls := hown
  have hl : lv_has ls 2 [(0, .ref (q 10)), (1, .int a1)] := hl
  have hts : ∀ w ∈ W0, w.before _ s = true := fun w h => hts w (List.mem_cons_of_mem _ h)
  have key : ∀ n : Nat, (∀ (x1 : Int32) (r : Int32) (H : Heap) (locs : List Loc) (ls : Array Slot), mG_has N n 0 [x1] = some r → va_P D vwCl (wG q cA N nr) H → va_D A (wG q cA N nr) → va_S A s.heap H locs → lv_has ls 2 [(0, .ref (q 10)), (1, .int x1)] → W p l e ({ frames := 0, cells := 0, slots := 0, locals := 0 }) s m ([.ref (q 10), .int a1] : List Value).toArray below meth c H locs 0 0 (MQ below (kQi D cA kB A (wG q cA N nr) r) ([.ref (q 10), .int a1] : List Value).toArray s 0 0 A) (F0 m 0 ls [])) := by
    intro n
    induction n with
    | zero => exact (by intros; rename_i h _ _ _ _; rw [mG_has_z] at h; cases h)
    | succ n ih =>
      have ih0 := ih
      intro x1 r H locs ls hm hP hD hS hl
      rw [mG_has_e0] at hm
      refine lv_iload_n hx hb dXG_has_0 rfl (lv_at hl 1 rfl) ?_
      refine lv_if_lt (tgt := 16) hx hb dXG_has_1 (by decide) (fun c11 => ?_) (fun c11 => ?_)
      · rw [if_pos c11] at hm
        refine lv_iconst (v := 0) hx hb dXG_has_16 (by decide) ?_
        cases hm
        exact k_zret hx hb hr hlocks hK hP hD hS (Or.inl rfl) dXG_has_17
      · rw [if_neg c11] at hm
        refine lv_iload_n hx hb dXG_has_4 rfl (lv_at hl 1 rfl) ?_
        refine lv_aload_n hx hb dXG_has_5 rfl (lv_at hl 0 rfl) ?_
        refine va_get (D := D) (ci := 2) (v := .int (nI N)) (C := RXG) (T := TXG) (N := 2) hx hb hts hinXG hown hK hP 0 rfl rfl 0 (by decide) (hts _ wd_58) (fun _ h9 => h9) rfl dXG_has_6 ?_
        refine lv_icmp_ge (tgt := 16) hx hb dXG_has_9 (by decide) (fun c12 => ?_) (fun c12 => ?_)
        · rw [if_pos c12] at hm
          refine lv_iconst (v := 0) hx hb dXG_has_16 (by decide) ?_
          cases hm
          exact k_zret hx hb hr hlocks hK hP hD hS (Or.inl rfl) dXG_has_17
        · rw [if_neg c12] at hm
          refine lv_iconst (v := 1) hx hb dXG_has_12 (by decide) ?_
          refine lv_goto (tgt := 17) hx hb dXG_has_13 (by decide) ?_
          cases hm
          exact k_zret hx hb hr hlocks hK hP hD hS (Or.inr rfl) dXG_has_17
  exact key n a1 r s.heap [] ls hm hP hD va_S.rf hl
set_option maxHeartbeats 4000000 in
set_option maxRecDepth 100000 in
theorem cG_toggle (l : Launch) (D : va_G) (q : Nat → Nat) (cA : ClassId) (N : Nat) (sz : Nat) (nr : Nat → Int32) (a1 a2 : Int32) (n : Nat) (nr_1 : Nat → Int32) (hm : mG_toggle N n 0 [a1, a2] nr = some nr_1) : Met l yXG_toggle wsXG_toggle ({ frames := 0, cells := 0, slots := 0, locals := 0 }) (kPc D cA [.ref (q 10), .int a1, .int a2] (wG q cA N nr) sz) (kQv D cA (va_A (wG q cA N nr) sz) (wG q cA N nr_1)) 0 0 (va_A (wG q cA N nr) sz) := by
  refine k_met (D := D) (cA := cA) (w := (wG q cA N nr)) (sz := sz) (av := [.ref (q 10), .int a1, .int a2]) (cc := cXG_toggle) (maxL := 3) (ret := none) (Qc := fun A => kQv D cA A (wG q cA N nr_1)) (by decide) rfl (Nat.le_of_ble_eq_true rfl) ?_
  intro p e s m below meth c A ls hX hK hN hA hP hD hl
  obtain ⟨hx, hb, hr, hml, hown, hts, hlocks, -⟩ := hX
  have hown : s.vm.findClass RXG = some m.cls := hown
  have hl : lv_has ls 3 [(0, .ref (q 10)), (1, .int a1), (2, .int a2)] := hl
  have hts : ∀ w ∈ W0, w.before _ s = true := fun w h => hts w (List.mem_cons_of_mem _ h)
  have key : ∀ n : Nat, (∀ (x1 x2 : Int32) (nr : Nat → Int32) (nr_1 : Nat → Int32) (H : Heap) (locs : List Loc) (ls : Array Slot), mG_toggle N n 0 [x1, x2] nr = some nr_1 → va_P D vwCl (wG q cA N nr) H → va_D A (wG q cA N nr) → va_S A s.heap H locs → lv_has ls 3 [(0, .ref (q 10)), (1, .int x1), (2, .int x2)] → W p l e ({ frames := 0, cells := 0, slots := 0, locals := 0 }) s m ([.ref (q 10), .int a1, .int a2] : List Value).toArray below meth c H locs 0 0 (MQ below (kQv D cA A (wG q cA N nr_1)) ([.ref (q 10), .int a1, .int a2] : List Value).toArray s 0 0 A) (F0 m 0 ls [])) := by
    intro n
    induction n with
    | zero => exact (by intros; rename_i h _ _ _ _; rw [mG_toggle_z] at h; cases h)
    | succ n ih =>
      have ih0 := ih
      intro x1 x2 nr nr_1 H locs ls hm hP hD hS hl
      rw [mG_toggle_e0] at hm
      refine lv_aload_n hx hb dXG_toggle_0 rfl (lv_at hl 0 rfl) ?_
      refine va_get (D := D) (ci := 2) (v := .ref (q 11)) (C := RXG) (T := TXG) (N := 2) hx hb hts hinXG hown hK hP 0 rfl rfl 1 (by decide) (hts _ wd_59) (fun _ h9 => h9) rfl dXG_toggle_1 ?_
      refine lv_iload_n hx hb dXG_toggle_4 rfl (lv_at hl 1 rfl) ?_
      refine lv_dup2_11 hx hb dXG_toggle_5 rfl rfl ?_
      obtain ⟨hg11, hm⟩ := kg_s hm
      refine va_iald hx hb hK hP 1 0 rfl rfl hg11 dXG_toggle_6 ?_
      refine lv_iconst (v := 1) hx hb dXG_toggle_7 (by decide) ?_
      refine lv_iload_n hx hb dXG_toggle_8 rfl (lv_at hl 2 rfl) ?_
      refine lv_ishl hx hb dXG_toggle_9 ?_
      refine lv_ixor hx hb dXG_toggle_10 ?_
      obtain ⟨hg12, hm⟩ := kg_s hm
      refine va_iast hx hb hK hP hD hS 1 0 rfl rfl hg12 dXG_toggle_11 (fun H locs hP hD hS => ?_)
      have hP : va_P D vwCl (wG q cA N (upd nr x1.toNatClampNeg ((nr x1.toNatClampNeg) ^^^ ((1 : Int32) <<< (x2 &&& 31))))) H := hP
      have hD : va_D A (wG q cA N (upd nr x1.toNatClampNeg ((nr x1.toNatClampNeg) ^^^ ((1 : Int32) <<< (x2 &&& 31))))) := hD
      refine lv_aload_n hx hb dXG_toggle_12 rfl (lv_at hl 0 rfl) ?_
      refine va_get (D := D) (ci := 2) (v := .ref (q 11)) (C := RXG) (T := TXG) (N := 2) hx hb hts hinXG hown hK hP 0 rfl rfl 1 (by decide) (hts _ wd_59) (fun _ h9 => h9) rfl dXG_toggle_13 ?_
      refine lv_iload_n hx hb dXG_toggle_16 rfl (lv_at hl 2 rfl) ?_
      refine lv_dup2_11 hx hb dXG_toggle_17 rfl rfl ?_
      obtain ⟨hg13, hm⟩ := kg_s hm
      refine va_iald hx hb hK hP 1 0 rfl rfl hg13 dXG_toggle_18 ?_
      refine lv_iconst (v := 1) hx hb dXG_toggle_19 (by decide) ?_
      refine lv_iload_n hx hb dXG_toggle_20 rfl (lv_at hl 1 rfl) ?_
      refine lv_ishl hx hb dXG_toggle_21 ?_
      refine lv_ixor hx hb dXG_toggle_22 ?_
      obtain ⟨hg14, hm⟩ := kg_s hm
      refine va_iast hx hb hK hP hD hS 1 0 rfl rfl hg14 dXG_toggle_23 (fun H locs hP hD hS => ?_)
      have hP : va_P D vwCl (wG q cA N (upd (upd nr x1.toNatClampNeg ((nr x1.toNatClampNeg) ^^^ ((1 : Int32) <<< (x2 &&& 31)))) x2.toNatClampNeg (((upd nr x1.toNatClampNeg ((nr x1.toNatClampNeg) ^^^ ((1 : Int32) <<< (x2 &&& 31)))) x2.toNatClampNeg) ^^^ ((1 : Int32) <<< (x1 &&& 31))))) H := hP
      have hD : va_D A (wG q cA N (upd (upd nr x1.toNatClampNeg ((nr x1.toNatClampNeg) ^^^ ((1 : Int32) <<< (x2 &&& 31)))) x2.toNatClampNeg (((upd nr x1.toNatClampNeg ((nr x1.toNatClampNeg) ^^^ ((1 : Int32) <<< (x2 &&& 31)))) x2.toNatClampNeg) ^^^ ((1 : Int32) <<< (x1 &&& 31))))) := hD
      cases hm
      exact k_vret hx hb hr hlocks hK hP hD hS dXG_toggle_24
  exact key n a1 a2 nr nr_1 s.heap [] ls hm hP hD va_S.rf hl
set_option maxHeartbeats 4000000 in
set_option maxRecDepth 100000 in
theorem cF_contains (l : Launch) (D : va_G) (cA : ClassId) (sz : Nat) (a0 a1 : Int32) (n : Nat) (r : Int32) (hm : mF_contains n 0 [a0, a1] = some r) : Met l yXF_contains wsXF_contains ({ frames := 0, cells := 0, slots := 0, locals := 0 }) (kPc D cA [.int a0, .int a1] [] sz) (kQi D cA kB (va_A [] sz) [] r) 0 0 (va_A [] sz) := by
  refine k_met (D := D) (cA := cA) (w := []) (sz := sz) (av := [.int a0, .int a1]) (cc := cXF_contains) (maxL := 2) (ret := (some .boolean)) (Qc := fun A => kQi D cA kB A [] r) (by decide) rfl (Nat.le_of_ble_eq_true rfl) ?_
  intro p e s m below meth c A ls hX hK hN hA hP hD hl
  obtain ⟨hx, hb, hr, hml, hown, hts, hlocks, -⟩ := hX
  have hown : s.vm.findClass RXF = some m.cls := hown
  have hl : lv_has ls 2 [(0, .int a0), (1, .int a1)] := hl
  have hts : ∀ w ∈ W0, w.before _ s = true := fun w h => hts w (List.mem_cons_of_mem _ h)
  have key : ∀ n : Nat, (∀ (x0 x1 : Int32) (r : Int32) (H : Heap) (locs : List Loc) (ls : Array Slot), mF_contains n 0 [x0, x1] = some r → va_P D vwCl [] H → va_D A [] → va_S A s.heap H locs → lv_has ls 2 [(0, .int x0), (1, .int x1)] → W p l e ({ frames := 0, cells := 0, slots := 0, locals := 0 }) s m ([.int a0, .int a1] : List Value).toArray below meth c H locs 0 0 (MQ below (kQi D cA kB A [] r) ([.int a0, .int a1] : List Value).toArray s 0 0 A) (F0 m 0 ls [])) := by
    intro n
    induction n with
    | zero => exact (by intros; rename_i h _ _ _ _; rw [mF_contains_z] at h; cases h)
    | succ n ih =>
      have ih0 := ih
      intro x0 x1 r H locs ls hm hP hD hS hl
      rw [mF_contains_e0] at hm
      refine lv_iload_n hx hb dXF_contains_0 rfl (lv_at hl 0 rfl) ?_
      refine lv_iload_n hx hb dXF_contains_1 rfl (lv_at hl 1 rfl) ?_
      refine lv_ishr hx hb dXF_contains_2 ?_
      refine lv_iconst (v := 1) hx hb dXF_contains_3 (by decide) ?_
      refine lv_iand hx hb dXF_contains_4 ?_
      refine lv_if_eq (tgt := 12) hx hb dXF_contains_5 (by decide) (fun c11 => ?_) (fun c11 => ?_)
      · rw [if_pos c11] at hm
        refine lv_iconst (v := 0) hx hb dXF_contains_12 (by decide) ?_
        cases hm
        exact k_zret hx hb hr hlocks hK hP hD hS (Or.inl rfl) dXF_contains_13
      · rw [if_neg c11] at hm
        refine lv_iconst (v := 1) hx hb dXF_contains_8 (by decide) ?_
        refine lv_goto (tgt := 13) hx hb dXF_contains_9 (by decide) ?_
        cases hm
        exact k_zret hx hb hr hlocks hK hP hD hS (Or.inr rfl) dXF_contains_13
  exact key n a0 a1 r s.heap [] ls hm hP hD va_S.rf hl
set_option maxHeartbeats 4000000 in
set_option maxRecDepth 100000 in
theorem cG_edge (l : Launch) (D : va_G) (q : Nat → Nat) (cA : ClassId) (N : Nat) (sz : Nat) (nr : Nat → Int32) (a1 a2 : Int32) (n : Nat) (r : Int32) (hm : mG_edge N nr n 0 [a1, a2] = some r) : Met l yXG_edge wsXG_edge ({ frames := 1, cells := 0, slots := 0, locals := 21 }) (kPc D cA [.ref (q 10), .int a1, .int a2] (wG q cA N nr) sz) (kQi D cA kB (va_A (wG q cA N nr) sz) (wG q cA N nr) r) 0 0 (va_A (wG q cA N nr) sz) := by
  refine k_met (D := D) (cA := cA) (w := (wG q cA N nr)) (sz := sz) (av := [.ref (q 10), .int a1, .int a2]) (cc := cXG_edge) (maxL := 3) (ret := (some .boolean)) (Qc := fun A => kQi D cA kB A (wG q cA N nr) r) (by decide) rfl (Nat.le_of_ble_eq_true rfl) ?_
  intro p e s m below meth c A ls hX hK hN hA hP hD hl
  obtain ⟨hx, hb, hr, hml, hown, hts, hlocks, -⟩ := hX
  have hown : s.vm.findClass RXG = some m.cls := hown
  have hl : lv_has ls 3 [(0, .ref (q 10)), (1, .int a1), (2, .int a2)] := hl
  have hts : ∀ w ∈ W0, w.before _ s = true := fun w h => hts w (List.mem_cons_of_mem _ h)
  have key : ∀ n : Nat, (∀ (x1 x2 : Int32) (r : Int32) (H : Heap) (locs : List Loc) (ls : Array Slot), mG_edge N nr n 0 [x1, x2] = some r → va_P D vwCl (wG q cA N nr) H → va_D A (wG q cA N nr) → va_S A s.heap H locs → lv_has ls 3 [(0, .ref (q 10)), (1, .int x1), (2, .int x2)] → W p l e ({ frames := 1, cells := 0, slots := 0, locals := 21 }) s m ([.ref (q 10), .int a1, .int a2] : List Value).toArray below meth c H locs 0 0 (MQ below (kQi D cA kB A (wG q cA N nr) r) ([.ref (q 10), .int a1, .int a2] : List Value).toArray s 0 0 A) (F0 m 0 ls [])) := by
    intro n
    induction n with
    | zero => exact (by intros; rename_i h _ _ _ _; rw [mG_edge_z] at h; cases h)
    | succ n ih =>
      have ih0 := ih
      intro x1 x2 r H locs ls hm hP hD hS hl
      rw [mG_edge_e0] at hm
      refine lv_aload_n hx hb dXG_edge_0 rfl (lv_at hl 0 rfl) ?_
      refine va_get (D := D) (ci := 2) (v := .ref (q 11)) (C := RXG) (T := TXG) (N := 2) hx hb hts hinXG hown hK hP 0 rfl rfl 1 (by decide) (hts _ wd_59) (fun _ h9 => h9) rfl dXG_edge_1 ?_
      refine lv_iload_n hx hb dXG_edge_4 rfl (lv_at hl 1 rfl) ?_
      obtain ⟨hg11, hm⟩ := kg_s hm
      refine va_iald hx hb hK hP 1 0 rfl rfl hg11 dXG_edge_5 ?_
      refine lv_iload_n hx hb dXG_edge_6 rfl (lv_at hl 2 rfl) ?_
      obtain ⟨r12, hm12, hm⟩ := kb_s hm
      refine k_n0 (As := [.int (nr x1.toNatClampNeg), .int x2]) (rest := []) ⟨hx, hb, hml, hown, hts⟩ (cF_contains l D cA H.size (nr x1.toNatClampNeg) x2 n r12 hm12) ⟨va_cnB 2 hts (gC wd_153) rfl rfl rfl hN.1 (hts _ wd_36) (by decide +kernel) ⟨Nat.le_of_ble_eq_true rfl, Nat.le_of_ble_eq_true rfl⟩, hts _ wd_152, trivial⟩ hK hN hP hD hS hA rfl hl.1 rfl (Nat.le_of_ble_eq_true rfl) dXG_edge_7 ⟨Nat.le_of_ble_eq_true rfl, Nat.le_of_ble_eq_true rfl⟩ (fun hz12 H locs hP hD hS => ?_)
      cases hm
      exact k_zret hx hb hr hlocks hK hP hD hS hz12 dXG_edge_10
  exact key n a1 a2 r s.heap [] ls hm hP hD va_S.rf hl
set_option maxHeartbeats 4000000 in
set_option maxRecDepth 100000 in
theorem cG_all (l : Launch) (D : va_G) (q : Nat → Nat) (cA : ClassId) (N : Nat) (sz : Nat) (nr : Nat → Int32) (n : Nat) (r : Int32) (hm : mG_all N n 0 [] = some r) : Met l yXG_all wsXG_all ({ frames := 0, cells := 0, slots := 0, locals := 0 }) (kPc D cA [.ref (q 10)] (wG q cA N nr) sz) (kQi D cA kT (va_A (wG q cA N nr) sz) (wG q cA N nr) r) 0 0 (va_A (wG q cA N nr) sz) := by
  refine k_met (D := D) (cA := cA) (w := (wG q cA N nr)) (sz := sz) (av := [.ref (q 10)]) (cc := cXG_all) (maxL := 1) (ret := (some .int)) (Qc := fun A => kQi D cA kT A (wG q cA N nr) r) (by decide) rfl (Nat.le_of_ble_eq_true rfl) ?_
  intro p e s m below meth c A ls hX hK hN hA hP hD hl
  obtain ⟨hx, hb, hr, hml, hown, hts, hlocks, -⟩ := hX
  have hown : s.vm.findClass RXG = some m.cls := hown
  have hl : lv_has ls 1 [(0, .ref (q 10))] := hl
  have hts : ∀ w ∈ W0, w.before _ s = true := fun w h => hts w (List.mem_cons_of_mem _ h)
  have key : ∀ n : Nat, (∀ (r : Int32) (H : Heap) (locs : List Loc) (ls : Array Slot), mG_all N n 0 [] = some r → va_P D vwCl (wG q cA N nr) H → va_D A (wG q cA N nr) → va_S A s.heap H locs → lv_has ls 1 [(0, .ref (q 10))] → W p l e ({ frames := 0, cells := 0, slots := 0, locals := 0 }) s m ([.ref (q 10)] : List Value).toArray below meth c H locs 0 0 (MQ below (kQi D cA kT A (wG q cA N nr) r) ([.ref (q 10)] : List Value).toArray s 0 0 A) (F0 m 0 ls [])) := by
    intro n
    induction n with
    | zero => exact (by intros; rename_i h _ _ _ _; rw [mG_all_z] at h; cases h)
    | succ n ih =>
      have ih0 := ih
      intro r H locs ls hm hP hD hS hl
      rw [mG_all_e0] at hm
      refine lv_iconst (v := 1) hx hb dXG_all_0 (by decide) ?_
      refine lv_aload_n hx hb dXG_all_1 rfl (lv_at hl 0 rfl) ?_
      refine va_get (D := D) (ci := 2) (v := .int (nI N)) (C := RXG) (T := TXG) (N := 2) hx hb hts hinXG hown hK hP 0 rfl rfl 0 (by decide) (hts _ wd_58) (fun _ h9 => h9) rfl dXG_all_2 ?_
      refine lv_ishl hx hb dXG_all_5 ?_
      refine lv_iconst (v := 1) hx hb dXG_all_6 (by decide) ?_
      refine lv_isub hx hb dXG_all_7 ?_
      cases hm
      exact k_iret hx hb hr hlocks hK hP hD hS trivial dXG_all_8
  exact key n r s.heap [] ls hm hP hD va_S.rf hl
set_option maxHeartbeats 4000000 in
set_option maxRecDepth 100000 in
theorem cG_nearToAny (l : Launch) (D : va_G) (q : Nat → Nat) (cA : ClassId) (N : Nat) (sz : Nat) (nr : Nat → Int32) (a1 a2 : Int32) (n : Nat) (r : Int32) (hm : mG_nearToAny N nr n 0 [a1, a2] = some r) : Met l yXG_nearToAny wsXG_nearToAny ({ frames := 1, cells := 0, slots := 0, locals := 21 }) (kPc D cA [.ref (q 10), .int a1, .int a2] (wG q cA N nr) sz) (kQi D cA kT (va_A (wG q cA N nr) sz) (wG q cA N nr) r) 0 0 (va_A (wG q cA N nr) sz) := by
  refine k_met (D := D) (cA := cA) (w := (wG q cA N nr)) (sz := sz) (av := [.ref (q 10), .int a1, .int a2]) (cc := cXG_nearToAny) (maxL := 5) (ret := (some .int)) (Qc := fun A => kQi D cA kT A (wG q cA N nr) r) (by decide) rfl (Nat.le_of_ble_eq_true rfl) ?_
  intro p e s m below meth c A ls hX hK hN hA hP hD hl
  obtain ⟨hx, hb, hr, hml, hown, hts, hlocks, -⟩ := hX
  have hown : s.vm.findClass RXG = some m.cls := hown
  have hl : lv_has ls 5 [(0, .ref (q 10)), (1, .int a1), (2, .int a2)] := hl
  have hts : ∀ w ∈ W0, w.before _ s = true := fun w h => hts w (List.mem_cons_of_mem _ h)
  have key : ∀ n : Nat, (∀ (x1 x2 : Int32) (r : Int32) (H : Heap) (locs : List Loc) (ls : Array Slot), mG_nearToAny N nr n 0 [x1, x2] = some r → va_P D vwCl (wG q cA N nr) H → va_D A (wG q cA N nr) → va_S A s.heap H locs → lv_has ls 5 [(0, .ref (q 10)), (1, .int x1), (2, .int x2)] → W p l e ({ frames := 1, cells := 0, slots := 0, locals := 21 }) s m ([.ref (q 10), .int a1, .int a2] : List Value).toArray below meth c H locs 0 0 (MQ below (kQi D cA kT A (wG q cA N nr) r) ([.ref (q 10), .int a1, .int a2] : List Value).toArray s 0 0 A) (F0 m 0 ls [])) ∧
    (∀ (x1 x2 x3 x4 : Int32) (r : Int32) (H : Heap) (locs : List Loc) (ls : Array Slot), mG_nearToAny N nr n 1 [x1, x2, x3, x4] = some r → va_P D vwCl (wG q cA N nr) H → va_D A (wG q cA N nr) → va_S A s.heap H locs → lv_has ls 5 [(0, .ref (q 10)), (1, .int x1), (2, .int x2), (3, .int x3), (4, .int x4)] → W p l e ({ frames := 1, cells := 0, slots := 0, locals := 21 }) s m ([.ref (q 10), .int a1, .int a2] : List Value).toArray below meth c H locs 0 0 (MQ below (kQi D cA kT A (wG q cA N nr) r) ([.ref (q 10), .int a1, .int a2] : List Value).toArray s 0 0 A) (F0 m 5 ls [])) := by
    intro n
    induction n with
    | zero => exact ⟨(by intros; rename_i h _ _ _ _; rw [mG_nearToAny_z] at h; cases h), (by intros; rename_i h _ _ _ _; rw [mG_nearToAny_z] at h; cases h)⟩
    | succ n ih =>
      obtain ⟨ih0, ih1⟩ := ih
      refine ⟨?_, ?_⟩
      · intro x1 x2 r H locs ls hm hP hD hS hl
        rw [mG_nearToAny_e0] at hm
        refine lv_iconst (v := 0) hx hb dXG_nearToAny_0 (by decide) ?_
        refine lv_istore_n (lv' := [(3, .int 0), (0, .ref (q 10)), (1, .int x1), (2, .int x2)]) hx hb dXG_nearToAny_1 rfl hl (by decide) rfl (fun ls hl => ?_)
        refine lv_iconst (v := 0) hx hb dXG_nearToAny_2 (by decide) ?_
        refine lv_istore (lv' := [(4, .int 0), (3, .int 0), (0, .ref (q 10)), (1, .int x1), (2, .int x2)]) hx hb dXG_nearToAny_3 hl (by decide) rfl (fun ls hl => ?_)
        exact ih1 x1 x2 0 0 _ H locs ls hm hP hD hS (lv_sub hl [2, 3, 4, 1, 0] rfl)
      · intro x1 x2 x3 x4 r H locs ls hm hP hD hS hl
        rw [mG_nearToAny_e1] at hm
        refine lv_iload hx hb dXG_nearToAny_5 (lv_at hl 4 rfl) ?_
        refine lv_aload_n hx hb dXG_nearToAny_7 rfl (lv_at hl 0 rfl) ?_
        refine va_get (D := D) (ci := 2) (v := .int (nI N)) (C := RXG) (T := TXG) (N := 2) hx hb hts hinXG hown hK hP 0 rfl rfl 0 (by decide) (hts _ wd_58) (fun _ h9 => h9) rfl dXG_nearToAny_8 ?_
        refine lv_icmp_ge (tgt := 41) hx hb dXG_nearToAny_11 (by decide) (fun c111 => ?_) (fun c111 => ?_)
        · rw [if_pos c111] at hm
          refine lv_iload_n hx hb dXG_nearToAny_41 rfl (lv_at hl 3 rfl) ?_
          cases hm
          exact k_iret hx hb hr hlocks hK hP hD hS trivial dXG_nearToAny_42
        · rw [if_neg c111] at hm
          refine lv_iload_n hx hb dXG_nearToAny_14 rfl (lv_at hl 1 rfl) ?_
          refine lv_iload hx hb dXG_nearToAny_15 (lv_at hl 4 rfl) ?_
          obtain ⟨r112, hm112, hm⟩ := kb_s hm
          refine k_n0 (As := [.int x1, .int x4]) (rest := []) ⟨hx, hb, hml, hown, hts⟩ (cF_contains l D cA H.size x1 x4 n r112 hm112) ⟨va_cnB 2 hts (gC wd_153) rfl rfl rfl hN.1 (hts _ wd_36) (by decide +kernel) ⟨Nat.le_of_ble_eq_true rfl, Nat.le_of_ble_eq_true rfl⟩, hts _ wd_152, trivial⟩ hK hN hP hD hS hA rfl hl.1 rfl (Nat.le_of_ble_eq_true rfl) dXG_nearToAny_17 ⟨Nat.le_of_ble_eq_true rfl, Nat.le_of_ble_eq_true rfl⟩ (fun hz112 H locs hP hD hS => ?_)
          refine lv_if_eq (tgt := 35) hx hb dXG_nearToAny_20 (by decide) (fun c113 => ?_) (fun c113 => ?_)
          · rw [if_pos c113] at hm
            refine lv_iinc (v := (x4 + 1)) (lv' := [(4, .int (x4 + 1)), (0, .ref (q 10)), (1, .int x1), (2, .int x2), (3, .int x3)]) hx hb dXG_nearToAny_35 hl (k := 4) rfl rfl (by decide) rfl (fun ls hl => ?_)
            refine lv_goto (tgt := 5) hx hb dXG_nearToAny_38 (by decide) ?_
            exact ih1 x1 x2 x3 (x4 + 1) _ H locs ls hm hP hD hS (lv_sub hl [1, 2, 3, 4, 0] rfl)
          · rw [if_neg c113] at hm
            refine lv_iload_n hx hb dXG_nearToAny_23 rfl (lv_at hl 3 rfl) ?_
            refine lv_aload_n hx hb dXG_nearToAny_24 rfl (lv_at hl 0 rfl) ?_
            refine va_get (D := D) (ci := 2) (v := .ref (q 11)) (C := RXG) (T := TXG) (N := 2) hx hb hts hinXG hown hK hP 0 rfl rfl 1 (by decide) (hts _ wd_59) (fun _ h9 => h9) rfl dXG_nearToAny_25 ?_
            refine lv_iload hx hb dXG_nearToAny_28 (lv_at hl 4 rfl) ?_
            obtain ⟨hg114, hm⟩ := kg_s hm
            refine va_iald hx hb hK hP 1 0 rfl rfl hg114 dXG_nearToAny_30 ?_
            refine lv_iload_n hx hb dXG_nearToAny_31 rfl (lv_at hl 2 rfl) ?_
            refine lv_iand hx hb dXG_nearToAny_32 ?_
            refine lv_ior hx hb dXG_nearToAny_33 ?_
            refine lv_topi (fun x3_115 ex3_115 => ?_)
            have hm := kl_s ex3_115 hm
            refine lv_istore_n (lv' := [(3, .int x3_115), (0, .ref (q 10)), (1, .int x1), (2, .int x2), (4, .int x4)]) hx hb dXG_nearToAny_34 rfl hl (by decide) rfl (fun ls hl => ?_)
            refine lv_iinc (v := (x4 + 1)) (lv' := [(4, .int (x4 + 1)), (3, .int x3_115), (0, .ref (q 10)), (1, .int x1), (2, .int x2)]) hx hb dXG_nearToAny_35 hl (k := 4) rfl rfl (by decide) rfl (fun ls hl => ?_)
            refine lv_goto (tgt := 5) hx hb dXG_nearToAny_38 (by decide) ?_
            exact ih1 x1 x2 x3_115 (x4 + 1) _ H locs ls hm hP hD hS (lv_sub hl [2, 3, 4, 1, 0] rfl)
  exact (key n).1 a1 a2 r s.heap [] ls hm hP hD va_S.rf hl
set_option maxHeartbeats 4000000 in
set_option maxRecDepth 100000 in
theorem cG_reached (l : Launch) (D : va_G) (q : Nat → Nat) (cA : ClassId) (N : Nat) (sz : Nat) (nr : Nat → Int32) (a1 a2 : Int32) (n : Nat) (r : Int32) (hm : mG_reached N nr n 0 [a1, a2] = some r) : Met l yXG_reached wsXG_reached ({ frames := 2, cells := 0, slots := 0, locals := 45 }) (kPc D cA [.ref (q 10), .int a1, .int a2] (wG q cA N nr) sz) (kQi D cA kT (va_A (wG q cA N nr) sz) (wG q cA N nr) r) 0 0 (va_A (wG q cA N nr) sz) := by
  refine k_met (D := D) (cA := cA) (w := (wG q cA N nr)) (sz := sz) (av := [.ref (q 10), .int a1, .int a2]) (cc := cXG_reached) (maxL := 6) (ret := (some .int)) (Qc := fun A => kQi D cA kT A (wG q cA N nr) r) (by decide) rfl (Nat.le_of_ble_eq_true rfl) ?_
  intro p e s m below meth c A ls hX hK hN hA hP hD hl
  obtain ⟨hx, hb, hr, hml, hown, hts, hlocks, -⟩ := hX
  have hown : s.vm.findClass RXG = some m.cls := hown
  have hl : lv_has ls 6 [(0, .ref (q 10)), (1, .int a1), (2, .int a2)] := hl
  have hts : ∀ w ∈ W0, w.before _ s = true := fun w h => hts w (List.mem_cons_of_mem _ h)
  have key : ∀ n : Nat, (∀ (x1 x2 : Int32) (r : Int32) (H : Heap) (locs : List Loc) (ls : Array Slot), mG_reached N nr n 0 [x1, x2] = some r → va_P D vwCl (wG q cA N nr) H → va_D A (wG q cA N nr) → va_S A s.heap H locs → lv_has ls 6 [(0, .ref (q 10)), (1, .int x1), (2, .int x2)] → W p l e ({ frames := 2, cells := 0, slots := 0, locals := 45 }) s m ([.ref (q 10), .int a1, .int a2] : List Value).toArray below meth c H locs 0 0 (MQ below (kQi D cA kT A (wG q cA N nr) r) ([.ref (q 10), .int a1, .int a2] : List Value).toArray s 0 0 A) (F0 m 0 ls [])) ∧
    (∀ (x2 x3 x4 : Int32) (r : Int32) (H : Heap) (locs : List Loc) (ls : Array Slot), mG_reached N nr n 1 [x2, x3, x4] = some r → va_P D vwCl (wG q cA N nr) H → va_D A (wG q cA N nr) → va_S A s.heap H locs → lv_has ls 6 [(0, .ref (q 10)), (2, .int x2), (3, .int x3), (4, .int x4)] → W p l e ({ frames := 2, cells := 0, slots := 0, locals := 45 }) s m ([.ref (q 10), .int a1, .int a2] : List Value).toArray below meth c H locs 0 0 (MQ below (kQi D cA kT A (wG q cA N nr) r) ([.ref (q 10), .int a1, .int a2] : List Value).toArray s 0 0 A) (F0 m 7 ls [])) := by
    intro n
    induction n with
    | zero => exact ⟨(by intros; rename_i h _ _ _ _; rw [mG_reached_z] at h; cases h), (by intros; rename_i h _ _ _ _; rw [mG_reached_z] at h; cases h)⟩
    | succ n ih =>
      obtain ⟨ih0, ih1⟩ := ih
      refine ⟨?_, ?_⟩
      · intro x1 x2 r H locs ls hm hP hD hS hl
        rw [mG_reached_e0] at hm
        refine lv_iconst (v := 1) hx hb dXG_reached_0 (by decide) ?_
        refine lv_iload_n hx hb dXG_reached_1 rfl (lv_at hl 1 rfl) ?_
        refine lv_ishl hx hb dXG_reached_2 ?_
        refine lv_topi (fun x3_11 ex3_11 => ?_)
        have hm := kl_s ex3_11 hm
        refine lv_istore_n (lv' := [(3, .int x3_11), (0, .ref (q 10)), (1, .int x1), (2, .int x2)]) hx hb dXG_reached_3 rfl hl (by decide) rfl (fun ls hl => ?_)
        refine lv_iconst (v := 0) hx hb dXG_reached_4 (by decide) ?_
        refine lv_istore (lv' := [(4, .int 0), (3, .int x3_11), (0, .ref (q 10)), (1, .int x1), (2, .int x2)]) hx hb dXG_reached_5 hl (by decide) rfl (fun ls hl => ?_)
        exact ih1 x2 x3_11 0 _ H locs ls hm hP hD hS (lv_sub hl [2, 4, 1, 0] rfl)
      · intro x2 x3 x4 r H locs ls hm hP hD hS hl
        rw [mG_reached_e1] at hm
        refine lv_iload hx hb dXG_reached_7 (lv_at hl 3 rfl) ?_
        refine lv_aload_n hx hb dXG_reached_9 rfl (lv_at hl 0 rfl) ?_
        refine va_get (D := D) (ci := 2) (v := .int (nI N)) (C := RXG) (T := TXG) (N := 2) hx hb hts hinXG hown hK hP 0 rfl rfl 0 (by decide) (hts _ wd_58) (fun _ h9 => h9) rfl dXG_reached_10 ?_
        refine lv_icmp_ge (tgt := 44) hx hb dXG_reached_13 (by decide) (fun c111 => ?_) (fun c111 => ?_)
        · rw [if_pos c111] at hm
          refine lv_iload_n hx hb dXG_reached_44 rfl (lv_at hl 2 rfl) ?_
          cases hm
          exact k_iret hx hb hr hlocks hK hP hD hS trivial dXG_reached_45
        · rw [if_neg c111] at hm
          refine lv_iload_n hx hb dXG_reached_16 rfl (lv_at hl 2 rfl) ?_
          refine lv_aload_n hx hb dXG_reached_17 rfl (lv_at hl 0 rfl) ?_
          refine lv_iload_n hx hb dXG_reached_18 rfl (lv_at hl 2 rfl) ?_
          refine lv_iload_n hx hb dXG_reached_19 rfl (lv_at hl 1 rfl) ?_
          obtain ⟨r112, hm112, hm⟩ := kb_s hm
          refine k_vi (As := [.int x3, .int x2]) (rest := [.int x3]) (w2 := (wG q cA N nr)) ⟨hx, hb, hml, hown, hts⟩ (cG_nearToAny l D q cA N H.size nr x3 x2 n r112 hm112) (cwV 2 hts (gV wd_173 wd_174 wd_1 wd_37 wd_175) rfl rfl rfl (by decide +kernel) ⟨Nat.le_of_ble_eq_true rfl, Nat.le_of_ble_eq_true rfl⟩) hK hN hP hD hS hA [0, 1] [] [0, 1] ⟨rfl, rfl, by decide, rfl, by decide, by decide, rfl, rfl, by decide⟩ (va_recv hK hP (ci := 2) (q0 := 0) rfl rfl) rfl hl.1 rfl (Nat.le_of_ble_eq_true rfl) dXG_reached_20 ⟨Nat.le_of_ble_eq_true rfl, Nat.le_of_ble_eq_true rfl⟩ (fun hz112 H locs hP hD hS => ?_)
          refine lv_ior hx hb dXG_reached_23 ?_
          refine lv_topi (fun x5_113 ex5_113 => ?_)
          have hm := kl_s ex5_113 hm
          refine lv_istore (lv' := [(5, .int x5_113), (0, .ref (q 10)), (2, .int x2), (3, .int x3), (4, .int x4)]) hx hb dXG_reached_24 hl (by decide) rfl (fun ls hl => ?_)
          refine lv_iload hx hb dXG_reached_26 (lv_at hl 0 rfl) ?_
          refine lv_iload_n hx hb dXG_reached_28 rfl (lv_at hl 3 rfl) ?_
          refine lv_icmp_ne (tgt := 35) hx hb dXG_reached_29 (by decide) (fun c114 => ?_) (fun c114 => ?_)
          · rw [if_neg c114] at hm
            refine lv_iload hx hb dXG_reached_35 (lv_at hl 0 rfl) ?_
            refine lv_istore_n (lv' := [(3, .int x5_113), (5, .int x5_113), (0, .ref (q 10)), (2, .int x2), (4, .int x4)]) hx hb dXG_reached_37 rfl hl (by decide) rfl (fun ls hl => ?_)
            refine lv_iinc (v := (x4 + 1)) (lv' := [(4, .int (x4 + 1)), (3, .int x5_113), (5, .int x5_113), (0, .ref (q 10)), (2, .int x2)]) hx hb dXG_reached_38 hl (k := 4) rfl rfl (by decide) rfl (fun ls hl => ?_)
            refine lv_goto (tgt := 7) hx hb dXG_reached_41 (by decide) ?_
            exact ih1 x2 x5_113 (x4 + 1) _ H locs ls hm hP hD hS (lv_sub hl [3, 4, 1, 0] rfl)
          · rw [if_pos c114] at hm
            refine lv_goto (tgt := 44) hx hb dXG_reached_32 (by decide) ?_
            refine lv_iload_n hx hb dXG_reached_44 rfl (lv_at hl 3 rfl) ?_
            cases hm
            exact k_iret hx hb hr hlocks hK hP hD hS trivial dXG_reached_45
  exact (key n).1 a1 a2 r s.heap [] ls hm hP hD va_S.rf hl
set_option maxHeartbeats 4000000 in
set_option maxRecDepth 100000 in
theorem cJ_bitCount (l : Launch) (D : va_G) (cA : ClassId) (sz : Nat) (a0 : Int32) (n : Nat) (r : Int32) (hm : mJ_bitCount n 0 [a0] = some r) : Met l yXJ_bitCount wsXJ_bitCount ({ frames := 0, cells := 0, slots := 0, locals := 0 }) (kPc D cA [.int a0] [] sz) (kQi D cA kT (va_A [] sz) [] r) 0 0 (va_A [] sz) := by
  refine k_met (D := D) (cA := cA) (w := []) (sz := sz) (av := [.int a0]) (cc := cXJ_bitCount) (maxL := 1) (ret := (some .int)) (Qc := fun A => kQi D cA kT A [] r) (by decide) rfl (Nat.le_of_ble_eq_true rfl) ?_
  intro p e s m below meth c A ls hX hK hN hA hP hD hl
  obtain ⟨hx, hb, hr, hml, hown, hts, hlocks, -⟩ := hX
  have hown : s.vm.findClass RXJ = some m.cls := hown
  have hl : lv_has ls 1 [(0, .int a0)] := hl
  have hts : ∀ w ∈ W0, w.before _ s = true := fun w h => hts w (List.mem_cons_of_mem _ h)
  have key : ∀ n : Nat, (∀ (x0 : Int32) (r : Int32) (H : Heap) (locs : List Loc) (ls : Array Slot), mJ_bitCount n 0 [x0] = some r → va_P D vwCl [] H → va_D A [] → va_S A s.heap H locs → lv_has ls 1 [(0, .int x0)] → W p l e ({ frames := 0, cells := 0, slots := 0, locals := 0 }) s m ([.int a0] : List Value).toArray below meth c H locs 0 0 (MQ below (kQi D cA kT A [] r) ([.int a0] : List Value).toArray s 0 0 A) (F0 m 0 ls [])) := by
    intro n
    induction n with
    | zero => exact (by intros; rename_i h _ _ _ _; rw [mJ_bitCount_z] at h; cases h)
    | succ n ih =>
      have ih0 := ih
      intro x0 r H locs ls hm hP hD hS hl
      rw [mJ_bitCount_e0] at hm
      refine lv_iload_n hx hb dXJ_bitCount_0 rfl (lv_at hl 0 rfl) ?_
      refine lv_iload_n hx hb dXJ_bitCount_1 rfl (lv_at hl 0 rfl) ?_
      refine lv_iconst (v := 1) hx hb dXJ_bitCount_2 (by decide) ?_
      refine lv_iushr (v := (x0.toUInt32 >>> ((1 : Int32).toUInt32 &&& Int32.toUInt32 31)).toInt32) hx hb dXJ_bitCount_3 rfl ?_
      refine lv_ldcw (v := 1431655765) hx hb hown (hts _ wd_196) dXJ_bitCount_4 ?_
      refine lv_iand hx hb dXJ_bitCount_7 ?_
      refine lv_isub hx hb dXJ_bitCount_8 ?_
      refine lv_topi (fun x0_11 ex0_11 => ?_)
      have hm := kl_s ex0_11 hm
      refine lv_istore_n (lv' := [(0, .int x0_11)]) hx hb dXJ_bitCount_9 rfl hl (by decide) rfl (fun ls hl => ?_)
      refine lv_iload_n hx hb dXJ_bitCount_10 rfl (lv_at hl 0 rfl) ?_
      refine lv_ldcw (v := 858993459) hx hb hown (hts _ wd_197) dXJ_bitCount_11 ?_
      refine lv_iand hx hb dXJ_bitCount_14 ?_
      refine lv_iload_n hx hb dXJ_bitCount_15 rfl (lv_at hl 0 rfl) ?_
      refine lv_iconst (v := 2) hx hb dXJ_bitCount_16 (by decide) ?_
      refine lv_iushr (v := (x0_11.toUInt32 >>> ((2 : Int32).toUInt32 &&& Int32.toUInt32 31)).toInt32) hx hb dXJ_bitCount_17 rfl ?_
      refine lv_ldcw (v := 858993459) hx hb hown (hts _ wd_197) dXJ_bitCount_18 ?_
      refine lv_iand hx hb dXJ_bitCount_21 ?_
      refine lv_iadd hx hb dXJ_bitCount_22 ?_
      refine lv_topi (fun x0_12 ex0_12 => ?_)
      have hm := kl_s ex0_12 hm
      refine lv_istore_n (lv' := [(0, .int x0_12)]) hx hb dXJ_bitCount_23 rfl hl (by decide) rfl (fun ls hl => ?_)
      refine lv_iload_n hx hb dXJ_bitCount_24 rfl (lv_at hl 0 rfl) ?_
      refine lv_iload_n hx hb dXJ_bitCount_25 rfl (lv_at hl 0 rfl) ?_
      refine lv_iconst (v := 4) hx hb dXJ_bitCount_26 (by decide) ?_
      refine lv_iushr (v := (x0_12.toUInt32 >>> ((4 : Int32).toUInt32 &&& Int32.toUInt32 31)).toInt32) hx hb dXJ_bitCount_27 rfl ?_
      refine lv_iadd hx hb dXJ_bitCount_28 ?_
      refine lv_ldcw (v := 252645135) hx hb hown (hts _ wd_198) dXJ_bitCount_29 ?_
      refine lv_iand hx hb dXJ_bitCount_32 ?_
      refine lv_topi (fun x0_13 ex0_13 => ?_)
      have hm := kl_s ex0_13 hm
      refine lv_istore_n (lv' := [(0, .int x0_13)]) hx hb dXJ_bitCount_33 rfl hl (by decide) rfl (fun ls hl => ?_)
      refine lv_iload_n hx hb dXJ_bitCount_34 rfl (lv_at hl 0 rfl) ?_
      refine lv_iload_n hx hb dXJ_bitCount_35 rfl (lv_at hl 0 rfl) ?_
      refine lv_bipush (v := 8) hx hb dXJ_bitCount_36 (by decide) ?_
      refine lv_iushr (v := (x0_13.toUInt32 >>> ((8 : Int32).toUInt32 &&& Int32.toUInt32 31)).toInt32) hx hb dXJ_bitCount_38 rfl ?_
      refine lv_iadd hx hb dXJ_bitCount_39 ?_
      refine lv_topi (fun x0_14 ex0_14 => ?_)
      have hm := kl_s ex0_14 hm
      refine lv_istore_n (lv' := [(0, .int x0_14)]) hx hb dXJ_bitCount_40 rfl hl (by decide) rfl (fun ls hl => ?_)
      refine lv_iload_n hx hb dXJ_bitCount_41 rfl (lv_at hl 0 rfl) ?_
      refine lv_iload_n hx hb dXJ_bitCount_42 rfl (lv_at hl 0 rfl) ?_
      refine lv_bipush (v := 16) hx hb dXJ_bitCount_43 (by decide) ?_
      refine lv_iushr (v := (x0_14.toUInt32 >>> ((16 : Int32).toUInt32 &&& Int32.toUInt32 31)).toInt32) hx hb dXJ_bitCount_45 rfl ?_
      refine lv_iadd hx hb dXJ_bitCount_46 ?_
      refine lv_topi (fun x0_15 ex0_15 => ?_)
      have hm := kl_s ex0_15 hm
      refine lv_istore_n (lv' := [(0, .int x0_15)]) hx hb dXJ_bitCount_47 rfl hl (by decide) rfl (fun ls hl => ?_)
      refine lv_iload_n hx hb dXJ_bitCount_48 rfl (lv_at hl 0 rfl) ?_
      refine lv_bipush (v := 63) hx hb dXJ_bitCount_49 (by decide) ?_
      refine lv_iand hx hb dXJ_bitCount_51 ?_
      cases hm
      exact k_iret hx hb hr hlocks hK hP hD hS trivial dXJ_bitCount_52
  exact key n a0 r s.heap [] ls hm hP hD va_S.rf hl
set_option maxHeartbeats 4000000 in
set_option maxRecDepth 100000 in
theorem cG_nearInside (l : Launch) (D : va_G) (q : Nat → Nat) (cA : ClassId) (N : Nat) (sz : Nat) (nr : Nat → Int32) (a1 a2 : Int32) (n : Nat) (r : Int32) (hm : mG_nearInside N nr n 0 [a1, a2] = some r) : Met l yXG_nearInside wsXG_nearInside ({ frames := 0, cells := 0, slots := 0, locals := 0 }) (kPc D cA [.ref (q 10), .int a1, .int a2] (wG q cA N nr) sz) (kQi D cA kT (va_A (wG q cA N nr) sz) (wG q cA N nr) r) 0 0 (va_A (wG q cA N nr) sz) := by
  refine k_met (D := D) (cA := cA) (w := (wG q cA N nr)) (sz := sz) (av := [.ref (q 10), .int a1, .int a2]) (cc := cXG_nearInside) (maxL := 3) (ret := (some .int)) (Qc := fun A => kQi D cA kT A (wG q cA N nr) r) (by decide) rfl (Nat.le_of_ble_eq_true rfl) ?_
  intro p e s m below meth c A ls hX hK hN hA hP hD hl
  obtain ⟨hx, hb, hr, hml, hown, hts, hlocks, -⟩ := hX
  have hown : s.vm.findClass RXG = some m.cls := hown
  have hl : lv_has ls 3 [(0, .ref (q 10)), (1, .int a1), (2, .int a2)] := hl
  have hts : ∀ w ∈ W0, w.before _ s = true := fun w h => hts w (List.mem_cons_of_mem _ h)
  have key : ∀ n : Nat, (∀ (x1 x2 : Int32) (r : Int32) (H : Heap) (locs : List Loc) (ls : Array Slot), mG_nearInside N nr n 0 [x1, x2] = some r → va_P D vwCl (wG q cA N nr) H → va_D A (wG q cA N nr) → va_S A s.heap H locs → lv_has ls 3 [(0, .ref (q 10)), (1, .int x1), (2, .int x2)] → W p l e ({ frames := 0, cells := 0, slots := 0, locals := 0 }) s m ([.ref (q 10), .int a1, .int a2] : List Value).toArray below meth c H locs 0 0 (MQ below (kQi D cA kT A (wG q cA N nr) r) ([.ref (q 10), .int a1, .int a2] : List Value).toArray s 0 0 A) (F0 m 0 ls [])) := by
    intro n
    induction n with
    | zero => exact (by intros; rename_i h _ _ _ _; rw [mG_nearInside_z] at h; cases h)
    | succ n ih =>
      have ih0 := ih
      intro x1 x2 r H locs ls hm hP hD hS hl
      rw [mG_nearInside_e0] at hm
      refine lv_aload_n hx hb dXG_nearInside_0 rfl (lv_at hl 0 rfl) ?_
      refine va_get (D := D) (ci := 2) (v := .ref (q 11)) (C := RXG) (T := TXG) (N := 2) hx hb hts hinXG hown hK hP 0 rfl rfl 1 (by decide) (hts _ wd_59) (fun _ h9 => h9) rfl dXG_nearInside_1 ?_
      refine lv_iload_n hx hb dXG_nearInside_4 rfl (lv_at hl 1 rfl) ?_
      obtain ⟨hg11, hm⟩ := kg_s hm
      refine va_iald hx hb hK hP 1 0 rfl rfl hg11 dXG_nearInside_5 ?_
      refine lv_iload_n hx hb dXG_nearInside_6 rfl (lv_at hl 2 rfl) ?_
      refine lv_iand hx hb dXG_nearInside_7 ?_
      cases hm
      exact k_iret hx hb hr hlocks hK hP hD hS trivial dXG_nearInside_8
  exact key n a1 a2 r s.heap [] ls hm hP hD va_S.rf hl
set_option maxHeartbeats 4000000 in
set_option maxRecDepth 100000 in
theorem cG_joined (l : Launch) (D : va_G) (q : Nat → Nat) (cA : ClassId) (N : Nat) (sz : Nat) (nr : Nat → Int32) (a1 a2 : Int32) (n : Nat) (r : Int32) (hm : mG_joined N nr n 0 [a1, a2] = some r) : Met l yXG_joined wsXG_joined ({ frames := 2, cells := 0, slots := 0, locals := 45 }) (kPc D cA [.ref (q 10), .int a1, .int a2] (wG q cA N nr) sz) (kQi D cA kB (va_A (wG q cA N nr) sz) (wG q cA N nr) r) 0 0 (va_A (wG q cA N nr) sz) := by
  refine k_met (D := D) (cA := cA) (w := (wG q cA N nr)) (sz := sz) (av := [.ref (q 10), .int a1, .int a2]) (cc := cXG_joined) (maxL := 3) (ret := (some .boolean)) (Qc := fun A => kQi D cA kB A (wG q cA N nr) r) (by decide) rfl (Nat.le_of_ble_eq_true rfl) ?_
  intro p e s m below meth c A ls hX hK hN hA hP hD hl
  obtain ⟨hx, hb, hr, hml, hown, hts, hlocks, -⟩ := hX
  have hown : s.vm.findClass RXG = some m.cls := hown
  have hl : lv_has ls 3 [(0, .ref (q 10)), (1, .int a1), (2, .int a2)] := hl
  have hts : ∀ w ∈ W0, w.before _ s = true := fun w h => hts w (List.mem_cons_of_mem _ h)
  have key : ∀ n : Nat, (∀ (x1 x2 : Int32) (r : Int32) (H : Heap) (locs : List Loc) (ls : Array Slot), mG_joined N nr n 0 [x1, x2] = some r → va_P D vwCl (wG q cA N nr) H → va_D A (wG q cA N nr) → va_S A s.heap H locs → lv_has ls 3 [(0, .ref (q 10)), (1, .int x1), (2, .int x2)] → W p l e ({ frames := 2, cells := 0, slots := 0, locals := 45 }) s m ([.ref (q 10), .int a1, .int a2] : List Value).toArray below meth c H locs 0 0 (MQ below (kQi D cA kB A (wG q cA N nr) r) ([.ref (q 10), .int a1, .int a2] : List Value).toArray s 0 0 A) (F0 m 0 ls [])) := by
    intro n
    induction n with
    | zero => exact (by intros; rename_i h _ _ _ _; rw [mG_joined_z] at h; cases h)
    | succ n ih =>
      have ih0 := ih
      intro x1 x2 r H locs ls hm hP hD hS hl
      rw [mG_joined_e0] at hm
      refine lv_aload_n hx hb dXG_joined_0 rfl (lv_at hl 0 rfl) ?_
      refine lv_iload_n hx hb dXG_joined_1 rfl (lv_at hl 1 rfl) ?_
      refine lv_iload_n hx hb dXG_joined_2 rfl (lv_at hl 2 rfl) ?_
      obtain ⟨r11, hm11, hm⟩ := kb_s hm
      refine k_vi (As := [.int x1, .int x2]) (rest := []) (w2 := (wG q cA N nr)) ⟨hx, hb, hml, hown, hts⟩ (cG_nearToAny l D q cA N H.size nr x1 x2 n r11 hm11) (cwV 2 hts (gV wd_173 wd_174 wd_1 wd_37 wd_175) rfl rfl rfl (by decide +kernel) ⟨Nat.le_of_ble_eq_true rfl, Nat.le_of_ble_eq_true rfl⟩) hK hN hP hD hS hA [0, 1] [] [0, 1] ⟨rfl, rfl, by decide, rfl, by decide, by decide, rfl, rfl, by decide⟩ (va_recv hK hP (ci := 2) (q0 := 0) rfl rfl) rfl hl.1 rfl (Nat.le_of_ble_eq_true rfl) dXG_joined_3 ⟨Nat.le_of_ble_eq_true rfl, Nat.le_of_ble_eq_true rfl⟩ (fun hz11 H locs hP hD hS => ?_)
      refine lv_if_eq (tgt := 13) hx hb dXG_joined_6 (by decide) (fun c12 => ?_) (fun c12 => ?_)
      · rw [if_pos c12] at hm
        refine lv_iconst (v := 0) hx hb dXG_joined_13 (by decide) ?_
        cases hm
        exact k_zret hx hb hr hlocks hK hP hD hS (Or.inl rfl) dXG_joined_14
      · rw [if_neg c12] at hm
        refine lv_iconst (v := 1) hx hb dXG_joined_9 (by decide) ?_
        refine lv_goto (tgt := 14) hx hb dXG_joined_10 (by decide) ?_
        cases hm
        exact k_zret hx hb hr hlocks hK hP hD hS (Or.inr rfl) dXG_joined_14
  exact key n a1 a2 r s.heap [] ls hm hP hD va_S.rf hl
