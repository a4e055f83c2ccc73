set_option maxHeartbeats 4000000 in
set_option maxRecDepth 100000 in
theorem cT_nodeCount (l : Launch) (D : va_G) (q : Nat → Nat) (cA : ClassId) (N : Nat) (sz : Nat) (nr : Nat → Int32) (ss : Nat → Int32) (sc : Int32) (ns : Nat → Int32) (nc : Int32) (ps : Nat → Int32) (dg : Nat → Int32) (pn : Int32) (pj : Int32) (wh : Int32) (n : Nat) (r : Int32) (hm : mT_nodeCount N nc n 0 [] = some r) : Met l yXT_nodeCount wsXT_nodeCount ({ frames := 0, cells := 0, slots := 0, locals := 0 }) (kPc D cA [.ref (q 5)] (wT q cA N nr ss sc ns nc ps dg pn pj wh) sz) (kQi D cA kT (va_A (wT q cA N nr ss sc ns nc ps dg pn pj wh) sz) (wT q cA N nr ss sc ns nc ps dg pn pj wh) r) 0 0 (va_A (wT q cA N nr ss sc ns nc ps dg pn pj wh) sz) := by
  refine k_met (D := D) (cA := cA) (w := (wT q cA N nr ss sc ns nc ps dg pn pj wh)) (sz := sz) (av := [.ref (q 5)]) (cc := cXT_nodeCount) (maxL := 1) (ret := (some .int)) (Qc := fun A => kQi D cA kT A (wT q cA N nr ss sc ns nc ps dg pn pj wh) r) (by decide) rfl (Nat.le_of_ble_eq_true rfl) ?_
  intro p e s m below meth c A ls hX hK hN hA hP hD hl
  obtain ⟨hx, hb, hr, hml, hown, hts, hlocks, -⟩ := hX
  have hown : s.vm.findClass RXT = some m.cls := hown
  have hl : lv_has ls 1 [(0, .ref (q 5))] := hl
  have hts : ∀ w ∈ W0, w.before _ s = true := fun w h => hts w (List.mem_cons_of_mem _ h)
  have key : ∀ n : Nat, (∀ (r : Int32) (H : Heap) (locs : List Loc) (ls : Array Slot), mT_nodeCount N nc n 0 [] = some r → va_P D vwCl (wT q cA N nr ss sc ns nc ps dg pn pj wh) H → va_D A (wT q cA N nr ss sc ns nc ps dg pn pj wh) → va_S A s.heap H locs → lv_has ls 1 [(0, .ref (q 5))] → W p l e ({ frames := 0, cells := 0, slots := 0, locals := 0 }) s m ([.ref (q 5)] : List Value).toArray below meth c H locs 0 0 (MQ below (kQi D cA kT A (wT q cA N nr ss sc ns nc ps dg pn pj wh) r) ([.ref (q 5)] : List Value).toArray s 0 0 A) (F0 m 0 ls [])) := by
    intro n
    induction n with
    | zero => exact (by intros; rename_i h _ _ _ _; rw [mT_nodeCount_z] at h; cases h)
    | succ n ih =>
      have ih0 := ih
      intro r H locs ls hm hP hD hS hl
      rw [mT_nodeCount_e0] at hm
      refine lv_aload_n hx hb dXT_nodeCount_0 rfl (lv_at hl 0 rfl) ?_
      refine va_get (D := D) (ci := 3) (v := .int nc) (C := RXT) (T := TXT) (N := 10) hx hb hts hinXT hown hK hP 0 rfl rfl 4 (by decide) (hts _ wd_77) (fun _ h9 => h9) rfl dXT_nodeCount_1 ?_
      cases hm
      exact k_iret hx hb hr hlocks hK hP hD hS trivial dXT_nodeCount_4
  exact key n r s.heap [] ls hm hP hD va_S.rf hl
set_option maxHeartbeats 4000000 in
set_option maxRecDepth 100000 in
theorem cT_nodeSet (l : Launch) (D : va_G) (q : Nat → Nat) (cA : ClassId) (N : Nat) (sz : Nat) (nr : Nat → Int32) (ss : Nat → Int32) (sc : Int32) (ns : Nat → Int32) (nc : Int32) (ps : Nat → Int32) (dg : Nat → Int32) (pn : Int32) (pj : Int32) (wh : Int32) (a1 : Int32) (n : Nat) (r : Int32) (hm : mT_nodeSet N ns n 0 [a1] = some r) : Met l yXT_nodeSet wsXT_nodeSet ({ frames := 0, cells := 0, slots := 0, locals := 0 }) (kPc D cA [.ref (q 5), .int a1] (wT q cA N nr ss sc ns nc ps dg pn pj wh) sz) (kQi D cA kT (va_A (wT q cA N nr ss sc ns nc ps dg pn pj wh) sz) (wT q cA N nr ss sc ns nc ps dg pn pj wh) r) 0 0 (va_A (wT q cA N nr ss sc ns nc ps dg pn pj wh) sz) := by
  refine k_met (D := D) (cA := cA) (w := (wT q cA N nr ss sc ns nc ps dg pn pj wh)) (sz := sz) (av := [.ref (q 5), .int a1]) (cc := cXT_nodeSet) (maxL := 2) (ret := (some .int)) (Qc := fun A => kQi D cA kT A (wT q cA N nr ss sc ns nc ps dg pn pj wh) r) (by decide) rfl (Nat.le_of_ble_eq_true rfl) ?_
  intro p e s m below meth c A ls hX hK hN hA hP hD hl
  obtain ⟨hx, hb, hr, hml, hown, hts, hlocks, -⟩ := hX
  have hown : s.vm.findClass RXT = some m.cls := hown
  have hl : lv_has ls 2 [(0, .ref (q 5)), (1, .int a1)] := hl
  have hts : ∀ w ∈ W0, w.before _ s = true := fun w h => hts w (List.mem_cons_of_mem _ h)
  have key : ∀ n : Nat, (∀ (x1 : Int32) (r : Int32) (H : Heap) (locs : List Loc) (ls : Array Slot), mT_nodeSet N ns n 0 [x1] = some r → va_P D vwCl (wT q cA N nr ss sc ns nc ps dg pn pj wh) H → va_D A (wT q cA N nr ss sc ns nc ps dg pn pj wh) → va_S A s.heap H locs → lv_has ls 2 [(0, .ref (q 5)), (1, .int x1)] → W p l e ({ frames := 0, cells := 0, slots := 0, locals := 0 }) s m ([.ref (q 5), .int a1] : List Value).toArray below meth c H locs 0 0 (MQ below (kQi D cA kT A (wT q cA N nr ss sc ns nc ps dg pn pj wh) r) ([.ref (q 5), .int a1] : List Value).toArray s 0 0 A) (F0 m 0 ls [])) := by
    intro n
    induction n with
    | zero => exact (by intros; rename_i h _ _ _ _; rw [mT_nodeSet_z] at h; cases h)
    | succ n ih =>
      have ih0 := ih
      intro x1 r H locs ls hm hP hD hS hl
      rw [mT_nodeSet_e0] at hm
      refine lv_aload_n hx hb dXT_nodeSet_0 rfl (lv_at hl 0 rfl) ?_
      refine va_get (D := D) (ci := 3) (v := .ref (q 7)) (C := RXT) (T := TXT) (N := 10) hx hb hts hinXT hown hK hP 0 rfl rfl 3 (by decide) (hts _ wd_76) (fun _ h9 => h9) rfl dXT_nodeSet_1 ?_
      refine lv_iload_n hx hb dXT_nodeSet_4 rfl (lv_at hl 1 rfl) ?_
      obtain ⟨hg11, hm⟩ := kg_s hm
      refine va_iald hx hb hK hP 2 0 rfl rfl hg11 dXT_nodeSet_5 ?_
      cases hm
      exact k_iret hx hb hr hlocks hK hP hD hS trivial dXT_nodeSet_6
  exact key n a1 r s.heap [] ls hm hP hD va_S.rf hl
set_option maxHeartbeats 4000000 in
set_option maxRecDepth 100000 in
theorem cT_partWith (l : Launch) (D : va_G) (q : Nat → Nat) (cA : ClassId) (N : Nat) (sz : Nat) (nr : Nat → Int32) (ss : Nat → Int32) (sc : Int32) (ns : Nat → Int32) (nc : Int32) (ps : Nat → Int32) (dg : Nat → Int32) (pn : Int32) (pj : Int32) (wh : Int32) (a1 a2 : Int32) (n : Nat) (r : Int32) (hm : mT_partWith N ns nc wh n 0 [a1, a2] = some r) : Met l yXT_partWith wsXT_partWith ({ frames := 1, cells := 0, slots := 0, locals := 21 }) (kPc D cA [.ref (q 5), .int a1, .int a2] (wT q cA N nr ss sc ns nc ps dg pn pj wh) sz) (kQi D cA kT (va_A (wT q cA N nr ss sc ns nc ps dg pn pj wh) sz) (wT q cA N nr ss sc ns nc ps dg pn pj wh) r) 0 0 (va_A (wT q cA N nr ss sc ns nc ps dg pn pj wh) sz) := by
  refine k_met (D := D) (cA := cA) (w := (wT q cA N nr ss sc ns nc ps dg pn pj wh)) (sz := sz) (av := [.ref (q 5), .int a1, .int a2]) (cc := cXT_partWith) (maxL := 7) (ret := (some .int)) (Qc := fun A => kQi D cA kT A (wT q cA N nr ss sc ns nc ps dg pn pj wh) r) (by decide) rfl (Nat.le_of_ble_eq_true rfl) ?_
  intro p e s m below meth c A ls hX hK hN hA hP hD hl
  obtain ⟨hx, hb, hr, hml, hown, hts, hlocks, -⟩ := hX
  have hown : s.vm.findClass RXT = some m.cls := hown
  have hl : lv_has ls 7 [(0, .ref (q 5)), (1, .int a1), (2, .int a2)] := hl
  have hts : ∀ w ∈ W0, w.before _ s = true := fun w h => hts w (List.mem_cons_of_mem _ h)
  have key : ∀ n : Nat, (∀ (x1 x2 : Int32) (r : Int32) (H : Heap) (locs : List Loc) (ls : Array Slot), mT_partWith N ns nc wh n 0 [x1, x2] = some r → va_P D vwCl (wT q cA N nr ss sc ns nc ps dg pn pj wh) H → va_D A (wT q cA N nr ss sc ns nc ps dg pn pj wh) → va_S A s.heap H locs → lv_has ls 7 [(0, .ref (q 5)), (1, .int x1), (2, .int x2)] → W p l e ({ frames := 1, cells := 0, slots := 0, locals := 21 }) s m ([.ref (q 5), .int a1, .int a2] : List Value).toArray below meth c H locs 0 0 (MQ below (kQi D cA kT A (wT q cA N nr ss sc ns nc ps dg pn pj wh) r) ([.ref (q 5), .int a1, .int a2] : List Value).toArray s 0 0 A) (F0 m 0 ls [])) ∧
    (∀ (x2 x3 x4 x5 : Int32) (r : Int32) (H : Heap) (locs : List Loc) (ls : Array Slot), mT_partWith N ns nc wh n 1 [x2, x3, x4, x5] = some r → va_P D vwCl (wT q cA N nr ss sc ns nc ps dg pn pj wh) H → va_D A (wT q cA N nr ss sc ns nc ps dg pn pj wh) → va_S A s.heap H locs → lv_has ls 7 [(0, .ref (q 5)), (2, .int x2), (3, .int x3), (4, .int x4), (5, .int x5)] → W p l e ({ frames := 1, cells := 0, slots := 0, locals := 21 }) s m ([.ref (q 5), .int a1, .int a2] : List Value).toArray below meth c H locs 0 0 (MQ below (kQi D cA kT A (wT q cA N nr ss sc ns nc ps dg pn pj wh) r) ([.ref (q 5), .int a1, .int a2] : List Value).toArray s 0 0 A) (F0 m 32 ls [])) := by
    intro n
    induction n with
    | zero => exact ⟨(by intros; rename_i h _ _ _ _; rw [mT_partWith_z] at h; cases h), (by intros; rename_i h _ _ _ _; rw [mT_partWith_z] at h; cases h)⟩
    | succ n ih =>
      obtain ⟨ih0, ih1⟩ := ih
      refine ⟨?_, ?_⟩
      · intro x1 x2 r H locs ls hm hP hD hS hl
        rw [mT_partWith_e0] at hm
        refine lv_aload_n hx hb dXT_partWith_0 rfl (lv_at hl 0 rfl) ?_
        refine va_get (D := D) (ci := 3) (v := .ref (q 7)) (C := RXT) (T := TXT) (N := 10) hx hb hts hinXT hown hK hP 0 rfl rfl 3 (by decide) (hts _ wd_76) (fun _ h9 => h9) rfl dXT_partWith_1 ?_
        refine lv_iload_n hx hb dXT_partWith_4 rfl (lv_at hl 1 rfl) ?_
        obtain ⟨hg11, hm⟩ := kg_s hm
        refine va_iald hx hb hK hP 2 0 rfl rfl hg11 dXT_partWith_5 ?_
        refine lv_topi (fun x3_12 ex3_12 => ?_)
        have hm := kl_s ex3_12 hm
        refine lv_istore_n (lv' := [(3, .int x3_12), (0, .ref (q 5)), (1, .int x1), (2, .int x2)]) hx hb dXT_partWith_6 rfl hl (by decide) rfl (fun ls hl => ?_)
        refine lv_iload_n hx hb dXT_partWith_7 rfl (lv_at hl 0 rfl) ?_
        refine lv_iload_n hx hb dXT_partWith_8 rfl (lv_at hl 3 rfl) ?_
        obtain ⟨r13, hm13, hm⟩ := kb_s hm
        refine k_n0 (As := [.int x3_12, .int x2]) (rest := []) ⟨hx, hb, hml, hown, hts⟩ (cF_contains l D cA H.size x3_12 x2 n r13 hm13) ⟨va_cnB 2 hts (gC wd_153) rfl rfl rfl hN.2.1 (hts _ wd_36) (by decide +kernel) ⟨Nat.le_of_ble_eq_true rfl, Nat.le_of_ble_eq_true rfl⟩, hts _ wd_152, trivial⟩ hK hN hP hD hS hA rfl hl.1 rfl (Nat.le_of_ble_eq_true rfl) dXT_partWith_9 ⟨Nat.le_of_ble_eq_true rfl, Nat.le_of_ble_eq_true rfl⟩ (fun hz13 H locs hP hD hS => ?_)
        refine lv_if_ne (tgt := 24) hx hb dXT_partWith_12 (by decide) (fun c14 => ?_) (fun c14 => ?_)
        · rw [if_neg c14] at hm
          refine lv_iconst (v := 1) hx hb dXT_partWith_24 (by decide) ?_
          refine lv_iload_n hx hb dXT_partWith_25 rfl (lv_at hl 3 rfl) ?_
          refine lv_ishl hx hb dXT_partWith_26 ?_
          refine lv_topi (fun x4_15 ex4_15 => ?_)
          have hm := kl_s ex4_15 hm
          refine lv_istore (lv' := [(4, .int x4_15), (3, .int x3_12), (0, .ref (q 5)), (1, .int x1), (2, .int x2)]) hx hb dXT_partWith_27 hl (by decide) rfl (fun ls hl => ?_)
          refine lv_iconst (v := 1) hx hb dXT_partWith_29 (by decide) ?_
          refine lv_istore (lv' := [(5, .int 1), (4, .int x4_15), (3, .int x3_12), (0, .ref (q 5)), (1, .int x1), (2, .int x2)]) hx hb dXT_partWith_30 hl (by decide) rfl (fun ls hl => ?_)
          exact ih1 x2 x3_12 x4_15 1 _ H locs ls hm hP hD hS (lv_sub hl [3, 5, 2, 1, 0] rfl)
        · rw [if_pos c14] at hm
          refine lv_aload_n hx hb dXT_partWith_15 rfl (lv_at hl 1 rfl) ?_
          refine va_get (D := D) (ci := 3) (v := .int wh) (C := RXT) (T := TXT) (N := 10) hx hb hts hinXT hown hK hP 0 rfl rfl 9 (by decide) (hts _ wd_82) (fun _ h9 => h9) rfl dXT_partWith_16 ?_
          refine lv_iload_n hx hb dXT_partWith_19 rfl (lv_at hl 0 rfl) ?_
          refine lv_iconst (v := (-1)) hx hb dXT_partWith_20 (by decide) ?_
          refine lv_ixor hx hb dXT_partWith_21 ?_
          refine lv_iand hx hb dXT_partWith_22 ?_
          cases hm
          exact k_iret hx hb hr hlocks hK hP hD hS trivial dXT_partWith_23
      · intro x2 x3 x4 x5 r H locs ls hm hP hD hS hl
        rw [mT_partWith_e1] at hm
        refine lv_iload hx hb dXT_partWith_32 (lv_at hl 4 rfl) ?_
        refine lv_aload_n hx hb dXT_partWith_34 rfl (lv_at hl 0 rfl) ?_
        refine va_get (D := D) (ci := 3) (v := .int nc) (C := RXT) (T := TXT) (N := 10) hx hb hts hinXT hown hK hP 0 rfl rfl 4 (by decide) (hts _ wd_77) (fun _ h9 => h9) rfl dXT_partWith_35 ?_
        refine lv_icmp_ge (tgt := 84) hx hb dXT_partWith_38 (by decide) (fun c111 => ?_) (fun c111 => ?_)
        · rw [if_pos c111] at hm
          refine lv_iload hx hb dXT_partWith_84 (lv_at hl 3 rfl) ?_
          cases hm
          exact k_iret hx hb hr hlocks hK hP hD hS trivial dXT_partWith_86
        · rw [if_neg c111] at hm
          refine lv_aload_n hx hb dXT_partWith_41 rfl (lv_at hl 0 rfl) ?_
          refine va_get (D := D) (ci := 3) (v := .ref (q 7)) (C := RXT) (T := TXT) (N := 10) hx hb hts hinXT hown hK hP 0 rfl rfl 3 (by decide) (hts _ wd_76) (fun _ h9 => h9) rfl dXT_partWith_42 ?_
          refine lv_iload hx hb dXT_partWith_45 (lv_at hl 4 rfl) ?_
          obtain ⟨hg112, hm⟩ := kg_s hm
          refine va_iald hx hb hK hP 2 0 rfl rfl hg112 dXT_partWith_47 ?_
          refine lv_topi (fun x6_113 ex6_113 => ?_)
          have hm := kl_s ex6_113 hm
          refine lv_istore (lv' := [(6, .int x6_113), (0, .ref (q 5)), (2, .int x2), (3, .int x3), (4, .int x4), (5, .int x5)]) hx hb dXT_partWith_48 hl (by decide) rfl (fun ls hl => ?_)
          refine lv_iload hx hb dXT_partWith_50 (lv_at hl 0 rfl) ?_
          refine lv_iload_n hx hb dXT_partWith_52 rfl (lv_at hl 2 rfl) ?_
          obtain ⟨r114, hm114, hm⟩ := kb_s hm
          refine k_n0 (As := [.int x6_113, .int x2]) (rest := []) ⟨hx, hb, hml, hown, hts⟩ (cF_contains l D cA H.size x6_113 x2 n r114 hm114) ⟨va_cnB 2 hts (gC wd_153) rfl rfl rfl hN.2.1 (hts _ wd_36) (by decide +kernel) ⟨Nat.le_of_ble_eq_true rfl, Nat.le_of_ble_eq_true rfl⟩, hts _ wd_152, trivial⟩ hK hN hP hD hS hA rfl hl.1 rfl (Nat.le_of_ble_eq_true rfl) dXT_partWith_53 ⟨Nat.le_of_ble_eq_true rfl, Nat.le_of_ble_eq_true rfl⟩ (fun hz114 H locs hP hD hS => ?_)
          refine lv_if_eq (tgt := 78) hx hb dXT_partWith_56 (by decide) (fun c115 => ?_) (fun c115 => ?_)
          · rw [if_pos c115] at hm
            refine lv_iinc (v := (x5 + 1)) (lv' := [(5, .int (x5 + 1)), (6, .int x6_113), (0, .ref (q 5)), (2, .int x2), (3, .int x3), (4, .int x4)]) hx hb dXT_partWith_78 hl (k := 5) rfl rfl (by decide) rfl (fun ls hl => ?_)
            refine lv_goto (tgt := 32) hx hb dXT_partWith_81 (by decide) ?_
            exact ih1 x2 x3 x4 (x5 + 1) _ H locs ls hm hP hD hS (lv_sub hl [2, 3, 4, 5, 0] rfl)
          · rw [if_neg c115] at hm
            refine lv_iload hx hb dXT_partWith_59 (lv_at hl 0 rfl) ?_
            refine lv_iload_n hx hb dXT_partWith_61 rfl (lv_at hl 3 rfl) ?_
            refine lv_icmp_eq (tgt := 78) hx hb dXT_partWith_62 (by decide) (fun c116 => ?_) (fun c116 => ?_)
            · rw [if_pos c116] at hm
              refine lv_iinc (v := (x5 + 1)) (lv' := [(5, .int (x5 + 1)), (6, .int x6_113), (0, .ref (q 5)), (2, .int x2), (3, .int x3), (4, .int x4)]) hx hb dXT_partWith_78 hl (k := 5) rfl rfl (by decide) rfl (fun ls hl => ?_)
              refine lv_goto (tgt := 32) hx hb dXT_partWith_81 (by decide) ?_
              exact ih1 x2 x3 x4 (x5 + 1) _ H locs ls hm hP hD hS (lv_sub hl [2, 3, 4, 5, 0] rfl)
            · rw [if_neg c116] at hm
              refine lv_iload hx hb dXT_partWith_65 (lv_at hl 0 rfl) ?_
              refine lv_iload_n hx hb dXT_partWith_67 rfl (lv_at hl 3 rfl) ?_
              refine lv_iconst (v := (-1)) hx hb dXT_partWith_68 (by decide) ?_
              refine lv_ixor hx hb dXT_partWith_69 ?_
              refine lv_iand hx hb dXT_partWith_70 ?_
              refine lv_if_ne (tgt := 78) hx hb dXT_partWith_71 (by decide) (fun c117 => ?_) (fun c117 => ?_)
              · rw [if_neg c117] at hm
                refine lv_iinc (v := (x5 + 1)) (lv' := [(5, .int (x5 + 1)), (6, .int x6_113), (0, .ref (q 5)), (2, .int x2), (3, .int x3), (4, .int x4)]) hx hb dXT_partWith_78 hl (k := 5) rfl rfl (by decide) rfl (fun ls hl => ?_)
                refine lv_goto (tgt := 32) hx hb dXT_partWith_81 (by decide) ?_
                exact ih1 x2 x3 x4 (x5 + 1) _ H locs ls hm hP hD hS (lv_sub hl [2, 3, 4, 5, 0] rfl)
              · rw [if_pos c117] at hm
                refine lv_iload hx hb dXT_partWith_74 (lv_at hl 0 rfl) ?_
                refine lv_istore (lv' := [(4, .int x6_113), (6, .int x6_113), (0, .ref (q 5)), (2, .int x2), (3, .int x3), (5, .int x5)]) hx hb dXT_partWith_76 hl (by decide) rfl (fun ls hl => ?_)
                refine lv_iinc (v := (x5 + 1)) (lv' := [(5, .int (x5 + 1)), (4, .int x6_113), (6, .int x6_113), (0, .ref (q 5)), (2, .int x2), (3, .int x3)]) hx hb dXT_partWith_78 hl (k := 5) rfl rfl (by decide) rfl (fun ls hl => ?_)
                refine lv_goto (tgt := 32) hx hb dXT_partWith_81 (by decide) ?_
                exact ih1 x2 x3 x6_113 (x5 + 1) _ H locs ls hm hP hD hS (lv_sub hl [3, 4, 5, 1, 0] rfl)
  exact (key n).1 a1 a2 r s.heap [] ls hm hP hD va_S.rf hl
set_option maxHeartbeats 4000000 in
set_option maxRecDepth 100000 in
theorem cT_addPart (l : Launch) (D : va_G) (q : Nat → Nat) (cA : ClassId) (N : Nat) (sz : Nat) (nr : Nat → Int32) (ss : Nat → Int32) (sc : Int32) (ns : Nat → Int32) (nc : Int32) (ps : Nat → Int32) (dg : Nat → Int32) (pn : Int32) (pj : Int32) (wh : Int32) (a1 : Int32) (n : Nat) (ps_1 : Nat → Int32) (pn_1 : Int32) (hm : mT_addPart N n 0 [a1] ps pn = some (ps_1, pn_1)) : Met l yXT_addPart wsXT_addPart ({ frames := 0, cells := 0, slots := 0, locals := 0 }) (kPc D cA [.ref (q 5), .int a1] (wT q cA N nr ss sc ns nc ps dg pn pj wh) sz) (kQv D cA (va_A (wT q cA N nr ss sc ns nc ps dg pn pj wh) sz) (wT q cA N nr ss sc ns nc ps_1 dg pn_1 pj wh)) 0 0 (va_A (wT q cA N nr ss sc ns nc ps dg pn pj wh) sz) := by
  refine k_met (D := D) (cA := cA) (w := (wT q cA N nr ss sc ns nc ps dg pn pj wh)) (sz := sz) (av := [.ref (q 5), .int a1]) (cc := cXT_addPart) (maxL := 3) (ret := none) (Qc := fun A => kQv D cA A (wT q cA N nr ss sc ns nc ps_1 dg pn_1 pj wh)) (by decide) rfl (Nat.le_of_ble_eq_true rfl) ?_
  intro p e s m below meth c A ls hX hK hN hA hP hD hl
  obtain ⟨hx, hb, hr, hml, hown, hts, hlocks, -⟩ := hX
  have hown : s.vm.findClass RXT = some m.cls := hown
  have hl : lv_has ls 3 [(0, .ref (q 5)), (1, .int a1)] := hl
  have hts : ∀ w ∈ W0, w.before _ s = true := fun w h => hts w (List.mem_cons_of_mem _ h)
  have key : ∀ n : Nat, (∀ (x1 : Int32) (ps : Nat → Int32) (pn : Int32) (ps_1 : Nat → Int32) (pn_1 : Int32) (H : Heap) (locs : List Loc) (ls : Array Slot), mT_addPart N n 0 [x1] ps pn = some (ps_1, pn_1) → va_P D vwCl (wT q cA N nr ss sc ns nc ps dg pn pj wh) H → va_D A (wT q cA N nr ss sc ns nc ps dg pn pj wh) → va_S A s.heap H locs → lv_has ls 3 [(0, .ref (q 5)), (1, .int x1)] → W p l e ({ frames := 0, cells := 0, slots := 0, locals := 0 }) s m ([.ref (q 5), .int a1] : List Value).toArray below meth c H locs 0 0 (MQ below (kQv D cA A (wT q cA N nr ss sc ns nc ps_1 dg pn_1 pj wh)) ([.ref (q 5), .int a1] : List Value).toArray s 0 0 A) (F0 m 0 ls [])) ∧
    (∀ (x1 x2 : Int32) (ps : Nat → Int32) (pn : Int32) (ps_1 : Nat → Int32) (pn_1 : Int32) (H : Heap) (locs : List Loc) (ls : Array Slot), mT_addPart N n 1 [x1, x2] ps pn = some (ps_1, pn_1) → va_P D vwCl (wT q cA N nr ss sc ns nc ps dg pn pj wh) H → va_D A (wT q cA N nr ss sc ns nc ps dg pn pj wh) → va_S A s.heap H locs → lv_has ls 3 [(0, .ref (q 5)), (1, .int x1), (2, .int x2)] → W p l e ({ frames := 0, cells := 0, slots := 0, locals := 0 }) s m ([.ref (q 5), .int a1] : List Value).toArray below meth c H locs 0 0 (MQ below (kQv D cA A (wT q cA N nr ss sc ns nc ps_1 dg pn_1 pj wh)) ([.ref (q 5), .int a1] : List Value).toArray s 0 0 A) (F0 m 5 ls [])) ∧
    (∀ (x1 x2 : Int32) (ps : Nat → Int32) (pn : Int32) (ps_1 : Nat → Int32) (pn_1 : Int32) (H : Heap) (locs : List Loc) (ls : Array Slot), mT_addPart N n 2 [x1, x2] ps pn = some (ps_1, pn_1) → va_P D vwCl (wT q cA N nr ss sc ns nc ps dg pn pj wh) H → va_D A (wT q cA N nr ss sc ns nc ps dg pn pj wh) → va_S A s.heap H locs → lv_has ls 3 [(0, .ref (q 5)), (1, .int x1), (2, .int x2)] → W p l e ({ frames := 0, cells := 0, slots := 0, locals := 0 }) s m ([.ref (q 5), .int a1] : List Value).toArray below meth c H locs 0 0 (MQ below (kQv D cA A (wT q cA N nr ss sc ns nc ps_1 dg pn_1 pj wh)) ([.ref (q 5), .int a1] : List Value).toArray s 0 0 A) (F0 m 41 ls [])) := by
    intro n
    induction n with
    | zero => exact ⟨(by intros; rename_i h _ _ _ _; rw [mT_addPart_z] at h; cases h), (by intros; rename_i h _ _ _ _; rw [mT_addPart_z] at h; cases h), (by intros; rename_i h _ _ _ _; rw [mT_addPart_z] at h; cases h)⟩
    | succ n ih =>
      obtain ⟨ih0, ih1, ih2⟩ := ih
      refine ⟨?_, ?_, ?_⟩
      · intro x1 ps pn ps_1 pn_1 H locs ls hm hP hD hS hl
        rw [mT_addPart_e0] at hm
        refine lv_aload_n hx hb dXT_addPart_0 rfl (lv_at hl 0 rfl) ?_
        refine va_get (D := D) (ci := 3) (v := .int pn) (C := RXT) (T := TXT) (N := 10) hx hb hts hinXT hown hK hP 0 rfl rfl 7 (by decide) (hts _ wd_80) (fun _ h9 => h9) rfl dXT_addPart_1 ?_
        refine lv_istore_n (lv' := [(2, .int pn), (0, .ref (q 5)), (1, .int x1)]) hx hb dXT_addPart_4 rfl hl (by decide) rfl (fun ls hl => ?_)
        exact ih1 x1 pn ps pn _ _ H locs ls hm hP hD hS (lv_sub hl [1, 2, 0] rfl)
      · intro x1 x2 ps pn ps_1 pn_1 H locs ls hm hP hD hS hl
        rw [mT_addPart_e1] at hm
        refine lv_iload_n hx hb dXT_addPart_5 rfl (lv_at hl 2 rfl) ?_
        refine lv_if_le (tgt := 41) hx hb dXT_addPart_6 (by decide) (fun c111 => ?_) (fun c111 => ?_)
        · rw [if_pos c111] at hm
          exact ih2 x1 x2 ps pn _ _ H locs ls hm hP hD hS (lv_sub hl [0, 1, 2] rfl)
        · rw [if_neg c111] at hm
          refine lv_aload_n hx hb dXT_addPart_9 rfl (lv_at hl 0 rfl) ?_
          refine va_get (D := D) (ci := 3) (v := .ref (q 8)) (C := RXT) (T := TXT) (N := 10) hx hb hts hinXT hown hK hP 0 rfl rfl 5 (by decide) (hts _ wd_78) (fun _ h9 => h9) rfl dXT_addPart_10 ?_
          refine lv_iload_n hx hb dXT_addPart_13 rfl (lv_at hl 2 rfl) ?_
          refine lv_iconst (v := 1) hx hb dXT_addPart_14 (by decide) ?_
          refine lv_isub hx hb dXT_addPart_15 ?_
          obtain ⟨hg112, hm⟩ := kg_s hm
          refine va_iald hx hb hK hP 3 0 rfl rfl hg112 dXT_addPart_16 ?_
          refine lv_iload_n hx hb dXT_addPart_17 rfl (lv_at hl 1 rfl) ?_
          refine lv_icmp_le (tgt := 41) hx hb dXT_addPart_18 (by decide) (fun c113 => ?_) (fun c113 => ?_)
          · rw [if_pos c113] at hm
            exact ih2 x1 x2 ps pn _ _ H locs ls hm hP hD hS (lv_sub hl [0, 1, 2] rfl)
          · rw [if_neg c113] at hm
            refine lv_aload_n hx hb dXT_addPart_21 rfl (lv_at hl 0 rfl) ?_
            refine va_get (D := D) (ci := 3) (v := .ref (q 8)) (C := RXT) (T := TXT) (N := 10) hx hb hts hinXT hown hK hP 0 rfl rfl 5 (by decide) (hts _ wd_78) (fun _ h9 => h9) rfl dXT_addPart_22 ?_
            refine lv_iload_n hx hb dXT_addPart_25 rfl (lv_at hl 2 rfl) ?_
            refine lv_aload_n hx hb dXT_addPart_26 rfl (lv_at hl 0 rfl) ?_
            refine va_get (D := D) (ci := 3) (v := .ref (q 8)) (C := RXT) (T := TXT) (N := 10) hx hb hts hinXT hown hK hP 0 rfl rfl 5 (by decide) (hts _ wd_78) (fun _ h9 => h9) rfl dXT_addPart_27 ?_
            refine lv_iload_n hx hb dXT_addPart_30 rfl (lv_at hl 2 rfl) ?_
            refine lv_iconst (v := 1) hx hb dXT_addPart_31 (by decide) ?_
            refine lv_isub hx hb dXT_addPart_32 ?_
            obtain ⟨hg114, hm⟩ := kg_s hm
            refine va_iald hx hb hK hP 3 0 rfl rfl hg114 dXT_addPart_33 ?_
            obtain ⟨hg115, hm⟩ := kg_s hm
            refine va_iast hx hb hK hP hD hS 3 0 rfl rfl hg115 dXT_addPart_34 (fun H locs hP hD hS => ?_)
            have hP : va_P D vwCl (wT q cA N nr ss sc ns nc (upd ps x2.toNatClampNeg (ps (x2 - 1).toNatClampNeg)) dg pn pj wh) H := hP
            have hD : va_D A (wT q cA N nr ss sc ns nc (upd ps x2.toNatClampNeg (ps (x2 - 1).toNatClampNeg)) dg pn pj wh) := hD
            refine lv_iinc (v := (x2 + (-1))) (lv' := [(2, .int (x2 + (-1))), (0, .ref (q 5)), (1, .int x1)]) hx hb dXT_addPart_35 hl (k := 2) rfl rfl (by decide) rfl (fun ls hl => ?_)
            refine lv_goto (tgt := 5) hx hb dXT_addPart_38 (by decide) ?_
            exact ih1 x1 (x2 + (-1)) (upd ps x2.toNatClampNeg (ps (x2 - 1).toNatClampNeg)) pn _ _ H locs ls hm hP hD hS (lv_sub hl [1, 2, 0] rfl)
      · intro x1 x2 ps pn ps_1 pn_1 H locs ls hm hP hD hS hl
        rw [mT_addPart_e2] at hm
        refine lv_aload_n hx hb dXT_addPart_41 rfl (lv_at hl 0 rfl) ?_
        refine va_get (D := D) (ci := 3) (v := .ref (q 8)) (C := RXT) (T := TXT) (N := 10) hx hb hts hinXT hown hK hP 0 rfl rfl 5 (by decide) (hts _ wd_78) (fun _ h9 => h9) rfl dXT_addPart_42 ?_
        refine lv_iload_n hx hb dXT_addPart_45 rfl (lv_at hl 2 rfl) ?_
        refine lv_iload_n hx hb dXT_addPart_46 rfl (lv_at hl 1 rfl) ?_
        obtain ⟨hg211, hm⟩ := kg_s hm
        refine va_iast hx hb hK hP hD hS 3 0 rfl rfl hg211 dXT_addPart_47 (fun H locs hP hD hS => ?_)
        have hP : va_P D vwCl (wT q cA N nr ss sc ns nc (upd ps x2.toNatClampNeg x1) dg pn pj wh) H := hP
        have hD : va_D A (wT q cA N nr ss sc ns nc (upd ps x2.toNatClampNeg x1) dg pn pj wh) := hD
        refine lv_aload_n hx hb dXT_addPart_48 rfl (lv_at hl 0 rfl) ?_
        refine lv_dup hx hb dXT_addPart_49 rfl ?_
        refine va_get (D := D) (ci := 3) (v := .int pn) (C := RXT) (T := TXT) (N := 10) hx hb hts hinXT hown hK hP 0 rfl rfl 7 (by decide) (hts _ wd_80) (fun _ h9 => h9) rfl dXT_addPart_50 ?_
        refine lv_iconst (v := 1) hx hb dXT_addPart_53 (by decide) ?_
        refine lv_iadd hx hb dXT_addPart_54 ?_
        refine va_put (D := D) (ci := 3) (v := .int (pn + 1)) (ty := .int) (C := RXT) (T := TXT) (N := 10) hx hb hts hinXT tyXT tyXT_ok nXT hown hK hP hD hS 0 rfl rfl 7 (by decide) (hts _ wd_80) (fun _ h9 => h9) rfl (by decide +kernel) rfl rfl (Nat.le_of_ble_eq_true rfl) dXT_addPart_55 (fun H locs hP hD hS => ?_)
        have hP : va_P D vwCl (wT q cA N nr ss sc ns nc (upd ps x2.toNatClampNeg x1) dg (pn + 1) pj wh) H := hP
        have hD : va_D A (wT q cA N nr ss sc ns nc (upd ps x2.toNatClampNeg x1) dg (pn + 1) pj wh) := hD
        cases hm
        exact k_vret hx hb hr hlocks hK hP hD hS dXT_addPart_58
  exact (key n).1 a1 ps pn ps_1 pn_1 s.heap [] ls hm hP hD va_S.rf hl
set_option maxHeartbeats 4000000 in
set_option maxRecDepth 100000 in
theorem cT_findParts (l : Launch) (D : va_G) (q : Nat → Nat) (cA : ClassId) (N : Nat) (sz : Nat) (nr : Nat → Int32) (ss : Nat → Int32) (sc : Int32) (ns : Nat → Int32) (nc : Int32) (ps : Nat → Int32) (dg : Nat → Int32) (pn : Int32) (pj : Int32) (wh : Int32) (a1 : Int32) (n : Nat) (ps_1 : Nat → Int32) (pn_1 : Int32) (hm : mT_findParts N ns nc wh n 0 [a1] ps pn = some (ps_1, pn_1)) : Met l yXT_findParts wsXT_findParts ({ frames := 2, cells := 0, slots := 0, locals := 47 }) (kPc D cA [.ref (q 5), .int a1] (wT q cA N nr ss sc ns nc ps dg pn pj wh) sz) (kQv D cA (va_A (wT q cA N nr ss sc ns nc ps dg pn pj wh) sz) (wT q cA N nr ss sc ns nc ps_1 dg pn_1 pj wh)) 0 0 (va_A (wT q cA N nr ss sc ns nc ps dg pn pj wh) sz) := by
  refine k_met (D := D) (cA := cA) (w := (wT q cA N nr ss sc ns nc ps dg pn pj wh)) (sz := sz) (av := [.ref (q 5), .int a1]) (cc := cXT_findParts) (maxL := 5) (ret := none) (Qc := fun A => kQv D cA A (wT q cA N nr ss sc ns nc ps_1 dg pn_1 pj wh)) (by decide) rfl (Nat.le_of_ble_eq_true rfl) ?_
  intro p e s m below meth c A ls hX hK hN hA hP hD hl
  obtain ⟨hx, hb, hr, hml, hown, hts, hlocks, -⟩ := hX
  have hown : s.vm.findClass RXT = some m.cls := hown
  have hl : lv_has ls 5 [(0, .ref (q 5)), (1, .int a1)] := hl
  have hts : ∀ w ∈ W0, w.before _ s = true := fun w h => hts w (List.mem_cons_of_mem _ h)
  have key : ∀ n : Nat, (∀ (x1 : Int32) (ps : Nat → Int32) (pn : Int32) (ps_1 : Nat → Int32) (pn_1 : Int32) (H : Heap) (locs : List Loc) (ls : Array Slot), mT_findParts N ns nc wh n 0 [x1] ps pn = some (ps_1, pn_1) → va_P D vwCl (wT q cA N nr ss sc ns nc ps dg pn pj wh) H → va_D A (wT q cA N nr ss sc ns nc ps dg pn pj wh) → va_S A s.heap H locs → lv_has ls 5 [(0, .ref (q 5)), (1, .int x1)] → W p l e ({ frames := 2, cells := 0, slots := 0, locals := 47 }) s m ([.ref (q 5), .int a1] : List Value).toArray below meth c H locs 0 0 (MQ below (kQv D cA A (wT q cA N nr ss sc ns nc ps_1 dg pn_1 pj wh)) ([.ref (q 5), .int a1] : List Value).toArray s 0 0 A) (F0 m 0 ls [])) ∧
    (∀ (x1 x2 x3 : Int32) (ps : Nat → Int32) (pn : Int32) (ps_1 : Nat → Int32) (pn_1 : Int32) (H : Heap) (locs : List Loc) (ls : Array Slot), mT_findParts N ns nc wh n 1 [x1, x2, x3] ps pn = some (ps_1, pn_1) → va_P D vwCl (wT q cA N nr ss sc ns nc ps dg pn pj wh) H → va_D A (wT q cA N nr ss sc ns nc ps dg pn pj wh) → va_S A s.heap H locs → lv_has ls 5 [(0, .ref (q 5)), (1, .int x1), (2, .int x2), (3, .int x3)] → W p l e ({ frames := 2, cells := 0, slots := 0, locals := 47 }) s m ([.ref (q 5), .int a1] : List Value).toArray below meth c H locs 0 0 (MQ below (kQv D cA A (wT q cA N nr ss sc ns nc ps_1 dg pn_1 pj wh)) ([.ref (q 5), .int a1] : List Value).toArray s 0 0 A) (F0 m 12 ls [])) := by
    intro n
    induction n with
    | zero => exact ⟨(by intros; rename_i h _ _ _ _; rw [mT_findParts_z] at h; cases h), (by intros; rename_i h _ _ _ _; rw [mT_findParts_z] at h; cases h)⟩
    | succ n ih =>
      obtain ⟨ih0, ih1⟩ := ih
      refine ⟨?_, ?_⟩
      · intro x1 ps pn ps_1 pn_1 H locs ls hm hP hD hS hl
        rw [mT_findParts_e0] at hm
        refine lv_aload_n hx hb dXT_findParts_0 rfl (lv_at hl 0 rfl) ?_
        refine va_get (D := D) (ci := 3) (v := .int wh) (C := RXT) (T := TXT) (N := 10) hx hb hts hinXT hown hK hP 0 rfl rfl 9 (by decide) (hts _ wd_82) (fun _ h9 => h9) rfl dXT_findParts_1 ?_
        refine lv_istore_n (lv' := [(2, .int wh), (0, .ref (q 5)), (1, .int x1)]) hx hb dXT_findParts_4 rfl hl (by decide) rfl (fun ls hl => ?_)
        refine lv_aload_n hx hb dXT_findParts_5 rfl (lv_at hl 1 rfl) ?_
        refine lv_iconst (v := 0) hx hb dXT_findParts_6 (by decide) ?_
        refine va_put (D := D) (ci := 3) (v := .int 0) (ty := .int) (C := RXT) (T := TXT) (N := 10) hx hb hts hinXT tyXT tyXT_ok nXT hown hK hP hD hS 0 rfl rfl 7 (by decide) (hts _ wd_80) (fun _ h9 => h9) rfl (by decide +kernel) rfl rfl (Nat.le_of_ble_eq_true rfl) dXT_findParts_7 (fun H locs hP hD hS => ?_)
        have hP : va_P D vwCl (wT q cA N nr ss sc ns nc ps dg 0 pj wh) H := hP
        have hD : va_D A (wT q cA N nr ss sc ns nc ps dg 0 pj wh) := hD
        refine lv_iconst (v := 0) hx hb dXT_findParts_10 (by decide) ?_
        refine lv_istore_n (lv' := [(3, .int 0), (2, .int wh), (0, .ref (q 5)), (1, .int x1)]) hx hb dXT_findParts_11 rfl hl (by decide) rfl (fun ls hl => ?_)
        exact ih1 x1 wh 0 ps 0 _ _ H locs ls hm hP hD hS (lv_sub hl [2, 3, 1, 0] rfl)
      · intro x1 x2 x3 ps pn ps_1 pn_1 H locs ls hm hP hD hS hl
        rw [mT_findParts_e1] at hm
        refine lv_iload_n hx hb dXT_findParts_12 rfl (lv_at hl 3 rfl) ?_
        refine lv_aload_n hx hb dXT_findParts_13 rfl (lv_at hl 0 rfl) ?_
        refine va_get (D := D) (ci := 3) (v := .ref (q 10)) (C := RXT) (T := TXT) (N := 10) hx hb hts hinXT hown hK hP 0 rfl rfl 0 (by decide) (hts _ wd_73) (fun _ h9 => h9) rfl dXT_findParts_14 ?_
        obtain ⟨r111, hm111, hm⟩ := kb_s hm
        refine k_vi (As := []) (rest := [.int x3]) (w2 := (wT q cA N nr ss sc ns nc ps dg pn pj wh)) ⟨hx, hb, hml, hown, hts⟩ (cG_size l D q cA N H.size nr n r111 hm111) (cwV 0 hts (gV wd_69 wd_70 wd_71 wd_37 wd_72) rfl rfl rfl (by decide +kernel) ⟨Nat.le_of_ble_eq_true rfl, Nat.le_of_ble_eq_true rfl⟩) hK hN hP hD hS hA [5, 6] [0, 1, 2, 3, 4] [0, 1, 2, 3, 4, 5, 6] ⟨rfl, rfl, by decide, rfl, by decide, by decide, rfl, rfl, by decide⟩ (va_recv hK hP (ci := 2) (q0 := 5) rfl rfl) rfl hl.1 rfl (Nat.le_of_ble_eq_true rfl) dXT_findParts_17 ⟨Nat.le_of_ble_eq_true rfl, Nat.le_of_ble_eq_true rfl⟩ (fun hz111 H locs hP hD hS => ?_)
        refine lv_icmp_ge (tgt := 58) hx hb dXT_findParts_20 (by decide) (fun c112 => ?_) (fun c112 => ?_)
        · rw [if_pos c112] at hm
          cases hm
          exact k_vret hx hb hr hlocks hK hP hD hS dXT_findParts_58
        · rw [if_neg c112] at hm
          refine lv_iload_n hx hb dXT_findParts_23 rfl (lv_at hl 2 rfl) ?_
          refine lv_iload_n hx hb dXT_findParts_24 rfl (lv_at hl 3 rfl) ?_
          obtain ⟨r113, hm113, hm⟩ := kb_s hm
          refine k_n0 (As := [.int x2, .int x3]) (rest := []) ⟨hx, hb, hml, hown, hts⟩ (cF_contains l D cA H.size x2 x3 n r113 hm113) ⟨va_cnB 2 hts (gC wd_153) rfl rfl rfl hN.2.1 (hts _ wd_36) (by decide +kernel) ⟨Nat.le_of_ble_eq_true rfl, Nat.le_of_ble_eq_true rfl⟩, hts _ wd_152, trivial⟩ hK hN hP hD hS hA rfl hl.1 rfl (Nat.le_of_ble_eq_true rfl) dXT_findParts_25 ⟨Nat.le_of_ble_eq_true rfl, Nat.le_of_ble_eq_true rfl⟩ (fun hz113 H locs hP hD hS => ?_)
          refine lv_if_eq (tgt := 52) hx hb dXT_findParts_28 (by decide) (fun c114 => ?_) (fun c114 => ?_)
          · rw [if_pos c114] at hm
            refine lv_iinc (v := (x3 + 1)) (lv' := [(3, .int (x3 + 1)), (0, .ref (q 5)), (1, .int x1), (2, .int x2)]) hx hb dXT_findParts_52 hl (k := 3) rfl rfl (by decide) rfl (fun ls hl => ?_)
            refine lv_goto (tgt := 12) hx hb dXT_findParts_55 (by decide) ?_
            exact ih1 x1 x2 (x3 + 1) ps pn _ _ H locs ls hm hP hD hS (lv_sub hl [1, 2, 3, 0] rfl)
          · rw [if_neg c114] at hm
            refine lv_aload_n hx hb dXT_findParts_31 rfl (lv_at hl 0 rfl) ?_
            refine lv_iload_n hx hb dXT_findParts_32 rfl (lv_at hl 1 rfl) ?_
            refine lv_iload_n hx hb dXT_findParts_33 rfl (lv_at hl 3 rfl) ?_
            obtain ⟨r115, hm115, hm⟩ := kb_s hm
            refine k_vi (As := [.int x1, .int x3]) (rest := []) (w2 := (wT q cA N nr ss sc ns nc ps dg pn pj wh)) ⟨hx, hb, hml, hown, hts⟩ (cT_partWith l D q cA N H.size nr ss sc ns nc ps dg pn pj wh x1 x3 n r115 hm115) (cwV 2 hts (gV wd_246 wd_247 wd_10 wd_38 wd_248) rfl rfl rfl (by decide +kernel) ⟨Nat.le_of_ble_eq_true rfl, Nat.le_of_ble_eq_true rfl⟩) hK hN hP hD hS hA [0, 1, 2, 3, 4, 5, 6] [] [0, 1, 2, 3, 4, 5, 6] ⟨rfl, rfl, by decide, rfl, by decide, by decide, rfl, rfl, by decide⟩ (va_recv hK hP (ci := 3) (q0 := 0) rfl rfl) rfl hl.1 rfl (Nat.le_of_ble_eq_true rfl) dXT_findParts_34 ⟨Nat.le_of_ble_eq_true rfl, Nat.le_of_ble_eq_true rfl⟩ (fun hz115 H locs hP hD hS => ?_)
            refine lv_istore (lv' := [(4, .int r115), (0, .ref (q 5)), (1, .int x1), (2, .int x2), (3, .int x3)]) hx hb dXT_findParts_37 hl (by decide) rfl (fun ls hl => ?_)
            refine lv_iload_n hx hb dXT_findParts_39 rfl (lv_at hl 3 rfl) ?_
            refine lv_iload hx hb dXT_findParts_40 (lv_at hl 0 rfl) ?_
            refine lv_iconst (v := (-1)) hx hb dXT_findParts_42 (by decide) ?_
            refine lv_ixor hx hb dXT_findParts_43 ?_
            refine lv_iand hx hb dXT_findParts_44 ?_
            refine lv_topi (fun x2_116 ex2_116 => ?_)
            have hm := kl_s ex2_116 hm
            refine lv_istore_n (lv' := [(2, .int x2_116), (4, .int r115), (0, .ref (q 5)), (1, .int x1), (3, .int x3)]) hx hb dXT_findParts_45 rfl hl (by decide) rfl (fun ls hl => ?_)
            refine lv_aload_n hx hb dXT_findParts_46 rfl (lv_at hl 2 rfl) ?_
            refine lv_iload hx hb dXT_findParts_47 (lv_at hl 1 rfl) ?_
            obtain ⟨⟨ps_117, pn_117⟩, hm117, hm⟩ := kb_s hm
            dsimp only at hm
            refine k_vv (As := [.int r115]) (rest := []) (w2 := (wT q cA N nr ss sc ns nc ps_117 dg pn_117 pj wh)) ⟨hx, hb, hml, hown, hts⟩ (cT_addPart l D q cA N H.size nr ss sc ns nc ps dg pn pj wh r115 n ps_117 pn_117 hm117) (cwV 1 hts (gV wd_249 wd_250 wd_11 wd_38 wd_251) rfl rfl rfl (by decide +kernel) ⟨Nat.le_of_ble_eq_true rfl, Nat.le_of_ble_eq_true rfl⟩) hK hN hP hD hS hA [0, 1, 2, 3, 4, 5, 6] [] [0, 1, 2, 3, 4, 5, 6] ⟨rfl, rfl, by decide, rfl, by decide, by decide, rfl, rfl, by decide⟩ (va_recv hK hP (ci := 3) (q0 := 0) rfl rfl) rfl hl.1 rfl (Nat.le_of_ble_eq_true rfl) dXT_findParts_49 ⟨Nat.le_of_ble_eq_true rfl, Nat.le_of_ble_eq_true rfl⟩ (fun H locs hP hD hS => ?_)
            refine lv_iinc (v := (x3 + 1)) (lv' := [(3, .int (x3 + 1)), (2, .int x2_116), (4, .int r115), (0, .ref (q 5)), (1, .int x1)]) hx hb dXT_findParts_52 hl (k := 4) rfl rfl (by decide) rfl (fun ls hl => ?_)
            refine lv_goto (tgt := 12) hx hb dXT_findParts_55 (by decide) ?_
            exact ih1 x1 x2_116 (x3 + 1) ps_117 pn_117 _ _ H locs ls hm hP hD hS (lv_sub hl [3, 4, 1, 0] rfl)
  exact (key n).1 a1 ps pn ps_1 pn_1 s.heap [] ls hm hP hD va_S.rf hl
set_option maxHeartbeats 4000000 in
set_option maxRecDepth 100000 in
theorem cT_findJoins (l : Launch) (D : va_G) (q : Nat → Nat) (cA : ClassId) (N : Nat) (sz : Nat) (nr : Nat → Int32) (ss : Nat → Int32) (sc : Int32) (ns : Nat → Int32) (nc : Int32) (ps : Nat → Int32) (dg : Nat → Int32) (pn : Int32) (pj : Int32) (wh : Int32) (a1 : Int32) (n : Nat) (ps_1 : Nat → Int32) (dg_1 : Nat → Int32) (pn_1 : Int32) (pj_1 : Int32) (hm : mT_findJoins N nr ns nc wh n 0 [a1] ps dg pn pj = some (ps_1, dg_1, pn_1, pj_1)) : Met l yXT_findJoins wsXT_findJoins ({ frames := 3, cells := 0, slots := 0, locals := 71 }) (kPc D cA [.ref (q 5), .int a1] (wT q cA N nr ss sc ns nc ps dg pn pj wh) sz) (kQv D cA (va_A (wT q cA N nr ss sc ns nc ps dg pn pj wh) sz) (wT q cA N nr ss sc ns nc ps_1 dg_1 pn_1 pj_1 wh)) 0 0 (va_A (wT q cA N nr ss sc ns nc ps dg pn pj wh) sz) := by
  refine k_met (D := D) (cA := cA) (w := (wT q cA N nr ss sc ns nc ps dg pn pj wh)) (sz := sz) (av := [.ref (q 5), .int a1]) (cc := cXT_findJoins) (maxL := 4) (ret := none) (Qc := fun A => kQv D cA A (wT q cA N nr ss sc ns nc ps_1 dg_1 pn_1 pj_1 wh)) (by decide) rfl (Nat.le_of_ble_eq_true rfl) ?_
  intro p e s m below meth c A ls hX hK hN hA hP hD hl
  obtain ⟨hx, hb, hr, hml, hown, hts, hlocks, -⟩ := hX
  have hown : s.vm.findClass RXT = some m.cls := hown
  have hl : lv_has ls 4 [(0, .ref (q 5)), (1, .int a1)] := hl
  have hts : ∀ w ∈ W0, w.before _ s = true := fun w h => hts w (List.mem_cons_of_mem _ h)
  have key : ∀ n : Nat, (∀ (x1 : Int32) (ps : Nat → Int32) (dg : Nat → Int32) (pn : Int32) (pj : Int32) (ps_1 : Nat → Int32) (dg_1 : Nat → Int32) (pn_1 : Int32) (pj_1 : Int32) (H : Heap) (locs : List Loc) (ls : Array Slot), mT_findJoins N nr ns nc wh n 0 [x1] ps dg pn pj = some (ps_1, dg_1, pn_1, pj_1) → va_P D vwCl (wT q cA N nr ss sc ns nc ps dg pn pj wh) H → va_D A (wT q cA N nr ss sc ns nc ps dg pn pj wh) → va_S A s.heap H locs → lv_has ls 4 [(0, .ref (q 5)), (1, .int x1)] → W p l e ({ frames := 3, cells := 0, slots := 0, locals := 71 }) s m ([.ref (q 5), .int a1] : List Value).toArray below meth c H locs 0 0 (MQ below (kQv D cA A (wT q cA N nr ss sc ns nc ps_1 dg_1 pn_1 pj_1 wh)) ([.ref (q 5), .int a1] : List Value).toArray s 0 0 A) (F0 m 0 ls [])) ∧
    (∀ (x2 : Int32) (ps : Nat → Int32) (dg : Nat → Int32) (pn : Int32) (pj : Int32) (ps_1 : Nat → Int32) (dg_1 : Nat → Int32) (pn_1 : Int32) (pj_1 : Int32) (H : Heap) (locs : List Loc) (ls : Array Slot), mT_findJoins N nr ns nc wh n 1 [x2] ps dg pn pj = some (ps_1, dg_1, pn_1, pj_1) → va_P D vwCl (wT q cA N nr ss sc ns nc ps dg pn pj wh) H → va_D A (wT q cA N nr ss sc ns nc ps dg pn pj wh) → va_S A s.heap H locs → lv_has ls 4 [(0, .ref (q 5)), (2, .int x2)] → W p l e ({ frames := 3, cells := 0, slots := 0, locals := 71 }) s m ([.ref (q 5), .int a1] : List Value).toArray below meth c H locs 0 0 (MQ below (kQv D cA A (wT q cA N nr ss sc ns nc ps_1 dg_1 pn_1 pj_1 wh)) ([.ref (q 5), .int a1] : List Value).toArray s 0 0 A) (F0 m 12 ls [])) ∧
    (∀ (x2 x3 : Int32) (ps : Nat → Int32) (dg : Nat → Int32) (pn : Int32) (pj : Int32) (ps_1 : Nat → Int32) (dg_1 : Nat → Int32) (pn_1 : Int32) (pj_1 : Int32) (H : Heap) (locs : List Loc) (ls : Array Slot), mT_findJoins N nr ns nc wh n 2 [x2, x3] ps dg pn pj = some (ps_1, dg_1, pn_1, pj_1) → va_P D vwCl (wT q cA N nr ss sc ns nc ps dg pn pj wh) H → va_D A (wT q cA N nr ss sc ns nc ps dg pn pj wh) → va_S A s.heap H locs → lv_has ls 4 [(0, .ref (q 5)), (2, .int x2), (3, .int x3)] → W p l e ({ frames := 3, cells := 0, slots := 0, locals := 71 }) s m ([.ref (q 5), .int a1] : List Value).toArray below meth c H locs 0 0 (MQ below (kQv D cA A (wT q cA N nr ss sc ns nc ps_1 dg_1 pn_1 pj_1 wh)) ([.ref (q 5), .int a1] : List Value).toArray s 0 0 A) (F0 m 29 ls [])) := by
    intro n
    induction n with
    | zero => exact ⟨(by intros; rename_i h _ _ _ _; rw [mT_findJoins_z] at h; cases h), (by intros; rename_i h _ _ _ _; rw [mT_findJoins_z] at h; cases h), (by intros; rename_i h _ _ _ _; rw [mT_findJoins_z] at h; cases h)⟩
    | succ n ih =>
      obtain ⟨ih0, ih1, ih2⟩ := ih
      refine ⟨?_, ?_, ?_⟩
      · intro x1 ps dg pn pj ps_1 dg_1 pn_1 pj_1 H locs ls hm hP hD hS hl
        rw [mT_findJoins_e0] at hm
        refine lv_aload_n hx hb dXT_findJoins_0 rfl (lv_at hl 0 rfl) ?_
        refine lv_iload_n hx hb dXT_findJoins_1 rfl (lv_at hl 1 rfl) ?_
        obtain ⟨⟨ps_11, pn_11⟩, hm11, hm⟩ := kb_s hm
        dsimp only at hm
        refine k_vv (As := [.int x1]) (rest := []) (w2 := (wT q cA N nr ss sc ns nc ps_11 dg pn_11 pj wh)) ⟨hx, hb, hml, hown, hts⟩ (cT_findParts l D q cA N H.size nr ss sc ns nc ps dg pn pj wh x1 n ps_11 pn_11 hm11) (cwV 1 hts (gV wd_243 wd_244 wd_9 wd_38 wd_245) rfl rfl rfl (by decide +kernel) ⟨Nat.le_of_ble_eq_true rfl, Nat.le_of_ble_eq_true rfl⟩) hK hN hP hD hS hA [0, 1, 2, 3, 4, 5, 6] [] [0, 1, 2, 3, 4, 5, 6] ⟨rfl, rfl, by decide, rfl, by decide, by decide, rfl, rfl, by decide⟩ (va_recv hK hP (ci := 3) (q0 := 0) rfl rfl) rfl hl.1 rfl (Nat.le_of_ble_eq_true rfl) dXT_findJoins_2 ⟨Nat.le_of_ble_eq_true rfl, Nat.le_of_ble_eq_true rfl⟩ (fun H locs hP hD hS => ?_)
        refine lv_aload_n hx hb dXT_findJoins_5 rfl (lv_at hl 0 rfl) ?_
        refine lv_iconst (v := 0) hx hb dXT_findJoins_6 (by decide) ?_
        refine va_put (D := D) (ci := 3) (v := .int 0) (ty := .int) (C := RXT) (T := TXT) (N := 10) hx hb hts hinXT tyXT tyXT_ok nXT hown hK hP hD hS 0 rfl rfl 8 (by decide) (hts _ wd_81) (fun _ h9 => h9) rfl (by decide +kernel) rfl rfl (Nat.le_of_ble_eq_true rfl) dXT_findJoins_7 (fun H locs hP hD hS => ?_)
        have hP : va_P D vwCl (wT q cA N nr ss sc ns nc ps_11 dg pn_11 0 wh) H := hP
        have hD : va_D A (wT q cA N nr ss sc ns nc ps_11 dg pn_11 0 wh) := hD
        refine lv_iconst (v := 0) hx hb dXT_findJoins_10 (by decide) ?_
        refine lv_istore_n (lv' := [(2, .int 0), (0, .ref (q 5)), (1, .int x1)]) hx hb dXT_findJoins_11 rfl hl (by decide) rfl (fun ls hl => ?_)
        exact ih1 0 ps_11 dg pn_11 0 _ _ _ _ H locs ls hm hP hD hS (lv_sub hl [1, 0] rfl)
      · intro x2 ps dg pn pj ps_1 dg_1 pn_1 pj_1 H locs ls hm hP hD hS hl
        rw [mT_findJoins_e1] at hm
        refine lv_iload_n hx hb dXT_findJoins_12 rfl (lv_at hl 1 rfl) ?_
        refine lv_aload_n hx hb dXT_findJoins_13 rfl (lv_at hl 0 rfl) ?_
        refine va_get (D := D) (ci := 3) (v := .int pn) (C := RXT) (T := TXT) (N := 10) hx hb hts hinXT hown hK hP 0 rfl rfl 7 (by decide) (hts _ wd_80) (fun _ h9 => h9) rfl dXT_findJoins_14 ?_
        refine lv_icmp_ge (tgt := 98) hx hb dXT_findJoins_17 (by decide) (fun c111 => ?_) (fun c111 => ?_)
        · rw [if_pos c111] at hm
          cases hm
          exact k_vret hx hb hr hlocks hK hP hD hS dXT_findJoins_98
        · rw [if_neg c111] at hm
          refine lv_aload_n hx hb dXT_findJoins_20 rfl (lv_at hl 0 rfl) ?_
          refine va_get (D := D) (ci := 3) (v := .ref (q 9)) (C := RXT) (T := TXT) (N := 10) hx hb hts hinXT hown hK hP 0 rfl rfl 6 (by decide) (hts _ wd_79) (fun _ h9 => h9) rfl dXT_findJoins_21 ?_
          refine lv_iload_n hx hb dXT_findJoins_24 rfl (lv_at hl 1 rfl) ?_
          refine lv_iconst (v := 0) hx hb dXT_findJoins_25 (by decide) ?_
          obtain ⟨hg112, hm⟩ := kg_s hm
          refine va_iast hx hb hK hP hD hS 4 0 rfl rfl hg112 dXT_findJoins_26 (fun H locs hP hD hS => ?_)
          have hP : va_P D vwCl (wT q cA N nr ss sc ns nc ps (upd dg x2.toNatClampNeg 0) pn pj wh) H := hP
          have hD : va_D A (wT q cA N nr ss sc ns nc ps (upd dg x2.toNatClampNeg 0) pn pj wh) := hD
          refine lv_iconst (v := 0) hx hb dXT_findJoins_27 (by decide) ?_
          refine lv_istore_n (lv' := [(3, .int 0), (0, .ref (q 5)), (2, .int x2)]) hx hb dXT_findJoins_28 rfl hl (by decide) rfl (fun ls hl => ?_)
          exact ih2 x2 0 ps (upd dg x2.toNatClampNeg 0) pn pj _ _ _ _ H locs ls hm hP hD hS (lv_sub hl [1, 2, 0] rfl)
      · intro x2 x3 ps dg pn pj ps_1 dg_1 pn_1 pj_1 H locs ls hm hP hD hS hl
        rw [mT_findJoins_e2] at hm
        refine lv_iload_n hx hb dXT_findJoins_29 rfl (lv_at hl 2 rfl) ?_
        refine lv_iload_n hx hb dXT_findJoins_30 rfl (lv_at hl 1 rfl) ?_
        refine lv_icmp_ge (tgt := 92) hx hb dXT_findJoins_31 (by decide) (fun c211 => ?_) (fun c211 => ?_)
        · rw [if_pos c211] at hm
          refine lv_iinc (v := (x2 + 1)) (lv' := [(2, .int (x2 + 1)), (0, .ref (q 5)), (3, .int x3)]) hx hb dXT_findJoins_92 hl (k := 1) rfl rfl (by decide) rfl (fun ls hl => ?_)
          refine lv_goto (tgt := 12) hx hb dXT_findJoins_95 (by decide) ?_
          exact ih1 (x2 + 1) ps dg pn pj _ _ _ _ H locs ls hm hP hD hS (lv_sub hl [1, 0] rfl)
        · rw [if_neg c211] at hm
          refine lv_aload_n hx hb dXT_findJoins_34 rfl (lv_at hl 0 rfl) ?_
          refine va_get (D := D) (ci := 3) (v := .ref (q 10)) (C := RXT) (T := TXT) (N := 10) hx hb hts hinXT hown hK hP 0 rfl rfl 0 (by decide) (hts _ wd_73) (fun _ h9 => h9) rfl dXT_findJoins_35 ?_
          refine lv_aload_n hx hb dXT_findJoins_38 rfl (lv_at hl 0 rfl) ?_
          refine va_get (D := D) (ci := 3) (v := .ref (q 8)) (C := RXT) (T := TXT) (N := 10) hx hb hts hinXT hown hK hP 0 rfl rfl 5 (by decide) (hts _ wd_78) (fun _ h9 => h9) rfl dXT_findJoins_39 ?_
          refine lv_iload_n hx hb dXT_findJoins_42 rfl (lv_at hl 1 rfl) ?_
          obtain ⟨hg212, hm⟩ := kg_s hm
          refine va_iald hx hb hK hP 3 0 rfl rfl hg212 dXT_findJoins_43 ?_
          refine lv_aload_n hx hb dXT_findJoins_44 rfl (lv_at hl 0 rfl) ?_
          refine va_get (D := D) (ci := 3) (v := .ref (q 8)) (C := RXT) (T := TXT) (N := 10) hx hb hts hinXT hown hK hP 0 rfl rfl 5 (by decide) (hts _ wd_78) (fun _ h9 => h9) rfl dXT_findJoins_45 ?_
          refine lv_iload_n hx hb dXT_findJoins_48 rfl (lv_at hl 2 rfl) ?_
          obtain ⟨hg213, hm⟩ := kg_s hm
          refine va_iald hx hb hK hP 3 0 rfl rfl hg213 dXT_findJoins_49 ?_
          obtain ⟨r214, hm214, hm⟩ := kb_s hm
          refine k_vi (As := [.int (ps x2.toNatClampNeg), .int (ps x3.toNatClampNeg)]) (rest := []) (w2 := (wT q cA N nr ss sc ns nc ps dg pn pj wh)) ⟨hx, hb, hml, hown, hts⟩ (cG_joined l D q cA N H.size nr (ps x2.toNatClampNeg) (ps x3.toNatClampNeg) n r214 hm214) (cwV 2 hts (gV wd_252 wd_253 wd_254 wd_37 wd_255) rfl rfl rfl (by decide +kernel) ⟨Nat.le_of_ble_eq_true rfl, Nat.le_of_ble_eq_true rfl⟩) hK hN hP hD hS hA [5, 6] [0, 1, 2, 3, 4] [0, 1, 2, 3, 4, 5, 6] ⟨rfl, rfl, by decide, rfl, by decide, by decide, rfl, rfl, by decide⟩ (va_recv hK hP (ci := 2) (q0 := 5) rfl rfl) rfl hl.1 rfl (Nat.le_of_ble_eq_true rfl) dXT_findJoins_50 ⟨Nat.le_of_ble_eq_true rfl, Nat.le_of_ble_eq_true rfl⟩ (fun hz214 H locs hP hD hS => ?_)
          refine lv_if_eq (tgt := 86) hx hb dXT_findJoins_53 (by decide) (fun c215 => ?_) (fun c215 => ?_)
          · rw [if_pos c215] at hm
            refine lv_iinc (v := (x3 + 1)) (lv' := [(3, .int (x3 + 1)), (0, .ref (q 5)), (2, .int x2)]) hx hb dXT_findJoins_86 hl (k := 2) rfl rfl (by decide) rfl (fun ls hl => ?_)
            refine lv_goto (tgt := 29) hx hb dXT_findJoins_89 (by decide) ?_
            exact ih2 x2 (x3 + 1) ps dg pn pj _ _ _ _ H locs ls hm hP hD hS (lv_sub hl [1, 2, 0] rfl)
          · rw [if_neg c215] at hm
            refine lv_aload_n hx hb dXT_findJoins_56 rfl (lv_at hl 0 rfl) ?_
            refine va_get (D := D) (ci := 3) (v := .ref (q 9)) (C := RXT) (T := TXT) (N := 10) hx hb hts hinXT hown hK hP 0 rfl rfl 6 (by decide) (hts _ wd_79) (fun _ h9 => h9) rfl dXT_findJoins_57 ?_
            refine lv_iload_n hx hb dXT_findJoins_60 rfl (lv_at hl 1 rfl) ?_
            refine lv_dup2_11 hx hb dXT_findJoins_61 rfl rfl ?_
            obtain ⟨hg216, hm⟩ := kg_s hm
            refine va_iald hx hb hK hP 4 0 rfl rfl hg216 dXT_findJoins_62 ?_
            refine lv_iconst (v := 1) hx hb dXT_findJoins_63 (by decide) ?_
            refine lv_iadd hx hb dXT_findJoins_64 ?_
            obtain ⟨hg217, hm⟩ := kg_s hm
            refine va_iast hx hb hK hP hD hS 4 0 rfl rfl hg217 dXT_findJoins_65 (fun H locs hP hD hS => ?_)
            have hP : va_P D vwCl (wT q cA N nr ss sc ns nc ps (upd dg x2.toNatClampNeg ((dg x2.toNatClampNeg) + 1)) pn pj wh) H := hP
            have hD : va_D A (wT q cA N nr ss sc ns nc ps (upd dg x2.toNatClampNeg ((dg x2.toNatClampNeg) + 1)) pn pj wh) := hD
            refine lv_aload_n hx hb dXT_findJoins_66 rfl (lv_at hl 0 rfl) ?_
            refine va_get (D := D) (ci := 3) (v := .ref (q 9)) (C := RXT) (T := TXT) (N := 10) hx hb hts hinXT hown hK hP 0 rfl rfl 6 (by decide) (hts _ wd_79) (fun _ h9 => h9) rfl dXT_findJoins_67 ?_
            refine lv_iload_n hx hb dXT_findJoins_70 rfl (lv_at hl 2 rfl) ?_
            refine lv_dup2_11 hx hb dXT_findJoins_71 rfl rfl ?_
            obtain ⟨hg218, hm⟩ := kg_s hm
            refine va_iald hx hb hK hP 4 0 rfl rfl hg218 dXT_findJoins_72 ?_
            refine lv_iconst (v := 1) hx hb dXT_findJoins_73 (by decide) ?_
            refine lv_iadd hx hb dXT_findJoins_74 ?_
            obtain ⟨hg219, hm⟩ := kg_s hm
            refine va_iast hx hb hK hP hD hS 4 0 rfl rfl hg219 dXT_findJoins_75 (fun H locs hP hD hS => ?_)
            have hP : va_P D vwCl (wT q cA N nr ss sc ns nc ps (upd (upd dg x2.toNatClampNeg ((dg x2.toNatClampNeg) + 1)) x3.toNatClampNeg (((upd dg x2.toNatClampNeg ((dg x2.toNatClampNeg) + 1)) x3.toNatClampNeg) + 1)) pn pj wh) H := hP
            have hD : va_D A (wT q cA N nr ss sc ns nc ps (upd (upd dg x2.toNatClampNeg ((dg x2.toNatClampNeg) + 1)) x3.toNatClampNeg (((upd dg x2.toNatClampNeg ((dg x2.toNatClampNeg) + 1)) x3.toNatClampNeg) + 1)) pn pj wh) := hD
            refine lv_aload_n hx hb dXT_findJoins_76 rfl (lv_at hl 0 rfl) ?_
            refine lv_dup hx hb dXT_findJoins_77 rfl ?_
            refine va_get (D := D) (ci := 3) (v := .int pj) (C := RXT) (T := TXT) (N := 10) hx hb hts hinXT hown hK hP 0 rfl rfl 8 (by decide) (hts _ wd_81) (fun _ h9 => h9) rfl dXT_findJoins_78 ?_
            refine lv_iconst (v := 1) hx hb dXT_findJoins_81 (by decide) ?_
            refine lv_iadd hx hb dXT_findJoins_82 ?_
            refine va_put (D := D) (ci := 3) (v := .int (pj + 1)) (ty := .int) (C := RXT) (T := TXT) (N := 10) hx hb hts hinXT tyXT tyXT_ok nXT hown hK hP hD hS 0 rfl rfl 8 (by decide) (hts _ wd_81) (fun _ h9 => h9) rfl (by decide +kernel) rfl rfl (Nat.le_of_ble_eq_true rfl) dXT_findJoins_83 (fun H locs hP hD hS => ?_)
            have hP : va_P D vwCl (wT q cA N nr ss sc ns nc ps (upd (upd dg x2.toNatClampNeg ((dg x2.toNatClampNeg) + 1)) x3.toNatClampNeg (((upd dg x2.toNatClampNeg ((dg x2.toNatClampNeg) + 1)) x3.toNatClampNeg) + 1)) pn (pj + 1) wh) H := hP
            have hD : va_D A (wT q cA N nr ss sc ns nc ps (upd (upd dg x2.toNatClampNeg ((dg x2.toNatClampNeg) + 1)) x3.toNatClampNeg (((upd dg x2.toNatClampNeg ((dg x2.toNatClampNeg) + 1)) x3.toNatClampNeg) + 1)) pn (pj + 1) wh) := hD
            refine lv_iinc (v := (x3 + 1)) (lv' := [(3, .int (x3 + 1)), (0, .ref (q 5)), (2, .int x2)]) hx hb dXT_findJoins_86 hl (k := 2) rfl rfl (by decide) rfl (fun ls hl => ?_)
            refine lv_goto (tgt := 29) hx hb dXT_findJoins_89 (by decide) ?_
            exact ih2 x2 (x3 + 1) ps (upd (upd dg x2.toNatClampNeg ((dg x2.toNatClampNeg) + 1)) x3.toNatClampNeg (((upd dg x2.toNatClampNeg ((dg x2.toNatClampNeg) + 1)) x3.toNatClampNeg) + 1)) pn (pj + 1) _ _ _ _ H locs ls hm hP hD hS (lv_sub hl [1, 2, 0] rfl)
  exact (key n).1 a1 ps dg pn pj ps_1 dg_1 pn_1 pj_1 s.heap [] ls hm hP hD va_S.rf hl
