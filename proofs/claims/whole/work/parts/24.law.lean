set_option maxHeartbeats 4000000 in
set_option maxRecDepth 100000 in
theorem law_arm0 {p : Program} {e : Env} {s : State} {m : MethodId} {below : List Frame} {meth : Method} {c : Code} (l : Launch) {b L : Nat} {xs : Nat → Int32} (C0 : lw_At p s m meth c b L xs) {D : va_G} {q u : Nat → Nat} {cA : ClassId} {N : Nat} (hK : va_K D vwCl (kTy cA) s) (hN : kN s) (n : Nat) (ih : ∀ (x3 : Int32) (nr : Nat → Int32) (ss : Nat → Int32) (sc : Int32) (ns : Nat → Int32) (nc : Int32) (ps : Nat → Int32) (dg : Nat → Int32) (pn : Int32) (pj : Int32) (wh : Int32) (st : Nat → Int32) (sn : Int32) (lf : Int32) (fw : Nat → Int32) (mr : Nat → Int32) (zn : Int32) (zs : Nat → Int32) (tn : Int32) (ts : Nat → Int32) (yn : Int32) (ys : Nat → Int32) (en : Int32) (es : Nat → Int32) (ew : Int32) (cv : Nat → Int32) (H : Heap) (locs : List Loc) (ls : Array Slot), mL_law N L xs n x3 nr ss sc ns nc ps dg pn pj wh st sn lf fw mr zn zs tn ts yn ys en es ew cv = some 1 → va_P D vwCl (wL q u cA N nr ss sc ns nc ps dg pn pj wh st sn lf fw mr zn zs tn ts yn ys en es ew cv) H → va_D (fun q : Nat => s.heap.size ≤ q) (wL q u cA N nr ss sc ns nc ps dg pn pj wh st sn lf fw mr zn zs tn ts yn ys en es ew cv) → va_S (fun q : Nat => s.heap.size ≤ q) s.heap H locs → lv_has ls 4 [(0, .ref b), (1, .ref (q 0)), (2, .ref (u 0)), (3, .int x3)] → W p l e room_1 s m #[Value.ref b] below meth c H locs 19 2152 (lw_Z below #[Value.ref b] s) (F0 m 28 ls [])) (x3 : Int32) (nr : Nat → Int32) (ss : Nat → Int32) (sc : Int32) (ns : Nat → Int32) (nc : Int32) (ps : Nat → Int32) (dg : Nat → Int32) (pn : Int32) (pj : Int32) (wh : Int32) (st : Nat → Int32) (sn : Int32) (lf : Int32) (fw : Nat → Int32) (mr : Nat → Int32) (zn : Int32) (zs : Nat → Int32) (tn : Int32) (ts : Nat → Int32) (yn : Int32) (ys : Nat → Int32) (en : Int32) (es : Nat → Int32) (ew : Int32) (cv : Nat → Int32) (H : Heap) (locs : List Loc) (ls : Array Slot) (hm : mL_arm0 N L xs (mL_law N L xs n) n x3 nr ss sc ns nc ps dg pn pj wh st sn lf fw mr zn zs tn ts yn ys en es ew cv = some 1) (hP : va_P D vwCl (wL q u cA N nr ss sc ns nc ps dg pn pj wh st sn lf fw mr zn zs tn ts yn ys en es ew cv) H) (hD : va_D (fun q : Nat => s.heap.size ≤ q) (wL q u cA N nr ss sc ns nc ps dg pn pj wh st sn lf fw mr zn zs tn ts yn ys en es ew cv)) (hS : va_S (fun q : Nat => s.heap.size ≤ q) s.heap H locs) (hl : lv_has ls 4 [(0, .ref b), (1, .ref (q 0)), (2, .ref (u 0)), (3, .int x3)]) : W p l e room_1 s m #[Value.ref b] below meth c H locs 19 2152 (lw_Z below #[Value.ref b] s) (F0 m 132 ls []) := by
  obtain ⟨hx, hb, hr, hml, hown, hts, hX, hbl, hlocks, hgv⟩ := C0
  have hown : s.vm.findClass RXL = some m.cls := hown
  have hts : ∀ w ∈ W0, w.before _ s = true := fun w h => hts w (W0_in w h)
  have hA : ∀ q : Nat, s.heap.size ≤ q → (fun q : Nat => s.heap.size ≤ q) q := fun _ h => h
  have hbA : ¬ (fun q : Nat => s.heap.size ≤ q) b := Nat.not_le.mpr hbl
  unfold mL_arm0 at hm
  refine lv_aload_n hx hb dL_law_132 rfl (lv_at hl 1 rfl) ?_
  obtain ⟨r1, hm1, hm⟩ := kb_s hm
  refine k_vi (As := []) (rest := []) (w2 := (wL q u cA N nr ss sc ns nc ps dg pn pj wh st sn lf fw mr zn zs tn ts yn ys en es ew cv)) ⟨hx, hb, hml, hown, hts⟩ (cF_vertices l D q cA N H.size nr ss sc ns nc ps dg pn pj wh st sn lf fw n r1 hm1) (cwV 0 hts (gV wd_127 wd_128 wd_129 wd_36 wd_130) rfl rfl rfl (by decide +kernel) ⟨Nat.le_of_ble_eq_true rfl, Nat.le_of_ble_eq_true rfl⟩) hK hN hP hD hS hA [0, 1, 2, 3, 4, 5, 6, 7, 8, 9, 10, 11] [12, 13, 14, 15, 16, 17, 18] [7, 8, 9, 10, 11, 12, 13, 14, 15, 16, 17, 18, 0, 1, 2, 3, 4, 5, 6] ⟨rfl, rfl, by decide, rfl, by decide, by decide, rfl, rfl, by decide⟩ (va_recv hK hP (ci := 4) (q0 := 0) rfl rfl) rfl hl.1 rfl (Nat.le_of_ble_eq_true rfl) dL_law_133 ⟨Nat.le_of_ble_eq_true rfl, Nat.le_of_ble_eq_true rfl⟩ (fun _ H locs hP hD hS => ?_)
  refine lv_aload_n hx hb dL_law_136 rfl (lv_at hl 2 rfl) ?_
  obtain ⟨r2, hm2, hm⟩ := kb_s hm
  refine k_vi (As := []) (rest := [.int r1]) (w2 := (wL q u cA N nr ss sc ns nc ps dg pn pj wh st sn lf fw mr zn zs tn ts yn ys en es ew cv)) ⟨hx, hb, hml, hown, hts⟩ (cM_vertices l D u cA N H.size mr zn zs tn ts yn ys en es ew cv n r2 hm2) (cwV 0 hts (gV wd_413 wd_414 wd_415 wd_41 wd_416) rfl rfl rfl (by decide +kernel) ⟨Nat.le_of_ble_eq_true rfl, Nat.le_of_ble_eq_true rfl⟩) hK hN hP hD hS hA [12, 13, 14, 15, 16, 17, 18] [0, 1, 2, 3, 4, 5, 6, 7, 8, 9, 10, 11] [0, 1, 2, 3, 4, 5, 6, 7, 8, 9, 10, 11, 12, 13, 14, 15, 16, 17, 18] ⟨rfl, rfl, by decide, rfl, by decide, by decide, rfl, rfl, by decide⟩ (va_recv hK hP (ci := 5) (q0 := 12) rfl rfl) rfl hl.1 rfl (Nat.le_of_ble_eq_true rfl) dL_law_137 ⟨Nat.le_of_ble_eq_true rfl, Nat.le_of_ble_eq_true rfl⟩ (fun _ H locs hP hD hS => ?_)
  refine lv_icmp_eq (tgt := 659) hx hb dL_law_140 (by decide) (fun c3 => ?_) (fun c3 => ?_)
  · rw [if_pos c3] at hm
    refine lv_iinc (v := (x3 + 4)) (lv' := [(3, .int (x3 + 4)), (0, .ref b), (1, .ref (q 0)), (2, .ref (u 0))]) hx hb dL_law_659 hl (k := 3) rfl rfl (by decide) rfl (fun ls hl => ?_)
    refine lv_goto (tgt := 28) hx hb dL_law_662 (by decide) ?_
    exact ih (x3 + 4) nr ss sc ns nc ps dg pn pj wh st sn lf fw mr zn zs tn ts yn ys en es ew cv H locs ls hm hP hD hS (lv_sub hl [1, 2, 3, 0] rfl)
  · rw [if_neg c3] at hm
    exact absurd (Option.some.inj hm) (by decide)
set_option maxHeartbeats 4000000 in
set_option maxRecDepth 100000 in
theorem law_arm1 {p : Program} {e : Env} {s : State} {m : MethodId} {below : List Frame} {meth : Method} {c : Code} (l : Launch) {b L : Nat} {xs : Nat → Int32} (C0 : lw_At p s m meth c b L xs) {D : va_G} {q u : Nat → Nat} {cA : ClassId} {N : Nat} (hK : va_K D vwCl (kTy cA) s) (hN : kN s) (n : Nat) (ih : ∀ (x3 : Int32) (nr : Nat → Int32) (ss : Nat → Int32) (sc : Int32) (ns : Nat → Int32) (nc : Int32) (ps : Nat → Int32) (dg : Nat → Int32) (pn : Int32) (pj : Int32) (wh : Int32) (st : Nat → Int32) (sn : Int32) (lf : Int32) (fw : Nat → Int32) (mr : Nat → Int32) (zn : Int32) (zs : Nat → Int32) (tn : Int32) (ts : Nat → Int32) (yn : Int32) (ys : Nat → Int32) (en : Int32) (es : Nat → Int32) (ew : Int32) (cv : Nat → Int32) (H : Heap) (locs : List Loc) (ls : Array Slot), mL_law N L xs n x3 nr ss sc ns nc ps dg pn pj wh st sn lf fw mr zn zs tn ts yn ys en es ew cv = some 1 → va_P D vwCl (wL q u cA N nr ss sc ns nc ps dg pn pj wh st sn lf fw mr zn zs tn ts yn ys en es ew cv) H → va_D (fun q : Nat => s.heap.size ≤ q) (wL q u cA N nr ss sc ns nc ps dg pn pj wh st sn lf fw mr zn zs tn ts yn ys en es ew cv) → va_S (fun q : Nat => s.heap.size ≤ q) s.heap H locs → lv_has ls 4 [(0, .ref b), (1, .ref (q 0)), (2, .ref (u 0)), (3, .int x3)] → W p l e room_1 s m #[Value.ref b] below meth c H locs 19 2152 (lw_Z below #[Value.ref b] s) (F0 m 28 ls [])) (x3 : Int32) (nr : Nat → Int32) (ss : Nat → Int32) (sc : Int32) (ns : Nat → Int32) (nc : Int32) (ps : Nat → Int32) (dg : Nat → Int32) (pn : Int32) (pj : Int32) (wh : Int32) (st : Nat → Int32) (sn : Int32) (lf : Int32) (fw : Nat → Int32) (mr : Nat → Int32) (zn : Int32) (zs : Nat → Int32) (tn : Int32) (ts : Nat → Int32) (yn : Int32) (ys : Nat → Int32) (en : Int32) (es : Nat → Int32) (ew : Int32) (cv : Nat → Int32) (H : Heap) (locs : List Loc) (ls : Array Slot) (hm : mL_arm1 N L xs (mL_law N L xs n) n x3 nr ss sc ns nc ps dg pn pj wh st sn lf fw mr zn zs tn ts yn ys en es ew cv = some 1) (hP : va_P D vwCl (wL q u cA N nr ss sc ns nc ps dg pn pj wh st sn lf fw mr zn zs tn ts yn ys en es ew cv) H) (hD : va_D (fun q : Nat => s.heap.size ≤ q) (wL q u cA N nr ss sc ns nc ps dg pn pj wh st sn lf fw mr zn zs tn ts yn ys en es ew cv)) (hS : va_S (fun q : Nat => s.heap.size ≤ q) s.heap H locs) (hl : lv_has ls 4 [(0, .ref b), (1, .ref (q 0)), (2, .ref (u 0)), (3, .int x3)]) : W p l e room_1 s m #[Value.ref b] below meth c H locs 19 2152 (lw_Z below #[Value.ref b] s) (F0 m 145 ls []) := by
  obtain ⟨hx, hb, hr, hml, hown, hts, hX, hbl, hlocks, hgv⟩ := C0
  have hown : s.vm.findClass RXL = some m.cls := hown
  have hts : ∀ w ∈ W0, w.before _ s = true := fun w h => hts w (W0_in w h)
  have hA : ∀ q : Nat, s.heap.size ≤ q → (fun q : Nat => s.heap.size ≤ q) q := fun _ h => h
  have hbA : ¬ (fun q : Nat => s.heap.size ≤ q) b := Nat.not_le.mpr hbl
  unfold mL_arm1 at hm
  refine lv_aload_n hx hb dL_law_145 rfl (lv_at hl 1 rfl) ?_
  refine lv_aload_n hx hb dL_law_146 rfl (lv_at hl 0 rfl) ?_
  refine lv_iload_n hx hb dL_law_147 rfl (lv_at hl 3 rfl) ?_
  refine lv_iconst (v := 1) hx hb dL_law_148 (by decide) ?_
  refine lv_iadd hx hb dL_law_149 ?_
  obtain ⟨hg1, hm⟩ := kg_s hm
  refine va_sld hx hb hX hbl hbA hS hg1 dL_law_150 ?_
  refine lv_aload_n hx hb dL_law_151 rfl (lv_at hl 0 rfl) ?_
  refine lv_iload_n hx hb dL_law_152 rfl (lv_at hl 3 rfl) ?_
  refine lv_iconst (v := 2) hx hb dL_law_153 (by decide) ?_
  refine lv_iadd hx hb dL_law_154 ?_
  obtain ⟨hg2, hm⟩ := kg_s hm
  refine va_sld hx hb hX hbl hbA hS hg2 dL_law_155 ?_
  obtain ⟨⟨r3, nr_3, wh_3⟩, hm3, hm⟩ := kb_s hm
  dsimp only at hm
  refine k_vi (As := [.int (xs (x3 + 1).toNatClampNeg), .int (xs (x3 + 2).toNatClampNeg)]) (rest := []) (w2 := (wL q u cA N nr_3 ss sc ns nc ps dg pn pj wh_3 st sn lf fw mr zn zs tn ts yn ys en es ew cv)) ⟨hx, hb, hml, hown, hts⟩ (cF_flip l D q cA N H.size nr ss sc ns nc ps dg pn pj wh st sn lf fw (xs (x3 + 1).toNatClampNeg) (xs (x3 + 2).toNatClampNeg) n r3 nr_3 wh_3 hm3) (cwV 2 hts (gV wd_132 wd_133 wd_134 wd_36 wd_135) rfl rfl rfl (by decide +kernel) ⟨Nat.le_of_ble_eq_true rfl, Nat.le_of_ble_eq_true rfl⟩) hK hN hP hD hS hA [0, 1, 2, 3, 4, 5, 6, 7, 8, 9, 10, 11] [12, 13, 14, 15, 16, 17, 18] [7, 8, 9, 10, 11, 12, 13, 14, 15, 16, 17, 18, 0, 1, 2, 3, 4, 5, 6] ⟨rfl, rfl, by decide, rfl, by decide, by decide, rfl, rfl, by decide⟩ (va_recv hK hP (ci := 4) (q0 := 0) rfl rfl) rfl hl.1 rfl (Nat.le_of_ble_eq_true rfl) dL_law_156 ⟨Nat.le_of_ble_eq_true rfl, Nat.le_of_ble_eq_true rfl⟩ (fun _ H locs hP hD hS => ?_)
  refine lv_aload_n hx hb dL_law_159 rfl (lv_at hl 2 rfl) ?_
  refine lv_aload_n hx hb dL_law_160 rfl (lv_at hl 0 rfl) ?_
  refine lv_iload_n hx hb dL_law_161 rfl (lv_at hl 3 rfl) ?_
  refine lv_iconst (v := 1) hx hb dL_law_162 (by decide) ?_
  refine lv_iadd hx hb dL_law_163 ?_
  obtain ⟨hg4, hm⟩ := kg_s hm
  refine va_sld hx hb hX hbl hbA hS hg4 dL_law_164 ?_
  refine lv_aload_n hx hb dL_law_165 rfl (lv_at hl 0 rfl) ?_
  refine lv_iload_n hx hb dL_law_166 rfl (lv_at hl 3 rfl) ?_
  refine lv_iconst (v := 2) hx hb dL_law_167 (by decide) ?_
  refine lv_iadd hx hb dL_law_168 ?_
  obtain ⟨hg5, hm⟩ := kg_s hm
  refine va_sld hx hb hX hbl hbA hS hg5 dL_law_169 ?_
  obtain ⟨⟨r6, mr_6⟩, hm6, hm⟩ := kb_s hm
  dsimp only at hm
  refine k_vi (As := [.int (xs (x3 + 1).toNatClampNeg), .int (xs (x3 + 2).toNatClampNeg)]) (rest := [.int r3]) (w2 := (wL q u cA N nr_3 ss sc ns nc ps dg pn pj wh_3 st sn lf fw mr_6 zn zs tn ts yn ys en es ew cv)) ⟨hx, hb, hml, hown, hts⟩ (cM_flip l D u cA N H.size mr zn zs tn ts yn ys en es ew cv (xs (x3 + 1).toNatClampNeg) (xs (x3 + 2).toNatClampNeg) n r6 mr_6 hm6) (cwV 2 hts (gV wd_417 wd_418 wd_419 wd_41 wd_420) rfl rfl rfl (by decide +kernel) ⟨Nat.le_of_ble_eq_true rfl, Nat.le_of_ble_eq_true rfl⟩) hK hN hP hD hS hA [12, 13, 14, 15, 16, 17, 18] [0, 1, 2, 3, 4, 5, 6, 7, 8, 9, 10, 11] [0, 1, 2, 3, 4, 5, 6, 7, 8, 9, 10, 11, 12, 13, 14, 15, 16, 17, 18] ⟨rfl, rfl, by decide, rfl, by decide, by decide, rfl, rfl, by decide⟩ (va_recv hK hP (ci := 5) (q0 := 12) rfl rfl) rfl hl.1 rfl (Nat.le_of_ble_eq_true rfl) dL_law_170 ⟨Nat.le_of_ble_eq_true rfl, Nat.le_of_ble_eq_true rfl⟩ (fun _ H locs hP hD hS => ?_)
  refine lv_icmp_eq (tgt := 659) hx hb dL_law_173 (by decide) (fun c7 => ?_) (fun c7 => ?_)
  · rw [if_pos c7] at hm
    refine lv_iinc (v := (x3 + 4)) (lv' := [(3, .int (x3 + 4)), (0, .ref b), (1, .ref (q 0)), (2, .ref (u 0))]) hx hb dL_law_659 hl (k := 3) rfl rfl (by decide) rfl (fun ls hl => ?_)
    refine lv_goto (tgt := 28) hx hb dL_law_662 (by decide) ?_
    exact ih (x3 + 4) nr_3 ss sc ns nc ps dg pn pj wh_3 st sn lf fw mr_6 zn zs tn ts yn ys en es ew cv H locs ls hm hP hD hS (lv_sub hl [1, 2, 3, 0] rfl)
  · rw [if_neg c7] at hm
    exact absurd (Option.some.inj hm) (by decide)
set_option maxHeartbeats 4000000 in
set_option maxRecDepth 100000 in
theorem law_arm2 {p : Program} {e : Env} {s : State} {m : MethodId} {below : List Frame} {meth : Method} {c : Code} (l : Launch) {b L : Nat} {xs : Nat → Int32} (C0 : lw_At p s m meth c b L xs) {D : va_G} {q u : Nat → Nat} {cA : ClassId} {N : Nat} (hK : va_K D vwCl (kTy cA) s) (hN : kN s) (n : Nat) (ih : ∀ (x3 : Int32) (nr : Nat → Int32) (ss : Nat → Int32) (sc : Int32) (ns : Nat → Int32) (nc : Int32) (ps : Nat → Int32) (dg : Nat → Int32) (pn : Int32) (pj : Int32) (wh : Int32) (st : Nat → Int32) (sn : Int32) (lf : Int32) (fw : Nat → Int32) (mr : Nat → Int32) (zn : Int32) (zs : Nat → Int32) (tn : Int32) (ts : Nat → Int32) (yn : Int32) (ys : Nat → Int32) (en : Int32) (es : Nat → Int32) (ew : Int32) (cv : Nat → Int32) (H : Heap) (locs : List Loc) (ls : Array Slot), mL_law N L xs n x3 nr ss sc ns nc ps dg pn pj wh st sn lf fw mr zn zs tn ts yn ys en es ew cv = some 1 → va_P D vwCl (wL q u cA N nr ss sc ns nc ps dg pn pj wh st sn lf fw mr zn zs tn ts yn ys en es ew cv) H → va_D (fun q : Nat => s.heap.size ≤ q) (wL q u cA N nr ss sc ns nc ps dg pn pj wh st sn lf fw mr zn zs tn ts yn ys en es ew cv) → va_S (fun q : Nat => s.heap.size ≤ q) s.heap H locs → lv_has ls 4 [(0, .ref b), (1, .ref (q 0)), (2, .ref (u 0)), (3, .int x3)] → W p l e room_1 s m #[Value.ref b] below meth c H locs 19 2152 (lw_Z below #[Value.ref b] s) (F0 m 28 ls [])) (x3 : Int32) (nr : Nat → Int32) (ss : Nat → Int32) (sc : Int32) (ns : Nat → Int32) (nc : Int32) (ps : Nat → Int32) (dg : Nat → Int32) (pn : Int32) (pj : Int32) (wh : Int32) (st : Nat → Int32) (sn : Int32) (lf : Int32) (fw : Nat → Int32) (mr : Nat → Int32) (zn : Int32) (zs : Nat → Int32) (tn : Int32) (ts : Nat → Int32) (yn : Int32) (ys : Nat → Int32) (en : Int32) (es : Nat → Int32) (ew : Int32) (cv : Nat → Int32) (H : Heap) (locs : List Loc) (ls : Array Slot) (hm : mL_arm2 N L xs (mL_law N L xs n) n x3 nr ss sc ns nc ps dg pn pj wh st sn lf fw mr zn zs tn ts yn ys en es ew cv = some 1) (hP : va_P D vwCl (wL q u cA N nr ss sc ns nc ps dg pn pj wh st sn lf fw mr zn zs tn ts yn ys en es ew cv) H) (hD : va_D (fun q : Nat => s.heap.size ≤ q) (wL q u cA N nr ss sc ns nc ps dg pn pj wh st sn lf fw mr zn zs tn ts yn ys en es ew cv)) (hS : va_S (fun q : Nat => s.heap.size ≤ q) s.heap H locs) (hl : lv_has ls 4 [(0, .ref b), (1, .ref (q 0)), (2, .ref (u 0)), (3, .int x3)]) : W p l e room_1 s m #[Value.ref b] below meth c H locs 19 2152 (lw_Z below #[Value.ref b] s) (F0 m 178 ls []) := by
  obtain ⟨hx, hb, hr, hml, hown, hts, hX, hbl, hlocks, hgv⟩ := C0
  have hown : s.vm.findClass RXL = some m.cls := hown
  have hts : ∀ w ∈ W0, w.before _ s = true := fun w h => hts w (W0_in w h)
  have hA : ∀ q : Nat, s.heap.size ≤ q → (fun q : Nat => s.heap.size ≤ q) q := fun _ h => h
  have hbA : ¬ (fun q : Nat => s.heap.size ≤ q) b := Nat.not_le.mpr hbl
  unfold mL_arm2 at hm
  refine lv_aload_n hx hb dL_law_178 rfl (lv_at hl 1 rfl) ?_
  refine lv_aload_n hx hb dL_law_179 rfl (lv_at hl 0 rfl) ?_
  refine lv_iload_n hx hb dL_law_180 rfl (lv_at hl 3 rfl) ?_
  refine lv_iconst (v := 1) hx hb dL_law_181 (by decide) ?_
  refine lv_iadd hx hb dL_law_182 ?_
  obtain ⟨hg1, hm⟩ := kg_s hm
  refine va_sld hx hb hX hbl hbA hS hg1 dL_law_183 ?_
  refine lv_aload_n hx hb dL_law_184 rfl (lv_at hl 0 rfl) ?_
  refine lv_iload_n hx hb dL_law_185 rfl (lv_at hl 3 rfl) ?_
  refine lv_iconst (v := 2) hx hb dL_law_186 (by decide) ?_
  refine lv_iadd hx hb dL_law_187 ?_
  obtain ⟨hg2, hm⟩ := kg_s hm
  refine va_sld hx hb hX hbl hbA hS hg2 dL_law_188 ?_
  obtain ⟨r3, hm3, hm⟩ := kb_s hm
  refine k_vi (As := [.int (xs (x3 + 1).toNatClampNeg), .int (xs (x3 + 2).toNatClampNeg)]) (rest := []) (w2 := (wL q u cA N nr ss sc ns nc ps dg pn pj wh st sn lf fw mr zn zs tn ts yn ys en es ew cv)) ⟨hx, hb, hml, hown, hts⟩ (cF_neighbours l D q cA N H.size nr ss sc ns nc ps dg pn pj wh st sn lf fw (xs (x3 + 1).toNatClampNeg) (xs (x3 + 2).toNatClampNeg) n r3 hm3) (cwV 2 hts (gV wd_154 wd_155 wd_156 wd_36 wd_157) rfl rfl rfl (by decide +kernel) ⟨Nat.le_of_ble_eq_true rfl, Nat.le_of_ble_eq_true rfl⟩) hK hN hP hD hS hA [0, 1, 2, 3, 4, 5, 6, 7, 8, 9, 10, 11] [12, 13, 14, 15, 16, 17, 18] [7, 8, 9, 10, 11, 12, 13, 14, 15, 16, 17, 18, 0, 1, 2, 3, 4, 5, 6] ⟨rfl, rfl, by decide, rfl, by decide, by decide, rfl, rfl, by decide⟩ (va_recv hK hP (ci := 4) (q0 := 0) rfl rfl) rfl hl.1 rfl (Nat.le_of_ble_eq_true rfl) dL_law_189 ⟨Nat.le_of_ble_eq_true rfl, Nat.le_of_ble_eq_true rfl⟩ (fun _ H locs hP hD hS => ?_)
  refine lv_aload_n hx hb dL_law_192 rfl (lv_at hl 2 rfl) ?_
  refine lv_aload_n hx hb dL_law_193 rfl (lv_at hl 0 rfl) ?_
  refine lv_iload_n hx hb dL_law_194 rfl (lv_at hl 3 rfl) ?_
  refine lv_iconst (v := 1) hx hb dL_law_195 (by decide) ?_
  refine lv_iadd hx hb dL_law_196 ?_
  obtain ⟨hg4, hm⟩ := kg_s hm
  refine va_sld hx hb hX hbl hbA hS hg4 dL_law_197 ?_
  refine lv_aload_n hx hb dL_law_198 rfl (lv_at hl 0 rfl) ?_
  refine lv_iload_n hx hb dL_law_199 rfl (lv_at hl 3 rfl) ?_
  refine lv_iconst (v := 2) hx hb dL_law_200 (by decide) ?_
  refine lv_iadd hx hb dL_law_201 ?_
  obtain ⟨hg5, hm⟩ := kg_s hm
  refine va_sld hx hb hX hbl hbA hS hg5 dL_law_202 ?_
  obtain ⟨r6, hm6, hm⟩ := kb_s hm
  refine k_vi (As := [.int (xs (x3 + 1).toNatClampNeg), .int (xs (x3 + 2).toNatClampNeg)]) (rest := [.int r3]) (w2 := (wL q u cA N nr ss sc ns nc ps dg pn pj wh st sn lf fw mr zn zs tn ts yn ys en es ew cv)) ⟨hx, hb, hml, hown, hts⟩ (cM_neighbours l D u cA N H.size mr zn zs tn ts yn ys en es ew cv (xs (x3 + 1).toNatClampNeg) (xs (x3 + 2).toNatClampNeg) n r6 hm6) (cwV 2 hts (gV wd_424 wd_425 wd_426 wd_41 wd_427) rfl rfl rfl (by decide +kernel) ⟨Nat.le_of_ble_eq_true rfl, Nat.le_of_ble_eq_true rfl⟩) hK hN hP hD hS hA [12, 13, 14, 15, 16, 17, 18] [0, 1, 2, 3, 4, 5, 6, 7, 8, 9, 10, 11] [0, 1, 2, 3, 4, 5, 6, 7, 8, 9, 10, 11, 12, 13, 14, 15, 16, 17, 18] ⟨rfl, rfl, by decide, rfl, by decide, by decide, rfl, rfl, by decide⟩ (va_recv hK hP (ci := 5) (q0 := 12) rfl rfl) rfl hl.1 rfl (Nat.le_of_ble_eq_true rfl) dL_law_203 ⟨Nat.le_of_ble_eq_true rfl, Nat.le_of_ble_eq_true rfl⟩ (fun _ H locs hP hD hS => ?_)
  refine lv_icmp_eq (tgt := 659) hx hb dL_law_206 (by decide) (fun c7 => ?_) (fun c7 => ?_)
  · rw [if_pos c7] at hm
    refine lv_iinc (v := (x3 + 4)) (lv' := [(3, .int (x3 + 4)), (0, .ref b), (1, .ref (q 0)), (2, .ref (u 0))]) hx hb dL_law_659 hl (k := 3) rfl rfl (by decide) rfl (fun ls hl => ?_)
    refine lv_goto (tgt := 28) hx hb dL_law_662 (by decide) ?_
    exact ih (x3 + 4) nr ss sc ns nc ps dg pn pj wh st sn lf fw mr zn zs tn ts yn ys en es ew cv H locs ls hm hP hD hS (lv_sub hl [1, 2, 3, 0] rfl)
  · rw [if_neg c7] at hm
    exact absurd (Option.some.inj hm) (by decide)
set_option maxHeartbeats 4000000 in
set_option maxRecDepth 100000 in
theorem law_arm3 {p : Program} {e : Env} {s : State} {m : MethodId} {below : List Frame} {meth : Method} {c : Code} (l : Launch) {b L : Nat} {xs : Nat → Int32} (C0 : lw_At p s m meth c b L xs) {D : va_G} {q u : Nat → Nat} {cA : ClassId} {N : Nat} (hK : va_K D vwCl (kTy cA) s) (hN : kN s) (n : Nat) (ih : ∀ (x3 : Int32) (nr : Nat → Int32) (ss : Nat → Int32) (sc : Int32) (ns : Nat → Int32) (nc : Int32) (ps : Nat → Int32) (dg : Nat → Int32) (pn : Int32) (pj : Int32) (wh : Int32) (st : Nat → Int32) (sn : Int32) (lf : Int32) (fw : Nat → Int32) (mr : Nat → Int32) (zn : Int32) (zs : Nat → Int32) (tn : Int32) (ts : Nat → Int32) (yn : Int32) (ys : Nat → Int32) (en : Int32) (es : Nat → Int32) (ew : Int32) (cv : Nat → Int32) (H : Heap) (locs : List Loc) (ls : Array Slot), mL_law N L xs n x3 nr ss sc ns nc ps dg pn pj wh st sn lf fw mr zn zs tn ts yn ys en es ew cv = some 1 → va_P D vwCl (wL q u cA N nr ss sc ns nc ps dg pn pj wh st sn lf fw mr zn zs tn ts yn ys en es ew cv) H → va_D (fun q : Nat => s.heap.size ≤ q) (wL q u cA N nr ss sc ns nc ps dg pn pj wh st sn lf fw mr zn zs tn ts yn ys en es ew cv) → va_S (fun q : Nat => s.heap.size ≤ q) s.heap H locs → lv_has ls 4 [(0, .ref b), (1, .ref (q 0)), (2, .ref (u 0)), (3, .int x3)] → W p l e room_1 s m #[Value.ref b] below meth c H locs 19 2152 (lw_Z below #[Value.ref b] s) (F0 m 28 ls [])) (x3 : Int32) (nr : Nat → Int32) (ss : Nat → Int32) (sc : Int32) (ns : Nat → Int32) (nc : Int32) (ps : Nat → Int32) (dg : Nat → Int32) (pn : Int32) (pj : Int32) (wh : Int32) (st : Nat → Int32) (sn : Int32) (lf : Int32) (fw : Nat → Int32) (mr : Nat → Int32) (zn : Int32) (zs : Nat → Int32) (tn : Int32) (ts : Nat → Int32) (yn : Int32) (ys : Nat → Int32) (en : Int32) (es : Nat → Int32) (ew : Int32) (cv : Nat → Int32) (H : Heap) (locs : List Loc) (ls : Array Slot) (hm : mL_arm3 N L xs (mL_law N L xs n) n x3 nr ss sc ns nc ps dg pn pj wh st sn lf fw mr zn zs tn ts yn ys en es ew cv = some 1) (hP : va_P D vwCl (wL q u cA N nr ss sc ns nc ps dg pn pj wh st sn lf fw mr zn zs tn ts yn ys en es ew cv) H) (hD : va_D (fun q : Nat => s.heap.size ≤ q) (wL q u cA N nr ss sc ns nc ps dg pn pj wh st sn lf fw mr zn zs tn ts yn ys en es ew cv)) (hS : va_S (fun q : Nat => s.heap.size ≤ q) s.heap H locs) (hl : lv_has ls 4 [(0, .ref b), (1, .ref (q 0)), (2, .ref (u 0)), (3, .int x3)]) : W p l e room_1 s m #[Value.ref b] below meth c H locs 19 2152 (lw_Z below #[Value.ref b] s) (F0 m 211 ls []) := by
  obtain ⟨hx, hb, hr, hml, hown, hts, hX, hbl, hlocks, hgv⟩ := C0
  have hown : s.vm.findClass RXL = some m.cls := hown
  have hts : ∀ w ∈ W0, w.before _ s = true := fun w h => hts w (W0_in w h)
  have hA : ∀ q : Nat, s.heap.size ≤ q → (fun q : Nat => s.heap.size ≤ q) q := fun _ h => h
  have hbA : ¬ (fun q : Nat => s.heap.size ≤ q) b := Nat.not_le.mpr hbl
  unfold mL_arm3 at hm
  refine lv_aload_n hx hb dL_law_211 rfl (lv_at hl 1 rfl) ?_
  refine lv_aload_n hx hb dL_law_212 rfl (lv_at hl 0 rfl) ?_
  refine lv_iload_n hx hb dL_law_213 rfl (lv_at hl 3 rfl) ?_
  refine lv_iconst (v := 1) hx hb dL_law_214 (by decide) ?_
  refine lv_iadd hx hb dL_law_215 ?_
  obtain ⟨hg1, hm⟩ := kg_s hm
  refine va_sld hx hb hX hbl hbA hS hg1 dL_law_216 ?_
  obtain ⟨r2, hm2, hm⟩ := kb_s hm
  refine k_vi (As := [.int (xs (x3 + 1).toNatClampNeg)]) (rest := []) (w2 := (wL q u cA N nr ss sc ns nc ps dg pn pj wh st sn lf fw mr zn zs tn ts yn ys en es ew cv)) ⟨hx, hb, hml, hown, hts⟩ (cF_component l D q cA N H.size nr ss sc ns nc ps dg pn pj wh st sn lf fw (xs (x3 + 1).toNatClampNeg) n r2 hm2) (cwV 1 hts (gV wd_158 wd_159 wd_160 wd_36 wd_161) rfl rfl rfl (by decide +kernel) ⟨Nat.le_of_ble_eq_true rfl, Nat.le_of_ble_eq_true rfl⟩) hK hN hP hD hS hA [0, 1, 2, 3, 4, 5, 6, 7, 8, 9, 10, 11] [12, 13, 14, 15, 16, 17, 18] [7, 8, 9, 10, 11, 12, 13, 14, 15, 16, 17, 18, 0, 1, 2, 3, 4, 5, 6] ⟨rfl, rfl, by decide, rfl, by decide, by decide, rfl, rfl, by decide⟩ (va_recv hK hP (ci := 4) (q0 := 0) rfl rfl) rfl hl.1 rfl (Nat.le_of_ble_eq_true rfl) dL_law_217 ⟨Nat.le_of_ble_eq_true rfl, Nat.le_of_ble_eq_true rfl⟩ (fun _ H locs hP hD hS => ?_)
  refine lv_aload_n hx hb dL_law_220 rfl (lv_at hl 2 rfl) ?_
  refine lv_aload_n hx hb dL_law_221 rfl (lv_at hl 0 rfl) ?_
  refine lv_iload_n hx hb dL_law_222 rfl (lv_at hl 3 rfl) ?_
  refine lv_iconst (v := 1) hx hb dL_law_223 (by decide) ?_
  refine lv_iadd hx hb dL_law_224 ?_
  obtain ⟨hg3, hm⟩ := kg_s hm
  refine va_sld hx hb hX hbl hbA hS hg3 dL_law_225 ?_
  obtain ⟨r4, hm4, hm⟩ := kb_s hm
  refine k_vi (As := [.int (xs (x3 + 1).toNatClampNeg)]) (rest := [.int r2]) (w2 := (wL q u cA N nr ss sc ns nc ps dg pn pj wh st sn lf fw mr zn zs tn ts yn ys en es ew cv)) ⟨hx, hb, hml, hown, hts⟩ (cM_component l D u cA N H.size mr zn zs tn ts yn ys en es ew cv (xs (x3 + 1).toNatClampNeg) n r4 hm4) (cwV 1 hts (gV wd_428 wd_429 wd_430 wd_41 wd_431) rfl rfl rfl (by decide +kernel) ⟨Nat.le_of_ble_eq_true rfl, Nat.le_of_ble_eq_true rfl⟩) hK hN hP hD hS hA [12, 13, 14, 15, 16, 17, 18] [0, 1, 2, 3, 4, 5, 6, 7, 8, 9, 10, 11] [0, 1, 2, 3, 4, 5, 6, 7, 8, 9, 10, 11, 12, 13, 14, 15, 16, 17, 18] ⟨rfl, rfl, by decide, rfl, by decide, by decide, rfl, rfl, by decide⟩ (va_recv hK hP (ci := 5) (q0 := 12) rfl rfl) rfl hl.1 rfl (Nat.le_of_ble_eq_true rfl) dL_law_226 ⟨Nat.le_of_ble_eq_true rfl, Nat.le_of_ble_eq_true rfl⟩ (fun _ H locs hP hD hS => ?_)
  refine lv_icmp_eq (tgt := 659) hx hb dL_law_229 (by decide) (fun c5 => ?_) (fun c5 => ?_)
  · rw [if_pos c5] at hm
    refine lv_iinc (v := (x3 + 4)) (lv' := [(3, .int (x3 + 4)), (0, .ref b), (1, .ref (q 0)), (2, .ref (u 0))]) hx hb dL_law_659 hl (k := 3) rfl rfl (by decide) rfl (fun ls hl => ?_)
    refine lv_goto (tgt := 28) hx hb dL_law_662 (by decide) ?_
    exact ih (x3 + 4) nr ss sc ns nc ps dg pn pj wh st sn lf fw mr zn zs tn ts yn ys en es ew cv H locs ls hm hP hD hS (lv_sub hl [1, 2, 3, 0] rfl)
  · rw [if_neg c5] at hm
    exact absurd (Option.some.inj hm) (by decide)
set_option maxHeartbeats 4000000 in
set_option maxRecDepth 100000 in
theorem law_arm4 {p : Program} {e : Env} {s : State} {m : MethodId} {below : List Frame} {meth : Method} {c : Code} (l : Launch) {b L : Nat} {xs : Nat → Int32} (C0 : lw_At p s m meth c b L xs) {D : va_G} {q u : Nat → Nat} {cA : ClassId} {N : Nat} (hK : va_K D vwCl (kTy cA) s) (hN : kN s) (n : Nat) (ih : ∀ (x3 : Int32) (nr : Nat → Int32) (ss : Nat → Int32) (sc : Int32) (ns : Nat → Int32) (nc : Int32) (ps : Nat → Int32) (dg : Nat → Int32) (pn : Int32) (pj : Int32) (wh : Int32) (st : Nat → Int32) (sn : Int32) (lf : Int32) (fw : Nat → Int32) (mr : Nat → Int32) (zn : Int32) (zs : Nat → Int32) (tn : Int32) (ts : Nat → Int32) (yn : Int32) (ys : Nat → Int32) (en : Int32) (es : Nat → Int32) (ew : Int32) (cv : Nat → Int32) (H : Heap) (locs : List Loc) (ls : Array Slot), mL_law N L xs n x3 nr ss sc ns nc ps dg pn pj wh st sn lf fw mr zn zs tn ts yn ys en es ew cv = some 1 → va_P D vwCl (wL q u cA N nr ss sc ns nc ps dg pn pj wh st sn lf fw mr zn zs tn ts yn ys en es ew cv) H → va_D (fun q : Nat => s.heap.size ≤ q) (wL q u cA N nr ss sc ns nc ps dg pn pj wh st sn lf fw mr zn zs tn ts yn ys en es ew cv) → va_S (fun q : Nat => s.heap.size ≤ q) s.heap H locs → lv_has ls 4 [(0, .ref b), (1, .ref (q 0)), (2, .ref (u 0)), (3, .int x3)] → W p l e room_1 s m #[Value.ref b] below meth c H locs 19 2152 (lw_Z below #[Value.ref b] s) (F0 m 28 ls [])) (x3 : Int32) (nr : Nat → Int32) (ss : Nat → Int32) (sc : Int32) (ns : Nat → Int32) (nc : Int32) (ps : Nat → Int32) (dg : Nat → Int32) (pn : Int32) (pj : Int32) (wh : Int32) (st : Nat → Int32) (sn : Int32) (lf : Int32) (fw : Nat → Int32) (mr : Nat → Int32) (zn : Int32) (zs : Nat → Int32) (tn : Int32) (ts : Nat → Int32) (yn : Int32) (ys : Nat → Int32) (en : Int32) (es : Nat → Int32) (ew : Int32) (cv : Nat → Int32) (H : Heap) (locs : List Loc) (ls : Array Slot) (hm : mL_arm4 N L xs (mL_law N L xs n) n x3 nr ss sc ns nc ps dg pn pj wh st sn lf fw mr zn zs tn ts yn ys en es ew cv = some 1) (hP : va_P D vwCl (wL q u cA N nr ss sc ns nc ps dg pn pj wh st sn lf fw mr zn zs tn ts yn ys en es ew cv) H) (hD : va_D (fun q : Nat => s.heap.size ≤ q) (wL q u cA N nr ss sc ns nc ps dg pn pj wh st sn lf fw mr zn zs tn ts yn ys en es ew cv)) (hS : va_S (fun q : Nat => s.heap.size ≤ q) s.heap H locs) (hl : lv_has ls 4 [(0, .ref b), (1, .ref (q 0)), (2, .ref (u 0)), (3, .int x3)]) : W p l e room_1 s m #[Value.ref b] below meth c H locs 19 2152 (lw_Z below #[Value.ref b] s) (F0 m 234 ls []) := by
  obtain ⟨hx, hb, hr, hml, hown, hts, hX, hbl, hlocks, hgv⟩ := C0
  have hown : s.vm.findClass RXL = some m.cls := hown
  have hts : ∀ w ∈ W0, w.before _ s = true := fun w h => hts w (W0_in w h)
  have hA : ∀ q : Nat, s.heap.size ≤ q → (fun q : Nat => s.heap.size ≤ q) q := fun _ h => h
  have hbA : ¬ (fun q : Nat => s.heap.size ≤ q) b := Nat.not_le.mpr hbl
  unfold mL_arm4 at hm
  refine lv_aload_n hx hb dL_law_234 rfl (lv_at hl 1 rfl) ?_
  refine lv_aload_n hx hb dL_law_235 rfl (lv_at hl 0 rfl) ?_
  refine lv_iload_n hx hb dL_law_236 rfl (lv_at hl 3 rfl) ?_
  refine lv_iconst (v := 1) hx hb dL_law_237 (by decide) ?_
  refine lv_iadd hx hb dL_law_238 ?_
  obtain ⟨hg1, hm⟩ := kg_s hm
  refine va_sld hx hb hX hbl hbA hS hg1 dL_law_239 ?_
  obtain ⟨⟨r2, ss_2, sc_2, ns_2, nc_2, wh_2⟩, hm2, hm⟩ := kb_s hm
  dsimp only at hm
  refine k_vi (As := [.int (xs (x3 + 1).toNatClampNeg)]) (rest := []) (w2 := (wL q u cA N nr ss_2 sc_2 ns_2 nc_2 ps dg pn pj wh_2 st sn lf fw mr zn zs tn ts yn ys en es ew cv)) ⟨hx, hb, hml, hown, hts⟩ (cF_splits l D q cA N H.size nr ss sc ns nc ps dg pn pj wh st sn lf fw (xs (x3 + 1).toNatClampNeg) n r2 ss_2 sc_2 ns_2 nc_2 wh_2 hm2) (cwV 1 hts (gV wd_176 wd_177 wd_178 wd_36 wd_179) rfl rfl rfl (by decide +kernel) ⟨Nat.le_of_ble_eq_true rfl, Nat.le_of_ble_eq_true rfl⟩) hK hN hP hD hS hA [0, 1, 2, 3, 4, 5, 6, 7, 8, 9, 10, 11] [12, 13, 14, 15, 16, 17, 18] [7, 8, 9, 10, 11, 12, 13, 14, 15, 16, 17, 18, 0, 1, 2, 3, 4, 5, 6] ⟨rfl, rfl, by decide, rfl, by decide, by decide, rfl, rfl, by decide⟩ (va_recv hK hP (ci := 4) (q0 := 0) rfl rfl) rfl hl.1 rfl (Nat.le_of_ble_eq_true rfl) dL_law_240 ⟨Nat.le_of_ble_eq_true rfl, Nat.le_of_ble_eq_true rfl⟩ (fun _ H locs hP hD hS => ?_)
  refine lv_aload_n hx hb dL_law_243 rfl (lv_at hl 2 rfl) ?_
  refine lv_aload_n hx hb dL_law_244 rfl (lv_at hl 0 rfl) ?_
  refine lv_iload_n hx hb dL_law_245 rfl (lv_at hl 3 rfl) ?_
  refine lv_iconst (v := 1) hx hb dL_law_246 (by decide) ?_
  refine lv_iadd hx hb dL_law_247 ?_
  obtain ⟨hg3, hm⟩ := kg_s hm
  refine va_sld hx hb hX hbl hbA hS hg3 dL_law_248 ?_
  obtain ⟨⟨r4, zn_4, zs_4, tn_4, ts_4⟩, hm4, hm⟩ := kb_s hm
  dsimp only at hm
  refine k_vi (As := [.int (xs (x3 + 1).toNatClampNeg)]) (rest := [.int r2]) (w2 := (wL q u cA N nr ss_2 sc_2 ns_2 nc_2 ps dg pn pj wh_2 st sn lf fw mr zn_4 zs_4 tn_4 ts_4 yn ys en es ew cv)) ⟨hx, hb, hml, hown, hts⟩ (cM_splits l D u cA N H.size mr zn zs tn ts yn ys en es ew cv (xs (x3 + 1).toNatClampNeg) n r4 zn_4 zs_4 tn_4 ts_4 hm4) (cwV 1 hts (gV wd_435 wd_436 wd_437 wd_41 wd_438) rfl rfl rfl (by decide +kernel) ⟨Nat.le_of_ble_eq_true rfl, Nat.le_of_ble_eq_true rfl⟩) hK hN hP hD hS hA [12, 13, 14, 15, 16, 17, 18] [0, 1, 2, 3, 4, 5, 6, 7, 8, 9, 10, 11] [0, 1, 2, 3, 4, 5, 6, 7, 8, 9, 10, 11, 12, 13, 14, 15, 16, 17, 18] ⟨rfl, rfl, by decide, rfl, by decide, by decide, rfl, rfl, by decide⟩ (va_recv hK hP (ci := 5) (q0 := 12) rfl rfl) rfl hl.1 rfl (Nat.le_of_ble_eq_true rfl) dL_law_249 ⟨Nat.le_of_ble_eq_true rfl, Nat.le_of_ble_eq_true rfl⟩ (fun _ H locs hP hD hS => ?_)
  refine lv_icmp_eq (tgt := 659) hx hb dL_law_252 (by decide) (fun c5 => ?_) (fun c5 => ?_)
  · rw [if_pos c5] at hm
    refine lv_iinc (v := (x3 + 4)) (lv' := [(3, .int (x3 + 4)), (0, .ref b), (1, .ref (q 0)), (2, .ref (u 0))]) hx hb dL_law_659 hl (k := 3) rfl rfl (by decide) rfl (fun ls hl => ?_)
    refine lv_goto (tgt := 28) hx hb dL_law_662 (by decide) ?_
    exact ih (x3 + 4) nr ss_2 sc_2 ns_2 nc_2 ps dg pn pj wh_2 st sn lf fw mr zn_4 zs_4 tn_4 ts_4 yn ys en es ew cv H locs ls hm hP hD hS (lv_sub hl [1, 2, 3, 0] rfl)
  · rw [if_neg c5] at hm
    exact absurd (Option.some.inj hm) (by decide)
set_option maxHeartbeats 4000000 in
set_option maxRecDepth 100000 in
theorem law_arm5 {p : Program} {e : Env} {s : State} {m : MethodId} {below : List Frame} {meth : Method} {c : Code} (l : Launch) {b L : Nat} {xs : Nat → Int32} (C0 : lw_At p s m meth c b L xs) {D : va_G} {q u : Nat → Nat} {cA : ClassId} {N : Nat} (hK : va_K D vwCl (kTy cA) s) (hN : kN s) (n : Nat) (ih : ∀ (x3 : Int32) (nr : Nat → Int32) (ss : Nat → Int32) (sc : Int32) (ns : Nat → Int32) (nc : Int32) (ps : Nat → Int32) (dg : Nat → Int32) (pn : Int32) (pj : Int32) (wh : Int32) (st : Nat → Int32) (sn : Int32) (lf : Int32) (fw : Nat → Int32) (mr : Nat → Int32) (zn : Int32) (zs : Nat → Int32) (tn : Int32) (ts : Nat → Int32) (yn : Int32) (ys : Nat → Int32) (en : Int32) (es : Nat → Int32) (ew : Int32) (cv : Nat → Int32) (H : Heap) (locs : List Loc) (ls : Array Slot), mL_law N L xs n x3 nr ss sc ns nc ps dg pn pj wh st sn lf fw mr zn zs tn ts yn ys en es ew cv = some 1 → va_P D vwCl (wL q u cA N nr ss sc ns nc ps dg pn pj wh st sn lf fw mr zn zs tn ts yn ys en es ew cv) H → va_D (fun q : Nat => s.heap.size ≤ q) (wL q u cA N nr ss sc ns nc ps dg pn pj wh st sn lf fw mr zn zs tn ts yn ys en es ew cv) → va_S (fun q : Nat => s.heap.size ≤ q) s.heap H locs → lv_has ls 4 [(0, .ref b), (1, .ref (q 0)), (2, .ref (u 0)), (3, .int x3)] → W p l e room_1 s m #[Value.ref b] below meth c H locs 19 2152 (lw_Z below #[Value.ref b] s) (F0 m 28 ls [])) (x3 : Int32) (nr : Nat → Int32) (ss : Nat → Int32) (sc : Int32) (ns : Nat → Int32) (nc : Int32) (ps : Nat → Int32) (dg : Nat → Int32) (pn : Int32) (pj : Int32) (wh : Int32) (st : Nat → Int32) (sn : Int32) (lf : Int32) (fw : Nat → Int32) (mr : Nat → Int32) (zn : Int32) (zs : Nat → Int32) (tn : Int32) (ts : Nat → Int32) (yn : Int32) (ys : Nat → Int32) (en : Int32) (es : Nat → Int32) (ew : Int32) (cv : Nat → Int32) (H : Heap) (locs : List Loc) (ls : Array Slot) (hm : mL_arm5 N L xs (mL_law N L xs n) n x3 nr ss sc ns nc ps dg pn pj wh st sn lf fw mr zn zs tn ts yn ys en es ew cv = some 1) (hP : va_P D vwCl (wL q u cA N nr ss sc ns nc ps dg pn pj wh st sn lf fw mr zn zs tn ts yn ys en es ew cv) H) (hD : va_D (fun q : Nat => s.heap.size ≤ q) (wL q u cA N nr ss sc ns nc ps dg pn pj wh st sn lf fw mr zn zs tn ts yn ys en es ew cv)) (hS : va_S (fun q : Nat => s.heap.size ≤ q) s.heap H locs) (hl : lv_has ls 4 [(0, .ref b), (1, .ref (q 0)), (2, .ref (u 0)), (3, .int x3)]) : W p l e room_1 s m #[Value.ref b] below meth c H locs 19 2152 (lw_Z below #[Value.ref b] s) (F0 m 257 ls []) := by
  obtain ⟨hx, hb, hr, hml, hown, hts, hX, hbl, hlocks, hgv⟩ := C0
  have hown : s.vm.findClass RXL = some m.cls := hown
  have hts : ∀ w ∈ W0, w.before _ s = true := fun w h => hts w (W0_in w h)
  have hA : ∀ q : Nat, s.heap.size ≤ q → (fun q : Nat => s.heap.size ≤ q) q := fun _ h => h
  have hbA : ¬ (fun q : Nat => s.heap.size ≤ q) b := Nat.not_le.mpr hbl
  unfold mL_arm5 at hm
  refine lv_aload_n hx hb dL_law_257 rfl (lv_at hl 1 rfl) ?_
  refine lv_aload_n hx hb dL_law_258 rfl (lv_at hl 0 rfl) ?_
  refine lv_iload_n hx hb dL_law_259 rfl (lv_at hl 3 rfl) ?_
  refine lv_iconst (v := 1) hx hb dL_law_260 (by decide) ?_
  refine lv_iadd hx hb dL_law_261 ?_
  obtain ⟨hg1, hm⟩ := kg_s hm
  refine va_sld hx hb hX hbl hbA hS hg1 dL_law_262 ?_
  obtain ⟨⟨r2, ss_2, sc_2, ns_2, nc_2, wh_2⟩, hm2, hm⟩ := kb_s hm
  dsimp only at hm
  refine k_vi (As := [.int (xs (x3 + 1).toNatClampNeg)]) (rest := []) (w2 := (wL q u cA N nr ss_2 sc_2 ns_2 nc_2 ps dg pn pj wh_2 st sn lf fw mr zn zs tn ts yn ys en es ew cv)) ⟨hx, hb, hml, hown, hts⟩ (cF_strong l D q cA N H.size nr ss sc ns nc ps dg pn pj wh st sn lf fw (xs (x3 + 1).toNatClampNeg) n r2 ss_2 sc_2 ns_2 nc_2 wh_2 hm2) (cwV 1 hts (gV wd_213 wd_214 wd_215 wd_36 wd_216) rfl rfl rfl (by decide +kernel) ⟨Nat.le_of_ble_eq_true rfl, Nat.le_of_ble_eq_true rfl⟩) hK hN hP hD hS hA [0, 1, 2, 3, 4, 5, 6, 7, 8, 9, 10, 11] [12, 13, 14, 15, 16, 17, 18] [7, 8, 9, 10, 11, 12, 13, 14, 15, 16, 17, 18, 0, 1, 2, 3, 4, 5, 6] ⟨rfl, rfl, by decide, rfl, by decide, by decide, rfl, rfl, by decide⟩ (va_recv hK hP (ci := 4) (q0 := 0) rfl rfl) rfl hl.1 rfl (Nat.le_of_ble_eq_true rfl) dL_law_263 ⟨Nat.le_of_ble_eq_true rfl, Nat.le_of_ble_eq_true rfl⟩ (fun _ H locs hP hD hS => ?_)
  refine lv_aload_n hx hb dL_law_266 rfl (lv_at hl 2 rfl) ?_
  refine lv_aload_n hx hb dL_law_267 rfl (lv_at hl 0 rfl) ?_
  refine lv_iload_n hx hb dL_law_268 rfl (lv_at hl 3 rfl) ?_
  refine lv_iconst (v := 1) hx hb dL_law_269 (by decide) ?_
  refine lv_iadd hx hb dL_law_270 ?_
  obtain ⟨hg3, hm⟩ := kg_s hm
  refine va_sld hx hb hX hbl hbA hS hg3 dL_law_271 ?_
  obtain ⟨⟨r4, zn_4, zs_4, tn_4, ts_4⟩, hm4, hm⟩ := kb_s hm
  dsimp only at hm
  refine k_vi (As := [.int (xs (x3 + 1).toNatClampNeg)]) (rest := [.int r2]) (w2 := (wL q u cA N nr ss_2 sc_2 ns_2 nc_2 ps dg pn pj wh_2 st sn lf fw mr zn_4 zs_4 tn_4 ts_4 yn ys en es ew cv)) ⟨hx, hb, hml, hown, hts⟩ (cM_strong l D u cA N H.size mr zn zs tn ts yn ys en es ew cv (xs (x3 + 1).toNatClampNeg) n r4 zn_4 zs_4 tn_4 ts_4 hm4) (cwV 1 hts (gV wd_455 wd_456 wd_457 wd_41 wd_458) rfl rfl rfl (by decide +kernel) ⟨Nat.le_of_ble_eq_true rfl, Nat.le_of_ble_eq_true rfl⟩) hK hN hP hD hS hA [12, 13, 14, 15, 16, 17, 18] [0, 1, 2, 3, 4, 5, 6, 7, 8, 9, 10, 11] [0, 1, 2, 3, 4, 5, 6, 7, 8, 9, 10, 11, 12, 13, 14, 15, 16, 17, 18] ⟨rfl, rfl, by decide, rfl, by decide, by decide, rfl, rfl, by decide⟩ (va_recv hK hP (ci := 5) (q0 := 12) rfl rfl) rfl hl.1 rfl (Nat.le_of_ble_eq_true rfl) dL_law_272 ⟨Nat.le_of_ble_eq_true rfl, Nat.le_of_ble_eq_true rfl⟩ (fun _ H locs hP hD hS => ?_)
  refine lv_icmp_eq (tgt := 659) hx hb dL_law_275 (by decide) (fun c5 => ?_) (fun c5 => ?_)
  · rw [if_pos c5] at hm
    refine lv_iinc (v := (x3 + 4)) (lv' := [(3, .int (x3 + 4)), (0, .ref b), (1, .ref (q 0)), (2, .ref (u 0))]) hx hb dL_law_659 hl (k := 3) rfl rfl (by decide) rfl (fun ls hl => ?_)
    refine lv_goto (tgt := 28) hx hb dL_law_662 (by decide) ?_
    exact ih (x3 + 4) nr ss_2 sc_2 ns_2 nc_2 ps dg pn pj wh_2 st sn lf fw mr zn_4 zs_4 tn_4 ts_4 yn ys en es ew cv H locs ls hm hP hD hS (lv_sub hl [1, 2, 3, 0] rfl)
  · rw [if_neg c5] at hm
    exact absurd (Option.some.inj hm) (by decide)
set_option maxHeartbeats 4000000 in
set_option maxRecDepth 100000 in
theorem law_arm6 {p : Program} {e : Env} {s : State} {m : MethodId} {below : List Frame} {meth : Method} {c : Code} (l : Launch) {b L : Nat} {xs : Nat → Int32} (C0 : lw_At p s m meth c b L xs) {D : va_G} {q u : Nat → Nat} {cA : ClassId} {N : Nat} (hK : va_K D vwCl (kTy cA) s) (hN : kN s) (n : Nat) (ih : ∀ (x3 : Int32) (nr : Nat → Int32) (ss : Nat → Int32) (sc : Int32) (ns : Nat → Int32) (nc : Int32) (ps : Nat → Int32) (dg : Nat → Int32) (pn : Int32) (pj : Int32) (wh : Int32) (st : Nat → Int32) (sn : Int32) (lf : Int32) (fw : Nat → Int32) (mr : Nat → Int32) (zn : Int32) (zs : Nat → Int32) (tn : Int32) (ts : Nat → Int32) (yn : Int32) (ys : Nat → Int32) (en : Int32) (es : Nat → Int32) (ew : Int32) (cv : Nat → Int32) (H : Heap) (locs : List Loc) (ls : Array Slot), mL_law N L xs n x3 nr ss sc ns nc ps dg pn pj wh st sn lf fw mr zn zs tn ts yn ys en es ew cv = some 1 → va_P D vwCl (wL q u cA N nr ss sc ns nc ps dg pn pj wh st sn lf fw mr zn zs tn ts yn ys en es ew cv) H → va_D (fun q : Nat => s.heap.size ≤ q) (wL q u cA N nr ss sc ns nc ps dg pn pj wh st sn lf fw mr zn zs tn ts yn ys en es ew cv) → va_S (fun q : Nat => s.heap.size ≤ q) s.heap H locs → lv_has ls 4 [(0, .ref b), (1, .ref (q 0)), (2, .ref (u 0)), (3, .int x3)] → W p l e room_1 s m #[Value.ref b] below meth c H locs 19 2152 (lw_Z below #[Value.ref b] s) (F0 m 28 ls [])) (x3 : Int32) (nr : Nat → Int32) (ss : Nat → Int32) (sc : Int32) (ns : Nat → Int32) (nc : Int32) (ps : Nat → Int32) (dg : Nat → Int32) (pn : Int32) (pj : Int32) (wh : Int32) (st : Nat → Int32) (sn : Int32) (lf : Int32) (fw : Nat → Int32) (mr : Nat → Int32) (zn : Int32) (zs : Nat → Int32) (tn : Int32) (ts : Nat → Int32) (yn : Int32) (ys : Nat → Int32) (en : Int32) (es : Nat → Int32) (ew : Int32) (cv : Nat → Int32) (H : Heap) (locs : List Loc) (ls : Array Slot) (hm : mL_arm6 N L xs (mL_law N L xs n) n x3 nr ss sc ns nc ps dg pn pj wh st sn lf fw mr zn zs tn ts yn ys en es ew cv = some 1) (hP : va_P D vwCl (wL q u cA N nr ss sc ns nc ps dg pn pj wh st sn lf fw mr zn zs tn ts yn ys en es ew cv) H) (hD : va_D (fun q : Nat => s.heap.size ≤ q) (wL q u cA N nr ss sc ns nc ps dg pn pj wh st sn lf fw mr zn zs tn ts yn ys en es ew cv)) (hS : va_S (fun q : Nat => s.heap.size ≤ q) s.heap H locs) (hl : lv_has ls 4 [(0, .ref b), (1, .ref (q 0)), (2, .ref (u 0)), (3, .int x3)]) : W p l e room_1 s m #[Value.ref b] below meth c H locs 19 2152 (lw_Z below #[Value.ref b] s) (F0 m 280 ls []) := by
  obtain ⟨hx, hb, hr, hml, hown, hts, hX, hbl, hlocks, hgv⟩ := C0
  have hown : s.vm.findClass RXL = some m.cls := hown
  have hts : ∀ w ∈ W0, w.before _ s = true := fun w h => hts w (W0_in w h)
  have hA : ∀ q : Nat, s.heap.size ≤ q → (fun q : Nat => s.heap.size ≤ q) q := fun _ h => h
  have hbA : ¬ (fun q : Nat => s.heap.size ≤ q) b := Nat.not_le.mpr hbl
  unfold mL_arm6 at hm
  refine lv_aload_n hx hb dL_law_280 rfl (lv_at hl 1 rfl) ?_
  refine lv_aload_n hx hb dL_law_281 rfl (lv_at hl 0 rfl) ?_
  refine lv_iload_n hx hb dL_law_282 rfl (lv_at hl 3 rfl) ?_
  refine lv_iconst (v := 1) hx hb dL_law_283 (by decide) ?_
  refine lv_iadd hx hb dL_law_284 ?_
  obtain ⟨hg1, hm⟩ := kg_s hm
  refine va_sld hx hb hX hbl hbA hS hg1 dL_law_285 ?_
  refine lv_aload_n hx hb dL_law_286 rfl (lv_at hl 0 rfl) ?_
  refine lv_iload_n hx hb dL_law_287 rfl (lv_at hl 3 rfl) ?_
  refine lv_iconst (v := 2) hx hb dL_law_288 (by decide) ?_
  refine lv_iadd hx hb dL_law_289 ?_
  obtain ⟨hg2, hm⟩ := kg_s hm
  refine va_sld hx hb hX hbl hbA hS hg2 dL_law_290 ?_
  obtain ⟨⟨r3, ss_3, sc_3, ns_3, nc_3, wh_3⟩, hm3, hm⟩ := kb_s hm
  dsimp only at hm
  refine k_vi (As := [.int (xs (x3 + 1).toNatClampNeg), .int (xs (x3 + 2).toNatClampNeg)]) (rest := []) (w2 := (wL q u cA N nr ss_3 sc_3 ns_3 nc_3 ps dg pn pj wh_3 st sn lf fw mr zn zs tn ts yn ys en es ew cv)) ⟨hx, hb, hml, hown, hts⟩ (cF_set l D q cA N H.size nr ss sc ns nc ps dg pn pj wh st sn lf fw (xs (x3 + 1).toNatClampNeg) (xs (x3 + 2).toNatClampNeg) n r3 ss_3 sc_3 ns_3 nc_3 wh_3 hm3) (cwV 2 hts (gV wd_221 wd_222 wd_223 wd_36 wd_224) rfl rfl rfl (by decide +kernel) ⟨Nat.le_of_ble_eq_true rfl, Nat.le_of_ble_eq_true rfl⟩) hK hN hP hD hS hA [0, 1, 2, 3, 4, 5, 6, 7, 8, 9, 10, 11] [12, 13, 14, 15, 16, 17, 18] [7, 8, 9, 10, 11, 12, 13, 14, 15, 16, 17, 18, 0, 1, 2, 3, 4, 5, 6] ⟨rfl, rfl, by decide, rfl, by decide, by decide, rfl, rfl, by decide⟩ (va_recv hK hP (ci := 4) (q0 := 0) rfl rfl) rfl hl.1 rfl (Nat.le_of_ble_eq_true rfl) dL_law_291 ⟨Nat.le_of_ble_eq_true rfl, Nat.le_of_ble_eq_true rfl⟩ (fun _ H locs hP hD hS => ?_)
  refine lv_aload_n hx hb dL_law_294 rfl (lv_at hl 2 rfl) ?_
  refine lv_aload_n hx hb dL_law_295 rfl (lv_at hl 0 rfl) ?_
  refine lv_iload_n hx hb dL_law_296 rfl (lv_at hl 3 rfl) ?_
  refine lv_iconst (v := 1) hx hb dL_law_297 (by decide) ?_
  refine lv_iadd hx hb dL_law_298 ?_
  obtain ⟨hg4, hm⟩ := kg_s hm
  refine va_sld hx hb hX hbl hbA hS hg4 dL_law_299 ?_
  refine lv_aload_n hx hb dL_law_300 rfl (lv_at hl 0 rfl) ?_
  refine lv_iload_n hx hb dL_law_301 rfl (lv_at hl 3 rfl) ?_
  refine lv_iconst (v := 2) hx hb dL_law_302 (by decide) ?_
  refine lv_iadd hx hb dL_law_303 ?_
  obtain ⟨hg5, hm⟩ := kg_s hm
  refine va_sld hx hb hX hbl hbA hS hg5 dL_law_304 ?_
  obtain ⟨⟨r6, zn_6, zs_6, tn_6, ts_6⟩, hm6, hm⟩ := kb_s hm
  dsimp only at hm
  refine k_vi (As := [.int (xs (x3 + 1).toNatClampNeg), .int (xs (x3 + 2).toNatClampNeg)]) (rest := [.int r3]) (w2 := (wL q u cA N nr ss_3 sc_3 ns_3 nc_3 ps dg pn pj wh_3 st sn lf fw mr zn_6 zs_6 tn_6 ts_6 yn ys en es ew cv)) ⟨hx, hb, hml, hown, hts⟩ (cM_set l D u cA N H.size mr zn zs tn ts yn ys en es ew cv (xs (x3 + 1).toNatClampNeg) (xs (x3 + 2).toNatClampNeg) n r6 zn_6 zs_6 tn_6 ts_6 hm6) (cwV 2 hts (gV wd_459 wd_460 wd_461 wd_41 wd_462) rfl rfl rfl (by decide +kernel) ⟨Nat.le_of_ble_eq_true rfl, Nat.le_of_ble_eq_true rfl⟩) hK hN hP hD hS hA [12, 13, 14, 15, 16, 17, 18] [0, 1, 2, 3, 4, 5, 6, 7, 8, 9, 10, 11] [0, 1, 2, 3, 4, 5, 6, 7, 8, 9, 10, 11, 12, 13, 14, 15, 16, 17, 18] ⟨rfl, rfl, by decide, rfl, by decide, by decide, rfl, rfl, by decide⟩ (va_recv hK hP (ci := 5) (q0 := 12) rfl rfl) rfl hl.1 rfl (Nat.le_of_ble_eq_true rfl) dL_law_305 ⟨Nat.le_of_ble_eq_true rfl, Nat.le_of_ble_eq_true rfl⟩ (fun _ H locs hP hD hS => ?_)
  refine lv_icmp_eq (tgt := 659) hx hb dL_law_308 (by decide) (fun c7 => ?_) (fun c7 => ?_)
  · rw [if_pos c7] at hm
    refine lv_iinc (v := (x3 + 4)) (lv' := [(3, .int (x3 + 4)), (0, .ref b), (1, .ref (q 0)), (2, .ref (u 0))]) hx hb dL_law_659 hl (k := 3) rfl rfl (by decide) rfl (fun ls hl => ?_)
    refine lv_goto (tgt := 28) hx hb dL_law_662 (by decide) ?_
    exact ih (x3 + 4) nr ss_3 sc_3 ns_3 nc_3 ps dg pn pj wh_3 st sn lf fw mr zn_6 zs_6 tn_6 ts_6 yn ys en es ew cv H locs ls hm hP hD hS (lv_sub hl [1, 2, 3, 0] rfl)
  · rw [if_neg c7] at hm
    exact absurd (Option.some.inj hm) (by decide)
set_option maxHeartbeats 4000000 in
set_option maxRecDepth 100000 in
theorem law_arm7 {p : Program} {e : Env} {s : State} {m : MethodId} {below : List Frame} {meth : Method} {c : Code} (l : Launch) {b L : Nat} {xs : Nat → Int32} (C0 : lw_At p s m meth c b L xs) {D : va_G} {q u : Nat → Nat} {cA : ClassId} {N : Nat} (hK : va_K D vwCl (kTy cA) s) (hN : kN s) (n : Nat) (ih : ∀ (x3 : Int32) (nr : Nat → Int32) (ss : Nat → Int32) (sc : Int32) (ns : Nat → Int32) (nc : Int32) (ps : Nat → Int32) (dg : Nat → Int32) (pn : Int32) (pj : Int32) (wh : Int32) (st : Nat → Int32) (sn : Int32) (lf : Int32) (fw : Nat → Int32) (mr : Nat → Int32) (zn : Int32) (zs : Nat → Int32) (tn : Int32) (ts : Nat → Int32) (yn : Int32) (ys : Nat → Int32) (en : Int32) (es : Nat → Int32) (ew : Int32) (cv : Nat → Int32) (H : Heap) (locs : List Loc) (ls : Array Slot), mL_law N L xs n x3 nr ss sc ns nc ps dg pn pj wh st sn lf fw mr zn zs tn ts yn ys en es ew cv = some 1 → va_P D vwCl (wL q u cA N nr ss sc ns nc ps dg pn pj wh st sn lf fw mr zn zs tn ts yn ys en es ew cv) H → va_D (fun q : Nat => s.heap.size ≤ q) (wL q u cA N nr ss sc ns nc ps dg pn pj wh st sn lf fw mr zn zs tn ts yn ys en es ew cv) → va_S (fun q : Nat => s.heap.size ≤ q) s.heap H locs → lv_has ls 4 [(0, .ref b), (1, .ref (q 0)), (2, .ref (u 0)), (3, .int x3)] → W p l e room_1 s m #[Value.ref b] below meth c H locs 19 2152 (lw_Z below #[Value.ref b] s) (F0 m 28 ls [])) (x3 : Int32) (nr : Nat → Int32) (ss : Nat → Int32) (sc : Int32) (ns : Nat → Int32) (nc : Int32) (ps : Nat → Int32) (dg : Nat → Int32) (pn : Int32) (pj : Int32) (wh : Int32) (st : Nat → Int32) (sn : Int32) (lf : Int32) (fw : Nat → Int32) (mr : Nat → Int32) (zn : Int32) (zs : Nat → Int32) (tn : Int32) (ts : Nat → Int32) (yn : Int32) (ys : Nat → Int32) (en : Int32) (es : Nat → Int32) (ew : Int32) (cv : Nat → Int32) (H : Heap) (locs : List Loc) (ls : Array Slot) (hm : mL_arm7 N L xs (mL_law N L xs n) n x3 nr ss sc ns nc ps dg pn pj wh st sn lf fw mr zn zs tn ts yn ys en es ew cv = some 1) (hP : va_P D vwCl (wL q u cA N nr ss sc ns nc ps dg pn pj wh st sn lf fw mr zn zs tn ts yn ys en es ew cv) H) (hD : va_D (fun q : Nat => s.heap.size ≤ q) (wL q u cA N nr ss sc ns nc ps dg pn pj wh st sn lf fw mr zn zs tn ts yn ys en es ew cv)) (hS : va_S (fun q : Nat => s.heap.size ≤ q) s.heap H locs) (hl : lv_has ls 4 [(0, .ref b), (1, .ref (q 0)), (2, .ref (u 0)), (3, .int x3)]) : W p l e room_1 s m #[Value.ref b] below meth c H locs 19 2152 (lw_Z below #[Value.ref b] s) (F0 m 313 ls []) := by
  obtain ⟨hx, hb, hr, hml, hown, hts, hX, hbl, hlocks, hgv⟩ := C0
  have hown : s.vm.findClass RXL = some m.cls := hown
  have hts : ∀ w ∈ W0, w.before _ s = true := fun w h => hts w (W0_in w h)
  have hA : ∀ q : Nat, s.heap.size ≤ q → (fun q : Nat => s.heap.size ≤ q) q := fun _ h => h
  have hbA : ¬ (fun q : Nat => s.heap.size ≤ q) b := Nat.not_le.mpr hbl
  unfold mL_arm7 at hm
  refine lv_aload_n hx hb dL_law_313 rfl (lv_at hl 1 rfl) ?_
  refine lv_aload_n hx hb dL_law_314 rfl (lv_at hl 0 rfl) ?_
  refine lv_iload_n hx hb dL_law_315 rfl (lv_at hl 3 rfl) ?_
  refine lv_iconst (v := 1) hx hb dL_law_316 (by decide) ?_
  refine lv_iadd hx hb dL_law_317 ?_
  obtain ⟨hg1, hm⟩ := kg_s hm
  refine va_sld hx hb hX hbl hbA hS hg1 dL_law_318 ?_
  refine lv_aload_n hx hb dL_law_319 rfl (lv_at hl 0 rfl) ?_
  refine lv_iload_n hx hb dL_law_320 rfl (lv_at hl 3 rfl) ?_
  refine lv_iconst (v := 2) hx hb dL_law_321 (by decide) ?_
  refine lv_iadd hx hb dL_law_322 ?_
  obtain ⟨hg2, hm⟩ := kg_s hm
  refine va_sld hx hb hX hbl hbA hS hg2 dL_law_323 ?_
  obtain ⟨⟨r3, ss_3, sc_3, ns_3, nc_3, ps_3, dg_3, pn_3, pj_3, wh_3⟩, hm3, hm⟩ := kb_s hm
  dsimp only at hm
  refine k_vi (As := [.int (xs (x3 + 1).toNatClampNeg), .int (xs (x3 + 2).toNatClampNeg)]) (rest := []) (w2 := (wL q u cA N nr ss_3 sc_3 ns_3 nc_3 ps_3 dg_3 pn_3 pj_3 wh_3 st sn lf fw mr zn zs tn ts yn ys en es ew cv)) ⟨hx, hb, hml, hown, hts⟩ (cF_kind l D q cA N H.size nr ss sc ns nc ps dg pn pj wh st sn lf fw (xs (x3 + 1).toNatClampNeg) (xs (x3 + 2).toNatClampNeg) n r3 ss_3 sc_3 ns_3 nc_3 ps_3 dg_3 pn_3 pj_3 wh_3 hm3) (cwV 2 hts (gV wd_232 wd_233 wd_234 wd_36 wd_235) rfl rfl rfl (by decide +kernel) ⟨Nat.le_of_ble_eq_true rfl, Nat.le_of_ble_eq_true rfl⟩) hK hN hP hD hS hA [0, 1, 2, 3, 4, 5, 6, 7, 8, 9, 10, 11] [12, 13, 14, 15, 16, 17, 18] [7, 8, 9, 10, 11, 12, 13, 14, 15, 16, 17, 18, 0, 1, 2, 3, 4, 5, 6] ⟨rfl, rfl, by decide, rfl, by decide, by decide, rfl, rfl, by decide⟩ (va_recv hK hP (ci := 4) (q0 := 0) rfl rfl) rfl hl.1 rfl (Nat.le_of_ble_eq_true rfl) dL_law_324 ⟨Nat.le_of_ble_eq_true rfl, Nat.le_of_ble_eq_true rfl⟩ (fun _ H locs hP hD hS => ?_)
  refine lv_aload_n hx hb dL_law_327 rfl (lv_at hl 2 rfl) ?_
  refine lv_aload_n hx hb dL_law_328 rfl (lv_at hl 0 rfl) ?_
  refine lv_iload_n hx hb dL_law_329 rfl (lv_at hl 3 rfl) ?_
  refine lv_iconst (v := 1) hx hb dL_law_330 (by decide) ?_
  refine lv_iadd hx hb dL_law_331 ?_
  obtain ⟨hg4, hm⟩ := kg_s hm
  refine va_sld hx hb hX hbl hbA hS hg4 dL_law_332 ?_
  refine lv_aload_n hx hb dL_law_333 rfl (lv_at hl 0 rfl) ?_
  refine lv_iload_n hx hb dL_law_334 rfl (lv_at hl 3 rfl) ?_
  refine lv_iconst (v := 2) hx hb dL_law_335 (by decide) ?_
  refine lv_iadd hx hb dL_law_336 ?_
  obtain ⟨hg5, hm⟩ := kg_s hm
  refine va_sld hx hb hX hbl hbA hS hg5 dL_law_337 ?_
  obtain ⟨⟨r6, zn_6, zs_6, tn_6, ts_6, yn_6, ys_6⟩, hm6, hm⟩ := kb_s hm
  dsimp only at hm
  refine k_vi (As := [.int (xs (x3 + 1).toNatClampNeg), .int (xs (x3 + 2).toNatClampNeg)]) (rest := [.int r3]) (w2 := (wL q u cA N nr ss_3 sc_3 ns_3 nc_3 ps_3 dg_3 pn_3 pj_3 wh_3 st sn lf fw mr zn_6 zs_6 tn_6 ts_6 yn_6 ys_6 en es ew cv)) ⟨hx, hb, hml, hown, hts⟩ (cM_kind l D u cA N H.size mr zn zs tn ts yn ys en es ew cv (xs (x3 + 1).toNatClampNeg) (xs (x3 + 2).toNatClampNeg) n r6 zn_6 zs_6 tn_6 ts_6 yn_6 ys_6 hm6) (cwV 2 hts (gV wd_466 wd_467 wd_468 wd_41 wd_469) rfl rfl rfl (by decide +kernel) ⟨Nat.le_of_ble_eq_true rfl, Nat.le_of_ble_eq_true rfl⟩) hK hN hP hD hS hA [12, 13, 14, 15, 16, 17, 18] [0, 1, 2, 3, 4, 5, 6, 7, 8, 9, 10, 11] [0, 1, 2, 3, 4, 5, 6, 7, 8, 9, 10, 11, 12, 13, 14, 15, 16, 17, 18] ⟨rfl, rfl, by decide, rfl, by decide, by decide, rfl, rfl, by decide⟩ (va_recv hK hP (ci := 5) (q0 := 12) rfl rfl) rfl hl.1 rfl (Nat.le_of_ble_eq_true rfl) dL_law_338 ⟨Nat.le_of_ble_eq_true rfl, Nat.le_of_ble_eq_true rfl⟩ (fun _ H locs hP hD hS => ?_)
  refine lv_icmp_eq (tgt := 659) hx hb dL_law_341 (by decide) (fun c7 => ?_) (fun c7 => ?_)
  · rw [if_pos c7] at hm
    refine lv_iinc (v := (x3 + 4)) (lv' := [(3, .int (x3 + 4)), (0, .ref b), (1, .ref (q 0)), (2, .ref (u 0))]) hx hb dL_law_659 hl (k := 3) rfl rfl (by decide) rfl (fun ls hl => ?_)
    refine lv_goto (tgt := 28) hx hb dL_law_662 (by decide) ?_
    exact ih (x3 + 4) nr ss_3 sc_3 ns_3 nc_3 ps_3 dg_3 pn_3 pj_3 wh_3 st sn lf fw mr zn_6 zs_6 tn_6 ts_6 yn_6 ys_6 en es ew cv H locs ls hm hP hD hS (lv_sub hl [1, 2, 3, 0] rfl)
  · rw [if_neg c7] at hm
    exact absurd (Option.some.inj hm) (by decide)
set_option maxHeartbeats 4000000 in
set_option maxRecDepth 100000 in
theorem law_arm8 {p : Program} {e : Env} {s : State} {m : MethodId} {below : List Frame} {meth : Method} {c : Code} (l : Launch) {b L : Nat} {xs : Nat → Int32} (C0 : lw_At p s m meth c b L xs) {D : va_G} {q u : Nat → Nat} {cA : ClassId} {N : Nat} (hK : va_K D vwCl (kTy cA) s) (hN : kN s) (n : Nat) (ih : ∀ (x3 : Int32) (nr : Nat → Int32) (ss : Nat → Int32) (sc : Int32) (ns : Nat → Int32) (nc : Int32) (ps : Nat → Int32) (dg : Nat → Int32) (pn : Int32) (pj : Int32) (wh : Int32) (st : Nat → Int32) (sn : Int32) (lf : Int32) (fw : Nat → Int32) (mr : Nat → Int32) (zn : Int32) (zs : Nat → Int32) (tn : Int32) (ts : Nat → Int32) (yn : Int32) (ys : Nat → Int32) (en : Int32) (es : Nat → Int32) (ew : Int32) (cv : Nat → Int32) (H : Heap) (locs : List Loc) (ls : Array Slot), mL_law N L xs n x3 nr ss sc ns nc ps dg pn pj wh st sn lf fw mr zn zs tn ts yn ys en es ew cv = some 1 → va_P D vwCl (wL q u cA N nr ss sc ns nc ps dg pn pj wh st sn lf fw mr zn zs tn ts yn ys en es ew cv) H → va_D (fun q : Nat => s.heap.size ≤ q) (wL q u cA N nr ss sc ns nc ps dg pn pj wh st sn lf fw mr zn zs tn ts yn ys en es ew cv) → va_S (fun q : Nat => s.heap.size ≤ q) s.heap H locs → lv_has ls 4 [(0, .ref b), (1, .ref (q 0)), (2, .ref (u 0)), (3, .int x3)] → W p l e room_1 s m #[Value.ref b] below meth c H locs 19 2152 (lw_Z below #[Value.ref b] s) (F0 m 28 ls [])) (x3 : Int32) (nr : Nat → Int32) (ss : Nat → Int32) (sc : Int32) (ns : Nat → Int32) (nc : Int32) (ps : Nat → Int32) (dg : Nat → Int32) (pn : Int32) (pj : Int32) (wh : Int32) (st : Nat → Int32) (sn : Int32) (lf : Int32) (fw : Nat → Int32) (mr : Nat → Int32) (zn : Int32) (zs : Nat → Int32) (tn : Int32) (ts : Nat → Int32) (yn : Int32) (ys : Nat → Int32) (en : Int32) (es : Nat → Int32) (ew : Int32) (cv : Nat → Int32) (H : Heap) (locs : List Loc) (ls : Array Slot) (hm : mL_arm8 N L xs (mL_law N L xs n) n x3 nr ss sc ns nc ps dg pn pj wh st sn lf fw mr zn zs tn ts yn ys en es ew cv = some 1) (hP : va_P D vwCl (wL q u cA N nr ss sc ns nc ps dg pn pj wh st sn lf fw mr zn zs tn ts yn ys en es ew cv) H) (hD : va_D (fun q : Nat => s.heap.size ≤ q) (wL q u cA N nr ss sc ns nc ps dg pn pj wh st sn lf fw mr zn zs tn ts yn ys en es ew cv)) (hS : va_S (fun q : Nat => s.heap.size ≤ q) s.heap H locs) (hl : lv_has ls 4 [(0, .ref b), (1, .ref (q 0)), (2, .ref (u 0)), (3, .int x3)]) : W p l e room_1 s m #[Value.ref b] below meth c H locs 19 2152 (lw_Z below #[Value.ref b] s) (F0 m 346 ls []) := by
  obtain ⟨hx, hb, hr, hml, hown, hts, hX, hbl, hlocks, hgv⟩ := C0
  have hown : s.vm.findClass RXL = some m.cls := hown
  have hts : ∀ w ∈ W0, w.before _ s = true := fun w h => hts w (W0_in w h)
  have hA : ∀ q : Nat, s.heap.size ≤ q → (fun q : Nat => s.heap.size ≤ q) q := fun _ h => h
  have hbA : ¬ (fun q : Nat => s.heap.size ≤ q) b := Nat.not_le.mpr hbl
  unfold mL_arm8 at hm
  refine lv_aload_n hx hb dL_law_346 rfl (lv_at hl 1 rfl) ?_
  refine lv_aload_n hx hb dL_law_347 rfl (lv_at hl 0 rfl) ?_
  refine lv_iload_n hx hb dL_law_348 rfl (lv_at hl 3 rfl) ?_
  refine lv_iconst (v := 1) hx hb dL_law_349 (by decide) ?_
  refine lv_iadd hx hb dL_law_350 ?_
  obtain ⟨hg1, hm⟩ := kg_s hm
  refine va_sld hx hb hX hbl hbA hS hg1 dL_law_351 ?_
  refine lv_aload_n hx hb dL_law_352 rfl (lv_at hl 0 rfl) ?_
  refine lv_iload_n hx hb dL_law_353 rfl (lv_at hl 3 rfl) ?_
  refine lv_iconst (v := 2) hx hb dL_law_354 (by decide) ?_
  refine lv_iadd hx hb dL_law_355 ?_
  obtain ⟨hg2, hm⟩ := kg_s hm
  refine va_sld hx hb hX hbl hbA hS hg2 dL_law_356 ?_
  obtain ⟨⟨r3, ss_3, sc_3, ns_3, nc_3, ps_3, pn_3, wh_3⟩, hm3, hm⟩ := kb_s hm
  dsimp only at hm
  refine k_vi (As := [.int (xs (x3 + 1).toNatClampNeg), .int (xs (x3 + 2).toNatClampNeg)]) (rest := []) (w2 := (wL q u cA N nr ss_3 sc_3 ns_3 nc_3 ps_3 dg pn_3 pj wh_3 st sn lf fw mr zn zs tn ts yn ys en es ew cv)) ⟨hx, hb, hml, hown, hts⟩ (cF_parts l D q cA N H.size nr ss sc ns nc ps dg pn pj wh st sn lf fw (xs (x3 + 1).toNatClampNeg) (xs (x3 + 2).toNatClampNeg) n r3 ss_3 sc_3 ns_3 nc_3 ps_3 pn_3 wh_3 hm3) (cwV 2 hts (gV wd_259 wd_260 wd_261 wd_36 wd_262) rfl rfl rfl (by decide +kernel) ⟨Nat.le_of_ble_eq_true rfl, Nat.le_of_ble_eq_true rfl⟩) hK hN hP hD hS hA [0, 1, 2, 3, 4, 5, 6, 7, 8, 9, 10, 11] [12, 13, 14, 15, 16, 17, 18] [7, 8, 9, 10, 11, 12, 13, 14, 15, 16, 17, 18, 0, 1, 2, 3, 4, 5, 6] ⟨rfl, rfl, by decide, rfl, by decide, by decide, rfl, rfl, by decide⟩ (va_recv hK hP (ci := 4) (q0 := 0) rfl rfl) rfl hl.1 rfl (Nat.le_of_ble_eq_true rfl) dL_law_357 ⟨Nat.le_of_ble_eq_true rfl, Nat.le_of_ble_eq_true rfl⟩ (fun _ H locs hP hD hS => ?_)
  refine lv_aload_n hx hb dL_law_360 rfl (lv_at hl 2 rfl) ?_
  refine lv_aload_n hx hb dL_law_361 rfl (lv_at hl 0 rfl) ?_
  refine lv_iload_n hx hb dL_law_362 rfl (lv_at hl 3 rfl) ?_
  refine lv_iconst (v := 1) hx hb dL_law_363 (by decide) ?_
  refine lv_iadd hx hb dL_law_364 ?_
  obtain ⟨hg4, hm⟩ := kg_s hm
  refine va_sld hx hb hX hbl hbA hS hg4 dL_law_365 ?_
  refine lv_aload_n hx hb dL_law_366 rfl (lv_at hl 0 rfl) ?_
  refine lv_iload_n hx hb dL_law_367 rfl (lv_at hl 3 rfl) ?_
  refine lv_iconst (v := 2) hx hb dL_law_368 (by decide) ?_
  refine lv_iadd hx hb dL_law_369 ?_
  obtain ⟨hg5, hm⟩ := kg_s hm
  refine va_sld hx hb hX hbl hbA hS hg5 dL_law_370 ?_
  obtain ⟨⟨r6, zn_6, zs_6, tn_6, ts_6, yn_6, ys_6⟩, hm6, hm⟩ := kb_s hm
  dsimp only at hm
  refine k_vi (As := [.int (xs (x3 + 1).toNatClampNeg), .int (xs (x3 + 2).toNatClampNeg)]) (rest := [.int r3]) (w2 := (wL q u cA N nr ss_3 sc_3 ns_3 nc_3 ps_3 dg pn_3 pj wh_3 st sn lf fw mr zn_6 zs_6 tn_6 ts_6 yn_6 ys_6 en es ew cv)) ⟨hx, hb, hml, hown, hts⟩ (cM_parts l D u cA N H.size mr zn zs tn ts yn ys en es ew cv (xs (x3 + 1).toNatClampNeg) (xs (x3 + 2).toNatClampNeg) n r6 zn_6 zs_6 tn_6 ts_6 yn_6 ys_6 hm6) (cwV 2 hts (gV wd_488 wd_489 wd_490 wd_41 wd_491) rfl rfl rfl (by decide +kernel) ⟨Nat.le_of_ble_eq_true rfl, Nat.le_of_ble_eq_true rfl⟩) hK hN hP hD hS hA [12, 13, 14, 15, 16, 17, 18] [0, 1, 2, 3, 4, 5, 6, 7, 8, 9, 10, 11] [0, 1, 2, 3, 4, 5, 6, 7, 8, 9, 10, 11, 12, 13, 14, 15, 16, 17, 18] ⟨rfl, rfl, by decide, rfl, by decide, by decide, rfl, rfl, by decide⟩ (va_recv hK hP (ci := 5) (q0 := 12) rfl rfl) rfl hl.1 rfl (Nat.le_of_ble_eq_true rfl) dL_law_371 ⟨Nat.le_of_ble_eq_true rfl, Nat.le_of_ble_eq_true rfl⟩ (fun _ H locs hP hD hS => ?_)
  refine lv_icmp_eq (tgt := 659) hx hb dL_law_374 (by decide) (fun c7 => ?_) (fun c7 => ?_)
  · rw [if_pos c7] at hm
    refine lv_iinc (v := (x3 + 4)) (lv' := [(3, .int (x3 + 4)), (0, .ref b), (1, .ref (q 0)), (2, .ref (u 0))]) hx hb dL_law_659 hl (k := 3) rfl rfl (by decide) rfl (fun ls hl => ?_)
    refine lv_goto (tgt := 28) hx hb dL_law_662 (by decide) ?_
    exact ih (x3 + 4) nr ss_3 sc_3 ns_3 nc_3 ps_3 dg pn_3 pj wh_3 st sn lf fw mr zn_6 zs_6 tn_6 ts_6 yn_6 ys_6 en es ew cv H locs ls hm hP hD hS (lv_sub hl [1, 2, 3, 0] rfl)
  · rw [if_neg c7] at hm
    exact absurd (Option.some.inj hm) (by decide)
set_option maxHeartbeats 4000000 in
set_option maxRecDepth 100000 in
theorem law_arm9 {p : Program} {e : Env} {s : State} {m : MethodId} {below : List Frame} {meth : Method} {c : Code} (l : Launch) {b L : Nat} {xs : Nat → Int32} (C0 : lw_At p s m meth c b L xs) {D : va_G} {q u : Nat → Nat} {cA : ClassId} {N : Nat} (hK : va_K D vwCl (kTy cA) s) (hN : kN s) (n : Nat) (ih : ∀ (x3 : Int32) (nr : Nat → Int32) (ss : Nat → Int32) (sc : Int32) (ns : Nat → Int32) (nc : Int32) (ps : Nat → Int32) (dg : Nat → Int32) (pn : Int32) (pj : Int32) (wh : Int32) (st : Nat → Int32) (sn : Int32) (lf : Int32) (fw : Nat → Int32) (mr : Nat → Int32) (zn : Int32) (zs : Nat → Int32) (tn : Int32) (ts : Nat → Int32) (yn : Int32) (ys : Nat → Int32) (en : Int32) (es : Nat → Int32) (ew : Int32) (cv : Nat → Int32) (H : Heap) (locs : List Loc) (ls : Array Slot), mL_law N L xs n x3 nr ss sc ns nc ps dg pn pj wh st sn lf fw mr zn zs tn ts yn ys en es ew cv = some 1 → va_P D vwCl (wL q u cA N nr ss sc ns nc ps dg pn pj wh st sn lf fw mr zn zs tn ts yn ys en es ew cv) H → va_D (fun q : Nat => s.heap.size ≤ q) (wL q u cA N nr ss sc ns nc ps dg pn pj wh st sn lf fw mr zn zs tn ts yn ys en es ew cv) → va_S (fun q : Nat => s.heap.size ≤ q) s.heap H locs → lv_has ls 4 [(0, .ref b), (1, .ref (q 0)), (2, .ref (u 0)), (3, .int x3)] → W p l e room_1 s m #[Value.ref b] below meth c H locs 19 2152 (lw_Z below #[Value.ref b] s) (F0 m 28 ls [])) (x3 : Int32) (nr : Nat → Int32) (ss : Nat → Int32) (sc : Int32) (ns : Nat → Int32) (nc : Int32) (ps : Nat → Int32) (dg : Nat → Int32) (pn : Int32) (pj : Int32) (wh : Int32) (st : Nat → Int32) (sn : Int32) (lf : Int32) (fw : Nat → Int32) (mr : Nat → Int32) (zn : Int32) (zs : Nat → Int32) (tn : Int32) (ts : Nat → Int32) (yn : Int32) (ys : Nat → Int32) (en : Int32) (es : Nat → Int32) (ew : Int32) (cv : Nat → Int32) (H : Heap) (locs : List Loc) (ls : Array Slot) (hm : mL_arm9 N L xs (mL_law N L xs n) n x3 nr ss sc ns nc ps dg pn pj wh st sn lf fw mr zn zs tn ts yn ys en es ew cv = some 1) (hP : va_P D vwCl (wL q u cA N nr ss sc ns nc ps dg pn pj wh st sn lf fw mr zn zs tn ts yn ys en es ew cv) H) (hD : va_D (fun q : Nat => s.heap.size ≤ q) (wL q u cA N nr ss sc ns nc ps dg pn pj wh st sn lf fw mr zn zs tn ts yn ys en es ew cv)) (hS : va_S (fun q : Nat => s.heap.size ≤ q) s.heap H locs) (hl : lv_has ls 4 [(0, .ref b), (1, .ref (q 0)), (2, .ref (u 0)), (3, .int x3)]) : W p l e room_1 s m #[Value.ref b] below meth c H locs 19 2152 (lw_Z below #[Value.ref b] s) (F0 m 379 ls []) := by
  obtain ⟨hx, hb, hr, hml, hown, hts, hX, hbl, hlocks, hgv⟩ := C0
  have hown : s.vm.findClass RXL = some m.cls := hown
  have hts : ∀ w ∈ W0, w.before _ s = true := fun w h => hts w (W0_in w h)
  have hA : ∀ q : Nat, s.heap.size ≤ q → (fun q : Nat => s.heap.size ≤ q) q := fun _ h => h
  have hbA : ¬ (fun q : Nat => s.heap.size ≤ q) b := Nat.not_le.mpr hbl
  unfold mL_arm9 at hm
  refine lv_aload_n hx hb dL_law_379 rfl (lv_at hl 1 rfl) ?_
  refine lv_aload_n hx hb dL_law_380 rfl (lv_at hl 0 rfl) ?_
  refine lv_iload_n hx hb dL_law_381 rfl (lv_at hl 3 rfl) ?_
  refine lv_iconst (v := 1) hx hb dL_law_382 (by decide) ?_
  refine lv_iadd hx hb dL_law_383 ?_
  obtain ⟨hg1, hm⟩ := kg_s hm
  refine va_sld hx hb hX hbl hbA hS hg1 dL_law_384 ?_
  refine lv_aload_n hx hb dL_law_385 rfl (lv_at hl 0 rfl) ?_
  refine lv_iload_n hx hb dL_law_386 rfl (lv_at hl 3 rfl) ?_
  refine lv_iconst (v := 2) hx hb dL_law_387 (by decide) ?_
  refine lv_iadd hx hb dL_law_388 ?_
  obtain ⟨hg2, hm⟩ := kg_s hm
  refine va_sld hx hb hX hbl hbA hS hg2 dL_law_389 ?_
  refine lv_aload_n hx hb dL_law_390 rfl (lv_at hl 0 rfl) ?_
  refine lv_iload_n hx hb dL_law_391 rfl (lv_at hl 3 rfl) ?_
  refine lv_iconst (v := 3) hx hb dL_law_392 (by decide) ?_
  refine lv_iadd hx hb dL_law_393 ?_
  obtain ⟨hg3, hm⟩ := kg_s hm
  refine va_sld hx hb hX hbl hbA hS hg3 dL_law_394 ?_
  obtain ⟨⟨r4, ss_4, sc_4, ns_4, nc_4, ps_4, pn_4, wh_4⟩, hm4, hm⟩ := kb_s hm
  dsimp only at hm
  refine k_vi (As := [.int (xs (x3 + 1).toNatClampNeg), .int (xs (x3 + 2).toNatClampNeg), .int (xs (x3 + 3).toNatClampNeg)]) (rest := []) (w2 := (wL q u cA N nr ss_4 sc_4 ns_4 nc_4 ps_4 dg pn_4 pj wh_4 st sn lf fw mr zn zs tn ts yn ys en es ew cv)) ⟨hx, hb, hml, hown, hts⟩ (cF_part l D q cA N H.size nr ss sc ns nc ps dg pn pj wh st sn lf fw (xs (x3 + 1).toNatClampNeg) (xs (x3 + 2).toNatClampNeg) (xs (x3 + 3).toNatClampNeg) n r4 ss_4 sc_4 ns_4 nc_4 ps_4 pn_4 wh_4 hm4) (cwV 3 hts (gV wd_267 wd_268 wd_269 wd_36 wd_270) rfl rfl rfl (by decide +kernel) ⟨Nat.le_of_ble_eq_true rfl, Nat.le_of_ble_eq_true rfl⟩) hK hN hP hD hS hA [0, 1, 2, 3, 4, 5, 6, 7, 8, 9, 10, 11] [12, 13, 14, 15, 16, 17, 18] [7, 8, 9, 10, 11, 12, 13, 14, 15, 16, 17, 18, 0, 1, 2, 3, 4, 5, 6] ⟨rfl, rfl, by decide, rfl, by decide, by decide, rfl, rfl, by decide⟩ (va_recv hK hP (ci := 4) (q0 := 0) rfl rfl) rfl hl.1 rfl (Nat.le_of_ble_eq_true rfl) dL_law_395 ⟨Nat.le_of_ble_eq_true rfl, Nat.le_of_ble_eq_true rfl⟩ (fun _ H locs hP hD hS => ?_)
  refine lv_aload_n hx hb dL_law_398 rfl (lv_at hl 2 rfl) ?_
  refine lv_aload_n hx hb dL_law_399 rfl (lv_at hl 0 rfl) ?_
  refine lv_iload_n hx hb dL_law_400 rfl (lv_at hl 3 rfl) ?_
  refine lv_iconst (v := 1) hx hb dL_law_401 (by decide) ?_
  refine lv_iadd hx hb dL_law_402 ?_
  obtain ⟨hg5, hm⟩ := kg_s hm
  refine va_sld hx hb hX hbl hbA hS hg5 dL_law_403 ?_
  refine lv_aload_n hx hb dL_law_404 rfl (lv_at hl 0 rfl) ?_
  refine lv_iload_n hx hb dL_law_405 rfl (lv_at hl 3 rfl) ?_
  refine lv_iconst (v := 2) hx hb dL_law_406 (by decide) ?_
  refine lv_iadd hx hb dL_law_407 ?_
  obtain ⟨hg6, hm⟩ := kg_s hm
  refine va_sld hx hb hX hbl hbA hS hg6 dL_law_408 ?_
  refine lv_aload_n hx hb dL_law_409 rfl (lv_at hl 0 rfl) ?_
  refine lv_iload_n hx hb dL_law_410 rfl (lv_at hl 3 rfl) ?_
  refine lv_iconst (v := 3) hx hb dL_law_411 (by decide) ?_
  refine lv_iadd hx hb dL_law_412 ?_
  obtain ⟨hg7, hm⟩ := kg_s hm
  refine va_sld hx hb hX hbl hbA hS hg7 dL_law_413 ?_
  obtain ⟨⟨r8, zn_8, zs_8, tn_8, ts_8, yn_8, ys_8⟩, hm8, hm⟩ := kb_s hm
  dsimp only at hm
  refine k_vi (As := [.int (xs (x3 + 1).toNatClampNeg), .int (xs (x3 + 2).toNatClampNeg), .int (xs (x3 + 3).toNatClampNeg)]) (rest := [.int r4]) (w2 := (wL q u cA N nr ss_4 sc_4 ns_4 nc_4 ps_4 dg pn_4 pj wh_4 st sn lf fw mr zn_8 zs_8 tn_8 ts_8 yn_8 ys_8 en es ew cv)) ⟨hx, hb, hml, hown, hts⟩ (cM_part l D u cA N H.size mr zn zs tn ts yn ys en es ew cv (xs (x3 + 1).toNatClampNeg) (xs (x3 + 2).toNatClampNeg) (xs (x3 + 3).toNatClampNeg) n r8 zn_8 zs_8 tn_8 ts_8 yn_8 ys_8 hm8) (cwV 3 hts (gV wd_492 wd_493 wd_494 wd_41 wd_495) rfl rfl rfl (by decide +kernel) ⟨Nat.le_of_ble_eq_true rfl, Nat.le_of_ble_eq_true rfl⟩) hK hN hP hD hS hA [12, 13, 14, 15, 16, 17, 18] [0, 1, 2, 3, 4, 5, 6, 7, 8, 9, 10, 11] [0, 1, 2, 3, 4, 5, 6, 7, 8, 9, 10, 11, 12, 13, 14, 15, 16, 17, 18] ⟨rfl, rfl, by decide, rfl, by decide, by decide, rfl, rfl, by decide⟩ (va_recv hK hP (ci := 5) (q0 := 12) rfl rfl) rfl hl.1 rfl (Nat.le_of_ble_eq_true rfl) dL_law_414 ⟨Nat.le_of_ble_eq_true rfl, Nat.le_of_ble_eq_true rfl⟩ (fun _ H locs hP hD hS => ?_)
  refine lv_icmp_eq (tgt := 659) hx hb dL_law_417 (by decide) (fun c9 => ?_) (fun c9 => ?_)
  · rw [if_pos c9] at hm
    refine lv_iinc (v := (x3 + 4)) (lv' := [(3, .int (x3 + 4)), (0, .ref b), (1, .ref (q 0)), (2, .ref (u 0))]) hx hb dL_law_659 hl (k := 3) rfl rfl (by decide) rfl (fun ls hl => ?_)
    refine lv_goto (tgt := 28) hx hb dL_law_662 (by decide) ?_
    exact ih (x3 + 4) nr ss_4 sc_4 ns_4 nc_4 ps_4 dg pn_4 pj wh_4 st sn lf fw mr zn_8 zs_8 tn_8 ts_8 yn_8 ys_8 en es ew cv H locs ls hm hP hD hS (lv_sub hl [1, 2, 3, 0] rfl)
  · rw [if_neg c9] at hm
    exact absurd (Option.some.inj hm) (by decide)
set_option maxHeartbeats 4000000 in
set_option maxRecDepth 100000 in
theorem law_arm10 {p : Program} {e : Env} {s : State} {m : MethodId} {below : List Frame} {meth : Method} {c : Code} (l : Launch) {b L : Nat} {xs : Nat → Int32} (C0 : lw_At p s m meth c b L xs) {D : va_G} {q u : Nat → Nat} {cA : ClassId} {N : Nat} (hK : va_K D vwCl (kTy cA) s) (hN : kN s) (n : Nat) (ih : ∀ (x3 : Int32) (nr : Nat → Int32) (ss : Nat → Int32) (sc : Int32) (ns : Nat → Int32) (nc : Int32) (ps : Nat → Int32) (dg : Nat → Int32) (pn : Int32) (pj : Int32) (wh : Int32) (st : Nat → Int32) (sn : Int32) (lf : Int32) (fw : Nat → Int32) (mr : Nat → Int32) (zn : Int32) (zs : Nat → Int32) (tn : Int32) (ts : Nat → Int32) (yn : Int32) (ys : Nat → Int32) (en : Int32) (es : Nat → Int32) (ew : Int32) (cv : Nat → Int32) (H : Heap) (locs : List Loc) (ls : Array Slot), mL_law N L xs n x3 nr ss sc ns nc ps dg pn pj wh st sn lf fw mr zn zs tn ts yn ys en es ew cv = some 1 → va_P D vwCl (wL q u cA N nr ss sc ns nc ps dg pn pj wh st sn lf fw mr zn zs tn ts yn ys en es ew cv) H → va_D (fun q : Nat => s.heap.size ≤ q) (wL q u cA N nr ss sc ns nc ps dg pn pj wh st sn lf fw mr zn zs tn ts yn ys en es ew cv) → va_S (fun q : Nat => s.heap.size ≤ q) s.heap H locs → lv_has ls 4 [(0, .ref b), (1, .ref (q 0)), (2, .ref (u 0)), (3, .int x3)] → W p l e room_1 s m #[Value.ref b] below meth c H locs 19 2152 (lw_Z below #[Value.ref b] s) (F0 m 28 ls [])) (x3 : Int32) (nr : Nat → Int32) (ss : Nat → Int32) (sc : Int32) (ns : Nat → Int32) (nc : Int32) (ps : Nat → Int32) (dg : Nat → Int32) (pn : Int32) (pj : Int32) (wh : Int32) (st : Nat → Int32) (sn : Int32) (lf : Int32) (fw : Nat → Int32) (mr : Nat → Int32) (zn : Int32) (zs : Nat → Int32) (tn : Int32) (ts : Nat → Int32) (yn : Int32) (ys : Nat → Int32) (en : Int32) (es : Nat → Int32) (ew : Int32) (cv : Nat → Int32) (H : Heap) (locs : List Loc) (ls : Array Slot) (hm : mL_arm10 N L xs (mL_law N L xs n) n x3 nr ss sc ns nc ps dg pn pj wh st sn lf fw mr zn zs tn ts yn ys en es ew cv = some 1) (hP : va_P D vwCl (wL q u cA N nr ss sc ns nc ps dg pn pj wh st sn lf fw mr zn zs tn ts yn ys en es ew cv) H) (hD : va_D (fun q : Nat => s.heap.size ≤ q) (wL q u cA N nr ss sc ns nc ps dg pn pj wh st sn lf fw mr zn zs tn ts yn ys en es ew cv)) (hS : va_S (fun q : Nat => s.heap.size ≤ q) s.heap H locs) (hl : lv_has ls 4 [(0, .ref b), (1, .ref (q 0)), (2, .ref (u 0)), (3, .int x3)]) : W p l e room_1 s m #[Value.ref b] below meth c H locs 19 2152 (lw_Z below #[Value.ref b] s) (F0 m 422 ls []) := by
  obtain ⟨hx, hb, hr, hml, hown, hts, hX, hbl, hlocks, hgv⟩ := C0
  have hown : s.vm.findClass RXL = some m.cls := hown
  have hts : ∀ w ∈ W0, w.before _ s = true := fun w h => hts w (W0_in w h)
  have hA : ∀ q : Nat, s.heap.size ≤ q → (fun q : Nat => s.heap.size ≤ q) q := fun _ h => h
  have hbA : ¬ (fun q : Nat => s.heap.size ≤ q) b := Nat.not_le.mpr hbl
  unfold mL_arm10 at hm
  refine lv_aload_n hx hb dL_law_422 rfl (lv_at hl 1 rfl) ?_
  refine lv_aload_n hx hb dL_law_423 rfl (lv_at hl 0 rfl) ?_
  refine lv_iload_n hx hb dL_law_424 rfl (lv_at hl 3 rfl) ?_
  refine lv_iconst (v := 1) hx hb dL_law_425 (by decide) ?_
  refine lv_iadd hx hb dL_law_426 ?_
  obtain ⟨hg1, hm⟩ := kg_s hm
  refine va_sld hx hb hX hbl hbA hS hg1 dL_law_427 ?_
  refine lv_aload_n hx hb dL_law_428 rfl (lv_at hl 0 rfl) ?_
  refine lv_iload_n hx hb dL_law_429 rfl (lv_at hl 3 rfl) ?_
  refine lv_iconst (v := 2) hx hb dL_law_430 (by decide) ?_
  refine lv_iadd hx hb dL_law_431 ?_
  obtain ⟨hg2, hm⟩ := kg_s hm
  refine va_sld hx hb hX hbl hbA hS hg2 dL_law_432 ?_
  obtain ⟨⟨r3, ss_3, sc_3, ns_3, nc_3, ps_3, dg_3, pn_3, pj_3, wh_3⟩, hm3, hm⟩ := kb_s hm
  dsimp only at hm
  refine k_vi (As := [.int (xs (x3 + 1).toNatClampNeg), .int (xs (x3 + 2).toNatClampNeg)]) (rest := []) (w2 := (wL q u cA N nr ss_3 sc_3 ns_3 nc_3 ps_3 dg_3 pn_3 pj_3 wh_3 st sn lf fw mr zn zs tn ts yn ys en es ew cv)) ⟨hx, hb, hml, hown, hts⟩ (cF_centre l D q cA N H.size nr ss sc ns nc ps dg pn pj wh st sn lf fw (xs (x3 + 1).toNatClampNeg) (xs (x3 + 2).toNatClampNeg) n r3 ss_3 sc_3 ns_3 nc_3 ps_3 dg_3 pn_3 pj_3 wh_3 hm3) (cwV 2 hts (gV wd_275 wd_276 wd_277 wd_36 wd_278) rfl rfl rfl (by decide +kernel) ⟨Nat.le_of_ble_eq_true rfl, Nat.le_of_ble_eq_true rfl⟩) hK hN hP hD hS hA [0, 1, 2, 3, 4, 5, 6, 7, 8, 9, 10, 11] [12, 13, 14, 15, 16, 17, 18] [7, 8, 9, 10, 11, 12, 13, 14, 15, 16, 17, 18, 0, 1, 2, 3, 4, 5, 6] ⟨rfl, rfl, by decide, rfl, by decide, by decide, rfl, rfl, by decide⟩ (va_recv hK hP (ci := 4) (q0 := 0) rfl rfl) rfl hl.1 rfl (Nat.le_of_ble_eq_true rfl) dL_law_433 ⟨Nat.le_of_ble_eq_true rfl, Nat.le_of_ble_eq_true rfl⟩ (fun _ H locs hP hD hS => ?_)
  refine lv_aload_n hx hb dL_law_436 rfl (lv_at hl 2 rfl) ?_
  refine lv_aload_n hx hb dL_law_437 rfl (lv_at hl 0 rfl) ?_
  refine lv_iload_n hx hb dL_law_438 rfl (lv_at hl 3 rfl) ?_
  refine lv_iconst (v := 1) hx hb dL_law_439 (by decide) ?_
  refine lv_iadd hx hb dL_law_440 ?_
  obtain ⟨hg4, hm⟩ := kg_s hm
  refine va_sld hx hb hX hbl hbA hS hg4 dL_law_441 ?_
  refine lv_aload_n hx hb dL_law_442 rfl (lv_at hl 0 rfl) ?_
  refine lv_iload_n hx hb dL_law_443 rfl (lv_at hl 3 rfl) ?_
  refine lv_iconst (v := 2) hx hb dL_law_444 (by decide) ?_
  refine lv_iadd hx hb dL_law_445 ?_
  obtain ⟨hg5, hm⟩ := kg_s hm
  refine va_sld hx hb hX hbl hbA hS hg5 dL_law_446 ?_
  obtain ⟨⟨r6, zn_6, zs_6, tn_6, ts_6, yn_6, ys_6⟩, hm6, hm⟩ := kb_s hm
  dsimp only at hm
  refine k_vi (As := [.int (xs (x3 + 1).toNatClampNeg), .int (xs (x3 + 2).toNatClampNeg)]) (rest := [.int r3]) (w2 := (wL q u cA N nr ss_3 sc_3 ns_3 nc_3 ps_3 dg_3 pn_3 pj_3 wh_3 st sn lf fw mr zn_6 zs_6 tn_6 ts_6 yn_6 ys_6 en es ew cv)) ⟨hx, hb, hml, hown, hts⟩ (cM_centre l D u cA N H.size mr zn zs tn ts yn ys en es ew cv (xs (x3 + 1).toNatClampNeg) (xs (x3 + 2).toNatClampNeg) n r6 zn_6 zs_6 tn_6 ts_6 yn_6 ys_6 hm6) (cwV 2 hts (gV wd_496 wd_497 wd_498 wd_41 wd_499) rfl rfl rfl (by decide +kernel) ⟨Nat.le_of_ble_eq_true rfl, Nat.le_of_ble_eq_true rfl⟩) hK hN hP hD hS hA [12, 13, 14, 15, 16, 17, 18] [0, 1, 2, 3, 4, 5, 6, 7, 8, 9, 10, 11] [0, 1, 2, 3, 4, 5, 6, 7, 8, 9, 10, 11, 12, 13, 14, 15, 16, 17, 18] ⟨rfl, rfl, by decide, rfl, by decide, by decide, rfl, rfl, by decide⟩ (va_recv hK hP (ci := 5) (q0 := 12) rfl rfl) rfl hl.1 rfl (Nat.le_of_ble_eq_true rfl) dL_law_447 ⟨Nat.le_of_ble_eq_true rfl, Nat.le_of_ble_eq_true rfl⟩ (fun _ H locs hP hD hS => ?_)
  refine lv_icmp_eq (tgt := 659) hx hb dL_law_450 (by decide) (fun c7 => ?_) (fun c7 => ?_)
  · rw [if_pos c7] at hm
    refine lv_iinc (v := (x3 + 4)) (lv' := [(3, .int (x3 + 4)), (0, .ref b), (1, .ref (q 0)), (2, .ref (u 0))]) hx hb dL_law_659 hl (k := 3) rfl rfl (by decide) rfl (fun ls hl => ?_)
    refine lv_goto (tgt := 28) hx hb dL_law_662 (by decide) ?_
    exact ih (x3 + 4) nr ss_3 sc_3 ns_3 nc_3 ps_3 dg_3 pn_3 pj_3 wh_3 st sn lf fw mr zn_6 zs_6 tn_6 ts_6 yn_6 ys_6 en es ew cv H locs ls hm hP hD hS (lv_sub hl [1, 2, 3, 0] rfl)
  · rw [if_neg c7] at hm
    exact absurd (Option.some.inj hm) (by decide)
set_option maxHeartbeats 4000000 in
set_option maxRecDepth 100000 in
theorem law_arm11 {p : Program} {e : Env} {s : State} {m : MethodId} {below : List Frame} {meth : Method} {c : Code} (l : Launch) {b L : Nat} {xs : Nat → Int32} (C0 : lw_At p s m meth c b L xs) {D : va_G} {q u : Nat → Nat} {cA : ClassId} {N : Nat} (hK : va_K D vwCl (kTy cA) s) (hN : kN s) (n : Nat) (ih : ∀ (x3 : Int32) (nr : Nat → Int32) (ss : Nat → Int32) (sc : Int32) (ns : Nat → Int32) (nc : Int32) (ps : Nat → Int32) (dg : Nat → Int32) (pn : Int32) (pj : Int32) (wh : Int32) (st : Nat → Int32) (sn : Int32) (lf : Int32) (fw : Nat → Int32) (mr : Nat → Int32) (zn : Int32) (zs : Nat → Int32) (tn : Int32) (ts : Nat → Int32) (yn : Int32) (ys : Nat → Int32) (en : Int32) (es : Nat → Int32) (ew : Int32) (cv : Nat → Int32) (H : Heap) (locs : List Loc) (ls : Array Slot), mL_law N L xs n x3 nr ss sc ns nc ps dg pn pj wh st sn lf fw mr zn zs tn ts yn ys en es ew cv = some 1 → va_P D vwCl (wL q u cA N nr ss sc ns nc ps dg pn pj wh st sn lf fw mr zn zs tn ts yn ys en es ew cv) H → va_D (fun q : Nat => s.heap.size ≤ q) (wL q u cA N nr ss sc ns nc ps dg pn pj wh st sn lf fw mr zn zs tn ts yn ys en es ew cv) → va_S (fun q : Nat => s.heap.size ≤ q) s.heap H locs → lv_has ls 4 [(0, .ref b), (1, .ref (q 0)), (2, .ref (u 0)), (3, .int x3)] → W p l e room_1 s m #[Value.ref b] below meth c H locs 19 2152 (lw_Z below #[Value.ref b] s) (F0 m 28 ls [])) (x3 : Int32) (nr : Nat → Int32) (ss : Nat → Int32) (sc : Int32) (ns : Nat → Int32) (nc : Int32) (ps : Nat → Int32) (dg : Nat → Int32) (pn : Int32) (pj : Int32) (wh : Int32) (st : Nat → Int32) (sn : Int32) (lf : Int32) (fw : Nat → Int32) (mr : Nat → Int32) (zn : Int32) (zs : Nat → Int32) (tn : Int32) (ts : Nat → Int32) (yn : Int32) (ys : Nat → Int32) (en : Int32) (es : Nat → Int32) (ew : Int32) (cv : Nat → Int32) (H : Heap) (locs : List Loc) (ls : Array Slot) (hm : mL_arm11 N L xs (mL_law N L xs n) n x3 nr ss sc ns nc ps dg pn pj wh st sn lf fw mr zn zs tn ts yn ys en es ew cv = some 1) (hP : va_P D vwCl (wL q u cA N nr ss sc ns nc ps dg pn pj wh st sn lf fw mr zn zs tn ts yn ys en es ew cv) H) (hD : va_D (fun q : Nat => s.heap.size ≤ q) (wL q u cA N nr ss sc ns nc ps dg pn pj wh st sn lf fw mr zn zs tn ts yn ys en es ew cv)) (hS : va_S (fun q : Nat => s.heap.size ≤ q) s.heap H locs) (hl : lv_has ls 4 [(0, .ref b), (1, .ref (q 0)), (2, .ref (u 0)), (3, .int x3)]) : W p l e room_1 s m #[Value.ref b] below meth c H locs 19 2152 (lw_Z below #[Value.ref b] s) (F0 m 455 ls []) := by
  obtain ⟨hx, hb, hr, hml, hown, hts, hX, hbl, hlocks, hgv⟩ := C0
  have hown : s.vm.findClass RXL = some m.cls := hown
  have hts : ∀ w ∈ W0, w.before _ s = true := fun w h => hts w (W0_in w h)
  have hA : ∀ q : Nat, s.heap.size ≤ q → (fun q : Nat => s.heap.size ≤ q) q := fun _ h => h
  have hbA : ¬ (fun q : Nat => s.heap.size ≤ q) b := Nat.not_le.mpr hbl
  unfold mL_arm11 at hm
  refine lv_aload_n hx hb dL_law_455 rfl (lv_at hl 1 rfl) ?_
  refine lv_aload_n hx hb dL_law_456 rfl (lv_at hl 0 rfl) ?_
  refine lv_iload_n hx hb dL_law_457 rfl (lv_at hl 3 rfl) ?_
  refine lv_iconst (v := 1) hx hb dL_law_458 (by decide) ?_
  refine lv_iadd hx hb dL_law_459 ?_
  obtain ⟨hg1, hm⟩ := kg_s hm
  refine va_sld hx hb hX hbl hbA hS hg1 dL_law_460 ?_
  refine lv_aload_n hx hb dL_law_461 rfl (lv_at hl 0 rfl) ?_
  refine lv_iload_n hx hb dL_law_462 rfl (lv_at hl 3 rfl) ?_
  refine lv_iconst (v := 2) hx hb dL_law_463 (by decide) ?_
  refine lv_iadd hx hb dL_law_464 ?_
  obtain ⟨hg2, hm⟩ := kg_s hm
  refine va_sld hx hb hX hbl hbA hS hg2 dL_law_465 ?_
  obtain ⟨⟨r3, ss_3, sc_3, ns_3, nc_3, wh_3⟩, hm3, hm⟩ := kb_s hm
  dsimp only at hm
  refine k_vi (As := [.int (xs (x3 + 1).toNatClampNeg), .int (xs (x3 + 2).toNatClampNeg)]) (rest := []) (w2 := (wL q u cA N nr ss_3 sc_3 ns_3 nc_3 ps dg pn pj wh_3 st sn lf fw mr zn zs tn ts yn ys en es ew cv)) ⟨hx, hb, hml, hown, hts⟩ (cF_linked l D q cA N H.size nr ss sc ns nc ps dg pn pj wh st sn lf fw (xs (x3 + 1).toNatClampNeg) (xs (x3 + 2).toNatClampNeg) n r3 ss_3 sc_3 ns_3 nc_3 wh_3 hm3) (cwV 2 hts (gV wd_284 wd_285 wd_286 wd_36 wd_287) rfl rfl rfl (by decide +kernel) ⟨Nat.le_of_ble_eq_true rfl, Nat.le_of_ble_eq_true rfl⟩) hK hN hP hD hS hA [0, 1, 2, 3, 4, 5, 6, 7, 8, 9, 10, 11] [12, 13, 14, 15, 16, 17, 18] [7, 8, 9, 10, 11, 12, 13, 14, 15, 16, 17, 18, 0, 1, 2, 3, 4, 5, 6] ⟨rfl, rfl, by decide, rfl, by decide, by decide, rfl, rfl, by decide⟩ (va_recv hK hP (ci := 4) (q0 := 0) rfl rfl) rfl hl.1 rfl (Nat.le_of_ble_eq_true rfl) dL_law_466 ⟨Nat.le_of_ble_eq_true rfl, Nat.le_of_ble_eq_true rfl⟩ (fun _ H locs hP hD hS => ?_)
  refine lv_aload_n hx hb dL_law_469 rfl (lv_at hl 2 rfl) ?_
  refine lv_aload_n hx hb dL_law_470 rfl (lv_at hl 0 rfl) ?_
  refine lv_iload_n hx hb dL_law_471 rfl (lv_at hl 3 rfl) ?_
  refine lv_iconst (v := 1) hx hb dL_law_472 (by decide) ?_
  refine lv_iadd hx hb dL_law_473 ?_
  obtain ⟨hg4, hm⟩ := kg_s hm
  refine va_sld hx hb hX hbl hbA hS hg4 dL_law_474 ?_
  refine lv_aload_n hx hb dL_law_475 rfl (lv_at hl 0 rfl) ?_
  refine lv_iload_n hx hb dL_law_476 rfl (lv_at hl 3 rfl) ?_
  refine lv_iconst (v := 2) hx hb dL_law_477 (by decide) ?_
  refine lv_iadd hx hb dL_law_478 ?_
  obtain ⟨hg5, hm⟩ := kg_s hm
  refine va_sld hx hb hX hbl hbA hS hg5 dL_law_479 ?_
  obtain ⟨⟨r6, zn_6, zs_6, tn_6, ts_6, yn_6, ys_6⟩, hm6, hm⟩ := kb_s hm
  dsimp only at hm
  refine k_vi (As := [.int (xs (x3 + 1).toNatClampNeg), .int (xs (x3 + 2).toNatClampNeg)]) (rest := [.int r3]) (w2 := (wL q u cA N nr ss_3 sc_3 ns_3 nc_3 ps dg pn pj wh_3 st sn lf fw mr zn_6 zs_6 tn_6 ts_6 yn_6 ys_6 en es ew cv)) ⟨hx, hb, hml, hown, hts⟩ (cM_linked l D u cA N H.size mr zn zs tn ts yn ys en es ew cv (xs (x3 + 1).toNatClampNeg) (xs (x3 + 2).toNatClampNeg) n r6 zn_6 zs_6 tn_6 ts_6 yn_6 ys_6 hm6) (cwV 2 hts (gV wd_500 wd_501 wd_502 wd_41 wd_503) rfl rfl rfl (by decide +kernel) ⟨Nat.le_of_ble_eq_true rfl, Nat.le_of_ble_eq_true rfl⟩) hK hN hP hD hS hA [12, 13, 14, 15, 16, 17, 18] [0, 1, 2, 3, 4, 5, 6, 7, 8, 9, 10, 11] [0, 1, 2, 3, 4, 5, 6, 7, 8, 9, 10, 11, 12, 13, 14, 15, 16, 17, 18] ⟨rfl, rfl, by decide, rfl, by decide, by decide, rfl, rfl, by decide⟩ (va_recv hK hP (ci := 5) (q0 := 12) rfl rfl) rfl hl.1 rfl (Nat.le_of_ble_eq_true rfl) dL_law_480 ⟨Nat.le_of_ble_eq_true rfl, Nat.le_of_ble_eq_true rfl⟩ (fun _ H locs hP hD hS => ?_)
  refine lv_icmp_eq (tgt := 659) hx hb dL_law_483 (by decide) (fun c7 => ?_) (fun c7 => ?_)
  · rw [if_pos c7] at hm
    refine lv_iinc (v := (x3 + 4)) (lv' := [(3, .int (x3 + 4)), (0, .ref b), (1, .ref (q 0)), (2, .ref (u 0))]) hx hb dL_law_659 hl (k := 3) rfl rfl (by decide) rfl (fun ls hl => ?_)
    refine lv_goto (tgt := 28) hx hb dL_law_662 (by decide) ?_
    exact ih (x3 + 4) nr ss_3 sc_3 ns_3 nc_3 ps dg pn pj wh_3 st sn lf fw mr zn_6 zs_6 tn_6 ts_6 yn_6 ys_6 en es ew cv H locs ls hm hP hD hS (lv_sub hl [1, 2, 3, 0] rfl)
  · rw [if_neg c7] at hm
    exact absurd (Option.some.inj hm) (by decide)
set_option maxHeartbeats 4000000 in
set_option maxRecDepth 100000 in
theorem law_arm12 {p : Program} {e : Env} {s : State} {m : MethodId} {below : List Frame} {meth : Method} {c : Code} (l : Launch) {b L : Nat} {xs : Nat → Int32} (C0 : lw_At p s m meth c b L xs) {D : va_G} {q u : Nat → Nat} {cA : ClassId} {N : Nat} (hK : va_K D vwCl (kTy cA) s) (hN : kN s) (n : Nat) (ih : ∀ (x3 : Int32) (nr : Nat → Int32) (ss : Nat → Int32) (sc : Int32) (ns : Nat → Int32) (nc : Int32) (ps : Nat → Int32) (dg : Nat → Int32) (pn : Int32) (pj : Int32) (wh : Int32) (st : Nat → Int32) (sn : Int32) (lf : Int32) (fw : Nat → Int32) (mr : Nat → Int32) (zn : Int32) (zs : Nat → Int32) (tn : Int32) (ts : Nat → Int32) (yn : Int32) (ys : Nat → Int32) (en : Int32) (es : Nat → Int32) (ew : Int32) (cv : Nat → Int32) (H : Heap) (locs : List Loc) (ls : Array Slot), mL_law N L xs n x3 nr ss sc ns nc ps dg pn pj wh st sn lf fw mr zn zs tn ts yn ys en es ew cv = some 1 → va_P D vwCl (wL q u cA N nr ss sc ns nc ps dg pn pj wh st sn lf fw mr zn zs tn ts yn ys en es ew cv) H → va_D (fun q : Nat => s.heap.size ≤ q) (wL q u cA N nr ss sc ns nc ps dg pn pj wh st sn lf fw mr zn zs tn ts yn ys en es ew cv) → va_S (fun q : Nat => s.heap.size ≤ q) s.heap H locs → lv_has ls 4 [(0, .ref b), (1, .ref (q 0)), (2, .ref (u 0)), (3, .int x3)] → W p l e room_1 s m #[Value.ref b] below meth c H locs 19 2152 (lw_Z below #[Value.ref b] s) (F0 m 28 ls [])) (x3 : Int32) (nr : Nat → Int32) (ss : Nat → Int32) (sc : Int32) (ns : Nat → Int32) (nc : Int32) (ps : Nat → Int32) (dg : Nat → Int32) (pn : Int32) (pj : Int32) (wh : Int32) (st : Nat → Int32) (sn : Int32) (lf : Int32) (fw : Nat → Int32) (mr : Nat → Int32) (zn : Int32) (zs : Nat → Int32) (tn : Int32) (ts : Nat → Int32) (yn : Int32) (ys : Nat → Int32) (en : Int32) (es : Nat → Int32) (ew : Int32) (cv : Nat → Int32) (H : Heap) (locs : List Loc) (ls : Array Slot) (hm : mL_arm12 N L xs (mL_law N L xs n) n x3 nr ss sc ns nc ps dg pn pj wh st sn lf fw mr zn zs tn ts yn ys en es ew cv = some 1) (hP : va_P D vwCl (wL q u cA N nr ss sc ns nc ps dg pn pj wh st sn lf fw mr zn zs tn ts yn ys en es ew cv) H) (hD : va_D (fun q : Nat => s.heap.size ≤ q) (wL q u cA N nr ss sc ns nc ps dg pn pj wh st sn lf fw mr zn zs tn ts yn ys en es ew cv)) (hS : va_S (fun q : Nat => s.heap.size ≤ q) s.heap H locs) (hl : lv_has ls 4 [(0, .ref b), (1, .ref (q 0)), (2, .ref (u 0)), (3, .int x3)]) : W p l e room_1 s m #[Value.ref b] below meth c H locs 19 2152 (lw_Z below #[Value.ref b] s) (F0 m 488 ls []) := by
  obtain ⟨hx, hb, hr, hml, hown, hts, hX, hbl, hlocks, hgv⟩ := C0
  have hown : s.vm.findClass RXL = some m.cls := hown
  have hts : ∀ w ∈ W0, w.before _ s = true := fun w h => hts w (W0_in w h)
  have hA : ∀ q : Nat, s.heap.size ≤ q → (fun q : Nat => s.heap.size ≤ q) q := fun _ h => h
  have hbA : ¬ (fun q : Nat => s.heap.size ≤ q) b := Nat.not_le.mpr hbl
  unfold mL_arm12 at hm
  refine lv_aload_n hx hb dL_law_488 rfl (lv_at hl 1 rfl) ?_
  refine lv_aload_n hx hb dL_law_489 rfl (lv_at hl 0 rfl) ?_
  refine lv_iload_n hx hb dL_law_490 rfl (lv_at hl 3 rfl) ?_
  refine lv_iconst (v := 1) hx hb dL_law_491 (by decide) ?_
  refine lv_iadd hx hb dL_law_492 ?_
  obtain ⟨hg1, hm⟩ := kg_s hm
  refine va_sld hx hb hX hbl hbA hS hg1 dL_law_493 ?_
  obtain ⟨⟨r2, st_2, sn_2, lf_2⟩, hm2, hm⟩ := kb_s hm
  dsimp only at hm
  refine k_vi (As := [.int (xs (x3 + 1).toNatClampNeg)]) (rest := []) (w2 := (wL q u cA N nr ss sc ns nc ps dg pn pj wh st_2 sn_2 lf_2 fw mr zn zs tn ts yn ys en es ew cv)) ⟨hx, hb, hml, hown, hts⟩ (cF_hereditary l D q cA N H.size nr ss sc ns nc ps dg pn pj wh st sn lf fw (xs (x3 + 1).toNatClampNeg) n r2 st_2 sn_2 lf_2 hm2) (cwV 1 hts (gV wd_293 wd_294 wd_295 wd_36 wd_296) rfl rfl rfl (by decide +kernel) ⟨Nat.le_of_ble_eq_true rfl, Nat.le_of_ble_eq_true rfl⟩) hK hN hP hD hS hA [0, 1, 2, 3, 4, 5, 6, 7, 8, 9, 10, 11] [12, 13, 14, 15, 16, 17, 18] [7, 8, 9, 10, 11, 12, 13, 14, 15, 16, 17, 18, 0, 1, 2, 3, 4, 5, 6] ⟨rfl, rfl, by decide, rfl, by decide, by decide, rfl, rfl, by decide⟩ (va_recv hK hP (ci := 4) (q0 := 0) rfl rfl) rfl hl.1 rfl (Nat.le_of_ble_eq_true rfl) dL_law_494 ⟨Nat.le_of_ble_eq_true rfl, Nat.le_of_ble_eq_true rfl⟩ (fun _ H locs hP hD hS => ?_)
  refine lv_aload_n hx hb dL_law_497 rfl (lv_at hl 2 rfl) ?_
  refine lv_aload_n hx hb dL_law_498 rfl (lv_at hl 0 rfl) ?_
  refine lv_iload_n hx hb dL_law_499 rfl (lv_at hl 3 rfl) ?_
  refine lv_iconst (v := 1) hx hb dL_law_500 (by decide) ?_
  refine lv_iadd hx hb dL_law_501 ?_
  obtain ⟨hg3, hm⟩ := kg_s hm
  refine va_sld hx hb hX hbl hbA hS hg3 dL_law_502 ?_
  obtain ⟨⟨r4, en_4, es_4, ew_4⟩, hm4, hm⟩ := kb_s hm
  dsimp only at hm
  refine k_vi (As := [.int (xs (x3 + 1).toNatClampNeg)]) (rest := [.int r2]) (w2 := (wL q u cA N nr ss sc ns nc ps dg pn pj wh st_2 sn_2 lf_2 fw mr zn zs tn ts yn ys en_4 es_4 ew_4 cv)) ⟨hx, hb, hml, hown, hts⟩ (cM_hereditary l D u cA N H.size mr zn zs tn ts yn ys en es ew cv (xs (x3 + 1).toNatClampNeg) n r4 en_4 es_4 ew_4 hm4) (cwV 1 hts (gV wd_507 wd_508 wd_509 wd_41 wd_510) rfl rfl rfl (by decide +kernel) ⟨Nat.le_of_ble_eq_true rfl, Nat.le_of_ble_eq_true rfl⟩) hK hN hP hD hS hA [12, 13, 14, 15, 16, 17, 18] [0, 1, 2, 3, 4, 5, 6, 7, 8, 9, 10, 11] [0, 1, 2, 3, 4, 5, 6, 7, 8, 9, 10, 11, 12, 13, 14, 15, 16, 17, 18] ⟨rfl, rfl, by decide, rfl, by decide, by decide, rfl, rfl, by decide⟩ (va_recv hK hP (ci := 5) (q0 := 12) rfl rfl) rfl hl.1 rfl (Nat.le_of_ble_eq_true rfl) dL_law_503 ⟨Nat.le_of_ble_eq_true rfl, Nat.le_of_ble_eq_true rfl⟩ (fun _ H locs hP hD hS => ?_)
  refine lv_icmp_eq (tgt := 659) hx hb dL_law_506 (by decide) (fun c5 => ?_) (fun c5 => ?_)
  · rw [if_pos c5] at hm
    refine lv_iinc (v := (x3 + 4)) (lv' := [(3, .int (x3 + 4)), (0, .ref b), (1, .ref (q 0)), (2, .ref (u 0))]) hx hb dL_law_659 hl (k := 3) rfl rfl (by decide) rfl (fun ls hl => ?_)
    refine lv_goto (tgt := 28) hx hb dL_law_662 (by decide) ?_
    exact ih (x3 + 4) nr ss sc ns nc ps dg pn pj wh st_2 sn_2 lf_2 fw mr zn zs tn ts yn ys en_4 es_4 ew_4 cv H locs ls hm hP hD hS (lv_sub hl [1, 2, 3, 0] rfl)
  · rw [if_neg c5] at hm
    exact absurd (Option.some.inj hm) (by decide)
set_option maxHeartbeats 4000000 in
set_option maxRecDepth 100000 in
theorem law_arm13 {p : Program} {e : Env} {s : State} {m : MethodId} {below : List Frame} {meth : Method} {c : Code} (l : Launch) {b L : Nat} {xs : Nat → Int32} (C0 : lw_At p s m meth c b L xs) {D : va_G} {q u : Nat → Nat} {cA : ClassId} {N : Nat} (hK : va_K D vwCl (kTy cA) s) (hN : kN s) (n : Nat) (ih : ∀ (x3 : Int32) (nr : Nat → Int32) (ss : Nat → Int32) (sc : Int32) (ns : Nat → Int32) (nc : Int32) (ps : Nat → Int32) (dg : Nat → Int32) (pn : Int32) (pj : Int32) (wh : Int32) (st : Nat → Int32) (sn : Int32) (lf : Int32) (fw : Nat → Int32) (mr : Nat → Int32) (zn : Int32) (zs : Nat → Int32) (tn : Int32) (ts : Nat → Int32) (yn : Int32) (ys : Nat → Int32) (en : Int32) (es : Nat → Int32) (ew : Int32) (cv : Nat → Int32) (H : Heap) (locs : List Loc) (ls : Array Slot), mL_law N L xs n x3 nr ss sc ns nc ps dg pn pj wh st sn lf fw mr zn zs tn ts yn ys en es ew cv = some 1 → va_P D vwCl (wL q u cA N nr ss sc ns nc ps dg pn pj wh st sn lf fw mr zn zs tn ts yn ys en es ew cv) H → va_D (fun q : Nat => s.heap.size ≤ q) (wL q u cA N nr ss sc ns nc ps dg pn pj wh st sn lf fw mr zn zs tn ts yn ys en es ew cv) → va_S (fun q : Nat => s.heap.size ≤ q) s.heap H locs → lv_has ls 4 [(0, .ref b), (1, .ref (q 0)), (2, .ref (u 0)), (3, .int x3)] → W p l e room_1 s m #[Value.ref b] below meth c H locs 19 2152 (lw_Z below #[Value.ref b] s) (F0 m 28 ls [])) (x3 : Int32) (nr : Nat → Int32) (ss : Nat → Int32) (sc : Int32) (ns : Nat → Int32) (nc : Int32) (ps : Nat → Int32) (dg : Nat → Int32) (pn : Int32) (pj : Int32) (wh : Int32) (st : Nat → Int32) (sn : Int32) (lf : Int32) (fw : Nat → Int32) (mr : Nat → Int32) (zn : Int32) (zs : Nat → Int32) (tn : Int32) (ts : Nat → Int32) (yn : Int32) (ys : Nat → Int32) (en : Int32) (es : Nat → Int32) (ew : Int32) (cv : Nat → Int32) (H : Heap) (locs : List Loc) (ls : Array Slot) (hm : mL_arm13 N L xs (mL_law N L xs n) n x3 nr ss sc ns nc ps dg pn pj wh st sn lf fw mr zn zs tn ts yn ys en es ew cv = some 1) (hP : va_P D vwCl (wL q u cA N nr ss sc ns nc ps dg pn pj wh st sn lf fw mr zn zs tn ts yn ys en es ew cv) H) (hD : va_D (fun q : Nat => s.heap.size ≤ q) (wL q u cA N nr ss sc ns nc ps dg pn pj wh st sn lf fw mr zn zs tn ts yn ys en es ew cv)) (hS : va_S (fun q : Nat => s.heap.size ≤ q) s.heap H locs) (hl : lv_has ls 4 [(0, .ref b), (1, .ref (q 0)), (2, .ref (u 0)), (3, .int x3)]) : W p l e room_1 s m #[Value.ref b] below meth c H locs 19 2152 (lw_Z below #[Value.ref b] s) (F0 m 511 ls []) := by
  obtain ⟨hx, hb, hr, hml, hown, hts, hX, hbl, hlocks, hgv⟩ := C0
  have hown : s.vm.findClass RXL = some m.cls := hown
  have hts : ∀ w ∈ W0, w.before _ s = true := fun w h => hts w (W0_in w h)
  have hA : ∀ q : Nat, s.heap.size ≤ q → (fun q : Nat => s.heap.size ≤ q) q := fun _ h => h
  have hbA : ¬ (fun q : Nat => s.heap.size ≤ q) b := Nat.not_le.mpr hbl
  unfold mL_arm13 at hm
  refine lv_aload_n hx hb dL_law_511 rfl (lv_at hl 1 rfl) ?_
  refine lv_aload_n hx hb dL_law_512 rfl (lv_at hl 0 rfl) ?_
  refine lv_iload_n hx hb dL_law_513 rfl (lv_at hl 3 rfl) ?_
  refine lv_iconst (v := 1) hx hb dL_law_514 (by decide) ?_
  refine lv_iadd hx hb dL_law_515 ?_
  obtain ⟨hg1, hm⟩ := kg_s hm
  refine va_sld hx hb hX hbl hbA hS hg1 dL_law_516 ?_
  refine lv_aload_n hx hb dL_law_517 rfl (lv_at hl 0 rfl) ?_
  refine lv_iload_n hx hb dL_law_518 rfl (lv_at hl 3 rfl) ?_
  refine lv_iconst (v := 2) hx hb dL_law_519 (by decide) ?_
  refine lv_iadd hx hb dL_law_520 ?_
  obtain ⟨hg2, hm⟩ := kg_s hm
  refine va_sld hx hb hX hbl hbA hS hg2 dL_law_521 ?_
  obtain ⟨⟨r3, st_3, sn_3, lf_3⟩, hm3, hm⟩ := kb_s hm
  dsimp only at hm
  refine k_vi (As := [.int (xs (x3 + 1).toNatClampNeg), .int (xs (x3 + 2).toNatClampNeg)]) (rest := []) (w2 := (wL q u cA N nr ss sc ns nc ps dg pn pj wh st_3 sn_3 lf_3 fw mr zn zs tn ts yn ys en es ew cv)) ⟨hx, hb, hml, hown, hts⟩ (cF_step l D q cA N H.size nr ss sc ns nc ps dg pn pj wh st sn lf fw (xs (x3 + 1).toNatClampNeg) (xs (x3 + 2).toNatClampNeg) n r3 st_3 sn_3 lf_3 hm3) (cwV 2 hts (gV wd_317 wd_318 wd_319 wd_36 wd_320) rfl rfl rfl (by decide +kernel) ⟨Nat.le_of_ble_eq_true rfl, Nat.le_of_ble_eq_true rfl⟩) hK hN hP hD hS hA [0, 1, 2, 3, 4, 5, 6, 7, 8, 9, 10, 11] [12, 13, 14, 15, 16, 17, 18] [7, 8, 9, 10, 11, 12, 13, 14, 15, 16, 17, 18, 0, 1, 2, 3, 4, 5, 6] ⟨rfl, rfl, by decide, rfl, by decide, by decide, rfl, rfl, by decide⟩ (va_recv hK hP (ci := 4) (q0 := 0) rfl rfl) rfl hl.1 rfl (Nat.le_of_ble_eq_true rfl) dL_law_522 ⟨Nat.le_of_ble_eq_true rfl, Nat.le_of_ble_eq_true rfl⟩ (fun _ H locs hP hD hS => ?_)
  refine lv_aload_n hx hb dL_law_525 rfl (lv_at hl 2 rfl) ?_
  refine lv_aload_n hx hb dL_law_526 rfl (lv_at hl 0 rfl) ?_
  refine lv_iload_n hx hb dL_law_527 rfl (lv_at hl 3 rfl) ?_
  refine lv_iconst (v := 1) hx hb dL_law_528 (by decide) ?_
  refine lv_iadd hx hb dL_law_529 ?_
  obtain ⟨hg4, hm⟩ := kg_s hm
  refine va_sld hx hb hX hbl hbA hS hg4 dL_law_530 ?_
  refine lv_aload_n hx hb dL_law_531 rfl (lv_at hl 0 rfl) ?_
  refine lv_iload_n hx hb dL_law_532 rfl (lv_at hl 3 rfl) ?_
  refine lv_iconst (v := 2) hx hb dL_law_533 (by decide) ?_
  refine lv_iadd hx hb dL_law_534 ?_
  obtain ⟨hg5, hm⟩ := kg_s hm
  refine va_sld hx hb hX hbl hbA hS hg5 dL_law_535 ?_
  obtain ⟨⟨r6, en_6, es_6, ew_6⟩, hm6, hm⟩ := kb_s hm
  dsimp only at hm
  refine k_vi (As := [.int (xs (x3 + 1).toNatClampNeg), .int (xs (x3 + 2).toNatClampNeg)]) (rest := [.int r3]) (w2 := (wL q u cA N nr ss sc ns nc ps dg pn pj wh st_3 sn_3 lf_3 fw mr zn zs tn ts yn ys en_6 es_6 ew_6 cv)) ⟨hx, hb, hml, hown, hts⟩ (cM_step l D u cA N H.size mr zn zs tn ts yn ys en es ew cv (xs (x3 + 1).toNatClampNeg) (xs (x3 + 2).toNatClampNeg) n r6 en_6 es_6 ew_6 hm6) (cwV 2 hts (gV wd_520 wd_521 wd_522 wd_41 wd_523) rfl rfl rfl (by decide +kernel) ⟨Nat.le_of_ble_eq_true rfl, Nat.le_of_ble_eq_true rfl⟩) hK hN hP hD hS hA [12, 13, 14, 15, 16, 17, 18] [0, 1, 2, 3, 4, 5, 6, 7, 8, 9, 10, 11] [0, 1, 2, 3, 4, 5, 6, 7, 8, 9, 10, 11, 12, 13, 14, 15, 16, 17, 18] ⟨rfl, rfl, by decide, rfl, by decide, by decide, rfl, rfl, by decide⟩ (va_recv hK hP (ci := 5) (q0 := 12) rfl rfl) rfl hl.1 rfl (Nat.le_of_ble_eq_true rfl) dL_law_536 ⟨Nat.le_of_ble_eq_true rfl, Nat.le_of_ble_eq_true rfl⟩ (fun _ H locs hP hD hS => ?_)
  refine lv_icmp_eq (tgt := 659) hx hb dL_law_539 (by decide) (fun c7 => ?_) (fun c7 => ?_)
  · rw [if_pos c7] at hm
    refine lv_iinc (v := (x3 + 4)) (lv' := [(3, .int (x3 + 4)), (0, .ref b), (1, .ref (q 0)), (2, .ref (u 0))]) hx hb dL_law_659 hl (k := 3) rfl rfl (by decide) rfl (fun ls hl => ?_)
    refine lv_goto (tgt := 28) hx hb dL_law_662 (by decide) ?_
    exact ih (x3 + 4) nr ss sc ns nc ps dg pn pj wh st_3 sn_3 lf_3 fw mr zn zs tn ts yn ys en_6 es_6 ew_6 cv H locs ls hm hP hD hS (lv_sub hl [1, 2, 3, 0] rfl)
  · rw [if_neg c7] at hm
    exact absurd (Option.some.inj hm) (by decide)
set_option maxHeartbeats 4000000 in
set_option maxRecDepth 100000 in
theorem law_arm14 {p : Program} {e : Env} {s : State} {m : MethodId} {below : List Frame} {meth : Method} {c : Code} (l : Launch) {b L : Nat} {xs : Nat → Int32} (C0 : lw_At p s m meth c b L xs) {D : va_G} {q u : Nat → Nat} {cA : ClassId} {N : Nat} (hK : va_K D vwCl (kTy cA) s) (hN : kN s) (n : Nat) (ih : ∀ (x3 : Int32) (nr : Nat → Int32) (ss : Nat → Int32) (sc : Int32) (ns : Nat → Int32) (nc : Int32) (ps : Nat → Int32) (dg : Nat → Int32) (pn : Int32) (pj : Int32) (wh : Int32) (st : Nat → Int32) (sn : Int32) (lf : Int32) (fw : Nat → Int32) (mr : Nat → Int32) (zn : Int32) (zs : Nat → Int32) (tn : Int32) (ts : Nat → Int32) (yn : Int32) (ys : Nat → Int32) (en : Int32) (es : Nat → Int32) (ew : Int32) (cv : Nat → Int32) (H : Heap) (locs : List Loc) (ls : Array Slot), mL_law N L xs n x3 nr ss sc ns nc ps dg pn pj wh st sn lf fw mr zn zs tn ts yn ys en es ew cv = some 1 → va_P D vwCl (wL q u cA N nr ss sc ns nc ps dg pn pj wh st sn lf fw mr zn zs tn ts yn ys en es ew cv) H → va_D (fun q : Nat => s.heap.size ≤ q) (wL q u cA N nr ss sc ns nc ps dg pn pj wh st sn lf fw mr zn zs tn ts yn ys en es ew cv) → va_S (fun q : Nat => s.heap.size ≤ q) s.heap H locs → lv_has ls 4 [(0, .ref b), (1, .ref (q 0)), (2, .ref (u 0)), (3, .int x3)] → W p l e room_1 s m #[Value.ref b] below meth c H locs 19 2152 (lw_Z below #[Value.ref b] s) (F0 m 28 ls [])) (x3 : Int32) (nr : Nat → Int32) (ss : Nat → Int32) (sc : Int32) (ns : Nat → Int32) (nc : Int32) (ps : Nat → Int32) (dg : Nat → Int32) (pn : Int32) (pj : Int32) (wh : Int32) (st : Nat → Int32) (sn : Int32) (lf : Int32) (fw : Nat → Int32) (mr : Nat → Int32) (zn : Int32) (zs : Nat → Int32) (tn : Int32) (ts : Nat → Int32) (yn : Int32) (ys : Nat → Int32) (en : Int32) (es : Nat → Int32) (ew : Int32) (cv : Nat → Int32) (H : Heap) (locs : List Loc) (ls : Array Slot) (hm : mL_arm14 N L xs (mL_law N L xs n) n x3 nr ss sc ns nc ps dg pn pj wh st sn lf fw mr zn zs tn ts yn ys en es ew cv = some 1) (hP : va_P D vwCl (wL q u cA N nr ss sc ns nc ps dg pn pj wh st sn lf fw mr zn zs tn ts yn ys en es ew cv) H) (hD : va_D (fun q : Nat => s.heap.size ≤ q) (wL q u cA N nr ss sc ns nc ps dg pn pj wh st sn lf fw mr zn zs tn ts yn ys en es ew cv)) (hS : va_S (fun q : Nat => s.heap.size ≤ q) s.heap H locs) (hl : lv_has ls 4 [(0, .ref b), (1, .ref (q 0)), (2, .ref (u 0)), (3, .int x3)]) : W p l e room_1 s m #[Value.ref b] below meth c H locs 19 2152 (lw_Z below #[Value.ref b] s) (F0 m 544 ls []) := by
  obtain ⟨hx, hb, hr, hml, hown, hts, hX, hbl, hlocks, hgv⟩ := C0
  have hown : s.vm.findClass RXL = some m.cls := hown
  have hts : ∀ w ∈ W0, w.before _ s = true := fun w h => hts w (W0_in w h)
  have hA : ∀ q : Nat, s.heap.size ≤ q → (fun q : Nat => s.heap.size ≤ q) q := fun _ h => h
  have hbA : ¬ (fun q : Nat => s.heap.size ≤ q) b := Nat.not_le.mpr hbl
  unfold mL_arm14 at hm
  refine lv_aload_n hx hb dL_law_544 rfl (lv_at hl 1 rfl) ?_
  refine lv_aload_n hx hb dL_law_545 rfl (lv_at hl 0 rfl) ?_
  refine lv_iload_n hx hb dL_law_546 rfl (lv_at hl 3 rfl) ?_
  refine lv_iconst (v := 1) hx hb dL_law_547 (by decide) ?_
  refine lv_iadd hx hb dL_law_548 ?_
  obtain ⟨hg1, hm⟩ := kg_s hm
  refine va_sld hx hb hX hbl hbA hS hg1 dL_law_549 ?_
  obtain ⟨⟨r2, st_2, sn_2, lf_2⟩, hm2, hm⟩ := kb_s hm
  dsimp only at hm
  refine k_vi (As := [.int (xs (x3 + 1).toNatClampNeg)]) (rest := []) (w2 := (wL q u cA N nr ss sc ns nc ps dg pn pj wh st_2 sn_2 lf_2 fw mr zn zs tn ts yn ys en es ew cv)) ⟨hx, hb, hml, hown, hts⟩ (cF_obstruction l D q cA N H.size nr ss sc ns nc ps dg pn pj wh st sn lf fw (xs (x3 + 1).toNatClampNeg) n r2 st_2 sn_2 lf_2 hm2) (cwV 1 hts (gV wd_325 wd_326 wd_327 wd_36 wd_328) rfl rfl rfl (by decide +kernel) ⟨Nat.le_of_ble_eq_true rfl, Nat.le_of_ble_eq_true rfl⟩) hK hN hP hD hS hA [0, 1, 2, 3, 4, 5, 6, 7, 8, 9, 10, 11] [12, 13, 14, 15, 16, 17, 18] [7, 8, 9, 10, 11, 12, 13, 14, 15, 16, 17, 18, 0, 1, 2, 3, 4, 5, 6] ⟨rfl, rfl, by decide, rfl, by decide, by decide, rfl, rfl, by decide⟩ (va_recv hK hP (ci := 4) (q0 := 0) rfl rfl) rfl hl.1 rfl (Nat.le_of_ble_eq_true rfl) dL_law_550 ⟨Nat.le_of_ble_eq_true rfl, Nat.le_of_ble_eq_true rfl⟩ (fun _ H locs hP hD hS => ?_)
  refine lv_aload_n hx hb dL_law_553 rfl (lv_at hl 2 rfl) ?_
  refine lv_aload_n hx hb dL_law_554 rfl (lv_at hl 0 rfl) ?_
  refine lv_iload_n hx hb dL_law_555 rfl (lv_at hl 3 rfl) ?_
  refine lv_iconst (v := 1) hx hb dL_law_556 (by decide) ?_
  refine lv_iadd hx hb dL_law_557 ?_
  obtain ⟨hg3, hm⟩ := kg_s hm
  refine va_sld hx hb hX hbl hbA hS hg3 dL_law_558 ?_
  obtain ⟨⟨r4, en_4, es_4, ew_4⟩, hm4, hm⟩ := kb_s hm
  dsimp only at hm
  refine k_vi (As := [.int (xs (x3 + 1).toNatClampNeg)]) (rest := [.int r2]) (w2 := (wL q u cA N nr ss sc ns nc ps dg pn pj wh st_2 sn_2 lf_2 fw mr zn zs tn ts yn ys en_4 es_4 ew_4 cv)) ⟨hx, hb, hml, hown, hts⟩ (cM_obstruction l D u cA N H.size mr zn zs tn ts yn ys en es ew cv (xs (x3 + 1).toNatClampNeg) n r4 en_4 es_4 ew_4 hm4) (cwV 1 hts (gV wd_524 wd_525 wd_526 wd_41 wd_527) rfl rfl rfl (by decide +kernel) ⟨Nat.le_of_ble_eq_true rfl, Nat.le_of_ble_eq_true rfl⟩) hK hN hP hD hS hA [12, 13, 14, 15, 16, 17, 18] [0, 1, 2, 3, 4, 5, 6, 7, 8, 9, 10, 11] [0, 1, 2, 3, 4, 5, 6, 7, 8, 9, 10, 11, 12, 13, 14, 15, 16, 17, 18] ⟨rfl, rfl, by decide, rfl, by decide, by decide, rfl, rfl, by decide⟩ (va_recv hK hP (ci := 5) (q0 := 12) rfl rfl) rfl hl.1 rfl (Nat.le_of_ble_eq_true rfl) dL_law_559 ⟨Nat.le_of_ble_eq_true rfl, Nat.le_of_ble_eq_true rfl⟩ (fun _ H locs hP hD hS => ?_)
  refine lv_icmp_eq (tgt := 659) hx hb dL_law_562 (by decide) (fun c5 => ?_) (fun c5 => ?_)
  · rw [if_pos c5] at hm
    refine lv_iinc (v := (x3 + 4)) (lv' := [(3, .int (x3 + 4)), (0, .ref b), (1, .ref (q 0)), (2, .ref (u 0))]) hx hb dL_law_659 hl (k := 3) rfl rfl (by decide) rfl (fun ls hl => ?_)
    refine lv_goto (tgt := 28) hx hb dL_law_662 (by decide) ?_
    exact ih (x3 + 4) nr ss sc ns nc ps dg pn pj wh st_2 sn_2 lf_2 fw mr zn zs tn ts yn ys en_4 es_4 ew_4 cv H locs ls hm hP hD hS (lv_sub hl [1, 2, 3, 0] rfl)
  · rw [if_neg c5] at hm
    exact absurd (Option.some.inj hm) (by decide)
set_option maxHeartbeats 4000000 in
set_option maxRecDepth 100000 in
theorem law_arm15 {p : Program} {e : Env} {s : State} {m : MethodId} {below : List Frame} {meth : Method} {c : Code} (l : Launch) {b L : Nat} {xs : Nat → Int32} (C0 : lw_At p s m meth c b L xs) {D : va_G} {q u : Nat → Nat} {cA : ClassId} {N : Nat} (hK : va_K D vwCl (kTy cA) s) (hN : kN s) (n : Nat) (ih : ∀ (x3 : Int32) (nr : Nat → Int32) (ss : Nat → Int32) (sc : Int32) (ns : Nat → Int32) (nc : Int32) (ps : Nat → Int32) (dg : Nat → Int32) (pn : Int32) (pj : Int32) (wh : Int32) (st : Nat → Int32) (sn : Int32) (lf : Int32) (fw : Nat → Int32) (mr : Nat → Int32) (zn : Int32) (zs : Nat → Int32) (tn : Int32) (ts : Nat → Int32) (yn : Int32) (ys : Nat → Int32) (en : Int32) (es : Nat → Int32) (ew : Int32) (cv : Nat → Int32) (H : Heap) (locs : List Loc) (ls : Array Slot), mL_law N L xs n x3 nr ss sc ns nc ps dg pn pj wh st sn lf fw mr zn zs tn ts yn ys en es ew cv = some 1 → va_P D vwCl (wL q u cA N nr ss sc ns nc ps dg pn pj wh st sn lf fw mr zn zs tn ts yn ys en es ew cv) H → va_D (fun q : Nat => s.heap.size ≤ q) (wL q u cA N nr ss sc ns nc ps dg pn pj wh st sn lf fw mr zn zs tn ts yn ys en es ew cv) → va_S (fun q : Nat => s.heap.size ≤ q) s.heap H locs → lv_has ls 4 [(0, .ref b), (1, .ref (q 0)), (2, .ref (u 0)), (3, .int x3)] → W p l e room_1 s m #[Value.ref b] below meth c H locs 19 2152 (lw_Z below #[Value.ref b] s) (F0 m 28 ls [])) (x3 : Int32) (nr : Nat → Int32) (ss : Nat → Int32) (sc : Int32) (ns : Nat → Int32) (nc : Int32) (ps : Nat → Int32) (dg : Nat → Int32) (pn : Int32) (pj : Int32) (wh : Int32) (st : Nat → Int32) (sn : Int32) (lf : Int32) (fw : Nat → Int32) (mr : Nat → Int32) (zn : Int32) (zs : Nat → Int32) (tn : Int32) (ts : Nat → Int32) (yn : Int32) (ys : Nat → Int32) (en : Int32) (es : Nat → Int32) (ew : Int32) (cv : Nat → Int32) (H : Heap) (locs : List Loc) (ls : Array Slot) (hm : mL_arm15 N L xs (mL_law N L xs n) n x3 nr ss sc ns nc ps dg pn pj wh st sn lf fw mr zn zs tn ts yn ys en es ew cv = some 1) (hP : va_P D vwCl (wL q u cA N nr ss sc ns nc ps dg pn pj wh st sn lf fw mr zn zs tn ts yn ys en es ew cv) H) (hD : va_D (fun q : Nat => s.heap.size ≤ q) (wL q u cA N nr ss sc ns nc ps dg pn pj wh st sn lf fw mr zn zs tn ts yn ys en es ew cv)) (hS : va_S (fun q : Nat => s.heap.size ≤ q) s.heap H locs) (hl : lv_has ls 4 [(0, .ref b), (1, .ref (q 0)), (2, .ref (u 0)), (3, .int x3)]) : W p l e room_1 s m #[Value.ref b] below meth c H locs 19 2152 (lw_Z below #[Value.ref b] s) (F0 m 567 ls []) := by
  obtain ⟨hx, hb, hr, hml, hown, hts, hX, hbl, hlocks, hgv⟩ := C0
  have hown : s.vm.findClass RXL = some m.cls := hown
  have hts : ∀ w ∈ W0, w.before _ s = true := fun w h => hts w (W0_in w h)
  have hA : ∀ q : Nat, s.heap.size ≤ q → (fun q : Nat => s.heap.size ≤ q) q := fun _ h => h
  have hbA : ¬ (fun q : Nat => s.heap.size ≤ q) b := Nat.not_le.mpr hbl
  unfold mL_arm15 at hm
  refine lv_aload_n hx hb dL_law_567 rfl (lv_at hl 1 rfl) ?_
  refine lv_aload_n hx hb dL_law_568 rfl (lv_at hl 0 rfl) ?_
  refine lv_iload_n hx hb dL_law_569 rfl (lv_at hl 3 rfl) ?_
  refine lv_iconst (v := 1) hx hb dL_law_570 (by decide) ?_
  refine lv_iadd hx hb dL_law_571 ?_
  obtain ⟨hg1, hm⟩ := kg_s hm
  refine va_sld hx hb hX hbl hbA hS hg1 dL_law_572 ?_
  obtain ⟨⟨r2, st_2, sn_2, lf_2⟩, hm2, hm⟩ := kb_s hm
  dsimp only at hm
  refine k_vi (As := [.int (xs (x3 + 1).toNatClampNeg)]) (rest := []) (w2 := (wL q u cA N nr ss sc ns nc ps dg pn pj wh st_2 sn_2 lf_2 fw mr zn zs tn ts yn ys en es ew cv)) ⟨hx, hb, hml, hown, hts⟩ (cF_obstacle l D q cA N H.size nr ss sc ns nc ps dg pn pj wh st sn lf fw (xs (x3 + 1).toNatClampNeg) n r2 st_2 sn_2 lf_2 hm2) (cwV 1 hts (gV wd_334 wd_335 wd_336 wd_36 wd_337) rfl rfl rfl (by decide +kernel) ⟨Nat.le_of_ble_eq_true rfl, Nat.le_of_ble_eq_true rfl⟩) hK hN hP hD hS hA [0, 1, 2, 3, 4, 5, 6, 7, 8, 9, 10, 11] [12, 13, 14, 15, 16, 17, 18] [7, 8, 9, 10, 11, 12, 13, 14, 15, 16, 17, 18, 0, 1, 2, 3, 4, 5, 6] ⟨rfl, rfl, by decide, rfl, by decide, by decide, rfl, rfl, by decide⟩ (va_recv hK hP (ci := 4) (q0 := 0) rfl rfl) rfl hl.1 rfl (Nat.le_of_ble_eq_true rfl) dL_law_573 ⟨Nat.le_of_ble_eq_true rfl, Nat.le_of_ble_eq_true rfl⟩ (fun _ H locs hP hD hS => ?_)
  refine lv_aload_n hx hb dL_law_576 rfl (lv_at hl 2 rfl) ?_
  refine lv_aload_n hx hb dL_law_577 rfl (lv_at hl 0 rfl) ?_
  refine lv_iload_n hx hb dL_law_578 rfl (lv_at hl 3 rfl) ?_
  refine lv_iconst (v := 1) hx hb dL_law_579 (by decide) ?_
  refine lv_iadd hx hb dL_law_580 ?_
  obtain ⟨hg3, hm⟩ := kg_s hm
  refine va_sld hx hb hX hbl hbA hS hg3 dL_law_581 ?_
  obtain ⟨⟨r4, en_4, es_4, ew_4⟩, hm4, hm⟩ := kb_s hm
  dsimp only at hm
  refine k_vi (As := [.int (xs (x3 + 1).toNatClampNeg)]) (rest := [.int r2]) (w2 := (wL q u cA N nr ss sc ns nc ps dg pn pj wh st_2 sn_2 lf_2 fw mr zn zs tn ts yn ys en_4 es_4 ew_4 cv)) ⟨hx, hb, hml, hown, hts⟩ (cM_obstacle l D u cA N H.size mr zn zs tn ts yn ys en es ew cv (xs (x3 + 1).toNatClampNeg) n r4 en_4 es_4 ew_4 hm4) (cwV 1 hts (gV wd_528 wd_529 wd_530 wd_41 wd_531) rfl rfl rfl (by decide +kernel) ⟨Nat.le_of_ble_eq_true rfl, Nat.le_of_ble_eq_true rfl⟩) hK hN hP hD hS hA [12, 13, 14, 15, 16, 17, 18] [0, 1, 2, 3, 4, 5, 6, 7, 8, 9, 10, 11] [0, 1, 2, 3, 4, 5, 6, 7, 8, 9, 10, 11, 12, 13, 14, 15, 16, 17, 18] ⟨rfl, rfl, by decide, rfl, by decide, by decide, rfl, rfl, by decide⟩ (va_recv hK hP (ci := 5) (q0 := 12) rfl rfl) rfl hl.1 rfl (Nat.le_of_ble_eq_true rfl) dL_law_582 ⟨Nat.le_of_ble_eq_true rfl, Nat.le_of_ble_eq_true rfl⟩ (fun _ H locs hP hD hS => ?_)
  refine lv_icmp_eq (tgt := 659) hx hb dL_law_585 (by decide) (fun c5 => ?_) (fun c5 => ?_)
  · rw [if_pos c5] at hm
    refine lv_iinc (v := (x3 + 4)) (lv' := [(3, .int (x3 + 4)), (0, .ref b), (1, .ref (q 0)), (2, .ref (u 0))]) hx hb dL_law_659 hl (k := 3) rfl rfl (by decide) rfl (fun ls hl => ?_)
    refine lv_goto (tgt := 28) hx hb dL_law_662 (by decide) ?_
    exact ih (x3 + 4) nr ss sc ns nc ps dg pn pj wh st_2 sn_2 lf_2 fw mr zn zs tn ts yn ys en_4 es_4 ew_4 cv H locs ls hm hP hD hS (lv_sub hl [1, 2, 3, 0] rfl)
  · rw [if_neg c5] at hm
    exact absurd (Option.some.inj hm) (by decide)
set_option maxHeartbeats 4000000 in
set_option maxRecDepth 100000 in
theorem law_arm16 {p : Program} {e : Env} {s : State} {m : MethodId} {below : List Frame} {meth : Method} {c : Code} (l : Launch) {b L : Nat} {xs : Nat → Int32} (C0 : lw_At p s m meth c b L xs) {D : va_G} {q u : Nat → Nat} {cA : ClassId} {N : Nat} (hK : va_K D vwCl (kTy cA) s) (hN : kN s) (n : Nat) (ih : ∀ (x3 : Int32) (nr : Nat → Int32) (ss : Nat → Int32) (sc : Int32) (ns : Nat → Int32) (nc : Int32) (ps : Nat → Int32) (dg : Nat → Int32) (pn : Int32) (pj : Int32) (wh : Int32) (st : Nat → Int32) (sn : Int32) (lf : Int32) (fw : Nat → Int32) (mr : Nat → Int32) (zn : Int32) (zs : Nat → Int32) (tn : Int32) (ts : Nat → Int32) (yn : Int32) (ys : Nat → Int32) (en : Int32) (es : Nat → Int32) (ew : Int32) (cv : Nat → Int32) (H : Heap) (locs : List Loc) (ls : Array Slot), mL_law N L xs n x3 nr ss sc ns nc ps dg pn pj wh st sn lf fw mr zn zs tn ts yn ys en es ew cv = some 1 → va_P D vwCl (wL q u cA N nr ss sc ns nc ps dg pn pj wh st sn lf fw mr zn zs tn ts yn ys en es ew cv) H → va_D (fun q : Nat => s.heap.size ≤ q) (wL q u cA N nr ss sc ns nc ps dg pn pj wh st sn lf fw mr zn zs tn ts yn ys en es ew cv) → va_S (fun q : Nat => s.heap.size ≤ q) s.heap H locs → lv_has ls 4 [(0, .ref b), (1, .ref (q 0)), (2, .ref (u 0)), (3, .int x3)] → W p l e room_1 s m #[Value.ref b] below meth c H locs 19 2152 (lw_Z below #[Value.ref b] s) (F0 m 28 ls [])) (x3 : Int32) (nr : Nat → Int32) (ss : Nat → Int32) (sc : Int32) (ns : Nat → Int32) (nc : Int32) (ps : Nat → Int32) (dg : Nat → Int32) (pn : Int32) (pj : Int32) (wh : Int32) (st : Nat → Int32) (sn : Int32) (lf : Int32) (fw : Nat → Int32) (mr : Nat → Int32) (zn : Int32) (zs : Nat → Int32) (tn : Int32) (ts : Nat → Int32) (yn : Int32) (ys : Nat → Int32) (en : Int32) (es : Nat → Int32) (ew : Int32) (cv : Nat → Int32) (H : Heap) (locs : List Loc) (ls : Array Slot) (hm : mL_arm16 N L xs (mL_law N L xs n) n x3 nr ss sc ns nc ps dg pn pj wh st sn lf fw mr zn zs tn ts yn ys en es ew cv = some 1) (hP : va_P D vwCl (wL q u cA N nr ss sc ns nc ps dg pn pj wh st sn lf fw mr zn zs tn ts yn ys en es ew cv) H) (hD : va_D (fun q : Nat => s.heap.size ≤ q) (wL q u cA N nr ss sc ns nc ps dg pn pj wh st sn lf fw mr zn zs tn ts yn ys en es ew cv)) (hS : va_S (fun q : Nat => s.heap.size ≤ q) s.heap H locs) (hl : lv_has ls 4 [(0, .ref b), (1, .ref (q 0)), (2, .ref (u 0)), (3, .int x3)]) : W p l e room_1 s m #[Value.ref b] below meth c H locs 19 2152 (lw_Z below #[Value.ref b] s) (F0 m 590 ls []) := by
  obtain ⟨hx, hb, hr, hml, hown, hts, hX, hbl, hlocks, hgv⟩ := C0
  have hown : s.vm.findClass RXL = some m.cls := hown
  have hts : ∀ w ∈ W0, w.before _ s = true := fun w h => hts w (W0_in w h)
  have hA : ∀ q : Nat, s.heap.size ≤ q → (fun q : Nat => s.heap.size ≤ q) q := fun _ h => h
  have hbA : ¬ (fun q : Nat => s.heap.size ≤ q) b := Nat.not_le.mpr hbl
  unfold mL_arm16 at hm
  refine lv_aload_n hx hb dL_law_590 rfl (lv_at hl 1 rfl) ?_
  refine lv_aload_n hx hb dL_law_591 rfl (lv_at hl 0 rfl) ?_
  refine lv_iload_n hx hb dL_law_592 rfl (lv_at hl 3 rfl) ?_
  refine lv_iconst (v := 1) hx hb dL_law_593 (by decide) ?_
  refine lv_iadd hx hb dL_law_594 ?_
  obtain ⟨hg1, hm⟩ := kg_s hm
  refine va_sld hx hb hX hbl hbA hS hg1 dL_law_595 ?_
  obtain ⟨⟨r2, st_2, sn_2, lf_2⟩, hm2, hm⟩ := kb_s hm
  dsimp only at hm
  refine k_vi (As := [.int (xs (x3 + 1).toNatClampNeg)]) (rest := []) (w2 := (wL q u cA N nr ss sc ns nc ps dg pn pj wh st_2 sn_2 lf_2 fw mr zn zs tn ts yn ys en es ew cv)) ⟨hx, hb, hml, hown, hts⟩ (cF_apart l D q cA N H.size nr ss sc ns nc ps dg pn pj wh st sn lf fw (xs (x3 + 1).toNatClampNeg) n r2 st_2 sn_2 lf_2 hm2) (cwV 1 hts (gV wd_347 wd_348 wd_349 wd_36 wd_350) rfl rfl rfl (by decide +kernel) ⟨Nat.le_of_ble_eq_true rfl, Nat.le_of_ble_eq_true rfl⟩) hK hN hP hD hS hA [0, 1, 2, 3, 4, 5, 6, 7, 8, 9, 10, 11] [12, 13, 14, 15, 16, 17, 18] [7, 8, 9, 10, 11, 12, 13, 14, 15, 16, 17, 18, 0, 1, 2, 3, 4, 5, 6] ⟨rfl, rfl, by decide, rfl, by decide, by decide, rfl, rfl, by decide⟩ (va_recv hK hP (ci := 4) (q0 := 0) rfl rfl) rfl hl.1 rfl (Nat.le_of_ble_eq_true rfl) dL_law_596 ⟨Nat.le_of_ble_eq_true rfl, Nat.le_of_ble_eq_true rfl⟩ (fun _ H locs hP hD hS => ?_)
  refine lv_aload_n hx hb dL_law_599 rfl (lv_at hl 2 rfl) ?_
  refine lv_aload_n hx hb dL_law_600 rfl (lv_at hl 0 rfl) ?_
  refine lv_iload_n hx hb dL_law_601 rfl (lv_at hl 3 rfl) ?_
  refine lv_iconst (v := 1) hx hb dL_law_602 (by decide) ?_
  refine lv_iadd hx hb dL_law_603 ?_
  obtain ⟨hg3, hm⟩ := kg_s hm
  refine va_sld hx hb hX hbl hbA hS hg3 dL_law_604 ?_
  obtain ⟨⟨r4, en_4, es_4, ew_4⟩, hm4, hm⟩ := kb_s hm
  dsimp only at hm
  refine k_vi (As := [.int (xs (x3 + 1).toNatClampNeg)]) (rest := [.int r2]) (w2 := (wL q u cA N nr ss sc ns nc ps dg pn pj wh st_2 sn_2 lf_2 fw mr zn zs tn ts yn ys en_4 es_4 ew_4 cv)) ⟨hx, hb, hml, hown, hts⟩ (cM_apart l D u cA N H.size mr zn zs tn ts yn ys en es ew cv (xs (x3 + 1).toNatClampNeg) n r4 en_4 es_4 ew_4 hm4) (cwV 1 hts (gV wd_536 wd_537 wd_538 wd_41 wd_539) rfl rfl rfl (by decide +kernel) ⟨Nat.le_of_ble_eq_true rfl, Nat.le_of_ble_eq_true rfl⟩) hK hN hP hD hS hA [12, 13, 14, 15, 16, 17, 18] [0, 1, 2, 3, 4, 5, 6, 7, 8, 9, 10, 11] [0, 1, 2, 3, 4, 5, 6, 7, 8, 9, 10, 11, 12, 13, 14, 15, 16, 17, 18] ⟨rfl, rfl, by decide, rfl, by decide, by decide, rfl, rfl, by decide⟩ (va_recv hK hP (ci := 5) (q0 := 12) rfl rfl) rfl hl.1 rfl (Nat.le_of_ble_eq_true rfl) dL_law_605 ⟨Nat.le_of_ble_eq_true rfl, Nat.le_of_ble_eq_true rfl⟩ (fun _ H locs hP hD hS => ?_)
  refine lv_icmp_eq (tgt := 659) hx hb dL_law_608 (by decide) (fun c5 => ?_) (fun c5 => ?_)
  · rw [if_pos c5] at hm
    refine lv_iinc (v := (x3 + 4)) (lv' := [(3, .int (x3 + 4)), (0, .ref b), (1, .ref (q 0)), (2, .ref (u 0))]) hx hb dL_law_659 hl (k := 3) rfl rfl (by decide) rfl (fun ls hl => ?_)
    refine lv_goto (tgt := 28) hx hb dL_law_662 (by decide) ?_
    exact ih (x3 + 4) nr ss sc ns nc ps dg pn pj wh st_2 sn_2 lf_2 fw mr zn zs tn ts yn ys en_4 es_4 ew_4 cv H locs ls hm hP hD hS (lv_sub hl [1, 2, 3, 0] rfl)
  · rw [if_neg c5] at hm
    exact absurd (Option.some.inj hm) (by decide)
set_option maxHeartbeats 4000000 in
set_option maxRecDepth 100000 in
theorem law_arm17 {p : Program} {e : Env} {s : State} {m : MethodId} {below : List Frame} {meth : Method} {c : Code} (l : Launch) {b L : Nat} {xs : Nat → Int32} (C0 : lw_At p s m meth c b L xs) {D : va_G} {q u : Nat → Nat} {cA : ClassId} {N : Nat} (hK : va_K D vwCl (kTy cA) s) (hN : kN s) (n : Nat) (ih : ∀ (x3 : Int32) (nr : Nat → Int32) (ss : Nat → Int32) (sc : Int32) (ns : Nat → Int32) (nc : Int32) (ps : Nat → Int32) (dg : Nat → Int32) (pn : Int32) (pj : Int32) (wh : Int32) (st : Nat → Int32) (sn : Int32) (lf : Int32) (fw : Nat → Int32) (mr : Nat → Int32) (zn : Int32) (zs : Nat → Int32) (tn : Int32) (ts : Nat → Int32) (yn : Int32) (ys : Nat → Int32) (en : Int32) (es : Nat → Int32) (ew : Int32) (cv : Nat → Int32) (H : Heap) (locs : List Loc) (ls : Array Slot), mL_law N L xs n x3 nr ss sc ns nc ps dg pn pj wh st sn lf fw mr zn zs tn ts yn ys en es ew cv = some 1 → va_P D vwCl (wL q u cA N nr ss sc ns nc ps dg pn pj wh st sn lf fw mr zn zs tn ts yn ys en es ew cv) H → va_D (fun q : Nat => s.heap.size ≤ q) (wL q u cA N nr ss sc ns nc ps dg pn pj wh st sn lf fw mr zn zs tn ts yn ys en es ew cv) → va_S (fun q : Nat => s.heap.size ≤ q) s.heap H locs → lv_has ls 4 [(0, .ref b), (1, .ref (q 0)), (2, .ref (u 0)), (3, .int x3)] → W p l e room_1 s m #[Value.ref b] below meth c H locs 19 2152 (lw_Z below #[Value.ref b] s) (F0 m 28 ls [])) (x3 : Int32) (nr : Nat → Int32) (ss : Nat → Int32) (sc : Int32) (ns : Nat → Int32) (nc : Int32) (ps : Nat → Int32) (dg : Nat → Int32) (pn : Int32) (pj : Int32) (wh : Int32) (st : Nat → Int32) (sn : Int32) (lf : Int32) (fw : Nat → Int32) (mr : Nat → Int32) (zn : Int32) (zs : Nat → Int32) (tn : Int32) (ts : Nat → Int32) (yn : Int32) (ys : Nat → Int32) (en : Int32) (es : Nat → Int32) (ew : Int32) (cv : Nat → Int32) (H : Heap) (locs : List Loc) (ls : Array Slot) (hm : mL_arm17 N L xs (mL_law N L xs n) n x3 nr ss sc ns nc ps dg pn pj wh st sn lf fw mr zn zs tn ts yn ys en es ew cv = some 1) (hP : va_P D vwCl (wL q u cA N nr ss sc ns nc ps dg pn pj wh st sn lf fw mr zn zs tn ts yn ys en es ew cv) H) (hD : va_D (fun q : Nat => s.heap.size ≤ q) (wL q u cA N nr ss sc ns nc ps dg pn pj wh st sn lf fw mr zn zs tn ts yn ys en es ew cv)) (hS : va_S (fun q : Nat => s.heap.size ≤ q) s.heap H locs) (hl : lv_has ls 4 [(0, .ref b), (1, .ref (q 0)), (2, .ref (u 0)), (3, .int x3)]) : W p l e room_1 s m #[Value.ref b] below meth c H locs 19 2152 (lw_Z below #[Value.ref b] s) (F0 m 613 ls []) := by
  obtain ⟨hx, hb, hr, hml, hown, hts, hX, hbl, hlocks, hgv⟩ := C0
  have hown : s.vm.findClass RXL = some m.cls := hown
  have hts : ∀ w ∈ W0, w.before _ s = true := fun w h => hts w (W0_in w h)
  have hA : ∀ q : Nat, s.heap.size ≤ q → (fun q : Nat => s.heap.size ≤ q) q := fun _ h => h
  have hbA : ¬ (fun q : Nat => s.heap.size ≤ q) b := Nat.not_le.mpr hbl
  unfold mL_arm17 at hm
  refine lv_aload_n hx hb dL_law_613 rfl (lv_at hl 1 rfl) ?_
  refine lv_aload_n hx hb dL_law_614 rfl (lv_at hl 0 rfl) ?_
  refine lv_iload_n hx hb dL_law_615 rfl (lv_at hl 3 rfl) ?_
  refine lv_iconst (v := 1) hx hb dL_law_616 (by decide) ?_
  refine lv_iadd hx hb dL_law_617 ?_
  obtain ⟨hg1, hm⟩ := kg_s hm
  refine va_sld hx hb hX hbl hbA hS hg1 dL_law_618 ?_
  obtain ⟨⟨r2, st_2, sn_2, lf_2⟩, hm2, hm⟩ := kb_s hm
  dsimp only at hm
  refine k_vi (As := [.int (xs (x3 + 1).toNatClampNeg)]) (rest := []) (w2 := (wL q u cA N nr ss sc ns nc ps dg pn pj wh st_2 sn_2 lf_2 fw mr zn zs tn ts yn ys en es ew cv)) ⟨hx, hb, hml, hown, hts⟩ (cF_chosen l D q cA N H.size nr ss sc ns nc ps dg pn pj wh st sn lf fw (xs (x3 + 1).toNatClampNeg) n r2 st_2 sn_2 lf_2 hm2) (cwV 1 hts (gV wd_358 wd_359 wd_360 wd_36 wd_361) rfl rfl rfl (by decide +kernel) ⟨Nat.le_of_ble_eq_true rfl, Nat.le_of_ble_eq_true rfl⟩) hK hN hP hD hS hA [0, 1, 2, 3, 4, 5, 6, 7, 8, 9, 10, 11] [12, 13, 14, 15, 16, 17, 18] [7, 8, 9, 10, 11, 12, 13, 14, 15, 16, 17, 18, 0, 1, 2, 3, 4, 5, 6] ⟨rfl, rfl, by decide, rfl, by decide, by decide, rfl, rfl, by decide⟩ (va_recv hK hP (ci := 4) (q0 := 0) rfl rfl) rfl hl.1 rfl (Nat.le_of_ble_eq_true rfl) dL_law_619 ⟨Nat.le_of_ble_eq_true rfl, Nat.le_of_ble_eq_true rfl⟩ (fun _ H locs hP hD hS => ?_)
  refine lv_aload_n hx hb dL_law_622 rfl (lv_at hl 2 rfl) ?_
  refine lv_aload_n hx hb dL_law_623 rfl (lv_at hl 0 rfl) ?_
  refine lv_iload_n hx hb dL_law_624 rfl (lv_at hl 3 rfl) ?_
  refine lv_iconst (v := 1) hx hb dL_law_625 (by decide) ?_
  refine lv_iadd hx hb dL_law_626 ?_
  obtain ⟨hg3, hm⟩ := kg_s hm
  refine va_sld hx hb hX hbl hbA hS hg3 dL_law_627 ?_
  obtain ⟨⟨r4, en_4, es_4, ew_4⟩, hm4, hm⟩ := kb_s hm
  dsimp only at hm
  refine k_vi (As := [.int (xs (x3 + 1).toNatClampNeg)]) (rest := [.int r2]) (w2 := (wL q u cA N nr ss sc ns nc ps dg pn pj wh st_2 sn_2 lf_2 fw mr zn zs tn ts yn ys en_4 es_4 ew_4 cv)) ⟨hx, hb, hml, hown, hts⟩ (cM_chosen l D u cA N H.size mr zn zs tn ts yn ys en es ew cv (xs (x3 + 1).toNatClampNeg) n r4 en_4 es_4 ew_4 hm4) (cwV 1 hts (gV wd_544 wd_545 wd_546 wd_41 wd_547) rfl rfl rfl (by decide +kernel) ⟨Nat.le_of_ble_eq_true rfl, Nat.le_of_ble_eq_true rfl⟩) hK hN hP hD hS hA [12, 13, 14, 15, 16, 17, 18] [0, 1, 2, 3, 4, 5, 6, 7, 8, 9, 10, 11] [0, 1, 2, 3, 4, 5, 6, 7, 8, 9, 10, 11, 12, 13, 14, 15, 16, 17, 18] ⟨rfl, rfl, by decide, rfl, by decide, by decide, rfl, rfl, by decide⟩ (va_recv hK hP (ci := 5) (q0 := 12) rfl rfl) rfl hl.1 rfl (Nat.le_of_ble_eq_true rfl) dL_law_628 ⟨Nat.le_of_ble_eq_true rfl, Nat.le_of_ble_eq_true rfl⟩ (fun _ H locs hP hD hS => ?_)
  refine lv_icmp_eq (tgt := 659) hx hb dL_law_631 (by decide) (fun c5 => ?_) (fun c5 => ?_)
  · rw [if_pos c5] at hm
    refine lv_iinc (v := (x3 + 4)) (lv' := [(3, .int (x3 + 4)), (0, .ref b), (1, .ref (q 0)), (2, .ref (u 0))]) hx hb dL_law_659 hl (k := 3) rfl rfl (by decide) rfl (fun ls hl => ?_)
    refine lv_goto (tgt := 28) hx hb dL_law_662 (by decide) ?_
    exact ih (x3 + 4) nr ss sc ns nc ps dg pn pj wh st_2 sn_2 lf_2 fw mr zn zs tn ts yn ys en_4 es_4 ew_4 cv H locs ls hm hP hD hS (lv_sub hl [1, 2, 3, 0] rfl)
  · rw [if_neg c5] at hm
    exact absurd (Option.some.inj hm) (by decide)
set_option maxHeartbeats 4000000 in
set_option maxRecDepth 100000 in
theorem law_arm18 {p : Program} {e : Env} {s : State} {m : MethodId} {below : List Frame} {meth : Method} {c : Code} (l : Launch) {b L : Nat} {xs : Nat → Int32} (C0 : lw_At p s m meth c b L xs) {D : va_G} {q u : Nat → Nat} {cA : ClassId} {N : Nat} (hK : va_K D vwCl (kTy cA) s) (hN : kN s) (n : Nat) (ih : ∀ (x3 : Int32) (nr : Nat → Int32) (ss : Nat → Int32) (sc : Int32) (ns : Nat → Int32) (nc : Int32) (ps : Nat → Int32) (dg : Nat → Int32) (pn : Int32) (pj : Int32) (wh : Int32) (st : Nat → Int32) (sn : Int32) (lf : Int32) (fw : Nat → Int32) (mr : Nat → Int32) (zn : Int32) (zs : Nat → Int32) (tn : Int32) (ts : Nat → Int32) (yn : Int32) (ys : Nat → Int32) (en : Int32) (es : Nat → Int32) (ew : Int32) (cv : Nat → Int32) (H : Heap) (locs : List Loc) (ls : Array Slot), mL_law N L xs n x3 nr ss sc ns nc ps dg pn pj wh st sn lf fw mr zn zs tn ts yn ys en es ew cv = some 1 → va_P D vwCl (wL q u cA N nr ss sc ns nc ps dg pn pj wh st sn lf fw mr zn zs tn ts yn ys en es ew cv) H → va_D (fun q : Nat => s.heap.size ≤ q) (wL q u cA N nr ss sc ns nc ps dg pn pj wh st sn lf fw mr zn zs tn ts yn ys en es ew cv) → va_S (fun q : Nat => s.heap.size ≤ q) s.heap H locs → lv_has ls 4 [(0, .ref b), (1, .ref (q 0)), (2, .ref (u 0)), (3, .int x3)] → W p l e room_1 s m #[Value.ref b] below meth c H locs 19 2152 (lw_Z below #[Value.ref b] s) (F0 m 28 ls [])) (x3 : Int32) (nr : Nat → Int32) (ss : Nat → Int32) (sc : Int32) (ns : Nat → Int32) (nc : Int32) (ps : Nat → Int32) (dg : Nat → Int32) (pn : Int32) (pj : Int32) (wh : Int32) (st : Nat → Int32) (sn : Int32) (lf : Int32) (fw : Nat → Int32) (mr : Nat → Int32) (zn : Int32) (zs : Nat → Int32) (tn : Int32) (ts : Nat → Int32) (yn : Int32) (ys : Nat → Int32) (en : Int32) (es : Nat → Int32) (ew : Int32) (cv : Nat → Int32) (H : Heap) (locs : List Loc) (ls : Array Slot) (hm : mL_arm18 N L xs (mL_law N L xs n) n x3 nr ss sc ns nc ps dg pn pj wh st sn lf fw mr zn zs tn ts yn ys en es ew cv = some 1) (hP : va_P D vwCl (wL q u cA N nr ss sc ns nc ps dg pn pj wh st sn lf fw mr zn zs tn ts yn ys en es ew cv) H) (hD : va_D (fun q : Nat => s.heap.size ≤ q) (wL q u cA N nr ss sc ns nc ps dg pn pj wh st sn lf fw mr zn zs tn ts yn ys en es ew cv)) (hS : va_S (fun q : Nat => s.heap.size ≤ q) s.heap H locs) (hl : lv_has ls 4 [(0, .ref b), (1, .ref (q 0)), (2, .ref (u 0)), (3, .int x3)]) : W p l e room_1 s m #[Value.ref b] below meth c H locs 19 2152 (lw_Z below #[Value.ref b] s) (F0 m 636 ls []) := by
  obtain ⟨hx, hb, hr, hml, hown, hts, hX, hbl, hlocks, hgv⟩ := C0
  have hown : s.vm.findClass RXL = some m.cls := hown
  have hts : ∀ w ∈ W0, w.before _ s = true := fun w h => hts w (W0_in w h)
  have hA : ∀ q : Nat, s.heap.size ≤ q → (fun q : Nat => s.heap.size ≤ q) q := fun _ h => h
  have hbA : ¬ (fun q : Nat => s.heap.size ≤ q) b := Nat.not_le.mpr hbl
  unfold mL_arm18 at hm
  refine lv_aload_n hx hb dL_law_636 rfl (lv_at hl 1 rfl) ?_
  refine lv_aload_n hx hb dL_law_637 rfl (lv_at hl 0 rfl) ?_
  refine lv_iload_n hx hb dL_law_638 rfl (lv_at hl 3 rfl) ?_
  refine lv_iconst (v := 1) hx hb dL_law_639 (by decide) ?_
  refine lv_iadd hx hb dL_law_640 ?_
  obtain ⟨hg1, hm⟩ := kg_s hm
  refine va_sld hx hb hX hbl hbA hS hg1 dL_law_641 ?_
  obtain ⟨⟨r2, st_2, sn_2, lf_2, fw_2⟩, hm2, hm⟩ := kb_s hm
  dsimp only at hm
  refine k_vi (As := [.int (xs (x3 + 1).toNatClampNeg)]) (rest := []) (w2 := (wL q u cA N nr ss sc ns nc ps dg pn pj wh st_2 sn_2 lf_2 fw_2 mr zn zs tn ts yn ys en es ew cv)) ⟨hx, hb, hml, hown, hts⟩ (cF_cover l D q cA N H.size nr ss sc ns nc ps dg pn pj wh st sn lf fw (xs (x3 + 1).toNatClampNeg) n r2 st_2 sn_2 lf_2 fw_2 hm2) (cwV 1 hts (gV wd_362 wd_363 wd_364 wd_36 wd_365) rfl rfl rfl (by decide +kernel) ⟨Nat.le_of_ble_eq_true rfl, Nat.le_of_ble_eq_true rfl⟩) hK hN hP hD hS hA [0, 1, 2, 3, 4, 5, 6, 7, 8, 9, 10, 11] [12, 13, 14, 15, 16, 17, 18] [7, 8, 9, 10, 11, 12, 13, 14, 15, 16, 17, 18, 0, 1, 2, 3, 4, 5, 6] ⟨rfl, rfl, by decide, rfl, by decide, by decide, rfl, rfl, by decide⟩ (va_recv hK hP (ci := 4) (q0 := 0) rfl rfl) rfl hl.1 rfl (Nat.le_of_ble_eq_true rfl) dL_law_642 ⟨Nat.le_of_ble_eq_true rfl, Nat.le_of_ble_eq_true rfl⟩ (fun _ H locs hP hD hS => ?_)
  refine lv_aload_n hx hb dL_law_645 rfl (lv_at hl 2 rfl) ?_
  refine lv_aload_n hx hb dL_law_646 rfl (lv_at hl 0 rfl) ?_
  refine lv_iload_n hx hb dL_law_647 rfl (lv_at hl 3 rfl) ?_
  refine lv_iconst (v := 1) hx hb dL_law_648 (by decide) ?_
  refine lv_iadd hx hb dL_law_649 ?_
  obtain ⟨hg3, hm⟩ := kg_s hm
  refine va_sld hx hb hX hbl hbA hS hg3 dL_law_650 ?_
  obtain ⟨⟨r4, en_4, es_4, ew_4, cv_4⟩, hm4, hm⟩ := kb_s hm
  dsimp only at hm
  refine k_vi (As := [.int (xs (x3 + 1).toNatClampNeg)]) (rest := [.int r2]) (w2 := (wL q u cA N nr ss sc ns nc ps dg pn pj wh st_2 sn_2 lf_2 fw_2 mr zn zs tn ts yn ys en_4 es_4 ew_4 cv_4)) ⟨hx, hb, hml, hown, hts⟩ (cM_cover l D u cA N H.size mr zn zs tn ts yn ys en es ew cv (xs (x3 + 1).toNatClampNeg) n r4 en_4 es_4 ew_4 cv_4 hm4) (cwV 1 hts (gV wd_548 wd_549 wd_550 wd_41 wd_551) rfl rfl rfl (by decide +kernel) ⟨Nat.le_of_ble_eq_true rfl, Nat.le_of_ble_eq_true rfl⟩) hK hN hP hD hS hA [12, 13, 14, 15, 16, 17, 18] [0, 1, 2, 3, 4, 5, 6, 7, 8, 9, 10, 11] [0, 1, 2, 3, 4, 5, 6, 7, 8, 9, 10, 11, 12, 13, 14, 15, 16, 17, 18] ⟨rfl, rfl, by decide, rfl, by decide, by decide, rfl, rfl, by decide⟩ (va_recv hK hP (ci := 5) (q0 := 12) rfl rfl) rfl hl.1 rfl (Nat.le_of_ble_eq_true rfl) dL_law_651 ⟨Nat.le_of_ble_eq_true rfl, Nat.le_of_ble_eq_true rfl⟩ (fun _ H locs hP hD hS => ?_)
  refine lv_icmp_eq (tgt := 659) hx hb dL_law_654 (by decide) (fun c5 => ?_) (fun c5 => ?_)
  · rw [if_pos c5] at hm
    refine lv_iinc (v := (x3 + 4)) (lv' := [(3, .int (x3 + 4)), (0, .ref b), (1, .ref (q 0)), (2, .ref (u 0))]) hx hb dL_law_659 hl (k := 3) rfl rfl (by decide) rfl (fun ls hl => ?_)
    refine lv_goto (tgt := 28) hx hb dL_law_662 (by decide) ?_
    exact ih (x3 + 4) nr ss sc ns nc ps dg pn pj wh st_2 sn_2 lf_2 fw_2 mr zn zs tn ts yn ys en_4 es_4 ew_4 cv_4 H locs ls hm hP hD hS (lv_sub hl [1, 2, 3, 0] rfl)
  · rw [if_neg c5] at hm
    exact absurd (Option.some.inj hm) (by decide)
set_option maxHeartbeats 4000000 in
set_option maxRecDepth 100000 in
theorem law_loop {p : Program} {e : Env} {s : State} {m : MethodId} {below : List Frame} {meth : Method} {c : Code} (l : Launch) {b L : Nat} {xs : Nat → Int32} (C0 : lw_At p s m meth c b L xs) {D : va_G} {q u : Nat → Nat} {cA : ClassId} {N : Nat} (hK : va_K D vwCl (kTy cA) s) (hN : kN s) (n : Nat) : ∀ (x3 : Int32) (nr : Nat → Int32) (ss : Nat → Int32) (sc : Int32) (ns : Nat → Int32) (nc : Int32) (ps : Nat → Int32) (dg : Nat → Int32) (pn : Int32) (pj : Int32) (wh : Int32) (st : Nat → Int32) (sn : Int32) (lf : Int32) (fw : Nat → Int32) (mr : Nat → Int32) (zn : Int32) (zs : Nat → Int32) (tn : Int32) (ts : Nat → Int32) (yn : Int32) (ys : Nat → Int32) (en : Int32) (es : Nat → Int32) (ew : Int32) (cv : Nat → Int32) (H : Heap) (locs : List Loc) (ls : Array Slot), mL_law N L xs n x3 nr ss sc ns nc ps dg pn pj wh st sn lf fw mr zn zs tn ts yn ys en es ew cv = some 1 → va_P D vwCl (wL q u cA N nr ss sc ns nc ps dg pn pj wh st sn lf fw mr zn zs tn ts yn ys en es ew cv) H → va_D (fun q : Nat => s.heap.size ≤ q) (wL q u cA N nr ss sc ns nc ps dg pn pj wh st sn lf fw mr zn zs tn ts yn ys en es ew cv) → va_S (fun q : Nat => s.heap.size ≤ q) s.heap H locs → lv_has ls 4 [(0, .ref b), (1, .ref (q 0)), (2, .ref (u 0)), (3, .int x3)] → W p l e room_1 s m #[Value.ref b] below meth c H locs 19 2152 (lw_Z below #[Value.ref b] s) (F0 m 28 ls []) := by
  have C1 := C0
  obtain ⟨hx, hb, hr, hml, hown, hts, hX, hbl, hlocks, hgv⟩ := C0
  have hown : s.vm.findClass RXL = some m.cls := hown
  have hts : ∀ w ∈ W0, w.before _ s = true := fun w h => hts w (W0_in w h)
  have hA : ∀ q : Nat, s.heap.size ≤ q → (fun q : Nat => s.heap.size ≤ q) q := fun _ h => h
  have hbA : ¬ (fun q : Nat => s.heap.size ≤ q) b := Nat.not_le.mpr hbl
  induction n with
  | zero =>
    intro x3 nr ss sc ns nc ps dg pn pj wh st sn lf fw mr zn zs tn ts yn ys en es ew cv H locs ls hm
    cases hm
  | succ n ih =>
    intro x3 nr ss sc ns nc ps dg pn pj wh st sn lf fw mr zn zs tn ts yn ys en es ew cv H locs ls hm hP hD hS hl
    rw [mL_law_e] at hm
    refine lv_iload_n hx hb dL_law_28 rfl (lv_at hl 3 rfl) ?_
    refine lv_aload_n hx hb dL_law_29 rfl (lv_at hl 0 rfl) ?_
    refine va_slen hx hb hX hbl hbA hS dL_law_30 ?_
    refine lv_iconst (v := 4) hx hb dL_law_31 (by decide) ?_
    refine lv_isub hx hb dL_law_32 ?_
    refine lv_icmp_gt (tgt := 665) hx hb dL_law_33 (by decide) (fun c1 => ?_) (fun c1 => ?_)
    · refine lv_iconst (v := 1) hx hb dL_law_665 (by decide) ?_
      refine va_forget (fun q hq => hS.2.2 q hq) ?_
      refine W.widen (k := 600000) (n := 7302250) (Nat.le_of_ble_eq_true rfl) (Nat.le_of_ble_eq_true rfl) ?_
      exact lw_ret hx hb hr hlocks dL_law_666
    · rw [if_neg c1] at hm
      obtain ⟨hg, hm⟩ := kg_s hm
      refine lv_aload_n hx hb dL_law_36 rfl (lv_at hl 0 rfl) ?_
      refine lv_iload_n hx hb dL_law_37 rfl (lv_at hl 3 rfl) ?_
      refine va_sld hx hb hX hbl hbA hS hg dL_law_38 ?_
      refine lv_bipush (v := 31) hx hb dL_law_39 (by decide) ?_
      refine lv_iand hx hb dL_law_41 ?_
      refine lv_topi (fun v ev => ?_)
      have hm := kl_s ev hm
      by_cases c100 : v = 0
      · rw [if_pos c100] at hm
        subst c100
        refine lv_tableIn (tgt := 132) hx hb dL_law_42 (by decide) (by decide) rfl (by decide) ?_
        exact law_arm0 l C1 hK hN n ih x3 nr ss sc ns nc ps dg pn pj wh st sn lf fw mr zn zs tn ts yn ys en es ew cv H locs ls hm hP hD hS hl
      rw [if_neg c100] at hm
      by_cases c101 : v = 1
      · rw [if_pos c101] at hm
        subst c101
        refine lv_tableIn (tgt := 145) hx hb dL_law_42 (by decide) (by decide) rfl (by decide) ?_
        exact law_arm1 l C1 hK hN n ih x3 nr ss sc ns nc ps dg pn pj wh st sn lf fw mr zn zs tn ts yn ys en es ew cv H locs ls hm hP hD hS hl
      rw [if_neg c101] at hm
      by_cases c102 : v = 2
      · rw [if_pos c102] at hm
        subst c102
        refine lv_tableIn (tgt := 178) hx hb dL_law_42 (by decide) (by decide) rfl (by decide) ?_
        exact law_arm2 l C1 hK hN n ih x3 nr ss sc ns nc ps dg pn pj wh st sn lf fw mr zn zs tn ts yn ys en es ew cv H locs ls hm hP hD hS hl
      rw [if_neg c102] at hm
      by_cases c103 : v = 3
      · rw [if_pos c103] at hm
        subst c103
        refine lv_tableIn (tgt := 211) hx hb dL_law_42 (by decide) (by decide) rfl (by decide) ?_
        exact law_arm3 l C1 hK hN n ih x3 nr ss sc ns nc ps dg pn pj wh st sn lf fw mr zn zs tn ts yn ys en es ew cv H locs ls hm hP hD hS hl
      rw [if_neg c103] at hm
      by_cases c104 : v = 4
      · rw [if_pos c104] at hm
        subst c104
        refine lv_tableIn (tgt := 234) hx hb dL_law_42 (by decide) (by decide) rfl (by decide) ?_
        exact law_arm4 l C1 hK hN n ih x3 nr ss sc ns nc ps dg pn pj wh st sn lf fw mr zn zs tn ts yn ys en es ew cv H locs ls hm hP hD hS hl
      rw [if_neg c104] at hm
      by_cases c105 : v = 5
      · rw [if_pos c105] at hm
        subst c105
        refine lv_tableIn (tgt := 257) hx hb dL_law_42 (by decide) (by decide) rfl (by decide) ?_
        exact law_arm5 l C1 hK hN n ih x3 nr ss sc ns nc ps dg pn pj wh st sn lf fw mr zn zs tn ts yn ys en es ew cv H locs ls hm hP hD hS hl
      rw [if_neg c105] at hm
      by_cases c106 : v = 6
      · rw [if_pos c106] at hm
        subst c106
        refine lv_tableIn (tgt := 280) hx hb dL_law_42 (by decide) (by decide) rfl (by decide) ?_
        exact law_arm6 l C1 hK hN n ih x3 nr ss sc ns nc ps dg pn pj wh st sn lf fw mr zn zs tn ts yn ys en es ew cv H locs ls hm hP hD hS hl
      rw [if_neg c106] at hm
      by_cases c107 : v = 7
      · rw [if_pos c107] at hm
        subst c107
        refine lv_tableIn (tgt := 313) hx hb dL_law_42 (by decide) (by decide) rfl (by decide) ?_
        exact law_arm7 l C1 hK hN n ih x3 nr ss sc ns nc ps dg pn pj wh st sn lf fw mr zn zs tn ts yn ys en es ew cv H locs ls hm hP hD hS hl
      rw [if_neg c107] at hm
      by_cases c108 : v = 8
      · rw [if_pos c108] at hm
        subst c108
        refine lv_tableIn (tgt := 346) hx hb dL_law_42 (by decide) (by decide) rfl (by decide) ?_
        exact law_arm8 l C1 hK hN n ih x3 nr ss sc ns nc ps dg pn pj wh st sn lf fw mr zn zs tn ts yn ys en es ew cv H locs ls hm hP hD hS hl
      rw [if_neg c108] at hm
      by_cases c109 : v = 9
      · rw [if_pos c109] at hm
        subst c109
        refine lv_tableIn (tgt := 379) hx hb dL_law_42 (by decide) (by decide) rfl (by decide) ?_
        exact law_arm9 l C1 hK hN n ih x3 nr ss sc ns nc ps dg pn pj wh st sn lf fw mr zn zs tn ts yn ys en es ew cv H locs ls hm hP hD hS hl
      rw [if_neg c109] at hm
      by_cases c110 : v = 10
      · rw [if_pos c110] at hm
        subst c110
        refine lv_tableIn (tgt := 422) hx hb dL_law_42 (by decide) (by decide) rfl (by decide) ?_
        exact law_arm10 l C1 hK hN n ih x3 nr ss sc ns nc ps dg pn pj wh st sn lf fw mr zn zs tn ts yn ys en es ew cv H locs ls hm hP hD hS hl
      rw [if_neg c110] at hm
      by_cases c111 : v = 11
      · rw [if_pos c111] at hm
        subst c111
        refine lv_tableIn (tgt := 455) hx hb dL_law_42 (by decide) (by decide) rfl (by decide) ?_
        exact law_arm11 l C1 hK hN n ih x3 nr ss sc ns nc ps dg pn pj wh st sn lf fw mr zn zs tn ts yn ys en es ew cv H locs ls hm hP hD hS hl
      rw [if_neg c111] at hm
      by_cases c112 : v = 12
      · rw [if_pos c112] at hm
        subst c112
        refine lv_tableIn (tgt := 488) hx hb dL_law_42 (by decide) (by decide) rfl (by decide) ?_
        exact law_arm12 l C1 hK hN n ih x3 nr ss sc ns nc ps dg pn pj wh st sn lf fw mr zn zs tn ts yn ys en es ew cv H locs ls hm hP hD hS hl
      rw [if_neg c112] at hm
      by_cases c113 : v = 13
      · rw [if_pos c113] at hm
        subst c113
        refine lv_tableIn (tgt := 511) hx hb dL_law_42 (by decide) (by decide) rfl (by decide) ?_
        exact law_arm13 l C1 hK hN n ih x3 nr ss sc ns nc ps dg pn pj wh st sn lf fw mr zn zs tn ts yn ys en es ew cv H locs ls hm hP hD hS hl
      rw [if_neg c113] at hm
      by_cases c114 : v = 14
      · rw [if_pos c114] at hm
        subst c114
        refine lv_tableIn (tgt := 544) hx hb dL_law_42 (by decide) (by decide) rfl (by decide) ?_
        exact law_arm14 l C1 hK hN n ih x3 nr ss sc ns nc ps dg pn pj wh st sn lf fw mr zn zs tn ts yn ys en es ew cv H locs ls hm hP hD hS hl
      rw [if_neg c114] at hm
      by_cases c115 : v = 15
      · rw [if_pos c115] at hm
        subst c115
        refine lv_tableIn (tgt := 567) hx hb dL_law_42 (by decide) (by decide) rfl (by decide) ?_
        exact law_arm15 l C1 hK hN n ih x3 nr ss sc ns nc ps dg pn pj wh st sn lf fw mr zn zs tn ts yn ys en es ew cv H locs ls hm hP hD hS hl
      rw [if_neg c115] at hm
      by_cases c116 : v = 16
      · rw [if_pos c116] at hm
        subst c116
        refine lv_tableIn (tgt := 590) hx hb dL_law_42 (by decide) (by decide) rfl (by decide) ?_
        exact law_arm16 l C1 hK hN n ih x3 nr ss sc ns nc ps dg pn pj wh st sn lf fw mr zn zs tn ts yn ys en es ew cv H locs ls hm hP hD hS hl
      rw [if_neg c116] at hm
      by_cases c117 : v = 17
      · rw [if_pos c117] at hm
        subst c117
        refine lv_tableIn (tgt := 613) hx hb dL_law_42 (by decide) (by decide) rfl (by decide) ?_
        exact law_arm17 l C1 hK hN n ih x3 nr ss sc ns nc ps dg pn pj wh st sn lf fw mr zn zs tn ts yn ys en es ew cv H locs ls hm hP hD hS hl
      rw [if_neg c117] at hm
      by_cases c118 : v = 18
      · rw [if_pos c118] at hm
        subst c118
        refine lv_tableIn (tgt := 636) hx hb dL_law_42 (by decide) (by decide) rfl (by decide) ?_
        exact law_arm18 l C1 hK hN n ih x3 nr ss sc ns nc ps dg pn pj wh st sn lf fw mr zn zs tn ts yn ys en es ew cv H locs ls hm hP hD hS hl
      rw [if_neg c118] at hm
      refine lv_tableOut (tgt := 659) hx hb dL_law_42 (kSw v c100 c101 c102 c103 c104 c105 c106 c107 c108 c109 c110 c111 c112 c113 c114 c115 c116 c117 c118) (by decide) ?_
      refine lv_iinc (v := (x3 + 4)) (lv' := [(3, .int (x3 + 4)), (0, .ref b), (1, .ref (q 0)), (2, .ref (u 0))]) hx hb dL_law_659 hl (k := 3) rfl rfl (by decide) rfl (fun ls hl => ?_)
      refine lv_goto (tgt := 28) hx hb dL_law_662 (by decide) ?_
      exact ih (x3 + 4) nr ss sc ns nc ps dg pn pj wh st sn lf fw mr zn zs tn ts yn ys en es ew cv H locs ls hm hP hD hS (lv_sub hl [1, 2, 3, 0] rfl)
