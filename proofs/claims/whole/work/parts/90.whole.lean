set_option maxHeartbeats 4000000 in
set_option maxRecDepth 100000 in
/-- THE LAW, from its entry -/
theorem whole_start {p : Program} {e : Env} {s : State} {m : MethodId} {below : List Frame} {meth : Method} {c : Code} (l : Launch) {b L : Nat} {xs : Nat → Int32} (hL : L ≤ 2049) (C0 : lw_At p s m meth c b L xs) : W p l e room_1 s m #[Value.ref b] below meth c s.heap [] 0 0 (lw_Z below #[Value.ref b] s) (entryFrame m ([Value.ref b] : List Value).toArray 4) := by
  obtain ⟨hx, hb, hr, hml, hown, hts0, hX, hbl, hlocks, hgv⟩ := id C0
  have hown : s.vm.findClass RXL = some m.cls := hown
  have hts : ∀ w ∈ W0, w.before #[Value.ref b] s = true := fun w h => hts0 w (W0_in w h)
  have hN : kN s := kN_of hts0
  have hA : ∀ q : Nat, s.heap.size ≤ q → (fun q : Nat => s.heap.size ≤ q) q := fun _ h => h
  have hbA : ¬ (fun q : Nat => s.heap.size ≤ q) b := Nat.not_le.mpr hbl
  obtain ⟨c0, iS0, hKn0⟩ := u_known (C := RXC) (T := TXC) (N := 2) (n := 2) hts hinXC (hts _ wd_109)
  obtain ⟨c1, iS1, hKn1⟩ := u_known (C := RXE) (T := TXE) (N := 4) (n := 4) hts hinXE (hts _ wd_94)
  obtain ⟨c2, iS2, hKn2⟩ := u_known (C := RXG) (T := TXG) (N := 2) (n := 2) hts hinXG (hts _ wd_53)
  obtain ⟨c3, iS3, hKn3⟩ := u_known (C := RXT) (T := TXT) (N := 10) (n := 10) hts hinXT (hts _ wd_64)
  obtain ⟨c4, iS4, hKn4⟩ := u_known (C := RXF) (T := TXF) (N := 4) (n := 4) hts hinXF (hts _ wd_45)
  obtain ⟨c5, iS5, hKn5⟩ := u_known (C := RXM) (T := TXM) (N := 12) (n := 12) hts hinXM (hts _ wd_384)
  obtain ⟨dC, dI, hKc⟩ : ∃ (dC : Nat → ClassId) (dI : Nat → Nat → Nat), ∀ (k : Nat) (q : vw_C), vwCl[k]? = some q → u_Kn s q.1 q.2.1 q.2.2 (dC k) (dI k) := by
    refine ⟨fun k => if k = 0 then c0 else if k = 1 then c1 else if k = 2 then c2 else if k = 3 then c3 else if k = 4 then c4 else c5, fun k => if k = 0 then iS0 else if k = 1 then iS1 else if k = 2 then iS2 else if k = 3 then iS3 else if k = 4 then iS4 else iS5, ?_⟩
    intro k q hq
    match k, hq with
    | 0, hq => cases hq; exact hKn0
    | 1, hq => cases hq; exact hKn1
    | 2, hq => cases hq; exact hKn2
    | 3, hq => cases hq; exact hKn3
    | 4, hq => cases hq; exact hKn4
    | 5, hq => cases hq; exact hKn5
    | k + 6, hq => simp [vwCl] at hq
  obtain ⟨cA, hca1, hca2⟩ := k_arr (hts _ wd_62)
  have hK : va_K (dC, dI) vwCl (kTy cA) s := ⟨hKc, fun k q h => by
    match k, h with
    | 0, h => cases h; exact ⟨hca1, hca2⟩
    | k + 1, h => simp at h⟩
  have hS : va_S (fun q : Nat => s.heap.size ≤ q) s.heap s.heap [] := va_S.rf
  have hP : va_P (dC, dI) vwCl [] s.heap := fun k q h => by simp at h
  have hD : va_D (fun q : Nat => s.heap.size ≤ q) [] := ⟨fun i j p q h => by simp at h, fun k q h => by simp at h⟩
  obtain ⟨hN1, hN9⟩ := kNv_19 (kC L xs)
  obtain ⟨N, hNe⟩ : ∃ N, N = kNv (kC L xs) := ⟨_, rfl⟩
  rw [← hNe] at hN1 hN9
  obtain ⟨n, hm⟩ := mL_ok N L xs hN1 hN9 hL
  have hl := lv_entry ([.ref b]) (n := 4) (Nat.le_of_ble_eq_true rfl)
  rw [lg_entry_eq]
  generalize (lg_sl ([.ref b]) ++ List.replicate (4 - (lg_sl ([.ref b])).length) Slot.unset).toArray = ls at hl ⊢
  have hl : lv_has ls 4 [(0, .ref b)] := hl
  refine va_new (ci := 4) (fs := [.null, .null, .null, .null]) (C := RXF) (T := TXF) (N := 4) hx hb hts hinXF tyXF tyXF_ok hown (hts _ wd_44) (hts _ wd_45) (hts _ wd_36) hK hP hD hS hA rfl (fun j hj => by rcases (show j = 0 ∨ j = 1 ∨ j = 2 ∨ j = 3 by omega) with rfl | rfl | rfl | rfl <;> rfl) (Nat.le_of_ble_eq_true rfl) (Nat.le_of_ble_eq_true rfl) dL_law_0 (fun j1 H hP hD hS => ?_)
  have hP : va_P (dC, dI) vwCl [(j1, .inr (4, [.null, .null, .null, .null]))] H := hP
  have hD : va_D (fun q : Nat => s.heap.size ≤ q) [(j1, .inr (4, [.null, .null, .null, .null]))] := hD
  refine W.widen (k := 1) (n := 4) (Nat.le_refl _) (Nat.le_refl _) ?_
  refine lv_dup hx hb dL_law_3 rfl ?_
  refine lv_aload_n hx hb dL_law_4 rfl (lv_at hl 0 rfl) ?_
  refine lv_iconst (v := 0) hx hb dL_law_5 (by decide) ?_
  refine k_cell (rest := [.ref j1, .ref j1]) ⟨hx, hb, hml, hown, hts⟩ hX hbl hbA (cwS 2 hts (gS wd_380 wd_381 wd_35 wd_382) rfl rfl rfl (by decide +kernel) ⟨Nat.le_of_ble_eq_true rfl, Nat.le_of_ble_eq_true rfl⟩) hP hD hS hA hl.1 (Nat.le_of_ble_eq_true rfl) dL_law_6 ⟨Nat.le_of_ble_eq_true rfl, Nat.le_of_ble_eq_true rfl⟩ (fun H locs hP hD hS => ?_)
  refine k_ci (As := [.int (kC L xs)]) (rest := [.ref j1]) (w3 := (fun u : Nat × Nat × Nat × Nat × Nat × Nat × Nat × Nat × Nat × Nat × Nat => [(j1, .inr (4, [.ref u.1, .ref u.2.2.1, .ref u.2.2.2.2.2.2.2.1, .ref u.2.2.2.2.2.2.2.2.2.1])), (u.2.2.1, .inr (3, [.ref u.1, .ref u.2.2.2.1, .int 0, .ref u.2.2.2.2.1, .int 0, .ref u.2.2.2.2.2.1, .ref u.2.2.2.2.2.2.1, .int 0, .int 0, .int 0])), (u.2.2.2.1, .inl (cA, (2 ^ (N - 1)), .inl (fun _ => 0))), (u.2.2.2.2.1, .inl (cA, (2 ^ (N - 1)), .inl (fun _ => 0))), (u.2.2.2.2.2.1, .inl (cA, N, .inl (fun _ => 0))), (u.2.2.2.2.2.2.1, .inl (cA, N, .inl (fun _ => 0))), (u.2.2.2.2.2.2.2.1, .inr (1, [.ref u.1, .ref u.2.2.2.2.2.2.2.2.1, .int 0, .int 0])), (u.2.2.2.2.2.2.2.2.1, .inl (cA, N, .inl (fun _ => 0))), (u.2.2.2.2.2.2.2.2.2.1, .inr (0, [.ref u.1, .ref u.2.2.2.2.2.2.2.2.2.2])), (u.1, .inr (2, [.int (nI N), .ref u.2.1])), (u.2.1, .inl (cA, N, .inl (fun _ => 0))), (u.2.2.2.2.2.2.2.2.2.2, .inl (cA, (2 ^ N), .inl (fun _ => 0)))])) ⟨hx, hb, hml, hown, hts⟩ (cF_init l (dC, dI) cA j1 H.size N (kC L xs) hNe hN1 hN9) (cwI 1 hts (gC wd_48) rfl rfl rfl (hts _ wd_36) (hts _ wd_46) (hts _ wd_47) rfl (by decide +kernel) ⟨Nat.le_of_ble_eq_true rfl, Nat.le_of_ble_eq_true rfl⟩) hK hN hP hD hS hA [0] [] [0, 1, 2, 3, 4, 5, 6, 7, 8, 9, 10, 11] ⟨rfl, rfl, by decide⟩ (fun u => ⟨rfl, rfl, by decide, rfl, by decide, by decide, rfl, rfl, by decide⟩) rfl hl.1 rfl (Nat.le_of_ble_eq_true rfl) dL_law_9 ⟨Nat.le_of_ble_eq_true rfl, Nat.le_of_ble_eq_true rfl⟩ (fun u H locs hP hD hS => ?_)
  obtain ⟨j2, j3, j4, j5, j6, j7, j8, j9, j10, j11, j12⟩ := u
  have hP : va_P (dC, dI) vwCl [(j1, .inr (4, [.ref j2, .ref j4, .ref j9, .ref j11])), (j4, .inr (3, [.ref j2, .ref j5, .int 0, .ref j6, .int 0, .ref j7, .ref j8, .int 0, .int 0, .int 0])), (j5, .inl (cA, (2 ^ (N - 1)), .inl (fun _ => 0))), (j6, .inl (cA, (2 ^ (N - 1)), .inl (fun _ => 0))), (j7, .inl (cA, N, .inl (fun _ => 0))), (j8, .inl (cA, N, .inl (fun _ => 0))), (j9, .inr (1, [.ref j2, .ref j10, .int 0, .int 0])), (j10, .inl (cA, N, .inl (fun _ => 0))), (j11, .inr (0, [.ref j2, .ref j12])), (j2, .inr (2, [.int (nI N), .ref j3])), (j3, .inl (cA, N, .inl (fun _ => 0))), (j12, .inl (cA, (2 ^ N), .inl (fun _ => 0)))] H := hP
  have hD : va_D (fun q : Nat => s.heap.size ≤ q) [(j1, .inr (4, [.ref j2, .ref j4, .ref j9, .ref j11])), (j4, .inr (3, [.ref j2, .ref j5, .int 0, .ref j6, .int 0, .ref j7, .ref j8, .int 0, .int 0, .int 0])), (j5, .inl (cA, (2 ^ (N - 1)), .inl (fun _ => 0))), (j6, .inl (cA, (2 ^ (N - 1)), .inl (fun _ => 0))), (j7, .inl (cA, N, .inl (fun _ => 0))), (j8, .inl (cA, N, .inl (fun _ => 0))), (j9, .inr (1, [.ref j2, .ref j10, .int 0, .int 0])), (j10, .inl (cA, N, .inl (fun _ => 0))), (j11, .inr (0, [.ref j2, .ref j12])), (j2, .inr (2, [.int (nI N), .ref j3])), (j3, .inl (cA, N, .inl (fun _ => 0))), (j12, .inl (cA, (2 ^ N), .inl (fun _ => 0)))] := hD
  refine W.widen (k := 12) (n := 1082) (Nat.le_refl _) (Nat.le_refl _) ?_
  refine lv_astore_n (lv' := [(1, .ref j1), (0, .ref b)]) hx hb dL_law_12 rfl hl (by decide) rfl (fun ls hl => ?_)
  refine va_new (ci := 5) (fs := [.int 0, .null, .int 0, .null, .int 0, .null, .int 0, .null, .int 0, .null, .int 0, .null]) (C := RXM) (T := TXM) (N := 12) hx hb hts hinXM tyXM tyXM_ok hown (hts _ wd_383) (hts _ wd_384) (hts _ wd_41) hK hP hD hS hA rfl (fun j hj => by rcases (show j = 0 ∨ j = 1 ∨ j = 2 ∨ j = 3 ∨ j = 4 ∨ j = 5 ∨ j = 6 ∨ j = 7 ∨ j = 8 ∨ j = 9 ∨ j = 10 ∨ j = 11 by omega) with rfl | rfl | rfl | rfl | rfl | rfl | rfl | rfl | rfl | rfl | rfl | rfl <;> rfl) (Nat.le_of_ble_eq_true rfl) (Nat.le_of_ble_eq_true rfl) dL_law_13 (fun j13 H hP hD hS => ?_)
  have hP : va_P (dC, dI) vwCl [(j1, .inr (4, [.ref j2, .ref j4, .ref j9, .ref j11])), (j4, .inr (3, [.ref j2, .ref j5, .int 0, .ref j6, .int 0, .ref j7, .ref j8, .int 0, .int 0, .int 0])), (j5, .inl (cA, (2 ^ (N - 1)), .inl (fun _ => 0))), (j6, .inl (cA, (2 ^ (N - 1)), .inl (fun _ => 0))), (j7, .inl (cA, N, .inl (fun _ => 0))), (j8, .inl (cA, N, .inl (fun _ => 0))), (j9, .inr (1, [.ref j2, .ref j10, .int 0, .int 0])), (j10, .inl (cA, N, .inl (fun _ => 0))), (j11, .inr (0, [.ref j2, .ref j12])), (j2, .inr (2, [.int (nI N), .ref j3])), (j3, .inl (cA, N, .inl (fun _ => 0))), (j12, .inl (cA, (2 ^ N), .inl (fun _ => 0))), (j13, .inr (5, [.int 0, .null, .int 0, .null, .int 0, .null, .int 0, .null, .int 0, .null, .int 0, .null]))] H := hP
  have hD : va_D (fun q : Nat => s.heap.size ≤ q) [(j1, .inr (4, [.ref j2, .ref j4, .ref j9, .ref j11])), (j4, .inr (3, [.ref j2, .ref j5, .int 0, .ref j6, .int 0, .ref j7, .ref j8, .int 0, .int 0, .int 0])), (j5, .inl (cA, (2 ^ (N - 1)), .inl (fun _ => 0))), (j6, .inl (cA, (2 ^ (N - 1)), .inl (fun _ => 0))), (j7, .inl (cA, N, .inl (fun _ => 0))), (j8, .inl (cA, N, .inl (fun _ => 0))), (j9, .inr (1, [.ref j2, .ref j10, .int 0, .int 0])), (j10, .inl (cA, N, .inl (fun _ => 0))), (j11, .inr (0, [.ref j2, .ref j12])), (j2, .inr (2, [.int (nI N), .ref j3])), (j3, .inl (cA, N, .inl (fun _ => 0))), (j12, .inl (cA, (2 ^ N), .inl (fun _ => 0))), (j13, .inr (5, [.int 0, .null, .int 0, .null, .int 0, .null, .int 0, .null, .int 0, .null, .int 0, .null]))] := hD
  refine W.widen (k := 13) (n := 1094) (Nat.le_refl _) (Nat.le_refl _) ?_
  refine lv_dup hx hb dL_law_16 rfl ?_
  refine lv_aload_n hx hb dL_law_17 rfl (lv_at hl 1 rfl) ?_
  refine lv_iconst (v := 0) hx hb dL_law_18 (by decide) ?_
  refine k_cell (rest := [.ref j13, .ref j13]) ⟨hx, hb, hml, hown, hts⟩ hX hbl hbA (cwS 2 hts (gS wd_380 wd_381 wd_35 wd_382) rfl rfl rfl (by decide +kernel) ⟨Nat.le_of_ble_eq_true rfl, Nat.le_of_ble_eq_true rfl⟩) hP hD hS hA hl.1 (Nat.le_of_ble_eq_true rfl) dL_law_19 ⟨Nat.le_of_ble_eq_true rfl, Nat.le_of_ble_eq_true rfl⟩ (fun H locs hP hD hS => ?_)
  refine k_ci (As := [.int (kC L xs)]) (rest := [.ref j13]) (w3 := (fun u : Nat × Nat × Nat × Nat × Nat × Nat => [(j1, .inr (4, [.ref j2, .ref j4, .ref j9, .ref j11])), (j4, .inr (3, [.ref j2, .ref j5, .int 0, .ref j6, .int 0, .ref j7, .ref j8, .int 0, .int 0, .int 0])), (j5, .inl (cA, (2 ^ (N - 1)), .inl (fun _ => 0))), (j6, .inl (cA, (2 ^ (N - 1)), .inl (fun _ => 0))), (j7, .inl (cA, N, .inl (fun _ => 0))), (j8, .inl (cA, N, .inl (fun _ => 0))), (j9, .inr (1, [.ref j2, .ref j10, .int 0, .int 0])), (j10, .inl (cA, N, .inl (fun _ => 0))), (j11, .inr (0, [.ref j2, .ref j12])), (j2, .inr (2, [.int (nI N), .ref j3])), (j3, .inl (cA, N, .inl (fun _ => 0))), (j12, .inl (cA, (2 ^ N), .inl (fun _ => 0))), (j13, .inr (5, [.int (nI N), .ref u.1, .int 0, .ref u.2.1, .int 0, .ref u.2.2.1, .int 0, .ref u.2.2.2.1, .int 0, .ref u.2.2.2.2.1, .int 0, .ref u.2.2.2.2.2])), (u.1, .inl (cA, 9, .inl (fun _ => 0))), (u.2.1, .inl (cA, 256, .inl (fun _ => 0))), (u.2.2.1, .inl (cA, 256, .inl (fun _ => 0))), (u.2.2.2.1, .inl (cA, 16, .inl (fun _ => 0))), (u.2.2.2.2.1, .inl (cA, 9, .inl (fun _ => 0))), (u.2.2.2.2.2, .inl (cA, 512, .inl (fun _ => 0)))])) ⟨hx, hb, hml, hown, hts⟩ (cM_init l (dC, dI) cA j13 H.size N (kC L xs) hNe hN1 hN9) (cwI 1 hts (gC wd_387) rfl rfl rfl (hts _ wd_41) (hts _ wd_385) (hts _ wd_386) rfl (by decide +kernel) ⟨Nat.le_of_ble_eq_true rfl, Nat.le_of_ble_eq_true rfl⟩) hK hN hP hD hS hA [12] [0, 1, 2, 3, 4, 5, 6, 7, 8, 9, 10, 11] [0, 1, 2, 3, 4, 5, 6, 7, 8, 9, 10, 11, 12, 13, 14, 15, 16, 17, 18] ⟨rfl, rfl, by decide⟩ (fun u => ⟨rfl, rfl, by decide, rfl, by decide, by decide, rfl, rfl, by decide⟩) rfl hl.1 rfl (Nat.le_of_ble_eq_true rfl) dL_law_22 ⟨Nat.le_of_ble_eq_true rfl, Nat.le_of_ble_eq_true rfl⟩ (fun u H locs hP hD hS => ?_)
  obtain ⟨j14, j15, j16, j17, j18, j19⟩ := u
  have hP : va_P (dC, dI) vwCl [(j1, .inr (4, [.ref j2, .ref j4, .ref j9, .ref j11])), (j4, .inr (3, [.ref j2, .ref j5, .int 0, .ref j6, .int 0, .ref j7, .ref j8, .int 0, .int 0, .int 0])), (j5, .inl (cA, (2 ^ (N - 1)), .inl (fun _ => 0))), (j6, .inl (cA, (2 ^ (N - 1)), .inl (fun _ => 0))), (j7, .inl (cA, N, .inl (fun _ => 0))), (j8, .inl (cA, N, .inl (fun _ => 0))), (j9, .inr (1, [.ref j2, .ref j10, .int 0, .int 0])), (j10, .inl (cA, N, .inl (fun _ => 0))), (j11, .inr (0, [.ref j2, .ref j12])), (j2, .inr (2, [.int (nI N), .ref j3])), (j3, .inl (cA, N, .inl (fun _ => 0))), (j12, .inl (cA, (2 ^ N), .inl (fun _ => 0))), (j13, .inr (5, [.int (nI N), .ref j14, .int 0, .ref j15, .int 0, .ref j16, .int 0, .ref j17, .int 0, .ref j18, .int 0, .ref j19])), (j14, .inl (cA, 9, .inl (fun _ => 0))), (j15, .inl (cA, 256, .inl (fun _ => 0))), (j16, .inl (cA, 256, .inl (fun _ => 0))), (j17, .inl (cA, 16, .inl (fun _ => 0))), (j18, .inl (cA, 9, .inl (fun _ => 0))), (j19, .inl (cA, 512, .inl (fun _ => 0)))] H := hP
  have hD : va_D (fun q : Nat => s.heap.size ≤ q) [(j1, .inr (4, [.ref j2, .ref j4, .ref j9, .ref j11])), (j4, .inr (3, [.ref j2, .ref j5, .int 0, .ref j6, .int 0, .ref j7, .ref j8, .int 0, .int 0, .int 0])), (j5, .inl (cA, (2 ^ (N - 1)), .inl (fun _ => 0))), (j6, .inl (cA, (2 ^ (N - 1)), .inl (fun _ => 0))), (j7, .inl (cA, N, .inl (fun _ => 0))), (j8, .inl (cA, N, .inl (fun _ => 0))), (j9, .inr (1, [.ref j2, .ref j10, .int 0, .int 0])), (j10, .inl (cA, N, .inl (fun _ => 0))), (j11, .inr (0, [.ref j2, .ref j12])), (j2, .inr (2, [.int (nI N), .ref j3])), (j3, .inl (cA, N, .inl (fun _ => 0))), (j12, .inl (cA, (2 ^ N), .inl (fun _ => 0))), (j13, .inr (5, [.int (nI N), .ref j14, .int 0, .ref j15, .int 0, .ref j16, .int 0, .ref j17, .int 0, .ref j18, .int 0, .ref j19])), (j14, .inl (cA, 9, .inl (fun _ => 0))), (j15, .inl (cA, 256, .inl (fun _ => 0))), (j16, .inl (cA, 256, .inl (fun _ => 0))), (j17, .inl (cA, 16, .inl (fun _ => 0))), (j18, .inl (cA, 9, .inl (fun _ => 0))), (j19, .inl (cA, 512, .inl (fun _ => 0)))] := hD
  refine W.widen (k := 19) (n := 2152) (Nat.le_refl _) (Nat.le_refl _) ?_
  refine lv_astore_n (lv' := [(2, .ref j13), (1, .ref j1), (0, .ref b)]) hx hb dL_law_25 rfl hl (by decide) rfl (fun ls hl => ?_)
  refine lv_iconst (v := 1) hx hb dL_law_26 (by decide) ?_
  refine lv_istore_n (lv' := [(3, .int 1), (2, .ref j13), (1, .ref j1), (0, .ref b)]) hx hb dL_law_27 rfl hl (by decide) rfl (fun ls hl => ?_)
  exact law_loop l C0 (D := (dC, dI)) (q := (fun k => if k = 0 then j1 else if k = 1 then j11 else if k = 2 then j12 else if k = 3 then j9 else if k = 4 then j10 else if k = 5 then j4 else if k = 6 then j5 else if k = 7 then j6 else if k = 8 then j7 else if k = 9 then j8 else if k = 10 then j2 else j3)) (u := (fun k => if k = 0 then j13 else if k = 1 then j14 else if k = 2 then j15 else if k = 3 then j16 else if k = 4 then j17 else if k = 5 then j18 else j19)) hK hN n 1 (fun _ => 0) (fun _ => 0) 0 (fun _ => 0) 0 (fun _ => 0) (fun _ => 0) 0 0 0 (fun _ => 0) 0 0 (fun _ => 0) (fun _ => 0) 0 (fun _ => 0) 0 (fun _ => 0) 0 (fun _ => 0) 0 (fun _ => 0) 0 (fun _ => 0) _ _ _ hm (hP.sub [0, 8, 11, 6, 7, 1, 2, 3, 4, 5, 9, 10, 12, 13, 14, 15, 16, 17, 18] rfl) (hD.sub [0, 8, 11, 6, 7, 1, 2, 3, 4, 5, 9, 10, 12, 13, 14, 15, 16, 17, 18] (by decide) rfl) hS (lv_sub hl [3, 2, 1, 0] rfl)

set_option maxHeartbeats 4000000 in
theorem lw_walk (l : Launch) (b : Addr) (xs : List Int32) : MetFree l x (headSpec (Jvm.Cond.code x code maxLocals ret :: tables_1) room_1) (lw_P b xs) (fun _ _ _ _ _ => True) lw_Q := by
  refine MetFree.of_bodyS (code := code) (maxLocals := maxLocals) (ret := ret) (by decide) ?_ ?_
  · intro args s m h hn
    obtain ⟨meth, c, h1, h2, h3, h4, h5, h6, -, -⟩ := Cond.code_spec hn (atoms_spec (ws := Jvm.Cond.code x code maxLocals ret :: tables_1) h _ List.mem_cons_self)
    exact ⟨meth, c, h1, h2, h3, h4, h5, h6⟩
  · intro p e s m args below meth c s₁ B hml0 hP _
    obtain ⟨rfl, hx, hbd, hgv⟩ := hP
    obtain ⟨scr, harrAt, hlist, hof, hsmall⟩ := hx
    obtain ⟨hcb, hkn, -, -⟩ := State.arrayAt?_spec harrAt
    have hown : s.vm.findClass R_law = some m.cls := findClass_of_methodNamed B.named
    have hts0 : ∀ c ∈ (Jvm.Cond.code x code maxLocals ret :: tables_1), c.before #[Value.ref b] s = true := atoms_spec (ws := Jvm.Cond.code x code maxLocals ret :: tables_1) B.pre
    have hts : ∀ w ∈ lw_tbl, w.before #[Value.ref b] s = true := k2_hts_sels lw_privs (fun w hw => hts0 w (List.mem_cons_of_mem _ hw)) lw_privs_ok
    have hml : c.maxLocals = 4 := B.maxLocals_eq (hts0 _ List.mem_cons_self)
    have X₀ : Stand p l e room_1 s m #[Value.ref b] below meth c s₁ [] 0 0 := Stand.of_body B
    have hh0 : s₁.heap = s.heap := by rw [B.state]; rfl
    have hsz : scr.slots.size = xs.length := by rw [← Array.length_toList, hlist, List.length_map]
    have hval : ∀ j : Nat, j < xs.length → scr.slots[j]? = some (.int (xs.getD j 0)) := fun j hj => by
      rw [← Array.getElem?_toList, hlist]
      simp [hj]
    have hbl : b < s.heap.size := (Array.getElem?_eq_some_iff.mp hcb).1
    have hX : va_X b xs.length (fun j => xs.getD j 0) s s.heap := ⟨scr, hcb, hof, hkn, hsz, hval⟩
    have K : W p l e room_1 s m #[Value.ref b] below meth c s₁.heap [] 0 0 (lw_Z below #[Value.ref b] s) (entryFrame m ([Value.ref b] : List Value).toArray 4) := by
      rw [hh0]
      exact whole_start l hbd ⟨B.exec, B.bytes, B.returns, hml, hown, hts, hX, hbl, B.notSynchronized, hgv⟩
    obtain ⟨t, a1, o, b1, b2, b3⟩ := K s₁ rfl X₀
    exact ⟨t, o, a1, b1, b2, b3⟩
theorem lw_pre_spec {args : Array Value} {s : State} (h : (Jvm.Cond.and given_1 narrow_1).before args s = true) (hr : rest_1_c.before args s = true) : ∃ (b : Addr) (xs : List Int32), lw_P b xs args s := by
  have hs := flat_of_before _ h
  have hq := flat_of_before _ hr
  have hc : (Cond.count 1).before args s = true := hs _ (by decide +kernel)
  have harr : (Cond.arrayOf (.arg 0) .int).before args s = true := hs _ (by decide +kernel)
  have hle : (Cond.le (.length (.arg 0)) (.int 2049)).before args s = true := hs _ (by decide +kernel)
  have hlen : (Cond.isInt (.length (.arg 0))).before args s = true := hq _ (by decide +kernel)
  have hall : (Cond.all (.arg 0) (.isInt (.elem (.arg 0) (.index 0)))).before args s = true := hq _ (by decide +kernel)
  obtain ⟨b, xs, hb, hx⟩ := State.ints_of_pre rfl harr hlen hall
  have hsm : xs.length < 2 ^ 31 := hx.choose_spec.2.2.2
  have hev : (Term.length (.arg 0)).eval args s none [] s = some (.int xs.length.toInt32) := hx.length_eval hb
  have hv := Cond.le_ints hev (show (Term.int 2049).eval args s none [] s = some (.int 2049) from rfl)
  have hd : xs.length.toInt32 ≤ 2049 := by
    simpa [Cond.before, Cond.holds, hv] using hle
  have hN : xs.length ≤ 2049 := (Int32.ofNat_le_ofNat hsm (by decide)).mp (show Int32.ofNat xs.length ≤ Int32.ofNat 2049 from hd)
  exact ⟨b, xs, Cond.one_arg hc (show args[0]? = some (.ref b) from hb), hx, hN, h⟩
theorem lw_comes (l : Launch) : Comes l x (Jvm.Cond.code x code maxLocals ret :: tables_1) room_1 (fun tb e args s => Calls_1 tb e args s ∧ rest_1 tb e args s ∧ Pre_1 tb e args s)
    (fun _ _ args s o t => lw_Q args s o t) := by
  intro p e ha hc hk s m args below hf hfit hheap happ hpre
  obtain ⟨b, xs, hP⟩ := lw_pre_spec hpre.2.2 hpre.2.1
  obtain ⟨k, o, h1, h2, h3, hQ⟩ := lw_walk l b xs p e ha hc hk s m args below hf ((Spec.applies_iff_loose hf).mp happ).1 hP trivial
  exact ⟨k, o, h1, h2, h3, hQ⟩
theorem lw_frame {s t : State} {o : Outcome} {args : Array Value} (h : Framed s o t [] 600000 7302250) :
    Framed s o t (fieldLocs frame_1_writes args s ++ arrayLocs frame_1_arrays args s ++ staticLocs frame_1_statics s) 600000 7302250 := h
theorem lw_limb (L : Cond) (hL : ∀ (args : Array Value) (s t : State), L.after args s (.returned (some (.int 1))) t = true) :
    ArmFor flags0 classFile x code maxLocals ret World_1 tables_1 room_1 Calls_1 rest_1 Pre_1
      (fun tb e a s o t => postC L tb e a s o t ∧ Framed s o t (fieldLocs frame_1_writes a s ++ arrayLocs frame_1_arrays a s ++ staticLocs frame_1_statics s) 600000 7302250) := by
  intro l _ _ _ p e ha hc hk s m args below hf hfit hheap happ hpre
  obtain ⟨k, o, h1, h2, h3, rfl, hF⟩ := lw_comes l p e ha hc hk s m args below hf hfit hheap happ hpre
  exact ⟨k, _, h1, h2, h3, hL args s _, lw_frame hF⟩
theorem i_vc : Claimed_1_1 ∧ Claimed_1_2 := ⟨lw_limb limb_1_1 (fun args s t => by simp [limb_1_1, Cond.after, Cond.holds, Cond.value]), lw_limb limb_1_2 (fun args s t => Cond.after_iff.mpr (by
  first | (rw [show limb_1_2 = Cond.eq .result (.int 1) from rfl, Cond.eq_ints (x := 1) (y := 1) rfl rfl]; simp; done) | (simp [limb_1_2, Cond.value, Term.eval]; done)))⟩

