/-! the law's loop -/
theorem lw_lim {L i : Nat} (hL : L ≤ 2049) (hi : 1 ≤ i) (hi2 : i < 2 ^ 20) : ((Int32.ofNat L) - 4) < nI i ↔ L < i + 4 := by
  by_cases h : L < 4
  · have q : (Int32.ofNat L) - 4 < nI i := by
      have t : ∀ L, L < 4 → (Int32.ofNat L) - 4 < 0 := by decide +kernel
      have u : (0 : Int32) ≤ nI i := by rw [← nI_0]; exact nI_le (by omega) (by omega)
      exact Int32.lt_of_lt_of_le (t L h) u
    exact ⟨fun _ => by omega, fun _ => q⟩
  · have e : (Int32.ofNat L) - 4 = nI (L - 4) := by
      have q := nI_add (L - 4) 4
      rw [show L - 4 + 4 = L by omega] at q
      show nI L - 4 = nI (L - 4)
      rw [← q]
      exact Int32.add_sub_cancel _ _
    rw [e, nI_ltI (by omega) (by omega)]
    omega
theorem mL_run {N L : Nat} {xs : Nat → Int32} (h1 : 1 ≤ N) (h9 : N ≤ 9) (hL : L ≤ 2049) : ∀ k i, 1 ≤ i → i ≤ 3000 → L < i + 4 * k → ∀ (nr : Nat → Int32) (ss : Nat → Int32) (sc : Int32) (ns : Nat → Int32) (nc : Int32) (ps : Nat → Int32) (dg : Nat → Int32) (pn : Int32) (pj : Int32) (wh : Int32) (st : Nat → Int32) (sn : Int32) (lf : Int32) (fw : Nat → Int32) (mr : Nat → Int32) (zn : Int32) (zs : Nat → Int32) (tn : Int32) (ts : Nat → Int32) (yn : Int32) (ys : Nat → Int32) (en : Int32) (es : Nat → Int32) (ew : Int32) (cv : Nat → Int32), Iv N nr ss sc ns nc wh fw mr → ev (fun n => mL_law N L xs n (nI i) nr ss sc ns nc ps dg pn pj wh st sn lf fw mr zn zs tn ts yn ys en es ew cv) 1
  | 0, i, hi, hi3, hk, nr, ss, sc, ns, nc, ps, dg, pn, pj, wh, st, sn, lf, fw, mr, zn, zs, tn, ts, yn, ys, en, es, ew, cv, hI => ev_s (fun n => mL_law_e N L xs n _ _ _ _ _ _ _ _ _ _ _ _ _ _ _ _ _ _ _ _ _ _ _ _ _ _) (ev_t ((lw_lim hL hi (by omega)).mpr (by omega)) (ev_p _))
  | k + 1, i, hi, hi3, hk, nr, ss, sc, ns, nc, ps, dg, pn, pj, wh, st, sn, lf, fw, mr, zn, zs, tn, ts, yn, ys, en, es, ew, cv, hI => by
    refine ev_s (fun n => mL_law_e N L xs n _ _ _ _ _ _ _ _ _ _ _ _ _ _ _ _ _ _ _ _ _ _ _ _ _ _) ?_
    refine ev_c (fun _ => ev_p _) (fun hx => ?_)
    have hLi : ¬ L < i + 4 := fun q => hx ((lw_lim hL hi (by omega)).mpr q)
    have ih : IH N L xs (nI i) := fun nr ss sc ns nc ps dg pn pj wh st sn lf fw mr zn zs tn ts yn ys en es ew cv hI => by
      have e : nI i + 4 = nI (i + 4) := nI_add i 4
      rw [e]
      exact mL_run h1 h9 hL k (i + 4) (by omega) (by omega) (by omega) nr ss sc ns nc ps dg pn pj wh st sn lf fw mr zn zs tn ts yn ys en es ew cv hI
    have k1 : vp_in (nI i + 1) L := by rw [show nI i + 1 = nI (i + 1) from nI_add i 1]; exact vp_in_nI (by omega) (by omega)
    have k2 : vp_in (nI i + 2) L := by rw [show nI i + 2 = nI (i + 2) from nI_add i 2]; exact vp_in_nI (by omega) (by omega)
    have k3 : vp_in (nI i + 3) L := by rw [show nI i + 3 = nI (i + 3) from nI_add i 3]; exact vp_in_nI (by omega) (by omega)
    refine ev_g (vp_in_nI (by omega) (by omega)) (ev_l ?_)
    refine ev_c (fun _ => arm0 h1 h9 k1 k2 k3 ih nr ss sc ns nc ps dg pn pj wh st sn lf fw mr zn zs tn ts yn ys en es ew cv hI) (fun _ => ?_)
    refine ev_c (fun _ => arm1 h1 h9 k1 k2 k3 ih nr ss sc ns nc ps dg pn pj wh st sn lf fw mr zn zs tn ts yn ys en es ew cv hI) (fun _ => ?_)
    refine ev_c (fun _ => arm2 h1 h9 k1 k2 k3 ih nr ss sc ns nc ps dg pn pj wh st sn lf fw mr zn zs tn ts yn ys en es ew cv hI) (fun _ => ?_)
    refine ev_c (fun _ => arm3 h1 h9 k1 k2 k3 ih nr ss sc ns nc ps dg pn pj wh st sn lf fw mr zn zs tn ts yn ys en es ew cv hI) (fun _ => ?_)
    refine ev_c (fun _ => arm4 h1 h9 k1 k2 k3 ih nr ss sc ns nc ps dg pn pj wh st sn lf fw mr zn zs tn ts yn ys en es ew cv hI) (fun _ => ?_)
    refine ev_c (fun _ => arm5 h1 h9 k1 k2 k3 ih nr ss sc ns nc ps dg pn pj wh st sn lf fw mr zn zs tn ts yn ys en es ew cv hI) (fun _ => ?_)
    refine ev_c (fun _ => arm6 h1 h9 k1 k2 k3 ih nr ss sc ns nc ps dg pn pj wh st sn lf fw mr zn zs tn ts yn ys en es ew cv hI) (fun _ => ?_)
    refine ev_c (fun _ => arm7 h1 h9 k1 k2 k3 ih nr ss sc ns nc ps dg pn pj wh st sn lf fw mr zn zs tn ts yn ys en es ew cv hI) (fun _ => ?_)
    refine ev_c (fun _ => arm8 h1 h9 k1 k2 k3 ih nr ss sc ns nc ps dg pn pj wh st sn lf fw mr zn zs tn ts yn ys en es ew cv hI) (fun _ => ?_)
    refine ev_c (fun _ => arm9 h1 h9 k1 k2 k3 ih nr ss sc ns nc ps dg pn pj wh st sn lf fw mr zn zs tn ts yn ys en es ew cv hI) (fun _ => ?_)
    refine ev_c (fun _ => arm10 h1 h9 k1 k2 k3 ih nr ss sc ns nc ps dg pn pj wh st sn lf fw mr zn zs tn ts yn ys en es ew cv hI) (fun _ => ?_)
    refine ev_c (fun _ => arm11 h1 h9 k1 k2 k3 ih nr ss sc ns nc ps dg pn pj wh st sn lf fw mr zn zs tn ts yn ys en es ew cv hI) (fun _ => ?_)
    refine ev_c (fun _ => arm12 h1 h9 k1 k2 k3 ih nr ss sc ns nc ps dg pn pj wh st sn lf fw mr zn zs tn ts yn ys en es ew cv hI) (fun _ => ?_)
    refine ev_c (fun _ => arm13 h1 h9 k1 k2 k3 ih nr ss sc ns nc ps dg pn pj wh st sn lf fw mr zn zs tn ts yn ys en es ew cv hI) (fun _ => ?_)
    refine ev_c (fun _ => arm14 h1 h9 k1 k2 k3 ih nr ss sc ns nc ps dg pn pj wh st sn lf fw mr zn zs tn ts yn ys en es ew cv hI) (fun _ => ?_)
    refine ev_c (fun _ => arm15 h1 h9 k1 k2 k3 ih nr ss sc ns nc ps dg pn pj wh st sn lf fw mr zn zs tn ts yn ys en es ew cv hI) (fun _ => ?_)
    refine ev_c (fun _ => arm16 h1 h9 k1 k2 k3 ih nr ss sc ns nc ps dg pn pj wh st sn lf fw mr zn zs tn ts yn ys en es ew cv hI) (fun _ => ?_)
    refine ev_c (fun _ => arm17 h1 h9 k1 k2 k3 ih nr ss sc ns nc ps dg pn pj wh st sn lf fw mr zn zs tn ts yn ys en es ew cv hI) (fun _ => ?_)
    refine ev_c (fun _ => arm18 h1 h9 k1 k2 k3 ih nr ss sc ns nc ps dg pn pj wh st sn lf fw mr zn zs tn ts yn ys en es ew cv hI) (fun _ => ?_)
    exact ih nr ss sc ns nc ps dg pn pj wh st sn lf fw mr zn zs tn ts yn ys en es ew cv hI
