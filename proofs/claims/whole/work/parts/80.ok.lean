theorem mL_ok (N L : Nat) (xs : Nat → Int32) (hN1 : 1 ≤ N) (hN9 : N ≤ 9) (hL : L ≤ 2049) : ∃ n, mL_law N L xs n 1 (fun _ => 0) (fun _ => 0) 0 (fun _ => 0) 0 (fun _ => 0) (fun _ => 0) 0 0 0 (fun _ => 0) 0 0 (fun _ => 0) (fun _ => 0) 0 (fun _ => 0) 0 (fun _ => 0) 0 (fun _ => 0) 0 (fun _ => 0) 0 (fun _ => 0) = some 1 := by
  sorry
