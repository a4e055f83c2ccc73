/-! Eventually: a mirror with enough fuel answers this. -/
def ev {α : Type} (F : Nat → Option α) (a : α) : Prop := ∃ k, ∀ n, k ≤ n → F n = some a
theorem ev_p {α : Type} (a : α) : ev (fun _ => some a) a := ⟨0, fun _ _ => rfl⟩
theorem ev_b {α β : Type} {F : Nat → Option α} {G : Nat → α → Option β} {a : α} {b : β} (h1 : ev F a) (h2 : ev (fun n => G n a) b) : ev (fun n => (F n).bind (G n)) b := by
  obtain ⟨k1, h1⟩ := h1
  obtain ⟨k2, h2⟩ := h2
  refine ⟨k1 + k2, fun n hn => ?_⟩
  show (F n).bind (G n) = some b
  rw [h1 n (by omega)]
  exact h2 n (by omega)
theorem ev_s {α : Type} {F G : Nat → Option α} {a : α} (e : ∀ n, F (n + 1) = G n) (h : ev G a) : ev F a := by
  obtain ⟨k, h⟩ := h
  refine ⟨k + 1, fun n hn => ?_⟩
  obtain ⟨m, rfl⟩ : ∃ m, n = m + 1 := ⟨n - 1, by omega⟩
  rw [e m]
  exact h m (by omega)
theorem ev_g {α : Type} {i : Int32} {len : Nat} {x : Nat → Option α} {r : α} (hi : vp_in i len) (h : ev x r) : ev (fun n => kg i len (x n)) r := by
  obtain ⟨k, h⟩ := h
  refine ⟨k, fun n hn => ?_⟩
  show kg i len (x n) = some r
  unfold kg
  rw [if_neg hi]
  exact h n hn
theorem ev_l {α : Type} {v : Int32} {f : Nat → Int32 → Option α} {r : α} (h : ev (fun n => f n v) r) : ev (fun n => kl v (f n)) r := h
theorem ev_z {α : Type} {v : Int32} {x : Nat → Option α} {r : α} (hv : kB v) (h : ev x r) : ev (fun n => kz v (x n)) r := by
  obtain ⟨k, h⟩ := h
  refine ⟨k, fun n hn => ?_⟩
  show kz v (x n) = some r
  unfold kz
  rw [if_pos (show v = 0 ∨ v = 1 from hv)]
  exact h n hn
theorem ev_t {α : Type} {c : Prop} [Decidable c] {x y : Nat → Option α} {r : α} (hc : c) (h : ev x r) : ev (fun n => if c then x n else y n) r := by
  simp only [if_pos hc]
  exact h
theorem ev_f {α : Type} {c : Prop} [Decidable c] {x y : Nat → Option α} {r : α} (hc : ¬ c) (h : ev y r) : ev (fun n => if c then x n else y n) r := by
  simp only [if_neg hc]
  exact h
theorem ev_c {α : Type} {c : Prop} [Decidable c] {x y : Nat → Option α} {r : α} (h1 : c → ev x r) (h2 : ¬ c → ev y r) : ev (fun n => if c then x n else y n) r := by
  by_cases hc : c
  · exact ev_t hc (h1 hc)
  · exact ev_f hc (h2 hc)
theorem ev_e {α : Type} {F : Nat → Option α} {a b : α} (e : a = b) (h : ev F a) : ev F b := e ▸ h
