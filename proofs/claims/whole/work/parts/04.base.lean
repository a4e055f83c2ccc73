/-! Tools of this claim's walks. A method's MIRROR is a pure function with fuel (m.._..); a contract says: where the mirror answers 'some', the machine answers the same. -/
def kl {α : Type} (v : Int32) (f : Int32 → Option α) : Option α := f v
def kg {α : Type} (i : Int32) (n : Nat) (x : Option α) : Option α := if i < 0 ∨ n ≤ i.toNatClampNeg then none else x
def kz {α : Type} (v : Int32) (x : Option α) : Option α := if v = 0 ∨ v = 1 then x else none
def kB (r : Int32) : Prop := r = 0 ∨ r = 1
def kT (_ : Int32) : Prop := True
theorem kl_s {α : Type} {v x : Int32} {f : Int32 → Option α} {r : Option α} (e : x = v) (h : kl v f = r) : f x = r := by
  subst e
  exact h
theorem kg_s {α : Type} {i : Int32} {n : Nat} {x : Option α} {r : α} (h : kg i n x = some r) : vp_in i n ∧ x = some r := by
  unfold kg at h
  by_cases hc : i < 0 ∨ n ≤ i.toNatClampNeg
  · rw [if_pos hc] at h
    cases h
  · rw [if_neg hc] at h
    exact ⟨hc, h⟩
theorem kz_s {α : Type} {v : Int32} {x : Option α} {r : α} (h : kz v x = some r) : kB v ∧ x = some r := by
  unfold kz at h
  by_cases hc : v = 0 ∨ v = 1
  · rw [if_pos hc] at h
    exact ⟨hc, h⟩
  · rw [if_neg hc] at h
    cases h
theorem kb_s {α β : Type} {o : Option α} {f : α → Option β} {r : β} (h : o.bind f = some r) : ∃ a, o = some a ∧ f a = some r := by
  cases o with
  | none => cases h
  | some a => exact ⟨a, rfl, h⟩
theorem kB_nar {v : Int32} (h : kB v) : narrow .boolean (.int v) = .int v := by
  rcases h with h | h <;> (subst h; rfl)
theorem kB_fit {v : Int32} (h : kB v) : fits .boolean (.int v) = true := by
  rcases h with h | h <;> (subst h; rfl)
abbrev kTy (cA : ClassId) : List (ClassId × FieldType) := [(cA, .int)]
def kPc (D : va_G) (cA : ClassId) (av : List Value) (w : va_W) (sz : Nat) : Array Value → State → Prop := va_Pc av (fun U => U.heap.size = sz ∧ va_P D vwCl w U.heap ∧ va_K D vwCl (kTy cA) U ∧ va_D (fun _ => True) w ∧ kN U)
def kQi (D : va_G) (cA : ClassId) (ok : Int32 → Prop) (A : Nat → Prop) (w : va_W) (r : Int32) : Array Value → State → Outcome → State → Prop := va_Qi (fun (r' : Int32) (_ : Unit) => r' = r ∧ ok r) (fun _ t => va_P D vwCl w t.heap ∧ va_K D vwCl (kTy cA) t ∧ va_D A w) A
def kQv (D : va_G) (cA : ClassId) (A : Nat → Prop) (w : va_W) : Array Value → State → Outcome → State → Prop := va_Qv (fun (_ : Unit) => True) (fun _ t => va_P D vwCl w t.heap ∧ va_K D vwCl (kTy cA) t ∧ va_D A w) A
def kQr (D : va_G) (cA : ClassId) (A : Nat → Prop) (w : va_W) (a0 : Nat) : Array Value → State → Outcome → State → Prop := va_Qr (fun (_ : Unit) => True) (fun _ a t => a = a0 ∧ va_P D vwCl w t.heap ∧ va_K D vwCl (kTy cA) t ∧ va_D A w) A
def kQn {α : Type} (D : va_G) (cA : ClassId) (A : Nat → Prop) (wv : α → va_W) : Array Value → State → Outcome → State → Prop := va_Qv (fun (_ : α) => True) (fun u t => va_P D vwCl (wv u) t.heap ∧ va_K D vwCl (kTy cA) t ∧ va_D A (wv u)) A
theorem kPc_blind (D : va_G) (cA : ClassId) (av : List Value) (w : va_W) (sz : Nat) : FrameBlind (kPc D cA av w sz) := fun a U g mk q => by
  obtain ⟨q0, q1, qP, qK, qD, qN⟩ := q
  exact ⟨q0, q1, qP, va_K.moved (u := U) (U := U.calling g mk a) (Vm.Alike.refl U.vm) qK, qD, kN_same (U := U.calling g mk a) rfl qN⟩
def kX (p : Program) (cc : ByteArray) (nL : Nat) (ret : Option FieldType) (own mn : String) (Ts : List Cond) (s : State) (m : MethodId) (args : Array Value) (meth : Method) (c : Code) : Prop :=
  p.tables.exec = Jvm.exec ∧ c.code = cc ∧ meth.sig.returnType = ret ∧ c.maxLocals = nL ∧ s.vm.findClass own = some m.cls ∧ (∀ w ∈ Ts, w.before args s = true) ∧ meth.locks = false ∧ meth.name = mn
/-- a contract out of a walk from the method's entry -/
theorem k_met {l : Launch} {y : MethodName} {ws ws' : List Cond} {rm : Room} {cc : ByteArray} {maxL : Nat} {ret : Option FieldType} {D : va_G} {cA : ClassId} {av : List Value} {w : va_W} {sz mc ms : Nat} {Qc : (Nat → Prop) → Array Value → State → Outcome → State → Prop}
    (hy : plainName y.cls = true) (hw : ws = Cond.code y cc maxL ret :: ws') (hn : (lg_sl av).length ≤ maxL)
    (body : ∀ (p : Program) (e : Env) (s : State) (m : MethodId) (below : List Frame) (meth : Method) (c : Code) (A : Nat → Prop) (ls : Array Slot), kX p cc maxL ret y.cls y.name ws s m av.toArray meth c → va_K D vwCl (kTy cA) s → kN s → (∀ q : Nat, s.heap.size ≤ q → A q) → va_P D vwCl w s.heap → va_D A w → lv_has ls maxL (lv_args 0 av) →
      W p l e rm s m av.toArray below meth c s.heap [] 0 0 (MQ below (Qc A) av.toArray s mc ms A) (F0 m 0 ls [])) :
    Met l y ws rm (kPc D cA av w sz) (Qc (va_A w sz)) mc ms (va_A w sz) := by
  refine Met.ofW (cc := cc) (maxL := maxL) (ret := ret) hy hw ?_
  intro p e s m args below meth c s₁ B hml hv
  obtain ⟨rfl, hsz, hP, hK, hD0, hN⟩ := hv
  have hts := atoms_spec (ws := ws) B.pre
  have hown : s.vm.findClass y.cls = some m.cls := findClass_of_methodNamed B.named
  subst hsz
  have hl := lv_entry av (n := maxL) hn
  rw [lg_entry_eq]
  exact body p e s m below meth c _ _ ⟨B.exec, B.bytes, B.returns, hml, hown, hts, B.notSynchronized, (name_of_methodNamed B.named B.method).1⟩ hK hN (fun q h => Or.inr h) hP hD0.self hl
section KW
variable {p : Program} {l : Launch} {e : Env} {R : Room} {s : State} {m : MethodId} {args : Array Value} {below : List Frame} {meth : Method} {c : Code} {H : Heap} {locs : List Loc} {cells slots : Nat} {Q : State → Prop}
variable {cc bytes : ByteArray} {nL maxL n index : Nat} {own C host : String} {y : MethodName} {ret : Option FieldType} {wsy Ts : List Cond} {rm : Room} {D : va_G} {cA : ClassId} {A : Nat → Prop} {H0 : Heap} {pc : Nat} {ls : Array Slot} {rest st0 : List Value} {b a0 : Nat} {As : List Value} {ws wc w1 w2 : va_W} {ok : Int32 → Prop} {r v : Int32}
theorem k_iret (hx : p.tables.exec = Jvm.exec) (hb : c.code = cc) (hr : meth.sig.returnType = some .int) (hlocks : meth.locks = false) (hK : va_K D vwCl (kTy cA) s) (hP : va_P D vwCl ws H) (hD : va_D A ws) (hS : va_S A s.heap H locs) (hv : ok v) (hdg : decode cc pc = .ok (.ireturn, 1)) :
    W p l e R s m args below meth c H locs cells slots (MQ below (kQi D cA ok A ws v) args s cells slots A) (F0 m pc ls [.int v]) :=
  W.iret hx hb hr (fun t ht hW => ⟨⟨v, (), rfl, ⟨rfl, hv⟩, by rw [ht]; exact hP, va_K.moved hW.alike hK, hD⟩, hS.F ht⟩) hS.2.2 hdg hlocks
theorem k_zret (hx : p.tables.exec = Jvm.exec) (hb : c.code = cc) (hr : meth.sig.returnType = some .boolean) (hlocks : meth.locks = false) (hK : va_K D vwCl (kTy cA) s) (hP : va_P D vwCl ws H) (hD : va_D A ws) (hS : va_S A s.heap H locs) (hv : kB v) (hdg : decode cc pc = .ok (.ireturn, 1)) :
    W p l e R s m args below meth c H locs cells slots (MQ below (kQi D cA kB A ws v) args s cells slots A) (F0 m pc ls [.int v]) :=
  W.zret hx hb hr (kB_nar hv) (fun t ht hW => ⟨⟨v, (), rfl, ⟨rfl, hv⟩, by rw [ht]; exact hP, va_K.moved hW.alike hK, hD⟩, hS.F ht⟩) hS.2.2 hdg hlocks
theorem k_vret (hx : p.tables.exec = Jvm.exec) (hb : c.code = cc) (hr : meth.sig.returnType = none) (hlocks : meth.locks = false) (hK : va_K D vwCl (kTy cA) s) (hP : va_P D vwCl ws H) (hD : va_D A ws) (hS : va_S A s.heap H locs) (hdg : decode cc pc = .ok (.return_, 1)) :
    W p l e R s m args below meth c H locs cells slots (MQ below (kQv D cA A ws) args s cells slots A) (F0 m pc ls []) :=
  W.vret hx hb hr (fun t ht hW => ⟨⟨(), rfl, trivial, by rw [ht]; exact hP, va_K.moved hW.alike hK, hD⟩, hS.F ht⟩) hS.2.2 hdg hlocks
theorem k_rret {cn : String} (hx : p.tables.exec = Jvm.exec) (hb : c.code = cc) (hr : meth.sig.returnType = some (.object cn)) (hlocks : meth.locks = false) (hK : va_K D vwCl (kTy cA) s) (hP : va_P D vwCl ws H) (hD : va_D A ws) (hS : va_S A s.heap H locs) (hdg : decode cc pc = .ok (.areturn, 1)) :
    W p l e R s m args below meth c H locs cells slots (MQ below (kQr D cA A ws a0) args s cells slots A) (F0 m pc ls [.ref a0]) :=
  W.aret hx hb hr (Or.inl ⟨cn, rfl⟩) (Or.inr ⟨a0, rfl⟩) (fun t ht hW => ⟨⟨(), a0, rfl, trivial, rfl, by rw [ht]; exact hP, va_K.moved hW.alike hK, hD⟩, hS.F ht⟩) hS.2.2 hdg hlocks
/-- the callee's cells wc at the places isC of ws; the others at isR; behind the call, others and callee's (w1), put in the order isP, are w2 -/
def k_cut (ws wc w1 w2 : va_W) (isC isR isP : List Nat) : Prop :=
  isC.map (fun i => ws[i]?) = wc.map some ∧ isC.filterMap (fun i => ws[i]?) = wc ∧ va_nd isC = true ∧ isR.map (fun i => ws[i]?) = (isR.filterMap (fun i => ws[i]?)).map some ∧ va_nd isR = true ∧ (∀ i ∈ isR, i ∉ isC) ∧ isP.map (fun i => (isR.filterMap (fun i => ws[i]?) ++ w1)[i]?) = w2.map some ∧ isP.filterMap (fun i => (isR.filterMap (fun i => ws[i]?) ++ w1)[i]?) = w2 ∧ va_nd isP = true
theorem k_vi (S : CallFix p m c cc nL s args Ts own) (hM : Met l y wsy rm (kPc D cA (.ref b :: As) wc H.size) (kQi D cA ok (va_A wc H.size) w1 r) 0 0 (va_A wc H.size)) (cw : CallW R s args own C index y bytes maxL ret wsy rm 0 0 n) (hK : va_K D vwCl (kTy cA) s) (hN : kN s) (hP : va_P D vwCl ws H) (hD : va_D A ws) (hS : va_S A H0 H locs) (hA : ∀ q, H0.size ≤ q → A q)
    (isC isR isP : List Nat) (hcut : k_cut ws wc w1 w2 isC isR isP) (hv : ∃ cell : Cell, H[b]? = some cell ∧ cell.vm.isStatics = false ∧ s.vm.findClass C = some cell.cls) (hn : As.length = n) (hsz : ls.size = nL) (hst : st0 = As.reverse ++ .ref b :: rest) (hrm : (rest.map fun v => v.category).sum ≤ 8) (hdg : decode cc pc = .ok (.invokevirtual index, 3)) (hf : cells + 0 ≤ R.cells ∧ slots + 0 ≤ R.slots)
    (kk : ok r → ∀ (H : Heap) (locs : List Loc), va_P D vwCl w2 H → va_D A w2 → va_S A H0 H locs → W p l e R s m args below meth c H locs cells slots Q (F0 m (pc + 3) ls (.int r :: rest))) : W p l e R s m args below meth c H locs cells slots Q (F0 m pc ls st0) := by
  obtain ⟨h1, h2, h3, h4, h5, h6, h7, h8, h9⟩ := hcut
  have hPc := hP.sub isC h2
  have hDc := hD.sub isC h3 h1
  have hFc := va_free hD hS hA isC h1
  refine va_calli (va_runV (As := As) (rest := rest) S hM cw ⟨kPc_blind _ _ _ _ _, hv, fun U hU hW => ⟨rfl, by rw [hU], by rw [hU]; exact hPc, va_K.moved hW.alike hK, hDc.weaken (fun _ _ _ _ => trivial), kN_warm hW hN⟩⟩ rfl hn hsz hst (lv_room hrm) hdg hf) hS (fun q _ h => hFc q h) hFc (fun r' u t H1 locs1 ht hvm hw hB hz1 hk1 hS1 => ?_)
  obtain ⟨hP1, hK1, hD1⟩ := hB
  rw [ht] at hP1
  obtain ⟨hw, hok⟩ := hw
  subst hw
  obtain ⟨hP2, hD2⟩ := va_join hP hD isC isR h1 h4 h5 h6 hk1 hFc hP1 hD1
  exact kk hok H1 locs1 (hP2.sub isP h8) (hD2.sub isP h9 h7) hS1
theorem k_vv (S : CallFix p m c cc nL s args Ts own) (hM : Met l y wsy rm (kPc D cA (.ref b :: As) wc H.size) (kQv D cA (va_A wc H.size) w1) 0 0 (va_A wc H.size)) (cw : CallW R s args own C index y bytes maxL ret wsy rm 0 0 n) (hK : va_K D vwCl (kTy cA) s) (hN : kN s) (hP : va_P D vwCl ws H) (hD : va_D A ws) (hS : va_S A H0 H locs) (hA : ∀ q, H0.size ≤ q → A q)
    (isC isR isP : List Nat) (hcut : k_cut ws wc w1 w2 isC isR isP) (hv : ∃ cell : Cell, H[b]? = some cell ∧ cell.vm.isStatics = false ∧ s.vm.findClass C = some cell.cls) (hn : As.length = n) (hsz : ls.size = nL) (hst : st0 = As.reverse ++ .ref b :: rest) (hrm : (rest.map fun v => v.category).sum ≤ 8) (hdg : decode cc pc = .ok (.invokevirtual index, 3)) (hf : cells + 0 ≤ R.cells ∧ slots + 0 ≤ R.slots)
    (kk : ∀ (H : Heap) (locs : List Loc), va_P D vwCl w2 H → va_D A w2 → va_S A H0 H locs → W p l e R s m args below meth c H locs cells slots Q (F0 m (pc + 3) ls rest)) : W p l e R s m args below meth c H locs cells slots Q (F0 m pc ls st0) := by
  obtain ⟨h1, h2, h3, h4, h5, h6, h7, h8, h9⟩ := hcut
  have hPc := hP.sub isC h2
  have hDc := hD.sub isC h3 h1
  have hFc := va_free hD hS hA isC h1
  refine va_callv (va_runV (As := As) (rest := rest) S hM cw ⟨kPc_blind _ _ _ _ _, hv, fun U hU hW => ⟨rfl, by rw [hU], by rw [hU]; exact hPc, va_K.moved hW.alike hK, hDc.weaken (fun _ _ _ _ => trivial), kN_warm hW hN⟩⟩ rfl hn hsz hst (lv_room hrm) hdg hf) hS (fun q _ h => hFc q h) hFc (fun u t H1 locs1 ht hvm hw hB hz1 hk1 hS1 => ?_)
  obtain ⟨hP1, hK1, hD1⟩ := hB
  rw [ht] at hP1
  obtain ⟨hP2, hD2⟩ := va_join hP hD isC isR h1 h4 h5 h6 hk1 hFc hP1 hD1
  exact kk H1 locs1 (hP2.sub isP h8) (hD2.sub isP h9 h7) hS1
theorem k_vr (S : CallFix p m c cc nL s args Ts own) (hM : Met l y wsy rm (kPc D cA (.ref b :: As) wc H.size) (kQr D cA (va_A wc H.size) w1 a0) 0 0 (va_A wc H.size)) (cw : CallW R s args own C index y bytes maxL ret wsy rm 0 0 n) (hK : va_K D vwCl (kTy cA) s) (hN : kN s) (hP : va_P D vwCl ws H) (hD : va_D A ws) (hS : va_S A H0 H locs) (hA : ∀ q, H0.size ≤ q → A q)
    (isC isR isP : List Nat) (hcut : k_cut ws wc w1 w2 isC isR isP) (hv : ∃ cell : Cell, H[b]? = some cell ∧ cell.vm.isStatics = false ∧ s.vm.findClass C = some cell.cls) (hn : As.length = n) (hsz : ls.size = nL) (hst : st0 = As.reverse ++ .ref b :: rest) (hrm : (rest.map fun v => v.category).sum ≤ 8) (hdg : decode cc pc = .ok (.invokevirtual index, 3)) (hf : cells + 0 ≤ R.cells ∧ slots + 0 ≤ R.slots)
    (kk : ∀ (H : Heap) (locs : List Loc), va_P D vwCl w2 H → va_D A w2 → va_S A H0 H locs → W p l e R s m args below meth c H locs cells slots Q (F0 m (pc + 3) ls (.ref a0 :: rest))) : W p l e R s m args below meth c H locs cells slots Q (F0 m pc ls st0) := by
  obtain ⟨h1, h2, h3, h4, h5, h6, h7, h8, h9⟩ := hcut
  have hPc := hP.sub isC h2
  have hDc := hD.sub isC h3 h1
  have hFc := va_free hD hS hA isC h1
  refine va_callr (va_runV (As := As) (rest := rest) S hM cw ⟨kPc_blind _ _ _ _ _, hv, fun U hU hW => ⟨rfl, by rw [hU], by rw [hU]; exact hPc, va_K.moved hW.alike hK, hDc.weaken (fun _ _ _ _ => trivial), kN_warm hW hN⟩⟩ rfl hn hsz hst (lv_room hrm) hdg hf) hS (fun q _ h => hFc q h) hFc (fun u ra t H1 locs1 ht hvm hw hB hz1 hk1 hS1 => ?_)
  obtain ⟨hra, hP1, hK1, hD1⟩ := hB
  rw [ht] at hP1
  subst hra
  obtain ⟨hP2, hD2⟩ := va_join hP hD isC isR h1 h4 h5 h6 hk1 hFc hP1 hD1
  exact kk H1 locs1 (hP2.sub isP h8) (hD2.sub isP h9 h7) hS1
/-- a static method that has no world: the cells stay -/
theorem k_s0 (S : CallFix p m c cc nL s args Ts own) (hM : Met l y wsy rm (kPc D cA As [] H.size) (kQi D cA ok (va_A [] H.size) [] r) 0 0 (va_A [] H.size)) (cw : CallB R s args own index y bytes maxL ret wsy rm 0 0 n ∧ (Cond.static y).before args s = true) (hK : va_K D vwCl (kTy cA) s) (hN : kN s) (hP : va_P D vwCl ws H) (hD : va_D A ws) (hS : va_S A H0 H locs) (hA : ∀ q, H0.size ≤ q → A q)
    (hn : As.length = n) (hsz : ls.size = nL) (hst : st0 = As.reverse ++ rest) (hrm : (rest.map fun v => v.category).sum ≤ 8) (hdg : decode cc pc = .ok (.invokestatic index, 3)) (hf : cells + 0 ≤ R.cells ∧ slots + 0 ≤ R.slots)
    (kk : ok r → ∀ (H : Heap) (locs : List Loc), va_P D vwCl ws H → va_D A ws → va_S A H0 H locs → W p l e R s m args below meth c H locs cells slots Q (F0 m (pc + 3) ls (.int r :: rest))) : W p l e R s m args below meth c H locs cells slots Q (F0 m pc ls st0) := by
  have hPc : va_P D vwCl [] H := hP.sub [] rfl
  have hDc : va_D A [] := hD.sub [] rfl rfl
  have hFc : ∀ q, va_A [] H.size q → A q := va_free (wc := []) hD hS hA [] rfl
  refine va_calli (va_runS (As := As) (rest := rest) S hM cw ⟨kPc_blind _ _ _ _ _, fun U hU hW => ⟨rfl, by rw [hU], by rw [hU]; exact hPc, va_K.moved hW.alike hK, hDc.weaken (fun _ _ _ _ => trivial), kN_warm hW hN⟩⟩ rfl hn hsz hst (lv_room hrm) hdg hf) hS (fun q _ h => hFc q h) hFc (fun r' u t H1 locs1 ht hvm hw hB hz1 hk1 hS1 => ?_)
  obtain ⟨hw, hok⟩ := hw
  subst hw
  exact kk hok H1 locs1 (hP.kept (fun k q hq => hk1 _ (hP k q hq).lt (fun hz => by
    rcases hz with ⟨k', e', he'⟩ | hz
    · simp at he'
    · exact absurd (hP k q hq).lt (Nat.not_lt.mpr hz)))) hD hS1
theorem k_n0 (S : CallFix p m c cc nL s args Ts own) (hM : Met l y wsy rm (kPc D cA As [] H.size) (kQi D cA ok (va_A [] H.size) [] r) 0 0 (va_A [] H.size)) (cw : va_CN R s args own index y host bytes maxL ret wsy rm 0 0 n ∧ (Cond.static y).before args s = true ∧ True) (hK : va_K D vwCl (kTy cA) s) (hN : kN s) (hP : va_P D vwCl ws H) (hD : va_D A ws) (hS : va_S A H0 H locs) (hA : ∀ q, H0.size ≤ q → A q)
    (hn : As.length = n) (hsz : ls.size = nL) (hst : st0 = As.reverse ++ rest) (hrm : (rest.map fun v => v.category).sum ≤ 8) (hdg : decode cc pc = .ok (.invokestatic index, 3)) (hf : cells + 0 ≤ R.cells ∧ slots + 0 ≤ R.slots)
    (kk : ok r → ∀ (H : Heap) (locs : List Loc), va_P D vwCl ws H → va_D A ws → va_S A H0 H locs → W p l e R s m args below meth c H locs cells slots Q (F0 m (pc + 3) ls (.int r :: rest))) : W p l e R s m args below meth c H locs cells slots Q (F0 m pc ls st0) := by
  have hPc : va_P D vwCl [] H := hP.sub [] rfl
  have hDc : va_D A [] := hD.sub [] rfl rfl
  have hFc : ∀ q, va_A [] H.size q → A q := va_free (wc := []) hD hS hA [] rfl
  refine va_calli (va_runSN (As := As) (rest := rest) S hM cw ⟨kPc_blind _ _ _ _ _, fun U hU hW => ⟨rfl, by rw [hU], by rw [hU]; exact hPc, va_K.moved hW.alike hK, hDc.weaken (fun _ _ _ _ => trivial), kN_warm hW hN⟩⟩ rfl hn hsz hst (lv_room hrm) hdg hf) hS (fun q _ h => hFc q h) hFc (fun r' u t H1 locs1 ht hvm hw hB hz1 hk1 hS1 => ?_)
  obtain ⟨hw, hok⟩ := hw
  subst hw
  exact kk hok H1 locs1 (hP.kept (fun k q hq => hk1 _ (hP k q hq).lt (fun hz => by
    rcases hz with ⟨k', e', he'⟩ | hz
    · simp at he'
    · exact absurd (hP k q hq).lt (Nat.not_lt.mpr hz)))) hD hS1
theorem k_nret {α : Type} {wv : α → va_W} (u : α) (hx : p.tables.exec = Jvm.exec) (hb : c.code = cc) (hr : meth.sig.returnType = none) (hlocks : meth.locks = false) (hK : va_K D vwCl (kTy cA) s) (hP : va_P D vwCl (wv u) H) (hD : va_D A (wv u)) (hS : va_S A s.heap H locs) (hdg : decode cc pc = .ok (.return_, 1)) :
    W p l e R s m args below meth c H locs cells slots (MQ below (kQn D cA A wv) args s cells slots A) (F0 m pc ls []) :=
  W.vret hx hb hr (fun t ht hW => ⟨⟨u, rfl, trivial, by rw [ht]; exact hP, va_K.moved hW.alike hK, hD⟩, hS.F ht⟩) hS.2.2 hdg hlocks
/-- a constructor's call: new cells may come, at addresses u -/
theorem k_ci {α : Type} {mc ms : Nat} {wv w3 : α → va_W} (S : CallFix p m c cc nL s args Ts own) (hM : Met l y wsy rm (kPc D cA (.ref b :: As) wc H.size) (kQn D cA (va_A wc H.size) wv) mc ms (va_A wc H.size)) (cw : CallB R s args own index y bytes maxL none wsy rm mc ms n ∧ y.name = "<init>" ∧ (Cond.instanceMethod y).before args s = true) (hK : va_K D vwCl (kTy cA) s) (hN : kN s) (hP : va_P D vwCl ws H) (hD : va_D A ws) (hS : va_S A H0 H locs) (hA : ∀ q, H0.size ≤ q → A q)
    (isC isR isP : List Nat) (hC : isC.map (fun i => ws[i]?) = wc.map some ∧ isC.filterMap (fun i => ws[i]?) = wc ∧ va_nd isC = true) (hcut : ∀ u : α, k_cut ws wc (wv u) (w3 u) isC isR isP) (hn : As.length = n) (hsz : ls.size = nL) (hst : st0 = As.reverse ++ .ref b :: rest) (hrm : (rest.map fun v => v.category).sum ≤ 8) (hdg : decode cc pc = .ok (.invokespecial index, 3)) (hf : cells + mc ≤ R.cells ∧ slots + ms ≤ R.slots)
    (kk : ∀ (u : α) (H : Heap) (locs : List Loc), va_P D vwCl (w3 u) H → va_D A (w3 u) → va_S A H0 H locs → W p l e R s m args below meth c H locs (cells + mc) (slots + ms) Q (F0 m (pc + 3) ls rest)) : W p l e R s m args below meth c H locs cells slots Q (F0 m pc ls st0) := by
  have hPc := hP.sub isC hC.2.1
  have hDc := hD.sub isC hC.2.2 hC.1
  have hFc := va_free hD hS hA isC hC.1
  refine va_callv (va_runI (As := As) (rest := rest) S hM cw ⟨kPc_blind _ _ _ _ _, fun U hU hW => ⟨rfl, by rw [hU], by rw [hU]; exact hPc, va_K.moved hW.alike hK, hDc.weaken (fun _ _ _ _ => trivial), kN_warm hW hN⟩⟩ rfl hn hsz hst (lv_room hrm) hdg hf) hS (fun q _ h => hFc q h) hFc (fun u t H1 locs1 ht hvm hw hB hz1 hk1 hS1 => ?_)
  obtain ⟨h1, h2, h3, h4, h5, h6, h7, h8, h9⟩ := hcut u
  obtain ⟨hP1, hK1, hD1⟩ := hB
  rw [ht] at hP1
  obtain ⟨hP2, hD2⟩ := va_join hP hD isC isR h1 h4 h5 h6 hk1 hFc hP1 hD1
  exact kk u H1 locs1 (hP2.sub isP h8) (hD2.sub isP h9 h7) hS1
/-- a new array of ints: its class is the one class of int arrays -/
theorem k_newa (hx : p.tables.exec = Jvm.exec) (hb : c.code = cc) (harr : (Cond.arrayClass .int).before args s = true) (hK : va_K D vwCl (kTy cA) s) (hP : va_P D vwCl ws H) (hD : va_D A ws) (hS : va_S A H0 H locs) (hA : ∀ q, H0.size ≤ q → A q) {k : Int32} {N' : Nat} (hk : ¬ k < 0) (hN : k.toNatClampNeg = N') (hbytes : N' ≤ 1000000) (hcells : cells + 1 ≤ R.cells) (hslots : slots + N' ≤ R.slots) (hdg : decode cc pc = .ok (.newarray .int, 2))
    (kk : ∀ (q : Nat) (H : Heap), va_P D vwCl (ws ++ [(q, .inl (cA, N', .inl (fun _ => 0)))]) H → va_D A (ws ++ [(q, .inl (cA, N', .inl (fun _ => 0)))]) → va_S A H0 H locs → W p l e R s m args below meth c H locs (cells + 1) (slots + N') Q (F0 m (pc + 2) ls (.ref q :: rest))) : W p l e R s m args below meth c H locs cells slots Q (F0 m pc ls (.int k :: rest)) := by
  refine va_newa (atype := .int) (ty := .int) (a0 := (N', .inl (fun _ => 0))) hx hb harr rfl hK hP hD hS hA (fun _ => rfl) hk hN (by show N' * 4 ≤ 536870912; omega) hcells hslots hdg (fun q cA' H1 hK1 hP1 hD1 hS1 => ?_)
  have e0 := (hK1.2 0 (cA, .int) rfl).2
  have e1 := (hK1.2 1 (cA', .int) rfl).2
  have e : cA = cA' := Option.some.inj (Eq.trans (Eq.symm e0) e1)
  subst e
  exact kk q H1 hP1 hD1 hS1
end KW

