/-! constructors: a contract over one new cell; rows that make cells -/
def XA (U : State) : Prop := va_AO "WeatherGlaze$Potter" U ∧ va_AO "WeatherGlaze$Sheet" U ∧ va_AO "java/lang/String" U
theorem XA.moved {u U : State} (hvm : u.vm.Alike U.vm) (h : XA u) : XA U := ⟨h.1.moved hvm, h.2.1.moved hvm, h.2.2.moved hvm⟩
/-- what beside its cell a constructor finds: the arrays' classes; the texts -/
def XN (aS : Nat → Nat) (A : Nat → Prop) (U : State) (H : Heap) : Prop := XA U ∧ EX aS A U H
theorem XN.warm {aS : Nat → Nat} {A : Nat → Prop} {u U : State} {H : Heap} (hW : u.WarmedH U.vm) (h : XN aS A u H) : XN aS A U H := ⟨h.1.moved hW.alike, h.2.warm hW⟩
abbrev preN (E : EV) (aS : Nat → Nat) (a : Nat) (e0 : va_E) (sz : Nat) : Array Value → State → Prop := va_Pc [.ref a] (fun U => U.heap.size = sz ∧ PE E [[(a, e0)]] U.heap ∧ KE E U ∧ XN aS (va_A [(a, e0)] sz) U U.heap)
theorem preN_blind {E : EV} {aS : Nat → Nat} {a : Nat} {e0 : va_E} {sz : Nat} : FrameBlind (preN E aS a e0 sz) := fun x U g mk q => by
  obtain ⟨q0, q1, q2, q3, q4, q5⟩ := q
  exact ⟨q0, q1, q2, va_K.moved (u := U) (U := U.calling g mk x) (Vm.Alike.refl U.vm) q3, XA.moved (u := U) (Vm.Alike.refl U.vm) q4, q5.same (u := U) rfl⟩
abbrev qN (E : EV) (a : Nat) (e0 : va_E) (sz : Nat) (Bf : (Nat → Nat) → List va_W) : Array Value → State → Outcome → State → Prop := va_Qv (fun (ad : Nat → Nat) => ad 0 = a) (fun ad t => PE E (Bf ad) t.heap ∧ DE (va_A [(a, e0)] sz) (Bf ad)) (va_A [(a, e0)] sz)
theorem N_mk {l : Launch} {y : MethodName} {cc : ByteArray} {maxL mc ms : Nat} {rm : Room} {E : EV} {aS : Nat → Nat} {a : Nat} {e0 : va_E} {Bf : (Nat → Nat) → List va_W} (own : String) (hy : plainName y.cls = true) (hown : y.cls = own) (hyn : y.name = "<init>") (hn : (lg_sl [Value.ref a]).length ≤ maxL)
    (body : ∀ (p : Program) (e : Env) (s : State) (m : MethodId) (below : List Frame) (meth : Method) (c : Code), CallFix p m c cc maxL s ([Value.ref a] : List Value).toArray (wq y cc maxL none) own → meth.sig.returnType = none → meth.locks = false → meth.name = "<init>" → KE E s → PE E [[(a, e0)]] s.heap → DE (va_A [(a, e0)] s.heap.size) [[(a, e0)]] → XN aS (va_A [(a, e0)] s.heap.size) s s.heap → (∀ q : Nat, s.heap.size ≤ q → va_A [(a, e0)] s.heap.size q) → ∀ ls : Array Slot, lv_has ls maxL (lv_args 0 [Value.ref a]) → W p l e rm s m ([Value.ref a] : List Value).toArray below meth c s.heap [] 0 0 (MQ below (qN E a e0 s.heap.size Bf) ([Value.ref a] : List Value).toArray s mc ms (va_A [(a, e0)] s.heap.size)) (F0 m 0 ls [])) (sz : Nat) : Met l y (wq y cc maxL none) rm (preN E aS a e0 sz) (qN E a e0 sz Bf) mc ms (va_A [(a, e0)] sz) := by
  refine Met.ofW (cc := cc) (maxL := maxL) (ret := none) hy rfl ?_
  intro p e s m args below meth c s₁ B hml hv
  obtain ⟨rfl, hsz, hP, hK, hX⟩ := hv
  subst hsz
  have hts := atoms_spec (ws := wq y cc maxL none) B.pre
  have ho : s.vm.findClass own = some m.cls := by rw [← hown]; exact findClass_of_methodNamed B.named
  have hin : meth.name = "<init>" := (name_of_methodNamed B.named B.method).1.trans hyn
  have hl := lv_entry [Value.ref a] (n := maxL) hn
  rw [lg_entry_eq]
  refine body p e s m below meth c ⟨B.exec, B.bytes, hml, ho, hts⟩ B.returns B.notSynchronized hin hK hP ⟨fun i j x y hi hj _ => ?_, fun k q hk => va_A.in hk⟩ hX (fun q h => Or.inr h) _ hl
  have l1 := (List.getElem?_eq_some_iff.mp hi).1
  have l2 := (List.getElem?_eq_some_iff.mp hj).1
  simp at l1 l2
  omega
theorem fl_app {α : Type} (Bs : List (List α)) (x : α) : (Bs ++ [[x]]).flatten = Bs.flatten ++ [x] := by simp
section NW
variable {p : Program} {l : Launch} {e : Env} {R : Room} {s : State} {m : MethodId} {args : Array Value} {below : List Frame} {meth : Method} {c : Code} {H H0 : Heap} {locs : List Loc} {cells slots : Nat} {Q : State → Prop} {cc : ByteArray} {nL pc : Nat} {ls : Array Slot} {rest : List Value} {c0 : Cond} {own : String} {E : EV} {Bs : List va_W} {A : Nat → Prop} {a : Nat}
/-- behind a constructor's call on the last block -/
theorem go_N {st0 : List Value} {av : Array Value} {Rs : List va_W} {e0 : va_E} {mc ms : Nat} {Bf : (Nat → Nat) → List va_W} (hr : va_Run p l e R s m args below meth c H locs cells slots mc ms (F0 m pc ls st0) rest (qN E a e0 H.size Bf av) (va_A [(a, e0)] H.size)) (hP : PE E (Rs ++ [[(a, e0)]]) H) (hD : DE A (Rs ++ [[(a, e0)]])) (hS : va_S A H0 H locs) (hA : ∀ q : Nat, H0.size ≤ q → A q)
    (kk : ∀ (ad : Nat → Nat) (H1 : Heap) (locs1 : List Loc), ad 0 = a → PE E (Rs ++ Bf ad) H1 → DE A (Rs ++ Bf ad) → va_S A H0 H1 locs1 → W p l e R s m args below meth c H1 locs1 (cells + mc) (slots + ms) Q (F0 m (pc + 3) ls rest)) : W p l e R s m args below meth c H locs cells slots Q (F0 m pc ls st0) := by
  have hP : va_P E.1 vwCl (Rs ++ [[(a, e0)]]).flatten H := hP
  have hD : va_D A (Rs ++ [[(a, e0)]]).flatten := hD
  rw [fl_app] at hP hD
  have hlast : (Rs.flatten ++ [(a, e0)])[Rs.flatten.length]? = some (a, e0) := by simp
  have hAa : A a := hD.2 _ _ hlast
  have hF : ∀ q, va_A [(a, e0)] H.size q → A q := by
    rintro q (⟨k, e9, h⟩ | h)
    · have := List.mem_of_getElem? h
      simp only [List.mem_singleton, Prod.mk.injEq] at this
      rw [this.1]
      exact hAa
    · exact hA q (Nat.le_trans hS.1 h)
  refine va_callv hr hS (fun q _ h => hF q h) hF (fun ad t H1 locs1 ht hvm hw hB hz hk hS1 => ?_)
  obtain ⟨hP1, hD1⟩ := hB
  subst ht
  have pre : ∀ (k : Nat) (q : Nat × va_E), Rs.flatten[k]? = some q → (Rs.flatten ++ [(a, e0)])[k]? = some q := fun k q hq => by
    rw [List.getElem?_append_left (List.getElem?_eq_some_iff.mp hq).1]
    exact hq
  have apart : ∀ (k : Nat) (q : Nat × va_E), Rs.flatten[k]? = some q → q.1 < H.size ∧ ¬ va_A [(a, e0)] H.size q.1 := by
    intro k q hq
    have hl := (hP k q (pre k q hq)).lt
    refine ⟨hl, ?_⟩
    rintro (⟨k2, e9, h⟩ | h)
    · have h3 := List.mem_of_getElem? h
      simp only [List.mem_singleton, Prod.mk.injEq] at h3
      have h4 := hD.1 k _ q (a, e0) (pre k q hq) hlast h3.1
      have h5 := (List.getElem?_eq_some_iff.mp hq).1
      omega
    · omega
  have hR : va_P E.1 vwCl Rs.flatten t.heap := fun k q hq => by
    obtain ⟨g1, g2⟩ := apart k q hq
    exact (hP k q (pre k q hq)).kept (hk q.1 g1 g2)
  have hDR : va_D A Rs.flatten := ⟨fun i j x y hi hj hxy => hD.1 i j x y (pre i x hi) (pre j y hj) hxy, fun k q hq => hD.2 k q (pre k q hq)⟩
  refine kk ad _ _ hw ?_ ?_ hS1
  · show va_P E.1 vwCl (Rs ++ Bf ad).flatten t.heap
    rw [List.flatten_append]
    exact hR.app hP1
  · show va_D A (Rs ++ Bf ad).flatten
    rw [List.flatten_append]
    exact hDR.app (hD1.weaken (fun k q _ h => hF q.1 h)) (fun i j x y hx hy hxy => (apart i x hx).2 (by rw [hxy]; exact hD1.2 j y hy))
theorem bn_new (S : CallFix p m c cc nL s args (c0 :: GW) own) {C : String} {T : u_T} {N ci index : Nat} (hin : ∀ w ∈ u_ws C T N, w ∈ GW) (ty : Nat → FieldType) (hty : ∀ k, k < N → parseFieldDescriptor (T k).2.2.1 = some (ty k)) (hcl : Cond.classLink own index C ∈ GW) (hinst : Cond.instantiable C N ∈ GW) (hini : Cond.initialized C ∈ GW) (hK : KE E s) (hP : PE E Bs H) (hD : DE A Bs) (hS : va_S A H0 H locs) (hA : ∀ q : Nat, H0.size ≤ q → A q) (hc : vwCl[ci]? = some (C, T, N)) {fs : List Value} (hfs : ∀ j, j < N → defaultValue (ty j) = vp_V fs j) (hcells : cells + 1 ≤ R.cells) (hslots : slots + N ≤ R.slots) (hdg : decode cc pc = .ok (.new index, 3))
    (kk : ∀ (q : Nat) (H1 : Heap), PE E (Bs ++ [[(q, .inr (ci, fs))]]) H1 → DE A (Bs ++ [[(q, .inr (ci, fs))]]) → va_S A H0 H1 locs → W p l e R s m args below meth c H1 locs (cells + 1) (slots + N) Q (F0 m (pc + 3) ls (.ref q :: rest))) : W p l e R s m args below meth c H locs cells slots Q (F0 m pc ls rest) := by
  have tb : ∀ w ∈ GW, w.before args s = true := fun w h => S.2.2.2.2 w (List.mem_cons_of_mem _ h)
  refine va_new (D := E.1) (ci := ci) (fs := fs) (C := C) (T := T) (N := N) S.1 S.2.1 tb hin ty hty S.2.2.2.1 (tb _ hcl) (tb _ hinst) (tb _ hini) hK hP hD hS hA hc hfs hcells hslots hdg (fun q H1 hP hD hS => ?_)
  refine kk q H1 ?_ ?_ hS
  · show va_P E.1 vwCl _ H1
    rw [fl_app]
    exact hP
  · show va_D A _
    rw [fl_app]
    exact hD
theorem k_int {cA : ClassId} (hK : va_K E.1 vwCl (tyE E ++ [(cA, .int)]) s) : cA = E.2.1 := Option.some.inj ((hK.2 5 (cA, .int) rfl).2.symm.trans (hK.2 0 (E.2.1, .int) rfl).2)
theorem k_byte {cA : ClassId} (hK : va_K E.1 vwCl (tyE E ++ [(cA, .byte)]) s) : cA = E.2.2.1 := Option.some.inj ((hK.2 5 (cA, .byte) rfl).2.symm.trans (hK.2 1 (E.2.2.1, .byte) rfl).2)
theorem k_obj {cA cB : ClassId} {C : String} {t0 : Nat} (ht : (tyE E)[t0]? = some (cB, .object C)) (hK : va_K E.1 vwCl (tyE E ++ [(cA, .object C)]) s) : cA = cB := by
  obtain ⟨_, _, _, _, _, h1⟩ := (hK.2 5 (cA, .object C) rfl).2
  obtain ⟨_, _, _, _, _, h2⟩ := (hK.2 t0 (cB, .object C) (by rw [List.getElem?_append_left (List.getElem?_eq_some_iff.mp ht).1]; exact ht)).2
  exact Option.some.inj (h1.symm.trans h2)
theorem bn_int (S : CallFix p m c cc nL s args (c0 :: GW) own) (hK : KE E s) (hP : PE E Bs H) (hD : DE A Bs) (hS : va_S A H0 H locs) (hA : ∀ q : Nat, H0.size ≤ q → A q) {n : Int32} {N : Nat} (hn : ¬ n < 0) (hN : n.toNatClampNeg = N) (hbytes : N * componentBytes .int ≤ 536870912) (hcells : cells + 1 ≤ R.cells) (hslots : slots + N ≤ R.slots) (hdg : decode cc pc = .ok (.newarray .int, 2))
    (kk : ∀ (q : Nat) (H1 : Heap), PE E (Bs ++ [[(q, .inl (E.2.1, N, .inl (fun _ => 0)))]]) H1 → DE A (Bs ++ [[(q, .inl (E.2.1, N, .inl (fun _ => 0)))]]) → va_S A H0 H1 locs → W p l e R s m args below meth c H1 locs (cells + 1) (slots + N) Q (F0 m (pc + 2) ls (.ref q :: rest))) : W p l e R s m args below meth c H locs cells slots Q (F0 m pc ls (.int n :: rest)) := by
  refine va_newa (D := E.1) (atype := .int) (ty := .int) (a0 := (N, .inl (fun _ => 0))) S.1 S.2.1 (S.2.2.2.2 _ (List.mem_cons_of_mem _ ak_int)) rfl hK hP hD hS hA (fun _ => rfl) hn hN hbytes hcells hslots hdg (fun q cA H1 hK1 hP hD hS => ?_)
  have hc := k_int hK1
  subst hc
  refine kk q H1 ?_ ?_ hS
  · show va_P E.1 vwCl _ H1
    rw [fl_app]
    exact hP
  · show va_D A _
    rw [fl_app]
    exact hD
theorem bn_byte (S : CallFix p m c cc nL s args (c0 :: GW) own) (hK : KE E s) (hP : PE E Bs H) (hD : DE A Bs) (hS : va_S A H0 H locs) (hA : ∀ q : Nat, H0.size ≤ q → A q) {n : Int32} {N : Nat} (hn : ¬ n < 0) (hN : n.toNatClampNeg = N) (hbytes : N * componentBytes .byte ≤ 536870912) (hcells : cells + 1 ≤ R.cells) (hslots : slots + N ≤ R.slots) (hdg : decode cc pc = .ok (.newarray .byte, 2))
    (kk : ∀ (q : Nat) (H1 : Heap), PE E (Bs ++ [[(q, .inl (E.2.2.1, N, .inl (fun _ => 0)))]]) H1 → DE A (Bs ++ [[(q, .inl (E.2.2.1, N, .inl (fun _ => 0)))]]) → va_S A H0 H1 locs → W p l e R s m args below meth c H1 locs (cells + 1) (slots + N) Q (F0 m (pc + 2) ls (.ref q :: rest))) : W p l e R s m args below meth c H locs cells slots Q (F0 m pc ls (.int n :: rest)) := by
  refine va_newa (D := E.1) (atype := .byte) (ty := .byte) (a0 := (N, .inl (fun _ => 0))) S.1 S.2.1 (S.2.2.2.2 _ (List.mem_cons_of_mem _ ak_byte)) rfl hK hP hD hS hA (fun _ => rfl) hn hN hbytes hcells hslots hdg (fun q cA H1 hK1 hP hD hS => ?_)
  have hc := k_byte hK1
  subst hc
  refine kk q H1 ?_ ?_ hS
  · show va_P E.1 vwCl _ H1
    rw [fl_app]
    exact hP
  · show va_D A _
    rw [fl_app]
    exact hD
theorem bn_obj (S : CallFix p m c cc nL s args (c0 :: GW) own) {C : String} {index t0 : Nat} {cB : ClassId} (ht : (tyE E)[t0]? = some (cB, .object C)) (hcl : Cond.classLink own index C ∈ GW) (hov : va_AO C s) (hK : KE E s) (hP : PE E Bs H) (hD : DE A Bs) (hS : va_S A H0 H locs) (hA : ∀ q : Nat, H0.size ≤ q → A q) {n : Int32} {N : Nat} (hn : ¬ n < 0) (hN : n.toNatClampNeg = N) (hbytes : N * 4 ≤ 536870912) (hcells : cells + 1 ≤ R.cells) (hslots : slots + N ≤ R.slots) (hdg : decode cc pc = .ok (.anewarray index, 3))
    (kk : ∀ (q : Nat) (H1 : Heap), PE E (Bs ++ [[(q, .inl (cB, N, .inr (.inr (.inr (.inr (fun _ => none))))))]]) H1 → DE A (Bs ++ [[(q, .inl (cB, N, .inr (.inr (.inr (.inr (fun _ => none))))))]]) → va_S A H0 H1 locs → W p l e R s m args below meth c H1 locs (cells + 1) (slots + N) Q (F0 m (pc + 3) ls (.ref q :: rest))) : W p l e R s m args below meth c H locs cells slots Q (F0 m pc ls (.int n :: rest)) := by
  refine va_newq (D := E.1) (C := C) S.1 S.2.1 S.2.2.2.1 (S.2.2.2.2 _ (List.mem_cons_of_mem _ hcl)) hov hK hP hD hS hA hn hN hbytes hcells hslots hdg (fun q cA H1 hK1 hP hD hS => ?_)
  have hc := k_obj ht hK1
  subst hc
  refine kk q H1 ?_ ?_ hS
  · show va_P E.1 vwCl _ H1
    rw [fl_app]
    exact hP
  · show va_D A _
    rw [fl_app]
    exact hD
theorem b_putF (S : CallFix p m c cc nL s args (c0 :: GW) own) {C : String} {T : u_T} {N ci index : Nat} (hin : ∀ w ∈ u_ws C T N, w ∈ GW) (ty0 : Nat → FieldType) (hty : ∀ k, k < N → parseFieldDescriptor (T k).2.2.1 = some (ty0 k)) (hnm : ∀ a, a < N → ∀ b, b < N → a ≠ b → (T a).2.1 ≠ (T b).2.1) (hini : meth.name = "<init>") (hK : KE E s) (hP : PE E Bs H) (hD : DE A Bs) (hS : va_S A H0 H locs) (hc : vwCl[ci]? = some (C, T, N)) (k : Nat) (hk : k < N) (hlink : Cond.fieldLink own index (T k).1 (T k).2.1 (T k).2.2.1 ∈ GW) (hfin : (T k).2.2.2 = true) (hdecl : (T k).1 = own) {ty : FieldType} {v : Value} (hd : parseFieldDescriptor (T k).2.2.1 = some ty) (hn : narrow ty v = v) (hfit : fits ty v = true) (b j : Nat) {B B1 : va_W} (hB : Bs[b]? = some B) {fs : List Value} (he : B[j]? = some (a, .inr (ci, fs))) (hl : k < fs.length) (hB1 : B.set j (a, .inr (ci, fs.set k v)) = B1) {Bs1 : List va_W} (hBs : Bs.set b B1 = Bs1) (hdg : decode cc pc = .ok (.putfield index, 3)) (kk : ∀ (H1 : Heap) (locs1 : List Loc), PE E Bs1 H1 → DE A Bs1 → va_S A H0 H1 locs1 → W p l e R s m args below meth c H1 locs1 cells slots Q (F0 m (pc + 3) ls rest)) : W p l e R s m args below meth c H locs cells slots Q (F0 m pc ls (v :: .ref a :: rest)) := by
  subst hBs; subst hB1
  have tb : ∀ w ∈ GW, w.before args s = true := fun w h => S.2.2.2.2 w (List.mem_cons_of_mem _ h)
  refine va_putF (D := E.1) (ci := ci) (C := C) (T := T) (N := N) S.1 S.2.1 tb hin ty0 hty hnm S.2.2.2.1 hK hP hD hS _ (fl_get Bs b j B _ hB he) hc k hk (tb _ hlink) (fun _ h9 => h9) hfin hini hdecl hd hn hfit hl hdg (fun H1 locs1 hP hD hS => ?_)
  rw [fl_set Bs b j B _ hB (List.getElem?_eq_some_iff.mp he).1] at hP hD
  exact kk H1 locs1 hP hD hS
theorem b_astq (S : CallFix p m c cc nL s args (c0 :: GW) own) (hK : KE E s) (hP : PE E Bs H) (hD : DE A Bs) (hS : va_S A H0 H locs) (t0 b j b2 j2 ci : Nat) {B B1 B2 : va_W} {cA : ClassId} {r : vw_C} {n v : Nat} {vs : List Value} {f : Nat → Option Nat} (hB : Bs[b]? = some B) (ht : (tyE E)[t0]? = some (cA, .object r.1)) (he : B[j]? = some (a, .inl (cA, n, .inr (.inr (.inr (.inr f)))))) (hB2 : Bs[b2]? = some B2) (he2 : B2[j2]? = some (v, .inr (ci, vs))) (hc : vwCl[ci]? = some r) {i : Nat} (hin : i < n) (hn : n < 2147483648) (hB1 : B.set j (a, .inl (cA, n, .inr (.inr (.inr (.inr (va_up f i (some v))))))) = B1) {Bs1 : List va_W} (hBs : Bs.set b B1 = Bs1) (hdg : decode cc pc = .ok (.aastore, 1)) (kk : ∀ (H1 : Heap) (locs1 : List Loc), PE E Bs1 H1 → DE A Bs1 → va_S A H0 H1 locs1 → W p l e R s m args below meth c H1 locs1 cells slots Q (F0 m (pc + 1) ls rest)) : W p l e R s m args below meth c H locs cells slots Q (F0 m pc ls (.ref v :: .int (nI i) :: .ref a :: rest)) := by
  subst hBs; subst hB1
  refine va_astq S.1 S.2.1 hK hP hD hS _ t0 _ ci (fl_get Bs b j B _ hB he) ht (fl_get Bs b2 j2 B2 _ hB2 he2) hc (vp_in_nI hin hn) hdg (fun H1 locs1 hP hD hS => ?_)
  rw [nI_clamp (by omega)] at hP hD
  rw [fl_set Bs b j B _ hB (List.getElem?_eq_some_iff.mp he).1] at hP hD
  exact kk H1 locs1 hP hD hS
theorem b_astqM (S : CallFix p m c cc nL s args (c0 :: GW) own) (hK : KE E s) (hP : PE E Bs H) (hD : DE A Bs) (hS : va_S A H0 H locs) (t0 b j : Nat) {B B1 : va_W} {cA : ClassId} {C : String} {n v : Nat} {f : Nat → Option Nat} (hB : Bs[b]? = some B) (ht : (tyE E)[t0]? = some (cA, .object C)) (he : B[j]? = some (a, .inl (cA, n, .inr (.inr (.inr (.inr f)))))) (hr : va_Any C s H v) {i : Nat} (hin : i < n) (hn : n < 2147483648) (hB1 : B.set j (a, .inl (cA, n, .inr (.inr (.inr (.inr (va_up f i (some v))))))) = B1) {Bs1 : List va_W} (hBs : Bs.set b B1 = Bs1) (hdg : decode cc pc = .ok (.aastore, 1)) (kk : ∀ (H1 : Heap) (locs1 : List Loc), PE E Bs1 H1 → DE A Bs1 → va_S A H0 H1 locs1 → W p l e R s m args below meth c H1 locs1 cells slots Q (F0 m (pc + 1) ls rest)) : W p l e R s m args below meth c H locs cells slots Q (F0 m pc ls (.ref v :: .int (nI i) :: .ref a :: rest)) := by
  subst hBs; subst hB1
  refine va_astqM S.1 S.2.1 hK hP hD hS _ t0 (fl_get Bs b j B _ hB he) ht hr (vp_in_nI hin hn) hdg (fun H1 locs1 hP hD hS => ?_)
  rw [nI_clamp (by omega)] at hP hD
  rw [fl_set Bs b j B _ hB (List.getElem?_eq_some_iff.mp he).1] at hP hD
  exact kk H1 locs1 hP hD hS
theorem good_I {y : MethodName} {bytes : ByteArray} {n : Nat} {ret : Option FieldType} (h : Cond.code y bytes n ret ∈ GW) : GoodIn (c0 :: GW) (wq y bytes n ret) := good_gw (fun w hw => by
  rcases List.mem_cons.mp hw with rfl | h2
  · exact h
  · exact h2)
theorem run_N (S : CallFix p m c cc nL s args (c0 :: GW) own) {y : MethodName} {bytes : ByteArray} {maxL mc ms idx : Nat} {rm : Room} {aS : Nat → Nat} {b : Nat} {e0 : va_E} {Bf : (Nat → Nat) → List va_W} (hK : KE E s) (hPc : PE E [[(b, e0)]] H) (hX : XN aS (va_A [(b, e0)] H.size) s H) (hM : Met l y (wq y bytes maxL none) rm (preN E aS b e0 H.size) (qN E b e0 H.size Bf) mc ms (va_A [(b, e0)] H.size)) (h1 : Cond.code y bytes maxL none ∈ GW) (h2 : Cond.initialized y.cls ∈ GW) (h3 : Cond.methodLink own idx y ∈ GW) (h4 : Cond.instanceMethod y ∈ GW) (hy : y.name = "<init>") (hd : y.cls ≠ "java/lang/invoke/MethodHandle" ∧ y.cls ≠ "java/lang/invoke/VarHandle" ∧ (parseMethodDescriptor y.desc).map (fun d => d.parameters.length) = some 0) (hrm : rm.cells = mc ∧ rm.slots = ms) (hR : rm.frames + 1 ≤ R.frames ∧ 8 + (maxL + 11) + rm.locals ≤ R.locals) (hsz : ls.size = nL) (hrest : (rest.map fun v => v.category).sum ≤ 8) (hdg : decode cc pc = .ok (.invokespecial idx, 3)) (hcs : cells + mc ≤ R.cells ∧ slots + ms ≤ R.slots) : va_Run p l e R s m args below meth c H locs cells slots mc ms (F0 m pc ls (.ref b :: rest)) rest (qN E b e0 H.size Bf ([Value.ref b] : List Value).toArray) (va_A [(b, e0)] H.size) := by
  have tb : ∀ w ∈ GW, w.before args s = true := fun w h => S.2.2.2.2 w (List.mem_cons_of_mem _ h)
  exact va_runI (As := []) (rest := rest) S hM (cwI 0 S.2.2.2.2 (good_I h1) rfl hrm.1 hrm.2 (tb _ h2) (tb _ h3) (tb _ h4) hy hd hR) ⟨preN_blind, fun U hU hW => ⟨rfl, by rw [hU], by rw [hU]; exact hPc, va_K.moved hW.alike hK, by rw [hU]; exact hX.warm hW⟩⟩ rfl rfl hsz rfl (lv_room hrest) hdg hcs
theorem obj_init (S : CallFix p m c cc nL s args (c0 :: GW) own) (hsz : ls.size = nL) {idx : Nat} (h3 : Cond.methodLink own idx objectInit ∈ GW) (hdg : decode cc pc = .ok (.invokespecial idx, 3)) (hf : 1 ≤ R.frames) (hlo : (rest.map fun v => v.category).sum + 12 ≤ R.locals) (kk : W p l e R s m args below meth c H locs cells slots Q (F0 m (pc + 3) ls rest)) : W p l e R s m args below meth c H locs cells slots Q (F0 m pc ls (.ref a :: rest)) := by
  have tb : ∀ w ∈ GW, w.before args s = true := fun w h => S.2.2.2.2 w (List.mem_cons_of_mem _ h)
  refine W.objInit S.1 S.2.1 S.2.2.2.1 (tb _ h3) (tb _ ik_objectInit) (tb _ ck_objectInit) rfl (hsz.trans S.2.2.1.symm) rfl hdg hf (by show 2 * 0 + (rest.map fun v => v.category).sum + 12 ≤ R.locals; omega) ?_
  exact W.eq (g2 := F0 m (pc + 3) ls rest) rfl kk
/-- a constructor's end -/
theorem retN {e0 : va_E} {Bf : (Nat → Nat) → List va_W} (S : CallFix p m c cc nL s args (c0 :: GW) own) (hr : meth.sig.returnType = none) (hlk : meth.locks = false) (ad : Nat → Nat) (h0 : ad 0 = a) (hP : PE E (Bf ad) H) (hD : DE (va_A [(a, e0)] s.heap.size) (Bf ad)) (hS : va_S (va_A [(a, e0)] s.heap.size) s.heap H locs) (hdg : decode cc pc = .ok (.return_, 1)) : W p l e R s m args below meth c H locs cells slots (MQ below (qN E a e0 s.heap.size Bf) args s cells slots (va_A [(a, e0)] s.heap.size)) (F0 m pc ls []) :=
  W.vret S.1 S.2.1 hr (fun t ht hW => ⟨⟨ad, rfl, h0, by rw [ht]; exact hP, hD⟩, hS.F ht⟩) hS.2.2 hdg hlk
theorem XN.at' {aS : Nat → Nat} {e1 : va_E} {b : Nat} (hX : XN aS A s s.heap) (hS : va_S A s.heap H locs) (hA : ∀ q : Nat, s.heap.size ≤ q → A q) (hb : A b) : XN aS (va_A [(b, e1)] H.size) s H := ⟨hX.1, (hX.2.kept hS.2.1).narrow (by
  rintro q (⟨k, e9, h⟩ | h)
  · have := List.mem_of_getElem? h
    simp only [List.mem_singleton, Prod.mk.injEq] at this
    rw [this.1]
    exact hb
  · exact hA q (Nat.le_trans hS.1 h))⟩
theorem cell_A {e0 : va_E} (hD : DE A Bs) (b : Nat) (hB : Bs[b]? = some [(a, e0)]) : A a := hD.2 _ (a, e0) (fl_get Bs b 0 _ (a, e0) hB rfl)
theorem str_any {bs : List Int32} {v : Nat} (hA : sA v bs A s s.heap) (hS : va_S A s.heap H locs) : va_Any "java/lang/String" s H v := by
  obtain ⟨cell, h1, h2, h3, _⟩ := (hA.kept hS.2.1).1
  obtain ⟨k, hk, _⟩ := Vm.findClass_spec h3
  exact ⟨cell, h1, h2, ⟨k, hk⟩, fun comp hc => vb_asgS comp cell.cls hc h3⟩
end NW
/-! pictures of what is new -/
theorem vp_ref {cA : ClassId} {n : Nat} {f g : Nat → Option Nat} (h : ∀ j, j < n → f j = g j) : vp_cell cA (n, .inr (.inr (.inr (.inr f)))) = vp_cell cA (n, .inr (.inr (.inr (.inr g)))) := by
  rw [vp_cell_q, vp_cell_q]
  unfold arrV
  congr 2
  funext j
  show va_rf (f j.val) = va_rf (g j.val)
  rw [h j.val j.isLt]
/-- cells that look alike -/
def sm_at (x y : Nat × va_E) : Prop := x.1 = y.1 ∧ ∀ (D : va_G) (H : Heap), va_at D vwCl x H → va_at D vwCl y H
theorem sm_rf {x : Nat × va_E} : sm_at x x := ⟨rfl, fun _ _ h => h⟩
theorem sm_ref {q : Nat} {cA : ClassId} {n : Nat} {f g : Nat → Option Nat} (h : ∀ j, j < n → f j = g j) : sm_at (q, .inl (cA, n, .inr (.inr (.inr (.inr f))))) (q, .inl (cA, n, .inr (.inr (.inr (.inr g))))) := ⟨rfl, fun D H h1 => by
  have h1 : H[q]? = some (vp_cell cA (n, .inr (.inr (.inr (.inr f))))) := h1
  show H[q]? = some (vp_cell cA (n, .inr (.inr (.inr (.inr g)))))
  rw [h1, vp_ref h]⟩
def sm_all : va_W → va_W → Prop
  | [], [] => True
  | x :: xs, y :: ys => sm_at x y ∧ sm_all xs ys
  | _, _ => False
theorem sm_P : ∀ {w1 w2 : va_W} {D : va_G} {H : Heap}, sm_all w1 w2 → va_P D vwCl w1 H → va_P D vwCl w2 H
  | [], [], _, _, _, h => h
  | x :: xs, y :: ys, D, H, hs, h => fun k q hq => by
    cases k with
    | zero => simp only [List.getElem?_cons_zero, Option.some.injEq] at hq; subst hq; exact hs.1.2 D H (h 0 x rfl)
    | succ k => exact sm_P hs.2 (fun k q hk => h (k + 1) q hk) k q hq
  | [], _ :: _, _, _, hs, _ => hs.elim
  | _ :: _, [], _, _, hs, _ => hs.elim
theorem sm_fst : ∀ {w1 w2 : va_W}, sm_all w1 w2 → w2.map Prod.fst = w1.map Prod.fst
  | [], [], _ => rfl
  | x :: xs, y :: ys, hs => by rw [List.map_cons, List.map_cons, hs.1.1, sm_fst hs.2]
  | [], _ :: _, hs => hs.elim
  | _ :: _, [], hs => hs.elim
theorem sm_D {A : Nat → Prop} {w1 w2 : va_W} (hs : sm_all w1 w2) (h : va_D A w1) : va_D A w2 := h.addr (sm_fst hs)
def spR (k : Nat) : Row := fun j => if j < k then -1 else 0
theorem spR_0 : spR 0 = fun _ => 0 := funext fun j => if_neg (by omega)
theorem spR_s {k : Nat} : upd (spR k) k (-1) = spR (k + 1) := funext fun j => by
  unfold upd spR
  by_cases h : j = k
  · rw [if_pos h, if_pos (by omega)]
  · rw [if_neg h]
    by_cases h2 : j < k
    · rw [if_pos h2, if_pos (by omega)]
    · rw [if_neg h2, if_neg (by omega)]
def adL (L : List Nat) : Nat → Nat := fun j => L.getD j 0
/-- the rows of new hills, of the class, of the reference -/
def r0H : Row := fun j => if j = 2 then 1 else if 11 ≤ j ∧ j < 21 then -1 else if j < 21 then 0 else if (j - 21) % 7 = 1 then 10 else if (j - 21) % 7 = 2 then 2 else 0
def r0M : Row := fun j => if j = 2 then 1 else if 11 ≤ j ∧ j < 21 then -1 else 0
theorem seg_l : (fun _ => 0) = seg r0H 5 6 := funext fun j => by
  unfold seg
  by_cases h : j < 6
  · rw [if_pos h]
    unfold r0H
    rw [if_neg (by omega), if_neg (by omega), if_pos (by omega)]
  · rw [if_neg h]
theorem seg_s : spR 10 = seg r0H 11 10 := funext fun j => by
  unfold seg spR
  by_cases h : j < 10
  · rw [if_pos h, if_pos h]
    unfold r0H
    rw [if_neg (by omega), if_pos (by omega)]
  · rw [if_neg h, if_neg h]
