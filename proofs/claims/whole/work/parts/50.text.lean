/-! strings, the JDK's methods over them; contracts over more than a world -/
abbrev nA : Nat → Prop := fun _ => False
def JX (A : Nat → Prop) (U : State) (H : Heap) : Prop := va_Z "java/lang/String" "COMPACT_STRINGS" "Z" (.int 1) A U H ∧ va_Zq "jdk/internal/util/Preconditions" "SIOOBE_FORMATTER" "Ljava/util/function/BiFunction;" A U H
theorem JX.moved {A : Nat → Prop} {u U : State} {H : Heap} (hvm : u.vm.Alike U.vm) (h : JX A u H) : JX A U H := ⟨va_Z.moved hvm h.1, va_Zq.moved hvm h.2⟩
theorem JX.kept {A : Nat → Prop} {U : State} {H H1 : Heap} (h : JX A U H) (hq : ∀ a : Nat, a < H.size → ¬ A a → H1[a]? = H[a]?) : JX A U H1 := ⟨va_Z.kept h.1 hq, va_Zq.kept h.2 hq⟩
theorem JX.narrow {A B : Nat → Prop} {U : State} {H : Heap} (h : JX A U H) (hAB : ∀ q, B q → A q) : JX B U H := ⟨va_Z.narrow h.1 hAB, va_Zq.narrow h.2 hAB⟩
def sA (a : Nat) (bs : List Int32) (A : Nat → Prop) (U : State) (H : Heap) : Prop := va_O "java/lang/String" a A U H ∧ va_OF "java/lang/String" "coder" "B" (.int 0) a A U H ∧ ∃ v : Nat, va_OF "java/lang/String" "value" "[B" (.ref v) a A U H ∧ va_T .byte v bs.length (fun j => .int (bs.getD j 0)) A U H
theorem sA.moved {a : Nat} {bs : List Int32} {A : Nat → Prop} {u U : State} {H : Heap} (hvm : u.vm.Alike U.vm) (h : sA a bs A u H) : sA a bs A U H := by
  obtain ⟨h1, h2, v, h3, h4⟩ := h
  exact ⟨va_O.moved hvm h1, va_OF.moved hvm h2, v, va_OF.moved hvm h3, va_T.moved hvm h4⟩
theorem sA.kept {a : Nat} {bs : List Int32} {A : Nat → Prop} {U : State} {H H1 : Heap} (h : sA a bs A U H) (hq : ∀ a : Nat, a < H.size → ¬ A a → H1[a]? = H[a]?) : sA a bs A U H1 := by
  obtain ⟨h1, h2, v, h3, h4⟩ := h
  exact ⟨va_O.kept h1 hq, va_OF.kept h2 hq, v, va_OF.kept h3 hq, va_T.kept h4 hq⟩
theorem sA.narrow {a : Nat} {bs : List Int32} {A B : Nat → Prop} {U : State} {H : Heap} (h : sA a bs A U H) (hAB : ∀ q, B q → A q) : sA a bs B U H := by
  obtain ⟨h1, h2, v, h3, h4⟩ := h
  exact ⟨va_O.narrow h1 hAB, va_OF.narrow h2 hAB, v, va_OF.narrow h3 hAB, va_T.narrow h4 hAB⟩
def tWs : List (List Int32) := [[112, 111, 116, 116, 101, 114], [121, 111, 117, 110, 103], [111, 108, 100], [119, 105, 100, 111, 119, 101, 114], [97, 98, 101, 108], [115, 116, 111, 110, 101], [108, 97, 100], [103, 114, 105, 101, 102], [104, 111, 117, 114, 115], [114, 117, 110], [119, 101, 97, 116, 104, 101, 114], [111, 110, 105, 111, 110, 115]]
def tW (w : Nat) : List Int32 := tWs.getD w []
def poolL : List (String × Nat × String × Nat) := [(RX2, 113, "potter", 0), (RX2, 101, "young", 1), (RX2, 103, "old", 2), (RX2, 105, "widower", 3), (RX2, 107, "abel", 4), (RX2, 109, "stone", 5), (RX2, 111, "lad", 6), (RX2, 115, "grief", 7), (RX2, 117, "hours", 8), (RX2, 119, "run", 9), (RX2, 38, "weather", 10), (RX2, 47, "onions", 11), (RX5, 27, "potter", 12), (RX5, 29, "young", 13), (RX5, 31, "old", 14), (RX5, 33, "widower", 15), (RX5, 35, "abel", 16), (RX5, 37, "stone", 17), (RX5, 39, "lad", 18), (RX5, 268, "grief", 19), (RX5, 276, "hours", 20), (RX5, 278, "run", 21), (RX5, 287, "weather", 22), (RX5, 292, "onions", 23)]
/-- what a text's method finds beside its world: the texts of the class and of the reference, the JDK's statics, the nest's word -/
def EX (aS : Nat → Nat) (A : Nat → Prop) (U : State) (H : Heap) : Prop := JX A U H ∧ (∀ i : Nat, i < 12 → sA (aS i) (tW i) A U H ∧ sA (aS (12 + i)) (tW i) A U H) ∧ (∀ q ∈ poolL, vk_R q.1 q.2.1 q.2.2.1 (aS q.2.2.2) U) ∧ va_Nw (.methodLinkNest RX2 89 yX4_mostOf RX4) U
theorem EX.warm {aS : Nat → Nat} {A : Nat → Prop} {u U : State} {H : Heap} (hW : u.WarmedH U.vm) (h : EX aS A u H) : EX aS A U H := ⟨h.1.moved hW.alike, fun i hi => ⟨(h.2.1 i hi).1.moved hW.alike, (h.2.1 i hi).2.moved hW.alike⟩, fun q hq => (h.2.2.1 q hq).warm hW, va_Nw.warmM hW h.2.2.2⟩
theorem EX.kept {aS : Nat → Nat} {A : Nat → Prop} {U : State} {H H1 : Heap} (h : EX aS A U H) (hq : ∀ a : Nat, a < H.size → ¬ A a → H1[a]? = H[a]?) : EX aS A U H1 := ⟨h.1.kept hq, fun i hi => ⟨(h.2.1 i hi).1.kept hq, (h.2.1 i hi).2.kept hq⟩, h.2.2.1, h.2.2.2⟩
theorem EX.narrow {aS : Nat → Nat} {A B : Nat → Prop} {U : State} {H : Heap} (h : EX aS A U H) (hAB : ∀ q, B q → A q) : EX aS B U H := ⟨h.1.narrow hAB, fun i hi => ⟨(h.2.1 i hi).1.narrow hAB, (h.2.1 i hi).2.narrow hAB⟩, h.2.2.1, h.2.2.2⟩
theorem EX.same {aS : Nat → Nat} {A : Nat → Prop} {u U : State} {H : Heap} (hv : U.vm = u.vm) (h : EX aS A u H) : EX aS A U H := ⟨h.1.moved (by rw [hv]; exact Vm.Alike.refl _), fun i hi => ⟨(h.2.1 i hi).1.moved (by rw [hv]; exact Vm.Alike.refl _), (h.2.1 i hi).2.moved (by rw [hv]; exact Vm.Alike.refl _)⟩, fun q hq => (h.2.2.1 q hq).same hv, va_Nw.same rfl hv.symm h.2.2.2⟩
/-- a method that changes nothing, and its answer -/
def qP (v : Option Value) : Array Value → State → Outcome → State → Prop := fun _ st o t => o = .returned v ∧ t.heap = st.heap
theorem MJ_mk {l : Launch} {y : MethodName} {cc : ByteArray} {maxL : Nat} {ret : Option FieldType} {rm : Room} {av : List Value} {P : State → Prop} {Qc : Array Value → State → Outcome → State → Prop} {free : Addr → Prop} (own : String) (hy : plainName y.cls = true) (hown : y.cls = own) (hn : (lg_sl av).length ≤ maxL)
    (body : ∀ (p : Program) (e : Env) (s : State) (m : MethodId) (below : List Frame) (meth : Method) (c : Code), CallFix p m c cc maxL s av.toArray (wq y cc maxL ret) own → meth.sig.returnType = ret → meth.locks = false → P s → ∀ ls : Array Slot, lv_has ls maxL (lv_args 0 av) → W p l e rm s m av.toArray below meth c s.heap [] 0 0 (MQ below Qc av.toArray s 0 0 free) (F0 m 0 ls [])) : Met l y (wq y cc maxL ret) rm (va_Pc av P) Qc 0 0 free := by
  refine Met.ofW (cc := cc) (maxL := maxL) (ret := ret) hy rfl ?_
  intro p e s m args below meth c s₁ B hml hv
  obtain ⟨rfl, hP⟩ := hv
  have hts := atoms_spec (ws := wq y cc maxL ret) B.pre
  have ho : s.vm.findClass own = some m.cls := by rw [← hown]; exact findClass_of_methodNamed B.named
  have hl := lv_entry av (n := maxL) hn
  rw [lg_entry_eq]
  exact body p e s m below meth c ⟨B.exec, B.bytes, hml, ho, hts⟩ B.returns B.notSynchronized hP _ hl
section JR
variable {p : Program} {l : Launch} {e : Env} {R : Room} {s : State} {m : MethodId} {args : Array Value} {below : List Frame} {meth : Method} {c : Code} {H H0 : Heap} {locs : List Loc} {cells slots : Nat} {Q : State → Prop} {cc : ByteArray} {nL pc : Nat} {ls : Array Slot} {rest : List Value} {Ts : List Cond} {own : String} {E : EV} {Bs : List va_W} {A : Nat → Prop} {a : Nat}
variable {y : MethodName} {bytes : ByteArray} {maxL : Nat} {ret : Option FieldType} {rm : Room} {Bc : List va_W} {Qc : Array Value → State → Outcome → State → Prop} {free : Addr → Prop} {C : String} {idx n b : Nat} {As : List Value} {P : State → Prop}
theorem run_VJ (S : CallFix p m c cc nL s args Ts own) (hbl : FrameBlind (va_Pc (.ref b :: As) P)) (hrc : ∃ cellB : Cell, H[b]? = some cellB ∧ cellB.vm.isStatics = false ∧ s.vm.findClass C = some cellB.cls) (hPc : ∀ U : State, U.heap = H → s.WarmedH U.vm → P U) (hM : Met l y (wq y bytes maxL ret) rm (va_Pc (.ref b :: As) P) Qc 0 0 free) (hg : GoodIn Ts (wsV own idx C y (wq y bytes maxL ret))) (hd : y.cls = C ∧ y.cls ≠ "java/lang/invoke/MethodHandle" ∧ y.cls ≠ "java/lang/invoke/VarHandle" ∧ (parseMethodDescriptor y.desc).map (fun d => d.parameters.length) = some n) (hn : As.length = n) (hrm : rm.cells = 0 ∧ rm.slots = 0) (hR : rm.frames + 1 ≤ R.frames ∧ 8 + (maxL + 11) + rm.locals ≤ R.locals) (hsz : ls.size = nL) (hrest : (rest.map fun v => v.category).sum ≤ 8) (hdg : decode cc pc = .ok (.invokevirtual idx, 3)) (hcs : cells ≤ R.cells ∧ slots ≤ R.slots) : va_Run p l e R s m args below meth c H locs cells slots 0 0 (F0 m pc ls (As.reverse ++ .ref b :: rest)) rest (Qc (Value.ref b :: As).toArray) free :=
  va_runV (As := As) (rest := rest) S hM (cwV n S.2.2.2.2 hg rfl hrm.1 hrm.2 hd hR) ⟨hbl, hrc, fun U hU hW => ⟨rfl, hPc U hU hW⟩⟩ rfl hn hsz rfl (lv_room hrest) hdg hcs
theorem run_SJ (S : CallFix p m c cc nL s args Ts own) (hbl : FrameBlind (va_Pc As P)) (hPc : ∀ U : State, U.heap = H → s.WarmedH U.vm → P U) (hM : Met l y (wq y bytes maxL ret) rm (va_Pc As P) Qc 0 0 free) (hg : GoodIn Ts (va_wsS own idx y (wq y bytes maxL ret))) (hd : y.cls ≠ "java/lang/invoke/MethodHandle" ∧ y.cls ≠ "java/lang/invoke/VarHandle" ∧ (parseMethodDescriptor y.desc).map (fun d => d.parameters.length) = some n) (hn : As.length = n) (hrm : rm.cells = 0 ∧ rm.slots = 0) (hR : rm.frames + 1 ≤ R.frames ∧ 8 + (maxL + 11) + rm.locals ≤ R.locals) (hsz : ls.size = nL) (hrest : (rest.map fun v => v.category).sum ≤ 8) (hdg : decode cc pc = .ok (.invokestatic idx, 3)) (hcs : cells ≤ R.cells ∧ slots ≤ R.slots) : va_Run p l e R s m args below meth c H locs cells slots 0 0 (F0 m pc ls (As.reverse ++ rest)) rest (Qc As.toArray) free :=
  va_runS (As := As) (rest := rest) S hM (va_cwS n S.2.2.2.2 hg rfl hrm.1 hrm.2 hd hR) ⟨hbl, fun U hU hW => ⟨rfl, hPc U hU hW⟩⟩ rfl hn hsz rfl (lv_room hrest) hdg hcs
theorem go_P {ov : Option Value} {st0 : List Value} {av : Array Value} (hr : va_Run p l e R s m args below meth c H locs cells slots 0 0 (F0 m pc ls st0) rest (qP ov av) nA) (kk : W p l e R s m args below meth c H locs cells slots Q (F0 m (pc + 3) ls (ov.toList ++ rest))) : W p l e R s m args below meth c H locs cells slots Q (F0 m pc ls st0) := by
  intro T hT X
  obtain ⟨v, st₀, t, T', L, h0, X', hL, e1, ⟨hv, hh⟩, st⟩ := (va_Run.run hr) T hT X
  cases hv
  obtain ⟨t2, a1, b1⟩ := kk T' (by rw [e1, hh, h0]) (Stand.forget X' (fun q h => (hL q h).elim))
  exact ⟨t2, st t2 a1, b1⟩
theorem retSN {ans v : Int32} {ty : FieldType} (S : CallFix p m c cc nL s args Ts own) (hr : meth.sig.returnType = some ty) (hlk : meth.locks = false) (hn : narrow ty (.int v) = .int v) (hv : v = ans) (hdg : decode cc pc = .ok (.ireturn, 1)) : W p l e R s m args below meth c s.heap [] 0 0 (MQ below (qS ans) args s 0 0 (fun _ => False)) (F0 m pc ls [.int v]) :=
  W.zret S.1 S.2.1 hr hn (fun t ht hW => ⟨v, rfl, hv, ht⟩) (fun q h => by cases h) hdg hlk
theorem retP0 (S : CallFix p m c cc nL s args Ts own) (hr : meth.sig.returnType = none) (hlk : meth.locks = false) (hdg : decode cc pc = .ok (.return_, 1)) : W p l e R s m args below meth c s.heap [] 0 0 (MQ below (qP none) args s 0 0 nA) (F0 m pc ls []) :=
  W.vret S.1 S.2.1 hr (fun t ht hW => ⟨rfl, ht⟩) (fun q h => by cases h) hdg hlk
theorem retPr {C : String} {v v2 : Nat} (S : CallFix p m c cc nL s args Ts own) (hr : meth.sig.returnType = some (.object C)) (hlk : meth.locks = false) (hv : v = v2) (hdg : decode cc pc = .ok (.areturn, 1)) : W p l e R s m args below meth c s.heap [] 0 0 (MQ below (qP (some (.ref v2))) args s 0 0 nA) (F0 m pc ls [.ref v]) := by
  subst hv
  exact W.aret S.1 S.2.1 hr (Or.inl ⟨_, rfl⟩) (Or.inr ⟨_, rfl⟩) (fun t ht hW => ⟨rfl, ht⟩) (fun q h => by cases h) hdg hlk
end JR
theorem good_SJ {own : String} {idx n : Nat} {y : MethodName} {bytes : ByteArray} {ret : Option FieldType} {c0 : Cond} (h1 : Cond.methodLink own idx y ∈ GW) (h2 : Cond.static y ∈ GW) (h4 : Cond.initialized y.cls ∈ GW) (h5 : Cond.code y bytes n ret ∈ GW) : GoodIn (c0 :: GW) (va_wsS own idx y (.code y bytes n ret :: GW)) := good_gw (by
  intro w hw
  unfold va_wsS at hw
  rcases List.mem_append.mp hw with h | h
  · simp only [List.mem_cons, List.not_mem_nil, or_false] at h
    rcases h with rfl | rfl | rfl <;> assumption
  · rcases List.mem_cons.mp h with rfl | h
    · exact h5
    · exact h)
theorem shr_0 (x : Int32) : x >>> ((0 : Int32) &&& 31) = x := by
  rw [show ((0 : Int32) &&& 31) = 0 by decide]
  exact Int32.shiftRight_zero
theorem va_O.recv {C : String} {a : Nat} {A : Nat → Prop} {s : State} {H : Heap} (h : va_O C a A s H) : ∃ cellB : Cell, H[a]? = some cellB ∧ cellB.vm.isStatics = false ∧ s.vm.findClass C = some cellB.cls := by
  obtain ⟨cell, h1, h2, h3, -⟩ := h
  exact ⟨cell, h1, h2, h3⟩
abbrev rmJ (f n : Nat) : Room := { frames := f, cells := 0, slots := 0, locals := n }
abbrev pCo (a : Nat) (U : State) : Prop := JX nA U U.heap ∧ va_OF "java/lang/String" "coder" "B" (.int 0) a nA U U.heap
abbrev pSt (a : Nat) (bs : List Int32) (U : State) : Prop := JX nA U U.heap ∧ sA a bs nA U U.heap
theorem pCo_b {av : List Value} {a : Nat} : FrameBlind (va_Pc av (pCo a)) := fun _ U _ _ q => ⟨q.1, q.2.1.moved (u := U) (Vm.Alike.refl U.vm), q.2.2.moved (u := U) (Vm.Alike.refl U.vm)⟩
theorem pSt_b {av : List Value} {a : Nat} {bs : List Int32} : FrameBlind (va_Pc av (pSt a bs)) := fun _ U _ _ q => ⟨q.1, q.2.1.moved (u := U) (Vm.Alike.refl U.vm), q.2.2.moved (u := U) (Vm.Alike.refl U.vm)⟩
theorem c_J0_coder (l : Launch) (a : Nat) : Met l yJ0_coder_7d493 (wq yJ0_coder_7d493 cJ0_coder_7d493 1 (some .byte)) (rmJ 0 0) (va_Pc [.ref a] (pCo a)) (qS 0) 0 0 nA := by
  refine MJ_mk RJ0 (by decide) rfl (Nat.le_of_ble_eq_true rfl) ?_
  intro p e s m below meth c S hr hlk hP ls hl
  have hl : lv_has ls 1 [(0, .ref a)] := hl
  refine va_gets S.1 S.2.1 hP.1.1 va_S.rf S.2.2.2.1 (S.2.2.2.2 _ (List.mem_cons_of_mem _ fk_J0_38)) (fun _ h => h) dJ0_coder_7d493_0 ?_
  refine lv_if_eq (tgt := 13) S.1 S.2.1 dJ0_coder_7d493_3 (by decide) (fun h => absurd h (by decide)) (fun h => ?_)
  refine lv_aload_n S.1 S.2.1 dJ0_coder_7d493_6 rfl (lv_at hl 0 rfl) ?_
  refine vk_getf S.1 S.2.1 hP.2 va_S.rf S.2.2.2.1 (S.2.2.2.2 _ (List.mem_cons_of_mem _ fk_J0_15)) (fun _ h => h) dJ0_coder_7d493_7 ?_
  refine lv_goto (tgt := 14) S.1 S.2.1 dJ0_coder_7d493_10 (by decide) ?_
  exact retSN S hr hlk rfl rfl dJ0_coder_7d493_14
theorem c_J0_isLatin1 (l : Launch) (a : Nat) : Met l yJ0_isLatin1_aae02 (wq yJ0_isLatin1_aae02 cJ0_isLatin1_aae02 1 (some .boolean)) (rmJ 0 0) (va_Pc [.ref a] (pCo a)) (qS 1) 0 0 nA := by
  refine MJ_mk RJ0 (by decide) rfl (Nat.le_of_ble_eq_true rfl) ?_
  intro p e s m below meth c S hr hlk hP ls hl
  have hl : lv_has ls 1 [(0, .ref a)] := hl
  refine va_gets S.1 S.2.1 hP.1.1 va_S.rf S.2.2.2.1 (S.2.2.2.2 _ (List.mem_cons_of_mem _ fk_J0_38)) (fun _ h => h) dJ0_isLatin1_aae02_0 ?_
  refine lv_if_eq (tgt := 17) S.1 S.2.1 dJ0_isLatin1_aae02_3 (by decide) (fun h => absurd h (by decide)) (fun h => ?_)
  refine lv_aload_n S.1 S.2.1 dJ0_isLatin1_aae02_6 rfl (lv_at hl 0 rfl) ?_
  refine vk_getf S.1 S.2.1 hP.2 va_S.rf S.2.2.2.1 (S.2.2.2.2 _ (List.mem_cons_of_mem _ fk_J0_15)) (fun _ h => h) dJ0_isLatin1_aae02_7 ?_
  refine lv_if_ne (tgt := 17) S.1 S.2.1 dJ0_isLatin1_aae02_10 (by decide) (fun h => absurd rfl h) (fun h => ?_)
  refine lv_iconst (v := 1) S.1 S.2.1 dJ0_isLatin1_aae02_13 (by decide) ?_
  refine lv_goto (tgt := 18) S.1 S.2.1 dJ0_isLatin1_aae02_14 (by decide) ?_
  exact retSN S hr hlk rfl rfl dJ0_isLatin1_aae02_18
theorem c_J0_length (l : Launch) (a : Nat) (bs : List Int32) : Met l yJ0_length_8abf5 (wq yJ0_length_8abf5 cJ0_length_8abf5 1 (some .int)) (rmJ 1 20) (va_Pc [.ref a] (pSt a bs)) (qS (nI bs.length)) 0 0 nA := by
  refine MJ_mk RJ0 (by decide) rfl (Nat.le_of_ble_eq_true rfl) ?_
  intro p e s m below meth c S hr hlk hP ls hl
  have hl : lv_has ls 1 [(0, .ref a)] := hl
  obtain ⟨hJ, hO, hC, v, hV, hT⟩ := hP
  refine lv_aload_n S.1 S.2.1 dJ0_length_8abf5_0 rfl (lv_at hl 0 rfl) ?_
  refine vk_getf S.1 S.2.1 hV va_S.rf S.2.2.2.1 (S.2.2.2.2 _ (List.mem_cons_of_mem _ fk_J0_9)) (fun _ h => h) dJ0_length_8abf5_1 ?_
  refine va_tlen S.1 S.2.1 hT va_S.rf (v := nI bs.length) rfl dJ0_length_8abf5_4 ?_
  refine lv_aload_n S.1 S.2.1 dJ0_length_8abf5_5 rfl (lv_at hl 0 rfl) ?_
  refine go_S (run_VJ (As := []) (rest := [.int (nI bs.length)]) (n := 0) S pCo_b hO.recv (fun U hU hW => ⟨by rw [hU]; exact hJ.moved hW.alike, by rw [hU]; exact hC.moved hW.alike⟩) (c_J0_coder l a) gV_J0_335 (by decide +kernel) rfl ⟨rfl, rfl⟩ ⟨Nat.le_of_ble_eq_true rfl, Nat.le_of_ble_eq_true rfl⟩ hl.1 (Nat.le_of_ble_eq_true rfl) dJ0_length_8abf5_6 ⟨Nat.zero_le _, Nat.zero_le _⟩) ?_
  refine lv_ishr S.1 S.2.1 dJ0_length_8abf5_9 ?_
  exact retS S hr hlk (shr_0 _) dJ0_length_8abf5_10
theorem c_J3_checkIndex (l : Launch) (i n : Int32) (v : Value) (hv : v = .null ∨ ∃ t, v = .ref t) (h1 : ¬ i < 0) (h2 : i < n) : Met l yJ3_checkIndex_8e157 (wq yJ3_checkIndex_8e157 cJ3_checkIndex_8e157 3 (some .int)) (rmJ 0 0) (va_Pc [.int i, .int n, v] (fun _ => True)) (qS i) 0 0 nA := by
  have hc : v.category = 1 := by rcases hv with rfl | ⟨t, rfl⟩ <;> rfl
  refine MJ_mk RJ3 (by decide) rfl (by rcases hv with rfl | ⟨t, rfl⟩ <;> exact Nat.le_of_ble_eq_true rfl) ?_
  intro p e s m below meth c S hr hlk hP ls hl
  have hl : lv_has ls 3 [(0, .int i), (1, .int n), (2, v)] := by rcases hv with rfl | ⟨t, rfl⟩ <;> exact hl
  refine lv_iload_n S.1 S.2.1 dJ3_checkIndex_8e157_0 rfl (lv_at hl 0 rfl) ?_
  refine lv_if_lt (tgt := 9) S.1 S.2.1 dJ3_checkIndex_8e157_1 (by decide) (fun h => absurd h h1) (fun h => ?_)
  refine lv_iload_n S.1 S.2.1 dJ3_checkIndex_8e157_4 rfl (lv_at hl 0 rfl) ?_
  refine lv_iload_n S.1 S.2.1 dJ3_checkIndex_8e157_5 rfl (lv_at hl 1 rfl) ?_
  refine lv_icmp_lt (tgt := 16) S.1 S.2.1 dJ3_checkIndex_8e157_6 (by decide) (fun h => ?_) (fun h => absurd h2 h)
  refine lv_iload_n S.1 S.2.1 dJ3_checkIndex_8e157_16 rfl (lv_at hl 0 rfl) ?_
  exact retS S hr hlk rfl dJ3_checkIndex_8e157_17
theorem pT_b {av : List Value} : FrameBlind (va_Pc av (fun _ => True)) := fun _ _ _ _ q => q
theorem pJ_b {av : List Value} : FrameBlind (va_Pc av (fun U => JX nA U U.heap)) := fun _ U _ _ q => ⟨q.1, q.2.moved (u := U) (Vm.Alike.refl U.vm)⟩
theorem c_J0_checkIndex (l : Launch) (i n : Int32) (h1 : ¬ i < 0) (h2 : i < n) : Met l yJ0_checkIndex_df160 (wq yJ0_checkIndex_df160 cJ0_checkIndex_df160 2 none) (rmJ 1 22) (va_Pc [.int i, .int n] (fun U => JX nA U U.heap)) (qP none) 0 0 nA := by
  refine MJ_mk RJ0 (by decide) rfl (Nat.le_of_ble_eq_true rfl) ?_
  intro p e s m below meth c S hr hlk hP ls hl
  have hl : lv_has ls 2 [(0, .int i), (1, .int n)] := hl
  obtain ⟨v, hv, hZ⟩ : ∃ v : Value, (v = .null ∨ ∃ t, v = .ref t) ∧ va_Z "jdk/internal/util/Preconditions" "SIOOBE_FORMATTER" "Ljava/util/function/BiFunction;" v nA s s.heap := by
    rcases hP.2 with h | ⟨t, h⟩
    · exact ⟨.null, Or.inl rfl, h⟩
    · exact ⟨.ref t, Or.inr ⟨t, rfl⟩, h⟩
  refine lv_iload_n S.1 S.2.1 dJ0_checkIndex_df160_0 rfl (lv_at hl 0 rfl) ?_
  refine lv_iload_n S.1 S.2.1 dJ0_checkIndex_df160_1 rfl (lv_at hl 1 rfl) ?_
  refine va_gets S.1 S.2.1 hZ va_S.rf S.2.2.2.1 (S.2.2.2.2 _ (List.mem_cons_of_mem _ fk_J0_1053)) (fun _ h => h) dJ0_checkIndex_df160_2 ?_
  refine go_S (run_SJ (As := [.int i, .int n, v]) (rest := []) (n := 3) S pT_b (fun _ _ _ => trivial) (c_J3_checkIndex l i n v hv h1 h2) (good_SJ mk_J0_1059 sk_yJ3_checkIndex_8e157 nk_J3 ck_yJ3_checkIndex_8e157) (by decide +kernel) rfl ⟨rfl, rfl⟩ ⟨Nat.le_of_ble_eq_true rfl, Nat.le_of_ble_eq_true rfl⟩ hl.1 (Nat.le_of_ble_eq_true rfl) dJ0_checkIndex_df160_5 ⟨Nat.zero_le _, Nat.zero_le _⟩) ?_
  refine lv_pop S.1 S.2.1 dJ0_checkIndex_df160_8 rfl ?_
  exact retP0 S hr hlk dJ0_checkIndex_df160_9
abbrev pBy (v : Nat) (bs : List Int32) (U : State) : Prop := JX nA U U.heap ∧ va_T .byte v bs.length (fun j => .int (bs.getD j 0)) nA U U.heap
theorem pBy_b {av : List Value} {v : Nat} {bs : List Int32} : FrameBlind (va_Pc av (pBy v bs)) := fun _ U _ _ q => ⟨q.1, q.2.1.moved (u := U) (Vm.Alike.refl U.vm), q.2.2.moved (u := U) (Vm.Alike.refl U.vm)⟩
def chr (x : Int32) : Int32 := ((x &&& 255).toUInt32 % 65536).toInt32
theorem chr_nar (x : Int32) : narrow .char (.int (chr x)) = .int (chr x) := by
  show Value.int _ = _
  congr 1
  unfold chr
  apply Int32.toBitVec_inj.mp
  simp
  apply BitVec.eq_of_toNat_eq
  simp only [BitVec.toNat_umod, Nat.mod_mod]
theorem c_J1_charAt (l : Launch) (v k : Nat) (bs : List Int32) (hk : k < bs.length) (hb : bs.length < 2147483648) : Met l yJ1_charAt_3b067 (wq yJ1_charAt_3b067 cJ1_charAt_3b067 2 (some .char)) (rmJ 2 43) (va_Pc [.ref v, .int (nI k)] (pBy v bs)) (qS (chr (bs.getD k 0))) 0 0 nA := by
  refine MJ_mk RJ1 (by decide) rfl (Nat.le_of_ble_eq_true rfl) ?_
  intro p e s m below meth c S hr hlk hP ls hl
  have hl : lv_has ls 2 [(0, .ref v), (1, .int (nI k))] := hl
  refine lv_iload_n S.1 S.2.1 dJ1_charAt_3b067_0 rfl (lv_at hl 1 rfl) ?_
  refine lv_aload_n S.1 S.2.1 dJ1_charAt_3b067_1 rfl (lv_at hl 0 rfl) ?_
  refine va_tlen S.1 S.2.1 hP.2 va_S.rf (v := nI bs.length) rfl dJ1_charAt_3b067_2 ?_
  refine go_P (run_SJ (As := [.int (nI k), .int (nI bs.length)]) (rest := []) (n := 2) S pJ_b (fun U hU hW => by rw [hU]; exact hP.1.moved hW.alike) (c_J0_checkIndex l (nI k) (nI bs.length) (nI_pos (by omega)) (nI_lt hk (by omega))) (good_SJ mk_J1_9 sk_yJ0_checkIndex_df160 nk_J0 ck_yJ0_checkIndex_df160) (by decide +kernel) rfl ⟨rfl, rfl⟩ ⟨Nat.le_of_ble_eq_true rfl, Nat.le_of_ble_eq_true rfl⟩ hl.1 (Nat.le_of_ble_eq_true rfl) dJ1_charAt_3b067_3 ⟨Nat.zero_le _, Nat.zero_le _⟩) ?_
  refine lv_aload_n S.1 S.2.1 dJ1_charAt_3b067_6 rfl (lv_at hl 0 rfl) ?_
  refine lv_iload_n S.1 S.2.1 dJ1_charAt_3b067_7 rfl (lv_at hl 1 rfl) ?_
  refine va_tb S.1 S.2.1 hP.2 va_S.rf (vp_in_nI hk hb) (v := .int (bs.getD k 0)) (by rw [nI_clamp (by omega)]) dJ1_charAt_3b067_8 ?_
  refine lv_sipush (v := 255) S.1 S.2.1 dJ1_charAt_3b067_9 (by decide) ?_
  refine lv_iand S.1 S.2.1 dJ1_charAt_3b067_12 ?_
  refine lv_i2c (v := chr (bs.getD k 0)) S.1 S.2.1 dJ1_charAt_3b067_13 rfl ?_
  exact retSN S hr hlk (chr_nar _) rfl dJ1_charAt_3b067_14
theorem c_J0_charAt (l : Launch) (a k : Nat) (bs : List Int32) (hk : k < bs.length) (hb : bs.length < 2147483648) : Met l yJ0_charAt_5068e (wq yJ0_charAt_5068e cJ0_charAt_5068e 2 (some .char)) (rmJ 3 64) (va_Pc [.ref a, .int (nI k)] (pSt a bs)) (qS (chr (bs.getD k 0))) 0 0 nA := by
  refine MJ_mk RJ0 (by decide) rfl (Nat.le_of_ble_eq_true rfl) ?_
  intro p e s m below meth c S hr hlk hP ls hl
  have hl : lv_has ls 2 [(0, .ref a), (1, .int (nI k))] := hl
  obtain ⟨hJ, hO, hC, v, hV, hT⟩ := hP
  refine lv_aload_n S.1 S.2.1 dJ0_charAt_5068e_0 rfl (lv_at hl 0 rfl) ?_
  refine go_S (run_VJ (As := []) (rest := []) (n := 0) S pCo_b hO.recv (fun U hU hW => ⟨by rw [hU]; exact hJ.moved hW.alike, by rw [hU]; exact hC.moved hW.alike⟩) (c_J0_isLatin1 l a) gV_J0_492 (by decide +kernel) rfl ⟨rfl, rfl⟩ ⟨Nat.le_of_ble_eq_true rfl, Nat.le_of_ble_eq_true rfl⟩ hl.1 (Nat.le_of_ble_eq_true rfl) dJ0_charAt_5068e_1 ⟨Nat.zero_le _, Nat.zero_le _⟩) ?_
  refine lv_if_eq (tgt := 16) S.1 S.2.1 dJ0_charAt_5068e_4 (by decide) (fun h => absurd h (by decide)) (fun h => ?_)
  refine lv_aload_n S.1 S.2.1 dJ0_charAt_5068e_7 rfl (lv_at hl 0 rfl) ?_
  refine vk_getf S.1 S.2.1 hV va_S.rf S.2.2.2.1 (S.2.2.2.2 _ (List.mem_cons_of_mem _ fk_J0_9)) (fun _ h => h) dJ0_charAt_5068e_8 ?_
  refine lv_iload_n S.1 S.2.1 dJ0_charAt_5068e_11 rfl (lv_at hl 1 rfl) ?_
  refine go_S (run_SJ (As := [.ref v, .int (nI k)]) (rest := []) (n := 2) S pBy_b (fun U hU hW => ⟨by rw [hU]; exact hJ.moved hW.alike, by rw [hU]; exact hT.moved hW.alike⟩) (c_J1_charAt l v k bs hk hb) (good_SJ mk_J0_495 sk_yJ1_charAt_3b067 nk_J1 ck_yJ1_charAt_3b067) (by decide +kernel) rfl ⟨rfl, rfl⟩ ⟨Nat.le_of_ble_eq_true rfl, Nat.le_of_ble_eq_true rfl⟩ hl.1 (Nat.le_of_ble_eq_true rfl) dJ0_charAt_5068e_12 ⟨Nat.zero_le _, Nat.zero_le _⟩) ?_
  exact retSN S hr hlk (chr_nar _) rfl dJ0_charAt_5068e_15
