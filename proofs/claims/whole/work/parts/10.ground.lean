/-! own ground: worlds as blocks of cells, contracts over them, calls, reads and writes in a block -/
/-- the words that every method here carries: those of the law's tables that stay -/
def GW : List Cond := lw_tbl.filter goodWord
theorem gw_in {w : Cond} (h : w ∈ lw_tbl) (hg : goodWord w = true) : w ∈ GW := List.mem_filter.mpr ⟨h, hg⟩
theorem gw_good {w : Cond} (h : w ∈ GW) : goodWord w = true := (List.mem_filter.mp h).2
theorem gw_tbl {w : Cond} (h : w ∈ GW) : w ∈ lw_tbl := (List.mem_filter.mp h).1
theorem gw0 {w : Cond} (h : w ∈ k2_sels (lw_privs_1 ++ (lw_privs_2 ++ (lw_privs_3 ++ (lw_privs_4))))) (hg : goodWord w = true) : w ∈ GW := gw_in (List.mem_append_left _ h) hg
theorem gw1 {w : Cond} (h : w ∈ tables_1_1) (hg : goodWord w = true) : w ∈ GW := gw_in (List.mem_append_right _ (List.mem_append_left _ h)) hg
theorem gw2 {w : Cond} (h : w ∈ tables_1_2) (hg : goodWord w = true) : w ∈ GW := gw_in (List.mem_append_right _ (List.mem_append_right _ (List.mem_append_left _ h))) hg
theorem gw3 {w : Cond} (h : w ∈ tables_1_3) (hg : goodWord w = true) : w ∈ GW := gw_in (List.mem_append_right _ (List.mem_append_right _ (List.mem_append_right _ (List.mem_append_left _ h)))) hg
theorem gw4 {w : Cond} (h : w ∈ tables_1_4) (hg : goodWord w = true) : w ∈ GW := gw_in (List.mem_append_right _ (List.mem_append_right _ (List.mem_append_right _ (List.mem_append_right _ (List.mem_append_left _ h))))) hg
theorem gw5 {w : Cond} (h : w ∈ tables_1_5) (hg : goodWord w = true) : w ∈ GW := gw_in (List.mem_append_right _ (List.mem_append_right _ (List.mem_append_right _ (List.mem_append_right _ (List.mem_append_right _ h))))) hg
theorem good_gw {c0 : Cond} {ws : List Cond} (h : ∀ w ∈ ws, w ∈ GW) : GoodIn (c0 :: GW) ws := fun w hw => ⟨List.mem_cons_of_mem _ (h w hw), good_of_word (gw_good (h w hw))⟩
theorem good_V {own C : String} {idx n : Nat} {y : MethodName} {bytes : ByteArray} {ret : Option FieldType} {c0 : Cond} (h1 : Cond.methodLink own idx y ∈ GW) (h2 : Cond.instanceMethod y ∈ GW) (h3 : Cond.selects C y y ∈ GW) (h4 : Cond.initialized C ∈ GW) (h5 : Cond.code y bytes n ret ∈ GW) : GoodIn (c0 :: GW) (wsV own idx C y (.code y bytes n ret :: GW)) := good_gw (by
  intro w hw
  unfold wsV at hw
  rcases List.mem_append.mp hw with h | h
  · simp only [List.mem_cons, List.not_mem_nil, or_false] at h
    rcases h with rfl | rfl | rfl | rfl <;> assumption
  · rcases List.mem_cons.mp h with rfl | h
    · exact h5
    · exact h)
theorem good_S {own : String} {idx n : Nat} {y : MethodName} {bytes : ByteArray} {ret : Option FieldType} {c0 : Cond} (h1 : Cond.methodLink own idx y ∈ GW) (h2 : Cond.static y ∈ GW) (h4 : Cond.initialized own ∈ GW) (h5 : Cond.code y bytes n ret ∈ GW) : GoodIn (c0 :: GW) (wsS own idx y (.code y bytes n ret :: GW)) := good_gw (by
  intro w hw
  unfold wsS at hw
  rcases List.mem_append.mp hw with h | h
  · simp only [List.mem_cons, List.not_mem_nil, or_false] at h
    rcases h with rfl | rfl | rfl <;> assumption
  · rcases List.mem_cons.mp h with rfl | h
    · exact h5
    · exact h)
abbrev EV : Type := va_G × ClassId × ClassId × ClassId × ClassId × ClassId
abbrev tyE (E : EV) : List (ClassId × FieldType) := [(E.2.1, .int), (E.2.2.1, .byte), (E.2.2.2.1, .object "WeatherGlaze$Potter"), (E.2.2.2.2.1, .object "WeatherGlaze$Sheet"), (E.2.2.2.2.2, .object "java/lang/String")]
abbrev KE (E : EV) (U : State) : Prop := va_K E.1 vwCl (tyE E) U
abbrev PE (E : EV) (Bs : List va_W) (H : Heap) : Prop := va_P E.1 vwCl Bs.flatten H
abbrev DE (A : Nat → Prop) (Bs : List va_W) : Prop := va_D A Bs.flatten
def inB (Bs : List va_W) : Nat → Prop := fun q => ∃ (k : Nat) (e : va_E), Bs.flatten[k]? = some (q, e)
def preB (E : EV) (av : List Value) (Bs : List va_W) : Array Value → State → Prop := va_Pc av (fun U => PE E Bs U.heap ∧ KE E U ∧ DE (fun _ => True) Bs)
theorem preB_blind {E : EV} {av : List Value} {Bs : List va_W} : FrameBlind (preB E av Bs) := fun a U g mk q => by
  obtain ⟨q0, qP, qK, qD⟩ := q
  exact ⟨q0, qP, va_K.moved (u := U) (U := U.calling g mk a) (Vm.Alike.refl U.vm) qK, qD⟩
abbrev wq (y : MethodName) (cc : ByteArray) (n : Nat) (ret : Option FieldType) : List Cond := .code y cc n ret :: GW
abbrev qI (E : EV) (Bs Bs' : List va_W) (ans : Int32) : Array Value → State → Outcome → State → Prop := va_Qi (fun (r : Int32) (_ : Unit) => r = ans) (fun _ t => PE E Bs' t.heap) (inB Bs)
abbrev qL (E : EV) (Bs Bs' : List va_W) (ans : Int64) : Array Value → State → Outcome → State → Prop := va_Ql (fun (r : Int64) (_ : Unit) => r = ans) (fun _ t => PE E Bs' t.heap) (inB Bs)
abbrev qV (E : EV) (Bs Bs' : List va_W) : Array Value → State → Outcome → State → Prop := va_Qv (fun (_ : Unit) => True) (fun _ t => PE E Bs' t.heap) (inB Bs)
abbrev qS (ans : Int32) : Array Value → State → Outcome → State → Prop := vp_Si (fun r => r = ans)
/-- a method that writes in its blocks, makes nothing, answers an int, a long, nothing; a method that writes nothing -/
abbrev MI (l : Launch) (y : MethodName) (cc : ByteArray) (n : Nat) (ret : Option FieldType) (rm : Room) (E : EV) (av : List Value) (Bs Bs' : List va_W) (ans : Int32) : Prop := Met l y (wq y cc n ret) rm (preB E av Bs) (qI E Bs Bs' ans) 0 0 (inB Bs)
abbrev ML (l : Launch) (y : MethodName) (cc : ByteArray) (n : Nat) (ret : Option FieldType) (rm : Room) (E : EV) (av : List Value) (Bs Bs' : List va_W) (ans : Int64) : Prop := Met l y (wq y cc n ret) rm (preB E av Bs) (qL E Bs Bs' ans) 0 0 (inB Bs)
abbrev MV (l : Launch) (y : MethodName) (cc : ByteArray) (n : Nat) (ret : Option FieldType) (rm : Room) (E : EV) (av : List Value) (Bs Bs' : List va_W) : Prop := Met l y (wq y cc n ret) rm (preB E av Bs) (qV E Bs Bs') 0 0 (inB Bs)
abbrev SI (l : Launch) (y : MethodName) (cc : ByteArray) (n : Nat) (ret : Option FieldType) (rm : Room) (E : EV) (av : List Value) (Bs : List va_W) (ans : Int32) : Prop := Met l y (wq y cc n ret) rm (preB E av Bs) (qS ans) 0 0 (fun _ => False)
theorem M_mk {l : Launch} {y : MethodName} {cc : ByteArray} {maxL : Nat} {ret : Option FieldType} {rm : Room} {E : EV} {av : List Value} {Bs : List va_W} {Qc : Array Value → State → Outcome → State → Prop} {free : Addr → Prop} (own : String) (hy : plainName y.cls = true) (hown : y.cls = own) (hn : (lg_sl av).length ≤ maxL)
    (body : ∀ (p : Program) (e : Env) (s : State) (m : MethodId) (below : List Frame) (meth : Method) (c : Code), CallFix p m c cc maxL s av.toArray (wq y cc maxL ret) own → meth.sig.returnType = ret → meth.locks = false → KE E s → PE E Bs s.heap → DE (inB Bs) Bs → va_S (inB Bs) s.heap s.heap [] → ∀ ls : Array Slot, lv_has ls maxL (lv_args 0 av) → W p l e rm s m av.toArray below meth c s.heap [] 0 0 (MQ below Qc av.toArray s 0 0 free) (F0 m 0 ls [])) : Met l y (wq y cc maxL ret) rm (preB E av Bs) Qc 0 0 free := by
  refine Met.ofW (cc := cc) (maxL := maxL) (ret := ret) hy rfl ?_
  intro p e s m args below meth c s₁ B hml hv
  obtain ⟨rfl, hP, hK, hD0⟩ := hv
  have hts := atoms_spec (ws := wq y cc maxL ret) B.pre
  have ho : s.vm.findClass own = some m.cls := by rw [← hown]; exact findClass_of_methodNamed B.named
  have hl := lv_entry av (n := maxL) hn
  rw [lg_entry_eq]
  exact body p e s m below meth c ⟨B.exec, B.bytes, hml, ho, hts⟩ B.returns B.notSynchronized hK hP ⟨hD0.1, fun k q hk => ⟨k, q.2, hk⟩⟩ va_S.rf _ hl
/-! places in blocks -/
def fo {α : Type} : List (List α) → Nat → Nat
  | [], _ => 0
  | _ :: _, 0 => 0
  | B :: Bs, b + 1 => B.length + fo Bs b
theorem fl_get {α : Type} : ∀ (Bs : List (List α)) (b j : Nat) (B : List α) (q : α), Bs[b]? = some B → B[j]? = some q → Bs.flatten[fo Bs b + j]? = some q
  | [], b, j, B, q, h, _ => by simp at h
  | A :: Bs, 0, j, B, q, h, hq => by
    simp only [List.getElem?_cons_zero, Option.some.injEq] at h
    subst h
    have hl : j < A.length := (List.getElem?_eq_some_iff.mp hq).1
    simp only [List.flatten_cons, fo, Nat.zero_add]
    rw [List.getElem?_append_left hl]
    exact hq
  | A :: Bs, b + 1, j, B, q, h, hq => by
    simp only [List.getElem?_cons_succ] at h
    have ih := fl_get Bs b j B q h hq
    simp only [List.flatten_cons, fo]
    rw [List.getElem?_append_right (by omega)]
    rw [show A.length + fo Bs b + j - A.length = fo Bs b + j by omega]
    exact ih
theorem fl_set {α : Type} : ∀ (Bs : List (List α)) (b j : Nat) (B : List α) (e : α), Bs[b]? = some B → j < B.length → Bs.flatten.set (fo Bs b + j) e = (Bs.set b (B.set j e)).flatten
  | [], b, j, B, q, h, _ => by simp at h
  | A :: Bs, 0, j, B, q, h, hq => by
    simp only [List.getElem?_cons_zero, Option.some.injEq] at h
    subst h
    simp only [List.flatten_cons, fo, Nat.zero_add, List.set_cons_zero]
    rw [List.set_append_left _ _ hq]
  | A :: Bs, b + 1, j, B, q, h, hq => by
    simp only [List.getElem?_cons_succ] at h
    have ih := fl_set Bs b j B q h hq
    simp only [List.flatten_cons, fo, List.set_cons_succ]
    rw [List.set_append_right _ _ (by omega)]
    rw [show A.length + fo Bs b + j - A.length = fo Bs b + j by omega, ih]
theorem fo_inj {α : Type} : ∀ (Bs : List (List α)) (b c j k : Nat) (B C : List α), Bs[b]? = some B → Bs[c]? = some C → j < B.length → k < C.length → fo Bs b + j = fo Bs c + k → b = c
  | [], b, c, j, k, B, C, h, _, _, _, _ => by simp at h
  | A :: Bs, 0, 0, _, _, _, _, _, _, _, _, _ => rfl
  | A :: Bs, 0, c + 1, j, k, B, C, h, _, hj, _, he => by
    simp only [List.getElem?_cons_zero, Option.some.injEq] at h
    subst h
    simp only [fo] at he
    omega
  | A :: Bs, b + 1, 0, j, k, B, C, _, h, _, hk, he => by
    simp only [List.getElem?_cons_zero, Option.some.injEq] at h
    subst h
    simp only [fo] at he
    omega
  | A :: Bs, b + 1, c + 1, j, k, B, C, h, h2, hj, hk, he => by
    simp only [List.getElem?_cons_succ] at h h2
    simp only [fo] at he
    rw [fo_inj Bs b c j k B C h h2 hj hk (by omega)]
def fset {α : Type} : List α → List Nat → List α → List α
  | ws, i :: is, e :: es => fset (ws.set i e) is es
  | ws, _, _ => ws
theorem fset_cases {α : Type} : ∀ (is : List Nat) (ws es : List α) (k : Nat) (q : α), is.length = es.length → (fset ws is es)[k]? = some q → q ∈ es ∨ (k ∉ is ∧ ws[k]? = some q)
  | [], ws, es, k, q, _, h => Or.inr ⟨List.not_mem_nil, by cases es <;> exact h⟩
  | i :: is, ws, [], k, q, hl, _ => by simp at hl
  | i :: is, ws, e :: es, k, q, hl, h => by
    rcases fset_cases is (ws.set i e) es k q (by simpa using hl) h with h1 | ⟨h1, h2⟩
    · exact Or.inl (List.mem_cons_of_mem _ h1)
    · by_cases hk : k = i
      · subst hk
        rw [List.getElem?_set] at h2
        simp only [if_true] at h2
        split at h2
        · exact Or.inl (by rw [Option.some.inj h2]; exact List.mem_cons_self)
        · cases h2
      · rw [List.getElem?_set_ne (Ne.symm hk)] at h2
        exact Or.inr ⟨by rw [List.mem_cons]; exact fun z => z.elim hk h1, h2⟩
theorem set_same {α : Type} {ws : List α} {i : Nat} {a : α} (h : ws[i]? = some a) : ws.set i a = ws := by
  apply List.ext_getElem?
  intro k
  by_cases hk : k = i
  · subst hk
    rw [List.getElem?_set, if_pos rfl]
    rw [h, if_pos (List.getElem?_eq_some_iff.mp h).1]
  · rw [List.getElem?_set_ne (Ne.symm hk)]
theorem fset_map {α β : Type} (f : α → β) : ∀ (is : List Nat) (ws es : List α), is.map (fun i => (ws.map f)[i]?) = (es.map f).map some → (fset ws is es).map f = ws.map f
  | [], ws, es, _ => by cases es <;> rfl
  | i :: is, ws, [], _ => rfl
  | i :: is, ws, e :: es, h => by
    simp only [List.map_cons, List.cons.injEq] at h
    have h1 : (ws.set i e).map f = ws.map f := by
      rw [List.map_set]
      exact set_same h.1
    show (fset (ws.set i e) is es).map f = ws.map f
    rw [fset_map f is (ws.set i e) es (by rw [h1]; exact h.2), h1]
theorem va_D.addr {A : Nat → Prop} {ws ws' : va_W} (hD : va_D A ws) (h : ws'.map Prod.fst = ws.map Prod.fst) : va_D A ws' := by
  have key : ∀ (k : Nat) (q : Nat × va_E), ws'[k]? = some q → ∃ q', ws[k]? = some q' ∧ q'.1 = q.1 := by
    intro k q hq
    have h1 : (ws'.map Prod.fst)[k]? = some q.1 := by rw [List.getElem?_map, hq]; rfl
    rw [h, List.getElem?_map] at h1
    cases h2 : ws[k]? with
    | none => rw [h2] at h1; cases h1
    | some q' => rw [h2] at h1; exact ⟨q', rfl, Option.some.inj h1⟩
  refine ⟨fun i j p q hi hj he => ?_, fun k q hk => ?_⟩
  · obtain ⟨p', h1, h2⟩ := key i p hi
    obtain ⟨q', h3, h4⟩ := key j q hj
    exact hD.1 i j p' q' h1 h3 (by rw [h2, h4, he])
  · obtain ⟨q', h1, h2⟩ := key k q hk
    rw [← h2]
    exact hD.2 k q' h1
/-- behind a call that wrote in some blocks -/
theorem bl_back {A : Nat → Prop} {D : va_G} {cl : List vw_C} {Bs Bc Bc' : List va_W} {H H1 : Heap} (hP : va_P D cl Bs.flatten H) (hD : va_D A Bs.flatten) (is : List Nat) (hsub : is.map (fun i => Bs[i]?) = Bc.map some) (had : Bc'.map (fun B => B.map Prod.fst) = Bc.map (fun B => B.map Prod.fst))
    (hk : ∀ q : Nat, q < H.size → ¬ inB Bc q → H1[q]? = H[q]?) (hP1 : va_P D cl Bc'.flatten H1) : va_P D cl (fset Bs is Bc').flatten H1 ∧ va_D A (fset Bs is Bc').flatten := by
  have hlen : is.length = Bc'.length := by
    have h1 := congrArg List.length hsub
    have h2 := congrArg List.length had
    simp only [List.length_map] at h1 h2
    omega
  have hmem : ∀ C ∈ Bc, ∃ i ∈ is, Bs[i]? = some C := by
    intro C hC
    have h1 : some C ∈ Bc.map some := List.mem_map.mpr ⟨C, hC, rfl⟩
    rw [← hsub] at h1
    obtain ⟨i, h2, h3⟩ := List.mem_map.mp h1
    exact ⟨i, h2, h3⟩
  refine ⟨?_, hD.addr ?_⟩
  · intro k q hq
    obtain ⟨B, hB, hqB⟩ := List.mem_flatten.mp (List.mem_of_getElem? hq)
    obtain ⟨b, hb⟩ := List.getElem?_of_mem hB
    rcases fset_cases is Bs Bc' b B hlen hb with h | ⟨h1, h2⟩
    · obtain ⟨k2, hk2⟩ := List.getElem?_of_mem (List.mem_flatten.mpr ⟨B, h, hqB⟩)
      exact hP1 k2 q hk2
    · obtain ⟨j, hj⟩ := List.getElem?_of_mem hqB
      have hpos := fl_get Bs b j B q h2 hj
      have hat := hP _ q hpos
      refine hat.kept (hk q.1 hat.lt ?_)
      rintro ⟨k3, e, h3⟩
      obtain ⟨C, hC, hqC⟩ := List.mem_flatten.mp (List.mem_of_getElem? h3)
      obtain ⟨i, hi, hiC⟩ := hmem C hC
      obtain ⟨j2, hj2⟩ := List.getElem?_of_mem hqC
      have hpos2 := fl_get Bs i j2 C (q.1, e) hiC hj2
      have heq := hD.1 _ _ q (q.1, e) hpos hpos2 rfl
      have hbi := fo_inj Bs b i j j2 B C h2 hiC (List.getElem?_eq_some_iff.mp hj).1 (List.getElem?_eq_some_iff.mp hj2).1 heq
      subst hbi
      exact h1 hi
  · rw [List.map_flatten, List.map_flatten]
    congr 1
    apply fset_map
    rw [had]
    have h1 := congrArg (List.map (Option.map (fun B : va_W => B.map Prod.fst))) hsub
    simp only [List.map_map] at h1 ⊢
    rw [show (fun i => (Bs.map (fun B : va_W => B.map Prod.fst))[i]?) = (Option.map (fun B : va_W => B.map Prod.fst)) ∘ (fun i => Bs[i]?) from funext (fun i => by simp [List.getElem?_map])]
    rw [h1]
    rfl
/-- behind a call that wrote in one cell of a block -/
theorem cell_back {A : Nat → Prop} {D : va_G} {cl : List vw_C} {Bs : List va_W} {B : va_W} {H H1 : Heap} {b j a : Nat} {e e' : va_E} (hP : va_P D cl Bs.flatten H) (hD : va_D A Bs.flatten) (hB : Bs[b]? = some B) (he : B[j]? = some (a, e))
    (hk : ∀ q : Nat, q < H.size → ¬ inB [[(a, e)]] q → H1[q]? = H[q]?) (hP1 : va_P D cl [[(a, e')]].flatten H1) : va_P D cl (Bs.set b (B.set j (a, e'))).flatten H1 ∧ va_D A (Bs.set b (B.set j (a, e'))).flatten := by
  have hpos := fl_get Bs b j B (a, e) hB he
  rw [← fl_set Bs b j B (a, e') hB (List.getElem?_eq_some_iff.mp he).1]
  refine ⟨?_, hD.set hpos⟩
  intro k q hq
  by_cases hkk : k = fo Bs b + j
  · subst hkk
    rw [List.getElem?_set, if_pos rfl, if_pos (List.getElem?_eq_some_iff.mp hpos).1] at hq
    cases hq
    exact hP1 0 _ rfl
  · rw [List.getElem?_set_ne (Ne.symm hkk)] at hq
    have hat := hP k q hq
    refine hat.kept (hk q.1 hat.lt ?_)
    rintro ⟨k3, e3, h3⟩
    have h4 : (q.1, e3) = (a, e) := by
      have := List.mem_of_getElem? h3
      simpa using this
    have h5 : q.1 = a := congrArg Prod.fst h4
    exact hkk (hD.1 k _ q (a, e) hq hpos h5)
theorem inB_D {A : Nat → Prop} {Bs Bc : List va_W} (hD : va_D A Bs.flatten) (is : List Nat) (hsub : is.map (fun i => Bs[i]?) = Bc.map some) : ∀ q, inB Bc q → A q := by
  rintro q ⟨k, e, h⟩
  obtain ⟨C, hC, hqC⟩ := List.mem_flatten.mp (List.mem_of_getElem? h)
  have h1 : some C ∈ Bc.map some := List.mem_map.mpr ⟨C, hC, rfl⟩
  rw [← hsub] at h1
  obtain ⟨i, h2, h3⟩ := List.mem_map.mp h1
  obtain ⟨j2, hj2⟩ := List.getElem?_of_mem hqC
  exact hD.2 _ (q, e) (fl_get Bs i j2 C (q, e) h3 hj2)
theorem bl_P {D : va_G} {cl : List vw_C} {Bs Bc : List va_W} {H : Heap} (hP : va_P D cl Bs.flatten H) (is : List Nat) (hsub : is.map (fun i => Bs[i]?) = Bc.map some) : va_P D cl Bc.flatten H := by
  intro k q hq
  obtain ⟨C, hC, hqC⟩ := List.mem_flatten.mp (List.mem_of_getElem? hq)
  have h1 : some C ∈ Bc.map some := List.mem_map.mpr ⟨C, hC, rfl⟩
  rw [← hsub] at h1
  obtain ⟨i, h2, h3⟩ := List.mem_map.mp h1
  obtain ⟨j2, hj2⟩ := List.getElem?_of_mem hqC
  exact hP _ q (fl_get Bs i j2 C q h3 hj2)
theorem fl_inv {α : Type} : ∀ (Bs : List (List α)) (k : Nat) (q : α), Bs.flatten[k]? = some q → ∃ (b j : Nat) (B : List α), Bs[b]? = some B ∧ B[j]? = some q ∧ k = fo Bs b + j
  | [], k, q, h => by simp at h
  | A :: Bs, k, q, h => by
    simp only [List.flatten_cons] at h
    by_cases hk : k < A.length
    · rw [List.getElem?_append_left hk] at h
      exact ⟨0, k, A, rfl, h, by simp [fo]⟩
    · rw [List.getElem?_append_right (by omega)] at h
      obtain ⟨b, j, B, h1, h2, h3⟩ := fl_inv Bs (k - A.length) q h
      exact ⟨b + 1, j, B, by simpa using h1, h2, by simp only [fo]; omega⟩
theorem bl_D {A : Nat → Prop} {Bs Bc : List va_W} (hD : va_D A Bs.flatten) (is : List Nat) (hnd : va_nd is = true) (hsub : is.map (fun i => Bs[i]?) = Bc.map some) : va_D (fun _ => True) Bc.flatten := by
  have at' : ∀ (b : Nat) (B : va_W), Bc[b]? = some B → ∃ i, is[b]? = some i ∧ Bs[i]? = some B := by
    intro b B hb
    have h1 : (is.map (fun i => Bs[i]?))[b]? = some (some B) := by rw [hsub, List.getElem?_map, hb]; rfl
    rw [List.getElem?_map] at h1
    cases hi : is[b]? with
    | none => rw [hi] at h1; cases h1
    | some i => rw [hi] at h1; exact ⟨i, rfl, Option.some.inj h1⟩
  refine ⟨fun i j p q hi hj he => ?_, fun _ _ _ => trivial⟩
  obtain ⟨b, x, B, h1, h2, rfl⟩ := fl_inv Bc i p hi
  obtain ⟨c, y, C, h3, h4, rfl⟩ := fl_inv Bc j q hj
  obtain ⟨ib, h5, h6⟩ := at' b B h1
  obtain ⟨ic, h7, h8⟩ := at' c C h3
  have h9 := hD.1 _ _ p q (fl_get Bs ib x B p h6 h2) (fl_get Bs ic y C q h8 h4) he
  have h10 := fo_inj Bs ib ic x y B C h6 h8 (List.getElem?_eq_some_iff.mp h2).1 (List.getElem?_eq_some_iff.mp h4).1 h9
  subst h10
  have h11 := va_nd_inj is hnd b c ib h5 h7
  subst h11
  omega
theorem cell_P {D : va_G} {cl : List vw_C} {Bs : List va_W} {B : va_W} {H : Heap} {b j : Nat} {q : Nat × va_E} (hP : va_P D cl Bs.flatten H) (hB : Bs[b]? = some B) (he : B[j]? = some q) : va_P D cl [[q]].flatten H := by
  intro k q' hq
  have h := List.mem_of_getElem? hq
  simp only [List.flatten_cons, List.flatten_nil, List.append_nil, List.mem_singleton] at h
  subst h
  exact hP _ _ (fl_get Bs b j B _ hB he)
theorem cell_D {q : Nat × va_E} : va_D (fun _ => True) [[q]].flatten := by
  refine ⟨fun i j p q hi hj _ => ?_, fun _ _ _ => trivial⟩
  have h1 := (List.getElem?_eq_some_iff.mp hi).1
  have h2 := (List.getElem?_eq_some_iff.mp hj).1
  simp at h1 h2
  omega
theorem cell_in {A : Nat → Prop} {Bs : List va_W} {B : va_W} {b j a : Nat} {e : va_E} (hD : va_D A Bs.flatten) (hB : Bs[b]? = some B) (he : B[j]? = some (a, e)) : ∀ q, inB [[(a, e)]] q → A q := by
  rintro q ⟨k, e2, h⟩
  have h := List.mem_of_getElem? h
  simp only [List.flatten_cons, List.flatten_nil, List.append_nil, List.mem_singleton, Prod.mk.injEq] at h
  rw [h.1]
  exact hD.2 _ _ (fl_get Bs b j B _ hB he)
def bI (P : Prop) [Decidable P] : Int32 := if P then 1 else 0
section GR
variable {p : Program} {l : Launch} {e : Env} {R : Room} {s : State} {m : MethodId} {args : Array Value} {below : List Frame} {meth : Method} {c : Code} {H H0 : Heap} {locs : List Loc} {cells slots : Nat} {Q : State → Prop} {cc : ByteArray} {nL pc : Nat} {ls : Array Slot} {rest : List Value} {Ts : List Cond} {own : String} {E : EV} {Bs : List va_W} {A : Nat → Prop} {a : Nat}
theorem b_get (S : CallFix p m c cc nL s args Ts own) {C : String} {T : u_T} {N ci index : Nat} (hin : ∀ w ∈ u_ws C T N, w ∈ Ts) (hK : KE E s) (hP : PE E Bs H) (hc : vwCl[ci]? = some (C, T, N)) (k : Nat) (hk : k < N) (hlink : Cond.fieldLink own index (T k).1 (T k).2.1 (T k).2.2.1 ∈ Ts) (b j : Nat) {B : va_W} (hB : Bs[b]? = some B) {fs : List Value} (he : B[j]? = some (a, .inr (ci, fs))) {v : Value} (hv : fs[k]? = some v) (hdg : decode cc pc = .ok (.getfield index, 3)) (kk : W p l e R s m args below meth c H locs cells slots Q (F0 m (pc + 3) ls (v :: rest))) : W p l e R s m args below meth c H locs cells slots Q (F0 m pc ls (.ref a :: rest)) :=
  va_get (D := E.1) (ci := ci) (C := C) (T := T) (N := N) S.1 S.2.1 S.2.2.2.2 hin S.2.2.2.1 hK hP _ (fl_get Bs b j B _ hB he) hc k hk (S.2.2.2.2 _ hlink) (fun _ h9 => h9) hv hdg kk
theorem b_put (S : CallFix p m c cc nL s args Ts own) {C : String} {T : u_T} {N ci index : Nat} (hin : ∀ w ∈ u_ws C T N, w ∈ Ts) (ty0 : Nat → FieldType) (hty : ∀ k, k < N → parseFieldDescriptor (T k).2.2.1 = some (ty0 k)) (hnm : ∀ a, a < N → ∀ b, b < N → a ≠ b → (T a).2.1 ≠ (T b).2.1) (hK : KE E s) (hP : PE E Bs H) (hD : DE A Bs) (hS : va_S A H0 H locs) (hc : vwCl[ci]? = some (C, T, N)) (k : Nat) (hk : k < N) (hlink : Cond.fieldLink own index (T k).1 (T k).2.1 (T k).2.2.1 ∈ Ts) (hfin : (T k).2.2.2 = false) {ty : FieldType} {v : Value} (hd : parseFieldDescriptor (T k).2.2.1 = some ty) (hn : narrow ty v = v) (hfit : fits ty v = true) (b j : Nat) {B B1 : va_W} (hB : Bs[b]? = some B) {fs : List Value} (he : B[j]? = some (a, .inr (ci, fs))) (hl : k < fs.length) (hB1 : B.set j (a, .inr (ci, fs.set k v)) = B1) {Bs1 : List va_W} (hBs : Bs.set b B1 = Bs1) (hdg : decode cc pc = .ok (.putfield index, 3))
    (kk : ∀ (H1 : Heap) (locs1 : List Loc), PE E Bs1 H1 → DE A Bs1 → va_S A H0 H1 locs1 → W p l e R s m args below meth c H1 locs1 cells slots Q (F0 m (pc + 3) ls rest)) : W p l e R s m args below meth c H locs cells slots Q (F0 m pc ls (v :: .ref a :: rest)) := by
  subst hBs; subst hB1
  refine va_put (D := E.1) (ci := ci) (C := C) (T := T) (N := N) S.1 S.2.1 S.2.2.2.2 hin ty0 hty hnm S.2.2.2.1 hK hP hD hS _ (fl_get Bs b j B _ hB he) hc k hk (S.2.2.2.2 _ hlink) (fun _ h9 => h9) hfin hd hn hfit hl hdg (fun H1 locs1 hP hD hS => ?_)
  rw [fl_set Bs b j B _ hB (List.getElem?_eq_some_iff.mp he).1] at hP hD
  exact kk H1 locs1 hP hD hS
theorem b_iald (S : CallFix p m c cc nL s args Ts own) (hK : KE E s) (hP : PE E Bs H) (b j : Nat) {B : va_W} (hB : Bs[b]? = some B) {n : Nat} {f : Nat → Int32} (he : B[j]? = some (a, .inl (E.2.1, n, .inl f))) {i : Int32} (hin : vp_in i n) (hdg : decode cc pc = .ok (.iaload, 1)) (kk : W p l e R s m args below meth c H locs cells slots Q (F0 m (pc + 1) ls (.int (f i.toNatClampNeg) :: rest))) : W p l e R s m args below meth c H locs cells slots Q (F0 m pc ls (.int i :: .ref a :: rest)) :=
  va_iald S.1 S.2.1 hK hP _ 0 (fl_get Bs b j B _ hB he) rfl hin hdg kk
theorem b_bald (S : CallFix p m c cc nL s args Ts own) (hK : KE E s) (hP : PE E Bs H) (b j : Nat) {B : va_W} (hB : Bs[b]? = some B) {n : Nat} {f : Nat → Int32} (he : B[j]? = some (a, .inl (E.2.2.1, n, .inl f))) {i : Int32} (hin : vp_in i n) (hdg : decode cc pc = .ok (.baload, 1)) (kk : W p l e R s m args below meth c H locs cells slots Q (F0 m (pc + 1) ls (.int (f i.toNatClampNeg) :: rest))) : W p l e R s m args below meth c H locs cells slots Q (F0 m pc ls (.int i :: .ref a :: rest)) :=
  va_bald S.1 S.2.1 hK hP _ 1 (fl_get Bs b j B _ hB he) rfl hin hdg kk
theorem b_iast (S : CallFix p m c cc nL s args Ts own) (hK : KE E s) (hP : PE E Bs H) (hD : DE A Bs) (hS : va_S A H0 H locs) (b j : Nat) {B B1 : va_W} (hB : Bs[b]? = some B) {n : Nat} {f : Nat → Int32} (he : B[j]? = some (a, .inl (E.2.1, n, .inl f))) {i x : Int32} (hin : vp_in i n) (hB1 : B.set j (a, .inl (E.2.1, n, .inl (upd f i.toNatClampNeg x))) = B1) {Bs1 : List va_W} (hBs : Bs.set b B1 = Bs1) (hdg : decode cc pc = .ok (.iastore, 1))
    (kk : ∀ (H1 : Heap) (locs1 : List Loc), PE E Bs1 H1 → DE A Bs1 → va_S A H0 H1 locs1 → W p l e R s m args below meth c H1 locs1 cells slots Q (F0 m (pc + 1) ls rest)) : W p l e R s m args below meth c H locs cells slots Q (F0 m pc ls (.int x :: .int i :: .ref a :: rest)) := by
  subst hBs; subst hB1
  refine va_iast S.1 S.2.1 hK hP hD hS _ 0 (fl_get Bs b j B _ hB he) rfl hin hdg (fun H1 locs1 hP hD hS => ?_)
  rw [fl_set Bs b j B _ hB (List.getElem?_eq_some_iff.mp he).1] at hP hD
  exact kk H1 locs1 hP hD hS
theorem b_bast (S : CallFix p m c cc nL s args Ts own) (hK : KE E s) (hP : PE E Bs H) (hD : DE A Bs) (hS : va_S A H0 H locs) (b j : Nat) {B B1 : va_W} (hB : Bs[b]? = some B) {n : Nat} {f : Nat → Int32} (he : B[j]? = some (a, .inl (E.2.2.1, n, .inl f))) {i x : Int32} (hin : vp_in i n) (hB1 : B.set j (a, .inl (E.2.2.1, n, .inl (upd f i.toNatClampNeg (vp_nar .byte x)))) = B1) {Bs1 : List va_W} (hBs : Bs.set b B1 = Bs1) (hdg : decode cc pc = .ok (.bastore, 1))
    (kk : ∀ (H1 : Heap) (locs1 : List Loc), PE E Bs1 H1 → DE A Bs1 → va_S A H0 H1 locs1 → W p l e R s m args below meth c H1 locs1 cells slots Q (F0 m (pc + 1) ls rest)) : W p l e R s m args below meth c H locs cells slots Q (F0 m pc ls (.int x :: .int i :: .ref a :: rest)) := by
  subst hBs; subst hB1
  refine va_bast S.1 S.2.1 hK hP hD hS _ 1 (fl_get Bs b j B _ hB he) rfl hin hdg (fun H1 locs1 hP hD hS => ?_)
  rw [fl_set Bs b j B _ hB (List.getElem?_eq_some_iff.mp he).1] at hP hD
  exact kk H1 locs1 hP hD hS
theorem b_alen (S : CallFix p m c cc nL s args Ts own) (hK : KE E s) (hP : PE E Bs H) (b j : Nat) {B : va_W} (hB : Bs[b]? = some B) {x : vp_A} (he : B[j]? = some (a, .inl (E.2.1, x))) {v : Int32} (hv : Int32.ofNat x.1 = v) (hdg : decode cc pc = .ok (.arraylength, 1)) (kk : W p l e R s m args below meth c H locs cells slots Q (F0 m (pc + 1) ls (.int v :: rest))) : W p l e R s m args below meth c H locs cells slots Q (F0 m pc ls (.ref a :: rest)) :=
  va_alen S.1 S.2.1 hK hP _ 0 (fl_get Bs b j B _ hB he) rfl hv hdg kk
/-- an element of an array of objects that is there -/
theorem b_aald (S : CallFix p m c cc nL s args Ts own) (hK : KE E s) (hP : PE E Bs H) (t0 b j : Nat) {B : va_W} (hB : Bs[b]? = some B) {n : Nat} {f : Nat → Option Nat} {cA : ClassId} {C : String} (ht : (tyE E)[t0]? = some (cA, .object C)) (he : B[j]? = some (a, .inl (cA, n, .inr (.inr (.inr (.inr f)))))) {i : Int32} (hin : vp_in i n) {v : Nat} (hv : f i.toNatClampNeg = some v) (hdg : decode cc pc = .ok (.aaload, 1)) (kk : W p l e R s m args below meth c H locs cells slots Q (F0 m (pc + 1) ls (.ref v :: rest))) : W p l e R s m args below meth c H locs cells slots Q (F0 m pc ls (.int i :: .ref a :: rest)) := by
  refine va_aldq S.1 S.2.1 hK hP _ t0 (fl_get Bs b j B _ hB he) ht hin hdg ?_
  rw [hv]
  exact kk
/-! calls -/
variable {y : MethodName} {bytes : ByteArray} {maxL : Nat} {ret : Option FieldType} {rm : Room} {Bc : List va_W} {Qc : Array Value → State → Outcome → State → Prop} {free : Addr → Prop} {C : String} {idx n b : Nat} {As : List Value}
theorem run_V (S : CallFix p m c cc nL s args Ts own) (hK : KE E s) (hPc : PE E Bc H) (hDc : DE (fun _ => True) Bc) (hM : Met l y (wq y bytes maxL ret) rm (preB E (.ref b :: As) Bc) Qc 0 0 free) (hg : GoodIn Ts (wsV own idx C y (wq y bytes maxL ret))) (hd : y.cls = C ∧ y.cls ≠ "java/lang/invoke/MethodHandle" ∧ y.cls ≠ "java/lang/invoke/VarHandle" ∧ (parseMethodDescriptor y.desc).map (fun d => d.parameters.length) = some n) (hn : As.length = n) (hrm : rm.cells = 0 ∧ rm.slots = 0) (hR : rm.frames + 1 ≤ R.frames ∧ 8 + (maxL + 11) + rm.locals ≤ R.locals) {ci : Nat} {T : u_T} {N q0 : Nat} {fs : List Value} (hc : vwCl[ci]? = some (C, T, N)) (he : Bc.flatten[q0]? = some (b, .inr (ci, fs))) (hsz : ls.size = nL) (hrest : (rest.map fun v => v.category).sum ≤ 8) (hdg : decode cc pc = .ok (.invokevirtual idx, 3)) (hcs : cells ≤ R.cells ∧ slots ≤ R.slots) : va_Run p l e R s m args below meth c H locs cells slots 0 0 (F0 m pc ls (As.reverse ++ .ref b :: rest)) rest (Qc (Value.ref b :: As).toArray) free :=
  va_runV (As := As) (rest := rest) S hM (cwV n S.2.2.2.2 hg rfl hrm.1 hrm.2 hd hR) ⟨preB_blind, va_recv hK hPc hc he, fun U hU hW => ⟨rfl, by rw [hU]; exact hPc, va_K.moved hW.alike hK, hDc⟩⟩ rfl hn hsz rfl (lv_room hrest) hdg hcs
theorem run_S (S : CallFix p m c cc nL s args Ts own) (hK : KE E s) (hPc : PE E Bc H) (hDc : DE (fun _ => True) Bc) (hM : Met l y (wq y bytes maxL ret) rm (preB E As Bc) Qc 0 0 free) (hg : GoodIn Ts (wsS own idx y (wq y bytes maxL ret))) (hd : y.cls = own ∧ y.cls ≠ "java/lang/invoke/MethodHandle" ∧ y.cls ≠ "java/lang/invoke/VarHandle" ∧ (parseMethodDescriptor y.desc).map (fun d => d.parameters.length) = some n) (hn : As.length = n) (hrm : rm.cells = 0 ∧ rm.slots = 0) (hR : rm.frames + 1 ≤ R.frames ∧ 8 + (maxL + 11) + rm.locals ≤ R.locals) (hsz : ls.size = nL) (hrest : (rest.map fun v => v.category).sum ≤ 8) (hdg : decode cc pc = .ok (.invokestatic idx, 3)) (hcs : cells ≤ R.cells ∧ slots ≤ R.slots) : va_Run p l e R s m args below meth c H locs cells slots 0 0 (F0 m pc ls (As.reverse ++ rest)) rest (Qc As.toArray) free :=
  va_runS (As := As) (rest := rest) S hM (cwS n S.2.2.2.2 hg rfl hrm.1 hrm.2 hd hR) ⟨preB_blind, fun U hU hW => ⟨rfl, by rw [hU]; exact hPc, va_K.moved hW.alike hK, hDc⟩⟩ rfl hn hsz rfl (lv_room hrest) hdg hcs
variable {st0 : List Value} {av : Array Value}
theorem go_S {ans : Int32} (hr : va_Run p l e R s m args below meth c H locs cells slots 0 0 (F0 m pc ls st0) rest (qS ans av) (fun _ => False)) (kk : W p l e R s m args below meth c H locs cells slots Q (F0 m (pc + 3) ls (.int ans :: rest))) : W p l e R s m args below meth c H locs cells slots Q (F0 m pc ls st0) :=
  vp_callSi (va_Run.run hr) (fun r h => by rw [h]; exact kk)
/-- behind a call that wrote in the blocks 'is' -/
theorem go_I {ans : Int32} {Bc' Bs' : List va_W} (hr : va_Run p l e R s m args below meth c H locs cells slots 0 0 (F0 m pc ls st0) rest (qI E Bc Bc' ans av) (inB Bc)) (hP : PE E Bs H) (hD : DE A Bs) (hS : va_S A H0 H locs) (is : List Nat) (hsub : is.map (fun i => Bs[i]?) = Bc.map some) (had : Bc'.map (fun B => B.map Prod.fst) = Bc.map (fun B => B.map Prod.fst)) (hres : fset Bs is Bc' = Bs') (kk : ∀ (H1 : Heap) (locs1 : List Loc), PE E Bs' H1 → DE A Bs' → va_S A H0 H1 locs1 → W p l e R s m args below meth c H1 locs1 cells slots Q (F0 m (pc + 3) ls (.int ans :: rest))) : W p l e R s m args below meth c H locs cells slots Q (F0 m pc ls st0) := by
  subst hres
  refine va_calli hr hS (fun q _ h => inB_D hD is hsub q h) (inB_D hD is hsub) (fun r u t H1 locs1 ht hvm hw hB hz hk hS1 => ?_)
  subst hw; subst ht
  obtain ⟨h1, h2⟩ := bl_back hP hD is hsub had hk hB
  exact kk _ _ h1 h2 hS1
theorem go_L {ans : Int64} {Bc' Bs' : List va_W} (hr : va_Run p l e R s m args below meth c H locs cells slots 0 0 (F0 m pc ls st0) rest (qL E Bc Bc' ans av) (inB Bc)) (hP : PE E Bs H) (hD : DE A Bs) (hS : va_S A H0 H locs) (is : List Nat) (hsub : is.map (fun i => Bs[i]?) = Bc.map some) (had : Bc'.map (fun B => B.map Prod.fst) = Bc.map (fun B => B.map Prod.fst)) (hres : fset Bs is Bc' = Bs') (kk : ∀ (H1 : Heap) (locs1 : List Loc), PE E Bs' H1 → DE A Bs' → va_S A H0 H1 locs1 → W p l e R s m args below meth c H1 locs1 cells slots Q (F0 m (pc + 3) ls (.long ans :: rest))) : W p l e R s m args below meth c H locs cells slots Q (F0 m pc ls st0) := by
  subst hres
  refine va_calll hr hS (fun q _ h => inB_D hD is hsub q h) (inB_D hD is hsub) (fun r u t H1 locs1 ht hvm hw hB hz hk hS1 => ?_)
  subst hw; subst ht
  obtain ⟨h1, h2⟩ := bl_back hP hD is hsub had hk hB
  exact kk _ _ h1 h2 hS1
theorem go_V {Bc' Bs' : List va_W} (hr : va_Run p l e R s m args below meth c H locs cells slots 0 0 (F0 m pc ls st0) rest (qV E Bc Bc' av) (inB Bc)) (hP : PE E Bs H) (hD : DE A Bs) (hS : va_S A H0 H locs) (is : List Nat) (hsub : is.map (fun i => Bs[i]?) = Bc.map some) (had : Bc'.map (fun B => B.map Prod.fst) = Bc.map (fun B => B.map Prod.fst)) (hres : fset Bs is Bc' = Bs') (kk : ∀ (H1 : Heap) (locs1 : List Loc), PE E Bs' H1 → DE A Bs' → va_S A H0 H1 locs1 → W p l e R s m args below meth c H1 locs1 cells slots Q (F0 m (pc + 3) ls rest)) : W p l e R s m args below meth c H locs cells slots Q (F0 m pc ls st0) := by
  subst hres
  refine va_callv hr hS (fun q _ h => inB_D hD is hsub q h) (inB_D hD is hsub) (fun u t H1 locs1 ht hvm hw hB hz hk hS1 => ?_)
  subst ht
  obtain ⟨h1, h2⟩ := bl_back hP hD is hsub had hk hB
  exact kk _ _ h1 h2 hS1
/-- behind a call that wrote in one cell -/
theorem go_Vc {B B1 : va_W} {Bs' : List va_W} {b j : Nat} {e0 e1 : va_E} (hr : va_Run p l e R s m args below meth c H locs cells slots 0 0 (F0 m pc ls st0) rest (qV E [[(a, e0)]] [[(a, e1)]] av) (inB [[(a, e0)]])) (hP : PE E Bs H) (hD : DE A Bs) (hS : va_S A H0 H locs) (hB : Bs[b]? = some B) (he : B[j]? = some (a, e0)) (hB1 : B.set j (a, e1) = B1) (hres : Bs.set b B1 = Bs') (kk : ∀ (H1 : Heap) (locs1 : List Loc), PE E Bs' H1 → DE A Bs' → va_S A H0 H1 locs1 → W p l e R s m args below meth c H1 locs1 cells slots Q (F0 m (pc + 3) ls rest)) : W p l e R s m args below meth c H locs cells slots Q (F0 m pc ls st0) := by
  subst hres; subst hB1
  refine va_callv hr hS (fun q _ h => cell_in hD hB he q h) (cell_in hD hB he) (fun u t H1 locs1 ht hvm hw hB2 hz hk hS1 => ?_)
  subst ht
  obtain ⟨h1, h2⟩ := cell_back hP hD hB he hk hB2
  exact kk _ _ h1 h2 hS1
/-! ends -/
theorem retI {Bs' : List va_W} {ans v : Int32} (S : CallFix p m c cc nL s args Ts own) (hr : meth.sig.returnType = some .int) (hlk : meth.locks = false) (hP : PE E Bs' H) (hS : va_S (inB Bs) s.heap H locs) (hv : v = ans) (hdg : decode cc pc = .ok (.ireturn, 1)) : W p l e R s m args below meth c H locs 0 0 (MQ below (qI E Bs Bs' ans) args s 0 0 (inB Bs)) (F0 m pc ls [.int v]) :=
  W.iret S.1 S.2.1 hr (fun t ht hW => ⟨⟨v, (), rfl, hv, by show PE E Bs' t.heap; rw [ht]; exact hP⟩, hS.F ht⟩) hS.2.2 hdg hlk
theorem retZ {Bs' : List va_W} {ans v : Int32} (S : CallFix p m c cc nL s args Ts own) (hr : meth.sig.returnType = some .boolean) (hlk : meth.locks = false) (hn : narrow .boolean (.int v) = .int v) (hP : PE E Bs' H) (hS : va_S (inB Bs) s.heap H locs) (hv : v = ans) (hdg : decode cc pc = .ok (.ireturn, 1)) : W p l e R s m args below meth c H locs 0 0 (MQ below (qI E Bs Bs' ans) args s 0 0 (inB Bs)) (F0 m pc ls [.int v]) :=
  W.zret S.1 S.2.1 hr hn (fun t ht hW => ⟨⟨v, (), rfl, hv, by show PE E Bs' t.heap; rw [ht]; exact hP⟩, hS.F ht⟩) hS.2.2 hdg hlk
theorem retL {Bs' : List va_W} {ans v : Int64} (S : CallFix p m c cc nL s args Ts own) (hr : meth.sig.returnType = some .long) (hlk : meth.locks = false) (hP : PE E Bs' H) (hS : va_S (inB Bs) s.heap H locs) (hv : v = ans) (hdg : decode cc pc = .ok (.lreturn, 1)) : W p l e R s m args below meth c H locs 0 0 (MQ below (qL E Bs Bs' ans) args s 0 0 (inB Bs)) (F0 m pc ls [.long v]) :=
  W.lret S.1 S.2.1 hr (fun t ht hW => ⟨⟨v, (), rfl, hv, by show PE E Bs' t.heap; rw [ht]; exact hP⟩, hS.F ht⟩) hS.2.2 hdg hlk
theorem retV {Bs' : List va_W} (S : CallFix p m c cc nL s args Ts own) (hr : meth.sig.returnType = none) (hlk : meth.locks = false) (hP : PE E Bs' H) (hS : va_S (inB Bs) s.heap H locs) (hdg : decode cc pc = .ok (.return_, 1)) : W p l e R s m args below meth c H locs 0 0 (MQ below (qV E Bs Bs') args s 0 0 (inB Bs)) (F0 m pc ls []) :=
  W.vret S.1 S.2.1 hr (fun t ht hW => ⟨⟨(), rfl, trivial, by show PE E Bs' t.heap; rw [ht]; exact hP⟩, hS.F ht⟩) hS.2.2 hdg hlk
theorem retS {ans v : Int32} (S : CallFix p m c cc nL s args Ts own) (hr : meth.sig.returnType = some .int) (hlk : meth.locks = false) (hv : v = ans) (hdg : decode cc pc = .ok (.ireturn, 1)) : W p l e R s m args below meth c s.heap [] 0 0 (MQ below (qS ans) args s 0 0 (fun _ => False)) (F0 m pc ls [.int v]) :=
  W.iret S.1 S.2.1 hr (fun t ht hW => ⟨v, rfl, hv, ht⟩) (fun q h => by cases h) hdg hlk
theorem retSZ {ans v : Int32} (S : CallFix p m c cc nL s args Ts own) (hr : meth.sig.returnType = some .boolean) (hlk : meth.locks = false) (hn : narrow .boolean (.int v) = .int v) (hv : v = ans) (hdg : decode cc pc = .ok (.ireturn, 1)) : W p l e R s m args below meth c s.heap [] 0 0 (MQ below (qS ans) args s 0 0 (fun _ => False)) (F0 m pc ls [.int v]) :=
  W.zret S.1 S.2.1 hr hn (fun t ht hW => ⟨v, rfl, hv, ht⟩) (fun q h => by cases h) hdg hlk
/-! tests of answers that are true or false -/
theorem b_ifeq {P : Prop} [Decidable P] {off : Int} {tgt : Nat} (hx : p.tables.exec = Jvm.exec) (hb : c.code = cc) (hdg : decode cc pc = .ok (.ifCond .eq off, 3)) (ht : (pc : Int) + off = (tgt : Int)) (kt : ¬ P → W p l e R s m args below meth c H locs cells slots Q (F0 m tgt ls rest)) (kf : P → W p l e R s m args below meth c H locs cells slots Q (F0 m (pc + 3) ls rest)) : W p l e R s m args below meth c H locs cells slots Q (F0 m pc ls (.int (bI P) :: rest)) := by
  refine lv_if_eq hx hb hdg ht (fun h => kt (fun hp => ?_)) (fun h => kf (Classical.byContradiction fun hp => h ?_))
  · rw [bI, if_pos hp] at h; exact absurd h (by decide)
  · rw [bI, if_neg hp]
theorem b_ifne {P : Prop} [Decidable P] {off : Int} {tgt : Nat} (hx : p.tables.exec = Jvm.exec) (hb : c.code = cc) (hdg : decode cc pc = .ok (.ifCond .ne off, 3)) (ht : (pc : Int) + off = (tgt : Int)) (kt : P → W p l e R s m args below meth c H locs cells slots Q (F0 m tgt ls rest)) (kf : ¬ P → W p l e R s m args below meth c H locs cells slots Q (F0 m (pc + 3) ls rest)) : W p l e R s m args below meth c H locs cells slots Q (F0 m pc ls (.int (bI P) :: rest)) := by
  refine lv_if_ne hx hb hdg ht (fun h => kt (Classical.byContradiction fun hp => h ?_)) (fun h => kf (fun hp => ?_))
  · rw [bI, if_neg hp]
  · rw [bI, if_pos hp] at h; exact absurd h (by decide)
end GR
