abbrev preX (E : EV) (aS : Nat → Nat) (av : List Value) (Bs : List va_W) : Array Value → State → Prop := va_Pc av (fun U => (PE E Bs U.heap ∧ KE E U ∧ DE (fun _ => True) Bs) ∧ EX aS (inB Bs) U U.heap)
theorem preX_blind {E : EV} {aS : Nat → Nat} {av : List Value} {Bs : List va_W} : FrameBlind (preX E aS av Bs) := fun a U g mk q => by
  obtain ⟨q0, ⟨qP, qK, qD⟩, qX⟩ := q
  exact ⟨q0, ⟨qP, va_K.moved (u := U) (U := U.calling g mk a) (Vm.Alike.refl U.vm) qK, qD⟩, qX.same (u := U) rfl⟩
theorem M_mkX {l : Launch} {y : MethodName} {cc : ByteArray} {maxL : Nat} {ret : Option FieldType} {rm : Room} {E : EV} {aS : Nat → Nat} {av : List Value} {Bs : List va_W} {Qc : Array Value → State → Outcome → State → Prop} {free : Addr → Prop} (own : String) (hy : plainName y.cls = true) (hown : y.cls = own) (hn : (lg_sl av).length ≤ maxL)
    (body : ∀ (p : Program) (e : Env) (s : State) (m : MethodId) (below : List Frame) (meth : Method) (c : Code), CallFix p m c cc maxL s av.toArray (wq y cc maxL ret) own → meth.sig.returnType = ret → meth.locks = false → KE E s → PE E Bs s.heap → DE (inB Bs) Bs → va_S (inB Bs) s.heap s.heap [] → EX aS (inB Bs) s s.heap → ∀ ls : Array Slot, lv_has ls maxL (lv_args 0 av) → W p l e rm s m av.toArray below meth c s.heap [] 0 0 (MQ below Qc av.toArray s 0 0 free) (F0 m 0 ls [])) : Met l y (wq y cc maxL ret) rm (preX E aS av Bs) Qc 0 0 free := by
  refine MJ_mk own hy hown hn ?_
  intro p e s m below meth c S hr hlk hP ls hl
  exact body p e s m below meth c S hr hlk hP.1.2.1 hP.1.1 ⟨hP.1.2.2.1, fun k q hk => ⟨k, q.2, hk⟩⟩ va_S.rf hP.2 ls hl
section GXX
variable {p : Program} {l : Launch} {e : Env} {R : Room} {s : State} {m : MethodId} {args : Array Value} {below : List Frame} {meth : Method} {c : Code} {H H0 : Heap} {locs : List Loc} {cells slots : Nat} {Q : State → Prop} {cc : ByteArray} {nL pc : Nat} {ls : Array Slot} {rest : List Value} {Ts : List Cond} {own : String} {E : EV} {Bs : List va_W} {A : Nat → Prop} {a : Nat} {aS : Nat → Nat}
variable {y : MethodName} {bytes : ByteArray} {maxL : Nat} {ret : Option FieldType} {rm : Room} {Bc : List va_W} {Qc : Array Value → State → Outcome → State → Prop} {free : Addr → Prop} {C : String} {idx n b : Nat} {As : List Value}
theorem EX_c (hX : EX aS A s s.heap) (hS : va_S A s.heap H locs) (hD : DE A Bs) (is : List Nat) (hsub : is.map (fun i => Bs[i]?) = Bc.map some) : EX aS (inB Bc) s H := (hX.kept hS.2.1).narrow (inB_D hD is hsub)
theorem str_R {bs : List Int32} (hA : sA a bs A s s.heap) (hS : va_S A s.heap H locs) : ∃ cellB : Cell, H[a]? = some cellB ∧ cellB.vm.isStatics = false ∧ s.vm.findClass "java/lang/String" = some cellB.cls := (hA.kept hS.2.1).1.recv
theorem str_P {bs : List Int32} (hX : EX aS A s s.heap) (hA : sA a bs A s s.heap) (hS : va_S A s.heap H locs) : ∀ U : State, U.heap = H → s.WarmedH U.vm → pSt a bs U := fun U hU hW => ⟨by rw [hU]; exact ((hX.1.kept hS.2.1).narrow (fun _ h => h.elim)).moved hW.alike, by rw [hU]; exact ((hA.kept hS.2.1).narrow (fun _ h => h.elim)).moved hW.alike⟩
theorem run_VX (S : CallFix p m c cc nL s args Ts own) (hK : KE E s) (hPc : PE E Bc H) (hDc : DE (fun _ => True) Bc) (hXc : EX aS (inB Bc) s H) (hM : Met l y (wq y bytes maxL ret) rm (preX E aS (.ref b :: As) Bc) Qc 0 0 free) (hg : GoodIn Ts (wsV own idx C y (wq y bytes maxL ret))) (hd : y.cls = C ∧ y.cls ≠ "java/lang/invoke/MethodHandle" ∧ y.cls ≠ "java/lang/invoke/VarHandle" ∧ (parseMethodDescriptor y.desc).map (fun d => d.parameters.length) = some n) (hn : As.length = n) (hrm : rm.cells = 0 ∧ rm.slots = 0) (hR : rm.frames + 1 ≤ R.frames ∧ 8 + (maxL + 11) + rm.locals ≤ R.locals) {ci : Nat} {T : u_T} {N q0 : Nat} {fs : List Value} (hc : vwCl[ci]? = some (C, T, N)) (he : Bc.flatten[q0]? = some (b, .inr (ci, fs))) (hsz : ls.size = nL) (hrest : (rest.map fun v => v.category).sum ≤ 8) (hdg : decode cc pc = .ok (.invokevirtual idx, 3)) (hcs : cells ≤ R.cells ∧ slots ≤ R.slots) : va_Run p l e R s m args below meth c H locs cells slots 0 0 (F0 m pc ls (As.reverse ++ .ref b :: rest)) rest (Qc (Value.ref b :: As).toArray) free :=
  run_VJ (As := As) (rest := rest) S preX_blind (va_recv hK hPc hc he) (fun U hU hW => ⟨⟨by rw [hU]; exact hPc, va_K.moved hW.alike hK, hDc⟩, by rw [hU]; exact hXc.warm hW⟩) hM hg hd hn hrm hR hsz hrest hdg hcs
theorem run_SX (S : CallFix p m c cc nL s args Ts own) (hK : KE E s) (hPc : PE E Bc H) (hDc : DE (fun _ => True) Bc) (hXc : EX aS (inB Bc) s H) (hM : Met l y (wq y bytes maxL ret) rm (preX E aS As Bc) Qc 0 0 free) (hg : GoodIn Ts (wsS own idx y (wq y bytes maxL ret))) (hd : y.cls = own ∧ y.cls ≠ "java/lang/invoke/MethodHandle" ∧ y.cls ≠ "java/lang/invoke/VarHandle" ∧ (parseMethodDescriptor y.desc).map (fun d => d.parameters.length) = some n) (hn : As.length = n) (hrm : rm.cells = 0 ∧ rm.slots = 0) (hR : rm.frames + 1 ≤ R.frames ∧ 8 + (maxL + 11) + rm.locals ≤ R.locals) (hsz : ls.size = nL) (hrest : (rest.map fun v => v.category).sum ≤ 8) (hdg : decode cc pc = .ok (.invokestatic idx, 3)) (hcs : cells ≤ R.cells ∧ slots ≤ R.slots) : va_Run p l e R s m args below meth c H locs cells slots 0 0 (F0 m pc ls (As.reverse ++ rest)) rest (Qc As.toArray) free :=
  va_runS (As := As) (rest := rest) S hM (cwS n S.2.2.2.2 hg rfl hrm.1 hrm.2 hd hR) ⟨preX_blind, fun U hU hW => ⟨rfl, ⟨by rw [hU]; exact hPc, va_K.moved hW.alike hK, hDc⟩, by rw [hU]; exact hXc.warm hW⟩⟩ rfl hn hsz rfl (lv_room hrest) hdg hcs
end GXX
abbrev Xs : Type := Nat × Nat × Int32 × Nat × Int32
def qX (q0 : Row) (X : Xs) (mn pt : Nat) : Row := fun j => if j = 4 then nI X.1 else if j = 5 then nI X.2.1 else if j = 6 then X.2.2.1 else if j = 7 then nI X.2.2.2.1 else if j = 8 then X.2.2.2.2 else if j = 9 then nI mn else if j = 10 then nI pt else q0 j
theorem qX_4 {q : Row} {b e v mn pt k : Nat} {s w : Int32} : upd (qX q (b, e, s, v, w) mn pt) 4 (nI k) = qX q (k, e, s, v, w) mn pt := funext fun j => by
  unfold upd qX
  by_cases h : j = 4
  · rw [if_pos h, if_pos h]
  · rw [if_neg h, if_neg h, if_neg h]
theorem qX_5 {q : Row} {b e v mn pt k : Nat} {s w : Int32} : upd (qX q (b, e, s, v, w) mn pt) 5 (nI k) = qX q (b, k, s, v, w) mn pt := funext fun j => by
  unfold upd qX
  by_cases h : j = 5
  · subst h; rfl
  · rw [if_neg h, if_neg h, if_neg h]
theorem qX_6 {q : Row} {b e v mn pt : Nat} {s w x : Int32} : upd (qX q (b, e, s, v, w) mn pt) 6 x = qX q (b, e, x, v, w) mn pt := funext fun j => by
  unfold upd qX
  by_cases h : j = 6
  · subst h; rfl
  · rw [if_neg h, if_neg h, if_neg h]
theorem qX_7 {q : Row} {b e v mn pt k : Nat} {s w : Int32} : upd (qX q (b, e, s, v, w) mn pt) 7 (nI k) = qX q (b, e, s, k, w) mn pt := funext fun j => by
  unfold upd qX
  by_cases h : j = 7
  · subst h; rfl
  · rw [if_neg h, if_neg h, if_neg h]
theorem qX_8 {q : Row} {b e v mn pt : Nat} {s w x : Int32} : upd (qX q (b, e, s, v, w) mn pt) 8 x = qX q (b, e, s, v, x) mn pt := funext fun j => by
  unfold upd qX
  by_cases h : j = 8
  · subst h; rfl
  · rw [if_neg h, if_neg h, if_neg h]
theorem qX_9 {q : Row} {X : Xs} {mn pt k : Nat} : upd (qX q X mn pt) 9 (nI k) = qX q X k pt := funext fun j => by
  unfold upd qX
  by_cases h : j = 9
  · subst h; rfl
  · rw [if_neg h, if_neg h, if_neg h]
theorem qX_10 {q : Row} {X : Xs} {mn pt k : Nat} : upd (qX q X mn pt) 10 (nI k) = qX q X mn k := funext fun j => by
  unfold upd qX
  by_cases h : j = 10
  · subst h; rfl
  · rw [if_neg h, if_neg h, if_neg h]
theorem nI_sub {a b : Nat} (h : b ≤ a) : nI a - nI b = nI (a - b) := by
  obtain ⟨k, rfl⟩ : ∃ k, a = b + k := ⟨a - b, by omega⟩
  rw [show b + k - b = k by omega, ← nI_add, Int32.add_comm, Int32.add_sub_cancel]
/-- the byte at a place of the tape, -1 behind its end -/
def bt (tp : Row) (len k : Nat) : Int32 := if k < len then tp k else -1
theorem bt_out {tp : Row} {len k : Nat} (h : nI len ≤ nI k) (h1 : len < 2147483648) (h2 : k < 2147483648) : bt tp len k = -1 := if_neg (Nat.not_lt.mpr (le_of_nI h h1 h2))
theorem bt_lt {tp : Row} {len k : Nat} {x : Int32} (hx : ¬ x = -1) (h : bt tp len k = x) : k + 1 ≤ len := by
  by_cases h1 : k < len
  · exact h1
  · rw [bt, if_neg h1] at h; exact absurd h.symm hx
theorem bt_lo {tp : Row} {len k : Nat} {lo : Int32} (hx : ¬ lo ≤ -1) (h : lo ≤ bt tp len k) : k + 1 ≤ len := by
  by_cases h1 : k < len
  · exact h1
  · rw [bt, if_neg h1] at h; exact absurd h hx
def skN (tp : Row) (len : Nat) : Nat → Nat → Nat
  | 0, b => b
  | f + 1, b => if bt tp len b = 32 then skN tp len f (b + 1) else b
def skF (tp : Row) (len b : Nat) : Nat := skN tp len (len - b) b
theorem skF_s {tp : Row} {len b : Nat} (h : bt tp len b = 32) : skF tp len b = skF tp len (b + 1) := by
  have h1 := bt_lt (x := 32) (by decide) h
  unfold skF
  rw [show len - b = (len - (b + 1)) + 1 by omega, skN, if_pos h]
theorem skF_no {tp : Row} {len b : Nat} (h : ¬ bt tp len b = 32) : skF tp len b = b := by
  unfold skF
  cases len - b with
  | zero => rfl
  | succ n => rw [skN, if_neg h]
def enN (lo hi : Int32) (tp : Row) (len : Nat) : Nat → Nat → Nat
  | 0, k => k
  | f + 1, k => if lo ≤ bt tp len k ∧ bt tp len k ≤ hi then enN lo hi tp len f (k + 1) else k
def enF (lo hi : Int32) (tp : Row) (len k : Nat) : Nat := enN lo hi tp len (len - k) k
theorem enF_s {lo hi : Int32} {tp : Row} {len k : Nat} (h : lo ≤ bt tp len k ∧ bt tp len k ≤ hi) (h1 : k + 1 ≤ len) : enF lo hi tp len k = enF lo hi tp len (k + 1) := by
  unfold enF
  rw [show len - k = (len - (k + 1)) + 1 by omega, enN, if_pos h]
theorem enF_no {lo hi : Int32} {tp : Row} {len k : Nat} (h : ¬ (lo ≤ bt tp len k ∧ bt tp len k ≤ hi)) : enF lo hi tp len k = k := by
  unfold enF
  cases len - k with
  | zero => rfl
  | succ n => rw [enN, if_neg h]
def dvN (v : Nat) (x : Int32) : Nat := min 1000 (10 * v + (tN x - 48))
def vaN (tp : Row) (len : Nat) : Nat → Nat → Nat → Nat
  | 0, _, v => v
  | f + 1, k, v => if 48 ≤ bt tp len k ∧ bt tp len k ≤ 57 then vaN tp len f (k + 1) (dvN v (bt tp len k)) else v
def vaF (tp : Row) (len k v : Nat) : Nat := vaN tp len (len - k) k v
theorem vaF_s {tp : Row} {len k v : Nat} (h : 48 ≤ bt tp len k ∧ bt tp len k ≤ 57) (h1 : k + 1 ≤ len) : vaF tp len k v = vaF tp len (k + 1) (dvN v (bt tp len k)) := by
  unfold vaF
  rw [show len - k = (len - (k + 1)) + 1 by omega, vaN, if_pos h]
theorem vaF_no {tp : Row} {len k v : Nat} (h : ¬ (48 ≤ bt tp len k ∧ bt tp len k ≤ 57)) : vaF tp len k v = v := by
  unfold vaF
  cases len - k with
  | zero => rfl
  | succ n => rw [vaN, if_neg h]
theorem dv_eq {v : Nat} {x : Int32} (h : 48 ≤ x ∧ x ≤ 57) (hv : v ≤ 1000) : (if nI (10 * v) + x - 48 < 1000 then nI (10 * v) + x - 48 else 1000) = nI (dvN v x) := by
  obtain ⟨k, h1, h2, rfl⟩ := of_rng (lo := 48) (hi := 57) (by decide) (by decide) h
  have e : nI (10 * v) + nI k - 48 = nI (10 * v + k - 48) := by rw [nI_add]; exact nI_sub (a := 10 * v + k) (b := 48) (by omega)
  rw [e, dvN, tN, nI_clamp (by omega)]
  by_cases hc : 10 * v + k - 48 < 1000
  · rw [if_pos (show nI (10 * v + k - 48) < 1000 from nI_lt (b := 1000) hc (by omega))]
    congr 1
    omega
  · rw [if_neg (show ¬ nI (10 * v + k - 48) < 1000 from nI_nlt (b := 1000) (by omega) (by omega))]
    rw [show min 1000 (10 * v + (k - 48)) = 1000 by omega]
    rfl
/-- the sort of a byte: 0 end, 1 letter, 2 digit, 3 the sign, 4 strange -/
def srt (x : Int32) : Nat := if x < 0 then 0 else if 97 ≤ x ∧ x ≤ 122 then 1 else if 48 ≤ x ∧ x ≤ 57 then 2 else if x = 59 then 3 else 4
/-- the token from a place on: its first byte, the byte behind it, its sort, its value -/
def tkF (tp : Row) (len k : Nat) : Nat × Nat × Nat × Nat := if srt (bt tp len (skF tp len k)) = 0 then (skF tp len k, skF tp len k, 0, 0) else if srt (bt tp len (skF tp len k)) = 1 then (skF tp len k, enF 97 122 tp len (skF tp len k), 1, 0) else if srt (bt tp len (skF tp len k)) = 2 then (skF tp len k, enF 48 57 tp len (skF tp len k), 2, vaF tp len (skF tp len k) 0) else (skF tp len k, skF tp len k + 1, srt (bt tp len (skF tp len k)), 0)
def sM (n : Nat) : Int32 := if n = 4 then 3 else nI n
def tkX (tp : Row) (len k : Nat) (w : Int32) : Xs := ((tkF tp len k).1, (tkF tp len k).2.1, sM (tkF tp len k).2.2.1, (tkF tp len k).2.2.2, w)
theorem tk_0 {tp : Row} {len k b : Nat} {w : Int32} (hb : skF tp len k = b) (h : bt tp len b < 0) : tkX tp len k w = (b, b, 0, 0, w) := by
  have e : srt (bt tp len b) = 0 := if_pos h
  unfold tkX tkF
  rw [hb, e]
  rfl
theorem tk_1 {tp : Row} {len k b e1 : Nat} {w : Int32} (hb : skF tp len k = b) (h : 97 ≤ bt tp len b ∧ bt tp len b ≤ 122) (he : enF 97 122 tp len b = e1) : tkX tp len k w = (b, e1, 1, 0, w) := by
  have e : srt (bt tp len b) = 1 := by rw [srt, if_neg (fun z => absurd (Int32.lt_of_le_of_lt h.1 z) (by decide)), if_pos h]
  unfold tkX tkF
  rw [hb, e, he]
  rfl
theorem tk_2 {tp : Row} {len k b e1 v1 : Nat} {w : Int32} (hb : skF tp len k = b) (h : 48 ≤ bt tp len b ∧ bt tp len b ≤ 57) (he : enF 48 57 tp len b = e1) (hv : vaF tp len b 0 = v1) : tkX tp len k w = (b, e1, 2, v1, w) := by
  have e : srt (bt tp len b) = 2 := by rw [srt, if_neg (fun z => absurd (Int32.lt_of_le_of_lt h.1 z) (by decide)), if_neg (fun z => absurd (Int32.le_trans z.1 h.2) (by decide)), if_pos h]
  unfold tkX tkF
  rw [hb, e, he, hv]
  rfl
theorem tk_3 {tp : Row} {len k b : Nat} {w : Int32} (hb : skF tp len k = b) (h0 : 0 ≤ bt tp len b) (h1 : ¬ (97 ≤ bt tp len b ∧ bt tp len b ≤ 122)) (h2 : ¬ (48 ≤ bt tp len b ∧ bt tp len b ≤ 57)) : tkX tp len k w = (b, b + 1, 3, 0, w) := by
  unfold tkX tkF
  rw [hb]
  by_cases h : bt tp len b = 59
  · have e : srt (bt tp len b) = 3 := by rw [srt, if_neg (Int32.not_lt.mpr h0), if_neg h1, if_neg h2, if_pos h]
    rw [e]
    rfl
  · have e : srt (bt tp len b) = 4 := by rw [srt, if_neg (Int32.not_lt.mpr h0), if_neg h1, if_neg h2, if_neg h]
    rw [e]
    rfl
/-! a word at a place -/
theorem tW_len : ∀ w, w < 12 → 3 ≤ (tW w).length ∧ (tW w).length ≤ 7 := by decide
def mtN (tp : Row) (b : Nat) (bs : List Int32) : Nat → Bool
  | 0 => true
  | k + 1 => mtN tp b bs k && decide (tp (b + k) = chr (bs.getD k 0))
abbrev isW (tp : Row) (b k : Nat) (s : Int32) (w : Nat) : Prop := (decide (s = 1 ∧ k - b = (tW w).length) && mtN tp b (tW w) (tW w).length) = true
theorem mt_step {tp : Row} {b k : Nat} {bs : List Int32} {z d : Bool} (hz : z = (d && mtN tp b bs k)) (h : z = true) : decide (tp (b + k) = chr (bs.getD k 0)) = (d && mtN tp b bs (k + 1)) := by
  rw [h] at hz
  rw [mtN, ← Bool.and_assoc, ← hz, Bool.true_and]
theorem mt_in {tp : Row} {b k n e : Nat} {bs : List Int32} {z : Bool} {s : Int32} (hz : z = (decide (s = 1 ∧ e - b = n) && mtN tp b bs k)) (h : z = true) (hk : k < n) (he : e ≤ 120) : b + k < 120 := by
  rw [h] at hz
  have h1 := Bool.and_eq_true_iff.mp hz.symm
  have h2 := (of_decide_eq_true h1.1).2
  omega
theorem mt_false {tp : Row} {b : Nat} {bs : List Int32} : ∀ (n k : Nat), k ≤ n → mtN tp b bs k = false → mtN tp b bs n = false
  | 0, k, h, h1 => by rw [show k = 0 by omega] at h1; exact h1
  | n + 1, k, h, h1 => by
    by_cases hk : k = n + 1
    · rw [← hk]; exact h1
    · rw [mtN, mt_false n k (by omega) h1, Bool.false_and]
theorem bI_dec {P : Prop} [Decidable P] (h : P) : bI (decide P = true) = 1 := if_pos (decide_eq_true h)
theorem bI_decn {P : Prop} [Decidable P] (h : ¬ P) : bI (decide P = true) = 0 := if_neg (by rw [decide_eq_false h]; decide)
theorem iw_end {tp : Row} {b e w : Nat} {s : Int32} : bI ((decide (s = 1 ∧ e - b = (tW w).length) && mtN tp b (tW w) (tW w).length) = true) = bI (isW tp b e s w) := rfl
theorem iw_endn {tp : Row} {b e w k : Nat} {s : Int32} {z : Bool} (hz : z = (decide (s = 1 ∧ e - b = (tW w).length) && mtN tp b (tW w) k)) (h : ¬ z = true) (hk : k ≤ (tW w).length) : bI (z = true) = bI (isW tp b e s w) := by
  have h1 : z = false := by cases z <;> simp_all
  have h2 : ¬ isW tp b e s w := by
    intro h3
    have h4 := Bool.and_eq_true_iff.mp h3
    rw [h1, h4.1, Bool.true_and] at hz
    rw [mt_false _ k hk hz.symm] at h4
    exact absurd h4.2 (by decide)
  rw [bI, if_neg h, bI, if_neg h2]
set_option maxHeartbeats 800000 in
set_option maxRecDepth 100000 in
theorem c_X5_byteAt (l : Launch) (E : EV) (am : Nat → Nat) (q tp : Row) (len bb ee vv mn pt : Nat) (ss ww : Int32) (k9 : Nat) (hq3 : q 3 = nI len) (hl9 : len ≤ 120) (hk9 : k9 ≤ 120) : Met l yX5_byteAt (wq yX5_byteAt cX5_byteAt 2 (some .int)) ({ frames := 0, cells := 0, slots := 0, locals := 0 }) (preB E [.ref (am 0), .int (nI k9)] [[mObj am (qX q (bb, ee, ss, vv, ww) mn pt)], [(am 5, .inl (E.2.1, 120, .inl (sg tp 120)))]]) (qS (bt tp len k9)) 0 0 (fun _ => False) := by
  refine M_mk RX5 (by decide) rfl (Nat.le_of_ble_eq_true rfl) ?_
  intro p e s m below meth c S hr hlk hK hP hD hS ls hl
  have hl : lv_has ls 2 [(0, .ref (am 0)), (1, .int (nI k9))] := hl
  refine lv_iload_n S.1 S.2.1 dX5_byteAt_0 rfl (lv_at hl 1 rfl) ?_
  refine lv_aload_n S.1 S.2.1 dX5_byteAt_1 rfl (lv_at hl 0 rfl) ?_
  refine gf_X5_222 S hK hP 0 0 rfl rfl (congrArg (fun z => some (Value.int z)) hq3) dX5_byteAt_2 ?_
  refine lv_icmp_ge (tgt := 17) S.1 S.2.1 dX5_byteAt_5 (by decide) (fun c_5 => ?_) (fun c_5 => ?_)
  · have n_5 := Int32.not_lt.mpr c_5
    refine lv_iconst (v := (-1)) S.1 S.2.1 dX5_byteAt_17 (by decide) ?_
    exact retS S hr hlk (bt_out c_5 (by omega) (by omega)).symm dX5_byteAt_18
  · have n_5 := Int32.not_le.mp c_5
    have hk8 : k9 < len := Nat.lt_of_not_le (fun z9 => c_5 (nI_le z9 (by omega)))
    refine lv_aload_n S.1 S.2.1 dX5_byteAt_8 rfl (lv_at hl 0 rfl) ?_
    refine gf_X5_22 S hK hP 0 0 rfl rfl rfl dX5_byteAt_9 ?_
    refine lv_iload_n S.1 S.2.1 dX5_byteAt_12 rfl (lv_at hl 1 rfl) ?_
    refine b_ialdN (i := k9) S hK hP 1 0 rfl rfl (by omega) (by decide) dX5_byteAt_13 ?_
    refine lv_eqi (y := tp k9) (sg_at (by omega)) ?_
    refine lv_goto (tgt := 18) S.1 S.2.1 dX5_byteAt_14 (by decide) ?_
    exact retS S hr hlk (if_pos hk8).symm dX5_byteAt_18
set_option maxHeartbeats 800000 in
set_option maxRecDepth 100000 in
theorem c_X5_token (l : Launch) (E : EV) (am : Nat → Nat) (q tp : Row) (len bb ee vv mn pt : Nat) (ss ww : Int32) (hq3 : q 3 = nI len) (hl9 : len ≤ 120) (he : ee ≤ len) : Met l yX5_token (wq yX5_token cX5_token 2 none) ({ frames := 1, cells := 0, slots := 0, locals := 22 }) (preB E [.ref (am 0)] [[mObj am (qX q (bb, ee, ss, vv, ww) mn pt)], [(am 5, .inl (E.2.1, 120, .inl (sg tp 120)))]]) (qV E [[mObj am (qX q (bb, ee, ss, vv, ww) mn pt)], [(am 5, .inl (E.2.1, 120, .inl (sg tp 120)))]] [[mObj am (qX q (tkX tp len ee ww) mn pt)], [(am 5, .inl (E.2.1, 120, .inl (sg tp 120)))]]) 0 0 (inB [[mObj am (qX q (bb, ee, ss, vv, ww) mn pt)], [(am 5, .inl (E.2.1, 120, .inl (sg tp 120)))]]) := by
  refine M_mk RX5 (by decide) rfl (Nat.le_of_ble_eq_true rfl) ?_
  intro p e s m below meth c S hr hlk hK hP hD hS ls hl
  have hl : lv_has ls 2 [(0, .ref (am 0))] := hl
  obtain ⟨H, hH⟩ : ∃ zz9, zz9 = s.heap := ⟨_, rfl⟩
  obtain ⟨locs, hlocs⟩ : ∃ zz9 : List Loc, zz9 = [] := ⟨_, rfl⟩
  have hP : PE E [[mObj am (qX q (bb, ee, ss, vv, ww) mn pt)], [(am 5, .inl (E.2.1, 120, .inl (sg tp 120)))]] H := by rw [hH]; exact hP
  have hS : va_S (inB [[mObj am (qX q (bb, ee, ss, vv, ww) mn pt)], [(am 5, .inl (E.2.1, 120, .inl (sg tp 120)))]]) s.heap H locs := by rw [hH, hlocs]; exact hS
  show W p l e ({ frames := 1, cells := 0, slots := 0, locals := 22 }) s m ([.ref (am 0)] : List Value).toArray below meth c s.heap [] 0 0 _ _
  suffices hgo : W p l e ({ frames := 1, cells := 0, slots := 0, locals := 22 }) s m ([.ref (am 0)] : List Value).toArray below meth c H locs 0 0 (MQ below (qV E [[mObj am (qX q (bb, ee, ss, vv, ww) mn pt)], [(am 5, .inl (E.2.1, 120, .inl (sg tp 120)))]] [[mObj am (qX q (tkX tp len ee ww) mn pt)], [(am 5, .inl (E.2.1, 120, .inl (sg tp 120)))]]) ([.ref (am 0)] : List Value).toArray s 0 0 (inB [[mObj am (qX q (bb, ee, ss, vv, ww) mn pt)], [(am 5, .inl (E.2.1, 120, .inl (sg tp 120)))]])) (F0 m 0 ls []) by rw [hH, hlocs] at hgo; exact hgo
  clear hH hlocs
  refine lv_aload_n S.1 S.2.1 dX5_token_0 rfl (lv_at hl 0 rfl) ?_
  refine lv_aload_n S.1 S.2.1 dX5_token_1 rfl (lv_at hl 0 rfl) ?_
  refine gf_X5_225 S hK hP 0 0 rfl rfl rfl dX5_token_2 ?_
  refine pf_X5_228 S hK hP hD hS 0 0 rfl rfl (Nat.le_of_ble_eq_true rfl) (mo_4.trans (congrArg (fun z => ([mObj am z] : va_W)) qX_4)) (Bs1 := [[mObj am (qX q (ee, ee, ss, vv, ww) mn pt)], [(am 5, .inl (E.2.1, 120, .inl (sg tp 120)))]]) rfl dX5_token_5 (fun H locs hP hD hS => ?_)
  have L_8 : ∀ (fu : Nat) (b : Nat), (b ≤ len) → (len < b + fu) → (skF tp len ee = skF tp len b) → ∀ (H : Heap) (locs : List Loc), PE E [[mObj am (qX q (b, ee, ss, vv, ww) mn pt)], [(am 5, .inl (E.2.1, 120, .inl (sg tp 120)))]] H → DE (inB [[mObj am (qX q (bb, ee, ss, vv, ww) mn pt)], [(am 5, .inl (E.2.1, 120, .inl (sg tp 120)))]]) [[mObj am (qX q (b, ee, ss, vv, ww) mn pt)], [(am 5, .inl (E.2.1, 120, .inl (sg tp 120)))]] → va_S (inB [[mObj am (qX q (bb, ee, ss, vv, ww) mn pt)], [(am 5, .inl (E.2.1, 120, .inl (sg tp 120)))]]) s.heap H locs → ∀ (ls : Array Slot), lv_has ls 2 [(0, .ref (am 0))] → W p l e ({ frames := 1, cells := 0, slots := 0, locals := 22 }) s m ([.ref (am 0)] : List Value).toArray below meth c H locs 0 0 (MQ below (qV E [[mObj am (qX q (bb, ee, ss, vv, ww) mn pt)], [(am 5, .inl (E.2.1, 120, .inl (sg tp 120)))]] [[mObj am (qX q (tkX tp len ee ww) mn pt)], [(am 5, .inl (E.2.1, 120, .inl (sg tp 120)))]]) ([.ref (am 0)] : List Value).toArray s 0 0 (inB [[mObj am (qX q (bb, ee, ss, vv, ww) mn pt)], [(am 5, .inl (E.2.1, 120, .inl (sg tp 120)))]])) (F0 m 8 ls []) := by
    intro fu
    induction fu with
    | zero =>
      intro b hb hf hB
      omega
    | succ fu ih_8 =>
      intro b hb hf hB H locs hP hD hS ls hl
      refine lv_aload_n S.1 S.2.1 dX5_token_8 rfl (lv_at hl 0 rfl) ?_
      refine lv_aload_n S.1 S.2.1 dX5_token_9 rfl (lv_at hl 0 rfl) ?_
      refine gf_X5_228 S hK hP 0 0 rfl rfl rfl dX5_token_10 ?_
      refine go_S (run_V (As := [.int (nI b)]) (rest := []) (n := 1) S hK (bl_P hP [0, 1] rfl) (bl_D hD [0, 1] rfl rfl) (c_X5_byteAt l E am q tp len b ee vv mn pt ss ww b hq3 hl9 (by omega)) gV_X5_231 (by decide +kernel) rfl ⟨rfl, rfl⟩ ⟨Nat.le_of_ble_eq_true rfl, Nat.le_of_ble_eq_true rfl⟩ (ci := 5) (q0 := 0) rfl rfl hl.1 (Nat.le_of_ble_eq_true rfl) dX5_token_13 ⟨Nat.zero_le _, Nat.zero_le _⟩) ?_
      refine lv_bipush (v := 32) S.1 S.2.1 dX5_token_16 (by decide) ?_
      refine lv_icmp_ne (tgt := 34) S.1 S.2.1 dX5_token_18 (by decide) (fun c_18 => ?_) (fun c_18 => ?_)
      · have eB : skF tp len ee = b := hB.trans (skF_no c_18)
        refine lv_aload_n S.1 S.2.1 dX5_token_34 rfl (lv_at hl 0 rfl) ?_
        refine lv_aload_n S.1 S.2.1 dX5_token_35 rfl (lv_at hl 0 rfl) ?_
        refine gf_X5_228 S hK hP 0 0 rfl rfl rfl dX5_token_36 ?_
        refine go_S (run_V (As := [.int (nI b)]) (rest := []) (n := 1) S hK (bl_P hP [0, 1] rfl) (bl_D hD [0, 1] rfl rfl) (c_X5_byteAt l E am q tp len b ee vv mn pt ss ww b hq3 hl9 (by omega)) gV_X5_231 (by decide +kernel) rfl ⟨rfl, rfl⟩ ⟨Nat.le_of_ble_eq_true rfl, Nat.le_of_ble_eq_true rfl⟩ (ci := 5) (q0 := 0) rfl rfl hl.1 (Nat.le_of_ble_eq_true rfl) dX5_token_39 ⟨Nat.zero_le _, Nat.zero_le _⟩) ?_
        refine lv_istore_n (lv' := [(1, .int (bt tp len b)), (0, .ref (am 0))]) S.1 S.2.1 dX5_token_42 rfl hl (by decide) rfl (fun ls hl => ?_)
        refine lv_aload_n S.1 S.2.1 dX5_token_43 rfl (lv_at hl 1 rfl) ?_
        refine lv_aload_n S.1 S.2.1 dX5_token_44 rfl (lv_at hl 1 rfl) ?_
        refine gf_X5_228 S hK hP 0 0 rfl rfl rfl dX5_token_45 ?_
        refine pf_X5_225 S hK hP hD hS 0 0 rfl rfl (Nat.le_of_ble_eq_true rfl) (mo_5.trans (congrArg (fun z => ([mObj am z] : va_W)) qX_5)) (Bs1 := [[mObj am (qX q (b, b, ss, vv, ww) mn pt)], [(am 5, .inl (E.2.1, 120, .inl (sg tp 120)))]]) rfl dX5_token_48 (fun H locs hP hD hS => ?_)
        refine lv_aload_n S.1 S.2.1 dX5_token_51 rfl (lv_at hl 1 rfl) ?_
        refine lv_iconst (v := 0) S.1 S.2.1 dX5_token_52 (by decide) ?_
        refine pf_X5_234 S hK hP hD hS 0 0 rfl rfl (Nat.le_of_ble_eq_true rfl) (mo_7.trans (congrArg (fun z => ([mObj am z] : va_W)) qX_7)) (Bs1 := [[mObj am (qX q (b, b, ss, 0, ww) mn pt)], [(am 5, .inl (E.2.1, 120, .inl (sg tp 120)))]]) rfl dX5_token_53 (fun H locs hP hD hS => ?_)
        refine lv_iload_n S.1 S.2.1 dX5_token_56 rfl (lv_at hl 0 rfl) ?_
        refine lv_if_ge (tgt := 68) S.1 S.2.1 dX5_token_57 (by decide) (fun c_57 => ?_) (fun c_57 => ?_)
        · have n_57 := Int32.not_lt.mpr c_57
          refine lv_iload_n S.1 S.2.1 dX5_token_68 rfl (lv_at hl 0 rfl) ?_
          refine lv_bipush (v := 97) S.1 S.2.1 dX5_token_69 (by decide) ?_
          refine lv_bipush (v := 122) S.1 S.2.1 dX5_token_71 (by decide) ?_
          refine go_S (run_S (As := [.int (bt tp len b), .int 97, .int 122]) (rest := []) (n := 3) S hK (bl_P hP [] rfl) (bl_D hD [] rfl rfl) (c_X5_within l E (bt tp len b) 97 122 ) gS_X5_70 (by decide +kernel) rfl ⟨rfl, rfl⟩ ⟨Nat.le_of_ble_eq_true rfl, Nat.le_of_ble_eq_true rfl⟩ hl.1 (Nat.le_of_ble_eq_true rfl) dX5_token_73 ⟨Nat.zero_le _, Nat.zero_le _⟩) ?_
          refine b_ifeq (tgt := 115) S.1 S.2.1 dX5_token_76 (by decide) (fun c_76 => ?_) (fun c_76 => ?_)
          · refine lv_iload_n S.1 S.2.1 dX5_token_115 rfl (lv_at hl 0 rfl) ?_
            refine lv_bipush (v := 48) S.1 S.2.1 dX5_token_116 (by decide) ?_
            refine lv_bipush (v := 57) S.1 S.2.1 dX5_token_118 (by decide) ?_
            refine go_S (run_S (As := [.int (bt tp len b), .int 48, .int 57]) (rest := []) (n := 3) S hK (bl_P hP [] rfl) (bl_D hD [] rfl rfl) (c_X5_within l E (bt tp len b) 48 57 ) gS_X5_70 (by decide +kernel) rfl ⟨rfl, rfl⟩ ⟨Nat.le_of_ble_eq_true rfl, Nat.le_of_ble_eq_true rfl⟩ hl.1 (Nat.le_of_ble_eq_true rfl) dX5_token_120 ⟨Nat.zero_le _, Nat.zero_le _⟩) ?_
            refine b_ifeq (tgt := 191) S.1 S.2.1 dX5_token_123 (by decide) (fun c_123 => ?_) (fun c_123 => ?_)
            · refine lv_aload_n S.1 S.2.1 dX5_token_191 rfl (lv_at hl 1 rfl) ?_
              refine lv_iconst (v := 3) S.1 S.2.1 dX5_token_192 (by decide) ?_
              refine pf_X5_237 S hK hP hD hS 0 0 rfl rfl (Nat.le_of_ble_eq_true rfl) (mo_6.trans (congrArg (fun z => ([mObj am z] : va_W)) qX_6)) (Bs1 := [[mObj am (qX q (b, b, 3, 0, ww) mn pt)], [(am 5, .inl (E.2.1, 120, .inl (sg tp 120)))]]) rfl dX5_token_193 (fun H locs hP hD hS => ?_)
              refine lv_aload_n S.1 S.2.1 dX5_token_196 rfl (lv_at hl 1 rfl) ?_
              refine lv_dup S.1 S.2.1 dX5_token_197 rfl ?_
              refine gf_X5_225 S hK hP 0 0 rfl rfl rfl dX5_token_198 ?_
              refine lv_iconst (v := 1) S.1 S.2.1 dX5_token_201 (by decide) ?_
              refine lv_iadd S.1 S.2.1 dX5_token_202 ?_
              refine lv_eqi (y := nI (b + 1)) (nI_add b 1) ?_
              refine pf_X5_225 S hK hP hD hS 0 0 rfl rfl (Nat.le_of_ble_eq_true rfl) (mo_5.trans (congrArg (fun z => ([mObj am z] : va_W)) qX_5)) (Bs1 := [[mObj am (qX q (b, b + 1, 3, 0, ww) mn pt)], [(am 5, .inl (E.2.1, 120, .inl (sg tp 120)))]]) rfl dX5_token_203 (fun H locs hP hD hS => ?_)
              exact retV S hr hlk (by rw [tk_3 eB c_57 c_76 c_123]; exact hP) hS dX5_token_206
            · refine lv_aload_n S.1 S.2.1 dX5_token_126 rfl (lv_at hl 1 rfl) ?_
              refine lv_iconst (v := 2) S.1 S.2.1 dX5_token_127 (by decide) ?_
              refine pf_X5_237 S hK hP hD hS 0 0 rfl rfl (Nat.le_of_ble_eq_true rfl) (mo_6.trans (congrArg (fun z => ([mObj am z] : va_W)) qX_6)) (Bs1 := [[mObj am (qX q (b, b, 2, 0, ww) mn pt)], [(am 5, .inl (E.2.1, 120, .inl (sg tp 120)))]]) rfl dX5_token_128 (fun H locs hP hD hS => ?_)
              have L_131 : ∀ (fu : Nat) (e1 : Nat) (v1 : Nat), (len < e1 + fu) → (e1 ≤ len) → (enF 48 57 tp len b = enF 48 57 tp len e1) → (vaF tp len b 0 = vaF tp len e1 v1) → (v1 ≤ 1000) → ∀ (H : Heap) (locs : List Loc), PE E [[mObj am (qX q (b, e1, 2, v1, ww) mn pt)], [(am 5, .inl (E.2.1, 120, .inl (sg tp 120)))]] H → DE (inB [[mObj am (qX q (bb, ee, ss, vv, ww) mn pt)], [(am 5, .inl (E.2.1, 120, .inl (sg tp 120)))]]) [[mObj am (qX q (b, e1, 2, v1, ww) mn pt)], [(am 5, .inl (E.2.1, 120, .inl (sg tp 120)))]] → va_S (inB [[mObj am (qX q (bb, ee, ss, vv, ww) mn pt)], [(am 5, .inl (E.2.1, 120, .inl (sg tp 120)))]]) s.heap H locs → ∀ (ls : Array Slot), lv_has ls 2 [(0, .ref (am 0))] → W p l e ({ frames := 1, cells := 0, slots := 0, locals := 22 }) s m ([.ref (am 0)] : List Value).toArray below meth c H locs 0 0 (MQ below (qV E [[mObj am (qX q (bb, ee, ss, vv, ww) mn pt)], [(am 5, .inl (E.2.1, 120, .inl (sg tp 120)))]] [[mObj am (qX q (tkX tp len ee ww) mn pt)], [(am 5, .inl (E.2.1, 120, .inl (sg tp 120)))]]) ([.ref (am 0)] : List Value).toArray s 0 0 (inB [[mObj am (qX q (bb, ee, ss, vv, ww) mn pt)], [(am 5, .inl (E.2.1, 120, .inl (sg tp 120)))]])) (F0 m 131 ls []) := by
                intro fu
                induction fu with
                | zero =>
                  intro e1 v1 hf2 hel he1 hv1 hv2
                  omega
                | succ fu ih_131 =>
                  intro e1 v1 hf2 hel he1 hv1 hv2 H locs hP hD hS ls hl
                  refine lv_aload_n S.1 S.2.1 dX5_token_131 rfl (lv_at hl 0 rfl) ?_
                  refine lv_aload_n S.1 S.2.1 dX5_token_132 rfl (lv_at hl 0 rfl) ?_
                  refine gf_X5_225 S hK hP 0 0 rfl rfl rfl dX5_token_133 ?_
                  refine go_S (run_V (As := [.int (nI e1)]) (rest := []) (n := 1) S hK (bl_P hP [0, 1] rfl) (bl_D hD [0, 1] rfl rfl) (c_X5_byteAt l E am q tp len b e1 v1 mn pt 2 ww e1 hq3 hl9 (by omega)) gV_X5_231 (by decide +kernel) rfl ⟨rfl, rfl⟩ ⟨Nat.le_of_ble_eq_true rfl, Nat.le_of_ble_eq_true rfl⟩ (ci := 5) (q0 := 0) rfl rfl hl.1 (Nat.le_of_ble_eq_true rfl) dX5_token_136 ⟨Nat.zero_le _, Nat.zero_le _⟩) ?_
                  refine lv_bipush (v := 48) S.1 S.2.1 dX5_token_139 (by decide) ?_
                  refine lv_bipush (v := 57) S.1 S.2.1 dX5_token_141 (by decide) ?_
                  refine go_S (run_S (As := [.int (bt tp len e1), .int 48, .int 57]) (rest := []) (n := 3) S hK (bl_P hP [] rfl) (bl_D hD [] rfl rfl) (c_X5_within l E (bt tp len e1) 48 57 ) gS_X5_70 (by decide +kernel) rfl ⟨rfl, rfl⟩ ⟨Nat.le_of_ble_eq_true rfl, Nat.le_of_ble_eq_true rfl⟩ hl.1 (Nat.le_of_ble_eq_true rfl) dX5_token_143 ⟨Nat.zero_le _, Nat.zero_le _⟩) ?_
                  refine b_ifeq (tgt := 206) S.1 S.2.1 dX5_token_146 (by decide) (fun c_146 => ?_) (fun c_146 => ?_)
                  · exact retV S hr hlk (by rw [tk_2 eB c_123 (he1.trans (enF_no c_146)) (hv1.trans (vaF_no c_146))]; exact hP) hS dX5_token_206
                  · have hb2 : e1 + 1 ≤ len := bt_lo (lo := 48) (by decide) c_146.1
                    refine lv_aload_n S.1 S.2.1 dX5_token_149 rfl (lv_at hl 0 rfl) ?_
                    refine lv_sipush (v := 1000) S.1 S.2.1 dX5_token_150 (by decide) ?_
                    refine lv_bipush (v := 10) S.1 S.2.1 dX5_token_153 (by decide) ?_
                    refine lv_aload_n S.1 S.2.1 dX5_token_155 rfl (lv_at hl 0 rfl) ?_
                    refine gf_X5_234 S hK hP 0 0 rfl rfl rfl dX5_token_156 ?_
                    refine lv_imul S.1 S.2.1 dX5_token_159 ?_
                    refine lv_eqi (y := nI (10 * v1)) (pk_mul 10 v1) ?_
                    refine lv_aload_n S.1 S.2.1 dX5_token_160 rfl (lv_at hl 0 rfl) ?_
                    refine lv_aload_n S.1 S.2.1 dX5_token_161 rfl (lv_at hl 0 rfl) ?_
                    refine gf_X5_225 S hK hP 0 0 rfl rfl rfl dX5_token_162 ?_
                    refine go_S (run_V (As := [.int (nI e1)]) (rest := [.int (nI (10 * v1)), .int 1000, .ref (am 0)]) (n := 1) S hK (bl_P hP [0, 1] rfl) (bl_D hD [0, 1] rfl rfl) (c_X5_byteAt l E am q tp len b e1 v1 mn pt 2 ww e1 hq3 hl9 (by omega)) gV_X5_231 (by decide +kernel) rfl ⟨rfl, rfl⟩ ⟨Nat.le_of_ble_eq_true rfl, Nat.le_of_ble_eq_true rfl⟩ (ci := 5) (q0 := 0) rfl rfl hl.1 (Nat.le_of_ble_eq_true rfl) dX5_token_165 ⟨Nat.zero_le _, Nat.zero_le _⟩) ?_
                    refine lv_iadd S.1 S.2.1 dX5_token_168 ?_
                    refine lv_bipush (v := 48) S.1 S.2.1 dX5_token_169 (by decide) ?_
                    refine lv_isub S.1 S.2.1 dX5_token_171 ?_
                    refine va_mmin S.1 S.2.1 (S.2.2.1.trans hl.1.symm) S.2.2.2.1 (S.2.2.2.2 _ (List.mem_cons_of_mem _ mk_X5_132)) (S.2.2.2.2 _ (List.mem_cons_of_mem _ sk_JMmin)) (S.2.2.2.2 _ (List.mem_cons_of_mem _ nk_J9)) (S.2.2.2.2 _ (List.mem_cons_of_mem _ ck_JMmin)) (Nat.le_of_ble_eq_true rfl) (Nat.le_of_ble_eq_true rfl) (Nat.zero_le _) (Nat.zero_le _) dX5_token_172 ?_
                    refine lv_eqi (y := nI (dvN v1 (bt tp len e1))) (dv_eq c_146 hv2) ?_
                    refine pf_X5_234 S hK hP hD hS 0 0 rfl rfl (Nat.le_of_ble_eq_true rfl) (mo_7.trans (congrArg (fun z => ([mObj am z] : va_W)) qX_7)) (Bs1 := [[mObj am (qX q (b, e1, 2, dvN v1 (bt tp len e1), ww) mn pt)], [(am 5, .inl (E.2.1, 120, .inl (sg tp 120)))]]) rfl dX5_token_175 (fun H locs hP hD hS => ?_)
                    refine lv_aload_n S.1 S.2.1 dX5_token_178 rfl (lv_at hl 0 rfl) ?_
                    refine lv_dup S.1 S.2.1 dX5_token_179 rfl ?_
                    refine gf_X5_225 S hK hP 0 0 rfl rfl rfl dX5_token_180 ?_
                    refine lv_iconst (v := 1) S.1 S.2.1 dX5_token_183 (by decide) ?_
                    refine lv_iadd S.1 S.2.1 dX5_token_184 ?_
                    refine lv_eqi (y := nI (e1 + 1)) (nI_add e1 1) ?_
                    refine pf_X5_225 S hK hP hD hS 0 0 rfl rfl (Nat.le_of_ble_eq_true rfl) (mo_5.trans (congrArg (fun z => ([mObj am z] : va_W)) qX_5)) (Bs1 := [[mObj am (qX q (b, e1 + 1, 2, dvN v1 (bt tp len e1), ww) mn pt)], [(am 5, .inl (E.2.1, 120, .inl (sg tp 120)))]]) rfl dX5_token_185 (fun H locs hP hD hS => ?_)
                    refine lv_goto (tgt := 131) S.1 S.2.1 dX5_token_188 (by decide) ?_
                    exact ih_131 (e1 + 1) (dvN v1 (bt tp len e1)) (by omega) hb2 (he1.trans (enF_s c_146 hb2)) (hv1.trans (vaF_s c_146 hb2)) (Nat.min_le_left _ _) H locs hP hD hS ls (lv_sub hl [0] rfl)
              exact L_131 (len + 1) b 0 (by omega) hb rfl rfl (by omega) H locs hP hD hS ls (lv_sub hl [1] rfl)
          · refine lv_aload_n S.1 S.2.1 dX5_token_79 rfl (lv_at hl 1 rfl) ?_
            refine lv_iconst (v := 1) S.1 S.2.1 dX5_token_80 (by decide) ?_
            refine pf_X5_237 S hK hP hD hS 0 0 rfl rfl (Nat.le_of_ble_eq_true rfl) (mo_6.trans (congrArg (fun z => ([mObj am z] : va_W)) qX_6)) (Bs1 := [[mObj am (qX q (b, b, 1, 0, ww) mn pt)], [(am 5, .inl (E.2.1, 120, .inl (sg tp 120)))]]) rfl dX5_token_81 (fun H locs hP hD hS => ?_)
            have L_84 : ∀ (fu : Nat) (e1 : Nat), (len < e1 + fu) → (e1 ≤ len) → (enF 97 122 tp len b = enF 97 122 tp len e1) → ∀ (H : Heap) (locs : List Loc), PE E [[mObj am (qX q (b, e1, 1, 0, ww) mn pt)], [(am 5, .inl (E.2.1, 120, .inl (sg tp 120)))]] H → DE (inB [[mObj am (qX q (bb, ee, ss, vv, ww) mn pt)], [(am 5, .inl (E.2.1, 120, .inl (sg tp 120)))]]) [[mObj am (qX q (b, e1, 1, 0, ww) mn pt)], [(am 5, .inl (E.2.1, 120, .inl (sg tp 120)))]] → va_S (inB [[mObj am (qX q (bb, ee, ss, vv, ww) mn pt)], [(am 5, .inl (E.2.1, 120, .inl (sg tp 120)))]]) s.heap H locs → ∀ (ls : Array Slot), lv_has ls 2 [(0, .ref (am 0))] → W p l e ({ frames := 1, cells := 0, slots := 0, locals := 22 }) s m ([.ref (am 0)] : List Value).toArray below meth c H locs 0 0 (MQ below (qV E [[mObj am (qX q (bb, ee, ss, vv, ww) mn pt)], [(am 5, .inl (E.2.1, 120, .inl (sg tp 120)))]] [[mObj am (qX q (tkX tp len ee ww) mn pt)], [(am 5, .inl (E.2.1, 120, .inl (sg tp 120)))]]) ([.ref (am 0)] : List Value).toArray s 0 0 (inB [[mObj am (qX q (bb, ee, ss, vv, ww) mn pt)], [(am 5, .inl (E.2.1, 120, .inl (sg tp 120)))]])) (F0 m 84 ls []) := by
              intro fu
              induction fu with
              | zero =>
                intro e1 hf2 hel he1
                omega
              | succ fu ih_84 =>
                intro e1 hf2 hel he1 H locs hP hD hS ls hl
                refine lv_aload_n S.1 S.2.1 dX5_token_84 rfl (lv_at hl 0 rfl) ?_
                refine lv_aload_n S.1 S.2.1 dX5_token_85 rfl (lv_at hl 0 rfl) ?_
                refine gf_X5_225 S hK hP 0 0 rfl rfl rfl dX5_token_86 ?_
                refine go_S (run_V (As := [.int (nI e1)]) (rest := []) (n := 1) S hK (bl_P hP [0, 1] rfl) (bl_D hD [0, 1] rfl rfl) (c_X5_byteAt l E am q tp len b e1 0 mn pt 1 ww e1 hq3 hl9 (by omega)) gV_X5_231 (by decide +kernel) rfl ⟨rfl, rfl⟩ ⟨Nat.le_of_ble_eq_true rfl, Nat.le_of_ble_eq_true rfl⟩ (ci := 5) (q0 := 0) rfl rfl hl.1 (Nat.le_of_ble_eq_true rfl) dX5_token_89 ⟨Nat.zero_le _, Nat.zero_le _⟩) ?_
                refine lv_bipush (v := 97) S.1 S.2.1 dX5_token_92 (by decide) ?_
                refine lv_bipush (v := 122) S.1 S.2.1 dX5_token_94 (by decide) ?_
                refine go_S (run_S (As := [.int (bt tp len e1), .int 97, .int 122]) (rest := []) (n := 3) S hK (bl_P hP [] rfl) (bl_D hD [] rfl rfl) (c_X5_within l E (bt tp len e1) 97 122 ) gS_X5_70 (by decide +kernel) rfl ⟨rfl, rfl⟩ ⟨Nat.le_of_ble_eq_true rfl, Nat.le_of_ble_eq_true rfl⟩ hl.1 (Nat.le_of_ble_eq_true rfl) dX5_token_96 ⟨Nat.zero_le _, Nat.zero_le _⟩) ?_
                refine b_ifeq (tgt := 206) S.1 S.2.1 dX5_token_99 (by decide) (fun c_99 => ?_) (fun c_99 => ?_)
                · exact retV S hr hlk (by rw [tk_1 eB c_76 (he1.trans (enF_no c_99))]; exact hP) hS dX5_token_206
                · have hb2 : e1 + 1 ≤ len := bt_lo (lo := 97) (by decide) c_99.1
                  refine lv_aload_n S.1 S.2.1 dX5_token_102 rfl (lv_at hl 0 rfl) ?_
                  refine lv_dup S.1 S.2.1 dX5_token_103 rfl ?_
                  refine gf_X5_225 S hK hP 0 0 rfl rfl rfl dX5_token_104 ?_
                  refine lv_iconst (v := 1) S.1 S.2.1 dX5_token_107 (by decide) ?_
                  refine lv_iadd S.1 S.2.1 dX5_token_108 ?_
                  refine lv_eqi (y := nI (e1 + 1)) (nI_add e1 1) ?_
                  refine pf_X5_225 S hK hP hD hS 0 0 rfl rfl (Nat.le_of_ble_eq_true rfl) (mo_5.trans (congrArg (fun z => ([mObj am z] : va_W)) qX_5)) (Bs1 := [[mObj am (qX q (b, e1 + 1, 1, 0, ww) mn pt)], [(am 5, .inl (E.2.1, 120, .inl (sg tp 120)))]]) rfl dX5_token_109 (fun H locs hP hD hS => ?_)
                  refine lv_goto (tgt := 84) S.1 S.2.1 dX5_token_112 (by decide) ?_
                  exact ih_84 (e1 + 1) (by omega) hb2 (he1.trans (enF_s c_99 hb2)) H locs hP hD hS ls (lv_sub hl [0] rfl)
            exact L_84 (len + 1) b (by omega) hb rfl H locs hP hD hS ls (lv_sub hl [1] rfl)
        · have n_57 := Int32.not_le.mp c_57
          refine lv_aload_n S.1 S.2.1 dX5_token_60 rfl (lv_at hl 1 rfl) ?_
          refine lv_iconst (v := 0) S.1 S.2.1 dX5_token_61 (by decide) ?_
          refine pf_X5_237 S hK hP hD hS 0 0 rfl rfl (Nat.le_of_ble_eq_true rfl) (mo_6.trans (congrArg (fun z => ([mObj am z] : va_W)) qX_6)) (Bs1 := [[mObj am (qX q (b, b, 0, 0, ww) mn pt)], [(am 5, .inl (E.2.1, 120, .inl (sg tp 120)))]]) rfl dX5_token_62 (fun H locs hP hD hS => ?_)
          refine lv_goto (tgt := 206) S.1 S.2.1 dX5_token_65 (by decide) ?_
          exact retV S hr hlk (by rw [tk_0 eB n_57]; exact hP) hS dX5_token_206
      · have hb1 : b + 1 ≤ len := bt_lt (x := 32) (by decide) c_18
        refine lv_aload_n S.1 S.2.1 dX5_token_21 rfl (lv_at hl 0 rfl) ?_
        refine lv_dup S.1 S.2.1 dX5_token_22 rfl ?_
        refine gf_X5_228 S hK hP 0 0 rfl rfl rfl dX5_token_23 ?_
        refine lv_iconst (v := 1) S.1 S.2.1 dX5_token_26 (by decide) ?_
        refine lv_iadd S.1 S.2.1 dX5_token_27 ?_
        refine lv_eqi (y := nI (b + 1)) (nI_add b 1) ?_
        refine pf_X5_228 S hK hP hD hS 0 0 rfl rfl (Nat.le_of_ble_eq_true rfl) (mo_4.trans (congrArg (fun z => ([mObj am z] : va_W)) qX_4)) (Bs1 := [[mObj am (qX q (b + 1, ee, ss, vv, ww) mn pt)], [(am 5, .inl (E.2.1, 120, .inl (sg tp 120)))]]) rfl dX5_token_28 (fun H locs hP hD hS => ?_)
        refine lv_goto (tgt := 8) S.1 S.2.1 dX5_token_31 (by decide) ?_
        exact ih_8 (b + 1) hb1 (by omega) (hB.trans (skF_s c_18)) H locs hP hD hS ls (lv_sub hl [0] rfl)
  exact L_8 (len + 1) ee he (by omega) rfl H locs hP hD hS ls (lv_sub hl [0] rfl)
set_option maxHeartbeats 800000 in
set_option maxRecDepth 100000 in
theorem c_X5_isWord (l : Launch) (E : EV) (aS : Nat → Nat) (am : Nat → Nat) (q tp : Row) (len bb ee vv mn pt : Nat) (ss ww : Int32) (w9 : Nat) (hq3 : q 3 = nI len) (hl9 : len ≤ 120) (hw9 : w9 < 12) (hbe : bb ≤ ee) (hee : ee ≤ 120) : Met l yX5_isWord (wq yX5_isWord cX5_isWord 4 (some .boolean)) ({ frames := 4, cells := 0, slots := 0, locals := 85 }) (preX E aS [.ref (am 0), .ref (aS (12 + w9))] [[mObj am (qX q (bb, ee, ss, vv, ww) mn pt)], [(am 5, .inl (E.2.1, 120, .inl (sg tp 120)))]]) (qS (bI (isW tp bb ee ss w9))) 0 0 (fun _ => False) := by
  refine M_mkX RX5 (by decide) rfl (Nat.le_of_ble_eq_true rfl) ?_
  intro p e s m below meth c S hr hlk hK hP hD hS hX ls hl
  have hl : lv_has ls 4 [(0, .ref (am 0)), (1, .ref (aS (12 + w9)))] := hl
  have hwl := tW_len w9 hw9
  refine lv_aload_n S.1 S.2.1 dX5_isWord_0 rfl (lv_at hl 0 rfl) ?_
  refine gf_X5_237 S hK hP 0 0 rfl rfl rfl dX5_isWord_1 ?_
  refine lv_iconst (v := 1) S.1 S.2.1 dX5_isWord_4 (by decide) ?_
  refine lv_icmp_ne (tgt := 28) S.1 S.2.1 dX5_isWord_5 (by decide) (fun c_5 => ?_) (fun c_5 => ?_)
  · refine lv_iconst (v := 0) S.1 S.2.1 dX5_isWord_28 (by decide) ?_
    refine lv_eqi (y := bI (false = true)) rfl ?_
    refine lv_istore_n (lv' := [(2, .int (bI (false = true))), (0, .ref (am 0)), (1, .ref (aS (12 + w9)))]) S.1 S.2.1 dX5_isWord_29 rfl hl (by decide) rfl (fun ls hl => ?_)
    have hz0 : false = (decide (ss = 1 ∧ ee - bb = (tW w9).length) && mtN tp bb (tW w9) 0) := by (rw [decide_eq_false (fun z9 => c_5 z9.1)]; rfl)
    refine lv_iconst (v := 0) S.1 S.2.1 dX5_isWord_30 (by decide) ?_
    refine lv_istore_n (lv' := [(3, .int 0), (2, .int (bI (false = true))), (0, .ref (am 0)), (1, .ref (aS (12 + w9)))]) S.1 S.2.1 dX5_isWord_31 rfl hl (by decide) rfl (fun ls hl => ?_)
    have L_32 : ∀ (fu : Nat) (k : Nat) (z : Bool), (k ≤ (tW w9).length) → ((tW w9).length < k + fu) → (z = (decide (ss = 1 ∧ ee - bb = (tW w9).length) && mtN tp bb (tW w9) k)) → ∀ (ls : Array Slot), lv_has ls 4 [(0, .ref (am 0)), (1, .ref (aS (12 + w9))), (2, .int (bI (z = true))), (3, .int (nI k))] → W p l e ({ frames := 4, cells := 0, slots := 0, locals := 85 }) s m ([.ref (am 0), .ref (aS (12 + w9))] : List Value).toArray below meth c s.heap [] 0 0 (MQ below (qS (bI (isW tp bb ee ss w9))) ([.ref (am 0), .ref (aS (12 + w9))] : List Value).toArray s 0 0 (fun _ => False)) (F0 m 32 ls []) := by
      intro fu
      induction fu with
      | zero =>
        intro k z hk hf hz
        omega
      | succ fu ih_32 =>
        intro k z hk hf hz ls hl
        refine lv_iload_n S.1 S.2.1 dX5_isWord_32 rfl (lv_at hl 3 rfl) ?_
        refine lv_aload_n S.1 S.2.1 dX5_isWord_33 rfl (lv_at hl 1 rfl) ?_
        refine go_S (run_VJ (As := []) (rest := [.int (nI k)]) (n := 0) S pSt_b (str_R (hX.2.1 w9 hw9).2 hS) (str_P hX (hX.2.1 w9 hw9).2 hS) (c_J0_length l (aS (12 + w9)) (tW w9)) gV_X5_240 (by decide +kernel) rfl ⟨rfl, rfl⟩ ⟨Nat.le_of_ble_eq_true rfl, Nat.le_of_ble_eq_true rfl⟩ hl.1 (Nat.le_of_ble_eq_true rfl) dX5_isWord_34 ⟨Nat.zero_le _, Nat.zero_le _⟩) ?_
        refine lv_icmp_ge (tgt := 75) S.1 S.2.1 dX5_isWord_37 (by decide) (fun c_37 => ?_) (fun c_37 => ?_)
        · have n_37 := Int32.not_lt.mpr c_37
          refine lv_iload_n S.1 S.2.1 dX5_isWord_75 rfl (lv_at hl 2 rfl) ?_
          exact retSZ S hr hlk (by cases z <;> rfl) (by rw [hz, le_endK hk c_37 (by omega)]) dX5_isWord_76
        · have n_37 := Int32.not_le.mp c_37
          refine lv_iload_n S.1 S.2.1 dX5_isWord_40 rfl (lv_at hl 2 rfl) ?_
          refine b_ifeq (tgt := 75) S.1 S.2.1 dX5_isWord_41 (by decide) (fun c_41 => ?_) (fun c_41 => ?_)
          · refine lv_iload_n S.1 S.2.1 dX5_isWord_75 rfl (lv_at hl 2 rfl) ?_
            exact retSZ S hr hlk (by cases z <;> rfl) (iw_endn hz c_41 hk) dX5_isWord_76
          · have hkl : k < (tW w9).length := lt_in c_37 hk
            have hin : bb + k < 120 := mt_in hz c_41 hkl (by omega)
            refine lv_aload_n S.1 S.2.1 dX5_isWord_44 rfl (lv_at hl 0 rfl) ?_
            refine gf_X5_22 S hK hP 0 0 rfl rfl rfl dX5_isWord_45 ?_
            refine lv_aload_n S.1 S.2.1 dX5_isWord_48 rfl (lv_at hl 0 rfl) ?_
            refine gf_X5_228 S hK hP 0 0 rfl rfl rfl dX5_isWord_49 ?_
            refine lv_iload_n S.1 S.2.1 dX5_isWord_52 rfl (lv_at hl 3 rfl) ?_
            refine lv_iadd S.1 S.2.1 dX5_isWord_53 ?_
            refine lv_eqi (y := nI (bb + k)) (nI_add bb k) ?_
            refine b_ialdN (i := bb + k) S hK hP 1 0 rfl rfl (by omega) (by decide) dX5_isWord_54 ?_
            refine lv_eqi (y := tp (bb + k)) (sg_at (by omega)) ?_
            refine lv_aload_n S.1 S.2.1 dX5_isWord_55 rfl (lv_at hl 1 rfl) ?_
            refine lv_iload_n S.1 S.2.1 dX5_isWord_56 rfl (lv_at hl 3 rfl) ?_
            refine go_S (run_VJ (As := [.int (nI k)]) (rest := [.int (tp (bb + k))]) (n := 1) S pSt_b (str_R (hX.2.1 w9 hw9).2 hS) (str_P hX (hX.2.1 w9 hw9).2 hS) (c_J0_charAt l (aS (12 + w9)) k (tW w9) (by omega) (by omega)) gV_X5_243 (by decide +kernel) rfl ⟨rfl, rfl⟩ ⟨Nat.le_of_ble_eq_true rfl, Nat.le_of_ble_eq_true rfl⟩ hl.1 (Nat.le_of_ble_eq_true rfl) dX5_isWord_57 ⟨Nat.zero_le _, Nat.zero_le _⟩) ?_
            refine lv_icmp_ne (tgt := 67) S.1 S.2.1 dX5_isWord_60 (by decide) (fun c_60 => ?_) (fun c_60 => ?_)
            · refine lv_iconst (v := 0) S.1 S.2.1 dX5_isWord_67 (by decide) ?_
              refine lv_eqi (y := bI (decide (tp (bb + k) = chr ((tW w9).getD k 0)) = true)) (bI_decn c_60).symm ?_
              refine lv_istore_n (lv' := [(2, .int (bI (decide (tp (bb + k) = chr ((tW w9).getD k 0)) = true))), (0, .ref (am 0)), (1, .ref (aS (12 + w9))), (3, .int (nI k))]) S.1 S.2.1 dX5_isWord_68 rfl hl (by decide) rfl (fun ls hl => ?_)
              refine lv_iinc (v := nI (k + 1)) (lv' := [(3, .int (nI (k + 1))), (2, .int (bI (decide (tp (bb + k) = chr ((tW w9).getD k 0)) = true))), (0, .ref (am 0)), (1, .ref (aS (12 + w9)))]) S.1 S.2.1 dX5_isWord_69 hl (k := 3) rfl (nI_1 k) (by decide) rfl (fun ls hl => ?_)
              refine lv_goto (tgt := 32) S.1 S.2.1 dX5_isWord_72 (by decide) ?_
              exact ih_32 (k + 1) (decide (tp (bb + k) = chr ((tW w9).getD k 0))) (by omega) (by omega) (mt_step hz c_41)  ls (lv_sub hl [2, 3, 1, 0] rfl)
            · refine lv_iconst (v := 1) S.1 S.2.1 dX5_isWord_63 (by decide) ?_
              refine lv_goto (tgt := 68) S.1 S.2.1 dX5_isWord_64 (by decide) ?_
              refine lv_eqi (y := bI (decide (tp (bb + k) = chr ((tW w9).getD k 0)) = true)) (bI_dec c_60).symm ?_
              refine lv_istore_n (lv' := [(2, .int (bI (decide (tp (bb + k) = chr ((tW w9).getD k 0)) = true))), (0, .ref (am 0)), (1, .ref (aS (12 + w9))), (3, .int (nI k))]) S.1 S.2.1 dX5_isWord_68 rfl hl (by decide) rfl (fun ls hl => ?_)
              refine lv_iinc (v := nI (k + 1)) (lv' := [(3, .int (nI (k + 1))), (2, .int (bI (decide (tp (bb + k) = chr ((tW w9).getD k 0)) = true))), (0, .ref (am 0)), (1, .ref (aS (12 + w9)))]) S.1 S.2.1 dX5_isWord_69 hl (k := 3) rfl (nI_1 k) (by decide) rfl (fun ls hl => ?_)
              refine lv_goto (tgt := 32) S.1 S.2.1 dX5_isWord_72 (by decide) ?_
              exact ih_32 (k + 1) (decide (tp (bb + k) = chr ((tW w9).getD k 0))) (by omega) (by omega) (mt_step hz c_41)  ls (lv_sub hl [2, 3, 1, 0] rfl)
    exact L_32 ((tW w9).length + 1) 0 false (by omega) (by omega) hz0  ls (lv_sub hl [2, 3, 1, 0] rfl)
  · refine lv_aload_n S.1 S.2.1 dX5_isWord_8 rfl (lv_at hl 0 rfl) ?_
    refine gf_X5_225 S hK hP 0 0 rfl rfl rfl dX5_isWord_9 ?_
    refine lv_aload_n S.1 S.2.1 dX5_isWord_12 rfl (lv_at hl 0 rfl) ?_
    refine gf_X5_228 S hK hP 0 0 rfl rfl rfl dX5_isWord_13 ?_
    refine lv_isub S.1 S.2.1 dX5_isWord_16 ?_
    refine lv_eqi (y := nI (ee - bb)) (nI_sub hbe) ?_
    refine lv_aload_n S.1 S.2.1 dX5_isWord_17 rfl (lv_at hl 1 rfl) ?_
    refine go_S (run_VJ (As := []) (rest := [.int (nI (ee - bb))]) (n := 0) S pSt_b (str_R (hX.2.1 w9 hw9).2 hS) (str_P hX (hX.2.1 w9 hw9).2 hS) (c_J0_length l (aS (12 + w9)) (tW w9)) gV_X5_240 (by decide +kernel) rfl ⟨rfl, rfl⟩ ⟨Nat.le_of_ble_eq_true rfl, Nat.le_of_ble_eq_true rfl⟩ hl.1 (Nat.le_of_ble_eq_true rfl) dX5_isWord_18 ⟨Nat.zero_le _, Nat.zero_le _⟩) ?_
    refine lv_icmp_ne (tgt := 28) S.1 S.2.1 dX5_isWord_21 (by decide) (fun c_21 => ?_) (fun c_21 => ?_)
    · refine lv_iconst (v := 0) S.1 S.2.1 dX5_isWord_28 (by decide) ?_
      refine lv_eqi (y := bI (false = true)) rfl ?_
      refine lv_istore_n (lv' := [(2, .int (bI (false = true))), (0, .ref (am 0)), (1, .ref (aS (12 + w9)))]) S.1 S.2.1 dX5_isWord_29 rfl hl (by decide) rfl (fun ls hl => ?_)
      have hz0 : false = (decide (ss = 1 ∧ ee - bb = (tW w9).length) && mtN tp bb (tW w9) 0) := by (rw [decide_eq_false (fun z9 => c_21 (congrArg nI z9.2))]; rfl)
      refine lv_iconst (v := 0) S.1 S.2.1 dX5_isWord_30 (by decide) ?_
      refine lv_istore_n (lv' := [(3, .int 0), (2, .int (bI (false = true))), (0, .ref (am 0)), (1, .ref (aS (12 + w9)))]) S.1 S.2.1 dX5_isWord_31 rfl hl (by decide) rfl (fun ls hl => ?_)
      have L_32 : ∀ (fu : Nat) (k : Nat) (z : Bool), (k ≤ (tW w9).length) → ((tW w9).length < k + fu) → (z = (decide (ss = 1 ∧ ee - bb = (tW w9).length) && mtN tp bb (tW w9) k)) → ∀ (ls : Array Slot), lv_has ls 4 [(0, .ref (am 0)), (1, .ref (aS (12 + w9))), (2, .int (bI (z = true))), (3, .int (nI k))] → W p l e ({ frames := 4, cells := 0, slots := 0, locals := 85 }) s m ([.ref (am 0), .ref (aS (12 + w9))] : List Value).toArray below meth c s.heap [] 0 0 (MQ below (qS (bI (isW tp bb ee ss w9))) ([.ref (am 0), .ref (aS (12 + w9))] : List Value).toArray s 0 0 (fun _ => False)) (F0 m 32 ls []) := by
        intro fu
        induction fu with
        | zero =>
          intro k z hk hf hz
          omega
        | succ fu ih_32 =>
          intro k z hk hf hz ls hl
          refine lv_iload_n S.1 S.2.1 dX5_isWord_32 rfl (lv_at hl 3 rfl) ?_
          refine lv_aload_n S.1 S.2.1 dX5_isWord_33 rfl (lv_at hl 1 rfl) ?_
          refine go_S (run_VJ (As := []) (rest := [.int (nI k)]) (n := 0) S pSt_b (str_R (hX.2.1 w9 hw9).2 hS) (str_P hX (hX.2.1 w9 hw9).2 hS) (c_J0_length l (aS (12 + w9)) (tW w9)) gV_X5_240 (by decide +kernel) rfl ⟨rfl, rfl⟩ ⟨Nat.le_of_ble_eq_true rfl, Nat.le_of_ble_eq_true rfl⟩ hl.1 (Nat.le_of_ble_eq_true rfl) dX5_isWord_34 ⟨Nat.zero_le _, Nat.zero_le _⟩) ?_
          refine lv_icmp_ge (tgt := 75) S.1 S.2.1 dX5_isWord_37 (by decide) (fun c_37 => ?_) (fun c_37 => ?_)
          · have n_37 := Int32.not_lt.mpr c_37
            refine lv_iload_n S.1 S.2.1 dX5_isWord_75 rfl (lv_at hl 2 rfl) ?_
            exact retSZ S hr hlk (by cases z <;> rfl) (by rw [hz, le_endK hk c_37 (by omega)]) dX5_isWord_76
          · have n_37 := Int32.not_le.mp c_37
            refine lv_iload_n S.1 S.2.1 dX5_isWord_40 rfl (lv_at hl 2 rfl) ?_
            refine b_ifeq (tgt := 75) S.1 S.2.1 dX5_isWord_41 (by decide) (fun c_41 => ?_) (fun c_41 => ?_)
            · refine lv_iload_n S.1 S.2.1 dX5_isWord_75 rfl (lv_at hl 2 rfl) ?_
              exact retSZ S hr hlk (by cases z <;> rfl) (iw_endn hz c_41 hk) dX5_isWord_76
            · have hkl : k < (tW w9).length := lt_in c_37 hk
              have hin : bb + k < 120 := mt_in hz c_41 hkl (by omega)
              refine lv_aload_n S.1 S.2.1 dX5_isWord_44 rfl (lv_at hl 0 rfl) ?_
              refine gf_X5_22 S hK hP 0 0 rfl rfl rfl dX5_isWord_45 ?_
              refine lv_aload_n S.1 S.2.1 dX5_isWord_48 rfl (lv_at hl 0 rfl) ?_
              refine gf_X5_228 S hK hP 0 0 rfl rfl rfl dX5_isWord_49 ?_
              refine lv_iload_n S.1 S.2.1 dX5_isWord_52 rfl (lv_at hl 3 rfl) ?_
              refine lv_iadd S.1 S.2.1 dX5_isWord_53 ?_
              refine lv_eqi (y := nI (bb + k)) (nI_add bb k) ?_
              refine b_ialdN (i := bb + k) S hK hP 1 0 rfl rfl (by omega) (by decide) dX5_isWord_54 ?_
              refine lv_eqi (y := tp (bb + k)) (sg_at (by omega)) ?_
              refine lv_aload_n S.1 S.2.1 dX5_isWord_55 rfl (lv_at hl 1 rfl) ?_
              refine lv_iload_n S.1 S.2.1 dX5_isWord_56 rfl (lv_at hl 3 rfl) ?_
              refine go_S (run_VJ (As := [.int (nI k)]) (rest := [.int (tp (bb + k))]) (n := 1) S pSt_b (str_R (hX.2.1 w9 hw9).2 hS) (str_P hX (hX.2.1 w9 hw9).2 hS) (c_J0_charAt l (aS (12 + w9)) k (tW w9) (by omega) (by omega)) gV_X5_243 (by decide +kernel) rfl ⟨rfl, rfl⟩ ⟨Nat.le_of_ble_eq_true rfl, Nat.le_of_ble_eq_true rfl⟩ hl.1 (Nat.le_of_ble_eq_true rfl) dX5_isWord_57 ⟨Nat.zero_le _, Nat.zero_le _⟩) ?_
              refine lv_icmp_ne (tgt := 67) S.1 S.2.1 dX5_isWord_60 (by decide) (fun c_60 => ?_) (fun c_60 => ?_)
              · refine lv_iconst (v := 0) S.1 S.2.1 dX5_isWord_67 (by decide) ?_
                refine lv_eqi (y := bI (decide (tp (bb + k) = chr ((tW w9).getD k 0)) = true)) (bI_decn c_60).symm ?_
                refine lv_istore_n (lv' := [(2, .int (bI (decide (tp (bb + k) = chr ((tW w9).getD k 0)) = true))), (0, .ref (am 0)), (1, .ref (aS (12 + w9))), (3, .int (nI k))]) S.1 S.2.1 dX5_isWord_68 rfl hl (by decide) rfl (fun ls hl => ?_)
                refine lv_iinc (v := nI (k + 1)) (lv' := [(3, .int (nI (k + 1))), (2, .int (bI (decide (tp (bb + k) = chr ((tW w9).getD k 0)) = true))), (0, .ref (am 0)), (1, .ref (aS (12 + w9)))]) S.1 S.2.1 dX5_isWord_69 hl (k := 3) rfl (nI_1 k) (by decide) rfl (fun ls hl => ?_)
                refine lv_goto (tgt := 32) S.1 S.2.1 dX5_isWord_72 (by decide) ?_
                exact ih_32 (k + 1) (decide (tp (bb + k) = chr ((tW w9).getD k 0))) (by omega) (by omega) (mt_step hz c_41)  ls (lv_sub hl [2, 3, 1, 0] rfl)
              · refine lv_iconst (v := 1) S.1 S.2.1 dX5_isWord_63 (by decide) ?_
                refine lv_goto (tgt := 68) S.1 S.2.1 dX5_isWord_64 (by decide) ?_
                refine lv_eqi (y := bI (decide (tp (bb + k) = chr ((tW w9).getD k 0)) = true)) (bI_dec c_60).symm ?_
                refine lv_istore_n (lv' := [(2, .int (bI (decide (tp (bb + k) = chr ((tW w9).getD k 0)) = true))), (0, .ref (am 0)), (1, .ref (aS (12 + w9))), (3, .int (nI k))]) S.1 S.2.1 dX5_isWord_68 rfl hl (by decide) rfl (fun ls hl => ?_)
                refine lv_iinc (v := nI (k + 1)) (lv' := [(3, .int (nI (k + 1))), (2, .int (bI (decide (tp (bb + k) = chr ((tW w9).getD k 0)) = true))), (0, .ref (am 0)), (1, .ref (aS (12 + w9)))]) S.1 S.2.1 dX5_isWord_69 hl (k := 3) rfl (nI_1 k) (by decide) rfl (fun ls hl => ?_)
                refine lv_goto (tgt := 32) S.1 S.2.1 dX5_isWord_72 (by decide) ?_
                exact ih_32 (k + 1) (decide (tp (bb + k) = chr ((tW w9).getD k 0))) (by omega) (by omega) (mt_step hz c_41)  ls (lv_sub hl [2, 3, 1, 0] rfl)
      exact L_32 ((tW w9).length + 1) 0 false (by omega) (by omega) hz0  ls (lv_sub hl [2, 3, 1, 0] rfl)
    · refine lv_iconst (v := 1) S.1 S.2.1 dX5_isWord_24 (by decide) ?_
      refine lv_goto (tgt := 29) S.1 S.2.1 dX5_isWord_25 (by decide) ?_
      refine lv_eqi (y := bI (true = true)) rfl ?_
      refine lv_istore_n (lv' := [(2, .int (bI (true = true))), (0, .ref (am 0)), (1, .ref (aS (12 + w9)))]) S.1 S.2.1 dX5_isWord_29 rfl hl (by decide) rfl (fun ls hl => ?_)
      have hz0 : true = (decide (ss = 1 ∧ ee - bb = (tW w9).length) && mtN tp bb (tW w9) 0) := by (rw [decide_eq_true ⟨c_5, (nI_eq (by omega) (by omega)).mp c_21⟩]; rfl)
      refine lv_iconst (v := 0) S.1 S.2.1 dX5_isWord_30 (by decide) ?_
      refine lv_istore_n (lv' := [(3, .int 0), (2, .int (bI (true = true))), (0, .ref (am 0)), (1, .ref (aS (12 + w9)))]) S.1 S.2.1 dX5_isWord_31 rfl hl (by decide) rfl (fun ls hl => ?_)
      have L_32 : ∀ (fu : Nat) (k : Nat) (z : Bool), (k ≤ (tW w9).length) → ((tW w9).length < k + fu) → (z = (decide (ss = 1 ∧ ee - bb = (tW w9).length) && mtN tp bb (tW w9) k)) → ∀ (ls : Array Slot), lv_has ls 4 [(0, .ref (am 0)), (1, .ref (aS (12 + w9))), (2, .int (bI (z = true))), (3, .int (nI k))] → W p l e ({ frames := 4, cells := 0, slots := 0, locals := 85 }) s m ([.ref (am 0), .ref (aS (12 + w9))] : List Value).toArray below meth c s.heap [] 0 0 (MQ below (qS (bI (isW tp bb ee ss w9))) ([.ref (am 0), .ref (aS (12 + w9))] : List Value).toArray s 0 0 (fun _ => False)) (F0 m 32 ls []) := by
        intro fu
        induction fu with
        | zero =>
          intro k z hk hf hz
          omega
        | succ fu ih_32 =>
          intro k z hk hf hz ls hl
          refine lv_iload_n S.1 S.2.1 dX5_isWord_32 rfl (lv_at hl 3 rfl) ?_
          refine lv_aload_n S.1 S.2.1 dX5_isWord_33 rfl (lv_at hl 1 rfl) ?_
          refine go_S (run_VJ (As := []) (rest := [.int (nI k)]) (n := 0) S pSt_b (str_R (hX.2.1 w9 hw9).2 hS) (str_P hX (hX.2.1 w9 hw9).2 hS) (c_J0_length l (aS (12 + w9)) (tW w9)) gV_X5_240 (by decide +kernel) rfl ⟨rfl, rfl⟩ ⟨Nat.le_of_ble_eq_true rfl, Nat.le_of_ble_eq_true rfl⟩ hl.1 (Nat.le_of_ble_eq_true rfl) dX5_isWord_34 ⟨Nat.zero_le _, Nat.zero_le _⟩) ?_
          refine lv_icmp_ge (tgt := 75) S.1 S.2.1 dX5_isWord_37 (by decide) (fun c_37 => ?_) (fun c_37 => ?_)
          · have n_37 := Int32.not_lt.mpr c_37
            refine lv_iload_n S.1 S.2.1 dX5_isWord_75 rfl (lv_at hl 2 rfl) ?_
            exact retSZ S hr hlk (by cases z <;> rfl) (by rw [hz, le_endK hk c_37 (by omega)]) dX5_isWord_76
          · have n_37 := Int32.not_le.mp c_37
            refine lv_iload_n S.1 S.2.1 dX5_isWord_40 rfl (lv_at hl 2 rfl) ?_
            refine b_ifeq (tgt := 75) S.1 S.2.1 dX5_isWord_41 (by decide) (fun c_41 => ?_) (fun c_41 => ?_)
            · refine lv_iload_n S.1 S.2.1 dX5_isWord_75 rfl (lv_at hl 2 rfl) ?_
              exact retSZ S hr hlk (by cases z <;> rfl) (iw_endn hz c_41 hk) dX5_isWord_76
            · have hkl : k < (tW w9).length := lt_in c_37 hk
              have hin : bb + k < 120 := mt_in hz c_41 hkl (by omega)
              refine lv_aload_n S.1 S.2.1 dX5_isWord_44 rfl (lv_at hl 0 rfl) ?_
              refine gf_X5_22 S hK hP 0 0 rfl rfl rfl dX5_isWord_45 ?_
              refine lv_aload_n S.1 S.2.1 dX5_isWord_48 rfl (lv_at hl 0 rfl) ?_
              refine gf_X5_228 S hK hP 0 0 rfl rfl rfl dX5_isWord_49 ?_
              refine lv_iload_n S.1 S.2.1 dX5_isWord_52 rfl (lv_at hl 3 rfl) ?_
              refine lv_iadd S.1 S.2.1 dX5_isWord_53 ?_
              refine lv_eqi (y := nI (bb + k)) (nI_add bb k) ?_
              refine b_ialdN (i := bb + k) S hK hP 1 0 rfl rfl (by omega) (by decide) dX5_isWord_54 ?_
              refine lv_eqi (y := tp (bb + k)) (sg_at (by omega)) ?_
              refine lv_aload_n S.1 S.2.1 dX5_isWord_55 rfl (lv_at hl 1 rfl) ?_
              refine lv_iload_n S.1 S.2.1 dX5_isWord_56 rfl (lv_at hl 3 rfl) ?_
              refine go_S (run_VJ (As := [.int (nI k)]) (rest := [.int (tp (bb + k))]) (n := 1) S pSt_b (str_R (hX.2.1 w9 hw9).2 hS) (str_P hX (hX.2.1 w9 hw9).2 hS) (c_J0_charAt l (aS (12 + w9)) k (tW w9) (by omega) (by omega)) gV_X5_243 (by decide +kernel) rfl ⟨rfl, rfl⟩ ⟨Nat.le_of_ble_eq_true rfl, Nat.le_of_ble_eq_true rfl⟩ hl.1 (Nat.le_of_ble_eq_true rfl) dX5_isWord_57 ⟨Nat.zero_le _, Nat.zero_le _⟩) ?_
              refine lv_icmp_ne (tgt := 67) S.1 S.2.1 dX5_isWord_60 (by decide) (fun c_60 => ?_) (fun c_60 => ?_)
              · refine lv_iconst (v := 0) S.1 S.2.1 dX5_isWord_67 (by decide) ?_
                refine lv_eqi (y := bI (decide (tp (bb + k) = chr ((tW w9).getD k 0)) = true)) (bI_decn c_60).symm ?_
                refine lv_istore_n (lv' := [(2, .int (bI (decide (tp (bb + k) = chr ((tW w9).getD k 0)) = true))), (0, .ref (am 0)), (1, .ref (aS (12 + w9))), (3, .int (nI k))]) S.1 S.2.1 dX5_isWord_68 rfl hl (by decide) rfl (fun ls hl => ?_)
                refine lv_iinc (v := nI (k + 1)) (lv' := [(3, .int (nI (k + 1))), (2, .int (bI (decide (tp (bb + k) = chr ((tW w9).getD k 0)) = true))), (0, .ref (am 0)), (1, .ref (aS (12 + w9)))]) S.1 S.2.1 dX5_isWord_69 hl (k := 3) rfl (nI_1 k) (by decide) rfl (fun ls hl => ?_)
                refine lv_goto (tgt := 32) S.1 S.2.1 dX5_isWord_72 (by decide) ?_
                exact ih_32 (k + 1) (decide (tp (bb + k) = chr ((tW w9).getD k 0))) (by omega) (by omega) (mt_step hz c_41)  ls (lv_sub hl [2, 3, 1, 0] rfl)
              · refine lv_iconst (v := 1) S.1 S.2.1 dX5_isWord_63 (by decide) ?_
                refine lv_goto (tgt := 68) S.1 S.2.1 dX5_isWord_64 (by decide) ?_
                refine lv_eqi (y := bI (decide (tp (bb + k) = chr ((tW w9).getD k 0)) = true)) (bI_dec c_60).symm ?_
                refine lv_istore_n (lv' := [(2, .int (bI (decide (tp (bb + k) = chr ((tW w9).getD k 0)) = true))), (0, .ref (am 0)), (1, .ref (aS (12 + w9))), (3, .int (nI k))]) S.1 S.2.1 dX5_isWord_68 rfl hl (by decide) rfl (fun ls hl => ?_)
                refine lv_iinc (v := nI (k + 1)) (lv' := [(3, .int (nI (k + 1))), (2, .int (bI (decide (tp (bb + k) = chr ((tW w9).getD k 0)) = true))), (0, .ref (am 0)), (1, .ref (aS (12 + w9)))]) S.1 S.2.1 dX5_isWord_69 hl (k := 3) rfl (nI_1 k) (by decide) rfl (fun ls hl => ?_)
                refine lv_goto (tgt := 32) S.1 S.2.1 dX5_isWord_72 (by decide) ?_
                exact ih_32 (k + 1) (decide (tp (bb + k) = chr ((tW w9).getD k 0))) (by omega) (by omega) (mt_step hz c_41)  ls (lv_sub hl [2, 3, 1, 0] rfl)
      exact L_32 ((tW w9).length + 1) 0 true (by omega) (by omega) hz0  ls (lv_sub hl [2, 3, 1, 0] rfl)
