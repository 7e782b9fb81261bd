abbrev Ys : Type := Nat × Nat × Nat × Nat
def rdY (ag : Nat → Nat) (len : Nat) (Y : Ys) : Nat × va_E := rdO ag (nI len) (nI Y.2.2.1) (nI Y.1) (nI Y.2.1) (nI Y.2.2.2)
theorem ry_ad {ag : Nat → Nat} {len len2 : Nat} {Y Z : Ys} : ([rdY ag len Y] : va_W).map Prod.fst = ([rdY ag len2 Z] : va_W).map Prod.fst := rfl
section RY
variable {p : Program} {l : Launch} {e : Env} {R : Room} {s : State} {m : MethodId} {args : Array Value} {below : List Frame} {meth : Method} {c : Code} {H H0 : Heap} {locs : List Loc} {cells slots : Nat} {Q : State → Prop} {cc : ByteArray} {nL pc : Nat} {ls : Array Slot} {rest : List Value} {c0 : Cond} {own : String} {E : EV}
variable {y : MethodName} {bytes : ByteArray} {maxL : Nat} {ret : Option FieldType} {rm : Room} {Qc : Array Value → State → Outcome → State → Prop} {free : Addr → Prop} {idx n : Nat} {As : List Value} {host : String}
theorem go_Pr {v : Nat} {st0 : List Value} {av : Array Value} (hr : va_Run p l e R s m args below meth c H locs cells slots 0 0 (F0 m pc ls st0) rest (qP (some (.ref v)) av) nA) (kk : W p l e R s m args below meth c H locs cells slots Q (F0 m (pc + 3) ls (.ref v :: rest))) : W p l e R s m args below meth c H locs cells slots Q (F0 m pc ls st0) := go_P hr kk
theorem run_SN (S : CallFix p m c cc nL s args (c0 :: GW) own) (hl : va_Nw (.methodLinkNest own idx y host) s) (hK : KE E s) (hM : Met l y (wq y bytes maxL ret) rm (preB E As []) Qc 0 0 free) (h1 : Cond.code y bytes maxL ret ∈ GW) (h2 : Cond.initialized y.cls ∈ GW) (h3 : Cond.static y ∈ GW) (hd : y.cls ≠ "java/lang/invoke/MethodHandle" ∧ y.cls ≠ "java/lang/invoke/VarHandle" ∧ (parseMethodDescriptor y.desc).map (fun d => d.parameters.length) = some n) (hn : As.length = n) (hrm : rm.cells = 0 ∧ rm.slots = 0) (hR : rm.frames + 1 ≤ R.frames ∧ 8 + (maxL + 11) + rm.locals ≤ R.locals) (hsz : ls.size = nL) (hrest : (rest.map fun v => v.category).sum ≤ 8) (hdg : decode cc pc = .ok (.invokestatic idx, 3)) (hcs : cells ≤ R.cells ∧ slots ≤ R.slots) : va_Run p l e R s m args below meth c H locs cells slots 0 0 (F0 m pc ls (As.reverse ++ rest)) rest (Qc As.toArray) free := by
  have tb : ∀ w ∈ GW, w.before args s = true := fun w h => S.2.2.2.2 w (List.mem_cons_of_mem _ h)
  have hG : GoodIn (c0 :: GW) (wq y bytes maxL ret) := good_gw (fun w hw => by
    rcases List.mem_cons.mp hw with rfl | h
    · exact h1
    · exact h)
  refine va_runSN (As := As) (rest := rest) (host := host) S hM ⟨va_cnB n S.2.2.2.2 hG rfl hrm.1 hrm.2 hl (tb _ h2) hd hR, tb _ h3, trivial⟩ ⟨preB_blind, fun U hU hW => ⟨rfl, ?_, va_K.moved hW.alike hK, ?_⟩⟩ rfl hn hsz rfl (lv_room hrest) hdg hcs
  · intro k q hk
    exact absurd hk (by simp)
  · exact ⟨fun i j a b hi => absurd hi (by simp), fun k q hk => absurd hk (by simp)⟩
end RY
/-! the tape of the class against that of the reference -/
def TR (tp tb : Row) (len : Nat) : Prop := ∀ j, j < len → (∃ k : Nat, k < 128 ∧ tp j = nI k ∧ tb j = nI k) ∨ (∃ k : Nat, 128 ≤ k ∧ k ≤ 255 ∧ tp j = nI k ∧ tb j < 0)
theorem bt_in {tp : Row} {len b : Nat} (h : b + 1 ≤ len) : bt tp len b = tp b := if_pos h
theorem tr_eq {tp tb : Row} {len j m : Nat} (hT : TR tp tb len) (hj : j + 1 ≤ len) (hm : m < 128) : tb j = nI m ↔ tp j = nI m := by
  rcases hT j hj with ⟨k, hk, e1, e2⟩ | ⟨k, h1, h2, e1, e2⟩
  · rw [e1, e2]
  · rw [e1]
    refine ⟨fun q => ?_, fun q => ?_⟩
    · rw [q] at e2; exact absurd e2 (nI_pos (by omega))
    · have := (nI_eq (by omega) (by omega)).mp q; omega
theorem bt_32 {tp tb : Row} {len b : Nat} (hT : TR tp tb len) (hb : b + 1 ≤ len) (h : tb b = 32) : bt tp len b = 32 := by
  rw [bt_in hb]
  exact (tr_eq (m := 32) hT hb (by decide)).mp h
theorem tr_32 {tp tb : Row} {len b : Nat} (hT : TR tp tb len) (hb : b + 1 ≤ len) (h : bt tp len b = 32) : tb b = 32 := by
  rw [bt_in hb] at h
  exact (tr_eq (m := 32) hT hb (by decide)).mpr h
def soV (v : Int32) : Int32 := if 97 ≤ v ∧ v ≤ 122 then 1 else if 48 ≤ v ∧ v ≤ 57 then 2 else if v = 59 then 3 else 4
theorem so_1 {v : Int32} (h1 : ¬ v < 97) (h2 : ¬ 122 < v) : 1 = soV v := (if_pos ⟨Int32.not_lt.mp h1, Int32.not_lt.mp h2⟩).symm
theorem so_2 {v : Int32} (h : ¬ (97 ≤ v ∧ v ≤ 122)) (h1 : ¬ v < 48) (h2 : ¬ 57 < v) : 2 = soV v := by
  unfold soV
  rw [if_neg h, if_pos ⟨Int32.not_lt.mp h1, Int32.not_lt.mp h2⟩]
theorem so_3 {v : Int32} (h : ¬ (97 ≤ v ∧ v ≤ 122)) (h2 : ¬ (48 ≤ v ∧ v ≤ 57)) (h3 : v = 59) : 3 = soV v := by
  unfold soV
  rw [if_neg h, if_neg h2, if_pos h3]
theorem so_4 {v : Int32} (h : ¬ (97 ≤ v ∧ v ≤ 122)) (h2 : ¬ (48 ≤ v ∧ v ≤ 57)) (h3 : ¬ v = 59) : 4 = soV v := by
  unfold soV
  rw [if_neg h, if_neg h2, if_neg h3]
theorem so_srt {tp tb : Row} {len b : Nat} (hT : TR tp tb len) (hb : b + 1 ≤ len) : soV (tb b) = nI (srt (bt tp len b)) := by
  rw [bt_in hb]
  rcases hT b hb with ⟨k, hk, e1, e2⟩ | ⟨k, h1, h2, e1, e2⟩
  · rw [e1, e2]
    unfold soV srt
    rw [if_neg (nI_pos (by omega))]
    split
    · rfl
    · split
      · rfl
      · split <;> rfl
  · rw [e1]
    have a1 : soV (tb b) = 4 := (so_4 (fun q => absurd (Int32.lt_of_le_of_lt q.1 e2) (by decide)) (fun q => absurd (Int32.lt_of_le_of_lt q.1 e2) (by decide)) (fun q => by rw [q] at e2; exact absurd e2 (by decide))).symm
    have a2 : srt (nI k) = 4 := by
      unfold srt
      rw [if_neg (nI_pos (by omega)), if_neg (fun q => absurd (le_of_nI (b := 122) q.2 (by omega) (by decide)) (by omega)), if_neg (fun q => absurd (le_of_nI (b := 57) q.2 (by omega) (by decide)) (by omega)), if_neg (show ¬ nI k = 59 from fun q => absurd ((nI_eq (a := k) (b := 59) (by omega) (by decide)).mp q) (by omega))]
    rw [a1, a2]
    rfl
theorem srt_le (x : Int32) : srt x ≤ 4 := by
  unfold srt
  repeat' split
  all_goals decide
theorem srt_small (x : Int32) : srt x < 2147483648 := Nat.lt_of_le_of_lt (srt_le x) (by decide)
theorem srt_0 {tp tb : Row} {len b : Nat} (hT : TR tp tb len) (hb : b + 1 ≤ len) : ¬ srt (bt tp len b) = 0 := by
  rw [bt_in hb]
  have h : ¬ tp b < 0 := by
    rcases hT b hb with ⟨k, hk, e1, e2⟩ | ⟨k, h1, h2, e1, e2⟩ <;> rw [e1] <;> exact nI_pos (by omega)
  unfold srt
  rw [if_neg h]
  repeat' split
  all_goals decide
theorem rg_1 {x : Int32} (h : srt x = 1) : 97 ≤ x ∧ x ≤ 122 := by
  unfold srt at h
  by_cases c : x < 0
  · rw [if_pos c] at h; exact absurd h (by decide)
  · rw [if_neg c] at h
    by_cases c2 : 97 ≤ x ∧ x ≤ 122
    · exact c2
    · rw [if_neg c2] at h
      by_cases c3 : 48 ≤ x ∧ x ≤ 57
      · rw [if_pos c3] at h; exact absurd h (by decide)
      · rw [if_neg c3] at h
        split at h <;> exact absurd h (by decide)
theorem rg_2 {x : Int32} (h : srt x = 2) : 48 ≤ x ∧ x ≤ 57 := by
  unfold srt at h
  by_cases c : x < 0
  · rw [if_pos c] at h; exact absurd h (by decide)
  · rw [if_neg c] at h
    by_cases c2 : 97 ≤ x ∧ x ≤ 122
    · rw [if_pos c2] at h; exact absurd h (by decide)
    · rw [if_neg c2] at h
      by_cases c3 : 48 ≤ x ∧ x ≤ 57
      · exact c3
      · rw [if_neg c3] at h
        split at h <;> exact absurd h (by decide)
theorem srt_1 {x : Int32} (h : 97 ≤ x ∧ x ≤ 122) : srt x = 1 := by rw [srt, if_neg (fun z => absurd (Int32.lt_of_le_of_lt h.1 z) (by decide)), if_pos h]
theorem srt_2 {x : Int32} (h : 48 ≤ x ∧ x ≤ 57) : srt x = 2 := by rw [srt, if_neg (fun z => absurd (Int32.lt_of_le_of_lt h.1 z) (by decide)), if_neg (fun z => absurd (Int32.le_trans z.1 h.2) (by decide)), if_pos h]
theorem rg_no1 {x : Int32} (h : ¬ srt x = 1) : ¬ (97 ≤ x ∧ x ≤ 122) := fun q => h (srt_1 q)
theorem rg_no2 {x : Int32} (h : ¬ srt x = 2) : ¬ (48 ≤ x ∧ x ≤ 57) := fun q => h (srt_2 q)
theorem rg_out1 {tp : Row} {len k : Nat} (h : nI len ≤ nI k) (h1 : len < 2147483648) (h2 : k < 2147483648) : ¬ (97 ≤ bt tp len k ∧ bt tp len k ≤ 122) := by
  rw [bt_out h h1 h2]
  decide
theorem rg_out2 {tp : Row} {len k : Nat} (h : nI len ≤ nI k) (h1 : len < 2147483648) (h2 : k < 2147483648) : ¬ (48 ≤ bt tp len k ∧ bt tp len k ≤ 57) := by
  rw [bt_out h h1 h2]
  decide
theorem dv_eqC {tp tb : Row} {len e v : Nat} (hT : TR tp tb len) (he : e + 1 ≤ len) (h : 48 ≤ bt tp len e ∧ bt tp len e ≤ 57) (hv : v ≤ 1000) : (if 1000 < nI (10 * v) + (tb e - 48) then 1000 else nI (10 * v) + (tb e - 48)) = nI (dvN v (bt tp len e)) := by
  obtain ⟨k, h1, h2, ek⟩ := of_rng (lo := 48) (hi := 57) (by decide) (by decide) h
  have e2 : tb e = nI k := (tr_eq hT he (by omega)).mpr (by rw [← bt_in (tp := tp) he]; exact ek)
  rw [ek, e2]
  have e3 : nI k - 48 = nI (k - 48) := nI_sub (a := k) (b := 48) h1
  rw [e3, nI_add, dvN, tN, nI_clamp (by omega)]
  by_cases hc : 1000 < 10 * v + (k - 48)
  · rw [if_pos (show (1000 : Int32) < _ from nI_lt (a := 1000) hc (by omega)), show min 1000 (10 * v + (k - 48)) = 1000 by omega]
    rfl
  · rw [if_neg (show ¬ (1000 : Int32) < _ from Int32.not_lt.mpr (nI_le (b := 1000) (by omega) (by decide))), show min 1000 (10 * v + (k - 48)) = 10 * v + (k - 48) by omega]
theorem tkc_0 {tp : Row} {len k b : Nat} (hb : skF tp len k = b) (h : srt (bt tp len b) = 0) : tkF tp len k = (b, b, 0, 0) := by
  unfold tkF
  rw [hb, if_pos h]
theorem tkc_1 {tp : Row} {len k b e1 : Nat} (hb : skF tp len k = b) (h : srt (bt tp len b) = 1) (he : enF 97 122 tp len b = e1) : tkF tp len k = (b, e1, 1, 0) := by
  unfold tkF
  rw [hb, h, he]
  rfl
theorem tkc_2 {tp : Row} {len k b e1 v1 : Nat} (hb : skF tp len k = b) (h : srt (bt tp len b) = 2) (he : enF 48 57 tp len b = e1) (hv : vaF tp len b 0 = v1) : tkF tp len k = (b, e1, 2, v1) := by
  unfold tkF
  rw [hb, h, he, hv]
  rfl
theorem tkc_3 {tp : Row} {len k b s : Nat} (hb : skF tp len k = b) (h : srt (bt tp len b) = s) (h1 : ¬ s = 1) (h2 : ¬ s = 2) (h0 : ¬ s = 0) : tkF tp len k = (b, b + 1, s, 0) := by
  unfold tkF
  rw [hb, h, if_neg h0, if_neg h1, if_neg h2]
/-! numbers, words of the class's reading -/
abbrev YI (len : Nat) (Y : Ys) : Prop := Y.1 ≤ Y.2.1 ∧ Y.2.1 ≤ len ∧ Y.2.2.2 ≤ 1000 ∧ Y.2.2.1 ≤ 4
theorem tk_s {tp : Row} {len k : Nat} : (tkF tp len k).2.2.1 = srt (bt tp len (tkF tp len k).1) := by
  unfold tkF
  split
  · rename_i h; exact h.symm
  · split
    · rename_i h; exact h.symm
    · split
      · rename_i h; exact h.symm
      · rfl
theorem tk_Y {tp : Row} {len k : Nat} (h : k ≤ len) : YI len (tkF tp len k) := by
  have h1 := (tk_I (tp := tp) 0 h).1
  refine ⟨h1.1, h1.2.1, h1.2.2.2, ?_⟩
  rw [tk_s]
  exact srt_le _
abbrev okY (Y : Ys) (M : Nat) : Prop := Y.2.2.1 = 2 ∧ Y.2.2.2 ≤ M
def nx (tp : Row) (len : Nat) (Y : Ys) : Ys := tkF tp len Y.2.1
def numC (tp : Row) (len : Nat) (Y : Ys) (M : Nat) : Ys := if okY Y M then tkF tp len Y.2.1 else Y
def numA (Y : Ys) (M : Nat) : Int32 := if okY Y M then nI Y.2.2.2 else -1
theorem numC_ok {tp : Row} {len : Nat} {Y : Ys} {M : Nat} (h : okY Y M) : numC tp len Y M = tkF tp len Y.2.1 := if_pos h
theorem numC_no {tp : Row} {len : Nat} {Y : Ys} {M : Nat} (h : ¬ okY Y M) : numC tp len Y M = Y := if_neg h
theorem numA_ok {Y : Ys} {M : Nat} (h : okY Y M) : numA Y M = nI Y.2.2.2 := if_pos h
theorem numA_no {Y : Ys} {M : Nat} (h : ¬ okY Y M) : numA Y M = -1 := if_neg h
theorem num_Y {tp : Row} {len : Nat} {Y : Ys} {M : Nat} (h : YI len Y) : YI len (numC tp len Y M) := by
  unfold numC
  split
  · exact tk_Y h.2.1
  · exact h
theorem numA_yes {Y : Ys} {M : Nat} (h : ¬ numA Y M = -1) : okY Y M := Classical.byContradiction fun q => h (numA_no q)
theorem numA_not {Y : Ys} {M len : Nat} (hY : YI len Y) (h : numA Y M = -1) : ¬ okY Y M := fun q => by
  rw [numA_ok q] at h
  have := hY.2.2.1
  exact absurd (show nI Y.2.2.2 < 0 by rw [h]; decide) (nI_pos (by omega))
theorem mt_y {tp : Row} {b k : Nat} {bs : List Int32} (h : mtN tp b bs k = true) (h2 : tp (b + k) = chr (bs.getD k 0)) : mtN tp b bs (k + 1) = true := by
  rw [mtN, h, decide_eq_true h2]
  rfl
theorem chr_all : ∀ w : Fin 12, ∀ k : Fin 7, k.val < (tW w.val).length → chr ((tW w.val).getD k.val 0) = nI ((tW w.val).getD k.val 0).toNatClampNeg ∧ ((tW w.val).getD k.val 0).toNatClampNeg < 128 := by decide +kernel
theorem chr_w {w k : Nat} (hw : w < 12) (hk : k < (tW w).length) : ∃ m : Nat, m < 128 ∧ chr ((tW w).getD k 0) = nI m := by
  have h := chr_all ⟨w, hw⟩ ⟨k, Nat.lt_of_lt_of_le hk (tW_len w hw).2⟩ hk
  exact ⟨_, h.2, h.1⟩
theorem tr_c {tp tb : Row} {len b k w : Nat} (hT : TR tp tb len) (hb : b + k + 1 ≤ len) (hw : w < 12) (hk : k < (tW w).length) (h : tb (b + k) = chr ((tW w).getD k 0)) : tp (b + k) = chr ((tW w).getD k 0) := by
  obtain ⟨m, hm, e⟩ := chr_w hw hk
  rw [e] at h ⊢
  exact (tr_eq hT hb hm).mp h
theorem tr_c2 {tp tb : Row} {len b k w : Nat} (hT : TR tp tb len) (hb : b + k + 1 ≤ len) (hw : w < 12) (hk : k < (tW w).length) (h : tp (b + k) = chr ((tW w).getD k 0)) : tb (b + k) = chr ((tW w).getD k 0) := by
  obtain ⟨m, hm, e⟩ := chr_w hw hk
  rw [e] at h ⊢
  exact (tr_eq hT hb hm).mpr h
theorem isW_l {tp : Row} {b e w : Nat} {s : Int32} (h : isW tp b e s w) : e - b = (tW w).length := (of_decide_eq_true (Bool.and_eq_true_iff.mp h).1).2
theorem isW_m {tp : Row} {b e w : Nat} {s : Int32} (h : isW tp b e s w) : mtN tp b (tW w) (tW w).length = true := (Bool.and_eq_true_iff.mp h).2
theorem isW_y {tp : Row} {b e w : Nat} {s : Int32} (h1 : s = 1) (h2 : e - b = (tW w).length) (h3 : mtN tp b (tW w) (tW w).length = true) : isW tp b e s w := by
  show (decide _ && _) = true
  rw [decide_eq_true ⟨h1, h2⟩, h3]
  rfl
theorem mt_at {tp : Row} {b : Nat} {bs : List Int32} : ∀ n, mtN tp b bs n = true → ∀ k, k < n → tp (b + k) = chr (bs.getD k 0)
  | 0, _, k, hk => absurd hk (Nat.not_lt_zero _)
  | n + 1, h, k, hk => by
    rw [mtN] at h
    have h := Bool.and_eq_true_iff.mp h
    by_cases e : k = n
    · rw [e]; exact of_decide_eq_true h.2
    · exact mt_at n h.1 k (by omega)
theorem isW_no {tp : Row} {b e w k : Nat} {s : Int32} (h : ¬ tp (b + k) = chr ((tW w).getD k 0)) (hk : k < (tW w).length) : ¬ isW tp b e s w := fun q => h (mt_at _ (isW_m q) k hk)
def kwC (tp : Row) (Y : Ys) : Int32 := if fstN (fun j => decide (isW tp Y.1 Y.2.1 (nI Y.2.2.1) j)) 7 < 7 then nI (fstN (fun j => decide (isW tp Y.1 Y.2.1 (nI Y.2.2.1) j)) 7) else -1
theorem kwC_n {tp : Row} {b e s v : Nat} (h : ∀ j, j < 7 → decide (isW tp b e (nI s) j) = false) : kwC tp (b, e, s, v) = -1 := by
  unfold kwC
  rw [fst_no h, if_neg (by decide)]
theorem kwC_y {tp : Row} {b e s v k : Nat} (hk : k < 7) (hno : ∀ j, j < k → decide (isW tp b e (nI s) j) = false) (h : decide (isW tp b e (nI s) k) = true) : kwC tp (b, e, s, v) = nI k := by
  unfold kwC
  rw [fst_yes (c := fun j => decide (isW tp b e (nI s) j)) hno h hk, if_pos hk]
set_option maxHeartbeats 800000 in
set_option maxRecDepth 100000 in
theorem c_X2_sortOf (l : Launch) (E : EV) (v : Int32)  : Met l yX2_sortOf (wq yX2_sortOf cX2_sortOf 1 (some .int)) ({ frames := 0, cells := 0, slots := 0, locals := 0 }) (preB E [.int v] []) (qS (soV v)) 0 0 (fun _ => False) := by
  refine M_mk RX2 (by decide) rfl (Nat.le_of_ble_eq_true rfl) ?_
  intro p e s m below meth c S hr hlk hK hP hD hS ls hl
  have hl : lv_has ls 1 [(0, .int v)] := hl
  refine lv_iload_n S.1 S.2.1 dX2_sortOf_0 rfl (lv_at hl 0 rfl) ?_
  refine lv_bipush (v := 97) S.1 S.2.1 dX2_sortOf_1 (by decide) ?_
  refine lv_icmp_lt (tgt := 14) S.1 S.2.1 dX2_sortOf_3 (by decide) (fun c_3 => ?_) (fun c_3 => ?_)
  · have n_3 := Int32.not_le.mpr c_3
    refine lv_iload_n S.1 S.2.1 dX2_sortOf_14 rfl (lv_at hl 0 rfl) ?_
    refine lv_bipush (v := 48) S.1 S.2.1 dX2_sortOf_15 (by decide) ?_
    refine lv_icmp_lt (tgt := 28) S.1 S.2.1 dX2_sortOf_17 (by decide) (fun c_17 => ?_) (fun c_17 => ?_)
    · have n_17 := Int32.not_le.mpr c_17
      refine lv_iload_n S.1 S.2.1 dX2_sortOf_28 rfl (lv_at hl 0 rfl) ?_
      refine lv_bipush (v := 59) S.1 S.2.1 dX2_sortOf_29 (by decide) ?_
      refine lv_icmp_ne (tgt := 38) S.1 S.2.1 dX2_sortOf_31 (by decide) (fun c_31 => ?_) (fun c_31 => ?_)
      · refine lv_iconst (v := 4) S.1 S.2.1 dX2_sortOf_38 (by decide) ?_
        exact retS S hr hlk (so_4 (fun z9 => Int32.not_le.mpr c_3 z9.1) (fun z9 => Int32.not_le.mpr c_17 z9.1) c_31) dX2_sortOf_39
      · refine lv_iconst (v := 3) S.1 S.2.1 dX2_sortOf_34 (by decide) ?_
        refine lv_goto (tgt := 39) S.1 S.2.1 dX2_sortOf_35 (by decide) ?_
        exact retS S hr hlk (so_3 (fun z9 => Int32.not_le.mpr c_3 z9.1) (fun z9 => Int32.not_le.mpr c_17 z9.1) c_31) dX2_sortOf_39
    · have n_17 := Int32.not_lt.mp c_17
      refine lv_iload_n S.1 S.2.1 dX2_sortOf_20 rfl (lv_at hl 0 rfl) ?_
      refine lv_bipush (v := 57) S.1 S.2.1 dX2_sortOf_21 (by decide) ?_
      refine lv_icmp_gt (tgt := 28) S.1 S.2.1 dX2_sortOf_23 (by decide) (fun c_23 => ?_) (fun c_23 => ?_)
      · have n_23 := Int32.not_le.mpr c_23
        refine lv_iload_n S.1 S.2.1 dX2_sortOf_28 rfl (lv_at hl 0 rfl) ?_
        refine lv_bipush (v := 59) S.1 S.2.1 dX2_sortOf_29 (by decide) ?_
        refine lv_icmp_ne (tgt := 38) S.1 S.2.1 dX2_sortOf_31 (by decide) (fun c_31 => ?_) (fun c_31 => ?_)
        · refine lv_iconst (v := 4) S.1 S.2.1 dX2_sortOf_38 (by decide) ?_
          exact retS S hr hlk (so_4 (fun z9 => Int32.not_le.mpr c_3 z9.1) (fun z9 => Int32.not_le.mpr c_23 z9.2) c_31) dX2_sortOf_39
        · refine lv_iconst (v := 3) S.1 S.2.1 dX2_sortOf_34 (by decide) ?_
          refine lv_goto (tgt := 39) S.1 S.2.1 dX2_sortOf_35 (by decide) ?_
          exact retS S hr hlk (so_3 (fun z9 => Int32.not_le.mpr c_3 z9.1) (fun z9 => Int32.not_le.mpr c_23 z9.2) c_31) dX2_sortOf_39
      · have n_23 := Int32.not_lt.mp c_23
        refine lv_iconst (v := 2) S.1 S.2.1 dX2_sortOf_26 (by decide) ?_
        exact retS S hr hlk (so_2 (fun z9 => Int32.not_le.mpr c_3 z9.1) c_17 c_23) dX2_sortOf_27
  · have n_3 := Int32.not_lt.mp c_3
    refine lv_iload_n S.1 S.2.1 dX2_sortOf_6 rfl (lv_at hl 0 rfl) ?_
    refine lv_bipush (v := 122) S.1 S.2.1 dX2_sortOf_7 (by decide) ?_
    refine lv_icmp_gt (tgt := 14) S.1 S.2.1 dX2_sortOf_9 (by decide) (fun c_9 => ?_) (fun c_9 => ?_)
    · have n_9 := Int32.not_le.mpr c_9
      refine lv_iload_n S.1 S.2.1 dX2_sortOf_14 rfl (lv_at hl 0 rfl) ?_
      refine lv_bipush (v := 48) S.1 S.2.1 dX2_sortOf_15 (by decide) ?_
      refine lv_icmp_lt (tgt := 28) S.1 S.2.1 dX2_sortOf_17 (by decide) (fun c_17 => ?_) (fun c_17 => ?_)
      · have n_17 := Int32.not_le.mpr c_17
        refine lv_iload_n S.1 S.2.1 dX2_sortOf_28 rfl (lv_at hl 0 rfl) ?_
        refine lv_bipush (v := 59) S.1 S.2.1 dX2_sortOf_29 (by decide) ?_
        refine lv_icmp_ne (tgt := 38) S.1 S.2.1 dX2_sortOf_31 (by decide) (fun c_31 => ?_) (fun c_31 => ?_)
        · refine lv_iconst (v := 4) S.1 S.2.1 dX2_sortOf_38 (by decide) ?_
          exact retS S hr hlk (so_4 (fun z9 => Int32.not_le.mpr c_9 z9.2) (fun z9 => Int32.not_le.mpr c_17 z9.1) c_31) dX2_sortOf_39
        · refine lv_iconst (v := 3) S.1 S.2.1 dX2_sortOf_34 (by decide) ?_
          refine lv_goto (tgt := 39) S.1 S.2.1 dX2_sortOf_35 (by decide) ?_
          exact retS S hr hlk (so_3 (fun z9 => Int32.not_le.mpr c_9 z9.2) (fun z9 => Int32.not_le.mpr c_17 z9.1) c_31) dX2_sortOf_39
      · have n_17 := Int32.not_lt.mp c_17
        refine lv_iload_n S.1 S.2.1 dX2_sortOf_20 rfl (lv_at hl 0 rfl) ?_
        refine lv_bipush (v := 57) S.1 S.2.1 dX2_sortOf_21 (by decide) ?_
        refine lv_icmp_gt (tgt := 28) S.1 S.2.1 dX2_sortOf_23 (by decide) (fun c_23 => ?_) (fun c_23 => ?_)
        · have n_23 := Int32.not_le.mpr c_23
          refine lv_iload_n S.1 S.2.1 dX2_sortOf_28 rfl (lv_at hl 0 rfl) ?_
          refine lv_bipush (v := 59) S.1 S.2.1 dX2_sortOf_29 (by decide) ?_
          refine lv_icmp_ne (tgt := 38) S.1 S.2.1 dX2_sortOf_31 (by decide) (fun c_31 => ?_) (fun c_31 => ?_)
          · refine lv_iconst (v := 4) S.1 S.2.1 dX2_sortOf_38 (by decide) ?_
            exact retS S hr hlk (so_4 (fun z9 => Int32.not_le.mpr c_9 z9.2) (fun z9 => Int32.not_le.mpr c_23 z9.2) c_31) dX2_sortOf_39
          · refine lv_iconst (v := 3) S.1 S.2.1 dX2_sortOf_34 (by decide) ?_
            refine lv_goto (tgt := 39) S.1 S.2.1 dX2_sortOf_35 (by decide) ?_
            exact retS S hr hlk (so_3 (fun z9 => Int32.not_le.mpr c_9 z9.2) (fun z9 => Int32.not_le.mpr c_23 z9.2) c_31) dX2_sortOf_39
        · have n_23 := Int32.not_lt.mp c_23
          refine lv_iconst (v := 2) S.1 S.2.1 dX2_sortOf_26 (by decide) ?_
          exact retS S hr hlk (so_2 (fun z9 => Int32.not_le.mpr c_9 z9.2) c_17 c_23) dX2_sortOf_27
    · have n_9 := Int32.not_lt.mp c_9
      refine lv_iconst (v := 1) S.1 S.2.1 dX2_sortOf_12 (by decide) ?_
      exact retS S hr hlk (so_1 c_3 c_9) dX2_sortOf_13
set_option maxHeartbeats 800000 in
set_option maxRecDepth 100000 in
theorem c_X2_step (l : Launch) (E : EV) (ag : Nat → Nat) (tp tb : Row) (len bb ee ss vv : Nat) (hT : TR tp tb len) (hl9 : len ≤ 120) (he : ee ≤ len) : Met l yX2_step (wq yX2_step cX2_step 2 none) ({ frames := 1, cells := 0, slots := 0, locals := 22 }) (preB E [.ref (ag 2)] [[rdY ag len (bb, ee, ss, vv)], [(ag 3, .inl (E.2.2.1, 120, .inl (sg tb 120)))]]) (qV E [[rdY ag len (bb, ee, ss, vv)], [(ag 3, .inl (E.2.2.1, 120, .inl (sg tb 120)))]] [[rdY ag len (tkF tp len ee)], [(ag 3, .inl (E.2.2.1, 120, .inl (sg tb 120)))]]) 0 0 (inB [[rdY ag len (bb, ee, ss, vv)], [(ag 3, .inl (E.2.2.1, 120, .inl (sg tb 120)))]]) := by
  refine M_mk RX2 (by decide) rfl (Nat.le_of_ble_eq_true rfl) ?_
  intro p e s m below meth c S hr hlk hK hP hD hS ls hl
  have hl : lv_has ls 2 [(0, .ref (ag 2))] := hl
  obtain ⟨H, hH⟩ : ∃ zz9, zz9 = s.heap := ⟨_, rfl⟩
  obtain ⟨locs, hlocs⟩ : ∃ zz9 : List Loc, zz9 = [] := ⟨_, rfl⟩
  have hP : PE E [[rdY ag len (bb, ee, ss, vv)], [(ag 3, .inl (E.2.2.1, 120, .inl (sg tb 120)))]] H := by rw [hH]; exact hP
  have hS : va_S (inB [[rdY ag len (bb, ee, ss, vv)], [(ag 3, .inl (E.2.2.1, 120, .inl (sg tb 120)))]]) s.heap H locs := by rw [hH, hlocs]; exact hS
  show W p l e ({ frames := 1, cells := 0, slots := 0, locals := 22 }) s m ([.ref (ag 2)] : List Value).toArray below meth c s.heap [] 0 0 _ _
  suffices hgo : W p l e ({ frames := 1, cells := 0, slots := 0, locals := 22 }) s m ([.ref (ag 2)] : List Value).toArray below meth c H locs 0 0 (MQ below (qV E [[rdY ag len (bb, ee, ss, vv)], [(ag 3, .inl (E.2.2.1, 120, .inl (sg tb 120)))]] [[rdY ag len (tkF tp len ee)], [(ag 3, .inl (E.2.2.1, 120, .inl (sg tb 120)))]]) ([.ref (ag 2)] : List Value).toArray s 0 0 (inB [[rdY ag len (bb, ee, ss, vv)], [(ag 3, .inl (E.2.2.1, 120, .inl (sg tb 120)))]])) (F0 m 0 ls []) by rw [hH, hlocs] at hgo; exact hgo
  clear hH hlocs
  refine lv_aload_n S.1 S.2.1 dX2_step_0 rfl (lv_at hl 0 rfl) ?_
  refine lv_aload_n S.1 S.2.1 dX2_step_1 rfl (lv_at hl 0 rfl) ?_
  refine gf_X2_25 S hK hP 0 0 rfl rfl (show _ = some (Value.int (nI ee)) from rfl) dX2_step_2 ?_
  refine pf_X2_22 S hK hP hD hS 0 0 rfl rfl (Nat.le_of_ble_eq_true rfl) rfl (Bs1 := [[rdY ag len (ee, ee, ss, vv)], [(ag 3, .inl (E.2.2.1, 120, .inl (sg tb 120)))]]) rfl dX2_step_5 (fun H locs hP hD hS => ?_)
  have L_8 : ∀ (fu : Nat) (b : Nat), (b ≤ len) → (len < b + fu) → (skF tp len ee = skF tp len b) → ∀ (H : Heap) (locs : List Loc), PE E [[rdY ag len (b, ee, ss, vv)], [(ag 3, .inl (E.2.2.1, 120, .inl (sg tb 120)))]] H → DE (inB [[rdY ag len (bb, ee, ss, vv)], [(ag 3, .inl (E.2.2.1, 120, .inl (sg tb 120)))]]) [[rdY ag len (b, ee, ss, vv)], [(ag 3, .inl (E.2.2.1, 120, .inl (sg tb 120)))]] → va_S (inB [[rdY ag len (bb, ee, ss, vv)], [(ag 3, .inl (E.2.2.1, 120, .inl (sg tb 120)))]]) s.heap H locs → ∀ (ls : Array Slot), lv_has ls 2 [(0, .ref (ag 2))] → W p l e ({ frames := 1, cells := 0, slots := 0, locals := 22 }) s m ([.ref (ag 2)] : List Value).toArray below meth c H locs 0 0 (MQ below (qV E [[rdY ag len (bb, ee, ss, vv)], [(ag 3, .inl (E.2.2.1, 120, .inl (sg tb 120)))]] [[rdY ag len (tkF tp len ee)], [(ag 3, .inl (E.2.2.1, 120, .inl (sg tb 120)))]]) ([.ref (ag 2)] : List Value).toArray s 0 0 (inB [[rdY ag len (bb, ee, ss, vv)], [(ag 3, .inl (E.2.2.1, 120, .inl (sg tb 120)))]])) (F0 m 8 ls []) := by
    intro fu
    induction fu with
    | zero =>
      intro b hb hf hB
      omega
    | succ fu ih_8 =>
      intro b hb hf hB H locs hP hD hS ls hl
      refine lv_aload_n S.1 S.2.1 dX2_step_8 rfl (lv_at hl 0 rfl) ?_
      refine gf_X2_22 S hK hP 0 0 rfl rfl (show _ = some (Value.int (nI b)) from rfl) dX2_step_9 ?_
      refine lv_aload_n S.1 S.2.1 dX2_step_12 rfl (lv_at hl 0 rfl) ?_
      refine gf_X2_15 S hK hP 0 0 rfl rfl (show _ = some (Value.int (nI len)) from rfl) dX2_step_13 ?_
      refine lv_icmp_ge (tgt := 46) S.1 S.2.1 dX2_step_16 (by decide) (fun c_16 => ?_) (fun c_16 => ?_)
      · have n_16 := Int32.not_lt.mpr c_16
        have eB : skF tp len ee = b := hB.trans (skF_no (by rw [bt_out c_16 (by omega) (by omega)]; decide))
        refine lv_aload_n S.1 S.2.1 dX2_step_46 rfl (lv_at hl 0 rfl) ?_
        refine lv_aload_n S.1 S.2.1 dX2_step_47 rfl (lv_at hl 0 rfl) ?_
        refine gf_X2_22 S hK hP 0 0 rfl rfl (show _ = some (Value.int (nI b)) from rfl) dX2_step_48 ?_
        refine pf_X2_25 S hK hP hD hS 0 0 rfl rfl (Nat.le_of_ble_eq_true rfl) rfl (Bs1 := [[rdY ag len (b, b, ss, vv)], [(ag 3, .inl (E.2.2.1, 120, .inl (sg tb 120)))]]) rfl dX2_step_51 (fun H locs hP hD hS => ?_)
        refine lv_aload_n S.1 S.2.1 dX2_step_54 rfl (lv_at hl 0 rfl) ?_
        refine lv_iconst (v := 0) S.1 S.2.1 dX2_step_55 (by decide) ?_
        refine pf_X2_28 S hK hP hD hS 0 0 rfl rfl (Nat.le_of_ble_eq_true rfl) rfl (Bs1 := [[rdY ag len (b, b, ss, 0)], [(ag 3, .inl (E.2.2.1, 120, .inl (sg tb 120)))]]) rfl dX2_step_56 (fun H locs hP hD hS => ?_)
        refine lv_aload_n S.1 S.2.1 dX2_step_59 rfl (lv_at hl 0 rfl) ?_
        refine lv_aload_n S.1 S.2.1 dX2_step_60 rfl (lv_at hl 0 rfl) ?_
        refine gf_X2_22 S hK hP 0 0 rfl rfl (show _ = some (Value.int (nI b)) from rfl) dX2_step_61 ?_
        refine lv_aload_n S.1 S.2.1 dX2_step_64 rfl (lv_at hl 0 rfl) ?_
        refine gf_X2_15 S hK hP 0 0 rfl rfl (show _ = some (Value.int (nI len)) from rfl) dX2_step_65 ?_
        refine lv_icmp_ge (tgt := 86) S.1 S.2.1 dX2_step_68 (by decide) (fun c_68 => ?_) (fun c_68 => ?_)
        · have n_68 := Int32.not_lt.mpr c_68
          refine lv_iconst (v := 0) S.1 S.2.1 dX2_step_86 (by decide) ?_
          refine pf_X2_19 S hK hP hD hS 0 0 rfl rfl (Nat.le_of_ble_eq_true rfl) rfl (Bs1 := [[rdY ag len (b, b, 0, 0)], [(ag 3, .inl (E.2.2.1, 120, .inl (sg tb 120)))]]) rfl dX2_step_87 (fun H locs hP hD hS => ?_)
          refine lv_aload_n S.1 S.2.1 dX2_step_90 rfl (lv_at hl 0 rfl) ?_
          refine gf_X2_19 S hK hP 0 0 rfl rfl (show _ = some (Value.int (nI 0)) from rfl) dX2_step_91 ?_
          refine lv_iconst (v := 1) S.1 S.2.1 dX2_step_94 (by decide) ?_
          refine lv_icmp_eq (tgt := 106) S.1 S.2.1 dX2_step_95 (by decide) (fun c_95 => ?_) (fun c_95 => ?_)
          · exact absurd c_95 (by decide)
          · refine lv_aload_n S.1 S.2.1 dX2_step_98 rfl (lv_at hl 0 rfl) ?_
            refine gf_X2_19 S hK hP 0 0 rfl rfl (show _ = some (Value.int (nI 0)) from rfl) dX2_step_99 ?_
            refine lv_iconst (v := 2) S.1 S.2.1 dX2_step_102 (by decide) ?_
            refine lv_icmp_ne (tgt := 110) S.1 S.2.1 dX2_step_103 (by decide) (fun c_103 => ?_) (fun c_103 => ?_)
            · refine lv_iconst (v := 0) S.1 S.2.1 dX2_step_110 (by decide) ?_
              refine lv_istore_n (lv' := [(1, .int 0), (0, .ref (ag 2))]) S.1 S.2.1 dX2_step_111 rfl hl (by decide) rfl (fun ls hl => ?_)
              refine lv_aload_n S.1 S.2.1 dX2_step_112 rfl (lv_at hl 1 rfl) ?_
              refine gf_X2_25 S hK hP 0 0 rfl rfl (show _ = some (Value.int (nI b)) from rfl) dX2_step_113 ?_
              refine lv_aload_n S.1 S.2.1 dX2_step_116 rfl (lv_at hl 1 rfl) ?_
              refine gf_X2_15 S hK hP 0 0 rfl rfl (show _ = some (Value.int (nI len)) from rfl) dX2_step_117 ?_
              refine lv_icmp_ge (tgt := 208) S.1 S.2.1 dX2_step_120 (by decide) (fun c_120 => ?_) (fun c_120 => ?_)
              · have n_120 := Int32.not_lt.mpr c_120
                exact retV S hr hlk (by rw [tkc_0 eB (by rw [bt_out c_16 (by omega) (by omega)]; rfl)]; exact hP) hS dX2_step_208
              · exact absurd c_16 c_120
            · exact absurd c_103 (by decide)
        · exact absurd c_16 c_68
      · have n_16 := Int32.not_le.mp c_16
        have hb1 : b + 1 ≤ len := lt_of_nI (Int32.not_le.mp c_16) (by omega) (by omega)
        refine lv_aload_n S.1 S.2.1 dX2_step_19 rfl (lv_at hl 0 rfl) ?_
        refine gf_X2_9 S hK hP 0 0 rfl rfl (show _ = some (Value.ref (ag 3)) from rfl) dX2_step_20 ?_
        refine lv_aload_n S.1 S.2.1 dX2_step_23 rfl (lv_at hl 0 rfl) ?_
        refine gf_X2_22 S hK hP 0 0 rfl rfl (show _ = some (Value.int (nI b)) from rfl) dX2_step_24 ?_
        refine b_baldN (i := b) S hK hP 1 0 rfl rfl (by omega) (by decide) dX2_step_27 ?_
        refine lv_eqi (y := tb b) (sg_at (by omega)) ?_
        refine lv_bipush (v := 32) S.1 S.2.1 dX2_step_28 (by decide) ?_
        refine lv_icmp_ne (tgt := 46) S.1 S.2.1 dX2_step_30 (by decide) (fun c_30 => ?_) (fun c_30 => ?_)
        · have eB : skF tp len ee = b := hB.trans (skF_no (fun z9 => c_30 (tr_32 hT hb1 z9)))
          refine lv_aload_n S.1 S.2.1 dX2_step_46 rfl (lv_at hl 0 rfl) ?_
          refine lv_aload_n S.1 S.2.1 dX2_step_47 rfl (lv_at hl 0 rfl) ?_
          refine gf_X2_22 S hK hP 0 0 rfl rfl (show _ = some (Value.int (nI b)) from rfl) dX2_step_48 ?_
          refine pf_X2_25 S hK hP hD hS 0 0 rfl rfl (Nat.le_of_ble_eq_true rfl) rfl (Bs1 := [[rdY ag len (b, b, ss, vv)], [(ag 3, .inl (E.2.2.1, 120, .inl (sg tb 120)))]]) rfl dX2_step_51 (fun H locs hP hD hS => ?_)
          refine lv_aload_n S.1 S.2.1 dX2_step_54 rfl (lv_at hl 0 rfl) ?_
          refine lv_iconst (v := 0) S.1 S.2.1 dX2_step_55 (by decide) ?_
          refine pf_X2_28 S hK hP hD hS 0 0 rfl rfl (Nat.le_of_ble_eq_true rfl) rfl (Bs1 := [[rdY ag len (b, b, ss, 0)], [(ag 3, .inl (E.2.2.1, 120, .inl (sg tb 120)))]]) rfl dX2_step_56 (fun H locs hP hD hS => ?_)
          refine lv_aload_n S.1 S.2.1 dX2_step_59 rfl (lv_at hl 0 rfl) ?_
          refine lv_aload_n S.1 S.2.1 dX2_step_60 rfl (lv_at hl 0 rfl) ?_
          refine gf_X2_22 S hK hP 0 0 rfl rfl (show _ = some (Value.int (nI b)) from rfl) dX2_step_61 ?_
          refine lv_aload_n S.1 S.2.1 dX2_step_64 rfl (lv_at hl 0 rfl) ?_
          refine gf_X2_15 S hK hP 0 0 rfl rfl (show _ = some (Value.int (nI len)) from rfl) dX2_step_65 ?_
          refine lv_icmp_ge (tgt := 86) S.1 S.2.1 dX2_step_68 (by decide) (fun c_68 => ?_) (fun c_68 => ?_)
          · exact absurd c_68 c_16
          · have n_68 := Int32.not_le.mp c_68
            refine lv_aload_n S.1 S.2.1 dX2_step_71 rfl (lv_at hl 0 rfl) ?_
            refine gf_X2_9 S hK hP 0 0 rfl rfl (show _ = some (Value.ref (ag 3)) from rfl) dX2_step_72 ?_
            refine lv_aload_n S.1 S.2.1 dX2_step_75 rfl (lv_at hl 0 rfl) ?_
            refine gf_X2_22 S hK hP 0 0 rfl rfl (show _ = some (Value.int (nI b)) from rfl) dX2_step_76 ?_
            refine b_baldN (i := b) S hK hP 1 0 rfl rfl (by omega) (by decide) dX2_step_79 ?_
            refine lv_eqi (y := tb b) (sg_at (by omega)) ?_
            refine go_S (run_S (As := [.int (tb b)]) (rest := [.ref (ag 2)]) (n := 1) S hK (bl_P hP [] rfl) (bl_D hD [] rfl rfl) (c_X2_sortOf l E (tb b) ) gS_X2_129 (by decide +kernel) rfl ⟨rfl, rfl⟩ ⟨Nat.le_of_ble_eq_true rfl, Nat.le_of_ble_eq_true rfl⟩ hl.1 (Nat.le_of_ble_eq_true rfl) dX2_step_80 ⟨Nat.zero_le _, Nat.zero_le _⟩) ?_
            obtain ⟨s8, hs8⟩ : ∃ zz9 : Nat, zz9 = srt (bt tp len b) := ⟨_, rfl⟩
            refine lv_eqi (y := nI s8) (by rw [hs8]; exact so_srt hT hb1) ?_
            refine lv_goto (tgt := 87) S.1 S.2.1 dX2_step_83 (by decide) ?_
            refine pf_X2_19 S hK hP hD hS 0 0 rfl rfl (Nat.le_of_ble_eq_true rfl) rfl (Bs1 := [[rdY ag len (b, b, s8, 0)], [(ag 3, .inl (E.2.2.1, 120, .inl (sg tb 120)))]]) rfl dX2_step_87 (fun H locs hP hD hS => ?_)
            refine lv_aload_n S.1 S.2.1 dX2_step_90 rfl (lv_at hl 0 rfl) ?_
            refine gf_X2_19 S hK hP 0 0 rfl rfl (show _ = some (Value.int (nI s8)) from rfl) dX2_step_91 ?_
            refine lv_iconst (v := 1) S.1 S.2.1 dX2_step_94 (by decide) ?_
            refine lv_icmp_eq (tgt := 106) S.1 S.2.1 dX2_step_95 (by decide) (fun c_95 => ?_) (fun c_95 => ?_)
            · refine lv_iconst (v := 1) S.1 S.2.1 dX2_step_106 (by decide) ?_
              refine lv_goto (tgt := 111) S.1 S.2.1 dX2_step_107 (by decide) ?_
              refine lv_istore_n (lv' := [(1, .int 1), (0, .ref (ag 2))]) S.1 S.2.1 dX2_step_111 rfl hl (by decide) rfl (fun ls hl => ?_)
              have es8 : s8 = 1 := (nI_eq (b := 1) (by rw [hs8]; exact srt_small _) (by decide)).mp c_95
              subst es8
              have L_112 : ∀ (fu : Nat) (e1 : Nat), (len < e1 + fu) → (e1 ≤ len) → (b ≤ e1) → (enF 97 122 tp len b = enF 97 122 tp len e1) → ∀ (H : Heap) (locs : List Loc), PE E [[rdY ag len (b, e1, 1, 0)], [(ag 3, .inl (E.2.2.1, 120, .inl (sg tb 120)))]] H → DE (inB [[rdY ag len (bb, ee, ss, vv)], [(ag 3, .inl (E.2.2.1, 120, .inl (sg tb 120)))]]) [[rdY ag len (b, e1, 1, 0)], [(ag 3, .inl (E.2.2.1, 120, .inl (sg tb 120)))]] → va_S (inB [[rdY ag len (bb, ee, ss, vv)], [(ag 3, .inl (E.2.2.1, 120, .inl (sg tb 120)))]]) s.heap H locs → ∀ (ls : Array Slot), lv_has ls 2 [(0, .ref (ag 2)), (1, .int 1)] → W p l e ({ frames := 1, cells := 0, slots := 0, locals := 22 }) s m ([.ref (ag 2)] : List Value).toArray below meth c H locs 0 0 (MQ below (qV E [[rdY ag len (bb, ee, ss, vv)], [(ag 3, .inl (E.2.2.1, 120, .inl (sg tb 120)))]] [[rdY ag len (tkF tp len ee)], [(ag 3, .inl (E.2.2.1, 120, .inl (sg tb 120)))]]) ([.ref (ag 2)] : List Value).toArray s 0 0 (inB [[rdY ag len (bb, ee, ss, vv)], [(ag 3, .inl (E.2.2.1, 120, .inl (sg tb 120)))]])) (F0 m 112 ls []) := by
                intro fu
                induction fu with
                | zero =>
                  intro e1 hf2 hel hbe1 he1
                  omega
                | succ fu ih_112 =>
                  intro e1 hf2 hel hbe1 he1 H locs hP hD hS ls hl
                  refine lv_aload_n S.1 S.2.1 dX2_step_112 rfl (lv_at hl 0 rfl) ?_
                  refine gf_X2_25 S hK hP 0 0 rfl rfl (show _ = some (Value.int (nI e1)) from rfl) dX2_step_113 ?_
                  refine lv_aload_n S.1 S.2.1 dX2_step_116 rfl (lv_at hl 0 rfl) ?_
                  refine gf_X2_15 S hK hP 0 0 rfl rfl (show _ = some (Value.int (nI len)) from rfl) dX2_step_117 ?_
                  refine lv_icmp_ge (tgt := 208) S.1 S.2.1 dX2_step_120 (by decide) (fun c_120 => ?_) (fun c_120 => ?_)
                  · have n_120 := Int32.not_lt.mpr c_120
                    exact retV S hr hlk (by rw [tkc_1 eB hs8.symm (he1.trans (enF_no (rg_out1 c_120 (by omega) (by omega))))]; exact hP) hS dX2_step_208
                  · have n_120 := Int32.not_le.mp c_120
                    have he2 : e1 + 1 ≤ len := lt_of_nI (Int32.not_le.mp c_120) (by omega) (by omega)
                    refine lv_aload_n S.1 S.2.1 dX2_step_123 rfl (lv_at hl 0 rfl) ?_
                    refine gf_X2_25 S hK hP 0 0 rfl rfl (show _ = some (Value.int (nI e1)) from rfl) dX2_step_124 ?_
                    refine lv_aload_n S.1 S.2.1 dX2_step_127 rfl (lv_at hl 0 rfl) ?_
                    refine gf_X2_22 S hK hP 0 0 rfl rfl (show _ = some (Value.int (nI b)) from rfl) dX2_step_128 ?_
                    refine lv_icmp_eq (tgt := 157) S.1 S.2.1 dX2_step_131 (by decide) (fun c_131 => ?_) (fun c_131 => ?_)
                    · have ee1 : e1 = b := (nI_eq (by omega) (by omega)).mp c_131
                      have hrg : 97 ≤ bt tp len e1 ∧ bt tp len e1 ≤ 122 := rg_1 (by rw [ee1]; exact hs8.symm)
                      refine lv_aload_n S.1 S.2.1 dX2_step_157 rfl (lv_at hl 0 rfl) ?_
                      refine gf_X2_19 S hK hP 0 0 rfl rfl (show _ = some (Value.int (nI 1)) from rfl) dX2_step_158 ?_
                      refine lv_iconst (v := 2) S.1 S.2.1 dX2_step_161 (by decide) ?_
                      refine lv_icmp_ne (tgt := 195) S.1 S.2.1 dX2_step_162 (by decide) (fun c_162 => ?_) (fun c_162 => ?_)
                      · refine lv_aload_n S.1 S.2.1 dX2_step_195 rfl (lv_at hl 0 rfl) ?_
                        refine lv_dup S.1 S.2.1 dX2_step_196 rfl ?_
                        refine gf_X2_25 S hK hP 0 0 rfl rfl (show _ = some (Value.int (nI e1)) from rfl) dX2_step_197 ?_
                        refine lv_iconst (v := 1) S.1 S.2.1 dX2_step_200 (by decide) ?_
                        refine lv_iadd S.1 S.2.1 dX2_step_201 ?_
                        refine lv_eqi (y := nI (e1 + 1)) (nI_add e1 1) ?_
                        refine pf_X2_25 S hK hP hD hS 0 0 rfl rfl (Nat.le_of_ble_eq_true rfl) rfl (Bs1 := [[rdY ag len (b, e1 + 1, 1, 0)], [(ag 3, .inl (E.2.2.1, 120, .inl (sg tb 120)))]]) rfl dX2_step_202 (fun H locs hP hD hS => ?_)
                        refine lv_goto (tgt := 112) S.1 S.2.1 dX2_step_205 (by decide) ?_
                        exact ih_112 (e1 + 1) (by omega) he2 (by omega) (he1.trans (enF_s hrg he2)) H locs hP hD hS ls (lv_sub hl [0, 1] rfl)
                      · exact absurd c_162 (by decide)
                    · refine lv_iload_n S.1 S.2.1 dX2_step_134 rfl (lv_at hl 1 rfl) ?_
                      refine lv_if_eq (tgt := 208) S.1 S.2.1 dX2_step_135 (by decide) (fun h => absurd h (by decide)) (fun _ => ?_)
                      refine lv_aload_n S.1 S.2.1 dX2_step_138 rfl (lv_at hl 0 rfl) ?_
                      refine gf_X2_9 S hK hP 0 0 rfl rfl (show _ = some (Value.ref (ag 3)) from rfl) dX2_step_139 ?_
                      refine lv_aload_n S.1 S.2.1 dX2_step_142 rfl (lv_at hl 0 rfl) ?_
                      refine gf_X2_25 S hK hP 0 0 rfl rfl (show _ = some (Value.int (nI e1)) from rfl) dX2_step_143 ?_
                      refine b_baldN (i := e1) S hK hP 1 0 rfl rfl (by omega) (by decide) dX2_step_146 ?_
                      refine lv_eqi (y := tb e1) (sg_at (by omega)) ?_
                      refine go_S (run_S (As := [.int (tb e1)]) (rest := []) (n := 1) S hK (bl_P hP [] rfl) (bl_D hD [] rfl rfl) (c_X2_sortOf l E (tb e1) ) gS_X2_129 (by decide +kernel) rfl ⟨rfl, rfl⟩ ⟨Nat.le_of_ble_eq_true rfl, Nat.le_of_ble_eq_true rfl⟩ hl.1 (Nat.le_of_ble_eq_true rfl) dX2_step_147 ⟨Nat.zero_le _, Nat.zero_le _⟩) ?_
                      refine lv_eqi (y := nI (srt (bt tp len e1))) (so_srt hT he2) ?_
                      refine lv_aload_n S.1 S.2.1 dX2_step_150 rfl (lv_at hl 0 rfl) ?_
                      refine gf_X2_19 S hK hP 0 0 rfl rfl (show _ = some (Value.int (nI 1)) from rfl) dX2_step_151 ?_
                      refine lv_icmp_ne (tgt := 208) S.1 S.2.1 dX2_step_154 (by decide) (fun c_154 => ?_) (fun c_154 => ?_)
                      · exact retV S hr hlk (by rw [tkc_1 eB hs8.symm (he1.trans (enF_no (rg_no1 (fun z9 => c_154 (by rw [z9])))))]; exact hP) hS dX2_step_208
                      · have hrg : 97 ≤ bt tp len e1 ∧ bt tp len e1 ≤ 122 := rg_1 ((nI_eq (b := 1) (srt_small _) (by decide)).mp c_154)
                        refine lv_aload_n S.1 S.2.1 dX2_step_157 rfl (lv_at hl 0 rfl) ?_
                        refine gf_X2_19 S hK hP 0 0 rfl rfl (show _ = some (Value.int (nI 1)) from rfl) dX2_step_158 ?_
                        refine lv_iconst (v := 2) S.1 S.2.1 dX2_step_161 (by decide) ?_
                        refine lv_icmp_ne (tgt := 195) S.1 S.2.1 dX2_step_162 (by decide) (fun c_162 => ?_) (fun c_162 => ?_)
                        · refine lv_aload_n S.1 S.2.1 dX2_step_195 rfl (lv_at hl 0 rfl) ?_
                          refine lv_dup S.1 S.2.1 dX2_step_196 rfl ?_
                          refine gf_X2_25 S hK hP 0 0 rfl rfl (show _ = some (Value.int (nI e1)) from rfl) dX2_step_197 ?_
                          refine lv_iconst (v := 1) S.1 S.2.1 dX2_step_200 (by decide) ?_
                          refine lv_iadd S.1 S.2.1 dX2_step_201 ?_
                          refine lv_eqi (y := nI (e1 + 1)) (nI_add e1 1) ?_
                          refine pf_X2_25 S hK hP hD hS 0 0 rfl rfl (Nat.le_of_ble_eq_true rfl) rfl (Bs1 := [[rdY ag len (b, e1 + 1, 1, 0)], [(ag 3, .inl (E.2.2.1, 120, .inl (sg tb 120)))]]) rfl dX2_step_202 (fun H locs hP hD hS => ?_)
                          refine lv_goto (tgt := 112) S.1 S.2.1 dX2_step_205 (by decide) ?_
                          exact ih_112 (e1 + 1) (by omega) he2 (by omega) (he1.trans (enF_s hrg he2)) H locs hP hD hS ls (lv_sub hl [0, 1] rfl)
                        · exact absurd c_162 (by decide)
              exact L_112 (len + 1) b (by omega) hb (Nat.le_refl _) rfl H locs hP hD hS ls (lv_sub hl [1, 0] rfl)
            · refine lv_aload_n S.1 S.2.1 dX2_step_98 rfl (lv_at hl 0 rfl) ?_
              refine gf_X2_19 S hK hP 0 0 rfl rfl (show _ = some (Value.int (nI s8)) from rfl) dX2_step_99 ?_
              refine lv_iconst (v := 2) S.1 S.2.1 dX2_step_102 (by decide) ?_
              refine lv_icmp_ne (tgt := 110) S.1 S.2.1 dX2_step_103 (by decide) (fun c_103 => ?_) (fun c_103 => ?_)
              · refine lv_iconst (v := 0) S.1 S.2.1 dX2_step_110 (by decide) ?_
                refine lv_istore_n (lv' := [(1, .int 0), (0, .ref (ag 2))]) S.1 S.2.1 dX2_step_111 rfl hl (by decide) rfl (fun ls hl => ?_)
                refine lv_aload_n S.1 S.2.1 dX2_step_112 rfl (lv_at hl 1 rfl) ?_
                refine gf_X2_25 S hK hP 0 0 rfl rfl (show _ = some (Value.int (nI b)) from rfl) dX2_step_113 ?_
                refine lv_aload_n S.1 S.2.1 dX2_step_116 rfl (lv_at hl 1 rfl) ?_
                refine gf_X2_15 S hK hP 0 0 rfl rfl (show _ = some (Value.int (nI len)) from rfl) dX2_step_117 ?_
                refine lv_icmp_ge (tgt := 208) S.1 S.2.1 dX2_step_120 (by decide) (fun c_120 => ?_) (fun c_120 => ?_)
                · exact absurd c_120 c_68
                · have n_120 := Int32.not_le.mp c_120
                  have he2 : b + 1 ≤ len := lt_of_nI (Int32.not_le.mp c_120) (by omega) (by omega)
                  refine lv_aload_n S.1 S.2.1 dX2_step_123 rfl (lv_at hl 1 rfl) ?_
                  refine gf_X2_25 S hK hP 0 0 rfl rfl (show _ = some (Value.int (nI b)) from rfl) dX2_step_124 ?_
                  refine lv_aload_n S.1 S.2.1 dX2_step_127 rfl (lv_at hl 1 rfl) ?_
                  refine gf_X2_22 S hK hP 0 0 rfl rfl (show _ = some (Value.int (nI b)) from rfl) dX2_step_128 ?_
                  refine lv_icmp_eq (tgt := 157) S.1 S.2.1 dX2_step_131 (by decide) (fun c_131 => ?_) (fun c_131 => ?_)
                  · refine lv_aload_n S.1 S.2.1 dX2_step_157 rfl (lv_at hl 1 rfl) ?_
                    refine gf_X2_19 S hK hP 0 0 rfl rfl (show _ = some (Value.int (nI s8)) from rfl) dX2_step_158 ?_
                    refine lv_iconst (v := 2) S.1 S.2.1 dX2_step_161 (by decide) ?_
                    refine lv_icmp_ne (tgt := 195) S.1 S.2.1 dX2_step_162 (by decide) (fun c_162 => ?_) (fun c_162 => ?_)
                    · refine lv_aload_n S.1 S.2.1 dX2_step_195 rfl (lv_at hl 1 rfl) ?_
                      refine lv_dup S.1 S.2.1 dX2_step_196 rfl ?_
                      refine gf_X2_25 S hK hP 0 0 rfl rfl (show _ = some (Value.int (nI b)) from rfl) dX2_step_197 ?_
                      refine lv_iconst (v := 1) S.1 S.2.1 dX2_step_200 (by decide) ?_
                      refine lv_iadd S.1 S.2.1 dX2_step_201 ?_
                      refine lv_eqi (y := nI (b + 1)) (nI_add b 1) ?_
                      refine pf_X2_25 S hK hP hD hS 0 0 rfl rfl (Nat.le_of_ble_eq_true rfl) rfl (Bs1 := [[rdY ag len (b, b + 1, s8, 0)], [(ag 3, .inl (E.2.2.1, 120, .inl (sg tb 120)))]]) rfl dX2_step_202 (fun H locs hP hD hS => ?_)
                      refine lv_goto (tgt := 112) S.1 S.2.1 dX2_step_205 (by decide) ?_
                      refine lv_aload_n S.1 S.2.1 dX2_step_112 rfl (lv_at hl 1 rfl) ?_
                      refine gf_X2_25 S hK hP 0 0 rfl rfl (show _ = some (Value.int (nI (b + 1))) from rfl) dX2_step_113 ?_
                      refine lv_aload_n S.1 S.2.1 dX2_step_116 rfl (lv_at hl 1 rfl) ?_
                      refine gf_X2_15 S hK hP 0 0 rfl rfl (show _ = some (Value.int (nI len)) from rfl) dX2_step_117 ?_
                      refine lv_icmp_ge (tgt := 208) S.1 S.2.1 dX2_step_120 (by decide) (fun c_120_1 => ?_) (fun c_120_1 => ?_)
                      · have n_120_1 := Int32.not_lt.mpr c_120_1
                        exact retV S hr hlk (by rw [tkc_3 eB hs8.symm (fun z9 => c_95 (by rw [z9]; rfl)) (fun z9 => c_103 (by rw [z9]; rfl)) (by rw [hs8]; exact srt_0 hT hb1)]; exact hP) hS dX2_step_208
                      · have n_120_1 := Int32.not_le.mp c_120_1
                        refine lv_aload_n S.1 S.2.1 dX2_step_123 rfl (lv_at hl 1 rfl) ?_
                        refine gf_X2_25 S hK hP 0 0 rfl rfl (show _ = some (Value.int (nI (b + 1))) from rfl) dX2_step_124 ?_
                        refine lv_aload_n S.1 S.2.1 dX2_step_127 rfl (lv_at hl 1 rfl) ?_
                        refine gf_X2_22 S hK hP 0 0 rfl rfl (show _ = some (Value.int (nI b)) from rfl) dX2_step_128 ?_
                        refine lv_icmp_eq (tgt := 157) S.1 S.2.1 dX2_step_131 (by decide) (fun c_131_2 => ?_) (fun c_131_2 => ?_)
                        · exact absurd ((nI_eq (by omega) (by omega)).mp c_131_2) (by omega)
                        · refine lv_iload_n S.1 S.2.1 dX2_step_134 rfl (lv_at hl 0 rfl) ?_
                          refine lv_if_eq (tgt := 208) S.1 S.2.1 dX2_step_135 (by decide) (fun _ => ?_) (fun h => absurd h (by decide))
                          exact retV S hr hlk (by rw [tkc_3 eB hs8.symm (fun z9 => c_95 (by rw [z9]; rfl)) (fun z9 => c_103 (by rw [z9]; rfl)) (by rw [hs8]; exact srt_0 hT hb1)]; exact hP) hS dX2_step_208
                    · exact absurd c_162 c_103
                  · exact absurd rfl c_131
              · refine lv_iconst (v := 1) S.1 S.2.1 dX2_step_106 (by decide) ?_
                refine lv_goto (tgt := 111) S.1 S.2.1 dX2_step_107 (by decide) ?_
                refine lv_istore_n (lv' := [(1, .int 1), (0, .ref (ag 2))]) S.1 S.2.1 dX2_step_111 rfl hl (by decide) rfl (fun ls hl => ?_)
                have es8 : s8 = 2 := (nI_eq (b := 2) (by rw [hs8]; exact srt_small _) (by decide)).mp c_103
                subst es8
                have L_112 : ∀ (fu : Nat) (e1 : Nat) (v1 : Nat), (len < e1 + fu) → (e1 ≤ len) → (b ≤ e1) → (enF 48 57 tp len b = enF 48 57 tp len e1) → (vaF tp len b 0 = vaF tp len e1 v1) → (v1 ≤ 1000) → ∀ (H : Heap) (locs : List Loc), PE E [[rdY ag len (b, e1, 2, v1)], [(ag 3, .inl (E.2.2.1, 120, .inl (sg tb 120)))]] H → DE (inB [[rdY ag len (bb, ee, ss, vv)], [(ag 3, .inl (E.2.2.1, 120, .inl (sg tb 120)))]]) [[rdY ag len (b, e1, 2, v1)], [(ag 3, .inl (E.2.2.1, 120, .inl (sg tb 120)))]] → va_S (inB [[rdY ag len (bb, ee, ss, vv)], [(ag 3, .inl (E.2.2.1, 120, .inl (sg tb 120)))]]) s.heap H locs → ∀ (ls : Array Slot), lv_has ls 2 [(0, .ref (ag 2)), (1, .int 1)] → W p l e ({ frames := 1, cells := 0, slots := 0, locals := 22 }) s m ([.ref (ag 2)] : List Value).toArray below meth c H locs 0 0 (MQ below (qV E [[rdY ag len (bb, ee, ss, vv)], [(ag 3, .inl (E.2.2.1, 120, .inl (sg tb 120)))]] [[rdY ag len (tkF tp len ee)], [(ag 3, .inl (E.2.2.1, 120, .inl (sg tb 120)))]]) ([.ref (ag 2)] : List Value).toArray s 0 0 (inB [[rdY ag len (bb, ee, ss, vv)], [(ag 3, .inl (E.2.2.1, 120, .inl (sg tb 120)))]])) (F0 m 112 ls []) := by
                  intro fu
                  induction fu with
                  | zero =>
                    intro e1 v1 hf2 hel hbe1 he1 hv1 hv2
                    omega
                  | succ fu ih_112 =>
                    intro e1 v1 hf2 hel hbe1 he1 hv1 hv2 H locs hP hD hS ls hl
                    refine lv_aload_n S.1 S.2.1 dX2_step_112 rfl (lv_at hl 0 rfl) ?_
                    refine gf_X2_25 S hK hP 0 0 rfl rfl (show _ = some (Value.int (nI e1)) from rfl) dX2_step_113 ?_
                    refine lv_aload_n S.1 S.2.1 dX2_step_116 rfl (lv_at hl 0 rfl) ?_
                    refine gf_X2_15 S hK hP 0 0 rfl rfl (show _ = some (Value.int (nI len)) from rfl) dX2_step_117 ?_
                    refine lv_icmp_ge (tgt := 208) S.1 S.2.1 dX2_step_120 (by decide) (fun c_120 => ?_) (fun c_120 => ?_)
                    · have n_120 := Int32.not_lt.mpr c_120
                      exact retV S hr hlk (by rw [tkc_2 eB hs8.symm (he1.trans (enF_no (rg_out2 c_120 (by omega) (by omega)))) (hv1.trans (vaF_no (rg_out2 c_120 (by omega) (by omega))))]; exact hP) hS dX2_step_208
                    · have n_120 := Int32.not_le.mp c_120
                      have he2 : e1 + 1 ≤ len := lt_of_nI (Int32.not_le.mp c_120) (by omega) (by omega)
                      refine lv_aload_n S.1 S.2.1 dX2_step_123 rfl (lv_at hl 0 rfl) ?_
                      refine gf_X2_25 S hK hP 0 0 rfl rfl (show _ = some (Value.int (nI e1)) from rfl) dX2_step_124 ?_
                      refine lv_aload_n S.1 S.2.1 dX2_step_127 rfl (lv_at hl 0 rfl) ?_
                      refine gf_X2_22 S hK hP 0 0 rfl rfl (show _ = some (Value.int (nI b)) from rfl) dX2_step_128 ?_
                      refine lv_icmp_eq (tgt := 157) S.1 S.2.1 dX2_step_131 (by decide) (fun c_131 => ?_) (fun c_131 => ?_)
                      · have ee1 : e1 = b := (nI_eq (by omega) (by omega)).mp c_131
                        have hrg : 48 ≤ bt tp len e1 ∧ bt tp len e1 ≤ 57 := rg_2 (by rw [ee1]; exact hs8.symm)
                        refine lv_aload_n S.1 S.2.1 dX2_step_157 rfl (lv_at hl 0 rfl) ?_
                        refine gf_X2_19 S hK hP 0 0 rfl rfl (show _ = some (Value.int (nI 2)) from rfl) dX2_step_158 ?_
                        refine lv_iconst (v := 2) S.1 S.2.1 dX2_step_161 (by decide) ?_
                        refine lv_icmp_ne (tgt := 195) S.1 S.2.1 dX2_step_162 (by decide) (fun c_162 => ?_) (fun c_162 => ?_)
                        · exact absurd rfl c_162
                        · refine lv_aload_n S.1 S.2.1 dX2_step_165 rfl (lv_at hl 0 rfl) ?_
                          refine lv_bipush (v := 10) S.1 S.2.1 dX2_step_166 (by decide) ?_
                          refine lv_aload_n S.1 S.2.1 dX2_step_168 rfl (lv_at hl 0 rfl) ?_
                          refine gf_X2_28 S hK hP 0 0 rfl rfl (show _ = some (Value.int (nI v1)) from rfl) dX2_step_169 ?_
                          refine lv_imul S.1 S.2.1 dX2_step_172 ?_
                          refine lv_eqi (y := nI (10 * v1)) (pk_mul 10 v1) ?_
                          refine lv_aload_n S.1 S.2.1 dX2_step_173 rfl (lv_at hl 0 rfl) ?_
                          refine gf_X2_9 S hK hP 0 0 rfl rfl (show _ = some (Value.ref (ag 3)) from rfl) dX2_step_174 ?_
                          refine lv_aload_n S.1 S.2.1 dX2_step_177 rfl (lv_at hl 0 rfl) ?_
                          refine gf_X2_25 S hK hP 0 0 rfl rfl (show _ = some (Value.int (nI e1)) from rfl) dX2_step_178 ?_
                          refine b_baldN (i := e1) S hK hP 1 0 rfl rfl (by omega) (by decide) dX2_step_181 ?_
                          refine lv_eqi (y := tb e1) (sg_at (by omega)) ?_
                          refine lv_bipush (v := 48) S.1 S.2.1 dX2_step_182 (by decide) ?_
                          refine lv_isub S.1 S.2.1 dX2_step_184 ?_
                          refine lv_iadd S.1 S.2.1 dX2_step_185 ?_
                          refine lv_sipush (v := 1000) S.1 S.2.1 dX2_step_186 (by decide) ?_
                          refine va_mmin S.1 S.2.1 (S.2.2.1.trans hl.1.symm) S.2.2.2.1 (S.2.2.2.2 _ (List.mem_cons_of_mem _ mk_X2_133)) (S.2.2.2.2 _ (List.mem_cons_of_mem _ sk_JMmin)) (S.2.2.2.2 _ (List.mem_cons_of_mem _ nk_J9)) (S.2.2.2.2 _ (List.mem_cons_of_mem _ ck_JMmin)) (Nat.le_of_ble_eq_true rfl) (Nat.le_of_ble_eq_true rfl) (Nat.zero_le _) (Nat.zero_le _) dX2_step_189 ?_
                          refine lv_eqi (y := nI (dvN v1 (bt tp len e1))) (dv_eqC hT he2 hrg hv2) ?_
                          refine pf_X2_28 S hK hP hD hS 0 0 rfl rfl (Nat.le_of_ble_eq_true rfl) rfl (Bs1 := [[rdY ag len (b, e1, 2, dvN v1 (bt tp len e1))], [(ag 3, .inl (E.2.2.1, 120, .inl (sg tb 120)))]]) rfl dX2_step_192 (fun H locs hP hD hS => ?_)
                          refine lv_aload_n S.1 S.2.1 dX2_step_195 rfl (lv_at hl 0 rfl) ?_
                          refine lv_dup S.1 S.2.1 dX2_step_196 rfl ?_
                          refine gf_X2_25 S hK hP 0 0 rfl rfl (show _ = some (Value.int (nI e1)) from rfl) dX2_step_197 ?_
                          refine lv_iconst (v := 1) S.1 S.2.1 dX2_step_200 (by decide) ?_
                          refine lv_iadd S.1 S.2.1 dX2_step_201 ?_
                          refine lv_eqi (y := nI (e1 + 1)) (nI_add e1 1) ?_
                          refine pf_X2_25 S hK hP hD hS 0 0 rfl rfl (Nat.le_of_ble_eq_true rfl) rfl (Bs1 := [[rdY ag len (b, e1 + 1, 2, dvN v1 (bt tp len e1))], [(ag 3, .inl (E.2.2.1, 120, .inl (sg tb 120)))]]) rfl dX2_step_202 (fun H locs hP hD hS => ?_)
                          refine lv_goto (tgt := 112) S.1 S.2.1 dX2_step_205 (by decide) ?_
                          exact ih_112 (e1 + 1) (dvN v1 (bt tp len e1)) (by omega) he2 (by omega) (he1.trans (enF_s hrg he2)) (hv1.trans (vaF_s hrg he2)) (Nat.min_le_left _ _) H locs hP hD hS ls (lv_sub hl [0, 1] rfl)
                      · refine lv_iload_n S.1 S.2.1 dX2_step_134 rfl (lv_at hl 1 rfl) ?_
                        refine lv_if_eq (tgt := 208) S.1 S.2.1 dX2_step_135 (by decide) (fun h => absurd h (by decide)) (fun _ => ?_)
                        refine lv_aload_n S.1 S.2.1 dX2_step_138 rfl (lv_at hl 0 rfl) ?_
                        refine gf_X2_9 S hK hP 0 0 rfl rfl (show _ = some (Value.ref (ag 3)) from rfl) dX2_step_139 ?_
                        refine lv_aload_n S.1 S.2.1 dX2_step_142 rfl (lv_at hl 0 rfl) ?_
                        refine gf_X2_25 S hK hP 0 0 rfl rfl (show _ = some (Value.int (nI e1)) from rfl) dX2_step_143 ?_
                        refine b_baldN (i := e1) S hK hP 1 0 rfl rfl (by omega) (by decide) dX2_step_146 ?_
                        refine lv_eqi (y := tb e1) (sg_at (by omega)) ?_
                        refine go_S (run_S (As := [.int (tb e1)]) (rest := []) (n := 1) S hK (bl_P hP [] rfl) (bl_D hD [] rfl rfl) (c_X2_sortOf l E (tb e1) ) gS_X2_129 (by decide +kernel) rfl ⟨rfl, rfl⟩ ⟨Nat.le_of_ble_eq_true rfl, Nat.le_of_ble_eq_true rfl⟩ hl.1 (Nat.le_of_ble_eq_true rfl) dX2_step_147 ⟨Nat.zero_le _, Nat.zero_le _⟩) ?_
                        refine lv_eqi (y := nI (srt (bt tp len e1))) (so_srt hT he2) ?_
                        refine lv_aload_n S.1 S.2.1 dX2_step_150 rfl (lv_at hl 0 rfl) ?_
                        refine gf_X2_19 S hK hP 0 0 rfl rfl (show _ = some (Value.int (nI 2)) from rfl) dX2_step_151 ?_
                        refine lv_icmp_ne (tgt := 208) S.1 S.2.1 dX2_step_154 (by decide) (fun c_154 => ?_) (fun c_154 => ?_)
                        · exact retV S hr hlk (by rw [tkc_2 eB hs8.symm (he1.trans (enF_no (rg_no2 (fun z9 => c_154 (by rw [z9]))))) (hv1.trans (vaF_no (rg_no2 (fun z9 => c_154 (by rw [z9])))))]; exact hP) hS dX2_step_208
                        · have hrg : 48 ≤ bt tp len e1 ∧ bt tp len e1 ≤ 57 := rg_2 ((nI_eq (b := 2) (srt_small _) (by decide)).mp c_154)
                          refine lv_aload_n S.1 S.2.1 dX2_step_157 rfl (lv_at hl 0 rfl) ?_
                          refine gf_X2_19 S hK hP 0 0 rfl rfl (show _ = some (Value.int (nI 2)) from rfl) dX2_step_158 ?_
                          refine lv_iconst (v := 2) S.1 S.2.1 dX2_step_161 (by decide) ?_
                          refine lv_icmp_ne (tgt := 195) S.1 S.2.1 dX2_step_162 (by decide) (fun c_162 => ?_) (fun c_162 => ?_)
                          · exact absurd rfl c_162
                          · refine lv_aload_n S.1 S.2.1 dX2_step_165 rfl (lv_at hl 0 rfl) ?_
                            refine lv_bipush (v := 10) S.1 S.2.1 dX2_step_166 (by decide) ?_
                            refine lv_aload_n S.1 S.2.1 dX2_step_168 rfl (lv_at hl 0 rfl) ?_
                            refine gf_X2_28 S hK hP 0 0 rfl rfl (show _ = some (Value.int (nI v1)) from rfl) dX2_step_169 ?_
                            refine lv_imul S.1 S.2.1 dX2_step_172 ?_
                            refine lv_eqi (y := nI (10 * v1)) (pk_mul 10 v1) ?_
                            refine lv_aload_n S.1 S.2.1 dX2_step_173 rfl (lv_at hl 0 rfl) ?_
                            refine gf_X2_9 S hK hP 0 0 rfl rfl (show _ = some (Value.ref (ag 3)) from rfl) dX2_step_174 ?_
                            refine lv_aload_n S.1 S.2.1 dX2_step_177 rfl (lv_at hl 0 rfl) ?_
                            refine gf_X2_25 S hK hP 0 0 rfl rfl (show _ = some (Value.int (nI e1)) from rfl) dX2_step_178 ?_
                            refine b_baldN (i := e1) S hK hP 1 0 rfl rfl (by omega) (by decide) dX2_step_181 ?_
                            refine lv_eqi (y := tb e1) (sg_at (by omega)) ?_
                            refine lv_bipush (v := 48) S.1 S.2.1 dX2_step_182 (by decide) ?_
                            refine lv_isub S.1 S.2.1 dX2_step_184 ?_
                            refine lv_iadd S.1 S.2.1 dX2_step_185 ?_
                            refine lv_sipush (v := 1000) S.1 S.2.1 dX2_step_186 (by decide) ?_
                            refine va_mmin S.1 S.2.1 (S.2.2.1.trans hl.1.symm) S.2.2.2.1 (S.2.2.2.2 _ (List.mem_cons_of_mem _ mk_X2_133)) (S.2.2.2.2 _ (List.mem_cons_of_mem _ sk_JMmin)) (S.2.2.2.2 _ (List.mem_cons_of_mem _ nk_J9)) (S.2.2.2.2 _ (List.mem_cons_of_mem _ ck_JMmin)) (Nat.le_of_ble_eq_true rfl) (Nat.le_of_ble_eq_true rfl) (Nat.zero_le _) (Nat.zero_le _) dX2_step_189 ?_
                            refine lv_eqi (y := nI (dvN v1 (bt tp len e1))) (dv_eqC hT he2 hrg hv2) ?_
                            refine pf_X2_28 S hK hP hD hS 0 0 rfl rfl (Nat.le_of_ble_eq_true rfl) rfl (Bs1 := [[rdY ag len (b, e1, 2, dvN v1 (bt tp len e1))], [(ag 3, .inl (E.2.2.1, 120, .inl (sg tb 120)))]]) rfl dX2_step_192 (fun H locs hP hD hS => ?_)
                            refine lv_aload_n S.1 S.2.1 dX2_step_195 rfl (lv_at hl 0 rfl) ?_
                            refine lv_dup S.1 S.2.1 dX2_step_196 rfl ?_
                            refine gf_X2_25 S hK hP 0 0 rfl rfl (show _ = some (Value.int (nI e1)) from rfl) dX2_step_197 ?_
                            refine lv_iconst (v := 1) S.1 S.2.1 dX2_step_200 (by decide) ?_
                            refine lv_iadd S.1 S.2.1 dX2_step_201 ?_
                            refine lv_eqi (y := nI (e1 + 1)) (nI_add e1 1) ?_
                            refine pf_X2_25 S hK hP hD hS 0 0 rfl rfl (Nat.le_of_ble_eq_true rfl) rfl (Bs1 := [[rdY ag len (b, e1 + 1, 2, dvN v1 (bt tp len e1))], [(ag 3, .inl (E.2.2.1, 120, .inl (sg tb 120)))]]) rfl dX2_step_202 (fun H locs hP hD hS => ?_)
                            refine lv_goto (tgt := 112) S.1 S.2.1 dX2_step_205 (by decide) ?_
                            exact ih_112 (e1 + 1) (dvN v1 (bt tp len e1)) (by omega) he2 (by omega) (he1.trans (enF_s hrg he2)) (hv1.trans (vaF_s hrg he2)) (Nat.min_le_left _ _) H locs hP hD hS ls (lv_sub hl [0, 1] rfl)
                exact L_112 (len + 1) b 0 (by omega) hb (Nat.le_refl _) rfl rfl (by omega) H locs hP hD hS ls (lv_sub hl [1, 0] rfl)
        · refine lv_aload_n S.1 S.2.1 dX2_step_33 rfl (lv_at hl 0 rfl) ?_
          refine lv_dup S.1 S.2.1 dX2_step_34 rfl ?_
          refine gf_X2_22 S hK hP 0 0 rfl rfl (show _ = some (Value.int (nI b)) from rfl) dX2_step_35 ?_
          refine lv_iconst (v := 1) S.1 S.2.1 dX2_step_38 (by decide) ?_
          refine lv_iadd S.1 S.2.1 dX2_step_39 ?_
          refine lv_eqi (y := nI (b + 1)) (nI_add b 1) ?_
          refine pf_X2_22 S hK hP hD hS 0 0 rfl rfl (Nat.le_of_ble_eq_true rfl) rfl (Bs1 := [[rdY ag len (b + 1, ee, ss, vv)], [(ag 3, .inl (E.2.2.1, 120, .inl (sg tb 120)))]]) rfl dX2_step_40 (fun H locs hP hD hS => ?_)
          refine lv_goto (tgt := 8) S.1 S.2.1 dX2_step_43 (by decide) ?_
          exact ih_8 (b + 1) (by omega) (by omega) (hB.trans (skF_s (bt_32 hT hb1 c_30))) H locs hP hD hS ls (lv_sub hl [0] rfl)
  exact L_8 (len + 1) ee he (by omega) rfl H locs hP hD hS ls (lv_sub hl [0] rfl)
set_option maxHeartbeats 800000 in
set_option maxRecDepth 100000 in
theorem c_X2_takeNumber (l : Launch) (E : EV) (ag : Nat → Nat) (tp tb : Row) (len bb ee ss vv : Nat) (M : Nat) (hT : TR tp tb len) (hl9 : len ≤ 120) (hY : YI len (bb, ee, ss, vv)) (hM : M ≤ 1000) : Met l yX2_takeNumber (wq yX2_takeNumber cX2_takeNumber 3 (some .int)) ({ frames := 2, cells := 0, slots := 0, locals := 43 }) (preB E [.ref (ag 2), .int (nI M)] [[rdY ag len (bb, ee, ss, vv)], [(ag 3, .inl (E.2.2.1, 120, .inl (sg tb 120)))]]) (qI E [[rdY ag len (bb, ee, ss, vv)], [(ag 3, .inl (E.2.2.1, 120, .inl (sg tb 120)))]] [[rdY ag len (numC tp len (bb, ee, ss, vv) M)], [(ag 3, .inl (E.2.2.1, 120, .inl (sg tb 120)))]] (numA (bb, ee, ss, vv) M)) 0 0 (inB [[rdY ag len (bb, ee, ss, vv)], [(ag 3, .inl (E.2.2.1, 120, .inl (sg tb 120)))]]) := by
  refine M_mk RX2 (by decide) rfl (Nat.le_of_ble_eq_true rfl) ?_
  intro p e s m below meth c S hr hlk hK hP hD hS ls hl
  have hl : lv_has ls 3 [(0, .ref (ag 2)), (1, .int (nI M))] := hl
  have hy3 : vv ≤ 1000 := hY.2.2.1
  have hy4 : ss ≤ 4 := hY.2.2.2
  obtain ⟨H, hH⟩ : ∃ zz9, zz9 = s.heap := ⟨_, rfl⟩
  obtain ⟨locs, hlocs⟩ : ∃ zz9 : List Loc, zz9 = [] := ⟨_, rfl⟩
  have hP : PE E [[rdY ag len (bb, ee, ss, vv)], [(ag 3, .inl (E.2.2.1, 120, .inl (sg tb 120)))]] H := by rw [hH]; exact hP
  have hS : va_S (inB [[rdY ag len (bb, ee, ss, vv)], [(ag 3, .inl (E.2.2.1, 120, .inl (sg tb 120)))]]) s.heap H locs := by rw [hH, hlocs]; exact hS
  show W p l e ({ frames := 2, cells := 0, slots := 0, locals := 43 }) s m ([.ref (ag 2), .int (nI M)] : List Value).toArray below meth c s.heap [] 0 0 _ _
  suffices hgo : W p l e ({ frames := 2, cells := 0, slots := 0, locals := 43 }) s m ([.ref (ag 2), .int (nI M)] : List Value).toArray below meth c H locs 0 0 (MQ below (qI E [[rdY ag len (bb, ee, ss, vv)], [(ag 3, .inl (E.2.2.1, 120, .inl (sg tb 120)))]] [[rdY ag len (numC tp len (bb, ee, ss, vv) M)], [(ag 3, .inl (E.2.2.1, 120, .inl (sg tb 120)))]] (numA (bb, ee, ss, vv) M)) ([.ref (ag 2), .int (nI M)] : List Value).toArray s 0 0 (inB [[rdY ag len (bb, ee, ss, vv)], [(ag 3, .inl (E.2.2.1, 120, .inl (sg tb 120)))]])) (F0 m 0 ls []) by rw [hH, hlocs] at hgo; exact hgo
  clear hH hlocs
  refine lv_aload_n S.1 S.2.1 dX2_takeNumber_0 rfl (lv_at hl 0 rfl) ?_
  refine gf_X2_19 S hK hP 0 0 rfl rfl (show _ = some (Value.int (nI ss)) from rfl) dX2_takeNumber_1 ?_
  refine lv_iconst (v := 2) S.1 S.2.1 dX2_takeNumber_4 (by decide) ?_
  refine lv_icmp_ne (tgt := 16) S.1 S.2.1 dX2_takeNumber_5 (by decide) (fun c_5 => ?_) (fun c_5 => ?_)
  · refine lv_iconst (v := (-1)) S.1 S.2.1 dX2_takeNumber_16 (by decide) ?_
    exact retI S hr hlk (by rw [numC_no (fun z9 => c_5 (congrArg nI z9.1))]; exact hP) hS (numA_no (fun z9 => c_5 (congrArg nI z9.1))).symm dX2_takeNumber_17
  · refine lv_aload_n S.1 S.2.1 dX2_takeNumber_8 rfl (lv_at hl 0 rfl) ?_
    refine gf_X2_28 S hK hP 0 0 rfl rfl (show _ = some (Value.int (nI vv)) from rfl) dX2_takeNumber_9 ?_
    refine lv_iload_n S.1 S.2.1 dX2_takeNumber_12 rfl (lv_at hl 1 rfl) ?_
    refine lv_icmp_le (tgt := 18) S.1 S.2.1 dX2_takeNumber_13 (by decide) (fun c_13 => ?_) (fun c_13 => ?_)
    · have n_13 := Int32.not_lt.mpr c_13
      refine lv_aload_n S.1 S.2.1 dX2_takeNumber_18 rfl (lv_at hl 0 rfl) ?_
      refine gf_X2_28 S hK hP 0 0 rfl rfl (show _ = some (Value.int (nI vv)) from rfl) dX2_takeNumber_19 ?_
      refine lv_istore_n (lv' := [(2, .int (nI vv)), (0, .ref (ag 2)), (1, .int (nI M))]) S.1 S.2.1 dX2_takeNumber_22 rfl hl (by decide) rfl (fun ls hl => ?_)
      refine lv_aload_n S.1 S.2.1 dX2_takeNumber_23 rfl (lv_at hl 1 rfl) ?_
      refine go_V (run_V (As := []) (rest := []) (n := 0) S hK (bl_P hP [0, 1] rfl) (bl_D hD [0, 1] rfl rfl) (c_X2_step l E ag tp tb len bb ee ss vv hT hl9 hY.2.1) gV_X2_31 (by decide +kernel) rfl ⟨rfl, rfl⟩ ⟨Nat.le_of_ble_eq_true rfl, Nat.le_of_ble_eq_true rfl⟩ (ci := 2) (q0 := 0) rfl rfl hl.1 (Nat.le_of_ble_eq_true rfl) dX2_takeNumber_24 ⟨Nat.zero_le _, Nat.zero_le _⟩) hP hD hS [0, 1] rfl (had_cons ry_ad (had_cons rfl rfl)) (Bs' := [[rdY ag len (tkF tp len ee)], [(ag 3, .inl (E.2.2.1, 120, .inl (sg tb 120)))]]) rfl (fun H locs hP hD hS => ?_)
      obtain ⟨⟨b_24, e_24, s_24, v_24⟩, eY_24⟩ : ∃ zz9 : Ys, zz9 = tkF tp len ee := ⟨_, rfl⟩
      rw [← eY_24] at hP hD
      refine lv_iload_n S.1 S.2.1 dX2_takeNumber_27 rfl (lv_at hl 0 rfl) ?_
      exact retI S hr hlk (by rw [numC_ok (show okY (bb, ee, ss, vv) M from ⟨(nI_eq (a := ss) (b := 2) (by omega) (by decide)).mp c_5, le_of_nI (a := vv) (b := M) c_13 (by omega) (by omega)⟩)]; rw [eY_24] at hP; exact hP) hS (numA_ok (show okY (bb, ee, ss, vv) M from ⟨(nI_eq (a := ss) (b := 2) (by omega) (by decide)).mp c_5, le_of_nI (a := vv) (b := M) c_13 (by omega) (by omega)⟩)).symm dX2_takeNumber_28
    · have n_13 := Int32.not_le.mp c_13
      refine lv_iconst (v := (-1)) S.1 S.2.1 dX2_takeNumber_16 (by decide) ?_
      exact retI S hr hlk (by rw [numC_no (fun z9 => c_13 (nI_le z9.2 (by omega)))]; exact hP) hS (numA_no (fun z9 => c_13 (nI_le z9.2 (by omega)))).symm dX2_takeNumber_17
set_option maxHeartbeats 800000 in
set_option maxRecDepth 100000 in
theorem c_X2_isWord (l : Launch) (E : EV) (aS : Nat → Nat) (ag : Nat → Nat) (tp tb : Row) (len bb ee ss vv : Nat) (w9 : Nat) (hT : TR tp tb len) (hl9 : len ≤ 120) (hY : YI len (bb, ee, ss, vv)) (hw9 : w9 < 12) : Met l yX2_isWord (wq yX2_isWord cX2_isWord 3 (some .boolean)) ({ frames := 4, cells := 0, slots := 0, locals := 85 }) (preX E aS [.ref (ag 2), .ref (aS w9)] [[rdY ag len (bb, ee, ss, vv)], [(ag 3, .inl (E.2.2.1, 120, .inl (sg tb 120)))]]) (qS (bI (isW tp bb ee (nI ss) w9))) 0 0 (fun _ => False) := by
  refine M_mkX RX2 (by decide) rfl (Nat.le_of_ble_eq_true rfl) ?_
  intro p e s m below meth c S hr hlk hK hP hD hS hX ls hl
  have hl : lv_has ls 3 [(0, .ref (ag 2)), (1, .ref (aS w9))] := hl
  have hwl := tW_len w9 hw9
  have hy1 : bb ≤ ee := hY.1
  have hy2 : ee ≤ len := hY.2.1
  refine lv_aload_n S.1 S.2.1 dX2_isWord_0 rfl (lv_at hl 0 rfl) ?_
  refine gf_X2_19 S hK hP 0 0 rfl rfl (show _ = some (Value.int (nI ss)) from rfl) dX2_isWord_1 ?_
  refine lv_iconst (v := 1) S.1 S.2.1 dX2_isWord_4 (by decide) ?_
  refine lv_icmp_ne (tgt := 24) S.1 S.2.1 dX2_isWord_5 (by decide) (fun c_5 => ?_) (fun c_5 => ?_)
  · refine lv_iconst (v := 0) S.1 S.2.1 dX2_isWord_24 (by decide) ?_
    exact retSZ S hr hlk rfl (if_neg (fun z9 => c_5 (isW_s z9))).symm dX2_isWord_25
  · refine lv_aload_n S.1 S.2.1 dX2_isWord_8 rfl (lv_at hl 0 rfl) ?_
    refine gf_X2_25 S hK hP 0 0 rfl rfl (show _ = some (Value.int (nI ee)) from rfl) dX2_isWord_9 ?_
    refine lv_aload_n S.1 S.2.1 dX2_isWord_12 rfl (lv_at hl 0 rfl) ?_
    refine gf_X2_22 S hK hP 0 0 rfl rfl (show _ = some (Value.int (nI bb)) from rfl) dX2_isWord_13 ?_
    refine lv_isub S.1 S.2.1 dX2_isWord_16 ?_
    refine lv_eqi (y := nI (ee - bb)) (nI_sub hY.1) ?_
    refine lv_aload_n S.1 S.2.1 dX2_isWord_17 rfl (lv_at hl 1 rfl) ?_
    refine go_S (run_VJ (As := []) (rest := [.int (nI (ee - bb))]) (n := 0) S pSt_b (str_R (hX.2.1 w9 hw9).1 hS) (str_P hX (hX.2.1 w9 hw9).1 hS) (c_J0_length l (aS w9) (tW w9)) gV_X2_121 (by decide +kernel) rfl ⟨rfl, rfl⟩ ⟨Nat.le_of_ble_eq_true rfl, Nat.le_of_ble_eq_true rfl⟩ hl.1 (Nat.le_of_ble_eq_true rfl) dX2_isWord_18 ⟨Nat.zero_le _, Nat.zero_le _⟩) ?_
    refine lv_icmp_eq (tgt := 26) S.1 S.2.1 dX2_isWord_21 (by decide) (fun c_21 => ?_) (fun c_21 => ?_)
    · have hs1 := c_5
      have hel : ee - bb = (tW w9).length := (nI_eq (by omega) (by omega)).mp c_21
      refine lv_iconst (v := 0) S.1 S.2.1 dX2_isWord_26 (by decide) ?_
      refine lv_istore_n (lv' := [(2, .int 0), (0, .ref (ag 2)), (1, .ref (aS w9))]) S.1 S.2.1 dX2_isWord_27 rfl hl (by decide) rfl (fun ls hl => ?_)
      have L_28 : ∀ (fu : Nat) (k : Nat), (k ≤ (tW w9).length) → ((tW w9).length < k + fu) → (mtN tp bb (tW w9) k = true) → ∀ (ls : Array Slot), lv_has ls 3 [(0, .ref (ag 2)), (1, .ref (aS w9)), (2, .int (nI k))] → W p l e ({ frames := 4, cells := 0, slots := 0, locals := 85 }) s m ([.ref (ag 2), .ref (aS w9)] : List Value).toArray below meth c s.heap [] 0 0 (MQ below (qS (bI (isW tp bb ee (nI ss) w9))) ([.ref (ag 2), .ref (aS w9)] : List Value).toArray s 0 0 (fun _ => False)) (F0 m 28 ls []) := by
        intro fu
        induction fu with
        | zero =>
          intro k hk hf hz
          omega
        | succ fu ih_28 =>
          intro k hk hf hz ls hl
          refine lv_iload_n S.1 S.2.1 dX2_isWord_28 rfl (lv_at hl 2 rfl) ?_
          refine lv_aload_n S.1 S.2.1 dX2_isWord_29 rfl (lv_at hl 1 rfl) ?_
          refine go_S (run_VJ (As := []) (rest := [.int (nI k)]) (n := 0) S pSt_b (str_R (hX.2.1 w9 hw9).1 hS) (str_P hX (hX.2.1 w9 hw9).1 hS) (c_J0_length l (aS w9) (tW w9)) gV_X2_121 (by decide +kernel) rfl ⟨rfl, rfl⟩ ⟨Nat.le_of_ble_eq_true rfl, Nat.le_of_ble_eq_true rfl⟩ hl.1 (Nat.le_of_ble_eq_true rfl) dX2_isWord_30 ⟨Nat.zero_le _, Nat.zero_le _⟩) ?_
          refine lv_icmp_ge (tgt := 63) S.1 S.2.1 dX2_isWord_33 (by decide) (fun c_33 => ?_) (fun c_33 => ?_)
          · have n_33 := Int32.not_lt.mpr c_33
            refine lv_iconst (v := 1) S.1 S.2.1 dX2_isWord_63 (by decide) ?_
            exact retSZ S hr hlk rfl (if_pos (isW_y hs1 hel (by rw [← le_endK hk c_33 (by omega)]; exact hz))).symm dX2_isWord_64
          · have n_33 := Int32.not_le.mp c_33
            have hkl : k < (tW w9).length := lt_in c_33 hk
            have hin : bb + k + 1 ≤ len := by omega
            refine lv_aload_n S.1 S.2.1 dX2_isWord_36 rfl (lv_at hl 0 rfl) ?_
            refine gf_X2_9 S hK hP 0 0 rfl rfl (show _ = some (Value.ref (ag 3)) from rfl) dX2_isWord_37 ?_
            refine lv_aload_n S.1 S.2.1 dX2_isWord_40 rfl (lv_at hl 0 rfl) ?_
            refine gf_X2_22 S hK hP 0 0 rfl rfl (show _ = some (Value.int (nI bb)) from rfl) dX2_isWord_41 ?_
            refine lv_iload_n S.1 S.2.1 dX2_isWord_44 rfl (lv_at hl 2 rfl) ?_
            refine lv_iadd S.1 S.2.1 dX2_isWord_45 ?_
            refine lv_eqi (y := nI (bb + k)) (nI_add bb k) ?_
            refine b_baldN (i := bb + k) S hK hP 1 0 rfl rfl (by omega) (by decide) dX2_isWord_46 ?_
            refine lv_eqi (y := tb (bb + k)) (sg_at (by omega)) ?_
            refine lv_aload_n S.1 S.2.1 dX2_isWord_47 rfl (lv_at hl 1 rfl) ?_
            refine lv_iload_n S.1 S.2.1 dX2_isWord_48 rfl (lv_at hl 2 rfl) ?_
            refine go_S (run_VJ (As := [.int (nI k)]) (rest := [.int (tb (bb + k))]) (n := 1) S pSt_b (str_R (hX.2.1 w9 hw9).1 hS) (str_P hX (hX.2.1 w9 hw9).1 hS) (c_J0_charAt l (aS w9) k (tW w9) (by omega) (by omega)) gV_X2_125 (by decide +kernel) rfl ⟨rfl, rfl⟩ ⟨Nat.le_of_ble_eq_true rfl, Nat.le_of_ble_eq_true rfl⟩ hl.1 (Nat.le_of_ble_eq_true rfl) dX2_isWord_49 ⟨Nat.zero_le _, Nat.zero_le _⟩) ?_
            refine lv_icmp_eq (tgt := 57) S.1 S.2.1 dX2_isWord_52 (by decide) (fun c_52 => ?_) (fun c_52 => ?_)
            · refine lv_iinc (v := nI (k + 1)) (lv' := [(2, .int (nI (k + 1))), (0, .ref (ag 2)), (1, .ref (aS w9))]) S.1 S.2.1 dX2_isWord_57 hl (k := 2) rfl (nI_1 k) (by decide) rfl (fun ls hl => ?_)
              refine lv_goto (tgt := 28) S.1 S.2.1 dX2_isWord_60 (by decide) ?_
              exact ih_28 (k + 1) (by omega) (by omega) (mt_y hz (tr_c hT hin hw9 hkl c_52))  ls (lv_sub hl [1, 2, 0] rfl)
            · refine lv_iconst (v := 0) S.1 S.2.1 dX2_isWord_55 (by decide) ?_
              exact retSZ S hr hlk rfl (if_neg (isW_no (fun z9 => c_52 (tr_c2 hT hin hw9 hkl z9)) hkl)).symm dX2_isWord_56
      exact L_28 ((tW w9).length + 1) 0 (by omega) (by omega) rfl  ls (lv_sub hl [1, 2, 0] rfl)
    · refine lv_iconst (v := 0) S.1 S.2.1 dX2_isWord_24 (by decide) ?_
      exact retSZ S hr hlk rfl (if_neg (fun z9 => c_21 (congrArg nI (isW_l z9)))).symm dX2_isWord_25
set_option maxHeartbeats 800000 in
set_option maxRecDepth 100000 in
theorem c_X2_wordOfKind (l : Launch) (E : EV) (aS : Nat → Nat) (k : Nat) (hk : k < 7) : Met l yX2_wordOfKind (wq yX2_wordOfKind cX2_wordOfKind 1 (some (.object "java/lang/String"))) ({ frames := 0, cells := 0, slots := 0, locals := 0 }) (preX E aS [.int (nI k)] []) (qP (some (.ref (aS k)))) 0 0 nA := by
  refine M_mkX RX2 (by decide) rfl (Nat.le_of_ble_eq_true rfl) ?_
  intro p e s m below meth c S hr hlk hK hP hD hS hX ls hl
  have hl : lv_has ls 1 [(0, .int (nI k))] := hl
  refine lv_iload_n S.1 S.2.1 dX2_wordOfKind_0 rfl (lv_at hl 0 rfl) ?_
  by_cases k_1_1 : nI k = 1
  · refine lv_tableIn (tgt := 40) S.1 S.2.1 dX2_wordOfKind_1 (by rw [k_1_1]; decide) (by rw [k_1_1]; decide) (by rw [k_1_1]; rfl) (by decide) ?_
    refine va_ldcS (q := aS 1) (tx := "young") S.1 S.2.1 S.2.2.2.1 (hX.2.2.1 (RX2, 101, "young", 1) (List.mem_of_getElem? (i := 1) rfl)) dX2_wordOfKind_40 ?_
    exact retPr S hr hlk (by rw [show k = 1 from (nI_eq (b := 1) (by omega) (by decide)).mp k_1_1]) dX2_wordOfKind_42
  by_cases k_1_2 : nI k = 2
  · refine lv_tableIn (tgt := 43) S.1 S.2.1 dX2_wordOfKind_1 (by rw [k_1_2]; decide) (by rw [k_1_2]; decide) (by rw [k_1_2]; rfl) (by decide) ?_
    refine va_ldcS (q := aS 2) (tx := "old") S.1 S.2.1 S.2.2.2.1 (hX.2.2.1 (RX2, 103, "old", 2) (List.mem_of_getElem? (i := 2) rfl)) dX2_wordOfKind_43 ?_
    exact retPr S hr hlk (by rw [show k = 2 from (nI_eq (b := 2) (by omega) (by decide)).mp k_1_2]) dX2_wordOfKind_45
  by_cases k_1_3 : nI k = 3
  · refine lv_tableIn (tgt := 46) S.1 S.2.1 dX2_wordOfKind_1 (by rw [k_1_3]; decide) (by rw [k_1_3]; decide) (by rw [k_1_3]; rfl) (by decide) ?_
    refine va_ldcS (q := aS 3) (tx := "widower") S.1 S.2.1 S.2.2.2.1 (hX.2.2.1 (RX2, 105, "widower", 3) (List.mem_of_getElem? (i := 3) rfl)) dX2_wordOfKind_46 ?_
    exact retPr S hr hlk (by rw [show k = 3 from (nI_eq (b := 3) (by omega) (by decide)).mp k_1_3]) dX2_wordOfKind_48
  by_cases k_1_4 : nI k = 4
  · refine lv_tableIn (tgt := 49) S.1 S.2.1 dX2_wordOfKind_1 (by rw [k_1_4]; decide) (by rw [k_1_4]; decide) (by rw [k_1_4]; rfl) (by decide) ?_
    refine va_ldcS (q := aS 4) (tx := "abel") S.1 S.2.1 S.2.2.2.1 (hX.2.2.1 (RX2, 107, "abel", 4) (List.mem_of_getElem? (i := 4) rfl)) dX2_wordOfKind_49 ?_
    exact retPr S hr hlk (by rw [show k = 4 from (nI_eq (b := 4) (by omega) (by decide)).mp k_1_4]) dX2_wordOfKind_51
  by_cases k_1_5 : nI k = 5
  · refine lv_tableIn (tgt := 52) S.1 S.2.1 dX2_wordOfKind_1 (by rw [k_1_5]; decide) (by rw [k_1_5]; decide) (by rw [k_1_5]; rfl) (by decide) ?_
    refine va_ldcS (q := aS 5) (tx := "stone") S.1 S.2.1 S.2.2.2.1 (hX.2.2.1 (RX2, 109, "stone", 5) (List.mem_of_getElem? (i := 5) rfl)) dX2_wordOfKind_52 ?_
    exact retPr S hr hlk (by rw [show k = 5 from (nI_eq (b := 5) (by omega) (by decide)).mp k_1_5]) dX2_wordOfKind_54
  by_cases k_1_6 : nI k = 6
  · refine lv_tableIn (tgt := 55) S.1 S.2.1 dX2_wordOfKind_1 (by rw [k_1_6]; decide) (by rw [k_1_6]; decide) (by rw [k_1_6]; rfl) (by decide) ?_
    refine va_ldcS (q := aS 6) (tx := "lad") S.1 S.2.1 S.2.2.2.1 (hX.2.2.1 (RX2, 111, "lad", 6) (List.mem_of_getElem? (i := 6) rfl)) dX2_wordOfKind_55 ?_
    exact retPr S hr hlk (by rw [show k = 6 from (nI_eq (b := 6) (by omega) (by decide)).mp k_1_6]) dX2_wordOfKind_57
  have t_1_1 := ne_toInt (n := 1) (by decide) k_1_1
  have t_1_2 := ne_toInt (n := 2) (by decide) k_1_2
  have t_1_3 := ne_toInt (n := 3) (by decide) k_1_3
  have t_1_4 := ne_toInt (n := 4) (by decide) k_1_4
  have t_1_5 := ne_toInt (n := 5) (by decide) k_1_5
  have t_1_6 := ne_toInt (n := 6) (by decide) k_1_6
  refine lv_tableOut (tgt := 58) S.1 S.2.1 dX2_wordOfKind_1 (by omega) (by decide) ?_
  refine va_ldcS (q := aS 0) (tx := "potter") S.1 S.2.1 S.2.2.2.1 (hX.2.2.1 (RX2, 113, "potter", 0) (List.mem_of_getElem? (i := 0) rfl)) dX2_wordOfKind_58 ?_
  exact retPr S hr hlk (by rw [show k = 0 by (have zk_1_1 : ¬ k = 1 := (fun z9 => k_1_1 (by rw [z9]; rfl)); have zk_1_2 : ¬ k = 2 := (fun z9 => k_1_2 (by rw [z9]; rfl)); have zk_1_3 : ¬ k = 3 := (fun z9 => k_1_3 (by rw [z9]; rfl)); have zk_1_4 : ¬ k = 4 := (fun z9 => k_1_4 (by rw [z9]; rfl)); have zk_1_5 : ¬ k = 5 := (fun z9 => k_1_5 (by rw [z9]; rfl)); have zk_1_6 : ¬ k = 6 := (fun z9 => k_1_6 (by rw [z9]; rfl)); omega)]) dX2_wordOfKind_60
set_option maxHeartbeats 800000 in
set_option maxRecDepth 100000 in
theorem c_X2_wordOfDetail (l : Launch) (E : EV) (aS : Nat → Nat) (k : Nat) (hk : 1 ≤ k ∧ k ≤ 3) : Met l yX2_wordOfDetail (wq yX2_wordOfDetail cX2_wordOfDetail 1 (some (.object "java/lang/String"))) ({ frames := 0, cells := 0, slots := 0, locals := 0 }) (preX E aS [.int (nI k)] []) (qP (some (.ref (aS (6 + k))))) 0 0 nA := by
  refine M_mkX RX2 (by decide) rfl (Nat.le_of_ble_eq_true rfl) ?_
  intro p e s m below meth c S hr hlk hK hP hD hS hX ls hl
  have hl : lv_has ls 1 [(0, .int (nI k))] := hl
  refine lv_iload_n S.1 S.2.1 dX2_wordOfDetail_0 rfl (lv_at hl 0 rfl) ?_
  by_cases k_1_1 : nI k = 1
  · refine lv_lookup (tgt := 28) (off := 27) S.1 S.2.1 dX2_wordOfDetail_1 (by decide) (by first | (rw [k_1_1]; done) | (rw [k_1_1]; rfl)) (by decide) ?_
    refine va_ldcS (q := aS 7) (tx := "grief") S.1 S.2.1 S.2.2.2.1 (hX.2.2.1 (RX2, 115, "grief", 7) (List.mem_of_getElem? (i := 7) rfl)) dX2_wordOfDetail_28 ?_
    exact retPr S hr hlk (by rw [show k = 1 from (nI_eq (b := 1) (by omega) (by decide)).mp k_1_1]) dX2_wordOfDetail_30
  by_cases k_1_2 : nI k = 2
  · refine lv_lookup (tgt := 31) (off := 30) S.1 S.2.1 dX2_wordOfDetail_1 (by decide) (by first | (rw [k_1_2]; done) | (rw [k_1_2]; rfl)) (by decide) ?_
    refine va_ldcS (q := aS 8) (tx := "hours") S.1 S.2.1 S.2.2.2.1 (hX.2.2.1 (RX2, 117, "hours", 8) (List.mem_of_getElem? (i := 8) rfl)) dX2_wordOfDetail_31 ?_
    exact retPr S hr hlk (by rw [show k = 2 from (nI_eq (b := 2) (by omega) (by decide)).mp k_1_2]) dX2_wordOfDetail_33
  have t_1_1 := ne_toInt (n := 1) (by decide) k_1_1
  have t_1_2 := ne_toInt (n := 2) (by decide) k_1_2
  refine lv_lookup (tgt := 34) (off := 33) S.1 S.2.1 dX2_wordOfDetail_1 (by decide) (by simp [Op.lookupswitch.offset, Ne.symm t_1_1, t_1_1, Ne.symm t_1_2, t_1_2]) (by decide) ?_
  refine va_ldcS (q := aS 9) (tx := "run") S.1 S.2.1 S.2.2.2.1 (hX.2.2.1 (RX2, 119, "run", 9) (List.mem_of_getElem? (i := 9) rfl)) dX2_wordOfDetail_34 ?_
  exact retPr S hr hlk (by rw [show k = 3 by (have zk_1_1 : ¬ k = 1 := (fun z9 => k_1_1 (by rw [z9]; rfl)); have zk_1_2 : ¬ k = 2 := (fun z9 => k_1_2 (by rw [z9]; rfl)); omega)]) dX2_wordOfDetail_36
set_option maxHeartbeats 800000 in
set_option maxRecDepth 100000 in
theorem c_X2_kindOfWord (l : Launch) (E : EV) (aS : Nat → Nat) (ag : Nat → Nat) (tp tb : Row) (len bb ee ss vv : Nat) (hT : TR tp tb len) (hl9 : len ≤ 120) (hY : YI len (bb, ee, ss, vv)) : Met l yX2_kindOfWord (wq yX2_kindOfWord cX2_kindOfWord 2 (some .int)) ({ frames := 5, cells := 0, slots := 0, locals := 107 }) (preX E aS [.ref (ag 2)] [[rdY ag len (bb, ee, ss, vv)], [(ag 3, .inl (E.2.2.1, 120, .inl (sg tb 120)))]]) (qS (kwC tp (bb, ee, ss, vv))) 0 0 (fun _ => False) := by
  refine M_mkX RX2 (by decide) rfl (Nat.le_of_ble_eq_true rfl) ?_
  intro p e s m below meth c S hr hlk hK hP hD hS hX ls hl
  have hl : lv_has ls 2 [(0, .ref (ag 2))] := hl
  refine lv_iconst (v := 0) S.1 S.2.1 dX2_kindOfWord_0 (by decide) ?_
  refine lv_istore_n (lv' := [(1, .int 0), (0, .ref (ag 2))]) S.1 S.2.1 dX2_kindOfWord_1 rfl hl (by decide) rfl (fun ls hl => ?_)
  have L_2 : ∀ (fu : Nat) (k : Nat), (k ≤ 7) → (7 < k + fu) → (∀ j, j < k → decide (isW tp bb ee (nI ss) j) = false) → ∀ (ls : Array Slot), lv_has ls 2 [(0, .ref (ag 2)), (1, .int (nI k))] → W p l e ({ frames := 5, cells := 0, slots := 0, locals := 107 }) s m ([.ref (ag 2)] : List Value).toArray below meth c s.heap [] 0 0 (MQ below (qS (kwC tp (bb, ee, ss, vv))) ([.ref (ag 2)] : List Value).toArray s 0 0 (fun _ => False)) (F0 m 2 ls []) := by
    intro fu
    induction fu with
    | zero =>
      intro k hk hf hno
      omega
    | succ fu ih_2 =>
      intro k hk hf hno ls hl
      refine lv_iload_n S.1 S.2.1 dX2_kindOfWord_2 rfl (lv_at hl 1 rfl) ?_
      refine lv_bipush (v := 7) S.1 S.2.1 dX2_kindOfWord_3 (by decide) ?_
      refine lv_icmp_ge (tgt := 27) S.1 S.2.1 dX2_kindOfWord_5 (by decide) (fun c_5 => ?_) (fun c_5 => ?_)
      · have n_5 := Int32.not_lt.mpr c_5
        have hk9 : k = 7 := le_endK (n := 7) hk c_5 (by decide)
        refine lv_iconst (v := (-1)) S.1 S.2.1 dX2_kindOfWord_27 (by decide) ?_
        exact retS S hr hlk (kwC_n (fun j hj => hno j (by omega))).symm dX2_kindOfWord_28
      · have n_5 := Int32.not_le.mp c_5
        have hk2 : k < 7 := lt_in (n := 7) c_5 hk
        refine lv_aload_n S.1 S.2.1 dX2_kindOfWord_8 rfl (lv_at hl 0 rfl) ?_
        refine lv_iload_n S.1 S.2.1 dX2_kindOfWord_9 rfl (lv_at hl 1 rfl) ?_
        refine go_Pr (run_SX (As := [.int (nI k)]) (rest := [.ref (ag 2)]) (n := 1) S hK (bl_P hP [] rfl) (bl_D hD [] rfl rfl) (EX_c hX hS hD [] rfl) (c_X2_wordOfKind l E aS k (by omega)) gS_X2_98 (by decide +kernel) rfl ⟨rfl, rfl⟩ ⟨Nat.le_of_ble_eq_true rfl, Nat.le_of_ble_eq_true rfl⟩ hl.1 (Nat.le_of_ble_eq_true rfl) dX2_kindOfWord_10 ⟨Nat.zero_le _, Nat.zero_le _⟩) ?_
        refine go_S (run_VX (As := [.ref (aS k)]) (rest := []) (n := 1) S hK (bl_P hP [0, 1] rfl) (bl_D hD [0, 1] rfl rfl) (EX_c hX hS hD [0, 1] rfl) (c_X2_isWord l E aS ag tp tb len bb ee ss vv k hT hl9 hY (by omega)) gV_X2_40 (by decide +kernel) rfl ⟨rfl, rfl⟩ ⟨Nat.le_of_ble_eq_true rfl, Nat.le_of_ble_eq_true rfl⟩ (ci := 2) (q0 := 0) rfl rfl hl.1 (Nat.le_of_ble_eq_true rfl) dX2_kindOfWord_13 ⟨Nat.zero_le _, Nat.zero_le _⟩) ?_
        refine b_ifeq (tgt := 21) S.1 S.2.1 dX2_kindOfWord_16 (by decide) (fun c_16 => ?_) (fun c_16 => ?_)
        · refine lv_iinc (v := nI (k + 1)) (lv' := [(1, .int (nI (k + 1))), (0, .ref (ag 2))]) S.1 S.2.1 dX2_kindOfWord_21 hl (k := 1) rfl (nI_1 k) (by decide) rfl (fun ls hl => ?_)
          refine lv_goto (tgt := 2) S.1 S.2.1 dX2_kindOfWord_24 (by decide) ?_
          exact ih_2 (k + 1) (by omega) (by omega) (lt_s hno (decide_eq_false c_16))  ls (lv_sub hl [1, 0] rfl)
        · refine lv_iload_n S.1 S.2.1 dX2_kindOfWord_19 rfl (lv_at hl 1 rfl) ?_
          exact retS S hr hlk (kwC_y hk2 hno (decide_eq_true c_16)).symm dX2_kindOfWord_20
  exact L_2 8 0 (by omega) (by omega) (fun j hj => absurd hj (by omega))  ls (lv_sub hl [1, 0] rfl)
