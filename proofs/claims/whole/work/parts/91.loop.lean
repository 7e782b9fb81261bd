/-! the law's loop -/
theorem and63 (x : Int32) : ∃ j : Nat, j < 64 ∧ x &&& 63 = nI j := ⟨x.toBitVec.toNat % 64, Nat.mod_lt _ (by decide), by
  apply Int32.toBitVec_inj.mp
  show x.toBitVec &&& 63#32 = BitVec.ofNat 32 (x.toBitVec.toNat % 64)
  apply BitVec.eq_of_toNat_eq
  rw [BitVec.toNat_and, BitVec.toNat_ofNat, BitVec.toNat_ofNat]
  have h := Nat.and_two_pow_sub_one_eq_mod x.toBitVec.toNat 6
  have h2 : x.toBitVec.toNat % 64 < 64 := Nat.mod_lt _ (by decide)
  rw [Nat.mod_eq_of_lt (show x.toBitVec.toNat % 64 < 2 ^ 32 by omega)]
  exact h⟩
theorem lw_nx {L i : Nat} (hL : L ≤ 3072) (hi : i ≤ L + 5) (h : ¬ (Int32.ofNat L - 6 < nI i)) : i + 6 ≤ L := by
  have e1 : (Int32.ofNat L).toInt = L := Int32.toInt_ofNat_of_lt (by omega)
  have e2 : (nI i).toInt = i := Int32.toInt_ofNat_of_lt (by omega)
  rw [Int32.lt_iff_toInt_lt, Int32.toInt_sub, e1, e2] at h
  have e3 : ((L : Int) - (6 : Int32).toInt).bmod (2 ^ 32) = (L : Int) - 6 := by
    show Int.bmod ((L : Int) - 6) 4294967296 = _
    unfold Int.bmod
    simp only
    split <;> omega
  rw [e3] at h
  omega
theorem lw_out {j : Nat} (h : 40 ≤ j) (h2 : j < 64) : (39 : Int) < (nI j).toInt := by
  have e : (nI j).toInt = j := Int32.toInt_ofNat_of_lt (by omega)
  rw [e]
  omega
section LWL
variable {p : Program} {l : Launch} {e : Env} {s : State} {m : MethodId} {below : List Frame} {meth : Method} {c : Code} {H : Heap} {locs : List Loc} {cells slots : Nat} {Q : State → Prop} {c0 : Cond} {E : EV} {aS ag ah az ak am : Nat → Nat} {A : Nat → Prop} {b L : Nat} {xs : Nat → Int32}
theorem law_at (S : CallFix p m c code 4 s #[Value.ref b] (c0 :: GW) RL) (hK : KE E s) (hX : EX aS A s s.heap) (hXs : va_X b L xs s s.heap) (hbl : b < s.heap.size) (hbA : ¬ A b) (hcc : cells ≤ room_1.cells) (hss : slots ≤ room_1.slots) (hL : L ≤ 3072) (i0 : Int32) (r x k z u y tb f : Row) (len : Nat) (Y : Ys) (q r2 k2 x2 f2 tp it mv : Row) (hI : Inv i0 r k u tb f len q r2 k2 f2 tp) (hP : PE E (LW E aS ag ah az ak am i0 r x k z u y tb f len Y q r2 k2 x2 f2 tp it mv) H) (hD : DE A (LW E aS ag ah az ak am i0 r x k z u y tb f len Y q r2 k2 x2 f2 tp it mv)) (hS : va_S A s.heap H locs) {i : Nat} (hi : i + 6 ≤ L) {ls : Array Slot} (hl : lv_has ls 4 [(0, .ref b), (1, .ref (ag 0)), (2, .ref (am 0)), (3, .int (nI i))]) (kk : KK p l e s m below meth c b E aS ag ah az ak am A cells slots Q i) {j : Nat} (hj : j < 64) : W p l e room_1 s m #[Value.ref b] below meth c H locs cells slots Q (F0 m 33 ls [.int (nI j)]) := by
  by_cases h : j = 0
  · subst h
    refine lv_eqi (y := 0) (by decide) ?_
    refine lv_tableIn (tgt := 208) S.1 S.2.1 dL_law_33 (by decide) (by decide) rfl (by decide) ?_
    exact law_0 S hK hX hXs hbl hbA hcc hss hL i0 r x k z u y tb f len Y q r2 k2 x2 f2 tp it mv hI hP hD hS hi hl kk
  by_cases h : j = 1
  · subst h
    refine lv_eqi (y := 1) (by decide) ?_
    refine lv_tableIn (tgt := 241) S.1 S.2.1 dL_law_33 (by decide) (by decide) rfl (by decide) ?_
    exact law_1 S hK hX hXs hbl hbA hcc hss hL i0 r x k z u y tb f len Y q r2 k2 x2 f2 tp it mv hI hP hD hS hi hl kk
  by_cases h : j = 2
  · subst h
    refine lv_eqi (y := 2) (by decide) ?_
    refine lv_tableIn (tgt := 264) S.1 S.2.1 dL_law_33 (by decide) (by decide) rfl (by decide) ?_
    exact law_2 S hK hX hXs hbl hbA hcc hss hL i0 r x k z u y tb f len Y q r2 k2 x2 f2 tp it mv hI hP hD hS hi hl kk
  by_cases h : j = 3
  · subst h
    refine lv_eqi (y := 3) (by decide) ?_
    refine lv_tableIn (tgt := 287) S.1 S.2.1 dL_law_33 (by decide) (by decide) rfl (by decide) ?_
    exact law_3 S hK hX hXs hbl hbA hcc hss hL i0 r x k z u y tb f len Y q r2 k2 x2 f2 tp it mv hI hP hD hS hi hl kk
  by_cases h : j = 4
  · subst h
    refine lv_eqi (y := 4) (by decide) ?_
    refine lv_tableIn (tgt := 320) S.1 S.2.1 dL_law_33 (by decide) (by decide) rfl (by decide) ?_
    exact law_4 S hK hX hXs hbl hbA hcc hss hL i0 r x k z u y tb f len Y q r2 k2 x2 f2 tp it mv hI hP hD hS hi hl kk
  by_cases h : j = 5
  · subst h
    refine lv_eqi (y := 5) (by decide) ?_
    refine lv_tableIn (tgt := 353) S.1 S.2.1 dL_law_33 (by decide) (by decide) rfl (by decide) ?_
    exact law_5 S hK hX hXs hbl hbA hcc hss hL i0 r x k z u y tb f len Y q r2 k2 x2 f2 tp it mv hI hP hD hS hi hl kk
  by_cases h : j = 6
  · subst h
    refine lv_eqi (y := 6) (by decide) ?_
    refine lv_tableIn (tgt := 396) S.1 S.2.1 dL_law_33 (by decide) (by decide) rfl (by decide) ?_
    exact law_6 S hK hX hXs hbl hbA hcc hss hL i0 r x k z u y tb f len Y q r2 k2 x2 f2 tp it mv hI hP hD hS hi hl kk
  by_cases h : j = 7
  · subst h
    refine lv_eqi (y := 7) (by decide) ?_
    refine lv_tableIn (tgt := 419) S.1 S.2.1 dL_law_33 (by decide) (by decide) rfl (by decide) ?_
    exact law_7 S hK hX hXs hbl hbA hcc hss hL i0 r x k z u y tb f len Y q r2 k2 x2 f2 tp it mv hI hP hD hS hi hl kk
  by_cases h : j = 8
  · subst h
    refine lv_eqi (y := 8) (by decide) ?_
    refine lv_tableIn (tgt := 442) S.1 S.2.1 dL_law_33 (by decide) (by decide) rfl (by decide) ?_
    exact law_8 S hK hX hXs hbl hbA hcc hss hL i0 r x k z u y tb f len Y q r2 k2 x2 f2 tp it mv hI hP hD hS hi hl kk
  by_cases h : j = 9
  · subst h
    refine lv_eqi (y := 9) (by decide) ?_
    refine lv_tableIn (tgt := 485) S.1 S.2.1 dL_law_33 (by decide) (by decide) rfl (by decide) ?_
    exact law_9 S hK hX hXs hbl hbA hcc hss hL i0 r x k z u y tb f len Y q r2 k2 x2 f2 tp it mv hI hP hD hS hi hl kk
  by_cases h : j = 10
  · subst h
    refine lv_eqi (y := 10) (by decide) ?_
    refine lv_tableIn (tgt := 508) S.1 S.2.1 dL_law_33 (by decide) (by decide) rfl (by decide) ?_
    exact law_10 S hK hX hXs hbl hbA hcc hss hL i0 r x k z u y tb f len Y q r2 k2 x2 f2 tp it mv hI hP hD hS hi hl kk
  by_cases h : j = 11
  · subst h
    refine lv_eqi (y := 11) (by decide) ?_
    refine lv_tableIn (tgt := 541) S.1 S.2.1 dL_law_33 (by decide) (by decide) rfl (by decide) ?_
    exact law_11 S hK hX hXs hbl hbA hcc hss hL i0 r x k z u y tb f len Y q r2 k2 x2 f2 tp it mv hI hP hD hS hi hl kk
  by_cases h : j = 12
  · subst h
    refine lv_eqi (y := 12) (by decide) ?_
    refine lv_tableIn (tgt := 564) S.1 S.2.1 dL_law_33 (by decide) (by decide) rfl (by decide) ?_
    exact law_12 S hK hX hXs hbl hbA hcc hss hL i0 r x k z u y tb f len Y q r2 k2 x2 f2 tp it mv hI hP hD hS hi hl kk
  by_cases h : j = 13
  · subst h
    refine lv_eqi (y := 13) (by decide) ?_
    refine lv_tableIn (tgt := 597) S.1 S.2.1 dL_law_33 (by decide) (by decide) rfl (by decide) ?_
    exact law_13 S hK hX hXs hbl hbA hcc hss hL i0 r x k z u y tb f len Y q r2 k2 x2 f2 tp it mv hI hP hD hS hi hl kk
  by_cases h : j = 14
  · subst h
    refine lv_eqi (y := 14) (by decide) ?_
    refine lv_tableIn (tgt := 640) S.1 S.2.1 dL_law_33 (by decide) (by decide) rfl (by decide) ?_
    exact law_14 S hK hX hXs hbl hbA hcc hss hL i0 r x k z u y tb f len Y q r2 k2 x2 f2 tp it mv hI hP hD hS hi hl kk
  by_cases h : j = 15
  · subst h
    refine lv_eqi (y := 15) (by decide) ?_
    refine lv_tableIn (tgt := 673) S.1 S.2.1 dL_law_33 (by decide) (by decide) rfl (by decide) ?_
    exact law_15 S hK hX hXs hbl hbA hcc hss hL i0 r x k z u y tb f len Y q r2 k2 x2 f2 tp it mv hI hP hD hS hi hl kk
  by_cases h : j = 16
  · subst h
    refine lv_eqi (y := 16) (by decide) ?_
    refine lv_tableIn (tgt := 706) S.1 S.2.1 dL_law_33 (by decide) (by decide) rfl (by decide) ?_
    exact law_16 S hK hX hXs hbl hbA hcc hss hL i0 r x k z u y tb f len Y q r2 k2 x2 f2 tp it mv hI hP hD hS hi hl kk
  by_cases h : j = 17
  · subst h
    refine lv_eqi (y := 17) (by decide) ?_
    refine lv_tableIn (tgt := 739) S.1 S.2.1 dL_law_33 (by decide) (by decide) rfl (by decide) ?_
    exact law_17 S hK hX hXs hbl hbA hcc hss hL i0 r x k z u y tb f len Y q r2 k2 x2 f2 tp it mv hI hP hD hS hi hl kk
  by_cases h : j = 18
  · subst h
    refine lv_eqi (y := 18) (by decide) ?_
    refine lv_tableIn (tgt := 772) S.1 S.2.1 dL_law_33 (by decide) (by decide) rfl (by decide) ?_
    exact law_18 S hK hX hXs hbl hbA hcc hss hL i0 r x k z u y tb f len Y q r2 k2 x2 f2 tp it mv hI hP hD hS hi hl kk
  by_cases h : j = 19
  · subst h
    refine lv_eqi (y := 19) (by decide) ?_
    refine lv_tableIn (tgt := 805) S.1 S.2.1 dL_law_33 (by decide) (by decide) rfl (by decide) ?_
    exact law_19 S hK hX hXs hbl hbA hcc hss hL i0 r x k z u y tb f len Y q r2 k2 x2 f2 tp it mv hI hP hD hS hi hl kk
  by_cases h : j = 20
  · subst h
    refine lv_eqi (y := 20) (by decide) ?_
    refine lv_tableIn (tgt := 838) S.1 S.2.1 dL_law_33 (by decide) (by decide) rfl (by decide) ?_
    exact law_20 S hK hX hXs hbl hbA hcc hss hL i0 r x k z u y tb f len Y q r2 k2 x2 f2 tp it mv hI hP hD hS hi hl kk
  by_cases h : j = 21
  · subst h
    refine lv_eqi (y := 21) (by decide) ?_
    refine lv_tableIn (tgt := 871) S.1 S.2.1 dL_law_33 (by decide) (by decide) rfl (by decide) ?_
    exact law_21 S hK hX hXs hbl hbA hcc hss hL i0 r x k z u y tb f len Y q r2 k2 x2 f2 tp it mv hI hP hD hS hi hl kk
  by_cases h : j = 22
  · subst h
    refine lv_eqi (y := 22) (by decide) ?_
    refine lv_tableIn (tgt := 904) S.1 S.2.1 dL_law_33 (by decide) (by decide) rfl (by decide) ?_
    exact law_22 S hK hX hXs hbl hbA hcc hss hL i0 r x k z u y tb f len Y q r2 k2 x2 f2 tp it mv hI hP hD hS hi hl kk
  by_cases h : j = 23
  · subst h
    refine lv_eqi (y := 23) (by decide) ?_
    refine lv_tableIn (tgt := 927) S.1 S.2.1 dL_law_33 (by decide) (by decide) rfl (by decide) ?_
    exact law_23 S hK hX hXs hbl hbA hcc hss hL i0 r x k z u y tb f len Y q r2 k2 x2 f2 tp it mv hI hP hD hS hi hl kk
  by_cases h : j = 24
  · subst h
    refine lv_eqi (y := 24) (by decide) ?_
    refine lv_tableIn (tgt := 971) S.1 S.2.1 dL_law_33 (by decide) (by decide) rfl (by decide) ?_
    exact law_24 S hK hX hXs hbl hbA hcc hss hL i0 r x k z u y tb f len Y q r2 k2 x2 f2 tp it mv hI hP hD hS hi hl kk
  by_cases h : j = 25
  · subst h
    refine lv_eqi (y := 25) (by decide) ?_
    refine lv_tableIn (tgt := 994) S.1 S.2.1 dL_law_33 (by decide) (by decide) rfl (by decide) ?_
    exact law_25 S hK hX hXs hbl hbA hcc hss hL i0 r x k z u y tb f len Y q r2 k2 x2 f2 tp it mv hI hP hD hS hi hl kk
  by_cases h : j = 26
  · subst h
    refine lv_eqi (y := 26) (by decide) ?_
    refine lv_tableIn (tgt := 1027) S.1 S.2.1 dL_law_33 (by decide) (by decide) rfl (by decide) ?_
    exact law_26 S hK hX hXs hbl hbA hcc hss hL i0 r x k z u y tb f len Y q r2 k2 x2 f2 tp it mv hI hP hD hS hi hl kk
  by_cases h : j = 27
  · subst h
    refine lv_eqi (y := 27) (by decide) ?_
    refine lv_tableIn (tgt := 1040) S.1 S.2.1 dL_law_33 (by decide) (by decide) rfl (by decide) ?_
    exact law_27 S hK hX hXs hbl hbA hcc hss hL i0 r x k z u y tb f len Y q r2 k2 x2 f2 tp it mv hI hP hD hS hi hl kk
  by_cases h : j = 28
  · subst h
    refine lv_eqi (y := 28) (by decide) ?_
    refine lv_tableIn (tgt := 1053) S.1 S.2.1 dL_law_33 (by decide) (by decide) rfl (by decide) ?_
    exact law_28 S hK hX hXs hbl hbA hcc hss hL i0 r x k z u y tb f len Y q r2 k2 x2 f2 tp it mv hI hP hD hS hi hl kk
  by_cases h : j = 29
  · subst h
    refine lv_eqi (y := 29) (by decide) ?_
    refine lv_tableIn (tgt := 1086) S.1 S.2.1 dL_law_33 (by decide) (by decide) rfl (by decide) ?_
    exact law_29 S hK hX hXs hbl hbA hcc hss hL i0 r x k z u y tb f len Y q r2 k2 x2 f2 tp it mv hI hP hD hS hi hl kk
  by_cases h : j = 30
  · subst h
    refine lv_eqi (y := 30) (by decide) ?_
    refine lv_tableIn (tgt := 1119) S.1 S.2.1 dL_law_33 (by decide) (by decide) rfl (by decide) ?_
    exact law_30 S hK hX hXs hbl hbA hcc hss hL i0 r x k z u y tb f len Y q r2 k2 x2 f2 tp it mv hI hP hD hS hi hl kk
  by_cases h : j = 31
  · subst h
    refine lv_eqi (y := 31) (by decide) ?_
    refine lv_tableIn (tgt := 1162) S.1 S.2.1 dL_law_33 (by decide) (by decide) rfl (by decide) ?_
    exact law_31 S hK hX hXs hbl hbA hcc hss hL i0 r x k z u y tb f len Y q r2 k2 x2 f2 tp it mv hI hP hD hS hi hl kk
  by_cases h : j = 32
  · subst h
    refine lv_eqi (y := 32) (by decide) ?_
    refine lv_tableIn (tgt := 1205) S.1 S.2.1 dL_law_33 (by decide) (by decide) rfl (by decide) ?_
    exact law_32 S hK hX hXs hbl hbA hcc hss hL i0 r x k z u y tb f len Y q r2 k2 x2 f2 tp it mv hI hP hD hS hi hl kk
  by_cases h : j = 33
  · subst h
    refine lv_eqi (y := 33) (by decide) ?_
    refine lv_tableIn (tgt := 1268) S.1 S.2.1 dL_law_33 (by decide) (by decide) rfl (by decide) ?_
    exact law_33 S hK hX hXs hbl hbA hcc hss hL i0 r x k z u y tb f len Y q r2 k2 x2 f2 tp it mv hI hP hD hS hi hl kk
  by_cases h : j = 34
  · subst h
    refine lv_eqi (y := 34) (by decide) ?_
    refine lv_tableIn (tgt := 1291) S.1 S.2.1 dL_law_33 (by decide) (by decide) rfl (by decide) ?_
    exact law_34 S hK hX hXs hbl hbA hcc hss hL i0 r x k z u y tb f len Y q r2 k2 x2 f2 tp it mv hI hP hD hS hi hl kk
  by_cases h : j = 35
  · subst h
    refine lv_eqi (y := 35) (by decide) ?_
    refine lv_tableIn (tgt := 1314) S.1 S.2.1 dL_law_33 (by decide) (by decide) rfl (by decide) ?_
    exact law_35 S hK hX hXs hbl hbA hcc hss hL i0 r x k z u y tb f len Y q r2 k2 x2 f2 tp it mv hI hP hD hS hi hl kk
  by_cases h : j = 36
  · subst h
    refine lv_eqi (y := 36) (by decide) ?_
    refine lv_tableIn (tgt := 1327) S.1 S.2.1 dL_law_33 (by decide) (by decide) rfl (by decide) ?_
    exact law_36 S hK hX hXs hbl hbA hcc hss hL i0 r x k z u y tb f len Y q r2 k2 x2 f2 tp it mv hI hP hD hS hi hl kk
  by_cases h : j = 37
  · subst h
    refine lv_eqi (y := 37) (by decide) ?_
    refine lv_tableIn (tgt := 1340) S.1 S.2.1 dL_law_33 (by decide) (by decide) rfl (by decide) ?_
    exact law_37 S hK hX hXs hbl hbA hcc hss hL i0 r x k z u y tb f len Y q r2 k2 x2 f2 tp it mv hI hP hD hS hi hl kk
  by_cases h : j = 38
  · subst h
    refine lv_eqi (y := 38) (by decide) ?_
    refine lv_tableIn (tgt := 1353) S.1 S.2.1 dL_law_33 (by decide) (by decide) rfl (by decide) ?_
    exact law_38 S hK hX hXs hbl hbA hcc hss hL i0 r x k z u y tb f len Y q r2 k2 x2 f2 tp it mv hI hP hD hS hi hl kk
  by_cases h : j = 39
  · subst h
    refine lv_eqi (y := 39) (by decide) ?_
    refine lv_tableIn (tgt := 1376) S.1 S.2.1 dL_law_33 (by decide) (by decide) rfl (by decide) ?_
    exact law_39 S hK hX hXs hbl hbA hcc hss hL i0 r x k z u y tb f len Y q r2 k2 x2 f2 tp it mv hI hP hD hS hi hl kk
  refine lv_tableOut (tgt := 1399) S.1 S.2.1 dL_law_33 (Or.inr (lw_out (by omega) hj)) (by decide) ?_
  exact kk i0 r x k z u y tb f len Y q r2 k2 x2 f2 tp it mv H locs ls hI hP hD hS hl
theorem law_loop (S : CallFix p m c code 4 s #[Value.ref b] (c0 :: GW) RL) (hK : KE E s) (hX : EX aS A s s.heap) (hXs : va_X b L xs s s.heap) (hbl : b < s.heap.size) (hbA : ¬ A b) (hcc : cells ≤ room_1.cells) (hss : slots ≤ room_1.slots) (hL : L ≤ 3072) (kend : ∀ (H : Heap) (locs : List Loc) (ls : Array Slot), va_S A s.heap H locs → W p l e room_1 s m #[Value.ref b] below meth c H locs cells slots Q (F0 m 1405 ls [])) : ∀ (n i : Nat), i ≤ L + 5 → L < i + n → ∀ (i0 : Int32) (r x k z u y tb f : Row) (len : Nat) (Y : Ys) (q r2 k2 x2 f2 tp it mv : Row) (H : Heap) (locs : List Loc), Inv i0 r k u tb f len q r2 k2 f2 tp → PE E (LW E aS ag ah az ak am i0 r x k z u y tb f len Y q r2 k2 x2 f2 tp it mv) H → DE A (LW E aS ag ah az ak am i0 r x k z u y tb f len Y q r2 k2 x2 f2 tp it mv) → va_S A s.heap H locs → ∀ ls : Array Slot, lv_has ls 4 [(0, .ref b), (1, .ref (ag 0)), (2, .ref (am 0)), (3, .int (nI i))] → W p l e room_1 s m #[Value.ref b] below meth c H locs cells slots Q (F0 m 18 ls []) := by
  intro n
  induction n with
  | zero =>
    intro i hi hn i0 r x k z u y tb f len Y q r2 k2 x2 f2 tp it mv H locs hI hP hD hS ls hl
    refine lv_iload_n S.1 S.2.1 dL_law_18 rfl (lv_at hl 3 rfl) ?_
    refine lv_aload_n S.1 S.2.1 dL_law_19 rfl (lv_at hl 0 rfl) ?_
    refine va_slen S.1 S.2.1 hXs hbl hbA hS dL_law_20 ?_
    refine lv_bipush (v := 6) S.1 S.2.1 dL_law_21 (by decide) ?_
    refine lv_isub S.1 S.2.1 dL_law_23 ?_
    refine lv_icmp_gt (tgt := 1405) S.1 S.2.1 dL_law_24 (by decide) (fun _ => kend H locs ls hS) (fun h => ?_)
    have h9 := lw_nx hL hi h
    omega
  | succ n ih =>
    intro i hi hn i0 r x k z u y tb f len Y q r2 k2 x2 f2 tp it mv H locs hI hP hD hS ls hl
    refine lv_iload_n S.1 S.2.1 dL_law_18 rfl (lv_at hl 3 rfl) ?_
    refine lv_aload_n S.1 S.2.1 dL_law_19 rfl (lv_at hl 0 rfl) ?_
    refine va_slen S.1 S.2.1 hXs hbl hbA hS dL_law_20 ?_
    refine lv_bipush (v := 6) S.1 S.2.1 dL_law_21 (by decide) ?_
    refine lv_isub S.1 S.2.1 dL_law_23 ?_
    refine lv_icmp_gt (tgt := 1405) S.1 S.2.1 dL_law_24 (by decide) (fun _ => kend H locs ls hS) (fun h => ?_)
    have h9 := lw_nx hL hi h
    refine lv_aload_n S.1 S.2.1 dL_law_27 rfl (lv_at hl 0 rfl) ?_
    refine lv_iload_n S.1 S.2.1 dL_law_28 rfl (lv_at hl 3 rfl) ?_
    refine b_sld (j := i) S.1 S.2.1 hXs hbl hbA hS (by omega) (by omega) dL_law_29 ?_
    refine lv_bipush (v := 63) S.1 S.2.1 dL_law_30 (by decide) ?_
    refine lv_iand S.1 S.2.1 dL_law_32 ?_
    obtain ⟨j, hj, ej⟩ := and63 (xs i)
    refine lv_eqi (y := nI j) ej ?_
    refine law_at S hK hX hXs hbl hbA hcc hss hL i0 r x k z u y tb f len Y q r2 k2 x2 f2 tp it mv hI hP hD hS h9 hl ?_ hj
    intro i0 r x k z u y tb f len Y q r2 k2 x2 f2 tp it mv H locs ls hI hP hD hS hl
    refine lv_iinc (v := nI (i + 6)) (lv' := [(3, .int (nI (i + 6))), (0, .ref b), (1, .ref (ag 0)), (2, .ref (am 0))]) S.1 S.2.1 dL_law_1399 hl (k := 3) rfl (by rw [show Int32.ofInt 6 = nI 6 by decide]; exact nI_add i 6) (by decide) rfl (fun ls hl => ?_)
    refine lv_goto (tgt := 18) S.1 S.2.1 dL_law_1402 (by decide) ?_
    exact ih (i + 6) (by omega) (by omega) i0 r x k z u y tb f len Y q r2 k2 x2 f2 tp it mv H locs hI hP hD hS ls (lv_sub hl [1, 2, 3, 0] rfl)
end LWL
