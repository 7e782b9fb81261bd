theorem b_alenT {p : Program} {l : Launch} {e : Env} {R : Room} {s : State} {m : MethodId} {args : Array Value} {below : List Frame} {meth : Method} {c : Code} {H : Heap} {locs : List Loc} {cells slots : Nat} {Q : State → Prop} {cc : ByteArray} {nL pc : Nat} {ls : Array Slot} {rest : List Value} {Ts : List Cond} {own : String} {E : EV} {Bs : List va_W} {a t0 : Nat} (S : CallFix p m c cc nL s args Ts own) (hK : KE E s) (hP : PE E Bs H) (b j : Nat) {B : va_W} (hB : Bs[b]? = some B) {cA : ClassId} {ty : FieldType} (ht : (tyE E)[t0]? = some (cA, ty)) {x : vp_A} (he : B[j]? = some (a, .inl (cA, x))) {v : Int32} (hv : Int32.ofNat x.1 = v) (hdg : decode cc pc = .ok (.arraylength, 1)) (kk : W p l e R s m args below meth c H locs cells slots Q (F0 m (pc + 1) ls (.int v :: rest))) : W p l e R s m args below meth c H locs cells slots Q (F0 m pc ls (.ref a :: rest)) :=
  va_alen S.1 S.2.1 hK hP _ t0 (fl_get Bs b j B _ hB he) ht hv hdg kk
def optF (tp : Row) (len : Nat) (X : Xs) (w : Nat) (hi d : Int32) : Xs × Int32 := if kwP tp X w then (numF tp len (kwF tp len X w) 0 hi, nI (kwF tp len X w).2.2.2.1) else (kwF tp len X w, d)
def rdP (tp : Row) (len : Nat) (X : Xs) (pt : Nat) : Xs × Int32 × Int32 × Int32 := ((optF tp len (optF tp len (optF tp len (mstF tp len X (bI (nI pt < 8))) 7 99 10).1 8 9 2).1 9 999 0).1, (optF tp len (mstF tp len X (bI (nI pt < 8))) 7 99 10).2, (optF tp len (optF tp len (mstF tp len X (bI (nI pt < 8))) 7 99 10).1 8 9 2).2, (optF tp len (optF tp len (optF tp len (mstF tp len X (bI (nI pt < 8))) 7 99 10).1 8 9 2).1 9 999 0).2)
def kwN (tp : Row) (X : Xs) : Nat → Int32
  | 0 => -1
  | k + 1 => if isW tp X.1 X.2.1 X.2.2.1 k then nI k else kwN tp X k
def rdI (tp : Row) (len : Nat) (X : Xs) (mn pt : Nat) (it : Row) : Xs × Nat × Nat × Row := if 0 ≤ kwN tp X 7 then ((rdP tp len X pt).1, mn + 1, pt + 1, itF it mn (kwN tp X 7) (rdP tp len X pt).2.1 (rdP tp len X pt).2.2.1 (rdP tp len X pt).2.2.2) else if kwP tp X 10 then ((rdW tp len (kwF tp len X 10)).1, mn + 1, pt, itF it mn 10 (rdW tp len (kwF tp len X 10)).2.1 (rdW tp len (kwF tp len X 10)).2.2 0) else if kwP tp (kwF tp len X 10) 11 then (numF tp len (kwF tp len (kwF tp len X 10) 11) 0 99, mn + 1, pt, itF it mn 11 (nI (kwF tp len (kwF tp len X 10) 11).2.2.2.1) 0 0) else (mstF tp len (kwF tp len (kwF tp len X 10) 11) 0, mn, pt, it)
theorem isW_s {tp : Row} {b e w : Nat} {s : Int32} (h : isW tp b e s w) : s = 1 := by
  have h1 := Bool.and_eq_true_iff.mp h
  exact (of_decide_eq_true h1.1).1
theorem kw_mn2 {tp : Row} {len b e v mn w : Nat} {s ww : Int32} (hle : XI len (b, e, s, v, ww)) (hmb : mn ≤ b) (hl : len ≤ 120) (h : isW tp b e s w) : mn < 120 := by
  have h1 : b < e := hle.2.2.1 (show ¬ s = 0 by rw [isW_s h]; decide)
  have h2 : e ≤ len := hle.2.1
  omega
theorem kwN_some {tp : Row} {X : Xs} : ∀ n, ¬ kwN tp X n < 0 → ∃ k, k < n ∧ isW tp X.1 X.2.1 X.2.2.1 k ∧ kwN tp X n = nI k
  | 0, h => absurd (show (-1 : Int32) < 0 by decide) h
  | n + 1, h => by
    rw [kwN] at h ⊢
    by_cases hc : isW tp X.1 X.2.1 X.2.2.1 n
    · rw [if_pos hc]; exact ⟨n, Nat.lt_succ_self _, hc, rfl⟩
    · rw [if_neg hc] at h ⊢
      obtain ⟨k, h1, h2, h3⟩ := kwN_some n h
      exact ⟨k, by omega, h2, h3⟩
theorem kw_mn {tp : Row} {len b e v mn : Nat} {s ww : Int32} (hle : XI len (b, e, s, v, ww)) (hmb : mn ≤ b) (hl : len ≤ 120) (h : ¬ kwN tp (b, e, s, v, ww) 7 < 0) : mn < 120 := by
  obtain ⟨k, h1, h2, h3⟩ := kwN_some 7 h
  exact kw_mn2 hle hmb hl h2
set_option maxHeartbeats 800000 in
set_option maxRecDepth 100000 in
theorem c_X5_readPotter (l : Launch) (E : EV) (aS : Nat → Nat) (am : Nat → Nat) (q tp it : Row) (len bb ee vv mn pt : Nat) (ss ww : Int32) (k9 : Int32) (hq3 : q 3 = nI len) (hl9 : len ≤ 120) (hle : XI len (bb, ee, ss, vv, ww)) (hmn : mn < 120) : Met l yX5_readPotter (wq yX5_readPotter cX5_readPotter 5 none) ({ frames := 6, cells := 0, slots := 0, locals := 130 }) (preX E aS [.ref (am 0), .int k9] [[mObj am (qX q (bb, ee, ss, vv, ww) mn pt)], [(am 5, .inl (E.2.1, 120, .inl (sg tp 120)))], [(am 7, .inl (E.2.1, 480, .inl (sg it 480)))]]) (qV E [[mObj am (qX q (bb, ee, ss, vv, ww) mn pt)], [(am 5, .inl (E.2.1, 120, .inl (sg tp 120)))], [(am 7, .inl (E.2.1, 480, .inl (sg it 480)))]] [[mObj am (qX q ((rdP tp len (bb, ee, ss, vv, ww) pt).1) (mn + 1) (pt + 1))], [(am 5, .inl (E.2.1, 120, .inl (sg tp 120)))], [(am 7, .inl (E.2.1, 480, .inl (sg (itF it mn k9 (rdP tp len (bb, ee, ss, vv, ww) pt).2.1 (rdP tp len (bb, ee, ss, vv, ww) pt).2.2.1 (rdP tp len (bb, ee, ss, vv, ww) pt).2.2.2) 480)))]]) 0 0 (inB [[mObj am (qX q (bb, ee, ss, vv, ww) mn pt)], [(am 5, .inl (E.2.1, 120, .inl (sg tp 120)))], [(am 7, .inl (E.2.1, 480, .inl (sg it 480)))]]) := by
  refine M_mkX RX5 (by decide) rfl (Nat.le_of_ble_eq_true rfl) ?_
  intro p e s m below meth c S hr hlk hK hP hD hS hX ls hl
  have hl : lv_has ls 5 [(0, .ref (am 0)), (1, .int k9)] := hl
  obtain ⟨H, hH⟩ : ∃ zz9, zz9 = s.heap := ⟨_, rfl⟩
  obtain ⟨locs, hlocs⟩ : ∃ zz9 : List Loc, zz9 = [] := ⟨_, rfl⟩
  have hP : PE E [[mObj am (qX q (bb, ee, ss, vv, ww) mn pt)], [(am 5, .inl (E.2.1, 120, .inl (sg tp 120)))], [(am 7, .inl (E.2.1, 480, .inl (sg it 480)))]] H := by rw [hH]; exact hP
  have hS : va_S (inB [[mObj am (qX q (bb, ee, ss, vv, ww) mn pt)], [(am 5, .inl (E.2.1, 120, .inl (sg tp 120)))], [(am 7, .inl (E.2.1, 480, .inl (sg it 480)))]]) s.heap H locs := by rw [hH, hlocs]; exact hS
  show W p l e ({ frames := 6, cells := 0, slots := 0, locals := 130 }) s m ([.ref (am 0), .int k9] : List Value).toArray below meth c s.heap [] 0 0 _ _
  suffices hgo : W p l e ({ frames := 6, cells := 0, slots := 0, locals := 130 }) s m ([.ref (am 0), .int k9] : List Value).toArray below meth c H locs 0 0 (MQ below (qV E [[mObj am (qX q (bb, ee, ss, vv, ww) mn pt)], [(am 5, .inl (E.2.1, 120, .inl (sg tp 120)))], [(am 7, .inl (E.2.1, 480, .inl (sg it 480)))]] [[mObj am (qX q ((rdP tp len (bb, ee, ss, vv, ww) pt).1) (mn + 1) (pt + 1))], [(am 5, .inl (E.2.1, 120, .inl (sg tp 120)))], [(am 7, .inl (E.2.1, 480, .inl (sg (itF it mn k9 (rdP tp len (bb, ee, ss, vv, ww) pt).2.1 (rdP tp len (bb, ee, ss, vv, ww) pt).2.2.1 (rdP tp len (bb, ee, ss, vv, ww) pt).2.2.2) 480)))]]) ([.ref (am 0), .int k9] : List Value).toArray s 0 0 (inB [[mObj am (qX q (bb, ee, ss, vv, ww) mn pt)], [(am 5, .inl (E.2.1, 120, .inl (sg tp 120)))], [(am 7, .inl (E.2.1, 480, .inl (sg it 480)))]])) (F0 m 0 ls []) by rw [hH, hlocs] at hgo; exact hgo
  clear hH hlocs
  refine lv_aload_n S.1 S.2.1 dX5_readPotter_0 rfl (lv_at hl 0 rfl) ?_
  refine lv_aload_n S.1 S.2.1 dX5_readPotter_1 rfl (lv_at hl 0 rfl) ?_
  refine gf_X5_265 S hK hP 0 0 rfl rfl (show _ = some (Value.int (nI pt)) from rfl) dX5_readPotter_2 ?_
  refine lv_bipush (v := 8) S.1 S.2.1 dX5_readPotter_5 (by decide) ?_
  refine lv_icmp_ge (tgt := 14) S.1 S.2.1 dX5_readPotter_7 (by decide) (fun c_7 => ?_) (fun c_7 => ?_)
  · have n_7 := Int32.not_lt.mpr c_7
    refine lv_iconst (v := 0) S.1 S.2.1 dX5_readPotter_14 (by decide) ?_
    refine go_V (run_V (As := [.int 0]) (rest := []) (n := 1) S hK (bl_P hP [0, 1] rfl) (bl_D hD [0, 1] rfl rfl) (c_X5_must l E am q tp len bb ee vv mn pt ss ww 0 hq3 hl9 (hle).2.1) gV_X5_254 (by decide +kernel) rfl ⟨rfl, rfl⟩ ⟨Nat.le_of_ble_eq_true rfl, Nat.le_of_ble_eq_true rfl⟩ (ci := 5) (q0 := 0) rfl rfl hl.1 (Nat.le_of_ble_eq_true rfl) dX5_readPotter_15 ⟨Nat.zero_le _, Nat.zero_le _⟩) hP hD hS [0, 1] rfl (had_cons mo_ad (had_cons rfl rfl)) (Bs' := [[mObj am (qX q (mstF tp len (bb, ee, ss, vv, ww) 0) mn pt)], [(am 5, .inl (E.2.1, 120, .inl (sg tp 120)))], [(am 7, .inl (E.2.1, 480, .inl (sg it 480)))]]) rfl (fun H locs hP hD hS => ?_)
    obtain ⟨⟨b_15, e_15, s_15, v_15, w_15⟩, eX_15⟩ : ∃ zz9 : Xs, zz9 = mstF tp len (bb, ee, ss, vv, ww) 0 := ⟨_, rfl⟩
    rw [← eX_15] at hP hD
    have hle_15 := mst_I eX_15 hle
    refine lv_aload_n S.1 S.2.1 dX5_readPotter_18 rfl (lv_at hl 0 rfl) ?_
    refine va_ldcwS (q := aS (12 + 7)) (tx := "grief") S.1 S.2.1 S.2.2.2.1 (hX.2.2.1 (RX5, 268, "grief", 19) (List.mem_of_getElem? (i := 19) rfl)) dX5_readPotter_19 ?_
    refine go_I (run_VX (As := [.ref (aS (12 + 7))]) (rest := []) (n := 1) S hK (bl_P hP [0, 1] rfl) (bl_D hD [0, 1] rfl rfl) (EX_c hX hS hD [0, 1] rfl) (c_X5_takesWord l E aS am q tp len b_15 e_15 v_15 mn pt s_15 w_15 7 hq3 hl9 (by omega) (hle_15).1 (hle_15).2.1) gV_X5_270 (by decide +kernel) rfl ⟨rfl, rfl⟩ ⟨Nat.le_of_ble_eq_true rfl, Nat.le_of_ble_eq_true rfl⟩ (ci := 5) (q0 := 0) rfl rfl hl.1 (Nat.le_of_ble_eq_true rfl) dX5_readPotter_22 ⟨Nat.zero_le _, Nat.zero_le _⟩) hP hD hS [0, 1] rfl (had_cons mo_ad (had_cons rfl rfl)) (Bs' := [[mObj am (qX q (kwF tp len (b_15, e_15, s_15, v_15, w_15) 7) mn pt)], [(am 5, .inl (E.2.1, 120, .inl (sg tp 120)))], [(am 7, .inl (E.2.1, 480, .inl (sg it 480)))]]) rfl (fun H locs hP hD hS => ?_)
    obtain ⟨⟨b_22, e_22, s_22, v_22, w_22⟩, eX_22⟩ : ∃ zz9 : Xs, zz9 = kwF tp len (b_15, e_15, s_15, v_15, w_15) 7 := ⟨_, rfl⟩
    rw [← eX_22] at hP hD
    have hle_22 := kw_I eX_22 hle_15
    refine b_ifeq (tgt := 38) S.1 S.2.1 dX5_readPotter_25 (by decide) (fun c_25 => ?_) (fun c_25 => ?_)
    · refine lv_bipush (v := 10) S.1 S.2.1 dX5_readPotter_38 (by decide) ?_
      refine lv_istore_n (lv' := [(2, .int 10), (0, .ref (am 0)), (1, .int k9)]) S.1 S.2.1 dX5_readPotter_40 rfl hl (by decide) rfl (fun ls hl => ?_)
      refine lv_aload_n S.1 S.2.1 dX5_readPotter_41 rfl (lv_at hl 1 rfl) ?_
      refine va_ldcwS (q := aS (12 + 8)) (tx := "hours") S.1 S.2.1 S.2.2.2.1 (hX.2.2.1 (RX5, 276, "hours", 20) (List.mem_of_getElem? (i := 20) rfl)) dX5_readPotter_42 ?_
      refine go_I (run_VX (As := [.ref (aS (12 + 8))]) (rest := []) (n := 1) S hK (bl_P hP [0, 1] rfl) (bl_D hD [0, 1] rfl rfl) (EX_c hX hS hD [0, 1] rfl) (c_X5_takesWord l E aS am q tp len b_22 e_22 v_22 mn pt s_22 w_22 8 hq3 hl9 (by omega) (hle_22).1 (hle_22).2.1) gV_X5_270 (by decide +kernel) rfl ⟨rfl, rfl⟩ ⟨Nat.le_of_ble_eq_true rfl, Nat.le_of_ble_eq_true rfl⟩ (ci := 5) (q0 := 0) rfl rfl hl.1 (Nat.le_of_ble_eq_true rfl) dX5_readPotter_45 ⟨Nat.zero_le _, Nat.zero_le _⟩) hP hD hS [0, 1] rfl (had_cons mo_ad (had_cons rfl rfl)) (Bs' := [[mObj am (qX q (kwF tp len (b_22, e_22, s_22, v_22, w_22) 8) mn pt)], [(am 5, .inl (E.2.1, 120, .inl (sg tp 120)))], [(am 7, .inl (E.2.1, 480, .inl (sg it 480)))]]) rfl (fun H locs hP hD hS => ?_)
      obtain ⟨⟨b_45, e_45, s_45, v_45, w_45⟩, eX_45⟩ : ∃ zz9 : Xs, zz9 = kwF tp len (b_22, e_22, s_22, v_22, w_22) 8 := ⟨_, rfl⟩
      rw [← eX_45] at hP hD
      have hle_45 := kw_I eX_45 hle_22
      refine b_ifeq (tgt := 61) S.1 S.2.1 dX5_readPotter_48 (by decide) (fun c_48 => ?_) (fun c_48 => ?_)
      · refine lv_iconst (v := 2) S.1 S.2.1 dX5_readPotter_61 (by decide) ?_
        refine lv_istore_n (lv' := [(3, .int 2), (2, .int 10), (0, .ref (am 0)), (1, .int k9)]) S.1 S.2.1 dX5_readPotter_62 rfl hl (by decide) rfl (fun ls hl => ?_)
        refine lv_aload_n S.1 S.2.1 dX5_readPotter_63 rfl (lv_at hl 2 rfl) ?_
        refine va_ldcwS (q := aS (12 + 9)) (tx := "run") S.1 S.2.1 S.2.2.2.1 (hX.2.2.1 (RX5, 278, "run", 21) (List.mem_of_getElem? (i := 21) rfl)) dX5_readPotter_64 ?_
        refine go_I (run_VX (As := [.ref (aS (12 + 9))]) (rest := []) (n := 1) S hK (bl_P hP [0, 1] rfl) (bl_D hD [0, 1] rfl rfl) (EX_c hX hS hD [0, 1] rfl) (c_X5_takesWord l E aS am q tp len b_45 e_45 v_45 mn pt s_45 w_45 9 hq3 hl9 (by omega) (hle_45).1 (hle_45).2.1) gV_X5_270 (by decide +kernel) rfl ⟨rfl, rfl⟩ ⟨Nat.le_of_ble_eq_true rfl, Nat.le_of_ble_eq_true rfl⟩ (ci := 5) (q0 := 0) rfl rfl hl.1 (Nat.le_of_ble_eq_true rfl) dX5_readPotter_67 ⟨Nat.zero_le _, Nat.zero_le _⟩) hP hD hS [0, 1] rfl (had_cons mo_ad (had_cons rfl rfl)) (Bs' := [[mObj am (qX q (kwF tp len (b_45, e_45, s_45, v_45, w_45) 9) mn pt)], [(am 5, .inl (E.2.1, 120, .inl (sg tp 120)))], [(am 7, .inl (E.2.1, 480, .inl (sg it 480)))]]) rfl (fun H locs hP hD hS => ?_)
        obtain ⟨⟨b_67, e_67, s_67, v_67, w_67⟩, eX_67⟩ : ∃ zz9 : Xs, zz9 = kwF tp len (b_45, e_45, s_45, v_45, w_45) 9 := ⟨_, rfl⟩
        rw [← eX_67] at hP hD
        have hle_67 := kw_I eX_67 hle_45
        refine b_ifeq (tgt := 84) S.1 S.2.1 dX5_readPotter_70 (by decide) (fun c_70 => ?_) (fun c_70 => ?_)
        · refine lv_iconst (v := 0) S.1 S.2.1 dX5_readPotter_84 (by decide) ?_
          refine lv_istore (lv' := [(4, .int 0), (3, .int 2), (2, .int 10), (0, .ref (am 0)), (1, .int k9)]) S.1 S.2.1 dX5_readPotter_85 hl (by decide) rfl (fun ls hl => ?_)
          refine lv_aload_n S.1 S.2.1 dX5_readPotter_87 rfl (lv_at hl 3 rfl) ?_
          refine lv_iload_n S.1 S.2.1 dX5_readPotter_88 rfl (lv_at hl 4 rfl) ?_
          refine lv_iload_n S.1 S.2.1 dX5_readPotter_89 rfl (lv_at hl 2 rfl) ?_
          refine lv_iload_n S.1 S.2.1 dX5_readPotter_90 rfl (lv_at hl 1 rfl) ?_
          refine lv_iload S.1 S.2.1 dX5_readPotter_91 (lv_at hl 0 rfl) ?_
          refine go_V (run_V (As := [.int k9, .int 10, .int 2, .int 0]) (rest := []) (n := 4) S hK (bl_P hP [0, 2] rfl) (bl_D hD [0, 2] rfl rfl) (c_X5_addItem l E am q it b_67 e_67 v_67 mn pt s_67 w_67 k9 10 2 0 (by omega)) gV_X5_280 (by decide +kernel) rfl ⟨rfl, rfl⟩ ⟨Nat.le_of_ble_eq_true rfl, Nat.le_of_ble_eq_true rfl⟩ (ci := 5) (q0 := 0) rfl rfl hl.1 (Nat.le_of_ble_eq_true rfl) dX5_readPotter_93 ⟨Nat.zero_le _, Nat.zero_le _⟩) hP hD hS [0, 2] rfl (had_cons mo_ad (had_cons cell_ad rfl)) (Bs' := [[mObj am (qX q (b_67, e_67, s_67, v_67, w_67) (mn + 1) pt)], [(am 5, .inl (E.2.1, 120, .inl (sg tp 120)))], [(am 7, .inl (E.2.1, 480, .inl (sg (itF it mn k9 10 2 0) 480)))]]) rfl (fun H locs hP hD hS => ?_)
          obtain ⟨r_93_2, er_93_2⟩ : ∃ zz9 : Row, zz9 = itF it mn k9 10 2 0 := ⟨_, rfl⟩
          rw [← er_93_2] at hP hD
          refine lv_aload_n S.1 S.2.1 dX5_readPotter_96 rfl (lv_at hl 3 rfl) ?_
          refine lv_dup S.1 S.2.1 dX5_readPotter_97 rfl ?_
          refine gf_X5_265 S hK hP 0 0 rfl rfl (show _ = some (Value.int (nI pt)) from rfl) dX5_readPotter_98 ?_
          refine lv_iconst (v := 1) S.1 S.2.1 dX5_readPotter_101 (by decide) ?_
          refine lv_iadd S.1 S.2.1 dX5_readPotter_102 ?_
          refine lv_eqi (y := nI (pt + 1)) (nI_add pt 1) ?_
          refine pf_X5_265 S hK hP hD hS 0 0 rfl rfl (Nat.le_of_ble_eq_true rfl) (mo_10.trans (congrArg (fun z => ([mObj am z] : va_W)) qX_10)) (Bs1 := [[mObj am (qX q (b_67, e_67, s_67, v_67, w_67) (mn + 1) (pt + 1))], [(am 5, .inl (E.2.1, 120, .inl (sg tp 120)))], [(am 7, .inl (E.2.1, 480, .inl (sg r_93_2 480)))]]) rfl dX5_readPotter_103 (fun H locs hP hD hS => ?_)
          exact retV S hr hlk (by have q0 : mstF tp len (bb, ee, ss, vv, ww) (bI (nI pt < 8)) = (b_15, e_15, s_15, v_15, w_15) := (by rw [bI, if_neg n_7]; exact eX_15.symm); have q7 : optF tp len (b_15, e_15, s_15, v_15, w_15) 7 99 10 = ((b_22, e_22, s_22, v_22, w_22), 10) := (by unfold optF; rw [if_neg c_25, ← eX_22]); have q8 : optF tp len (b_22, e_22, s_22, v_22, w_22) 8 9 2 = ((b_45, e_45, s_45, v_45, w_45), 2) := (by unfold optF; rw [if_neg c_48, ← eX_45]); have q9 : optF tp len (b_45, e_45, s_45, v_45, w_45) 9 999 0 = ((b_67, e_67, s_67, v_67, w_67), 0) := (by unfold optF; rw [if_neg c_70, ← eX_67]); have e9 : rdP tp len (bb, ee, ss, vv, ww) pt = ((b_67, e_67, s_67, v_67, w_67), 10, 2, 0) := (by unfold rdP; simp only [q0, q7, q8, q9]); rw [e9]; rw [er_93_2] at hP; exact hP) hS dX5_readPotter_106
        · refine lv_aload_n S.1 S.2.1 dX5_readPotter_73 rfl (lv_at hl 2 rfl) ?_
          refine lv_iconst (v := 0) S.1 S.2.1 dX5_readPotter_74 (by decide) ?_
          refine lv_sipush (v := 999) S.1 S.2.1 dX5_readPotter_75 (by decide) ?_
          refine go_I (run_V (As := [.int 0, .int 999]) (rest := []) (n := 2) S hK (bl_P hP [0, 1] rfl) (bl_D hD [0, 1] rfl rfl) (c_X5_number l E am q tp len b_67 e_67 v_67 mn pt s_67 w_67 0 999 hq3 hl9 (hle_67).2.1) gV_X5_273 (by decide +kernel) rfl ⟨rfl, rfl⟩ ⟨Nat.le_of_ble_eq_true rfl, Nat.le_of_ble_eq_true rfl⟩ (ci := 5) (q0 := 0) rfl rfl hl.1 (Nat.le_of_ble_eq_true rfl) dX5_readPotter_78 ⟨Nat.zero_le _, Nat.zero_le _⟩) hP hD hS [0, 1] rfl (had_cons mo_ad (had_cons rfl rfl)) (Bs' := [[mObj am (qX q (numF tp len (b_67, e_67, s_67, v_67, w_67) 0 999) mn pt)], [(am 5, .inl (E.2.1, 120, .inl (sg tp 120)))], [(am 7, .inl (E.2.1, 480, .inl (sg it 480)))]]) rfl (fun H locs hP hD hS => ?_)
          obtain ⟨⟨b_78, e_78, s_78, v_78, w_78⟩, eX_78⟩ : ∃ zz9 : Xs, zz9 = numF tp len (b_67, e_67, s_67, v_67, w_67) 0 999 := ⟨_, rfl⟩
          rw [← eX_78] at hP hD
          have hle_78 := num_I eX_78 hle_67
          refine lv_goto (tgt := 85) S.1 S.2.1 dX5_readPotter_81 (by decide) ?_
          refine lv_istore (lv' := [(4, .int (nI v_67)), (3, .int 2), (2, .int 10), (0, .ref (am 0)), (1, .int k9)]) S.1 S.2.1 dX5_readPotter_85 hl (by decide) rfl (fun ls hl => ?_)
          refine lv_aload_n S.1 S.2.1 dX5_readPotter_87 rfl (lv_at hl 3 rfl) ?_
          refine lv_iload_n S.1 S.2.1 dX5_readPotter_88 rfl (lv_at hl 4 rfl) ?_
          refine lv_iload_n S.1 S.2.1 dX5_readPotter_89 rfl (lv_at hl 2 rfl) ?_
          refine lv_iload_n S.1 S.2.1 dX5_readPotter_90 rfl (lv_at hl 1 rfl) ?_
          refine lv_iload S.1 S.2.1 dX5_readPotter_91 (lv_at hl 0 rfl) ?_
          refine go_V (run_V (As := [.int k9, .int 10, .int 2, .int (nI v_67)]) (rest := []) (n := 4) S hK (bl_P hP [0, 2] rfl) (bl_D hD [0, 2] rfl rfl) (c_X5_addItem l E am q it b_78 e_78 v_78 mn pt s_78 w_78 k9 10 2 (nI v_67) (by omega)) gV_X5_280 (by decide +kernel) rfl ⟨rfl, rfl⟩ ⟨Nat.le_of_ble_eq_true rfl, Nat.le_of_ble_eq_true rfl⟩ (ci := 5) (q0 := 0) rfl rfl hl.1 (Nat.le_of_ble_eq_true rfl) dX5_readPotter_93 ⟨Nat.zero_le _, Nat.zero_le _⟩) hP hD hS [0, 2] rfl (had_cons mo_ad (had_cons cell_ad rfl)) (Bs' := [[mObj am (qX q (b_78, e_78, s_78, v_78, w_78) (mn + 1) pt)], [(am 5, .inl (E.2.1, 120, .inl (sg tp 120)))], [(am 7, .inl (E.2.1, 480, .inl (sg (itF it mn k9 10 2 (nI v_67)) 480)))]]) rfl (fun H locs hP hD hS => ?_)
          obtain ⟨r_93_2_1, er_93_2_1⟩ : ∃ zz9 : Row, zz9 = itF it mn k9 10 2 (nI v_67) := ⟨_, rfl⟩
          rw [← er_93_2_1] at hP hD
          refine lv_aload_n S.1 S.2.1 dX5_readPotter_96 rfl (lv_at hl 3 rfl) ?_
          refine lv_dup S.1 S.2.1 dX5_readPotter_97 rfl ?_
          refine gf_X5_265 S hK hP 0 0 rfl rfl (show _ = some (Value.int (nI pt)) from rfl) dX5_readPotter_98 ?_
          refine lv_iconst (v := 1) S.1 S.2.1 dX5_readPotter_101 (by decide) ?_
          refine lv_iadd S.1 S.2.1 dX5_readPotter_102 ?_
          refine lv_eqi (y := nI (pt + 1)) (nI_add pt 1) ?_
          refine pf_X5_265 S hK hP hD hS 0 0 rfl rfl (Nat.le_of_ble_eq_true rfl) (mo_10.trans (congrArg (fun z => ([mObj am z] : va_W)) qX_10)) (Bs1 := [[mObj am (qX q (b_78, e_78, s_78, v_78, w_78) (mn + 1) (pt + 1))], [(am 5, .inl (E.2.1, 120, .inl (sg tp 120)))], [(am 7, .inl (E.2.1, 480, .inl (sg r_93_2_1 480)))]]) rfl dX5_readPotter_103 (fun H locs hP hD hS => ?_)
          exact retV S hr hlk (by have q0 : mstF tp len (bb, ee, ss, vv, ww) (bI (nI pt < 8)) = (b_15, e_15, s_15, v_15, w_15) := (by rw [bI, if_neg n_7]; exact eX_15.symm); have q7 : optF tp len (b_15, e_15, s_15, v_15, w_15) 7 99 10 = ((b_22, e_22, s_22, v_22, w_22), 10) := (by unfold optF; rw [if_neg c_25, ← eX_22]); have q8 : optF tp len (b_22, e_22, s_22, v_22, w_22) 8 9 2 = ((b_45, e_45, s_45, v_45, w_45), 2) := (by unfold optF; rw [if_neg c_48, ← eX_45]); have q9 : optF tp len (b_45, e_45, s_45, v_45, w_45) 9 999 0 = ((b_78, e_78, s_78, v_78, w_78), nI v_67) := (by unfold optF; rw [if_pos c_70, ← eX_67, ← eX_78]); have e9 : rdP tp len (bb, ee, ss, vv, ww) pt = ((b_78, e_78, s_78, v_78, w_78), 10, 2, nI v_67) := (by unfold rdP; simp only [q0, q7, q8, q9]); rw [e9]; rw [er_93_2_1] at hP; exact hP) hS dX5_readPotter_106
      · refine lv_aload_n S.1 S.2.1 dX5_readPotter_51 rfl (lv_at hl 1 rfl) ?_
        refine lv_iconst (v := 0) S.1 S.2.1 dX5_readPotter_52 (by decide) ?_
        refine lv_bipush (v := 9) S.1 S.2.1 dX5_readPotter_53 (by decide) ?_
        refine go_I (run_V (As := [.int 0, .int 9]) (rest := []) (n := 2) S hK (bl_P hP [0, 1] rfl) (bl_D hD [0, 1] rfl rfl) (c_X5_number l E am q tp len b_45 e_45 v_45 mn pt s_45 w_45 0 9 hq3 hl9 (hle_45).2.1) gV_X5_273 (by decide +kernel) rfl ⟨rfl, rfl⟩ ⟨Nat.le_of_ble_eq_true rfl, Nat.le_of_ble_eq_true rfl⟩ (ci := 5) (q0 := 0) rfl rfl hl.1 (Nat.le_of_ble_eq_true rfl) dX5_readPotter_55 ⟨Nat.zero_le _, Nat.zero_le _⟩) hP hD hS [0, 1] rfl (had_cons mo_ad (had_cons rfl rfl)) (Bs' := [[mObj am (qX q (numF tp len (b_45, e_45, s_45, v_45, w_45) 0 9) mn pt)], [(am 5, .inl (E.2.1, 120, .inl (sg tp 120)))], [(am 7, .inl (E.2.1, 480, .inl (sg it 480)))]]) rfl (fun H locs hP hD hS => ?_)
        obtain ⟨⟨b_55, e_55, s_55, v_55, w_55⟩, eX_55⟩ : ∃ zz9 : Xs, zz9 = numF tp len (b_45, e_45, s_45, v_45, w_45) 0 9 := ⟨_, rfl⟩
        rw [← eX_55] at hP hD
        have hle_55 := num_I eX_55 hle_45
        refine lv_goto (tgt := 62) S.1 S.2.1 dX5_readPotter_58 (by decide) ?_
        refine lv_istore_n (lv' := [(3, .int (nI v_45)), (2, .int 10), (0, .ref (am 0)), (1, .int k9)]) S.1 S.2.1 dX5_readPotter_62 rfl hl (by decide) rfl (fun ls hl => ?_)
        refine lv_aload_n S.1 S.2.1 dX5_readPotter_63 rfl (lv_at hl 2 rfl) ?_
        refine va_ldcwS (q := aS (12 + 9)) (tx := "run") S.1 S.2.1 S.2.2.2.1 (hX.2.2.1 (RX5, 278, "run", 21) (List.mem_of_getElem? (i := 21) rfl)) dX5_readPotter_64 ?_
        refine go_I (run_VX (As := [.ref (aS (12 + 9))]) (rest := []) (n := 1) S hK (bl_P hP [0, 1] rfl) (bl_D hD [0, 1] rfl rfl) (EX_c hX hS hD [0, 1] rfl) (c_X5_takesWord l E aS am q tp len b_55 e_55 v_55 mn pt s_55 w_55 9 hq3 hl9 (by omega) (hle_55).1 (hle_55).2.1) gV_X5_270 (by decide +kernel) rfl ⟨rfl, rfl⟩ ⟨Nat.le_of_ble_eq_true rfl, Nat.le_of_ble_eq_true rfl⟩ (ci := 5) (q0 := 0) rfl rfl hl.1 (Nat.le_of_ble_eq_true rfl) dX5_readPotter_67 ⟨Nat.zero_le _, Nat.zero_le _⟩) hP hD hS [0, 1] rfl (had_cons mo_ad (had_cons rfl rfl)) (Bs' := [[mObj am (qX q (kwF tp len (b_55, e_55, s_55, v_55, w_55) 9) mn pt)], [(am 5, .inl (E.2.1, 120, .inl (sg tp 120)))], [(am 7, .inl (E.2.1, 480, .inl (sg it 480)))]]) rfl (fun H locs hP hD hS => ?_)
        obtain ⟨⟨b_67_2, e_67_2, s_67_2, v_67_2, w_67_2⟩, eX_67_2⟩ : ∃ zz9 : Xs, zz9 = kwF tp len (b_55, e_55, s_55, v_55, w_55) 9 := ⟨_, rfl⟩
        rw [← eX_67_2] at hP hD
        have hle_67_2 := kw_I eX_67_2 hle_55
        refine b_ifeq (tgt := 84) S.1 S.2.1 dX5_readPotter_70 (by decide) (fun c_70 => ?_) (fun c_70 => ?_)
        · refine lv_iconst (v := 0) S.1 S.2.1 dX5_readPotter_84 (by decide) ?_
          refine lv_istore (lv' := [(4, .int 0), (3, .int (nI v_45)), (2, .int 10), (0, .ref (am 0)), (1, .int k9)]) S.1 S.2.1 dX5_readPotter_85 hl (by decide) rfl (fun ls hl => ?_)
          refine lv_aload_n S.1 S.2.1 dX5_readPotter_87 rfl (lv_at hl 3 rfl) ?_
          refine lv_iload_n S.1 S.2.1 dX5_readPotter_88 rfl (lv_at hl 4 rfl) ?_
          refine lv_iload_n S.1 S.2.1 dX5_readPotter_89 rfl (lv_at hl 2 rfl) ?_
          refine lv_iload_n S.1 S.2.1 dX5_readPotter_90 rfl (lv_at hl 1 rfl) ?_
          refine lv_iload S.1 S.2.1 dX5_readPotter_91 (lv_at hl 0 rfl) ?_
          refine go_V (run_V (As := [.int k9, .int 10, .int (nI v_45), .int 0]) (rest := []) (n := 4) S hK (bl_P hP [0, 2] rfl) (bl_D hD [0, 2] rfl rfl) (c_X5_addItem l E am q it b_67_2 e_67_2 v_67_2 mn pt s_67_2 w_67_2 k9 10 (nI v_45) 0 (by omega)) gV_X5_280 (by decide +kernel) rfl ⟨rfl, rfl⟩ ⟨Nat.le_of_ble_eq_true rfl, Nat.le_of_ble_eq_true rfl⟩ (ci := 5) (q0 := 0) rfl rfl hl.1 (Nat.le_of_ble_eq_true rfl) dX5_readPotter_93 ⟨Nat.zero_le _, Nat.zero_le _⟩) hP hD hS [0, 2] rfl (had_cons mo_ad (had_cons cell_ad rfl)) (Bs' := [[mObj am (qX q (b_67_2, e_67_2, s_67_2, v_67_2, w_67_2) (mn + 1) pt)], [(am 5, .inl (E.2.1, 120, .inl (sg tp 120)))], [(am 7, .inl (E.2.1, 480, .inl (sg (itF it mn k9 10 (nI v_45) 0) 480)))]]) rfl (fun H locs hP hD hS => ?_)
          obtain ⟨r_93_2_3, er_93_2_3⟩ : ∃ zz9 : Row, zz9 = itF it mn k9 10 (nI v_45) 0 := ⟨_, rfl⟩
          rw [← er_93_2_3] at hP hD
          refine lv_aload_n S.1 S.2.1 dX5_readPotter_96 rfl (lv_at hl 3 rfl) ?_
          refine lv_dup S.1 S.2.1 dX5_readPotter_97 rfl ?_
          refine gf_X5_265 S hK hP 0 0 rfl rfl (show _ = some (Value.int (nI pt)) from rfl) dX5_readPotter_98 ?_
          refine lv_iconst (v := 1) S.1 S.2.1 dX5_readPotter_101 (by decide) ?_
          refine lv_iadd S.1 S.2.1 dX5_readPotter_102 ?_
          refine lv_eqi (y := nI (pt + 1)) (nI_add pt 1) ?_
          refine pf_X5_265 S hK hP hD hS 0 0 rfl rfl (Nat.le_of_ble_eq_true rfl) (mo_10.trans (congrArg (fun z => ([mObj am z] : va_W)) qX_10)) (Bs1 := [[mObj am (qX q (b_67_2, e_67_2, s_67_2, v_67_2, w_67_2) (mn + 1) (pt + 1))], [(am 5, .inl (E.2.1, 120, .inl (sg tp 120)))], [(am 7, .inl (E.2.1, 480, .inl (sg r_93_2_3 480)))]]) rfl dX5_readPotter_103 (fun H locs hP hD hS => ?_)
          exact retV S hr hlk (by have q0 : mstF tp len (bb, ee, ss, vv, ww) (bI (nI pt < 8)) = (b_15, e_15, s_15, v_15, w_15) := (by rw [bI, if_neg n_7]; exact eX_15.symm); have q7 : optF tp len (b_15, e_15, s_15, v_15, w_15) 7 99 10 = ((b_22, e_22, s_22, v_22, w_22), 10) := (by unfold optF; rw [if_neg c_25, ← eX_22]); have q8 : optF tp len (b_22, e_22, s_22, v_22, w_22) 8 9 2 = ((b_55, e_55, s_55, v_55, w_55), nI v_45) := (by unfold optF; rw [if_pos c_48, ← eX_45, ← eX_55]); have q9 : optF tp len (b_55, e_55, s_55, v_55, w_55) 9 999 0 = ((b_67_2, e_67_2, s_67_2, v_67_2, w_67_2), 0) := (by unfold optF; rw [if_neg c_70, ← eX_67_2]); have e9 : rdP tp len (bb, ee, ss, vv, ww) pt = ((b_67_2, e_67_2, s_67_2, v_67_2, w_67_2), 10, nI v_45, 0) := (by unfold rdP; simp only [q0, q7, q8, q9]); rw [e9]; rw [er_93_2_3] at hP; exact hP) hS dX5_readPotter_106
        · refine lv_aload_n S.1 S.2.1 dX5_readPotter_73 rfl (lv_at hl 2 rfl) ?_
          refine lv_iconst (v := 0) S.1 S.2.1 dX5_readPotter_74 (by decide) ?_
          refine lv_sipush (v := 999) S.1 S.2.1 dX5_readPotter_75 (by decide) ?_
          refine go_I (run_V (As := [.int 0, .int 999]) (rest := []) (n := 2) S hK (bl_P hP [0, 1] rfl) (bl_D hD [0, 1] rfl rfl) (c_X5_number l E am q tp len b_67_2 e_67_2 v_67_2 mn pt s_67_2 w_67_2 0 999 hq3 hl9 (hle_67_2).2.1) gV_X5_273 (by decide +kernel) rfl ⟨rfl, rfl⟩ ⟨Nat.le_of_ble_eq_true rfl, Nat.le_of_ble_eq_true rfl⟩ (ci := 5) (q0 := 0) rfl rfl hl.1 (Nat.le_of_ble_eq_true rfl) dX5_readPotter_78 ⟨Nat.zero_le _, Nat.zero_le _⟩) hP hD hS [0, 1] rfl (had_cons mo_ad (had_cons rfl rfl)) (Bs' := [[mObj am (qX q (numF tp len (b_67_2, e_67_2, s_67_2, v_67_2, w_67_2) 0 999) mn pt)], [(am 5, .inl (E.2.1, 120, .inl (sg tp 120)))], [(am 7, .inl (E.2.1, 480, .inl (sg it 480)))]]) rfl (fun H locs hP hD hS => ?_)
          obtain ⟨⟨b_78_4, e_78_4, s_78_4, v_78_4, w_78_4⟩, eX_78_4⟩ : ∃ zz9 : Xs, zz9 = numF tp len (b_67_2, e_67_2, s_67_2, v_67_2, w_67_2) 0 999 := ⟨_, rfl⟩
          rw [← eX_78_4] at hP hD
          have hle_78_4 := num_I eX_78_4 hle_67_2
          refine lv_goto (tgt := 85) S.1 S.2.1 dX5_readPotter_81 (by decide) ?_
          refine lv_istore (lv' := [(4, .int (nI v_67_2)), (3, .int (nI v_45)), (2, .int 10), (0, .ref (am 0)), (1, .int k9)]) S.1 S.2.1 dX5_readPotter_85 hl (by decide) rfl (fun ls hl => ?_)
          refine lv_aload_n S.1 S.2.1 dX5_readPotter_87 rfl (lv_at hl 3 rfl) ?_
          refine lv_iload_n S.1 S.2.1 dX5_readPotter_88 rfl (lv_at hl 4 rfl) ?_
          refine lv_iload_n S.1 S.2.1 dX5_readPotter_89 rfl (lv_at hl 2 rfl) ?_
          refine lv_iload_n S.1 S.2.1 dX5_readPotter_90 rfl (lv_at hl 1 rfl) ?_
          refine lv_iload S.1 S.2.1 dX5_readPotter_91 (lv_at hl 0 rfl) ?_
          refine go_V (run_V (As := [.int k9, .int 10, .int (nI v_45), .int (nI v_67_2)]) (rest := []) (n := 4) S hK (bl_P hP [0, 2] rfl) (bl_D hD [0, 2] rfl rfl) (c_X5_addItem l E am q it b_78_4 e_78_4 v_78_4 mn pt s_78_4 w_78_4 k9 10 (nI v_45) (nI v_67_2) (by omega)) gV_X5_280 (by decide +kernel) rfl ⟨rfl, rfl⟩ ⟨Nat.le_of_ble_eq_true rfl, Nat.le_of_ble_eq_true rfl⟩ (ci := 5) (q0 := 0) rfl rfl hl.1 (Nat.le_of_ble_eq_true rfl) dX5_readPotter_93 ⟨Nat.zero_le _, Nat.zero_le _⟩) hP hD hS [0, 2] rfl (had_cons mo_ad (had_cons cell_ad rfl)) (Bs' := [[mObj am (qX q (b_78_4, e_78_4, s_78_4, v_78_4, w_78_4) (mn + 1) pt)], [(am 5, .inl (E.2.1, 120, .inl (sg tp 120)))], [(am 7, .inl (E.2.1, 480, .inl (sg (itF it mn k9 10 (nI v_45) (nI v_67_2)) 480)))]]) rfl (fun H locs hP hD hS => ?_)
          obtain ⟨r_93_2_5, er_93_2_5⟩ : ∃ zz9 : Row, zz9 = itF it mn k9 10 (nI v_45) (nI v_67_2) := ⟨_, rfl⟩
          rw [← er_93_2_5] at hP hD
          refine lv_aload_n S.1 S.2.1 dX5_readPotter_96 rfl (lv_at hl 3 rfl) ?_
          refine lv_dup S.1 S.2.1 dX5_readPotter_97 rfl ?_
          refine gf_X5_265 S hK hP 0 0 rfl rfl (show _ = some (Value.int (nI pt)) from rfl) dX5_readPotter_98 ?_
          refine lv_iconst (v := 1) S.1 S.2.1 dX5_readPotter_101 (by decide) ?_
          refine lv_iadd S.1 S.2.1 dX5_readPotter_102 ?_
          refine lv_eqi (y := nI (pt + 1)) (nI_add pt 1) ?_
          refine pf_X5_265 S hK hP hD hS 0 0 rfl rfl (Nat.le_of_ble_eq_true rfl) (mo_10.trans (congrArg (fun z => ([mObj am z] : va_W)) qX_10)) (Bs1 := [[mObj am (qX q (b_78_4, e_78_4, s_78_4, v_78_4, w_78_4) (mn + 1) (pt + 1))], [(am 5, .inl (E.2.1, 120, .inl (sg tp 120)))], [(am 7, .inl (E.2.1, 480, .inl (sg r_93_2_5 480)))]]) rfl dX5_readPotter_103 (fun H locs hP hD hS => ?_)
          exact retV S hr hlk (by have q0 : mstF tp len (bb, ee, ss, vv, ww) (bI (nI pt < 8)) = (b_15, e_15, s_15, v_15, w_15) := (by rw [bI, if_neg n_7]; exact eX_15.symm); have q7 : optF tp len (b_15, e_15, s_15, v_15, w_15) 7 99 10 = ((b_22, e_22, s_22, v_22, w_22), 10) := (by unfold optF; rw [if_neg c_25, ← eX_22]); have q8 : optF tp len (b_22, e_22, s_22, v_22, w_22) 8 9 2 = ((b_55, e_55, s_55, v_55, w_55), nI v_45) := (by unfold optF; rw [if_pos c_48, ← eX_45, ← eX_55]); have q9 : optF tp len (b_55, e_55, s_55, v_55, w_55) 9 999 0 = ((b_78_4, e_78_4, s_78_4, v_78_4, w_78_4), nI v_67_2) := (by unfold optF; rw [if_pos c_70, ← eX_67_2, ← eX_78_4]); have e9 : rdP tp len (bb, ee, ss, vv, ww) pt = ((b_78_4, e_78_4, s_78_4, v_78_4, w_78_4), 10, nI v_45, nI v_67_2) := (by unfold rdP; simp only [q0, q7, q8, q9]); rw [e9]; rw [er_93_2_5] at hP; exact hP) hS dX5_readPotter_106
    · refine lv_aload_n S.1 S.2.1 dX5_readPotter_28 rfl (lv_at hl 0 rfl) ?_
      refine lv_iconst (v := 0) S.1 S.2.1 dX5_readPotter_29 (by decide) ?_
      refine lv_bipush (v := 99) S.1 S.2.1 dX5_readPotter_30 (by decide) ?_
      refine go_I (run_V (As := [.int 0, .int 99]) (rest := []) (n := 2) S hK (bl_P hP [0, 1] rfl) (bl_D hD [0, 1] rfl rfl) (c_X5_number l E am q tp len b_22 e_22 v_22 mn pt s_22 w_22 0 99 hq3 hl9 (hle_22).2.1) gV_X5_273 (by decide +kernel) rfl ⟨rfl, rfl⟩ ⟨Nat.le_of_ble_eq_true rfl, Nat.le_of_ble_eq_true rfl⟩ (ci := 5) (q0 := 0) rfl rfl hl.1 (Nat.le_of_ble_eq_true rfl) dX5_readPotter_32 ⟨Nat.zero_le _, Nat.zero_le _⟩) hP hD hS [0, 1] rfl (had_cons mo_ad (had_cons rfl rfl)) (Bs' := [[mObj am (qX q (numF tp len (b_22, e_22, s_22, v_22, w_22) 0 99) mn pt)], [(am 5, .inl (E.2.1, 120, .inl (sg tp 120)))], [(am 7, .inl (E.2.1, 480, .inl (sg it 480)))]]) rfl (fun H locs hP hD hS => ?_)
      obtain ⟨⟨b_32, e_32, s_32, v_32, w_32⟩, eX_32⟩ : ∃ zz9 : Xs, zz9 = numF tp len (b_22, e_22, s_22, v_22, w_22) 0 99 := ⟨_, rfl⟩
      rw [← eX_32] at hP hD
      have hle_32 := num_I eX_32 hle_22
      refine lv_goto (tgt := 40) S.1 S.2.1 dX5_readPotter_35 (by decide) ?_
      refine lv_istore_n (lv' := [(2, .int (nI v_22)), (0, .ref (am 0)), (1, .int k9)]) S.1 S.2.1 dX5_readPotter_40 rfl hl (by decide) rfl (fun ls hl => ?_)
      refine lv_aload_n S.1 S.2.1 dX5_readPotter_41 rfl (lv_at hl 1 rfl) ?_
      refine va_ldcwS (q := aS (12 + 8)) (tx := "hours") S.1 S.2.1 S.2.2.2.1 (hX.2.2.1 (RX5, 276, "hours", 20) (List.mem_of_getElem? (i := 20) rfl)) dX5_readPotter_42 ?_
      refine go_I (run_VX (As := [.ref (aS (12 + 8))]) (rest := []) (n := 1) S hK (bl_P hP [0, 1] rfl) (bl_D hD [0, 1] rfl rfl) (EX_c hX hS hD [0, 1] rfl) (c_X5_takesWord l E aS am q tp len b_32 e_32 v_32 mn pt s_32 w_32 8 hq3 hl9 (by omega) (hle_32).1 (hle_32).2.1) gV_X5_270 (by decide +kernel) rfl ⟨rfl, rfl⟩ ⟨Nat.le_of_ble_eq_true rfl, Nat.le_of_ble_eq_true rfl⟩ (ci := 5) (q0 := 0) rfl rfl hl.1 (Nat.le_of_ble_eq_true rfl) dX5_readPotter_45 ⟨Nat.zero_le _, Nat.zero_le _⟩) hP hD hS [0, 1] rfl (had_cons mo_ad (had_cons rfl rfl)) (Bs' := [[mObj am (qX q (kwF tp len (b_32, e_32, s_32, v_32, w_32) 8) mn pt)], [(am 5, .inl (E.2.1, 120, .inl (sg tp 120)))], [(am 7, .inl (E.2.1, 480, .inl (sg it 480)))]]) rfl (fun H locs hP hD hS => ?_)
      obtain ⟨⟨b_45_6, e_45_6, s_45_6, v_45_6, w_45_6⟩, eX_45_6⟩ : ∃ zz9 : Xs, zz9 = kwF tp len (b_32, e_32, s_32, v_32, w_32) 8 := ⟨_, rfl⟩
      rw [← eX_45_6] at hP hD
      have hle_45_6 := kw_I eX_45_6 hle_32
      refine b_ifeq (tgt := 61) S.1 S.2.1 dX5_readPotter_48 (by decide) (fun c_48 => ?_) (fun c_48 => ?_)
      · refine lv_iconst (v := 2) S.1 S.2.1 dX5_readPotter_61 (by decide) ?_
        refine lv_istore_n (lv' := [(3, .int 2), (2, .int (nI v_22)), (0, .ref (am 0)), (1, .int k9)]) S.1 S.2.1 dX5_readPotter_62 rfl hl (by decide) rfl (fun ls hl => ?_)
        refine lv_aload_n S.1 S.2.1 dX5_readPotter_63 rfl (lv_at hl 2 rfl) ?_
        refine va_ldcwS (q := aS (12 + 9)) (tx := "run") S.1 S.2.1 S.2.2.2.1 (hX.2.2.1 (RX5, 278, "run", 21) (List.mem_of_getElem? (i := 21) rfl)) dX5_readPotter_64 ?_
        refine go_I (run_VX (As := [.ref (aS (12 + 9))]) (rest := []) (n := 1) S hK (bl_P hP [0, 1] rfl) (bl_D hD [0, 1] rfl rfl) (EX_c hX hS hD [0, 1] rfl) (c_X5_takesWord l E aS am q tp len b_45_6 e_45_6 v_45_6 mn pt s_45_6 w_45_6 9 hq3 hl9 (by omega) (hle_45_6).1 (hle_45_6).2.1) gV_X5_270 (by decide +kernel) rfl ⟨rfl, rfl⟩ ⟨Nat.le_of_ble_eq_true rfl, Nat.le_of_ble_eq_true rfl⟩ (ci := 5) (q0 := 0) rfl rfl hl.1 (Nat.le_of_ble_eq_true rfl) dX5_readPotter_67 ⟨Nat.zero_le _, Nat.zero_le _⟩) hP hD hS [0, 1] rfl (had_cons mo_ad (had_cons rfl rfl)) (Bs' := [[mObj am (qX q (kwF tp len (b_45_6, e_45_6, s_45_6, v_45_6, w_45_6) 9) mn pt)], [(am 5, .inl (E.2.1, 120, .inl (sg tp 120)))], [(am 7, .inl (E.2.1, 480, .inl (sg it 480)))]]) rfl (fun H locs hP hD hS => ?_)
        obtain ⟨⟨b_67_7, e_67_7, s_67_7, v_67_7, w_67_7⟩, eX_67_7⟩ : ∃ zz9 : Xs, zz9 = kwF tp len (b_45_6, e_45_6, s_45_6, v_45_6, w_45_6) 9 := ⟨_, rfl⟩
        rw [← eX_67_7] at hP hD
        have hle_67_7 := kw_I eX_67_7 hle_45_6
        refine b_ifeq (tgt := 84) S.1 S.2.1 dX5_readPotter_70 (by decide) (fun c_70 => ?_) (fun c_70 => ?_)
        · refine lv_iconst (v := 0) S.1 S.2.1 dX5_readPotter_84 (by decide) ?_
          refine lv_istore (lv' := [(4, .int 0), (3, .int 2), (2, .int (nI v_22)), (0, .ref (am 0)), (1, .int k9)]) S.1 S.2.1 dX5_readPotter_85 hl (by decide) rfl (fun ls hl => ?_)
          refine lv_aload_n S.1 S.2.1 dX5_readPotter_87 rfl (lv_at hl 3 rfl) ?_
          refine lv_iload_n S.1 S.2.1 dX5_readPotter_88 rfl (lv_at hl 4 rfl) ?_
          refine lv_iload_n S.1 S.2.1 dX5_readPotter_89 rfl (lv_at hl 2 rfl) ?_
          refine lv_iload_n S.1 S.2.1 dX5_readPotter_90 rfl (lv_at hl 1 rfl) ?_
          refine lv_iload S.1 S.2.1 dX5_readPotter_91 (lv_at hl 0 rfl) ?_
          refine go_V (run_V (As := [.int k9, .int (nI v_22), .int 2, .int 0]) (rest := []) (n := 4) S hK (bl_P hP [0, 2] rfl) (bl_D hD [0, 2] rfl rfl) (c_X5_addItem l E am q it b_67_7 e_67_7 v_67_7 mn pt s_67_7 w_67_7 k9 (nI v_22) 2 0 (by omega)) gV_X5_280 (by decide +kernel) rfl ⟨rfl, rfl⟩ ⟨Nat.le_of_ble_eq_true rfl, Nat.le_of_ble_eq_true rfl⟩ (ci := 5) (q0 := 0) rfl rfl hl.1 (Nat.le_of_ble_eq_true rfl) dX5_readPotter_93 ⟨Nat.zero_le _, Nat.zero_le _⟩) hP hD hS [0, 2] rfl (had_cons mo_ad (had_cons cell_ad rfl)) (Bs' := [[mObj am (qX q (b_67_7, e_67_7, s_67_7, v_67_7, w_67_7) (mn + 1) pt)], [(am 5, .inl (E.2.1, 120, .inl (sg tp 120)))], [(am 7, .inl (E.2.1, 480, .inl (sg (itF it mn k9 (nI v_22) 2 0) 480)))]]) rfl (fun H locs hP hD hS => ?_)
          obtain ⟨r_93_2_8, er_93_2_8⟩ : ∃ zz9 : Row, zz9 = itF it mn k9 (nI v_22) 2 0 := ⟨_, rfl⟩
          rw [← er_93_2_8] at hP hD
          refine lv_aload_n S.1 S.2.1 dX5_readPotter_96 rfl (lv_at hl 3 rfl) ?_
          refine lv_dup S.1 S.2.1 dX5_readPotter_97 rfl ?_
          refine gf_X5_265 S hK hP 0 0 rfl rfl (show _ = some (Value.int (nI pt)) from rfl) dX5_readPotter_98 ?_
          refine lv_iconst (v := 1) S.1 S.2.1 dX5_readPotter_101 (by decide) ?_
          refine lv_iadd S.1 S.2.1 dX5_readPotter_102 ?_
          refine lv_eqi (y := nI (pt + 1)) (nI_add pt 1) ?_
          refine pf_X5_265 S hK hP hD hS 0 0 rfl rfl (Nat.le_of_ble_eq_true rfl) (mo_10.trans (congrArg (fun z => ([mObj am z] : va_W)) qX_10)) (Bs1 := [[mObj am (qX q (b_67_7, e_67_7, s_67_7, v_67_7, w_67_7) (mn + 1) (pt + 1))], [(am 5, .inl (E.2.1, 120, .inl (sg tp 120)))], [(am 7, .inl (E.2.1, 480, .inl (sg r_93_2_8 480)))]]) rfl dX5_readPotter_103 (fun H locs hP hD hS => ?_)
          exact retV S hr hlk (by have q0 : mstF tp len (bb, ee, ss, vv, ww) (bI (nI pt < 8)) = (b_15, e_15, s_15, v_15, w_15) := (by rw [bI, if_neg n_7]; exact eX_15.symm); have q7 : optF tp len (b_15, e_15, s_15, v_15, w_15) 7 99 10 = ((b_32, e_32, s_32, v_32, w_32), nI v_22) := (by unfold optF; rw [if_pos c_25, ← eX_22, ← eX_32]); have q8 : optF tp len (b_32, e_32, s_32, v_32, w_32) 8 9 2 = ((b_45_6, e_45_6, s_45_6, v_45_6, w_45_6), 2) := (by unfold optF; rw [if_neg c_48, ← eX_45_6]); have q9 : optF tp len (b_45_6, e_45_6, s_45_6, v_45_6, w_45_6) 9 999 0 = ((b_67_7, e_67_7, s_67_7, v_67_7, w_67_7), 0) := (by unfold optF; rw [if_neg c_70, ← eX_67_7]); have e9 : rdP tp len (bb, ee, ss, vv, ww) pt = ((b_67_7, e_67_7, s_67_7, v_67_7, w_67_7), nI v_22, 2, 0) := (by unfold rdP; simp only [q0, q7, q8, q9]); rw [e9]; rw [er_93_2_8] at hP; exact hP) hS dX5_readPotter_106
        · refine lv_aload_n S.1 S.2.1 dX5_readPotter_73 rfl (lv_at hl 2 rfl) ?_
          refine lv_iconst (v := 0) S.1 S.2.1 dX5_readPotter_74 (by decide) ?_
          refine lv_sipush (v := 999) S.1 S.2.1 dX5_readPotter_75 (by decide) ?_
          refine go_I (run_V (As := [.int 0, .int 999]) (rest := []) (n := 2) S hK (bl_P hP [0, 1] rfl) (bl_D hD [0, 1] rfl rfl) (c_X5_number l E am q tp len b_67_7 e_67_7 v_67_7 mn pt s_67_7 w_67_7 0 999 hq3 hl9 (hle_67_7).2.1) gV_X5_273 (by decide +kernel) rfl ⟨rfl, rfl⟩ ⟨Nat.le_of_ble_eq_true rfl, Nat.le_of_ble_eq_true rfl⟩ (ci := 5) (q0 := 0) rfl rfl hl.1 (Nat.le_of_ble_eq_true rfl) dX5_readPotter_78 ⟨Nat.zero_le _, Nat.zero_le _⟩) hP hD hS [0, 1] rfl (had_cons mo_ad (had_cons rfl rfl)) (Bs' := [[mObj am (qX q (numF tp len (b_67_7, e_67_7, s_67_7, v_67_7, w_67_7) 0 999) mn pt)], [(am 5, .inl (E.2.1, 120, .inl (sg tp 120)))], [(am 7, .inl (E.2.1, 480, .inl (sg it 480)))]]) rfl (fun H locs hP hD hS => ?_)
          obtain ⟨⟨b_78_9, e_78_9, s_78_9, v_78_9, w_78_9⟩, eX_78_9⟩ : ∃ zz9 : Xs, zz9 = numF tp len (b_67_7, e_67_7, s_67_7, v_67_7, w_67_7) 0 999 := ⟨_, rfl⟩
          rw [← eX_78_9] at hP hD
          have hle_78_9 := num_I eX_78_9 hle_67_7
          refine lv_goto (tgt := 85) S.1 S.2.1 dX5_readPotter_81 (by decide) ?_
          refine lv_istore (lv' := [(4, .int (nI v_67_7)), (3, .int 2), (2, .int (nI v_22)), (0, .ref (am 0)), (1, .int k9)]) S.1 S.2.1 dX5_readPotter_85 hl (by decide) rfl (fun ls hl => ?_)
          refine lv_aload_n S.1 S.2.1 dX5_readPotter_87 rfl (lv_at hl 3 rfl) ?_
          refine lv_iload_n S.1 S.2.1 dX5_readPotter_88 rfl (lv_at hl 4 rfl) ?_
          refine lv_iload_n S.1 S.2.1 dX5_readPotter_89 rfl (lv_at hl 2 rfl) ?_
          refine lv_iload_n S.1 S.2.1 dX5_readPotter_90 rfl (lv_at hl 1 rfl) ?_
          refine lv_iload S.1 S.2.1 dX5_readPotter_91 (lv_at hl 0 rfl) ?_
          refine go_V (run_V (As := [.int k9, .int (nI v_22), .int 2, .int (nI v_67_7)]) (rest := []) (n := 4) S hK (bl_P hP [0, 2] rfl) (bl_D hD [0, 2] rfl rfl) (c_X5_addItem l E am q it b_78_9 e_78_9 v_78_9 mn pt s_78_9 w_78_9 k9 (nI v_22) 2 (nI v_67_7) (by omega)) gV_X5_280 (by decide +kernel) rfl ⟨rfl, rfl⟩ ⟨Nat.le_of_ble_eq_true rfl, Nat.le_of_ble_eq_true rfl⟩ (ci := 5) (q0 := 0) rfl rfl hl.1 (Nat.le_of_ble_eq_true rfl) dX5_readPotter_93 ⟨Nat.zero_le _, Nat.zero_le _⟩) hP hD hS [0, 2] rfl (had_cons mo_ad (had_cons cell_ad rfl)) (Bs' := [[mObj am (qX q (b_78_9, e_78_9, s_78_9, v_78_9, w_78_9) (mn + 1) pt)], [(am 5, .inl (E.2.1, 120, .inl (sg tp 120)))], [(am 7, .inl (E.2.1, 480, .inl (sg (itF it mn k9 (nI v_22) 2 (nI v_67_7)) 480)))]]) rfl (fun H locs hP hD hS => ?_)
          obtain ⟨r_93_2_10, er_93_2_10⟩ : ∃ zz9 : Row, zz9 = itF it mn k9 (nI v_22) 2 (nI v_67_7) := ⟨_, rfl⟩
          rw [← er_93_2_10] at hP hD
          refine lv_aload_n S.1 S.2.1 dX5_readPotter_96 rfl (lv_at hl 3 rfl) ?_
          refine lv_dup S.1 S.2.1 dX5_readPotter_97 rfl ?_
          refine gf_X5_265 S hK hP 0 0 rfl rfl (show _ = some (Value.int (nI pt)) from rfl) dX5_readPotter_98 ?_
          refine lv_iconst (v := 1) S.1 S.2.1 dX5_readPotter_101 (by decide) ?_
          refine lv_iadd S.1 S.2.1 dX5_readPotter_102 ?_
          refine lv_eqi (y := nI (pt + 1)) (nI_add pt 1) ?_
          refine pf_X5_265 S hK hP hD hS 0 0 rfl rfl (Nat.le_of_ble_eq_true rfl) (mo_10.trans (congrArg (fun z => ([mObj am z] : va_W)) qX_10)) (Bs1 := [[mObj am (qX q (b_78_9, e_78_9, s_78_9, v_78_9, w_78_9) (mn + 1) (pt + 1))], [(am 5, .inl (E.2.1, 120, .inl (sg tp 120)))], [(am 7, .inl (E.2.1, 480, .inl (sg r_93_2_10 480)))]]) rfl dX5_readPotter_103 (fun H locs hP hD hS => ?_)
          exact retV S hr hlk (by have q0 : mstF tp len (bb, ee, ss, vv, ww) (bI (nI pt < 8)) = (b_15, e_15, s_15, v_15, w_15) := (by rw [bI, if_neg n_7]; exact eX_15.symm); have q7 : optF tp len (b_15, e_15, s_15, v_15, w_15) 7 99 10 = ((b_32, e_32, s_32, v_32, w_32), nI v_22) := (by unfold optF; rw [if_pos c_25, ← eX_22, ← eX_32]); have q8 : optF tp len (b_32, e_32, s_32, v_32, w_32) 8 9 2 = ((b_45_6, e_45_6, s_45_6, v_45_6, w_45_6), 2) := (by unfold optF; rw [if_neg c_48, ← eX_45_6]); have q9 : optF tp len (b_45_6, e_45_6, s_45_6, v_45_6, w_45_6) 9 999 0 = ((b_78_9, e_78_9, s_78_9, v_78_9, w_78_9), nI v_67_7) := (by unfold optF; rw [if_pos c_70, ← eX_67_7, ← eX_78_9]); have e9 : rdP tp len (bb, ee, ss, vv, ww) pt = ((b_78_9, e_78_9, s_78_9, v_78_9, w_78_9), nI v_22, 2, nI v_67_7) := (by unfold rdP; simp only [q0, q7, q8, q9]); rw [e9]; rw [er_93_2_10] at hP; exact hP) hS dX5_readPotter_106
      · refine lv_aload_n S.1 S.2.1 dX5_readPotter_51 rfl (lv_at hl 1 rfl) ?_
        refine lv_iconst (v := 0) S.1 S.2.1 dX5_readPotter_52 (by decide) ?_
        refine lv_bipush (v := 9) S.1 S.2.1 dX5_readPotter_53 (by decide) ?_
        refine go_I (run_V (As := [.int 0, .int 9]) (rest := []) (n := 2) S hK (bl_P hP [0, 1] rfl) (bl_D hD [0, 1] rfl rfl) (c_X5_number l E am q tp len b_45_6 e_45_6 v_45_6 mn pt s_45_6 w_45_6 0 9 hq3 hl9 (hle_45_6).2.1) gV_X5_273 (by decide +kernel) rfl ⟨rfl, rfl⟩ ⟨Nat.le_of_ble_eq_true rfl, Nat.le_of_ble_eq_true rfl⟩ (ci := 5) (q0 := 0) rfl rfl hl.1 (Nat.le_of_ble_eq_true rfl) dX5_readPotter_55 ⟨Nat.zero_le _, Nat.zero_le _⟩) hP hD hS [0, 1] rfl (had_cons mo_ad (had_cons rfl rfl)) (Bs' := [[mObj am (qX q (numF tp len (b_45_6, e_45_6, s_45_6, v_45_6, w_45_6) 0 9) mn pt)], [(am 5, .inl (E.2.1, 120, .inl (sg tp 120)))], [(am 7, .inl (E.2.1, 480, .inl (sg it 480)))]]) rfl (fun H locs hP hD hS => ?_)
        obtain ⟨⟨b_55_11, e_55_11, s_55_11, v_55_11, w_55_11⟩, eX_55_11⟩ : ∃ zz9 : Xs, zz9 = numF tp len (b_45_6, e_45_6, s_45_6, v_45_6, w_45_6) 0 9 := ⟨_, rfl⟩
        rw [← eX_55_11] at hP hD
        have hle_55_11 := num_I eX_55_11 hle_45_6
        refine lv_goto (tgt := 62) S.1 S.2.1 dX5_readPotter_58 (by decide) ?_
        refine lv_istore_n (lv' := [(3, .int (nI v_45_6)), (2, .int (nI v_22)), (0, .ref (am 0)), (1, .int k9)]) S.1 S.2.1 dX5_readPotter_62 rfl hl (by decide) rfl (fun ls hl => ?_)
        refine lv_aload_n S.1 S.2.1 dX5_readPotter_63 rfl (lv_at hl 2 rfl) ?_
        refine va_ldcwS (q := aS (12 + 9)) (tx := "run") S.1 S.2.1 S.2.2.2.1 (hX.2.2.1 (RX5, 278, "run", 21) (List.mem_of_getElem? (i := 21) rfl)) dX5_readPotter_64 ?_
        refine go_I (run_VX (As := [.ref (aS (12 + 9))]) (rest := []) (n := 1) S hK (bl_P hP [0, 1] rfl) (bl_D hD [0, 1] rfl rfl) (EX_c hX hS hD [0, 1] rfl) (c_X5_takesWord l E aS am q tp len b_55_11 e_55_11 v_55_11 mn pt s_55_11 w_55_11 9 hq3 hl9 (by omega) (hle_55_11).1 (hle_55_11).2.1) gV_X5_270 (by decide +kernel) rfl ⟨rfl, rfl⟩ ⟨Nat.le_of_ble_eq_true rfl, Nat.le_of_ble_eq_true rfl⟩ (ci := 5) (q0 := 0) rfl rfl hl.1 (Nat.le_of_ble_eq_true rfl) dX5_readPotter_67 ⟨Nat.zero_le _, Nat.zero_le _⟩) hP hD hS [0, 1] rfl (had_cons mo_ad (had_cons rfl rfl)) (Bs' := [[mObj am (qX q (kwF tp len (b_55_11, e_55_11, s_55_11, v_55_11, w_55_11) 9) mn pt)], [(am 5, .inl (E.2.1, 120, .inl (sg tp 120)))], [(am 7, .inl (E.2.1, 480, .inl (sg it 480)))]]) rfl (fun H locs hP hD hS => ?_)
        obtain ⟨⟨b_67_12, e_67_12, s_67_12, v_67_12, w_67_12⟩, eX_67_12⟩ : ∃ zz9 : Xs, zz9 = kwF tp len (b_55_11, e_55_11, s_55_11, v_55_11, w_55_11) 9 := ⟨_, rfl⟩
        rw [← eX_67_12] at hP hD
        have hle_67_12 := kw_I eX_67_12 hle_55_11
        refine b_ifeq (tgt := 84) S.1 S.2.1 dX5_readPotter_70 (by decide) (fun c_70 => ?_) (fun c_70 => ?_)
        · refine lv_iconst (v := 0) S.1 S.2.1 dX5_readPotter_84 (by decide) ?_
          refine lv_istore (lv' := [(4, .int 0), (3, .int (nI v_45_6)), (2, .int (nI v_22)), (0, .ref (am 0)), (1, .int k9)]) S.1 S.2.1 dX5_readPotter_85 hl (by decide) rfl (fun ls hl => ?_)
          refine lv_aload_n S.1 S.2.1 dX5_readPotter_87 rfl (lv_at hl 3 rfl) ?_
          refine lv_iload_n S.1 S.2.1 dX5_readPotter_88 rfl (lv_at hl 4 rfl) ?_
          refine lv_iload_n S.1 S.2.1 dX5_readPotter_89 rfl (lv_at hl 2 rfl) ?_
          refine lv_iload_n S.1 S.2.1 dX5_readPotter_90 rfl (lv_at hl 1 rfl) ?_
          refine lv_iload S.1 S.2.1 dX5_readPotter_91 (lv_at hl 0 rfl) ?_
          refine go_V (run_V (As := [.int k9, .int (nI v_22), .int (nI v_45_6), .int 0]) (rest := []) (n := 4) S hK (bl_P hP [0, 2] rfl) (bl_D hD [0, 2] rfl rfl) (c_X5_addItem l E am q it b_67_12 e_67_12 v_67_12 mn pt s_67_12 w_67_12 k9 (nI v_22) (nI v_45_6) 0 (by omega)) gV_X5_280 (by decide +kernel) rfl ⟨rfl, rfl⟩ ⟨Nat.le_of_ble_eq_true rfl, Nat.le_of_ble_eq_true rfl⟩ (ci := 5) (q0 := 0) rfl rfl hl.1 (Nat.le_of_ble_eq_true rfl) dX5_readPotter_93 ⟨Nat.zero_le _, Nat.zero_le _⟩) hP hD hS [0, 2] rfl (had_cons mo_ad (had_cons cell_ad rfl)) (Bs' := [[mObj am (qX q (b_67_12, e_67_12, s_67_12, v_67_12, w_67_12) (mn + 1) pt)], [(am 5, .inl (E.2.1, 120, .inl (sg tp 120)))], [(am 7, .inl (E.2.1, 480, .inl (sg (itF it mn k9 (nI v_22) (nI v_45_6) 0) 480)))]]) rfl (fun H locs hP hD hS => ?_)
          obtain ⟨r_93_2_13, er_93_2_13⟩ : ∃ zz9 : Row, zz9 = itF it mn k9 (nI v_22) (nI v_45_6) 0 := ⟨_, rfl⟩
          rw [← er_93_2_13] at hP hD
          refine lv_aload_n S.1 S.2.1 dX5_readPotter_96 rfl (lv_at hl 3 rfl) ?_
          refine lv_dup S.1 S.2.1 dX5_readPotter_97 rfl ?_
          refine gf_X5_265 S hK hP 0 0 rfl rfl (show _ = some (Value.int (nI pt)) from rfl) dX5_readPotter_98 ?_
          refine lv_iconst (v := 1) S.1 S.2.1 dX5_readPotter_101 (by decide) ?_
          refine lv_iadd S.1 S.2.1 dX5_readPotter_102 ?_
          refine lv_eqi (y := nI (pt + 1)) (nI_add pt 1) ?_
          refine pf_X5_265 S hK hP hD hS 0 0 rfl rfl (Nat.le_of_ble_eq_true rfl) (mo_10.trans (congrArg (fun z => ([mObj am z] : va_W)) qX_10)) (Bs1 := [[mObj am (qX q (b_67_12, e_67_12, s_67_12, v_67_12, w_67_12) (mn + 1) (pt + 1))], [(am 5, .inl (E.2.1, 120, .inl (sg tp 120)))], [(am 7, .inl (E.2.1, 480, .inl (sg r_93_2_13 480)))]]) rfl dX5_readPotter_103 (fun H locs hP hD hS => ?_)
          exact retV S hr hlk (by have q0 : mstF tp len (bb, ee, ss, vv, ww) (bI (nI pt < 8)) = (b_15, e_15, s_15, v_15, w_15) := (by rw [bI, if_neg n_7]; exact eX_15.symm); have q7 : optF tp len (b_15, e_15, s_15, v_15, w_15) 7 99 10 = ((b_32, e_32, s_32, v_32, w_32), nI v_22) := (by unfold optF; rw [if_pos c_25, ← eX_22, ← eX_32]); have q8 : optF tp len (b_32, e_32, s_32, v_32, w_32) 8 9 2 = ((b_55_11, e_55_11, s_55_11, v_55_11, w_55_11), nI v_45_6) := (by unfold optF; rw [if_pos c_48, ← eX_45_6, ← eX_55_11]); have q9 : optF tp len (b_55_11, e_55_11, s_55_11, v_55_11, w_55_11) 9 999 0 = ((b_67_12, e_67_12, s_67_12, v_67_12, w_67_12), 0) := (by unfold optF; rw [if_neg c_70, ← eX_67_12]); have e9 : rdP tp len (bb, ee, ss, vv, ww) pt = ((b_67_12, e_67_12, s_67_12, v_67_12, w_67_12), nI v_22, nI v_45_6, 0) := (by unfold rdP; simp only [q0, q7, q8, q9]); rw [e9]; rw [er_93_2_13] at hP; exact hP) hS dX5_readPotter_106
        · refine lv_aload_n S.1 S.2.1 dX5_readPotter_73 rfl (lv_at hl 2 rfl) ?_
          refine lv_iconst (v := 0) S.1 S.2.1 dX5_readPotter_74 (by decide) ?_
          refine lv_sipush (v := 999) S.1 S.2.1 dX5_readPotter_75 (by decide) ?_
          refine go_I (run_V (As := [.int 0, .int 999]) (rest := []) (n := 2) S hK (bl_P hP [0, 1] rfl) (bl_D hD [0, 1] rfl rfl) (c_X5_number l E am q tp len b_67_12 e_67_12 v_67_12 mn pt s_67_12 w_67_12 0 999 hq3 hl9 (hle_67_12).2.1) gV_X5_273 (by decide +kernel) rfl ⟨rfl, rfl⟩ ⟨Nat.le_of_ble_eq_true rfl, Nat.le_of_ble_eq_true rfl⟩ (ci := 5) (q0 := 0) rfl rfl hl.1 (Nat.le_of_ble_eq_true rfl) dX5_readPotter_78 ⟨Nat.zero_le _, Nat.zero_le _⟩) hP hD hS [0, 1] rfl (had_cons mo_ad (had_cons rfl rfl)) (Bs' := [[mObj am (qX q (numF tp len (b_67_12, e_67_12, s_67_12, v_67_12, w_67_12) 0 999) mn pt)], [(am 5, .inl (E.2.1, 120, .inl (sg tp 120)))], [(am 7, .inl (E.2.1, 480, .inl (sg it 480)))]]) rfl (fun H locs hP hD hS => ?_)
          obtain ⟨⟨b_78_14, e_78_14, s_78_14, v_78_14, w_78_14⟩, eX_78_14⟩ : ∃ zz9 : Xs, zz9 = numF tp len (b_67_12, e_67_12, s_67_12, v_67_12, w_67_12) 0 999 := ⟨_, rfl⟩
          rw [← eX_78_14] at hP hD
          have hle_78_14 := num_I eX_78_14 hle_67_12
          refine lv_goto (tgt := 85) S.1 S.2.1 dX5_readPotter_81 (by decide) ?_
          refine lv_istore (lv' := [(4, .int (nI v_67_12)), (3, .int (nI v_45_6)), (2, .int (nI v_22)), (0, .ref (am 0)), (1, .int k9)]) S.1 S.2.1 dX5_readPotter_85 hl (by decide) rfl (fun ls hl => ?_)
          refine lv_aload_n S.1 S.2.1 dX5_readPotter_87 rfl (lv_at hl 3 rfl) ?_
          refine lv_iload_n S.1 S.2.1 dX5_readPotter_88 rfl (lv_at hl 4 rfl) ?_
          refine lv_iload_n S.1 S.2.1 dX5_readPotter_89 rfl (lv_at hl 2 rfl) ?_
          refine lv_iload_n S.1 S.2.1 dX5_readPotter_90 rfl (lv_at hl 1 rfl) ?_
          refine lv_iload S.1 S.2.1 dX5_readPotter_91 (lv_at hl 0 rfl) ?_
          refine go_V (run_V (As := [.int k9, .int (nI v_22), .int (nI v_45_6), .int (nI v_67_12)]) (rest := []) (n := 4) S hK (bl_P hP [0, 2] rfl) (bl_D hD [0, 2] rfl rfl) (c_X5_addItem l E am q it b_78_14 e_78_14 v_78_14 mn pt s_78_14 w_78_14 k9 (nI v_22) (nI v_45_6) (nI v_67_12) (by omega)) gV_X5_280 (by decide +kernel) rfl ⟨rfl, rfl⟩ ⟨Nat.le_of_ble_eq_true rfl, Nat.le_of_ble_eq_true rfl⟩ (ci := 5) (q0 := 0) rfl rfl hl.1 (Nat.le_of_ble_eq_true rfl) dX5_readPotter_93 ⟨Nat.zero_le _, Nat.zero_le _⟩) hP hD hS [0, 2] rfl (had_cons mo_ad (had_cons cell_ad rfl)) (Bs' := [[mObj am (qX q (b_78_14, e_78_14, s_78_14, v_78_14, w_78_14) (mn + 1) pt)], [(am 5, .inl (E.2.1, 120, .inl (sg tp 120)))], [(am 7, .inl (E.2.1, 480, .inl (sg (itF it mn k9 (nI v_22) (nI v_45_6) (nI v_67_12)) 480)))]]) rfl (fun H locs hP hD hS => ?_)
          obtain ⟨r_93_2_15, er_93_2_15⟩ : ∃ zz9 : Row, zz9 = itF it mn k9 (nI v_22) (nI v_45_6) (nI v_67_12) := ⟨_, rfl⟩
          rw [← er_93_2_15] at hP hD
          refine lv_aload_n S.1 S.2.1 dX5_readPotter_96 rfl (lv_at hl 3 rfl) ?_
          refine lv_dup S.1 S.2.1 dX5_readPotter_97 rfl ?_
          refine gf_X5_265 S hK hP 0 0 rfl rfl (show _ = some (Value.int (nI pt)) from rfl) dX5_readPotter_98 ?_
          refine lv_iconst (v := 1) S.1 S.2.1 dX5_readPotter_101 (by decide) ?_
          refine lv_iadd S.1 S.2.1 dX5_readPotter_102 ?_
          refine lv_eqi (y := nI (pt + 1)) (nI_add pt 1) ?_
          refine pf_X5_265 S hK hP hD hS 0 0 rfl rfl (Nat.le_of_ble_eq_true rfl) (mo_10.trans (congrArg (fun z => ([mObj am z] : va_W)) qX_10)) (Bs1 := [[mObj am (qX q (b_78_14, e_78_14, s_78_14, v_78_14, w_78_14) (mn + 1) (pt + 1))], [(am 5, .inl (E.2.1, 120, .inl (sg tp 120)))], [(am 7, .inl (E.2.1, 480, .inl (sg r_93_2_15 480)))]]) rfl dX5_readPotter_103 (fun H locs hP hD hS => ?_)
          exact retV S hr hlk (by have q0 : mstF tp len (bb, ee, ss, vv, ww) (bI (nI pt < 8)) = (b_15, e_15, s_15, v_15, w_15) := (by rw [bI, if_neg n_7]; exact eX_15.symm); have q7 : optF tp len (b_15, e_15, s_15, v_15, w_15) 7 99 10 = ((b_32, e_32, s_32, v_32, w_32), nI v_22) := (by unfold optF; rw [if_pos c_25, ← eX_22, ← eX_32]); have q8 : optF tp len (b_32, e_32, s_32, v_32, w_32) 8 9 2 = ((b_55_11, e_55_11, s_55_11, v_55_11, w_55_11), nI v_45_6) := (by unfold optF; rw [if_pos c_48, ← eX_45_6, ← eX_55_11]); have q9 : optF tp len (b_55_11, e_55_11, s_55_11, v_55_11, w_55_11) 9 999 0 = ((b_78_14, e_78_14, s_78_14, v_78_14, w_78_14), nI v_67_12) := (by unfold optF; rw [if_pos c_70, ← eX_67_12, ← eX_78_14]); have e9 : rdP tp len (bb, ee, ss, vv, ww) pt = ((b_78_14, e_78_14, s_78_14, v_78_14, w_78_14), nI v_22, nI v_45_6, nI v_67_12) := (by unfold rdP; simp only [q0, q7, q8, q9]); rw [e9]; rw [er_93_2_15] at hP; exact hP) hS dX5_readPotter_106
  · have n_7 := Int32.not_le.mp c_7
    refine lv_iconst (v := 1) S.1 S.2.1 dX5_readPotter_10 (by decide) ?_
    refine lv_goto (tgt := 15) S.1 S.2.1 dX5_readPotter_11 (by decide) ?_
    refine go_V (run_V (As := [.int 1]) (rest := []) (n := 1) S hK (bl_P hP [0, 1] rfl) (bl_D hD [0, 1] rfl rfl) (c_X5_must l E am q tp len bb ee vv mn pt ss ww 1 hq3 hl9 (hle).2.1) gV_X5_254 (by decide +kernel) rfl ⟨rfl, rfl⟩ ⟨Nat.le_of_ble_eq_true rfl, Nat.le_of_ble_eq_true rfl⟩ (ci := 5) (q0 := 0) rfl rfl hl.1 (Nat.le_of_ble_eq_true rfl) dX5_readPotter_15 ⟨Nat.zero_le _, Nat.zero_le _⟩) hP hD hS [0, 1] rfl (had_cons mo_ad (had_cons rfl rfl)) (Bs' := [[mObj am (qX q (mstF tp len (bb, ee, ss, vv, ww) 1) mn pt)], [(am 5, .inl (E.2.1, 120, .inl (sg tp 120)))], [(am 7, .inl (E.2.1, 480, .inl (sg it 480)))]]) rfl (fun H locs hP hD hS => ?_)
    obtain ⟨⟨b_15_16, e_15_16, s_15_16, v_15_16, w_15_16⟩, eX_15_16⟩ : ∃ zz9 : Xs, zz9 = mstF tp len (bb, ee, ss, vv, ww) 1 := ⟨_, rfl⟩
    rw [← eX_15_16] at hP hD
    have hle_15_16 := mst_I eX_15_16 hle
    refine lv_aload_n S.1 S.2.1 dX5_readPotter_18 rfl (lv_at hl 0 rfl) ?_
    refine va_ldcwS (q := aS (12 + 7)) (tx := "grief") S.1 S.2.1 S.2.2.2.1 (hX.2.2.1 (RX5, 268, "grief", 19) (List.mem_of_getElem? (i := 19) rfl)) dX5_readPotter_19 ?_
    refine go_I (run_VX (As := [.ref (aS (12 + 7))]) (rest := []) (n := 1) S hK (bl_P hP [0, 1] rfl) (bl_D hD [0, 1] rfl rfl) (EX_c hX hS hD [0, 1] rfl) (c_X5_takesWord l E aS am q tp len b_15_16 e_15_16 v_15_16 mn pt s_15_16 w_15_16 7 hq3 hl9 (by omega) (hle_15_16).1 (hle_15_16).2.1) gV_X5_270 (by decide +kernel) rfl ⟨rfl, rfl⟩ ⟨Nat.le_of_ble_eq_true rfl, Nat.le_of_ble_eq_true rfl⟩ (ci := 5) (q0 := 0) rfl rfl hl.1 (Nat.le_of_ble_eq_true rfl) dX5_readPotter_22 ⟨Nat.zero_le _, Nat.zero_le _⟩) hP hD hS [0, 1] rfl (had_cons mo_ad (had_cons rfl rfl)) (Bs' := [[mObj am (qX q (kwF tp len (b_15_16, e_15_16, s_15_16, v_15_16, w_15_16) 7) mn pt)], [(am 5, .inl (E.2.1, 120, .inl (sg tp 120)))], [(am 7, .inl (E.2.1, 480, .inl (sg it 480)))]]) rfl (fun H locs hP hD hS => ?_)
    obtain ⟨⟨b_22_17, e_22_17, s_22_17, v_22_17, w_22_17⟩, eX_22_17⟩ : ∃ zz9 : Xs, zz9 = kwF tp len (b_15_16, e_15_16, s_15_16, v_15_16, w_15_16) 7 := ⟨_, rfl⟩
    rw [← eX_22_17] at hP hD
    have hle_22_17 := kw_I eX_22_17 hle_15_16
    refine b_ifeq (tgt := 38) S.1 S.2.1 dX5_readPotter_25 (by decide) (fun c_25 => ?_) (fun c_25 => ?_)
    · refine lv_bipush (v := 10) S.1 S.2.1 dX5_readPotter_38 (by decide) ?_
      refine lv_istore_n (lv' := [(2, .int 10), (0, .ref (am 0)), (1, .int k9)]) S.1 S.2.1 dX5_readPotter_40 rfl hl (by decide) rfl (fun ls hl => ?_)
      refine lv_aload_n S.1 S.2.1 dX5_readPotter_41 rfl (lv_at hl 1 rfl) ?_
      refine va_ldcwS (q := aS (12 + 8)) (tx := "hours") S.1 S.2.1 S.2.2.2.1 (hX.2.2.1 (RX5, 276, "hours", 20) (List.mem_of_getElem? (i := 20) rfl)) dX5_readPotter_42 ?_
      refine go_I (run_VX (As := [.ref (aS (12 + 8))]) (rest := []) (n := 1) S hK (bl_P hP [0, 1] rfl) (bl_D hD [0, 1] rfl rfl) (EX_c hX hS hD [0, 1] rfl) (c_X5_takesWord l E aS am q tp len b_22_17 e_22_17 v_22_17 mn pt s_22_17 w_22_17 8 hq3 hl9 (by omega) (hle_22_17).1 (hle_22_17).2.1) gV_X5_270 (by decide +kernel) rfl ⟨rfl, rfl⟩ ⟨Nat.le_of_ble_eq_true rfl, Nat.le_of_ble_eq_true rfl⟩ (ci := 5) (q0 := 0) rfl rfl hl.1 (Nat.le_of_ble_eq_true rfl) dX5_readPotter_45 ⟨Nat.zero_le _, Nat.zero_le _⟩) hP hD hS [0, 1] rfl (had_cons mo_ad (had_cons rfl rfl)) (Bs' := [[mObj am (qX q (kwF tp len (b_22_17, e_22_17, s_22_17, v_22_17, w_22_17) 8) mn pt)], [(am 5, .inl (E.2.1, 120, .inl (sg tp 120)))], [(am 7, .inl (E.2.1, 480, .inl (sg it 480)))]]) rfl (fun H locs hP hD hS => ?_)
      obtain ⟨⟨b_45_18, e_45_18, s_45_18, v_45_18, w_45_18⟩, eX_45_18⟩ : ∃ zz9 : Xs, zz9 = kwF tp len (b_22_17, e_22_17, s_22_17, v_22_17, w_22_17) 8 := ⟨_, rfl⟩
      rw [← eX_45_18] at hP hD
      have hle_45_18 := kw_I eX_45_18 hle_22_17
      refine b_ifeq (tgt := 61) S.1 S.2.1 dX5_readPotter_48 (by decide) (fun c_48 => ?_) (fun c_48 => ?_)
      · refine lv_iconst (v := 2) S.1 S.2.1 dX5_readPotter_61 (by decide) ?_
        refine lv_istore_n (lv' := [(3, .int 2), (2, .int 10), (0, .ref (am 0)), (1, .int k9)]) S.1 S.2.1 dX5_readPotter_62 rfl hl (by decide) rfl (fun ls hl => ?_)
        refine lv_aload_n S.1 S.2.1 dX5_readPotter_63 rfl (lv_at hl 2 rfl) ?_
        refine va_ldcwS (q := aS (12 + 9)) (tx := "run") S.1 S.2.1 S.2.2.2.1 (hX.2.2.1 (RX5, 278, "run", 21) (List.mem_of_getElem? (i := 21) rfl)) dX5_readPotter_64 ?_
        refine go_I (run_VX (As := [.ref (aS (12 + 9))]) (rest := []) (n := 1) S hK (bl_P hP [0, 1] rfl) (bl_D hD [0, 1] rfl rfl) (EX_c hX hS hD [0, 1] rfl) (c_X5_takesWord l E aS am q tp len b_45_18 e_45_18 v_45_18 mn pt s_45_18 w_45_18 9 hq3 hl9 (by omega) (hle_45_18).1 (hle_45_18).2.1) gV_X5_270 (by decide +kernel) rfl ⟨rfl, rfl⟩ ⟨Nat.le_of_ble_eq_true rfl, Nat.le_of_ble_eq_true rfl⟩ (ci := 5) (q0 := 0) rfl rfl hl.1 (Nat.le_of_ble_eq_true rfl) dX5_readPotter_67 ⟨Nat.zero_le _, Nat.zero_le _⟩) hP hD hS [0, 1] rfl (had_cons mo_ad (had_cons rfl rfl)) (Bs' := [[mObj am (qX q (kwF tp len (b_45_18, e_45_18, s_45_18, v_45_18, w_45_18) 9) mn pt)], [(am 5, .inl (E.2.1, 120, .inl (sg tp 120)))], [(am 7, .inl (E.2.1, 480, .inl (sg it 480)))]]) rfl (fun H locs hP hD hS => ?_)
        obtain ⟨⟨b_67_19, e_67_19, s_67_19, v_67_19, w_67_19⟩, eX_67_19⟩ : ∃ zz9 : Xs, zz9 = kwF tp len (b_45_18, e_45_18, s_45_18, v_45_18, w_45_18) 9 := ⟨_, rfl⟩
        rw [← eX_67_19] at hP hD
        have hle_67_19 := kw_I eX_67_19 hle_45_18
        refine b_ifeq (tgt := 84) S.1 S.2.1 dX5_readPotter_70 (by decide) (fun c_70 => ?_) (fun c_70 => ?_)
        · refine lv_iconst (v := 0) S.1 S.2.1 dX5_readPotter_84 (by decide) ?_
          refine lv_istore (lv' := [(4, .int 0), (3, .int 2), (2, .int 10), (0, .ref (am 0)), (1, .int k9)]) S.1 S.2.1 dX5_readPotter_85 hl (by decide) rfl (fun ls hl => ?_)
          refine lv_aload_n S.1 S.2.1 dX5_readPotter_87 rfl (lv_at hl 3 rfl) ?_
          refine lv_iload_n S.1 S.2.1 dX5_readPotter_88 rfl (lv_at hl 4 rfl) ?_
          refine lv_iload_n S.1 S.2.1 dX5_readPotter_89 rfl (lv_at hl 2 rfl) ?_
          refine lv_iload_n S.1 S.2.1 dX5_readPotter_90 rfl (lv_at hl 1 rfl) ?_
          refine lv_iload S.1 S.2.1 dX5_readPotter_91 (lv_at hl 0 rfl) ?_
          refine go_V (run_V (As := [.int k9, .int 10, .int 2, .int 0]) (rest := []) (n := 4) S hK (bl_P hP [0, 2] rfl) (bl_D hD [0, 2] rfl rfl) (c_X5_addItem l E am q it b_67_19 e_67_19 v_67_19 mn pt s_67_19 w_67_19 k9 10 2 0 (by omega)) gV_X5_280 (by decide +kernel) rfl ⟨rfl, rfl⟩ ⟨Nat.le_of_ble_eq_true rfl, Nat.le_of_ble_eq_true rfl⟩ (ci := 5) (q0 := 0) rfl rfl hl.1 (Nat.le_of_ble_eq_true rfl) dX5_readPotter_93 ⟨Nat.zero_le _, Nat.zero_le _⟩) hP hD hS [0, 2] rfl (had_cons mo_ad (had_cons cell_ad rfl)) (Bs' := [[mObj am (qX q (b_67_19, e_67_19, s_67_19, v_67_19, w_67_19) (mn + 1) pt)], [(am 5, .inl (E.2.1, 120, .inl (sg tp 120)))], [(am 7, .inl (E.2.1, 480, .inl (sg (itF it mn k9 10 2 0) 480)))]]) rfl (fun H locs hP hD hS => ?_)
          obtain ⟨r_93_2_20, er_93_2_20⟩ : ∃ zz9 : Row, zz9 = itF it mn k9 10 2 0 := ⟨_, rfl⟩
          rw [← er_93_2_20] at hP hD
          refine lv_aload_n S.1 S.2.1 dX5_readPotter_96 rfl (lv_at hl 3 rfl) ?_
          refine lv_dup S.1 S.2.1 dX5_readPotter_97 rfl ?_
          refine gf_X5_265 S hK hP 0 0 rfl rfl (show _ = some (Value.int (nI pt)) from rfl) dX5_readPotter_98 ?_
          refine lv_iconst (v := 1) S.1 S.2.1 dX5_readPotter_101 (by decide) ?_
          refine lv_iadd S.1 S.2.1 dX5_readPotter_102 ?_
          refine lv_eqi (y := nI (pt + 1)) (nI_add pt 1) ?_
          refine pf_X5_265 S hK hP hD hS 0 0 rfl rfl (Nat.le_of_ble_eq_true rfl) (mo_10.trans (congrArg (fun z => ([mObj am z] : va_W)) qX_10)) (Bs1 := [[mObj am (qX q (b_67_19, e_67_19, s_67_19, v_67_19, w_67_19) (mn + 1) (pt + 1))], [(am 5, .inl (E.2.1, 120, .inl (sg tp 120)))], [(am 7, .inl (E.2.1, 480, .inl (sg r_93_2_20 480)))]]) rfl dX5_readPotter_103 (fun H locs hP hD hS => ?_)
          exact retV S hr hlk (by have q0 : mstF tp len (bb, ee, ss, vv, ww) (bI (nI pt < 8)) = (b_15_16, e_15_16, s_15_16, v_15_16, w_15_16) := (by rw [bI, if_pos n_7]; exact eX_15_16.symm); have q7 : optF tp len (b_15_16, e_15_16, s_15_16, v_15_16, w_15_16) 7 99 10 = ((b_22_17, e_22_17, s_22_17, v_22_17, w_22_17), 10) := (by unfold optF; rw [if_neg c_25, ← eX_22_17]); have q8 : optF tp len (b_22_17, e_22_17, s_22_17, v_22_17, w_22_17) 8 9 2 = ((b_45_18, e_45_18, s_45_18, v_45_18, w_45_18), 2) := (by unfold optF; rw [if_neg c_48, ← eX_45_18]); have q9 : optF tp len (b_45_18, e_45_18, s_45_18, v_45_18, w_45_18) 9 999 0 = ((b_67_19, e_67_19, s_67_19, v_67_19, w_67_19), 0) := (by unfold optF; rw [if_neg c_70, ← eX_67_19]); have e9 : rdP tp len (bb, ee, ss, vv, ww) pt = ((b_67_19, e_67_19, s_67_19, v_67_19, w_67_19), 10, 2, 0) := (by unfold rdP; simp only [q0, q7, q8, q9]); rw [e9]; rw [er_93_2_20] at hP; exact hP) hS dX5_readPotter_106
        · refine lv_aload_n S.1 S.2.1 dX5_readPotter_73 rfl (lv_at hl 2 rfl) ?_
          refine lv_iconst (v := 0) S.1 S.2.1 dX5_readPotter_74 (by decide) ?_
          refine lv_sipush (v := 999) S.1 S.2.1 dX5_readPotter_75 (by decide) ?_
          refine go_I (run_V (As := [.int 0, .int 999]) (rest := []) (n := 2) S hK (bl_P hP [0, 1] rfl) (bl_D hD [0, 1] rfl rfl) (c_X5_number l E am q tp len b_67_19 e_67_19 v_67_19 mn pt s_67_19 w_67_19 0 999 hq3 hl9 (hle_67_19).2.1) gV_X5_273 (by decide +kernel) rfl ⟨rfl, rfl⟩ ⟨Nat.le_of_ble_eq_true rfl, Nat.le_of_ble_eq_true rfl⟩ (ci := 5) (q0 := 0) rfl rfl hl.1 (Nat.le_of_ble_eq_true rfl) dX5_readPotter_78 ⟨Nat.zero_le _, Nat.zero_le _⟩) hP hD hS [0, 1] rfl (had_cons mo_ad (had_cons rfl rfl)) (Bs' := [[mObj am (qX q (numF tp len (b_67_19, e_67_19, s_67_19, v_67_19, w_67_19) 0 999) mn pt)], [(am 5, .inl (E.2.1, 120, .inl (sg tp 120)))], [(am 7, .inl (E.2.1, 480, .inl (sg it 480)))]]) rfl (fun H locs hP hD hS => ?_)
          obtain ⟨⟨b_78_21, e_78_21, s_78_21, v_78_21, w_78_21⟩, eX_78_21⟩ : ∃ zz9 : Xs, zz9 = numF tp len (b_67_19, e_67_19, s_67_19, v_67_19, w_67_19) 0 999 := ⟨_, rfl⟩
          rw [← eX_78_21] at hP hD
          have hle_78_21 := num_I eX_78_21 hle_67_19
          refine lv_goto (tgt := 85) S.1 S.2.1 dX5_readPotter_81 (by decide) ?_
          refine lv_istore (lv' := [(4, .int (nI v_67_19)), (3, .int 2), (2, .int 10), (0, .ref (am 0)), (1, .int k9)]) S.1 S.2.1 dX5_readPotter_85 hl (by decide) rfl (fun ls hl => ?_)
          refine lv_aload_n S.1 S.2.1 dX5_readPotter_87 rfl (lv_at hl 3 rfl) ?_
          refine lv_iload_n S.1 S.2.1 dX5_readPotter_88 rfl (lv_at hl 4 rfl) ?_
          refine lv_iload_n S.1 S.2.1 dX5_readPotter_89 rfl (lv_at hl 2 rfl) ?_
          refine lv_iload_n S.1 S.2.1 dX5_readPotter_90 rfl (lv_at hl 1 rfl) ?_
          refine lv_iload S.1 S.2.1 dX5_readPotter_91 (lv_at hl 0 rfl) ?_
          refine go_V (run_V (As := [.int k9, .int 10, .int 2, .int (nI v_67_19)]) (rest := []) (n := 4) S hK (bl_P hP [0, 2] rfl) (bl_D hD [0, 2] rfl rfl) (c_X5_addItem l E am q it b_78_21 e_78_21 v_78_21 mn pt s_78_21 w_78_21 k9 10 2 (nI v_67_19) (by omega)) gV_X5_280 (by decide +kernel) rfl ⟨rfl, rfl⟩ ⟨Nat.le_of_ble_eq_true rfl, Nat.le_of_ble_eq_true rfl⟩ (ci := 5) (q0 := 0) rfl rfl hl.1 (Nat.le_of_ble_eq_true rfl) dX5_readPotter_93 ⟨Nat.zero_le _, Nat.zero_le _⟩) hP hD hS [0, 2] rfl (had_cons mo_ad (had_cons cell_ad rfl)) (Bs' := [[mObj am (qX q (b_78_21, e_78_21, s_78_21, v_78_21, w_78_21) (mn + 1) pt)], [(am 5, .inl (E.2.1, 120, .inl (sg tp 120)))], [(am 7, .inl (E.2.1, 480, .inl (sg (itF it mn k9 10 2 (nI v_67_19)) 480)))]]) rfl (fun H locs hP hD hS => ?_)
          obtain ⟨r_93_2_22, er_93_2_22⟩ : ∃ zz9 : Row, zz9 = itF it mn k9 10 2 (nI v_67_19) := ⟨_, rfl⟩
          rw [← er_93_2_22] at hP hD
          refine lv_aload_n S.1 S.2.1 dX5_readPotter_96 rfl (lv_at hl 3 rfl) ?_
          refine lv_dup S.1 S.2.1 dX5_readPotter_97 rfl ?_
          refine gf_X5_265 S hK hP 0 0 rfl rfl (show _ = some (Value.int (nI pt)) from rfl) dX5_readPotter_98 ?_
          refine lv_iconst (v := 1) S.1 S.2.1 dX5_readPotter_101 (by decide) ?_
          refine lv_iadd S.1 S.2.1 dX5_readPotter_102 ?_
          refine lv_eqi (y := nI (pt + 1)) (nI_add pt 1) ?_
          refine pf_X5_265 S hK hP hD hS 0 0 rfl rfl (Nat.le_of_ble_eq_true rfl) (mo_10.trans (congrArg (fun z => ([mObj am z] : va_W)) qX_10)) (Bs1 := [[mObj am (qX q (b_78_21, e_78_21, s_78_21, v_78_21, w_78_21) (mn + 1) (pt + 1))], [(am 5, .inl (E.2.1, 120, .inl (sg tp 120)))], [(am 7, .inl (E.2.1, 480, .inl (sg r_93_2_22 480)))]]) rfl dX5_readPotter_103 (fun H locs hP hD hS => ?_)
          exact retV S hr hlk (by have q0 : mstF tp len (bb, ee, ss, vv, ww) (bI (nI pt < 8)) = (b_15_16, e_15_16, s_15_16, v_15_16, w_15_16) := (by rw [bI, if_pos n_7]; exact eX_15_16.symm); have q7 : optF tp len (b_15_16, e_15_16, s_15_16, v_15_16, w_15_16) 7 99 10 = ((b_22_17, e_22_17, s_22_17, v_22_17, w_22_17), 10) := (by unfold optF; rw [if_neg c_25, ← eX_22_17]); have q8 : optF tp len (b_22_17, e_22_17, s_22_17, v_22_17, w_22_17) 8 9 2 = ((b_45_18, e_45_18, s_45_18, v_45_18, w_45_18), 2) := (by unfold optF; rw [if_neg c_48, ← eX_45_18]); have q9 : optF tp len (b_45_18, e_45_18, s_45_18, v_45_18, w_45_18) 9 999 0 = ((b_78_21, e_78_21, s_78_21, v_78_21, w_78_21), nI v_67_19) := (by unfold optF; rw [if_pos c_70, ← eX_67_19, ← eX_78_21]); have e9 : rdP tp len (bb, ee, ss, vv, ww) pt = ((b_78_21, e_78_21, s_78_21, v_78_21, w_78_21), 10, 2, nI v_67_19) := (by unfold rdP; simp only [q0, q7, q8, q9]); rw [e9]; rw [er_93_2_22] at hP; exact hP) hS dX5_readPotter_106
      · refine lv_aload_n S.1 S.2.1 dX5_readPotter_51 rfl (lv_at hl 1 rfl) ?_
        refine lv_iconst (v := 0) S.1 S.2.1 dX5_readPotter_52 (by decide) ?_
        refine lv_bipush (v := 9) S.1 S.2.1 dX5_readPotter_53 (by decide) ?_
        refine go_I (run_V (As := [.int 0, .int 9]) (rest := []) (n := 2) S hK (bl_P hP [0, 1] rfl) (bl_D hD [0, 1] rfl rfl) (c_X5_number l E am q tp len b_45_18 e_45_18 v_45_18 mn pt s_45_18 w_45_18 0 9 hq3 hl9 (hle_45_18).2.1) gV_X5_273 (by decide +kernel) rfl ⟨rfl, rfl⟩ ⟨Nat.le_of_ble_eq_true rfl, Nat.le_of_ble_eq_true rfl⟩ (ci := 5) (q0 := 0) rfl rfl hl.1 (Nat.le_of_ble_eq_true rfl) dX5_readPotter_55 ⟨Nat.zero_le _, Nat.zero_le _⟩) hP hD hS [0, 1] rfl (had_cons mo_ad (had_cons rfl rfl)) (Bs' := [[mObj am (qX q (numF tp len (b_45_18, e_45_18, s_45_18, v_45_18, w_45_18) 0 9) mn pt)], [(am 5, .inl (E.2.1, 120, .inl (sg tp 120)))], [(am 7, .inl (E.2.1, 480, .inl (sg it 480)))]]) rfl (fun H locs hP hD hS => ?_)
        obtain ⟨⟨b_55_23, e_55_23, s_55_23, v_55_23, w_55_23⟩, eX_55_23⟩ : ∃ zz9 : Xs, zz9 = numF tp len (b_45_18, e_45_18, s_45_18, v_45_18, w_45_18) 0 9 := ⟨_, rfl⟩
        rw [← eX_55_23] at hP hD
        have hle_55_23 := num_I eX_55_23 hle_45_18
        refine lv_goto (tgt := 62) S.1 S.2.1 dX5_readPotter_58 (by decide) ?_
        refine lv_istore_n (lv' := [(3, .int (nI v_45_18)), (2, .int 10), (0, .ref (am 0)), (1, .int k9)]) S.1 S.2.1 dX5_readPotter_62 rfl hl (by decide) rfl (fun ls hl => ?_)
        refine lv_aload_n S.1 S.2.1 dX5_readPotter_63 rfl (lv_at hl 2 rfl) ?_
        refine va_ldcwS (q := aS (12 + 9)) (tx := "run") S.1 S.2.1 S.2.2.2.1 (hX.2.2.1 (RX5, 278, "run", 21) (List.mem_of_getElem? (i := 21) rfl)) dX5_readPotter_64 ?_
        refine go_I (run_VX (As := [.ref (aS (12 + 9))]) (rest := []) (n := 1) S hK (bl_P hP [0, 1] rfl) (bl_D hD [0, 1] rfl rfl) (EX_c hX hS hD [0, 1] rfl) (c_X5_takesWord l E aS am q tp len b_55_23 e_55_23 v_55_23 mn pt s_55_23 w_55_23 9 hq3 hl9 (by omega) (hle_55_23).1 (hle_55_23).2.1) gV_X5_270 (by decide +kernel) rfl ⟨rfl, rfl⟩ ⟨Nat.le_of_ble_eq_true rfl, Nat.le_of_ble_eq_true rfl⟩ (ci := 5) (q0 := 0) rfl rfl hl.1 (Nat.le_of_ble_eq_true rfl) dX5_readPotter_67 ⟨Nat.zero_le _, Nat.zero_le _⟩) hP hD hS [0, 1] rfl (had_cons mo_ad (had_cons rfl rfl)) (Bs' := [[mObj am (qX q (kwF tp len (b_55_23, e_55_23, s_55_23, v_55_23, w_55_23) 9) mn pt)], [(am 5, .inl (E.2.1, 120, .inl (sg tp 120)))], [(am 7, .inl (E.2.1, 480, .inl (sg it 480)))]]) rfl (fun H locs hP hD hS => ?_)
        obtain ⟨⟨b_67_24, e_67_24, s_67_24, v_67_24, w_67_24⟩, eX_67_24⟩ : ∃ zz9 : Xs, zz9 = kwF tp len (b_55_23, e_55_23, s_55_23, v_55_23, w_55_23) 9 := ⟨_, rfl⟩
        rw [← eX_67_24] at hP hD
        have hle_67_24 := kw_I eX_67_24 hle_55_23
        refine b_ifeq (tgt := 84) S.1 S.2.1 dX5_readPotter_70 (by decide) (fun c_70 => ?_) (fun c_70 => ?_)
        · refine lv_iconst (v := 0) S.1 S.2.1 dX5_readPotter_84 (by decide) ?_
          refine lv_istore (lv' := [(4, .int 0), (3, .int (nI v_45_18)), (2, .int 10), (0, .ref (am 0)), (1, .int k9)]) S.1 S.2.1 dX5_readPotter_85 hl (by decide) rfl (fun ls hl => ?_)
          refine lv_aload_n S.1 S.2.1 dX5_readPotter_87 rfl (lv_at hl 3 rfl) ?_
          refine lv_iload_n S.1 S.2.1 dX5_readPotter_88 rfl (lv_at hl 4 rfl) ?_
          refine lv_iload_n S.1 S.2.1 dX5_readPotter_89 rfl (lv_at hl 2 rfl) ?_
          refine lv_iload_n S.1 S.2.1 dX5_readPotter_90 rfl (lv_at hl 1 rfl) ?_
          refine lv_iload S.1 S.2.1 dX5_readPotter_91 (lv_at hl 0 rfl) ?_
          refine go_V (run_V (As := [.int k9, .int 10, .int (nI v_45_18), .int 0]) (rest := []) (n := 4) S hK (bl_P hP [0, 2] rfl) (bl_D hD [0, 2] rfl rfl) (c_X5_addItem l E am q it b_67_24 e_67_24 v_67_24 mn pt s_67_24 w_67_24 k9 10 (nI v_45_18) 0 (by omega)) gV_X5_280 (by decide +kernel) rfl ⟨rfl, rfl⟩ ⟨Nat.le_of_ble_eq_true rfl, Nat.le_of_ble_eq_true rfl⟩ (ci := 5) (q0 := 0) rfl rfl hl.1 (Nat.le_of_ble_eq_true rfl) dX5_readPotter_93 ⟨Nat.zero_le _, Nat.zero_le _⟩) hP hD hS [0, 2] rfl (had_cons mo_ad (had_cons cell_ad rfl)) (Bs' := [[mObj am (qX q (b_67_24, e_67_24, s_67_24, v_67_24, w_67_24) (mn + 1) pt)], [(am 5, .inl (E.2.1, 120, .inl (sg tp 120)))], [(am 7, .inl (E.2.1, 480, .inl (sg (itF it mn k9 10 (nI v_45_18) 0) 480)))]]) rfl (fun H locs hP hD hS => ?_)
          obtain ⟨r_93_2_25, er_93_2_25⟩ : ∃ zz9 : Row, zz9 = itF it mn k9 10 (nI v_45_18) 0 := ⟨_, rfl⟩
          rw [← er_93_2_25] at hP hD
          refine lv_aload_n S.1 S.2.1 dX5_readPotter_96 rfl (lv_at hl 3 rfl) ?_
          refine lv_dup S.1 S.2.1 dX5_readPotter_97 rfl ?_
          refine gf_X5_265 S hK hP 0 0 rfl rfl (show _ = some (Value.int (nI pt)) from rfl) dX5_readPotter_98 ?_
          refine lv_iconst (v := 1) S.1 S.2.1 dX5_readPotter_101 (by decide) ?_
          refine lv_iadd S.1 S.2.1 dX5_readPotter_102 ?_
          refine lv_eqi (y := nI (pt + 1)) (nI_add pt 1) ?_
          refine pf_X5_265 S hK hP hD hS 0 0 rfl rfl (Nat.le_of_ble_eq_true rfl) (mo_10.trans (congrArg (fun z => ([mObj am z] : va_W)) qX_10)) (Bs1 := [[mObj am (qX q (b_67_24, e_67_24, s_67_24, v_67_24, w_67_24) (mn + 1) (pt + 1))], [(am 5, .inl (E.2.1, 120, .inl (sg tp 120)))], [(am 7, .inl (E.2.1, 480, .inl (sg r_93_2_25 480)))]]) rfl dX5_readPotter_103 (fun H locs hP hD hS => ?_)
          exact retV S hr hlk (by have q0 : mstF tp len (bb, ee, ss, vv, ww) (bI (nI pt < 8)) = (b_15_16, e_15_16, s_15_16, v_15_16, w_15_16) := (by rw [bI, if_pos n_7]; exact eX_15_16.symm); have q7 : optF tp len (b_15_16, e_15_16, s_15_16, v_15_16, w_15_16) 7 99 10 = ((b_22_17, e_22_17, s_22_17, v_22_17, w_22_17), 10) := (by unfold optF; rw [if_neg c_25, ← eX_22_17]); have q8 : optF tp len (b_22_17, e_22_17, s_22_17, v_22_17, w_22_17) 8 9 2 = ((b_55_23, e_55_23, s_55_23, v_55_23, w_55_23), nI v_45_18) := (by unfold optF; rw [if_pos c_48, ← eX_45_18, ← eX_55_23]); have q9 : optF tp len (b_55_23, e_55_23, s_55_23, v_55_23, w_55_23) 9 999 0 = ((b_67_24, e_67_24, s_67_24, v_67_24, w_67_24), 0) := (by unfold optF; rw [if_neg c_70, ← eX_67_24]); have e9 : rdP tp len (bb, ee, ss, vv, ww) pt = ((b_67_24, e_67_24, s_67_24, v_67_24, w_67_24), 10, nI v_45_18, 0) := (by unfold rdP; simp only [q0, q7, q8, q9]); rw [e9]; rw [er_93_2_25] at hP; exact hP) hS dX5_readPotter_106
        · refine lv_aload_n S.1 S.2.1 dX5_readPotter_73 rfl (lv_at hl 2 rfl) ?_
          refine lv_iconst (v := 0) S.1 S.2.1 dX5_readPotter_74 (by decide) ?_
          refine lv_sipush (v := 999) S.1 S.2.1 dX5_readPotter_75 (by decide) ?_
          refine go_I (run_V (As := [.int 0, .int 999]) (rest := []) (n := 2) S hK (bl_P hP [0, 1] rfl) (bl_D hD [0, 1] rfl rfl) (c_X5_number l E am q tp len b_67_24 e_67_24 v_67_24 mn pt s_67_24 w_67_24 0 999 hq3 hl9 (hle_67_24).2.1) gV_X5_273 (by decide +kernel) rfl ⟨rfl, rfl⟩ ⟨Nat.le_of_ble_eq_true rfl, Nat.le_of_ble_eq_true rfl⟩ (ci := 5) (q0 := 0) rfl rfl hl.1 (Nat.le_of_ble_eq_true rfl) dX5_readPotter_78 ⟨Nat.zero_le _, Nat.zero_le _⟩) hP hD hS [0, 1] rfl (had_cons mo_ad (had_cons rfl rfl)) (Bs' := [[mObj am (qX q (numF tp len (b_67_24, e_67_24, s_67_24, v_67_24, w_67_24) 0 999) mn pt)], [(am 5, .inl (E.2.1, 120, .inl (sg tp 120)))], [(am 7, .inl (E.2.1, 480, .inl (sg it 480)))]]) rfl (fun H locs hP hD hS => ?_)
          obtain ⟨⟨b_78_26, e_78_26, s_78_26, v_78_26, w_78_26⟩, eX_78_26⟩ : ∃ zz9 : Xs, zz9 = numF tp len (b_67_24, e_67_24, s_67_24, v_67_24, w_67_24) 0 999 := ⟨_, rfl⟩
          rw [← eX_78_26] at hP hD
          have hle_78_26 := num_I eX_78_26 hle_67_24
          refine lv_goto (tgt := 85) S.1 S.2.1 dX5_readPotter_81 (by decide) ?_
          refine lv_istore (lv' := [(4, .int (nI v_67_24)), (3, .int (nI v_45_18)), (2, .int 10), (0, .ref (am 0)), (1, .int k9)]) S.1 S.2.1 dX5_readPotter_85 hl (by decide) rfl (fun ls hl => ?_)
          refine lv_aload_n S.1 S.2.1 dX5_readPotter_87 rfl (lv_at hl 3 rfl) ?_
          refine lv_iload_n S.1 S.2.1 dX5_readPotter_88 rfl (lv_at hl 4 rfl) ?_
          refine lv_iload_n S.1 S.2.1 dX5_readPotter_89 rfl (lv_at hl 2 rfl) ?_
          refine lv_iload_n S.1 S.2.1 dX5_readPotter_90 rfl (lv_at hl 1 rfl) ?_
          refine lv_iload S.1 S.2.1 dX5_readPotter_91 (lv_at hl 0 rfl) ?_
          refine go_V (run_V (As := [.int k9, .int 10, .int (nI v_45_18), .int (nI v_67_24)]) (rest := []) (n := 4) S hK (bl_P hP [0, 2] rfl) (bl_D hD [0, 2] rfl rfl) (c_X5_addItem l E am q it b_78_26 e_78_26 v_78_26 mn pt s_78_26 w_78_26 k9 10 (nI v_45_18) (nI v_67_24) (by omega)) gV_X5_280 (by decide +kernel) rfl ⟨rfl, rfl⟩ ⟨Nat.le_of_ble_eq_true rfl, Nat.le_of_ble_eq_true rfl⟩ (ci := 5) (q0 := 0) rfl rfl hl.1 (Nat.le_of_ble_eq_true rfl) dX5_readPotter_93 ⟨Nat.zero_le _, Nat.zero_le _⟩) hP hD hS [0, 2] rfl (had_cons mo_ad (had_cons cell_ad rfl)) (Bs' := [[mObj am (qX q (b_78_26, e_78_26, s_78_26, v_78_26, w_78_26) (mn + 1) pt)], [(am 5, .inl (E.2.1, 120, .inl (sg tp 120)))], [(am 7, .inl (E.2.1, 480, .inl (sg (itF it mn k9 10 (nI v_45_18) (nI v_67_24)) 480)))]]) rfl (fun H locs hP hD hS => ?_)
          obtain ⟨r_93_2_27, er_93_2_27⟩ : ∃ zz9 : Row, zz9 = itF it mn k9 10 (nI v_45_18) (nI v_67_24) := ⟨_, rfl⟩
          rw [← er_93_2_27] at hP hD
          refine lv_aload_n S.1 S.2.1 dX5_readPotter_96 rfl (lv_at hl 3 rfl) ?_
          refine lv_dup S.1 S.2.1 dX5_readPotter_97 rfl ?_
          refine gf_X5_265 S hK hP 0 0 rfl rfl (show _ = some (Value.int (nI pt)) from rfl) dX5_readPotter_98 ?_
          refine lv_iconst (v := 1) S.1 S.2.1 dX5_readPotter_101 (by decide) ?_
          refine lv_iadd S.1 S.2.1 dX5_readPotter_102 ?_
          refine lv_eqi (y := nI (pt + 1)) (nI_add pt 1) ?_
          refine pf_X5_265 S hK hP hD hS 0 0 rfl rfl (Nat.le_of_ble_eq_true rfl) (mo_10.trans (congrArg (fun z => ([mObj am z] : va_W)) qX_10)) (Bs1 := [[mObj am (qX q (b_78_26, e_78_26, s_78_26, v_78_26, w_78_26) (mn + 1) (pt + 1))], [(am 5, .inl (E.2.1, 120, .inl (sg tp 120)))], [(am 7, .inl (E.2.1, 480, .inl (sg r_93_2_27 480)))]]) rfl dX5_readPotter_103 (fun H locs hP hD hS => ?_)
          exact retV S hr hlk (by have q0 : mstF tp len (bb, ee, ss, vv, ww) (bI (nI pt < 8)) = (b_15_16, e_15_16, s_15_16, v_15_16, w_15_16) := (by rw [bI, if_pos n_7]; exact eX_15_16.symm); have q7 : optF tp len (b_15_16, e_15_16, s_15_16, v_15_16, w_15_16) 7 99 10 = ((b_22_17, e_22_17, s_22_17, v_22_17, w_22_17), 10) := (by unfold optF; rw [if_neg c_25, ← eX_22_17]); have q8 : optF tp len (b_22_17, e_22_17, s_22_17, v_22_17, w_22_17) 8 9 2 = ((b_55_23, e_55_23, s_55_23, v_55_23, w_55_23), nI v_45_18) := (by unfold optF; rw [if_pos c_48, ← eX_45_18, ← eX_55_23]); have q9 : optF tp len (b_55_23, e_55_23, s_55_23, v_55_23, w_55_23) 9 999 0 = ((b_78_26, e_78_26, s_78_26, v_78_26, w_78_26), nI v_67_24) := (by unfold optF; rw [if_pos c_70, ← eX_67_24, ← eX_78_26]); have e9 : rdP tp len (bb, ee, ss, vv, ww) pt = ((b_78_26, e_78_26, s_78_26, v_78_26, w_78_26), 10, nI v_45_18, nI v_67_24) := (by unfold rdP; simp only [q0, q7, q8, q9]); rw [e9]; rw [er_93_2_27] at hP; exact hP) hS dX5_readPotter_106
    · refine lv_aload_n S.1 S.2.1 dX5_readPotter_28 rfl (lv_at hl 0 rfl) ?_
      refine lv_iconst (v := 0) S.1 S.2.1 dX5_readPotter_29 (by decide) ?_
      refine lv_bipush (v := 99) S.1 S.2.1 dX5_readPotter_30 (by decide) ?_
      refine go_I (run_V (As := [.int 0, .int 99]) (rest := []) (n := 2) S hK (bl_P hP [0, 1] rfl) (bl_D hD [0, 1] rfl rfl) (c_X5_number l E am q tp len b_22_17 e_22_17 v_22_17 mn pt s_22_17 w_22_17 0 99 hq3 hl9 (hle_22_17).2.1) gV_X5_273 (by decide +kernel) rfl ⟨rfl, rfl⟩ ⟨Nat.le_of_ble_eq_true rfl, Nat.le_of_ble_eq_true rfl⟩ (ci := 5) (q0 := 0) rfl rfl hl.1 (Nat.le_of_ble_eq_true rfl) dX5_readPotter_32 ⟨Nat.zero_le _, Nat.zero_le _⟩) hP hD hS [0, 1] rfl (had_cons mo_ad (had_cons rfl rfl)) (Bs' := [[mObj am (qX q (numF tp len (b_22_17, e_22_17, s_22_17, v_22_17, w_22_17) 0 99) mn pt)], [(am 5, .inl (E.2.1, 120, .inl (sg tp 120)))], [(am 7, .inl (E.2.1, 480, .inl (sg it 480)))]]) rfl (fun H locs hP hD hS => ?_)
      obtain ⟨⟨b_32_28, e_32_28, s_32_28, v_32_28, w_32_28⟩, eX_32_28⟩ : ∃ zz9 : Xs, zz9 = numF tp len (b_22_17, e_22_17, s_22_17, v_22_17, w_22_17) 0 99 := ⟨_, rfl⟩
      rw [← eX_32_28] at hP hD
      have hle_32_28 := num_I eX_32_28 hle_22_17
      refine lv_goto (tgt := 40) S.1 S.2.1 dX5_readPotter_35 (by decide) ?_
      refine lv_istore_n (lv' := [(2, .int (nI v_22_17)), (0, .ref (am 0)), (1, .int k9)]) S.1 S.2.1 dX5_readPotter_40 rfl hl (by decide) rfl (fun ls hl => ?_)
      refine lv_aload_n S.1 S.2.1 dX5_readPotter_41 rfl (lv_at hl 1 rfl) ?_
      refine va_ldcwS (q := aS (12 + 8)) (tx := "hours") S.1 S.2.1 S.2.2.2.1 (hX.2.2.1 (RX5, 276, "hours", 20) (List.mem_of_getElem? (i := 20) rfl)) dX5_readPotter_42 ?_
      refine go_I (run_VX (As := [.ref (aS (12 + 8))]) (rest := []) (n := 1) S hK (bl_P hP [0, 1] rfl) (bl_D hD [0, 1] rfl rfl) (EX_c hX hS hD [0, 1] rfl) (c_X5_takesWord l E aS am q tp len b_32_28 e_32_28 v_32_28 mn pt s_32_28 w_32_28 8 hq3 hl9 (by omega) (hle_32_28).1 (hle_32_28).2.1) gV_X5_270 (by decide +kernel) rfl ⟨rfl, rfl⟩ ⟨Nat.le_of_ble_eq_true rfl, Nat.le_of_ble_eq_true rfl⟩ (ci := 5) (q0 := 0) rfl rfl hl.1 (Nat.le_of_ble_eq_true rfl) dX5_readPotter_45 ⟨Nat.zero_le _, Nat.zero_le _⟩) hP hD hS [0, 1] rfl (had_cons mo_ad (had_cons rfl rfl)) (Bs' := [[mObj am (qX q (kwF tp len (b_32_28, e_32_28, s_32_28, v_32_28, w_32_28) 8) mn pt)], [(am 5, .inl (E.2.1, 120, .inl (sg tp 120)))], [(am 7, .inl (E.2.1, 480, .inl (sg it 480)))]]) rfl (fun H locs hP hD hS => ?_)
      obtain ⟨⟨b_45_29, e_45_29, s_45_29, v_45_29, w_45_29⟩, eX_45_29⟩ : ∃ zz9 : Xs, zz9 = kwF tp len (b_32_28, e_32_28, s_32_28, v_32_28, w_32_28) 8 := ⟨_, rfl⟩
      rw [← eX_45_29] at hP hD
      have hle_45_29 := kw_I eX_45_29 hle_32_28
      refine b_ifeq (tgt := 61) S.1 S.2.1 dX5_readPotter_48 (by decide) (fun c_48 => ?_) (fun c_48 => ?_)
      · refine lv_iconst (v := 2) S.1 S.2.1 dX5_readPotter_61 (by decide) ?_
        refine lv_istore_n (lv' := [(3, .int 2), (2, .int (nI v_22_17)), (0, .ref (am 0)), (1, .int k9)]) S.1 S.2.1 dX5_readPotter_62 rfl hl (by decide) rfl (fun ls hl => ?_)
        refine lv_aload_n S.1 S.2.1 dX5_readPotter_63 rfl (lv_at hl 2 rfl) ?_
        refine va_ldcwS (q := aS (12 + 9)) (tx := "run") S.1 S.2.1 S.2.2.2.1 (hX.2.2.1 (RX5, 278, "run", 21) (List.mem_of_getElem? (i := 21) rfl)) dX5_readPotter_64 ?_
        refine go_I (run_VX (As := [.ref (aS (12 + 9))]) (rest := []) (n := 1) S hK (bl_P hP [0, 1] rfl) (bl_D hD [0, 1] rfl rfl) (EX_c hX hS hD [0, 1] rfl) (c_X5_takesWord l E aS am q tp len b_45_29 e_45_29 v_45_29 mn pt s_45_29 w_45_29 9 hq3 hl9 (by omega) (hle_45_29).1 (hle_45_29).2.1) gV_X5_270 (by decide +kernel) rfl ⟨rfl, rfl⟩ ⟨Nat.le_of_ble_eq_true rfl, Nat.le_of_ble_eq_true rfl⟩ (ci := 5) (q0 := 0) rfl rfl hl.1 (Nat.le_of_ble_eq_true rfl) dX5_readPotter_67 ⟨Nat.zero_le _, Nat.zero_le _⟩) hP hD hS [0, 1] rfl (had_cons mo_ad (had_cons rfl rfl)) (Bs' := [[mObj am (qX q (kwF tp len (b_45_29, e_45_29, s_45_29, v_45_29, w_45_29) 9) mn pt)], [(am 5, .inl (E.2.1, 120, .inl (sg tp 120)))], [(am 7, .inl (E.2.1, 480, .inl (sg it 480)))]]) rfl (fun H locs hP hD hS => ?_)
        obtain ⟨⟨b_67_30, e_67_30, s_67_30, v_67_30, w_67_30⟩, eX_67_30⟩ : ∃ zz9 : Xs, zz9 = kwF tp len (b_45_29, e_45_29, s_45_29, v_45_29, w_45_29) 9 := ⟨_, rfl⟩
        rw [← eX_67_30] at hP hD
        have hle_67_30 := kw_I eX_67_30 hle_45_29
        refine b_ifeq (tgt := 84) S.1 S.2.1 dX5_readPotter_70 (by decide) (fun c_70 => ?_) (fun c_70 => ?_)
        · refine lv_iconst (v := 0) S.1 S.2.1 dX5_readPotter_84 (by decide) ?_
          refine lv_istore (lv' := [(4, .int 0), (3, .int 2), (2, .int (nI v_22_17)), (0, .ref (am 0)), (1, .int k9)]) S.1 S.2.1 dX5_readPotter_85 hl (by decide) rfl (fun ls hl => ?_)
          refine lv_aload_n S.1 S.2.1 dX5_readPotter_87 rfl (lv_at hl 3 rfl) ?_
          refine lv_iload_n S.1 S.2.1 dX5_readPotter_88 rfl (lv_at hl 4 rfl) ?_
          refine lv_iload_n S.1 S.2.1 dX5_readPotter_89 rfl (lv_at hl 2 rfl) ?_
          refine lv_iload_n S.1 S.2.1 dX5_readPotter_90 rfl (lv_at hl 1 rfl) ?_
          refine lv_iload S.1 S.2.1 dX5_readPotter_91 (lv_at hl 0 rfl) ?_
          refine go_V (run_V (As := [.int k9, .int (nI v_22_17), .int 2, .int 0]) (rest := []) (n := 4) S hK (bl_P hP [0, 2] rfl) (bl_D hD [0, 2] rfl rfl) (c_X5_addItem l E am q it b_67_30 e_67_30 v_67_30 mn pt s_67_30 w_67_30 k9 (nI v_22_17) 2 0 (by omega)) gV_X5_280 (by decide +kernel) rfl ⟨rfl, rfl⟩ ⟨Nat.le_of_ble_eq_true rfl, Nat.le_of_ble_eq_true rfl⟩ (ci := 5) (q0 := 0) rfl rfl hl.1 (Nat.le_of_ble_eq_true rfl) dX5_readPotter_93 ⟨Nat.zero_le _, Nat.zero_le _⟩) hP hD hS [0, 2] rfl (had_cons mo_ad (had_cons cell_ad rfl)) (Bs' := [[mObj am (qX q (b_67_30, e_67_30, s_67_30, v_67_30, w_67_30) (mn + 1) pt)], [(am 5, .inl (E.2.1, 120, .inl (sg tp 120)))], [(am 7, .inl (E.2.1, 480, .inl (sg (itF it mn k9 (nI v_22_17) 2 0) 480)))]]) rfl (fun H locs hP hD hS => ?_)
          obtain ⟨r_93_2_31, er_93_2_31⟩ : ∃ zz9 : Row, zz9 = itF it mn k9 (nI v_22_17) 2 0 := ⟨_, rfl⟩
          rw [← er_93_2_31] at hP hD
          refine lv_aload_n S.1 S.2.1 dX5_readPotter_96 rfl (lv_at hl 3 rfl) ?_
          refine lv_dup S.1 S.2.1 dX5_readPotter_97 rfl ?_
          refine gf_X5_265 S hK hP 0 0 rfl rfl (show _ = some (Value.int (nI pt)) from rfl) dX5_readPotter_98 ?_
          refine lv_iconst (v := 1) S.1 S.2.1 dX5_readPotter_101 (by decide) ?_
          refine lv_iadd S.1 S.2.1 dX5_readPotter_102 ?_
          refine lv_eqi (y := nI (pt + 1)) (nI_add pt 1) ?_
          refine pf_X5_265 S hK hP hD hS 0 0 rfl rfl (Nat.le_of_ble_eq_true rfl) (mo_10.trans (congrArg (fun z => ([mObj am z] : va_W)) qX_10)) (Bs1 := [[mObj am (qX q (b_67_30, e_67_30, s_67_30, v_67_30, w_67_30) (mn + 1) (pt + 1))], [(am 5, .inl (E.2.1, 120, .inl (sg tp 120)))], [(am 7, .inl (E.2.1, 480, .inl (sg r_93_2_31 480)))]]) rfl dX5_readPotter_103 (fun H locs hP hD hS => ?_)
          exact retV S hr hlk (by have q0 : mstF tp len (bb, ee, ss, vv, ww) (bI (nI pt < 8)) = (b_15_16, e_15_16, s_15_16, v_15_16, w_15_16) := (by rw [bI, if_pos n_7]; exact eX_15_16.symm); have q7 : optF tp len (b_15_16, e_15_16, s_15_16, v_15_16, w_15_16) 7 99 10 = ((b_32_28, e_32_28, s_32_28, v_32_28, w_32_28), nI v_22_17) := (by unfold optF; rw [if_pos c_25, ← eX_22_17, ← eX_32_28]); have q8 : optF tp len (b_32_28, e_32_28, s_32_28, v_32_28, w_32_28) 8 9 2 = ((b_45_29, e_45_29, s_45_29, v_45_29, w_45_29), 2) := (by unfold optF; rw [if_neg c_48, ← eX_45_29]); have q9 : optF tp len (b_45_29, e_45_29, s_45_29, v_45_29, w_45_29) 9 999 0 = ((b_67_30, e_67_30, s_67_30, v_67_30, w_67_30), 0) := (by unfold optF; rw [if_neg c_70, ← eX_67_30]); have e9 : rdP tp len (bb, ee, ss, vv, ww) pt = ((b_67_30, e_67_30, s_67_30, v_67_30, w_67_30), nI v_22_17, 2, 0) := (by unfold rdP; simp only [q0, q7, q8, q9]); rw [e9]; rw [er_93_2_31] at hP; exact hP) hS dX5_readPotter_106
        · refine lv_aload_n S.1 S.2.1 dX5_readPotter_73 rfl (lv_at hl 2 rfl) ?_
          refine lv_iconst (v := 0) S.1 S.2.1 dX5_readPotter_74 (by decide) ?_
          refine lv_sipush (v := 999) S.1 S.2.1 dX5_readPotter_75 (by decide) ?_
          refine go_I (run_V (As := [.int 0, .int 999]) (rest := []) (n := 2) S hK (bl_P hP [0, 1] rfl) (bl_D hD [0, 1] rfl rfl) (c_X5_number l E am q tp len b_67_30 e_67_30 v_67_30 mn pt s_67_30 w_67_30 0 999 hq3 hl9 (hle_67_30).2.1) gV_X5_273 (by decide +kernel) rfl ⟨rfl, rfl⟩ ⟨Nat.le_of_ble_eq_true rfl, Nat.le_of_ble_eq_true rfl⟩ (ci := 5) (q0 := 0) rfl rfl hl.1 (Nat.le_of_ble_eq_true rfl) dX5_readPotter_78 ⟨Nat.zero_le _, Nat.zero_le _⟩) hP hD hS [0, 1] rfl (had_cons mo_ad (had_cons rfl rfl)) (Bs' := [[mObj am (qX q (numF tp len (b_67_30, e_67_30, s_67_30, v_67_30, w_67_30) 0 999) mn pt)], [(am 5, .inl (E.2.1, 120, .inl (sg tp 120)))], [(am 7, .inl (E.2.1, 480, .inl (sg it 480)))]]) rfl (fun H locs hP hD hS => ?_)
          obtain ⟨⟨b_78_32, e_78_32, s_78_32, v_78_32, w_78_32⟩, eX_78_32⟩ : ∃ zz9 : Xs, zz9 = numF tp len (b_67_30, e_67_30, s_67_30, v_67_30, w_67_30) 0 999 := ⟨_, rfl⟩
          rw [← eX_78_32] at hP hD
          have hle_78_32 := num_I eX_78_32 hle_67_30
          refine lv_goto (tgt := 85) S.1 S.2.1 dX5_readPotter_81 (by decide) ?_
          refine lv_istore (lv' := [(4, .int (nI v_67_30)), (3, .int 2), (2, .int (nI v_22_17)), (0, .ref (am 0)), (1, .int k9)]) S.1 S.2.1 dX5_readPotter_85 hl (by decide) rfl (fun ls hl => ?_)
          refine lv_aload_n S.1 S.2.1 dX5_readPotter_87 rfl (lv_at hl 3 rfl) ?_
          refine lv_iload_n S.1 S.2.1 dX5_readPotter_88 rfl (lv_at hl 4 rfl) ?_
          refine lv_iload_n S.1 S.2.1 dX5_readPotter_89 rfl (lv_at hl 2 rfl) ?_
          refine lv_iload_n S.1 S.2.1 dX5_readPotter_90 rfl (lv_at hl 1 rfl) ?_
          refine lv_iload S.1 S.2.1 dX5_readPotter_91 (lv_at hl 0 rfl) ?_
          refine go_V (run_V (As := [.int k9, .int (nI v_22_17), .int 2, .int (nI v_67_30)]) (rest := []) (n := 4) S hK (bl_P hP [0, 2] rfl) (bl_D hD [0, 2] rfl rfl) (c_X5_addItem l E am q it b_78_32 e_78_32 v_78_32 mn pt s_78_32 w_78_32 k9 (nI v_22_17) 2 (nI v_67_30) (by omega)) gV_X5_280 (by decide +kernel) rfl ⟨rfl, rfl⟩ ⟨Nat.le_of_ble_eq_true rfl, Nat.le_of_ble_eq_true rfl⟩ (ci := 5) (q0 := 0) rfl rfl hl.1 (Nat.le_of_ble_eq_true rfl) dX5_readPotter_93 ⟨Nat.zero_le _, Nat.zero_le _⟩) hP hD hS [0, 2] rfl (had_cons mo_ad (had_cons cell_ad rfl)) (Bs' := [[mObj am (qX q (b_78_32, e_78_32, s_78_32, v_78_32, w_78_32) (mn + 1) pt)], [(am 5, .inl (E.2.1, 120, .inl (sg tp 120)))], [(am 7, .inl (E.2.1, 480, .inl (sg (itF it mn k9 (nI v_22_17) 2 (nI v_67_30)) 480)))]]) rfl (fun H locs hP hD hS => ?_)
          obtain ⟨r_93_2_33, er_93_2_33⟩ : ∃ zz9 : Row, zz9 = itF it mn k9 (nI v_22_17) 2 (nI v_67_30) := ⟨_, rfl⟩
          rw [← er_93_2_33] at hP hD
          refine lv_aload_n S.1 S.2.1 dX5_readPotter_96 rfl (lv_at hl 3 rfl) ?_
          refine lv_dup S.1 S.2.1 dX5_readPotter_97 rfl ?_
          refine gf_X5_265 S hK hP 0 0 rfl rfl (show _ = some (Value.int (nI pt)) from rfl) dX5_readPotter_98 ?_
          refine lv_iconst (v := 1) S.1 S.2.1 dX5_readPotter_101 (by decide) ?_
          refine lv_iadd S.1 S.2.1 dX5_readPotter_102 ?_
          refine lv_eqi (y := nI (pt + 1)) (nI_add pt 1) ?_
          refine pf_X5_265 S hK hP hD hS 0 0 rfl rfl (Nat.le_of_ble_eq_true rfl) (mo_10.trans (congrArg (fun z => ([mObj am z] : va_W)) qX_10)) (Bs1 := [[mObj am (qX q (b_78_32, e_78_32, s_78_32, v_78_32, w_78_32) (mn + 1) (pt + 1))], [(am 5, .inl (E.2.1, 120, .inl (sg tp 120)))], [(am 7, .inl (E.2.1, 480, .inl (sg r_93_2_33 480)))]]) rfl dX5_readPotter_103 (fun H locs hP hD hS => ?_)
          exact retV S hr hlk (by have q0 : mstF tp len (bb, ee, ss, vv, ww) (bI (nI pt < 8)) = (b_15_16, e_15_16, s_15_16, v_15_16, w_15_16) := (by rw [bI, if_pos n_7]; exact eX_15_16.symm); have q7 : optF tp len (b_15_16, e_15_16, s_15_16, v_15_16, w_15_16) 7 99 10 = ((b_32_28, e_32_28, s_32_28, v_32_28, w_32_28), nI v_22_17) := (by unfold optF; rw [if_pos c_25, ← eX_22_17, ← eX_32_28]); have q8 : optF tp len (b_32_28, e_32_28, s_32_28, v_32_28, w_32_28) 8 9 2 = ((b_45_29, e_45_29, s_45_29, v_45_29, w_45_29), 2) := (by unfold optF; rw [if_neg c_48, ← eX_45_29]); have q9 : optF tp len (b_45_29, e_45_29, s_45_29, v_45_29, w_45_29) 9 999 0 = ((b_78_32, e_78_32, s_78_32, v_78_32, w_78_32), nI v_67_30) := (by unfold optF; rw [if_pos c_70, ← eX_67_30, ← eX_78_32]); have e9 : rdP tp len (bb, ee, ss, vv, ww) pt = ((b_78_32, e_78_32, s_78_32, v_78_32, w_78_32), nI v_22_17, 2, nI v_67_30) := (by unfold rdP; simp only [q0, q7, q8, q9]); rw [e9]; rw [er_93_2_33] at hP; exact hP) hS dX5_readPotter_106
      · refine lv_aload_n S.1 S.2.1 dX5_readPotter_51 rfl (lv_at hl 1 rfl) ?_
        refine lv_iconst (v := 0) S.1 S.2.1 dX5_readPotter_52 (by decide) ?_
        refine lv_bipush (v := 9) S.1 S.2.1 dX5_readPotter_53 (by decide) ?_
        refine go_I (run_V (As := [.int 0, .int 9]) (rest := []) (n := 2) S hK (bl_P hP [0, 1] rfl) (bl_D hD [0, 1] rfl rfl) (c_X5_number l E am q tp len b_45_29 e_45_29 v_45_29 mn pt s_45_29 w_45_29 0 9 hq3 hl9 (hle_45_29).2.1) gV_X5_273 (by decide +kernel) rfl ⟨rfl, rfl⟩ ⟨Nat.le_of_ble_eq_true rfl, Nat.le_of_ble_eq_true rfl⟩ (ci := 5) (q0 := 0) rfl rfl hl.1 (Nat.le_of_ble_eq_true rfl) dX5_readPotter_55 ⟨Nat.zero_le _, Nat.zero_le _⟩) hP hD hS [0, 1] rfl (had_cons mo_ad (had_cons rfl rfl)) (Bs' := [[mObj am (qX q (numF tp len (b_45_29, e_45_29, s_45_29, v_45_29, w_45_29) 0 9) mn pt)], [(am 5, .inl (E.2.1, 120, .inl (sg tp 120)))], [(am 7, .inl (E.2.1, 480, .inl (sg it 480)))]]) rfl (fun H locs hP hD hS => ?_)
        obtain ⟨⟨b_55_34, e_55_34, s_55_34, v_55_34, w_55_34⟩, eX_55_34⟩ : ∃ zz9 : Xs, zz9 = numF tp len (b_45_29, e_45_29, s_45_29, v_45_29, w_45_29) 0 9 := ⟨_, rfl⟩
        rw [← eX_55_34] at hP hD
        have hle_55_34 := num_I eX_55_34 hle_45_29
        refine lv_goto (tgt := 62) S.1 S.2.1 dX5_readPotter_58 (by decide) ?_
        refine lv_istore_n (lv' := [(3, .int (nI v_45_29)), (2, .int (nI v_22_17)), (0, .ref (am 0)), (1, .int k9)]) S.1 S.2.1 dX5_readPotter_62 rfl hl (by decide) rfl (fun ls hl => ?_)
        refine lv_aload_n S.1 S.2.1 dX5_readPotter_63 rfl (lv_at hl 2 rfl) ?_
        refine va_ldcwS (q := aS (12 + 9)) (tx := "run") S.1 S.2.1 S.2.2.2.1 (hX.2.2.1 (RX5, 278, "run", 21) (List.mem_of_getElem? (i := 21) rfl)) dX5_readPotter_64 ?_
        refine go_I (run_VX (As := [.ref (aS (12 + 9))]) (rest := []) (n := 1) S hK (bl_P hP [0, 1] rfl) (bl_D hD [0, 1] rfl rfl) (EX_c hX hS hD [0, 1] rfl) (c_X5_takesWord l E aS am q tp len b_55_34 e_55_34 v_55_34 mn pt s_55_34 w_55_34 9 hq3 hl9 (by omega) (hle_55_34).1 (hle_55_34).2.1) gV_X5_270 (by decide +kernel) rfl ⟨rfl, rfl⟩ ⟨Nat.le_of_ble_eq_true rfl, Nat.le_of_ble_eq_true rfl⟩ (ci := 5) (q0 := 0) rfl rfl hl.1 (Nat.le_of_ble_eq_true rfl) dX5_readPotter_67 ⟨Nat.zero_le _, Nat.zero_le _⟩) hP hD hS [0, 1] rfl (had_cons mo_ad (had_cons rfl rfl)) (Bs' := [[mObj am (qX q (kwF tp len (b_55_34, e_55_34, s_55_34, v_55_34, w_55_34) 9) mn pt)], [(am 5, .inl (E.2.1, 120, .inl (sg tp 120)))], [(am 7, .inl (E.2.1, 480, .inl (sg it 480)))]]) rfl (fun H locs hP hD hS => ?_)
        obtain ⟨⟨b_67_35, e_67_35, s_67_35, v_67_35, w_67_35⟩, eX_67_35⟩ : ∃ zz9 : Xs, zz9 = kwF tp len (b_55_34, e_55_34, s_55_34, v_55_34, w_55_34) 9 := ⟨_, rfl⟩
        rw [← eX_67_35] at hP hD
        have hle_67_35 := kw_I eX_67_35 hle_55_34
        refine b_ifeq (tgt := 84) S.1 S.2.1 dX5_readPotter_70 (by decide) (fun c_70 => ?_) (fun c_70 => ?_)
        · refine lv_iconst (v := 0) S.1 S.2.1 dX5_readPotter_84 (by decide) ?_
          refine lv_istore (lv' := [(4, .int 0), (3, .int (nI v_45_29)), (2, .int (nI v_22_17)), (0, .ref (am 0)), (1, .int k9)]) S.1 S.2.1 dX5_readPotter_85 hl (by decide) rfl (fun ls hl => ?_)
          refine lv_aload_n S.1 S.2.1 dX5_readPotter_87 rfl (lv_at hl 3 rfl) ?_
          refine lv_iload_n S.1 S.2.1 dX5_readPotter_88 rfl (lv_at hl 4 rfl) ?_
          refine lv_iload_n S.1 S.2.1 dX5_readPotter_89 rfl (lv_at hl 2 rfl) ?_
          refine lv_iload_n S.1 S.2.1 dX5_readPotter_90 rfl (lv_at hl 1 rfl) ?_
          refine lv_iload S.1 S.2.1 dX5_readPotter_91 (lv_at hl 0 rfl) ?_
          refine go_V (run_V (As := [.int k9, .int (nI v_22_17), .int (nI v_45_29), .int 0]) (rest := []) (n := 4) S hK (bl_P hP [0, 2] rfl) (bl_D hD [0, 2] rfl rfl) (c_X5_addItem l E am q it b_67_35 e_67_35 v_67_35 mn pt s_67_35 w_67_35 k9 (nI v_22_17) (nI v_45_29) 0 (by omega)) gV_X5_280 (by decide +kernel) rfl ⟨rfl, rfl⟩ ⟨Nat.le_of_ble_eq_true rfl, Nat.le_of_ble_eq_true rfl⟩ (ci := 5) (q0 := 0) rfl rfl hl.1 (Nat.le_of_ble_eq_true rfl) dX5_readPotter_93 ⟨Nat.zero_le _, Nat.zero_le _⟩) hP hD hS [0, 2] rfl (had_cons mo_ad (had_cons cell_ad rfl)) (Bs' := [[mObj am (qX q (b_67_35, e_67_35, s_67_35, v_67_35, w_67_35) (mn + 1) pt)], [(am 5, .inl (E.2.1, 120, .inl (sg tp 120)))], [(am 7, .inl (E.2.1, 480, .inl (sg (itF it mn k9 (nI v_22_17) (nI v_45_29) 0) 480)))]]) rfl (fun H locs hP hD hS => ?_)
          obtain ⟨r_93_2_36, er_93_2_36⟩ : ∃ zz9 : Row, zz9 = itF it mn k9 (nI v_22_17) (nI v_45_29) 0 := ⟨_, rfl⟩
          rw [← er_93_2_36] at hP hD
          refine lv_aload_n S.1 S.2.1 dX5_readPotter_96 rfl (lv_at hl 3 rfl) ?_
          refine lv_dup S.1 S.2.1 dX5_readPotter_97 rfl ?_
          refine gf_X5_265 S hK hP 0 0 rfl rfl (show _ = some (Value.int (nI pt)) from rfl) dX5_readPotter_98 ?_
          refine lv_iconst (v := 1) S.1 S.2.1 dX5_readPotter_101 (by decide) ?_
          refine lv_iadd S.1 S.2.1 dX5_readPotter_102 ?_
          refine lv_eqi (y := nI (pt + 1)) (nI_add pt 1) ?_
          refine pf_X5_265 S hK hP hD hS 0 0 rfl rfl (Nat.le_of_ble_eq_true rfl) (mo_10.trans (congrArg (fun z => ([mObj am z] : va_W)) qX_10)) (Bs1 := [[mObj am (qX q (b_67_35, e_67_35, s_67_35, v_67_35, w_67_35) (mn + 1) (pt + 1))], [(am 5, .inl (E.2.1, 120, .inl (sg tp 120)))], [(am 7, .inl (E.2.1, 480, .inl (sg r_93_2_36 480)))]]) rfl dX5_readPotter_103 (fun H locs hP hD hS => ?_)
          exact retV S hr hlk (by have q0 : mstF tp len (bb, ee, ss, vv, ww) (bI (nI pt < 8)) = (b_15_16, e_15_16, s_15_16, v_15_16, w_15_16) := (by rw [bI, if_pos n_7]; exact eX_15_16.symm); have q7 : optF tp len (b_15_16, e_15_16, s_15_16, v_15_16, w_15_16) 7 99 10 = ((b_32_28, e_32_28, s_32_28, v_32_28, w_32_28), nI v_22_17) := (by unfold optF; rw [if_pos c_25, ← eX_22_17, ← eX_32_28]); have q8 : optF tp len (b_32_28, e_32_28, s_32_28, v_32_28, w_32_28) 8 9 2 = ((b_55_34, e_55_34, s_55_34, v_55_34, w_55_34), nI v_45_29) := (by unfold optF; rw [if_pos c_48, ← eX_45_29, ← eX_55_34]); have q9 : optF tp len (b_55_34, e_55_34, s_55_34, v_55_34, w_55_34) 9 999 0 = ((b_67_35, e_67_35, s_67_35, v_67_35, w_67_35), 0) := (by unfold optF; rw [if_neg c_70, ← eX_67_35]); have e9 : rdP tp len (bb, ee, ss, vv, ww) pt = ((b_67_35, e_67_35, s_67_35, v_67_35, w_67_35), nI v_22_17, nI v_45_29, 0) := (by unfold rdP; simp only [q0, q7, q8, q9]); rw [e9]; rw [er_93_2_36] at hP; exact hP) hS dX5_readPotter_106
        · refine lv_aload_n S.1 S.2.1 dX5_readPotter_73 rfl (lv_at hl 2 rfl) ?_
          refine lv_iconst (v := 0) S.1 S.2.1 dX5_readPotter_74 (by decide) ?_
          refine lv_sipush (v := 999) S.1 S.2.1 dX5_readPotter_75 (by decide) ?_
          refine go_I (run_V (As := [.int 0, .int 999]) (rest := []) (n := 2) S hK (bl_P hP [0, 1] rfl) (bl_D hD [0, 1] rfl rfl) (c_X5_number l E am q tp len b_67_35 e_67_35 v_67_35 mn pt s_67_35 w_67_35 0 999 hq3 hl9 (hle_67_35).2.1) gV_X5_273 (by decide +kernel) rfl ⟨rfl, rfl⟩ ⟨Nat.le_of_ble_eq_true rfl, Nat.le_of_ble_eq_true rfl⟩ (ci := 5) (q0 := 0) rfl rfl hl.1 (Nat.le_of_ble_eq_true rfl) dX5_readPotter_78 ⟨Nat.zero_le _, Nat.zero_le _⟩) hP hD hS [0, 1] rfl (had_cons mo_ad (had_cons rfl rfl)) (Bs' := [[mObj am (qX q (numF tp len (b_67_35, e_67_35, s_67_35, v_67_35, w_67_35) 0 999) mn pt)], [(am 5, .inl (E.2.1, 120, .inl (sg tp 120)))], [(am 7, .inl (E.2.1, 480, .inl (sg it 480)))]]) rfl (fun H locs hP hD hS => ?_)
          obtain ⟨⟨b_78_37, e_78_37, s_78_37, v_78_37, w_78_37⟩, eX_78_37⟩ : ∃ zz9 : Xs, zz9 = numF tp len (b_67_35, e_67_35, s_67_35, v_67_35, w_67_35) 0 999 := ⟨_, rfl⟩
          rw [← eX_78_37] at hP hD
          have hle_78_37 := num_I eX_78_37 hle_67_35
          refine lv_goto (tgt := 85) S.1 S.2.1 dX5_readPotter_81 (by decide) ?_
          refine lv_istore (lv' := [(4, .int (nI v_67_35)), (3, .int (nI v_45_29)), (2, .int (nI v_22_17)), (0, .ref (am 0)), (1, .int k9)]) S.1 S.2.1 dX5_readPotter_85 hl (by decide) rfl (fun ls hl => ?_)
          refine lv_aload_n S.1 S.2.1 dX5_readPotter_87 rfl (lv_at hl 3 rfl) ?_
          refine lv_iload_n S.1 S.2.1 dX5_readPotter_88 rfl (lv_at hl 4 rfl) ?_
          refine lv_iload_n S.1 S.2.1 dX5_readPotter_89 rfl (lv_at hl 2 rfl) ?_
          refine lv_iload_n S.1 S.2.1 dX5_readPotter_90 rfl (lv_at hl 1 rfl) ?_
          refine lv_iload S.1 S.2.1 dX5_readPotter_91 (lv_at hl 0 rfl) ?_
          refine go_V (run_V (As := [.int k9, .int (nI v_22_17), .int (nI v_45_29), .int (nI v_67_35)]) (rest := []) (n := 4) S hK (bl_P hP [0, 2] rfl) (bl_D hD [0, 2] rfl rfl) (c_X5_addItem l E am q it b_78_37 e_78_37 v_78_37 mn pt s_78_37 w_78_37 k9 (nI v_22_17) (nI v_45_29) (nI v_67_35) (by omega)) gV_X5_280 (by decide +kernel) rfl ⟨rfl, rfl⟩ ⟨Nat.le_of_ble_eq_true rfl, Nat.le_of_ble_eq_true rfl⟩ (ci := 5) (q0 := 0) rfl rfl hl.1 (Nat.le_of_ble_eq_true rfl) dX5_readPotter_93 ⟨Nat.zero_le _, Nat.zero_le _⟩) hP hD hS [0, 2] rfl (had_cons mo_ad (had_cons cell_ad rfl)) (Bs' := [[mObj am (qX q (b_78_37, e_78_37, s_78_37, v_78_37, w_78_37) (mn + 1) pt)], [(am 5, .inl (E.2.1, 120, .inl (sg tp 120)))], [(am 7, .inl (E.2.1, 480, .inl (sg (itF it mn k9 (nI v_22_17) (nI v_45_29) (nI v_67_35)) 480)))]]) rfl (fun H locs hP hD hS => ?_)
          obtain ⟨r_93_2_38, er_93_2_38⟩ : ∃ zz9 : Row, zz9 = itF it mn k9 (nI v_22_17) (nI v_45_29) (nI v_67_35) := ⟨_, rfl⟩
          rw [← er_93_2_38] at hP hD
          refine lv_aload_n S.1 S.2.1 dX5_readPotter_96 rfl (lv_at hl 3 rfl) ?_
          refine lv_dup S.1 S.2.1 dX5_readPotter_97 rfl ?_
          refine gf_X5_265 S hK hP 0 0 rfl rfl (show _ = some (Value.int (nI pt)) from rfl) dX5_readPotter_98 ?_
          refine lv_iconst (v := 1) S.1 S.2.1 dX5_readPotter_101 (by decide) ?_
          refine lv_iadd S.1 S.2.1 dX5_readPotter_102 ?_
          refine lv_eqi (y := nI (pt + 1)) (nI_add pt 1) ?_
          refine pf_X5_265 S hK hP hD hS 0 0 rfl rfl (Nat.le_of_ble_eq_true rfl) (mo_10.trans (congrArg (fun z => ([mObj am z] : va_W)) qX_10)) (Bs1 := [[mObj am (qX q (b_78_37, e_78_37, s_78_37, v_78_37, w_78_37) (mn + 1) (pt + 1))], [(am 5, .inl (E.2.1, 120, .inl (sg tp 120)))], [(am 7, .inl (E.2.1, 480, .inl (sg r_93_2_38 480)))]]) rfl dX5_readPotter_103 (fun H locs hP hD hS => ?_)
          exact retV S hr hlk (by have q0 : mstF tp len (bb, ee, ss, vv, ww) (bI (nI pt < 8)) = (b_15_16, e_15_16, s_15_16, v_15_16, w_15_16) := (by rw [bI, if_pos n_7]; exact eX_15_16.symm); have q7 : optF tp len (b_15_16, e_15_16, s_15_16, v_15_16, w_15_16) 7 99 10 = ((b_32_28, e_32_28, s_32_28, v_32_28, w_32_28), nI v_22_17) := (by unfold optF; rw [if_pos c_25, ← eX_22_17, ← eX_32_28]); have q8 : optF tp len (b_32_28, e_32_28, s_32_28, v_32_28, w_32_28) 8 9 2 = ((b_55_34, e_55_34, s_55_34, v_55_34, w_55_34), nI v_45_29) := (by unfold optF; rw [if_pos c_48, ← eX_45_29, ← eX_55_34]); have q9 : optF tp len (b_55_34, e_55_34, s_55_34, v_55_34, w_55_34) 9 999 0 = ((b_78_37, e_78_37, s_78_37, v_78_37, w_78_37), nI v_67_35) := (by unfold optF; rw [if_pos c_70, ← eX_67_35, ← eX_78_37]); have e9 : rdP tp len (bb, ee, ss, vv, ww) pt = ((b_78_37, e_78_37, s_78_37, v_78_37, w_78_37), nI v_22_17, nI v_45_29, nI v_67_35) := (by unfold rdP; simp only [q0, q7, q8, q9]); rw [e9]; rw [er_93_2_38] at hP; exact hP) hS dX5_readPotter_106
set_option maxHeartbeats 800000 in
set_option maxRecDepth 100000 in
theorem c_X5_readItem (l : Launch) (E : EV) (aS : Nat → Nat) (kn : Nat → Option Nat) (am : Nat → Nat) (q tp it : Row) (len bb ee vv mn pt : Nat) (ss ww : Int32) (hq3 : q 3 = nI len) (hl9 : len ≤ 120) (hle : XI len (bb, ee, ss, vv, ww)) (hmb : mn ≤ bb) (hkn : ∀ i, i < 7 → kn i = some (aS (12 + i))) : Met l yX5_readItem (wq yX5_readItem cX5_readItem 3 none) ({ frames := 7, cells := 0, slots := 0, locals := 154 }) (preX E aS [.ref (am 0)] [[mObj am (qX q (bb, ee, ss, vv, ww) mn pt)], [(am 5, .inl (E.2.1, 120, .inl (sg tp 120)))], [(am 7, .inl (E.2.1, 480, .inl (sg it 480)))], [(am 6, .inl (E.2.2.2.2.2, 7, .inr (.inr (.inr (.inr kn)))))]]) (qV E [[mObj am (qX q (bb, ee, ss, vv, ww) mn pt)], [(am 5, .inl (E.2.1, 120, .inl (sg tp 120)))], [(am 7, .inl (E.2.1, 480, .inl (sg it 480)))], [(am 6, .inl (E.2.2.2.2.2, 7, .inr (.inr (.inr (.inr kn)))))]] [[mObj am (qX q ((rdI tp len (bb, ee, ss, vv, ww) mn pt it).1) ((rdI tp len (bb, ee, ss, vv, ww) mn pt it).2.1) ((rdI tp len (bb, ee, ss, vv, ww) mn pt it).2.2.1))], [(am 5, .inl (E.2.1, 120, .inl (sg tp 120)))], [(am 7, .inl (E.2.1, 480, .inl (sg ((rdI tp len (bb, ee, ss, vv, ww) mn pt it).2.2.2) 480)))], [(am 6, .inl (E.2.2.2.2.2, 7, .inr (.inr (.inr (.inr kn)))))]]) 0 0 (inB [[mObj am (qX q (bb, ee, ss, vv, ww) mn pt)], [(am 5, .inl (E.2.1, 120, .inl (sg tp 120)))], [(am 7, .inl (E.2.1, 480, .inl (sg it 480)))], [(am 6, .inl (E.2.2.2.2.2, 7, .inr (.inr (.inr (.inr kn)))))]]) := by
  refine M_mkX RX5 (by decide) rfl (Nat.le_of_ble_eq_true rfl) ?_
  intro p e s m below meth c S hr hlk hK hP hD hS hX ls hl
  have hl : lv_has ls 3 [(0, .ref (am 0))] := hl
  obtain ⟨H, hH⟩ : ∃ zz9, zz9 = s.heap := ⟨_, rfl⟩
  obtain ⟨locs, hlocs⟩ : ∃ zz9 : List Loc, zz9 = [] := ⟨_, rfl⟩
  have hP : PE E [[mObj am (qX q (bb, ee, ss, vv, ww) mn pt)], [(am 5, .inl (E.2.1, 120, .inl (sg tp 120)))], [(am 7, .inl (E.2.1, 480, .inl (sg it 480)))], [(am 6, .inl (E.2.2.2.2.2, 7, .inr (.inr (.inr (.inr kn)))))]] H := by rw [hH]; exact hP
  have hS : va_S (inB [[mObj am (qX q (bb, ee, ss, vv, ww) mn pt)], [(am 5, .inl (E.2.1, 120, .inl (sg tp 120)))], [(am 7, .inl (E.2.1, 480, .inl (sg it 480)))], [(am 6, .inl (E.2.2.2.2.2, 7, .inr (.inr (.inr (.inr kn)))))]]) s.heap H locs := by rw [hH, hlocs]; exact hS
  show W p l e ({ frames := 7, cells := 0, slots := 0, locals := 154 }) s m ([.ref (am 0)] : List Value).toArray below meth c s.heap [] 0 0 _ _
  suffices hgo : W p l e ({ frames := 7, cells := 0, slots := 0, locals := 154 }) s m ([.ref (am 0)] : List Value).toArray below meth c H locs 0 0 (MQ below (qV E [[mObj am (qX q (bb, ee, ss, vv, ww) mn pt)], [(am 5, .inl (E.2.1, 120, .inl (sg tp 120)))], [(am 7, .inl (E.2.1, 480, .inl (sg it 480)))], [(am 6, .inl (E.2.2.2.2.2, 7, .inr (.inr (.inr (.inr kn)))))]] [[mObj am (qX q ((rdI tp len (bb, ee, ss, vv, ww) mn pt it).1) ((rdI tp len (bb, ee, ss, vv, ww) mn pt it).2.1) ((rdI tp len (bb, ee, ss, vv, ww) mn pt it).2.2.1))], [(am 5, .inl (E.2.1, 120, .inl (sg tp 120)))], [(am 7, .inl (E.2.1, 480, .inl (sg ((rdI tp len (bb, ee, ss, vv, ww) mn pt it).2.2.2) 480)))], [(am 6, .inl (E.2.2.2.2.2, 7, .inr (.inr (.inr (.inr kn)))))]]) ([.ref (am 0)] : List Value).toArray s 0 0 (inB [[mObj am (qX q (bb, ee, ss, vv, ww) mn pt)], [(am 5, .inl (E.2.1, 120, .inl (sg tp 120)))], [(am 7, .inl (E.2.1, 480, .inl (sg it 480)))], [(am 6, .inl (E.2.2.2.2.2, 7, .inr (.inr (.inr (.inr kn)))))]])) (F0 m 0 ls []) by rw [hH, hlocs] at hgo; exact hgo
  clear hH hlocs
  refine lv_iconst (v := (-1)) S.1 S.2.1 dX5_readItem_0 (by decide) ?_
  refine lv_istore_n (lv' := [(1, .int (-1)), (0, .ref (am 0))]) S.1 S.2.1 dX5_readItem_1 rfl hl (by decide) rfl (fun ls hl => ?_)
  refine lv_iconst (v := 0) S.1 S.2.1 dX5_readItem_2 (by decide) ?_
  refine lv_istore_n (lv' := [(2, .int 0), (1, .int (-1)), (0, .ref (am 0))]) S.1 S.2.1 dX5_readItem_3 rfl hl (by decide) rfl (fun ls hl => ?_)
  have L_4 : ∀ (fu : Nat) (k : Nat) (z : Int32), (k ≤ 7) → (7 < k + fu) → (z = kwN tp (bb, ee, ss, vv, ww) k) → ∀ (H : Heap) (locs : List Loc), PE E [[mObj am (qX q (bb, ee, ss, vv, ww) mn pt)], [(am 5, .inl (E.2.1, 120, .inl (sg tp 120)))], [(am 7, .inl (E.2.1, 480, .inl (sg it 480)))], [(am 6, .inl (E.2.2.2.2.2, 7, .inr (.inr (.inr (.inr kn)))))]] H → DE (inB [[mObj am (qX q (bb, ee, ss, vv, ww) mn pt)], [(am 5, .inl (E.2.1, 120, .inl (sg tp 120)))], [(am 7, .inl (E.2.1, 480, .inl (sg it 480)))], [(am 6, .inl (E.2.2.2.2.2, 7, .inr (.inr (.inr (.inr kn)))))]]) [[mObj am (qX q (bb, ee, ss, vv, ww) mn pt)], [(am 5, .inl (E.2.1, 120, .inl (sg tp 120)))], [(am 7, .inl (E.2.1, 480, .inl (sg it 480)))], [(am 6, .inl (E.2.2.2.2.2, 7, .inr (.inr (.inr (.inr kn)))))]] → va_S (inB [[mObj am (qX q (bb, ee, ss, vv, ww) mn pt)], [(am 5, .inl (E.2.1, 120, .inl (sg tp 120)))], [(am 7, .inl (E.2.1, 480, .inl (sg it 480)))], [(am 6, .inl (E.2.2.2.2.2, 7, .inr (.inr (.inr (.inr kn)))))]]) s.heap H locs → ∀ (ls : Array Slot), lv_has ls 3 [(0, .ref (am 0)), (1, .int z), (2, .int (nI k))] → W p l e ({ frames := 7, cells := 0, slots := 0, locals := 154 }) s m ([.ref (am 0)] : List Value).toArray below meth c H locs 0 0 (MQ below (qV E [[mObj am (qX q (bb, ee, ss, vv, ww) mn pt)], [(am 5, .inl (E.2.1, 120, .inl (sg tp 120)))], [(am 7, .inl (E.2.1, 480, .inl (sg it 480)))], [(am 6, .inl (E.2.2.2.2.2, 7, .inr (.inr (.inr (.inr kn)))))]] [[mObj am (qX q ((rdI tp len (bb, ee, ss, vv, ww) mn pt it).1) ((rdI tp len (bb, ee, ss, vv, ww) mn pt it).2.1) ((rdI tp len (bb, ee, ss, vv, ww) mn pt it).2.2.1))], [(am 5, .inl (E.2.1, 120, .inl (sg tp 120)))], [(am 7, .inl (E.2.1, 480, .inl (sg ((rdI tp len (bb, ee, ss, vv, ww) mn pt it).2.2.2) 480)))], [(am 6, .inl (E.2.2.2.2.2, 7, .inr (.inr (.inr (.inr kn)))))]]) ([.ref (am 0)] : List Value).toArray s 0 0 (inB [[mObj am (qX q (bb, ee, ss, vv, ww) mn pt)], [(am 5, .inl (E.2.1, 120, .inl (sg tp 120)))], [(am 7, .inl (E.2.1, 480, .inl (sg it 480)))], [(am 6, .inl (E.2.2.2.2.2, 7, .inr (.inr (.inr (.inr kn)))))]])) (F0 m 4 ls []) := by
    intro fu
    induction fu with
    | zero =>
      intro k z hk hf hz
      omega
    | succ fu ih_4 =>
      intro k z hk hf hz H locs hP hD hS ls hl
      refine lv_iload_n S.1 S.2.1 dX5_readItem_4 rfl (lv_at hl 2 rfl) ?_
      refine lv_aload_n S.1 S.2.1 dX5_readItem_5 rfl (lv_at hl 0 rfl) ?_
      refine gf_X5_41 S hK hP 0 0 rfl rfl rfl dX5_readItem_6 ?_
      refine b_alenT (t0 := 4) S hK hP 3 0 rfl rfl rfl (v := 7) rfl dX5_readItem_9 ?_
      refine lv_icmp_ge (tgt := 38) S.1 S.2.1 dX5_readItem_10 (by decide) (fun c_10 => ?_) (fun c_10 => ?_)
      · have n_10 := Int32.not_lt.mpr c_10
        have hk7 : k = 7 := by (have z9 : 7 ≤ k := le_of_nI (a := 7) c_10 (by omega) (by omega); omega)
        have hz7 : z = kwN tp (bb, ee, ss, vv, ww) 7 := by rw [hz, hk7]
        refine lv_iload_n S.1 S.2.1 dX5_readItem_38 rfl (lv_at hl 1 rfl) ?_
        refine lv_if_lt (tgt := 50) S.1 S.2.1 dX5_readItem_39 (by decide) (fun c_39 => ?_) (fun c_39 => ?_)
        · have n_39 := Int32.not_le.mpr c_39
          refine lv_aload_n S.1 S.2.1 dX5_readItem_50 rfl (lv_at hl 0 rfl) ?_
          refine va_ldcwS (q := aS (12 + 10)) (tx := "weather") S.1 S.2.1 S.2.2.2.1 (hX.2.2.1 (RX5, 287, "weather", 22) (List.mem_of_getElem? (i := 22) rfl)) dX5_readItem_51 ?_
          refine go_I (run_VX (As := [.ref (aS (12 + 10))]) (rest := []) (n := 1) S hK (bl_P hP [0, 1] rfl) (bl_D hD [0, 1] rfl rfl) (EX_c hX hS hD [0, 1] rfl) (c_X5_takesWord l E aS am q tp len bb ee vv mn pt ss ww 10 hq3 hl9 (by omega) (hle).1 (hle).2.1) gV_X5_270 (by decide +kernel) rfl ⟨rfl, rfl⟩ ⟨Nat.le_of_ble_eq_true rfl, Nat.le_of_ble_eq_true rfl⟩ (ci := 5) (q0 := 0) rfl rfl hl.1 (Nat.le_of_ble_eq_true rfl) dX5_readItem_54 ⟨Nat.zero_le _, Nat.zero_le _⟩) hP hD hS [0, 1] rfl (had_cons mo_ad (had_cons rfl rfl)) (Bs' := [[mObj am (qX q (kwF tp len (bb, ee, ss, vv, ww) 10) mn pt)], [(am 5, .inl (E.2.1, 120, .inl (sg tp 120)))], [(am 7, .inl (E.2.1, 480, .inl (sg it 480)))], [(am 6, .inl (E.2.2.2.2.2, 7, .inr (.inr (.inr (.inr kn)))))]]) rfl (fun H locs hP hD hS => ?_)
          obtain ⟨⟨b_54, e_54, s_54, v_54, w_54⟩, eX_54⟩ : ∃ zz9 : Xs, zz9 = kwF tp len (bb, ee, ss, vv, ww) 10 := ⟨_, rfl⟩
          rw [← eX_54] at hP hD
          have hle_54 := kw_I eX_54 hle
          refine b_ifeq (tgt := 67) S.1 S.2.1 dX5_readItem_57 (by decide) (fun c_57 => ?_) (fun c_57 => ?_)
          · refine lv_aload_n S.1 S.2.1 dX5_readItem_67 rfl (lv_at hl 0 rfl) ?_
            refine va_ldcwS (q := aS (12 + 11)) (tx := "onions") S.1 S.2.1 S.2.2.2.1 (hX.2.2.1 (RX5, 292, "onions", 23) (List.mem_of_getElem? (i := 23) rfl)) dX5_readItem_68 ?_
            refine go_I (run_VX (As := [.ref (aS (12 + 11))]) (rest := []) (n := 1) S hK (bl_P hP [0, 1] rfl) (bl_D hD [0, 1] rfl rfl) (EX_c hX hS hD [0, 1] rfl) (c_X5_takesWord l E aS am q tp len b_54 e_54 v_54 mn pt s_54 w_54 11 hq3 hl9 (by omega) (hle_54).1 (hle_54).2.1) gV_X5_270 (by decide +kernel) rfl ⟨rfl, rfl⟩ ⟨Nat.le_of_ble_eq_true rfl, Nat.le_of_ble_eq_true rfl⟩ (ci := 5) (q0 := 0) rfl rfl hl.1 (Nat.le_of_ble_eq_true rfl) dX5_readItem_71 ⟨Nat.zero_le _, Nat.zero_le _⟩) hP hD hS [0, 1] rfl (had_cons mo_ad (had_cons rfl rfl)) (Bs' := [[mObj am (qX q (kwF tp len (b_54, e_54, s_54, v_54, w_54) 11) mn pt)], [(am 5, .inl (E.2.1, 120, .inl (sg tp 120)))], [(am 7, .inl (E.2.1, 480, .inl (sg it 480)))], [(am 6, .inl (E.2.2.2.2.2, 7, .inr (.inr (.inr (.inr kn)))))]]) rfl (fun H locs hP hD hS => ?_)
            obtain ⟨⟨b_71, e_71, s_71, v_71, w_71⟩, eX_71⟩ : ∃ zz9 : Xs, zz9 = kwF tp len (b_54, e_54, s_54, v_54, w_54) 11 := ⟨_, rfl⟩
            rw [← eX_71] at hP hD
            have hle_71 := kw_I eX_71 hle_54
            refine b_ifeq (tgt := 95) S.1 S.2.1 dX5_readItem_74 (by decide) (fun c_74 => ?_) (fun c_74 => ?_)
            · refine lv_aload_n S.1 S.2.1 dX5_readItem_95 rfl (lv_at hl 0 rfl) ?_
              refine lv_iconst (v := 0) S.1 S.2.1 dX5_readItem_96 (by decide) ?_
              refine go_V (run_V (As := [.int 0]) (rest := []) (n := 1) S hK (bl_P hP [0, 1] rfl) (bl_D hD [0, 1] rfl rfl) (c_X5_must l E am q tp len b_71 e_71 v_71 mn pt s_71 w_71 0 hq3 hl9 (hle_71).2.1) gV_X5_254 (by decide +kernel) rfl ⟨rfl, rfl⟩ ⟨Nat.le_of_ble_eq_true rfl, Nat.le_of_ble_eq_true rfl⟩ (ci := 5) (q0 := 0) rfl rfl hl.1 (Nat.le_of_ble_eq_true rfl) dX5_readItem_97 ⟨Nat.zero_le _, Nat.zero_le _⟩) hP hD hS [0, 1] rfl (had_cons mo_ad (had_cons rfl rfl)) (Bs' := [[mObj am (qX q (mstF tp len (b_71, e_71, s_71, v_71, w_71) 0) mn pt)], [(am 5, .inl (E.2.1, 120, .inl (sg tp 120)))], [(am 7, .inl (E.2.1, 480, .inl (sg it 480)))], [(am 6, .inl (E.2.2.2.2.2, 7, .inr (.inr (.inr (.inr kn)))))]]) rfl (fun H locs hP hD hS => ?_)
              obtain ⟨⟨b_97, e_97, s_97, v_97, w_97⟩, eX_97⟩ : ∃ zz9 : Xs, zz9 = mstF tp len (b_71, e_71, s_71, v_71, w_71) 0 := ⟨_, rfl⟩
              rw [← eX_97] at hP hD
              have hle_97 := mst_I eX_97 hle_71
              exact retV S hr hlk (by have e9 : rdI tp len (bb, ee, ss, vv, ww) mn pt it = ((b_97, e_97, s_97, v_97, w_97), mn, pt, it) := (by unfold rdI; rw [if_neg (by rw [← hz7]; exact Int32.not_le.mpr c_39), if_neg c_57, ← eX_54, if_neg c_74, ← eX_71, eX_97]); rw [e9]; exact hP) hS dX5_readItem_100
            · have e54 : (b_54, e_54, s_54, v_54, w_54) = (bb, ee, ss, vv, ww) := eX_54.trans (kw_no c_57)
              have hmn9 : mn < 120 := kw_mn2 hle hmb hl9 (by have z9 := c_74.2; rw [e54] at z9; exact z9)
              refine lv_aload_n S.1 S.2.1 dX5_readItem_77 rfl (lv_at hl 0 rfl) ?_
              refine lv_bipush (v := 11) S.1 S.2.1 dX5_readItem_78 (by decide) ?_
              refine lv_aload_n S.1 S.2.1 dX5_readItem_80 rfl (lv_at hl 0 rfl) ?_
              refine lv_iconst (v := 0) S.1 S.2.1 dX5_readItem_81 (by decide) ?_
              refine lv_bipush (v := 99) S.1 S.2.1 dX5_readItem_82 (by decide) ?_
              refine go_I (run_V (As := [.int 0, .int 99]) (rest := [.int 11, .ref (am 0)]) (n := 2) S hK (bl_P hP [0, 1] rfl) (bl_D hD [0, 1] rfl rfl) (c_X5_number l E am q tp len b_71 e_71 v_71 mn pt s_71 w_71 0 99 hq3 hl9 (hle_71).2.1) gV_X5_273 (by decide +kernel) rfl ⟨rfl, rfl⟩ ⟨Nat.le_of_ble_eq_true rfl, Nat.le_of_ble_eq_true rfl⟩ (ci := 5) (q0 := 0) rfl rfl hl.1 (Nat.le_of_ble_eq_true rfl) dX5_readItem_84 ⟨Nat.zero_le _, Nat.zero_le _⟩) hP hD hS [0, 1] rfl (had_cons mo_ad (had_cons rfl rfl)) (Bs' := [[mObj am (qX q (numF tp len (b_71, e_71, s_71, v_71, w_71) 0 99) mn pt)], [(am 5, .inl (E.2.1, 120, .inl (sg tp 120)))], [(am 7, .inl (E.2.1, 480, .inl (sg it 480)))], [(am 6, .inl (E.2.2.2.2.2, 7, .inr (.inr (.inr (.inr kn)))))]]) rfl (fun H locs hP hD hS => ?_)
              obtain ⟨⟨b_84, e_84, s_84, v_84, w_84⟩, eX_84⟩ : ∃ zz9 : Xs, zz9 = numF tp len (b_71, e_71, s_71, v_71, w_71) 0 99 := ⟨_, rfl⟩
              rw [← eX_84] at hP hD
              have hle_84 := num_I eX_84 hle_71
              refine lv_iconst (v := 0) S.1 S.2.1 dX5_readItem_87 (by decide) ?_
              refine lv_iconst (v := 0) S.1 S.2.1 dX5_readItem_88 (by decide) ?_
              refine go_V (run_V (As := [.int 11, .int (nI v_71), .int 0, .int 0]) (rest := []) (n := 4) S hK (bl_P hP [0, 2] rfl) (bl_D hD [0, 2] rfl rfl) (c_X5_addItem l E am q it b_84 e_84 v_84 mn pt s_84 w_84 11 (nI v_71) 0 0 (by omega)) gV_X5_280 (by decide +kernel) rfl ⟨rfl, rfl⟩ ⟨Nat.le_of_ble_eq_true rfl, Nat.le_of_ble_eq_true rfl⟩ (ci := 5) (q0 := 0) rfl rfl hl.1 (Nat.le_of_ble_eq_true rfl) dX5_readItem_89 ⟨Nat.zero_le _, Nat.zero_le _⟩) hP hD hS [0, 2] rfl (had_cons mo_ad (had_cons cell_ad rfl)) (Bs' := [[mObj am (qX q (b_84, e_84, s_84, v_84, w_84) (mn + 1) pt)], [(am 5, .inl (E.2.1, 120, .inl (sg tp 120)))], [(am 7, .inl (E.2.1, 480, .inl (sg (itF it mn 11 (nI v_71) 0 0) 480)))], [(am 6, .inl (E.2.2.2.2.2, 7, .inr (.inr (.inr (.inr kn)))))]]) rfl (fun H locs hP hD hS => ?_)
              obtain ⟨r_89_2, er_89_2⟩ : ∃ zz9 : Row, zz9 = itF it mn 11 (nI v_71) 0 0 := ⟨_, rfl⟩
              rw [← er_89_2] at hP hD
              refine lv_goto (tgt := 100) S.1 S.2.1 dX5_readItem_92 (by decide) ?_
              exact retV S hr hlk (by have e9 : rdI tp len (bb, ee, ss, vv, ww) mn pt it = ((b_84, e_84, s_84, v_84, w_84), mn + 1, pt, r_89_2) := (by unfold rdI; rw [if_neg (by rw [← hz7]; exact Int32.not_le.mpr c_39), if_neg c_57, ← eX_54, if_pos c_74, ← eX_71, er_89_2, eX_84]); rw [e9]; exact hP) hS dX5_readItem_100
          · have hmn9 : mn < 120 := kw_mn2 hle hmb hl9 c_57.2
            refine lv_aload_n S.1 S.2.1 dX5_readItem_60 rfl (lv_at hl 0 rfl) ?_
            refine go_V (run_V (As := []) (rest := []) (n := 0) S hK (bl_P hP [0, 1, 2] rfl) (bl_D hD [0, 1, 2] rfl rfl) (c_X5_readWeather l E am q tp it len b_54 e_54 v_54 mn pt s_54 w_54 hq3 hl9 hle_54 (by omega)) gV_X5_289 (by decide +kernel) rfl ⟨rfl, rfl⟩ ⟨Nat.le_of_ble_eq_true rfl, Nat.le_of_ble_eq_true rfl⟩ (ci := 5) (q0 := 0) rfl rfl hl.1 (Nat.le_of_ble_eq_true rfl) dX5_readItem_61 ⟨Nat.zero_le _, Nat.zero_le _⟩) hP hD hS [0, 1, 2] rfl (had_cons mo_ad (had_cons rfl (had_cons cell_ad rfl))) (Bs' := [[mObj am (qX q ((rdW tp len (b_54, e_54, s_54, v_54, w_54)).1) (mn + 1) pt)], [(am 5, .inl (E.2.1, 120, .inl (sg tp 120)))], [(am 7, .inl (E.2.1, 480, .inl (sg (itF it mn 10 (rdW tp len (b_54, e_54, s_54, v_54, w_54)).2.1 (rdW tp len (b_54, e_54, s_54, v_54, w_54)).2.2 0) 480)))], [(am 6, .inl (E.2.2.2.2.2, 7, .inr (.inr (.inr (.inr kn)))))]]) rfl (fun H locs hP hD hS => ?_)
            obtain ⟨r_61_2, er_61_2⟩ : ∃ zz9 : Row, zz9 = itF it mn 10 (rdW tp len (b_54, e_54, s_54, v_54, w_54)).2.1 (rdW tp len (b_54, e_54, s_54, v_54, w_54)).2.2 0 := ⟨_, rfl⟩
            rw [← er_61_2] at hP hD
            obtain ⟨⟨b_61, e_61, s_61, v_61, w_61⟩, eX_61⟩ : ∃ zz9 : Xs, zz9 = (rdW tp len (b_54, e_54, s_54, v_54, w_54)).1 := ⟨_, rfl⟩
            rw [← eX_61] at hP hD
            refine lv_goto (tgt := 100) S.1 S.2.1 dX5_readItem_64 (by decide) ?_
            exact retV S hr hlk (by have e9 : rdI tp len (bb, ee, ss, vv, ww) mn pt it = ((b_61, e_61, s_61, v_61, w_61), mn + 1, pt, r_61_2) := (by unfold rdI; rw [if_neg (by rw [← hz7]; exact Int32.not_le.mpr c_39), if_pos c_57, ← eX_54, er_61_2, eX_61]); rw [e9]; exact hP) hS dX5_readItem_100
        · have n_39 := Int32.not_lt.mp c_39
          have hmn9 : mn < 120 := kw_mn (tp := tp) hle hmb hl9 (by rw [← hz7]; exact c_39)
          refine lv_aload_n S.1 S.2.1 dX5_readItem_42 rfl (lv_at hl 0 rfl) ?_
          refine lv_iload_n S.1 S.2.1 dX5_readItem_43 rfl (lv_at hl 1 rfl) ?_
          refine go_V (run_VX (As := [.int z]) (rest := []) (n := 1) S hK (bl_P hP [0, 1, 2] rfl) (bl_D hD [0, 1, 2] rfl rfl) (EX_c hX hS hD [0, 1, 2] rfl) (c_X5_readPotter l E aS am q tp it len bb ee vv mn pt ss ww z hq3 hl9 hle (by omega)) gV_X5_284 (by decide +kernel) rfl ⟨rfl, rfl⟩ ⟨Nat.le_of_ble_eq_true rfl, Nat.le_of_ble_eq_true rfl⟩ (ci := 5) (q0 := 0) rfl rfl hl.1 (Nat.le_of_ble_eq_true rfl) dX5_readItem_44 ⟨Nat.zero_le _, Nat.zero_le _⟩) hP hD hS [0, 1, 2] rfl (had_cons mo_ad (had_cons rfl (had_cons cell_ad rfl))) (Bs' := [[mObj am (qX q ((rdP tp len (bb, ee, ss, vv, ww) pt).1) (mn + 1) (pt + 1))], [(am 5, .inl (E.2.1, 120, .inl (sg tp 120)))], [(am 7, .inl (E.2.1, 480, .inl (sg (itF it mn z (rdP tp len (bb, ee, ss, vv, ww) pt).2.1 (rdP tp len (bb, ee, ss, vv, ww) pt).2.2.1 (rdP tp len (bb, ee, ss, vv, ww) pt).2.2.2) 480)))], [(am 6, .inl (E.2.2.2.2.2, 7, .inr (.inr (.inr (.inr kn)))))]]) rfl (fun H locs hP hD hS => ?_)
          obtain ⟨r_44_2, er_44_2⟩ : ∃ zz9 : Row, zz9 = itF it mn z (rdP tp len (bb, ee, ss, vv, ww) pt).2.1 (rdP tp len (bb, ee, ss, vv, ww) pt).2.2.1 (rdP tp len (bb, ee, ss, vv, ww) pt).2.2.2 := ⟨_, rfl⟩
          rw [← er_44_2] at hP hD
          obtain ⟨⟨b_44, e_44, s_44, v_44, w_44⟩, eX_44⟩ : ∃ zz9 : Xs, zz9 = (rdP tp len (bb, ee, ss, vv, ww) pt).1 := ⟨_, rfl⟩
          rw [← eX_44] at hP hD
          refine lv_goto (tgt := 100) S.1 S.2.1 dX5_readItem_47 (by decide) ?_
          exact retV S hr hlk (by have e9 : rdI tp len (bb, ee, ss, vv, ww) mn pt it = ((b_44, e_44, s_44, v_44, w_44), mn + 1, pt + 1, r_44_2) := (by unfold rdI; rw [if_pos (by rw [← hz7]; exact Int32.not_lt.mp c_39), er_44_2, hz7, eX_44]); rw [e9]; exact hP) hS dX5_readItem_100
      · have n_10 := Int32.not_le.mp c_10
        have hk7 : k < 7 := Nat.lt_of_not_le (fun z9 => c_10 (show nI 7 ≤ nI k from nI_le z9 (by omega)))
        refine lv_aload_n S.1 S.2.1 dX5_readItem_13 rfl (lv_at hl 0 rfl) ?_
        refine lv_aload_n S.1 S.2.1 dX5_readItem_14 rfl (lv_at hl 0 rfl) ?_
        refine gf_X5_41 S hK hP 0 0 rfl rfl rfl dX5_readItem_15 ?_
        refine lv_iload_n S.1 S.2.1 dX5_readItem_18 rfl (lv_at hl 2 rfl) ?_
        refine b_aaldN (i := k) S hK hP 4 3 0 rfl rfl rfl (by omega) (by decide) (v := aS (12 + k)) (hkn k hk7) dX5_readItem_19 ?_
        refine go_S (run_VX (As := [.ref (aS (12 + k))]) (rest := []) (n := 1) S hK (bl_P hP [0, 1] rfl) (bl_D hD [0, 1] rfl rfl) (EX_c hX hS hD [0, 1] rfl) (c_X5_isWord l E aS am q tp len bb ee vv mn pt ss ww k hq3 hl9 (by omega) (hle).1 (Nat.le_trans (hle).2.1 hl9)) gV_X5_261 (by decide +kernel) rfl ⟨rfl, rfl⟩ ⟨Nat.le_of_ble_eq_true rfl, Nat.le_of_ble_eq_true rfl⟩ (ci := 5) (q0 := 0) rfl rfl hl.1 (Nat.le_of_ble_eq_true rfl) dX5_readItem_20 ⟨Nat.zero_le _, Nat.zero_le _⟩) ?_
        refine b_ifeq (tgt := 30) S.1 S.2.1 dX5_readItem_23 (by decide) (fun c_23 => ?_) (fun c_23 => ?_)
        · refine lv_iload_n S.1 S.2.1 dX5_readItem_30 rfl (lv_at hl 1 rfl) ?_
          refine lv_istore_n (lv' := [(1, .int z), (0, .ref (am 0)), (2, .int (nI k))]) S.1 S.2.1 dX5_readItem_31 rfl hl (by decide) rfl (fun ls hl => ?_)
          refine lv_iinc (v := nI (k + 1)) (lv' := [(2, .int (nI (k + 1))), (1, .int z), (0, .ref (am 0))]) S.1 S.2.1 dX5_readItem_32 hl (k := 2) rfl (nI_1 k) (by decide) rfl (fun ls hl => ?_)
          refine lv_goto (tgt := 4) S.1 S.2.1 dX5_readItem_35 (by decide) ?_
          exact ih_4 (k + 1) z (by omega) (by omega) (by rw [kwN, if_neg c_23, hz]) H locs hP hD hS ls (lv_sub hl [2, 1, 0] rfl)
        · refine lv_iload_n S.1 S.2.1 dX5_readItem_26 rfl (lv_at hl 2 rfl) ?_
          refine lv_goto (tgt := 31) S.1 S.2.1 dX5_readItem_27 (by decide) ?_
          refine lv_istore_n (lv' := [(1, .int (nI k)), (0, .ref (am 0)), (2, .int (nI k))]) S.1 S.2.1 dX5_readItem_31 rfl hl (by decide) rfl (fun ls hl => ?_)
          refine lv_iinc (v := nI (k + 1)) (lv' := [(2, .int (nI (k + 1))), (1, .int (nI k)), (0, .ref (am 0))]) S.1 S.2.1 dX5_readItem_32 hl (k := 2) rfl (nI_1 k) (by decide) rfl (fun ls hl => ?_)
          refine lv_goto (tgt := 4) S.1 S.2.1 dX5_readItem_35 (by decide) ?_
          exact ih_4 (k + 1) (nI k) (by omega) (by omega) (by rw [kwN, if_pos c_23]) H locs hP hD hS ls (lv_sub hl [2, 1, 0] rfl)
  exact L_4 8 0 (-1) (by omega) (by omega) rfl H locs hP hD hS ls (lv_sub hl [2, 1, 0] rfl)
