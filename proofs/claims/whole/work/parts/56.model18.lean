theorem qX_3 {q : Row} {X : Xs} {mn pt : Nat} {x : Int32} : upd (qX q X mn pt) 3 x = qX (upd q 3 x) X mn pt := funext fun j => by
  unfold qX upd
  by_cases h : j = 3
  · subst h; rfl
  · rw [if_neg h, if_neg h]
theorem OKI_0 {n : Nat} {it : Row} (h : n ≤ 8) : OKI n 0 n it := ⟨rfl, h, fun k hk => absurd hk (Nat.not_lt_zero _)⟩
def lpN (tp : Row) (len : Nat) : Nat → Xs × Nat × Nat × Row → Xs × Nat × Nat × Row
  | 0, Y => Y
  | f + 1, Y => if Y.1.2.2.2.2 = 0 ∧ Y.1.2.2.1 = 3 ∧ tp Y.1.1 = 59 then lpN tp len f (rdI tp len (mstF tp len Y.1 1) Y.2.1 Y.2.2.1 Y.2.2.2) else Y
theorem lp_no {tp : Row} {len f b e v mm pp : Nat} {s w : Int32} {ti : Row} (h : ¬ (w = 0 ∧ s = 3 ∧ tp b = 59)) : lpN tp len (f + 1) ((b, e, s, v, w), mm, pp, ti) = ((b, e, s, v, w), mm, pp, ti) := if_neg h
theorem lp_yes {tp : Row} {len f b e v mm pp : Nat} {s w : Int32} {ti : Row} (h : w = 0) (h2 : s = 3) (h3 : tp b = 59) : lpN tp len (f + 1) ((b, e, s, v, w), mm, pp, ti) = lpN tp len f (rdI tp len (mstF tp len (b, e, s, v, w) 1) mm pp ti) := if_pos ⟨h, h2, h3⟩
def txY (tp : Row) (len n : Nat) (it : Row) : Xs × Nat × Nat × Row := lpN tp len (len + 1) (rdI tp len (tkX tp len 0 0) 0 n it)
def txX (tp : Row) (len n : Nat) (it : Row) : Xs := mstF tp len (txY tp len n it).1 (bI ((txY tp len n it).1.2.2.1 = 0))
def txA (tp : Row) (len n : Nat) (it : Row) : Int32 := if (txX tp len n it).2.2.2.2 = 0 then nI (txY tp len n it).2.1 else -1 - nI (txX tp len n it).1
def txR (r tp : Row) (len n : Nat) (it : Row) : Row := if (txX tp len n it).2.2.2.2 = 0 then tldN r (txY tp len n it).2.2.2 (txY tp len n it).2.1 else r
theorem txR_no {r tp it : Row} {len n : Nat} (h : ¬ (txX tp len n it).2.2.2.2 = 0) : txR r tp len n it = r := if_neg h
theorem txR_yes {r tp it : Row} {len n : Nat} (h : (txX tp len n it).2.2.2.2 = 0) : txR r tp len n it = tldN r (txY tp len n it).2.2.2 (txY tp len n it).2.1 := if_pos h
theorem tx_w {tp it ti : Row} {len n mm pp : Nat} {X Y : Xs} (hle : XI len X) (eY : txY tp len n it = (X, mm, pp, ti)) (eXX : txX tp len n it = Y) (h : Y.2.2.2.2 = 0) : X.2.2.2.2 = 0 := by
  rw [txX, eY] at eXX
  rw [← eXX] at h
  exact (mst_w h).1
theorem it_1 {x0 x1 x2 x3 : Int32} (h : itOK x0 x1 x2 x3) : x0 = 10 → le9 x1 5 := fun e => by
  rcases h with ⟨_, h, _⟩ | ⟨e2, _⟩ | ⟨h6, _⟩
  · exact h
  · rw [e] at e2; exact absurd e2 (by decide)
  · exact absurd (Or.inl e) (le6_ne h6)
theorem it_2 {n mn pt k : Nat} {it : Row} (ho : OKI n mn pt it) (hk : k < mn) (h1 : ¬ it (4 * k) = 10) (h2 : ¬ it (4 * k) = 11) : cnN it n k < 8 := by
  have a := cnN_le (it := it) (n := n) mn (k + 1) hk
  rw [cnN, if_neg (fun z => z.elim h1 h2)] at a
  have b := ho.1
  have c := ho.2.1
  omega
set_option maxHeartbeats 800000 in
set_option maxRecDepth 100000 in
theorem c_X5_text (l : Launch) (E : EV) (aS : Nat → Nat) (kn : Nat → Option Nat) (am : Nat → Nat) (q r tp it : Row) (len bb ee vv mn pt n : Nat) (ss ww : Int32) (hq3 : q 3 = nI len) (hl9 : len ≤ 120) (hR : RI r) (hn : r 1 = nI n) (hn8 : n ≤ 8) (hkn : ∀ i, i < 7 → kn i = some (aS (12 + i))) : Met l yX5_text (wq yX5_text cX5_text 2 (some .int)) ({ frames := 8, cells := 0, slots := 0, locals := 176 }) (preX E aS [.ref (am 0)] [[mObj am (qX q (bb, ee, ss, vv, ww) mn pt)], [(am 1, .inl (E.2.1, 77, .inl (sg r 77)))], [(am 5, .inl (E.2.1, 120, .inl (sg tp 120)))], [(am 7, .inl (E.2.1, 480, .inl (sg it 480)))], [(am 6, .inl (E.2.2.2.2.2, 7, .inr (.inr (.inr (.inr kn)))))]]) (qI E [[mObj am (qX q (bb, ee, ss, vv, ww) mn pt)], [(am 1, .inl (E.2.1, 77, .inl (sg r 77)))], [(am 5, .inl (E.2.1, 120, .inl (sg tp 120)))], [(am 7, .inl (E.2.1, 480, .inl (sg it 480)))], [(am 6, .inl (E.2.2.2.2.2, 7, .inr (.inr (.inr (.inr kn)))))]] [[mObj am (qX (upd q 3 0) (txX tp len n it) ((txY tp len n it).2.1) ((txY tp len n it).2.2.1))], [(am 1, .inl (E.2.1, 77, .inl (sg (txR r tp len n it) 77)))], [(am 5, .inl (E.2.1, 120, .inl (sg tp 120)))], [(am 7, .inl (E.2.1, 480, .inl (sg ((txY tp len n it).2.2.2) 480)))], [(am 6, .inl (E.2.2.2.2.2, 7, .inr (.inr (.inr (.inr kn)))))]] (txA tp len n it)) 0 0 (inB [[mObj am (qX q (bb, ee, ss, vv, ww) mn pt)], [(am 1, .inl (E.2.1, 77, .inl (sg r 77)))], [(am 5, .inl (E.2.1, 120, .inl (sg tp 120)))], [(am 7, .inl (E.2.1, 480, .inl (sg it 480)))], [(am 6, .inl (E.2.2.2.2.2, 7, .inr (.inr (.inr (.inr kn)))))]]) := by
  refine M_mkX RX5 (by decide) rfl (Nat.le_of_ble_eq_true rfl) ?_
  intro p e s m below meth c S hr hlk hK hP hD hS hX ls hl
  have hl : lv_has ls 2 [(0, .ref (am 0))] := hl
  obtain ⟨H, hH⟩ : ∃ zz9, zz9 = s.heap := ⟨_, rfl⟩
  obtain ⟨locs, hlocs⟩ : ∃ zz9 : List Loc, zz9 = [] := ⟨_, rfl⟩
  have hP : PE E [[mObj am (qX q (bb, ee, ss, vv, ww) mn pt)], [(am 1, .inl (E.2.1, 77, .inl (sg r 77)))], [(am 5, .inl (E.2.1, 120, .inl (sg tp 120)))], [(am 7, .inl (E.2.1, 480, .inl (sg it 480)))], [(am 6, .inl (E.2.2.2.2.2, 7, .inr (.inr (.inr (.inr kn)))))]] H := by rw [hH]; exact hP
  have hS : va_S (inB [[mObj am (qX q (bb, ee, ss, vv, ww) mn pt)], [(am 1, .inl (E.2.1, 77, .inl (sg r 77)))], [(am 5, .inl (E.2.1, 120, .inl (sg tp 120)))], [(am 7, .inl (E.2.1, 480, .inl (sg it 480)))], [(am 6, .inl (E.2.2.2.2.2, 7, .inr (.inr (.inr (.inr kn)))))]]) s.heap H locs := by rw [hH, hlocs]; exact hS
  show W p l e ({ frames := 8, cells := 0, slots := 0, locals := 176 }) s m ([.ref (am 0)] : List Value).toArray below meth c s.heap [] 0 0 _ _
  suffices hgo : W p l e ({ frames := 8, cells := 0, slots := 0, locals := 176 }) s m ([.ref (am 0)] : List Value).toArray below meth c H locs 0 0 (MQ below (qI E [[mObj am (qX q (bb, ee, ss, vv, ww) mn pt)], [(am 1, .inl (E.2.1, 77, .inl (sg r 77)))], [(am 5, .inl (E.2.1, 120, .inl (sg tp 120)))], [(am 7, .inl (E.2.1, 480, .inl (sg it 480)))], [(am 6, .inl (E.2.2.2.2.2, 7, .inr (.inr (.inr (.inr kn)))))]] [[mObj am (qX (upd q 3 0) (txX tp len n it) ((txY tp len n it).2.1) ((txY tp len n it).2.2.1))], [(am 1, .inl (E.2.1, 77, .inl (sg (txR r tp len n it) 77)))], [(am 5, .inl (E.2.1, 120, .inl (sg tp 120)))], [(am 7, .inl (E.2.1, 480, .inl (sg ((txY tp len n it).2.2.2) 480)))], [(am 6, .inl (E.2.2.2.2.2, 7, .inr (.inr (.inr (.inr kn)))))]] (txA tp len n it)) ([.ref (am 0)] : List Value).toArray s 0 0 (inB [[mObj am (qX q (bb, ee, ss, vv, ww) mn pt)], [(am 1, .inl (E.2.1, 77, .inl (sg r 77)))], [(am 5, .inl (E.2.1, 120, .inl (sg tp 120)))], [(am 7, .inl (E.2.1, 480, .inl (sg it 480)))], [(am 6, .inl (E.2.2.2.2.2, 7, .inr (.inr (.inr (.inr kn)))))]])) (F0 m 0 ls []) by rw [hH, hlocs] at hgo; exact hgo
  clear hH hlocs
  refine lv_aload_n S.1 S.2.1 dX5_text_0 rfl (lv_at hl 0 rfl) ?_
  refine lv_iconst (v := 0) S.1 S.2.1 dX5_text_1 (by decide) ?_
  refine pf_X5_225 S hK hP hD hS 0 0 rfl rfl (Nat.le_of_ble_eq_true rfl) (mo_5.trans (congrArg (fun z => ([mObj am z] : va_W)) qX_5)) (Bs1 := [[mObj am (qX q (bb, 0, ss, vv, ww) mn pt)], [(am 1, .inl (E.2.1, 77, .inl (sg r 77)))], [(am 5, .inl (E.2.1, 120, .inl (sg tp 120)))], [(am 7, .inl (E.2.1, 480, .inl (sg it 480)))], [(am 6, .inl (E.2.2.2.2.2, 7, .inr (.inr (.inr (.inr kn)))))]]) rfl dX5_text_2 (fun H locs hP hD hS => ?_)
  refine lv_aload_n S.1 S.2.1 dX5_text_5 rfl (lv_at hl 0 rfl) ?_
  refine lv_iconst (v := 0) S.1 S.2.1 dX5_text_6 (by decide) ?_
  refine pf_X5_247 S hK hP hD hS 0 0 rfl rfl rfl rfl (Nat.le_of_ble_eq_true rfl) (mo_8.trans (congrArg (fun z => ([mObj am z] : va_W)) qX_8)) (Bs1 := [[mObj am (qX q (bb, 0, ss, vv, 0) mn pt)], [(am 1, .inl (E.2.1, 77, .inl (sg r 77)))], [(am 5, .inl (E.2.1, 120, .inl (sg tp 120)))], [(am 7, .inl (E.2.1, 480, .inl (sg it 480)))], [(am 6, .inl (E.2.2.2.2.2, 7, .inr (.inr (.inr (.inr kn)))))]]) rfl dX5_text_7 (fun H locs hP hD hS => ?_)
  refine lv_aload_n S.1 S.2.1 dX5_text_10 rfl (lv_at hl 0 rfl) ?_
  refine lv_iconst (v := 0) S.1 S.2.1 dX5_text_11 (by decide) ?_
  refine pf_X5_258 S hK hP hD hS 0 0 rfl rfl (Nat.le_of_ble_eq_true rfl) (mo_9.trans (congrArg (fun z => ([mObj am z] : va_W)) qX_9)) (Bs1 := [[mObj am (qX q (bb, 0, ss, vv, 0) 0 pt)], [(am 1, .inl (E.2.1, 77, .inl (sg r 77)))], [(am 5, .inl (E.2.1, 120, .inl (sg tp 120)))], [(am 7, .inl (E.2.1, 480, .inl (sg it 480)))], [(am 6, .inl (E.2.2.2.2.2, 7, .inr (.inr (.inr (.inr kn)))))]]) rfl dX5_text_12 (fun H locs hP hD hS => ?_)
  refine lv_aload_n S.1 S.2.1 dX5_text_15 rfl (lv_at hl 0 rfl) ?_
  refine lv_aload_n S.1 S.2.1 dX5_text_16 rfl (lv_at hl 0 rfl) ?_
  refine gf_X5_9 S hK hP 0 0 rfl rfl rfl dX5_text_17 ?_
  refine lv_iconst (v := 1) S.1 S.2.1 dX5_text_20 (by decide) ?_
  refine b_ialdN (i := 1) S hK hP 1 0 rfl rfl (by omega) (by decide) dX5_text_21 ?_
  refine lv_eqi (y := nI n) ((sg_at (by omega)).trans hn) ?_
  refine pf_X5_265 S hK hP hD hS 0 0 rfl rfl (Nat.le_of_ble_eq_true rfl) (mo_10.trans (congrArg (fun z => ([mObj am z] : va_W)) qX_10)) (Bs1 := [[mObj am (qX q (bb, 0, ss, vv, 0) 0 n)], [(am 1, .inl (E.2.1, 77, .inl (sg r 77)))], [(am 5, .inl (E.2.1, 120, .inl (sg tp 120)))], [(am 7, .inl (E.2.1, 480, .inl (sg it 480)))], [(am 6, .inl (E.2.2.2.2.2, 7, .inr (.inr (.inr (.inr kn)))))]]) rfl dX5_text_22 (fun H locs hP hD hS => ?_)
  refine lv_aload_n S.1 S.2.1 dX5_text_25 rfl (lv_at hl 0 rfl) ?_
  refine go_V (run_V (As := []) (rest := []) (n := 0) S hK (bl_P hP [0, 2] rfl) (bl_D hD [0, 2] rfl rfl) (c_X5_token l E am q tp len bb 0 vv 0 n ss 0 hq3 hl9 (Nat.zero_le _)) gV_X5_251 (by decide +kernel) rfl ⟨rfl, rfl⟩ ⟨Nat.le_of_ble_eq_true rfl, Nat.le_of_ble_eq_true rfl⟩ (ci := 5) (q0 := 0) rfl rfl hl.1 (Nat.le_of_ble_eq_true rfl) dX5_text_26 ⟨Nat.zero_le _, Nat.zero_le _⟩) hP hD hS [0, 2] rfl (had_cons mo_ad (had_cons rfl rfl)) (Bs' := [[mObj am (qX q (tkX tp len 0 0) 0 n)], [(am 1, .inl (E.2.1, 77, .inl (sg r 77)))], [(am 5, .inl (E.2.1, 120, .inl (sg tp 120)))], [(am 7, .inl (E.2.1, 480, .inl (sg it 480)))], [(am 6, .inl (E.2.2.2.2.2, 7, .inr (.inr (.inr (.inr kn)))))]]) rfl (fun H locs hP hD hS => ?_)
  obtain ⟨⟨b_26, e_26, s_26, v_26, w_26⟩, eX_26⟩ : ∃ zz9 : Xs, zz9 = tkX tp len 0 0 := ⟨_, rfl⟩
  rw [← eX_26] at hP hD
  have hle_26 : XI len (b_26, e_26, s_26, v_26, w_26) := by (rw [eX_26]; exact (tk_I 0 (Nat.zero_le _)).1)
  refine lv_aload_n S.1 S.2.1 dX5_text_29 rfl (lv_at hl 0 rfl) ?_
  refine go_V (run_VX (As := []) (rest := []) (n := 0) S hK (bl_P hP [0, 2, 3, 4] rfl) (bl_D hD [0, 2, 3, 4] rfl rfl) (EX_c hX hS hD [0, 2, 3, 4] rfl) (c_X5_readItem l E aS kn am q tp it len b_26 e_26 v_26 0 n s_26 w_26 hq3 hl9 hle_26 (Nat.zero_le _) hkn) gV_X5_294 (by decide +kernel) rfl ⟨rfl, rfl⟩ ⟨Nat.le_of_ble_eq_true rfl, Nat.le_of_ble_eq_true rfl⟩ (ci := 5) (q0 := 0) rfl rfl hl.1 (Nat.le_of_ble_eq_true rfl) dX5_text_30 ⟨Nat.zero_le _, Nat.zero_le _⟩) hP hD hS [0, 2, 3, 4] rfl (had_cons mo_ad (had_cons rfl (had_cons cell_ad (had_cons rfl rfl)))) (Bs' := [[mObj am (qX q ((rdI tp len (b_26, e_26, s_26, v_26, w_26) 0 n it).1) ((rdI tp len (b_26, e_26, s_26, v_26, w_26) 0 n it).2.1) ((rdI tp len (b_26, e_26, s_26, v_26, w_26) 0 n it).2.2.1))], [(am 1, .inl (E.2.1, 77, .inl (sg r 77)))], [(am 5, .inl (E.2.1, 120, .inl (sg tp 120)))], [(am 7, .inl (E.2.1, 480, .inl (sg ((rdI tp len (b_26, e_26, s_26, v_26, w_26) 0 n it).2.2.2) 480)))], [(am 6, .inl (E.2.2.2.2.2, 7, .inr (.inr (.inr (.inr kn)))))]]) rfl (fun H locs hP hD hS => ?_)
  obtain ⟨r_30_3, er_30_3⟩ : ∃ zz9 : Row, zz9 = (rdI tp len (b_26, e_26, s_26, v_26, w_26) 0 n it).2.2.2 := ⟨_, rfl⟩
  rw [← er_30_3] at hP hD
  obtain ⟨⟨b_30, e_30, s_30, v_30, w_30⟩, eX_30⟩ : ∃ zz9 : Xs, zz9 = (rdI tp len (b_26, e_26, s_26, v_26, w_26) 0 n it).1 := ⟨_, rfl⟩
  rw [← eX_30] at hP hD
  have hok_30 := rdI_ok (tp := tp) (it := it) (n := n) (mn := 0) (pt := n) hle_26 (Nat.zero_le _)
  rw [← eX_30] at hok_30
  have hle_30 : XI len (b_30, e_30, s_30, v_30, w_30) := hok_30.1
  have L_33 : ∀ (fu : Nat) (b : Nat) (e9 : Nat) (s9 : Int32) (v9 : Nat) (w9 : Int32) (mm : Nat) (pp : Nat) (ti : Row), (XI len (b, e9, s9, v9, w9)) → (len < b + fu) → (mm ≤ 120) → (w9 = 0 → mm ≤ b ∧ OKI n mm pp ti) → (txY tp len n it = lpN tp len fu ((b, e9, s9, v9, w9), mm, pp, ti)) → ∀ (H : Heap) (locs : List Loc), PE E [[mObj am (qX q (b, e9, s9, v9, w9) mm pp)], [(am 1, .inl (E.2.1, 77, .inl (sg r 77)))], [(am 5, .inl (E.2.1, 120, .inl (sg tp 120)))], [(am 7, .inl (E.2.1, 480, .inl (sg ti 480)))], [(am 6, .inl (E.2.2.2.2.2, 7, .inr (.inr (.inr (.inr kn)))))]] H → DE (inB [[mObj am (qX q (bb, ee, ss, vv, ww) mn pt)], [(am 1, .inl (E.2.1, 77, .inl (sg r 77)))], [(am 5, .inl (E.2.1, 120, .inl (sg tp 120)))], [(am 7, .inl (E.2.1, 480, .inl (sg it 480)))], [(am 6, .inl (E.2.2.2.2.2, 7, .inr (.inr (.inr (.inr kn)))))]]) [[mObj am (qX q (b, e9, s9, v9, w9) mm pp)], [(am 1, .inl (E.2.1, 77, .inl (sg r 77)))], [(am 5, .inl (E.2.1, 120, .inl (sg tp 120)))], [(am 7, .inl (E.2.1, 480, .inl (sg ti 480)))], [(am 6, .inl (E.2.2.2.2.2, 7, .inr (.inr (.inr (.inr kn)))))]] → va_S (inB [[mObj am (qX q (bb, ee, ss, vv, ww) mn pt)], [(am 1, .inl (E.2.1, 77, .inl (sg r 77)))], [(am 5, .inl (E.2.1, 120, .inl (sg tp 120)))], [(am 7, .inl (E.2.1, 480, .inl (sg it 480)))], [(am 6, .inl (E.2.2.2.2.2, 7, .inr (.inr (.inr (.inr kn)))))]]) s.heap H locs → ∀ (ls : Array Slot), lv_has ls 2 [(0, .ref (am 0))] → W p l e ({ frames := 8, cells := 0, slots := 0, locals := 176 }) s m ([.ref (am 0)] : List Value).toArray below meth c H locs 0 0 (MQ below (qI E [[mObj am (qX q (bb, ee, ss, vv, ww) mn pt)], [(am 1, .inl (E.2.1, 77, .inl (sg r 77)))], [(am 5, .inl (E.2.1, 120, .inl (sg tp 120)))], [(am 7, .inl (E.2.1, 480, .inl (sg it 480)))], [(am 6, .inl (E.2.2.2.2.2, 7, .inr (.inr (.inr (.inr kn)))))]] [[mObj am (qX (upd q 3 0) (txX tp len n it) ((txY tp len n it).2.1) ((txY tp len n it).2.2.1))], [(am 1, .inl (E.2.1, 77, .inl (sg (txR r tp len n it) 77)))], [(am 5, .inl (E.2.1, 120, .inl (sg tp 120)))], [(am 7, .inl (E.2.1, 480, .inl (sg ((txY tp len n it).2.2.2) 480)))], [(am 6, .inl (E.2.2.2.2.2, 7, .inr (.inr (.inr (.inr kn)))))]] (txA tp len n it)) ([.ref (am 0)] : List Value).toArray s 0 0 (inB [[mObj am (qX q (bb, ee, ss, vv, ww) mn pt)], [(am 1, .inl (E.2.1, 77, .inl (sg r 77)))], [(am 5, .inl (E.2.1, 120, .inl (sg tp 120)))], [(am 7, .inl (E.2.1, 480, .inl (sg it 480)))], [(am 6, .inl (E.2.2.2.2.2, 7, .inr (.inr (.inr (.inr kn)))))]])) (F0 m 33 ls []) := by
    intro fu
    induction fu with
    | zero =>
      intro b e9 s9 v9 w9 mm pp ti hle hf hm hw hZ
      exact absurd hf (by have z9 : b ≤ e9 := hle.1; have y9 : e9 ≤ len := hle.2.1; omega)
    | succ fu ih_33 =>
      intro b e9 s9 v9 w9 mm pp ti hle hf hm hw hZ H locs hP hD hS ls hl
      refine lv_aload_n S.1 S.2.1 dX5_text_33 rfl (lv_at hl 0 rfl) ?_
      refine gf_X5_247 S hK hP 0 0 rfl rfl (show _ = some (Value.int w9) from rfl) dX5_text_34 ?_
      refine lv_if_ne (tgt := 74) S.1 S.2.1 dX5_text_37 (by decide) (fun c_37 => ?_) (fun c_37 => ?_)
      · have eY : txY tp len n it = ((b, e9, s9, v9, w9), mm, pp, ti) := hZ.trans (lp_no (fun z9 => c_37 z9.1))
        refine lv_aload_n S.1 S.2.1 dX5_text_74 rfl (lv_at hl 0 rfl) ?_
        refine lv_aload_n S.1 S.2.1 dX5_text_75 rfl (lv_at hl 0 rfl) ?_
        refine gf_X5_237 S hK hP 0 0 rfl rfl (show _ = some (Value.int s9) from rfl) dX5_text_76 ?_
        refine lv_if_ne (tgt := 86) S.1 S.2.1 dX5_text_79 (by decide) (fun c_79 => ?_) (fun c_79 => ?_)
        · refine lv_iconst (v := 0) S.1 S.2.1 dX5_text_86 (by decide) ?_
          refine go_V (run_V (As := [.int 0]) (rest := []) (n := 1) S hK (bl_P hP [0, 2] rfl) (bl_D hD [0, 2] rfl rfl) (c_X5_must l E am q tp len b e9 v9 mm pp s9 w9 0 hq3 hl9 (hle).2.1) gV_X5_254 (by decide +kernel) rfl ⟨rfl, rfl⟩ ⟨Nat.le_of_ble_eq_true rfl, Nat.le_of_ble_eq_true rfl⟩ (ci := 5) (q0 := 0) rfl rfl hl.1 (Nat.le_of_ble_eq_true rfl) dX5_text_87 ⟨Nat.zero_le _, Nat.zero_le _⟩) hP hD hS [0, 2] rfl (had_cons mo_ad (had_cons rfl rfl)) (Bs' := [[mObj am (qX q (mstF tp len (b, e9, s9, v9, w9) 0) mm pp)], [(am 1, .inl (E.2.1, 77, .inl (sg r 77)))], [(am 5, .inl (E.2.1, 120, .inl (sg tp 120)))], [(am 7, .inl (E.2.1, 480, .inl (sg ti 480)))], [(am 6, .inl (E.2.2.2.2.2, 7, .inr (.inr (.inr (.inr kn)))))]]) rfl (fun H locs hP hD hS => ?_)
          obtain ⟨⟨b_87, e_87, s_87, v_87, w_87⟩, eX_87⟩ : ∃ zz9 : Xs, zz9 = mstF tp len (b, e9, s9, v9, w9) 0 := ⟨_, rfl⟩
          rw [← eX_87] at hP hD
          have hle_87 := mst_I eX_87 hle
          have eXX : txX tp len n it = (b_87, e_87, s_87, v_87, w_87) := by (unfold txX; rw [eY]; show mstF tp len (b, e9, s9, v9, w9) (bI (s9 = 0)) = _; rw [bI, if_neg c_79]; exact eX_87.symm)
          refine lv_aload_n S.1 S.2.1 dX5_text_90 rfl (lv_at hl 0 rfl) ?_
          refine lv_iconst (v := 0) S.1 S.2.1 dX5_text_91 (by decide) ?_
          refine pf_X5_222 S hK hP hD hS 0 0 rfl rfl (Nat.le_of_ble_eq_true rfl) (mo_3.trans (congrArg (fun z => ([mObj am z] : va_W)) qX_3)) (Bs1 := [[mObj am (qX (upd q 3 0) (b_87, e_87, s_87, v_87, w_87) mm pp)], [(am 1, .inl (E.2.1, 77, .inl (sg r 77)))], [(am 5, .inl (E.2.1, 120, .inl (sg tp 120)))], [(am 7, .inl (E.2.1, 480, .inl (sg ti 480)))], [(am 6, .inl (E.2.2.2.2.2, 7, .inr (.inr (.inr (.inr kn)))))]]) rfl dX5_text_92 (fun H locs hP hD hS => ?_)
          refine lv_aload_n S.1 S.2.1 dX5_text_95 rfl (lv_at hl 0 rfl) ?_
          refine gf_X5_247 S hK hP 0 0 rfl rfl (show _ = some (Value.int w_87) from rfl) dX5_text_96 ?_
          refine lv_if_eq (tgt := 109) S.1 S.2.1 dX5_text_99 (by decide) (fun c_99 => ?_) (fun c_99 => ?_)
          · have hww : w9 = 0 := tx_w hle eY eXX c_99
            have hoki := (hw hww).2
            refine lv_iconst (v := 0) S.1 S.2.1 dX5_text_109 (by decide) ?_
            refine lv_istore_n (lv' := [(1, .int 0), (0, .ref (am 0))]) S.1 S.2.1 dX5_text_110 rfl hl (by decide) rfl (fun ls hl => ?_)
            have L_111 : ∀ (fu : Nat) (k : Nat) (ri : Row), (k ≤ mm) → (mm < k + fu) → (ri = tldN r ti k) → ∀ (H : Heap) (locs : List Loc), PE E [[mObj am (qX (upd q 3 0) (b_87, e_87, s_87, v_87, w_87) mm pp)], [(am 1, .inl (E.2.1, 77, .inl (sg ri 77)))], [(am 5, .inl (E.2.1, 120, .inl (sg tp 120)))], [(am 7, .inl (E.2.1, 480, .inl (sg ti 480)))], [(am 6, .inl (E.2.2.2.2.2, 7, .inr (.inr (.inr (.inr kn)))))]] H → DE (inB [[mObj am (qX q (bb, ee, ss, vv, ww) mn pt)], [(am 1, .inl (E.2.1, 77, .inl (sg r 77)))], [(am 5, .inl (E.2.1, 120, .inl (sg tp 120)))], [(am 7, .inl (E.2.1, 480, .inl (sg it 480)))], [(am 6, .inl (E.2.2.2.2.2, 7, .inr (.inr (.inr (.inr kn)))))]]) [[mObj am (qX (upd q 3 0) (b_87, e_87, s_87, v_87, w_87) mm pp)], [(am 1, .inl (E.2.1, 77, .inl (sg ri 77)))], [(am 5, .inl (E.2.1, 120, .inl (sg tp 120)))], [(am 7, .inl (E.2.1, 480, .inl (sg ti 480)))], [(am 6, .inl (E.2.2.2.2.2, 7, .inr (.inr (.inr (.inr kn)))))]] → va_S (inB [[mObj am (qX q (bb, ee, ss, vv, ww) mn pt)], [(am 1, .inl (E.2.1, 77, .inl (sg r 77)))], [(am 5, .inl (E.2.1, 120, .inl (sg tp 120)))], [(am 7, .inl (E.2.1, 480, .inl (sg it 480)))], [(am 6, .inl (E.2.2.2.2.2, 7, .inr (.inr (.inr (.inr kn)))))]]) s.heap H locs → ∀ (ls : Array Slot), lv_has ls 2 [(0, .ref (am 0)), (1, .int (nI k))] → W p l e ({ frames := 8, cells := 0, slots := 0, locals := 176 }) s m ([.ref (am 0)] : List Value).toArray below meth c H locs 0 0 (MQ below (qI E [[mObj am (qX q (bb, ee, ss, vv, ww) mn pt)], [(am 1, .inl (E.2.1, 77, .inl (sg r 77)))], [(am 5, .inl (E.2.1, 120, .inl (sg tp 120)))], [(am 7, .inl (E.2.1, 480, .inl (sg it 480)))], [(am 6, .inl (E.2.2.2.2.2, 7, .inr (.inr (.inr (.inr kn)))))]] [[mObj am (qX (upd q 3 0) (txX tp len n it) ((txY tp len n it).2.1) ((txY tp len n it).2.2.1))], [(am 1, .inl (E.2.1, 77, .inl (sg (txR r tp len n it) 77)))], [(am 5, .inl (E.2.1, 120, .inl (sg tp 120)))], [(am 7, .inl (E.2.1, 480, .inl (sg ((txY tp len n it).2.2.2) 480)))], [(am 6, .inl (E.2.2.2.2.2, 7, .inr (.inr (.inr (.inr kn)))))]] (txA tp len n it)) ([.ref (am 0)] : List Value).toArray s 0 0 (inB [[mObj am (qX q (bb, ee, ss, vv, ww) mn pt)], [(am 1, .inl (E.2.1, 77, .inl (sg r 77)))], [(am 5, .inl (E.2.1, 120, .inl (sg tp 120)))], [(am 7, .inl (E.2.1, 480, .inl (sg it 480)))], [(am 6, .inl (E.2.2.2.2.2, 7, .inr (.inr (.inr (.inr kn)))))]])) (F0 m 111 ls []) := by
              intro fu
              induction fu with
              | zero =>
                intro k ri hk hf hri
                omega
              | succ fu ih_111 =>
                intro k ri hk hf hri H locs hP hD hS ls hl
                refine lv_iload_n S.1 S.2.1 dX5_text_111 rfl (lv_at hl 1 rfl) ?_
                have hc1 : ri 1 = nI (cnN ti n k) := by (rw [hri]; exact (tld_ok hR hn hn8 hoki k hk).2)
                refine lv_aload_n S.1 S.2.1 dX5_text_112 rfl (lv_at hl 0 rfl) ?_
                refine gf_X5_258 S hK hP 0 0 rfl rfl (show _ = some (Value.int (nI mm)) from rfl) dX5_text_113 ?_
                refine lv_icmp_ge (tgt := 132) S.1 S.2.1 dX5_text_116 (by decide) (fun c_116 => ?_) (fun c_116 => ?_)
                · have n_116 := Int32.not_lt.mpr c_116
                  refine lv_aload_n S.1 S.2.1 dX5_text_132 rfl (lv_at hl 0 rfl) ?_
                  refine gf_X5_258 S hK hP 0 0 rfl rfl (show _ = some (Value.int (nI mm)) from rfl) dX5_text_133 ?_
                  exact retI S hr hlk (by rw [txR_yes (by rw [eXX]; exact c_99), eXX, eY]; rw [hri, le_endK hk c_116 (by omega)] at hP; exact hP) hS (by rw [txA, if_pos (by rw [eXX]; exact c_99), eY]) dX5_text_136
                · have n_116 := Int32.not_le.mp c_116
                  have hkm : k < mm := lt_in c_116 hk
                  have hc8 : cnN ti n k ≤ 8 := by (have z9 := cnN_le (it := ti) (n := n) mm k hk; have y9 := hoki.1; have x9 := hoki.2.1; omega)
                  have hok9 := hoki.2.2 k hkm
                  have ho1 := it_1 hok9
                  have ho2 : ¬ ti (4 * k) = 10 → ¬ ti (4 * k) = 11 → cnN ti n k < 8 := it_2 hoki hkm
                  refine lv_aload_n S.1 S.2.1 dX5_text_119 rfl (lv_at hl 0 rfl) ?_
                  refine lv_iconst (v := 4) S.1 S.2.1 dX5_text_120 (by decide) ?_
                  refine lv_iload_n S.1 S.2.1 dX5_text_121 rfl (lv_at hl 1 rfl) ?_
                  refine lv_imul S.1 S.2.1 dX5_text_122 ?_
                  refine lv_eqi (y := nI (4 * k)) (pk_mul 4 k) ?_
                  refine go_V (run_V (As := [.int (nI (4 * k))]) (rest := []) (n := 1) S hK (bl_P hP [0, 1, 3] rfl) (bl_D hD [0, 1, 3] rfl rfl) (c_X5_isToldSo l E am (qX (upd q 3 0) (b_87, e_87, s_87, v_87, w_87) mm pp) ri ti (cnN ti n k) k (by omega) hc8 (by omega) ho1 ho2) gV_X5_297 (by decide +kernel) rfl ⟨rfl, rfl⟩ ⟨Nat.le_of_ble_eq_true rfl, Nat.le_of_ble_eq_true rfl⟩ (ci := 5) (q0 := 0) rfl rfl hl.1 (Nat.le_of_ble_eq_true rfl) dX5_text_123 ⟨Nat.zero_le _, Nat.zero_le _⟩) hP hD hS [0, 1, 3] rfl (had_cons rfl (had_cons cell_ad (had_cons rfl rfl))) (Bs' := [[mObj am (qX (upd q 3 0) (b_87, e_87, s_87, v_87, w_87) mm pp)], [(am 1, .inl (E.2.1, 77, .inl (sg (tldF ri ti k) 77)))], [(am 5, .inl (E.2.1, 120, .inl (sg tp 120)))], [(am 7, .inl (E.2.1, 480, .inl (sg ti 480)))], [(am 6, .inl (E.2.2.2.2.2, 7, .inr (.inr (.inr (.inr kn)))))]]) rfl (fun H locs hP hD hS => ?_)
                  obtain ⟨r_123, er_123⟩ : ∃ zz9 : Row, zz9 = tldF ri ti k := ⟨_, rfl⟩
                  rw [← er_123] at hP hD
                  refine lv_iinc (v := nI (k + 1)) (lv' := [(1, .int (nI (k + 1))), (0, .ref (am 0))]) S.1 S.2.1 dX5_text_126 hl (k := 1) rfl (nI_1 k) (by decide) rfl (fun ls hl => ?_)
                  refine lv_goto (tgt := 111) S.1 S.2.1 dX5_text_129 (by decide) ?_
                  exact ih_111 (k + 1) r_123 (by omega) (by omega) (by rw [er_123, hri]; rfl) H locs hP hD hS ls (lv_sub hl [1, 0] rfl)
            exact L_111 (mm + 1) 0 r (by omega) (by omega) rfl H locs hP hD hS ls (lv_sub hl [1, 0] rfl)
          · refine lv_iconst (v := (-1)) S.1 S.2.1 dX5_text_102 (by decide) ?_
            refine lv_aload_n S.1 S.2.1 dX5_text_103 rfl (lv_at hl 0 rfl) ?_
            refine gf_X5_228 S hK hP 0 0 rfl rfl (show _ = some (Value.int (nI b_87)) from rfl) dX5_text_104 ?_
            refine lv_isub S.1 S.2.1 dX5_text_107 ?_
            exact retI S hr hlk (by rw [txR_no (by rw [eXX]; exact c_99), eXX, eY]; exact hP) hS (by rw [txA, if_neg (by rw [eXX]; exact c_99), eXX]) dX5_text_108
        · refine lv_iconst (v := 1) S.1 S.2.1 dX5_text_82 (by decide) ?_
          refine lv_goto (tgt := 87) S.1 S.2.1 dX5_text_83 (by decide) ?_
          refine go_V (run_V (As := [.int 1]) (rest := []) (n := 1) S hK (bl_P hP [0, 2] rfl) (bl_D hD [0, 2] rfl rfl) (c_X5_must l E am q tp len b e9 v9 mm pp s9 w9 1 hq3 hl9 (hle).2.1) gV_X5_254 (by decide +kernel) rfl ⟨rfl, rfl⟩ ⟨Nat.le_of_ble_eq_true rfl, Nat.le_of_ble_eq_true rfl⟩ (ci := 5) (q0 := 0) rfl rfl hl.1 (Nat.le_of_ble_eq_true rfl) dX5_text_87 ⟨Nat.zero_le _, Nat.zero_le _⟩) hP hD hS [0, 2] rfl (had_cons mo_ad (had_cons rfl rfl)) (Bs' := [[mObj am (qX q (mstF tp len (b, e9, s9, v9, w9) 1) mm pp)], [(am 1, .inl (E.2.1, 77, .inl (sg r 77)))], [(am 5, .inl (E.2.1, 120, .inl (sg tp 120)))], [(am 7, .inl (E.2.1, 480, .inl (sg ti 480)))], [(am 6, .inl (E.2.2.2.2.2, 7, .inr (.inr (.inr (.inr kn)))))]]) rfl (fun H locs hP hD hS => ?_)
          obtain ⟨⟨b_87_1, e_87_1, s_87_1, v_87_1, w_87_1⟩, eX_87_1⟩ : ∃ zz9 : Xs, zz9 = mstF tp len (b, e9, s9, v9, w9) 1 := ⟨_, rfl⟩
          rw [← eX_87_1] at hP hD
          have hle_87_1 := mst_I eX_87_1 hle
          have eXX : txX tp len n it = (b_87_1, e_87_1, s_87_1, v_87_1, w_87_1) := by (unfold txX; rw [eY]; show mstF tp len (b, e9, s9, v9, w9) (bI (s9 = 0)) = _; rw [bI, if_pos c_79]; exact eX_87_1.symm)
          refine lv_aload_n S.1 S.2.1 dX5_text_90 rfl (lv_at hl 0 rfl) ?_
          refine lv_iconst (v := 0) S.1 S.2.1 dX5_text_91 (by decide) ?_
          refine pf_X5_222 S hK hP hD hS 0 0 rfl rfl (Nat.le_of_ble_eq_true rfl) (mo_3.trans (congrArg (fun z => ([mObj am z] : va_W)) qX_3)) (Bs1 := [[mObj am (qX (upd q 3 0) (b_87_1, e_87_1, s_87_1, v_87_1, w_87_1) mm pp)], [(am 1, .inl (E.2.1, 77, .inl (sg r 77)))], [(am 5, .inl (E.2.1, 120, .inl (sg tp 120)))], [(am 7, .inl (E.2.1, 480, .inl (sg ti 480)))], [(am 6, .inl (E.2.2.2.2.2, 7, .inr (.inr (.inr (.inr kn)))))]]) rfl dX5_text_92 (fun H locs hP hD hS => ?_)
          refine lv_aload_n S.1 S.2.1 dX5_text_95 rfl (lv_at hl 0 rfl) ?_
          refine gf_X5_247 S hK hP 0 0 rfl rfl (show _ = some (Value.int w_87_1) from rfl) dX5_text_96 ?_
          refine lv_if_eq (tgt := 109) S.1 S.2.1 dX5_text_99 (by decide) (fun c_99 => ?_) (fun c_99 => ?_)
          · have hww : w9 = 0 := tx_w hle eY eXX c_99
            have hoki := (hw hww).2
            refine lv_iconst (v := 0) S.1 S.2.1 dX5_text_109 (by decide) ?_
            refine lv_istore_n (lv' := [(1, .int 0), (0, .ref (am 0))]) S.1 S.2.1 dX5_text_110 rfl hl (by decide) rfl (fun ls hl => ?_)
            have L_111 : ∀ (fu : Nat) (k : Nat) (ri : Row), (k ≤ mm) → (mm < k + fu) → (ri = tldN r ti k) → ∀ (H : Heap) (locs : List Loc), PE E [[mObj am (qX (upd q 3 0) (b_87_1, e_87_1, s_87_1, v_87_1, w_87_1) mm pp)], [(am 1, .inl (E.2.1, 77, .inl (sg ri 77)))], [(am 5, .inl (E.2.1, 120, .inl (sg tp 120)))], [(am 7, .inl (E.2.1, 480, .inl (sg ti 480)))], [(am 6, .inl (E.2.2.2.2.2, 7, .inr (.inr (.inr (.inr kn)))))]] H → DE (inB [[mObj am (qX q (bb, ee, ss, vv, ww) mn pt)], [(am 1, .inl (E.2.1, 77, .inl (sg r 77)))], [(am 5, .inl (E.2.1, 120, .inl (sg tp 120)))], [(am 7, .inl (E.2.1, 480, .inl (sg it 480)))], [(am 6, .inl (E.2.2.2.2.2, 7, .inr (.inr (.inr (.inr kn)))))]]) [[mObj am (qX (upd q 3 0) (b_87_1, e_87_1, s_87_1, v_87_1, w_87_1) mm pp)], [(am 1, .inl (E.2.1, 77, .inl (sg ri 77)))], [(am 5, .inl (E.2.1, 120, .inl (sg tp 120)))], [(am 7, .inl (E.2.1, 480, .inl (sg ti 480)))], [(am 6, .inl (E.2.2.2.2.2, 7, .inr (.inr (.inr (.inr kn)))))]] → va_S (inB [[mObj am (qX q (bb, ee, ss, vv, ww) mn pt)], [(am 1, .inl (E.2.1, 77, .inl (sg r 77)))], [(am 5, .inl (E.2.1, 120, .inl (sg tp 120)))], [(am 7, .inl (E.2.1, 480, .inl (sg it 480)))], [(am 6, .inl (E.2.2.2.2.2, 7, .inr (.inr (.inr (.inr kn)))))]]) s.heap H locs → ∀ (ls : Array Slot), lv_has ls 2 [(0, .ref (am 0)), (1, .int (nI k))] → W p l e ({ frames := 8, cells := 0, slots := 0, locals := 176 }) s m ([.ref (am 0)] : List Value).toArray below meth c H locs 0 0 (MQ below (qI E [[mObj am (qX q (bb, ee, ss, vv, ww) mn pt)], [(am 1, .inl (E.2.1, 77, .inl (sg r 77)))], [(am 5, .inl (E.2.1, 120, .inl (sg tp 120)))], [(am 7, .inl (E.2.1, 480, .inl (sg it 480)))], [(am 6, .inl (E.2.2.2.2.2, 7, .inr (.inr (.inr (.inr kn)))))]] [[mObj am (qX (upd q 3 0) (txX tp len n it) ((txY tp len n it).2.1) ((txY tp len n it).2.2.1))], [(am 1, .inl (E.2.1, 77, .inl (sg (txR r tp len n it) 77)))], [(am 5, .inl (E.2.1, 120, .inl (sg tp 120)))], [(am 7, .inl (E.2.1, 480, .inl (sg ((txY tp len n it).2.2.2) 480)))], [(am 6, .inl (E.2.2.2.2.2, 7, .inr (.inr (.inr (.inr kn)))))]] (txA tp len n it)) ([.ref (am 0)] : List Value).toArray s 0 0 (inB [[mObj am (qX q (bb, ee, ss, vv, ww) mn pt)], [(am 1, .inl (E.2.1, 77, .inl (sg r 77)))], [(am 5, .inl (E.2.1, 120, .inl (sg tp 120)))], [(am 7, .inl (E.2.1, 480, .inl (sg it 480)))], [(am 6, .inl (E.2.2.2.2.2, 7, .inr (.inr (.inr (.inr kn)))))]])) (F0 m 111 ls []) := by
              intro fu
              induction fu with
              | zero =>
                intro k ri hk hf hri
                omega
              | succ fu ih_111 =>
                intro k ri hk hf hri H locs hP hD hS ls hl
                refine lv_iload_n S.1 S.2.1 dX5_text_111 rfl (lv_at hl 1 rfl) ?_
                have hc1 : ri 1 = nI (cnN ti n k) := by (rw [hri]; exact (tld_ok hR hn hn8 hoki k hk).2)
                refine lv_aload_n S.1 S.2.1 dX5_text_112 rfl (lv_at hl 0 rfl) ?_
                refine gf_X5_258 S hK hP 0 0 rfl rfl (show _ = some (Value.int (nI mm)) from rfl) dX5_text_113 ?_
                refine lv_icmp_ge (tgt := 132) S.1 S.2.1 dX5_text_116 (by decide) (fun c_116 => ?_) (fun c_116 => ?_)
                · have n_116 := Int32.not_lt.mpr c_116
                  refine lv_aload_n S.1 S.2.1 dX5_text_132 rfl (lv_at hl 0 rfl) ?_
                  refine gf_X5_258 S hK hP 0 0 rfl rfl (show _ = some (Value.int (nI mm)) from rfl) dX5_text_133 ?_
                  exact retI S hr hlk (by rw [txR_yes (by rw [eXX]; exact c_99), eXX, eY]; rw [hri, le_endK hk c_116 (by omega)] at hP; exact hP) hS (by rw [txA, if_pos (by rw [eXX]; exact c_99), eY]) dX5_text_136
                · have n_116 := Int32.not_le.mp c_116
                  have hkm : k < mm := lt_in c_116 hk
                  have hc8 : cnN ti n k ≤ 8 := by (have z9 := cnN_le (it := ti) (n := n) mm k hk; have y9 := hoki.1; have x9 := hoki.2.1; omega)
                  have hok9 := hoki.2.2 k hkm
                  have ho1 := it_1 hok9
                  have ho2 : ¬ ti (4 * k) = 10 → ¬ ti (4 * k) = 11 → cnN ti n k < 8 := it_2 hoki hkm
                  refine lv_aload_n S.1 S.2.1 dX5_text_119 rfl (lv_at hl 0 rfl) ?_
                  refine lv_iconst (v := 4) S.1 S.2.1 dX5_text_120 (by decide) ?_
                  refine lv_iload_n S.1 S.2.1 dX5_text_121 rfl (lv_at hl 1 rfl) ?_
                  refine lv_imul S.1 S.2.1 dX5_text_122 ?_
                  refine lv_eqi (y := nI (4 * k)) (pk_mul 4 k) ?_
                  refine go_V (run_V (As := [.int (nI (4 * k))]) (rest := []) (n := 1) S hK (bl_P hP [0, 1, 3] rfl) (bl_D hD [0, 1, 3] rfl rfl) (c_X5_isToldSo l E am (qX (upd q 3 0) (b_87_1, e_87_1, s_87_1, v_87_1, w_87_1) mm pp) ri ti (cnN ti n k) k (by omega) hc8 (by omega) ho1 ho2) gV_X5_297 (by decide +kernel) rfl ⟨rfl, rfl⟩ ⟨Nat.le_of_ble_eq_true rfl, Nat.le_of_ble_eq_true rfl⟩ (ci := 5) (q0 := 0) rfl rfl hl.1 (Nat.le_of_ble_eq_true rfl) dX5_text_123 ⟨Nat.zero_le _, Nat.zero_le _⟩) hP hD hS [0, 1, 3] rfl (had_cons rfl (had_cons cell_ad (had_cons rfl rfl))) (Bs' := [[mObj am (qX (upd q 3 0) (b_87_1, e_87_1, s_87_1, v_87_1, w_87_1) mm pp)], [(am 1, .inl (E.2.1, 77, .inl (sg (tldF ri ti k) 77)))], [(am 5, .inl (E.2.1, 120, .inl (sg tp 120)))], [(am 7, .inl (E.2.1, 480, .inl (sg ti 480)))], [(am 6, .inl (E.2.2.2.2.2, 7, .inr (.inr (.inr (.inr kn)))))]]) rfl (fun H locs hP hD hS => ?_)
                  obtain ⟨r_123_2, er_123_2⟩ : ∃ zz9 : Row, zz9 = tldF ri ti k := ⟨_, rfl⟩
                  rw [← er_123_2] at hP hD
                  refine lv_iinc (v := nI (k + 1)) (lv' := [(1, .int (nI (k + 1))), (0, .ref (am 0))]) S.1 S.2.1 dX5_text_126 hl (k := 1) rfl (nI_1 k) (by decide) rfl (fun ls hl => ?_)
                  refine lv_goto (tgt := 111) S.1 S.2.1 dX5_text_129 (by decide) ?_
                  exact ih_111 (k + 1) r_123_2 (by omega) (by omega) (by rw [er_123_2, hri]; rfl) H locs hP hD hS ls (lv_sub hl [1, 0] rfl)
            exact L_111 (mm + 1) 0 r (by omega) (by omega) rfl H locs hP hD hS ls (lv_sub hl [1, 0] rfl)
          · refine lv_iconst (v := (-1)) S.1 S.2.1 dX5_text_102 (by decide) ?_
            refine lv_aload_n S.1 S.2.1 dX5_text_103 rfl (lv_at hl 0 rfl) ?_
            refine gf_X5_228 S hK hP 0 0 rfl rfl (show _ = some (Value.int (nI b_87_1)) from rfl) dX5_text_104 ?_
            refine lv_isub S.1 S.2.1 dX5_text_107 ?_
            exact retI S hr hlk (by rw [txR_no (by rw [eXX]; exact c_99), eXX, eY]; exact hP) hS (by rw [txA, if_neg (by rw [eXX]; exact c_99), eXX]) dX5_text_108
      · refine lv_aload_n S.1 S.2.1 dX5_text_40 rfl (lv_at hl 0 rfl) ?_
        refine gf_X5_237 S hK hP 0 0 rfl rfl (show _ = some (Value.int s9) from rfl) dX5_text_41 ?_
        refine lv_iconst (v := 3) S.1 S.2.1 dX5_text_44 (by decide) ?_
        refine lv_icmp_ne (tgt := 74) S.1 S.2.1 dX5_text_45 (by decide) (fun c_45 => ?_) (fun c_45 => ?_)
        · have eY : txY tp len n it = ((b, e9, s9, v9, w9), mm, pp, ti) := hZ.trans (lp_no (fun z9 => c_45 z9.2.1))
          refine lv_aload_n S.1 S.2.1 dX5_text_74 rfl (lv_at hl 0 rfl) ?_
          refine lv_aload_n S.1 S.2.1 dX5_text_75 rfl (lv_at hl 0 rfl) ?_
          refine gf_X5_237 S hK hP 0 0 rfl rfl (show _ = some (Value.int s9) from rfl) dX5_text_76 ?_
          refine lv_if_ne (tgt := 86) S.1 S.2.1 dX5_text_79 (by decide) (fun c_79 => ?_) (fun c_79 => ?_)
          · refine lv_iconst (v := 0) S.1 S.2.1 dX5_text_86 (by decide) ?_
            refine go_V (run_V (As := [.int 0]) (rest := []) (n := 1) S hK (bl_P hP [0, 2] rfl) (bl_D hD [0, 2] rfl rfl) (c_X5_must l E am q tp len b e9 v9 mm pp s9 w9 0 hq3 hl9 (hle).2.1) gV_X5_254 (by decide +kernel) rfl ⟨rfl, rfl⟩ ⟨Nat.le_of_ble_eq_true rfl, Nat.le_of_ble_eq_true rfl⟩ (ci := 5) (q0 := 0) rfl rfl hl.1 (Nat.le_of_ble_eq_true rfl) dX5_text_87 ⟨Nat.zero_le _, Nat.zero_le _⟩) hP hD hS [0, 2] rfl (had_cons mo_ad (had_cons rfl rfl)) (Bs' := [[mObj am (qX q (mstF tp len (b, e9, s9, v9, w9) 0) mm pp)], [(am 1, .inl (E.2.1, 77, .inl (sg r 77)))], [(am 5, .inl (E.2.1, 120, .inl (sg tp 120)))], [(am 7, .inl (E.2.1, 480, .inl (sg ti 480)))], [(am 6, .inl (E.2.2.2.2.2, 7, .inr (.inr (.inr (.inr kn)))))]]) rfl (fun H locs hP hD hS => ?_)
            obtain ⟨⟨b_87_3, e_87_3, s_87_3, v_87_3, w_87_3⟩, eX_87_3⟩ : ∃ zz9 : Xs, zz9 = mstF tp len (b, e9, s9, v9, w9) 0 := ⟨_, rfl⟩
            rw [← eX_87_3] at hP hD
            have hle_87_3 := mst_I eX_87_3 hle
            have eXX : txX tp len n it = (b_87_3, e_87_3, s_87_3, v_87_3, w_87_3) := by (unfold txX; rw [eY]; show mstF tp len (b, e9, s9, v9, w9) (bI (s9 = 0)) = _; rw [bI, if_neg c_79]; exact eX_87_3.symm)
            refine lv_aload_n S.1 S.2.1 dX5_text_90 rfl (lv_at hl 0 rfl) ?_
            refine lv_iconst (v := 0) S.1 S.2.1 dX5_text_91 (by decide) ?_
            refine pf_X5_222 S hK hP hD hS 0 0 rfl rfl (Nat.le_of_ble_eq_true rfl) (mo_3.trans (congrArg (fun z => ([mObj am z] : va_W)) qX_3)) (Bs1 := [[mObj am (qX (upd q 3 0) (b_87_3, e_87_3, s_87_3, v_87_3, w_87_3) mm pp)], [(am 1, .inl (E.2.1, 77, .inl (sg r 77)))], [(am 5, .inl (E.2.1, 120, .inl (sg tp 120)))], [(am 7, .inl (E.2.1, 480, .inl (sg ti 480)))], [(am 6, .inl (E.2.2.2.2.2, 7, .inr (.inr (.inr (.inr kn)))))]]) rfl dX5_text_92 (fun H locs hP hD hS => ?_)
            refine lv_aload_n S.1 S.2.1 dX5_text_95 rfl (lv_at hl 0 rfl) ?_
            refine gf_X5_247 S hK hP 0 0 rfl rfl (show _ = some (Value.int w_87_3) from rfl) dX5_text_96 ?_
            refine lv_if_eq (tgt := 109) S.1 S.2.1 dX5_text_99 (by decide) (fun c_99 => ?_) (fun c_99 => ?_)
            · have hww : w9 = 0 := tx_w hle eY eXX c_99
              have hoki := (hw hww).2
              refine lv_iconst (v := 0) S.1 S.2.1 dX5_text_109 (by decide) ?_
              refine lv_istore_n (lv' := [(1, .int 0), (0, .ref (am 0))]) S.1 S.2.1 dX5_text_110 rfl hl (by decide) rfl (fun ls hl => ?_)
              have L_111 : ∀ (fu : Nat) (k : Nat) (ri : Row), (k ≤ mm) → (mm < k + fu) → (ri = tldN r ti k) → ∀ (H : Heap) (locs : List Loc), PE E [[mObj am (qX (upd q 3 0) (b_87_3, e_87_3, s_87_3, v_87_3, w_87_3) mm pp)], [(am 1, .inl (E.2.1, 77, .inl (sg ri 77)))], [(am 5, .inl (E.2.1, 120, .inl (sg tp 120)))], [(am 7, .inl (E.2.1, 480, .inl (sg ti 480)))], [(am 6, .inl (E.2.2.2.2.2, 7, .inr (.inr (.inr (.inr kn)))))]] H → DE (inB [[mObj am (qX q (bb, ee, ss, vv, ww) mn pt)], [(am 1, .inl (E.2.1, 77, .inl (sg r 77)))], [(am 5, .inl (E.2.1, 120, .inl (sg tp 120)))], [(am 7, .inl (E.2.1, 480, .inl (sg it 480)))], [(am 6, .inl (E.2.2.2.2.2, 7, .inr (.inr (.inr (.inr kn)))))]]) [[mObj am (qX (upd q 3 0) (b_87_3, e_87_3, s_87_3, v_87_3, w_87_3) mm pp)], [(am 1, .inl (E.2.1, 77, .inl (sg ri 77)))], [(am 5, .inl (E.2.1, 120, .inl (sg tp 120)))], [(am 7, .inl (E.2.1, 480, .inl (sg ti 480)))], [(am 6, .inl (E.2.2.2.2.2, 7, .inr (.inr (.inr (.inr kn)))))]] → va_S (inB [[mObj am (qX q (bb, ee, ss, vv, ww) mn pt)], [(am 1, .inl (E.2.1, 77, .inl (sg r 77)))], [(am 5, .inl (E.2.1, 120, .inl (sg tp 120)))], [(am 7, .inl (E.2.1, 480, .inl (sg it 480)))], [(am 6, .inl (E.2.2.2.2.2, 7, .inr (.inr (.inr (.inr kn)))))]]) s.heap H locs → ∀ (ls : Array Slot), lv_has ls 2 [(0, .ref (am 0)), (1, .int (nI k))] → W p l e ({ frames := 8, cells := 0, slots := 0, locals := 176 }) s m ([.ref (am 0)] : List Value).toArray below meth c H locs 0 0 (MQ below (qI E [[mObj am (qX q (bb, ee, ss, vv, ww) mn pt)], [(am 1, .inl (E.2.1, 77, .inl (sg r 77)))], [(am 5, .inl (E.2.1, 120, .inl (sg tp 120)))], [(am 7, .inl (E.2.1, 480, .inl (sg it 480)))], [(am 6, .inl (E.2.2.2.2.2, 7, .inr (.inr (.inr (.inr kn)))))]] [[mObj am (qX (upd q 3 0) (txX tp len n it) ((txY tp len n it).2.1) ((txY tp len n it).2.2.1))], [(am 1, .inl (E.2.1, 77, .inl (sg (txR r tp len n it) 77)))], [(am 5, .inl (E.2.1, 120, .inl (sg tp 120)))], [(am 7, .inl (E.2.1, 480, .inl (sg ((txY tp len n it).2.2.2) 480)))], [(am 6, .inl (E.2.2.2.2.2, 7, .inr (.inr (.inr (.inr kn)))))]] (txA tp len n it)) ([.ref (am 0)] : List Value).toArray s 0 0 (inB [[mObj am (qX q (bb, ee, ss, vv, ww) mn pt)], [(am 1, .inl (E.2.1, 77, .inl (sg r 77)))], [(am 5, .inl (E.2.1, 120, .inl (sg tp 120)))], [(am 7, .inl (E.2.1, 480, .inl (sg it 480)))], [(am 6, .inl (E.2.2.2.2.2, 7, .inr (.inr (.inr (.inr kn)))))]])) (F0 m 111 ls []) := by
                intro fu
                induction fu with
                | zero =>
                  intro k ri hk hf hri
                  omega
                | succ fu ih_111 =>
                  intro k ri hk hf hri H locs hP hD hS ls hl
                  refine lv_iload_n S.1 S.2.1 dX5_text_111 rfl (lv_at hl 1 rfl) ?_
                  have hc1 : ri 1 = nI (cnN ti n k) := by (rw [hri]; exact (tld_ok hR hn hn8 hoki k hk).2)
                  refine lv_aload_n S.1 S.2.1 dX5_text_112 rfl (lv_at hl 0 rfl) ?_
                  refine gf_X5_258 S hK hP 0 0 rfl rfl (show _ = some (Value.int (nI mm)) from rfl) dX5_text_113 ?_
                  refine lv_icmp_ge (tgt := 132) S.1 S.2.1 dX5_text_116 (by decide) (fun c_116 => ?_) (fun c_116 => ?_)
                  · have n_116 := Int32.not_lt.mpr c_116
                    refine lv_aload_n S.1 S.2.1 dX5_text_132 rfl (lv_at hl 0 rfl) ?_
                    refine gf_X5_258 S hK hP 0 0 rfl rfl (show _ = some (Value.int (nI mm)) from rfl) dX5_text_133 ?_
                    exact retI S hr hlk (by rw [txR_yes (by rw [eXX]; exact c_99), eXX, eY]; rw [hri, le_endK hk c_116 (by omega)] at hP; exact hP) hS (by rw [txA, if_pos (by rw [eXX]; exact c_99), eY]) dX5_text_136
                  · have n_116 := Int32.not_le.mp c_116
                    have hkm : k < mm := lt_in c_116 hk
                    have hc8 : cnN ti n k ≤ 8 := by (have z9 := cnN_le (it := ti) (n := n) mm k hk; have y9 := hoki.1; have x9 := hoki.2.1; omega)
                    have hok9 := hoki.2.2 k hkm
                    have ho1 := it_1 hok9
                    have ho2 : ¬ ti (4 * k) = 10 → ¬ ti (4 * k) = 11 → cnN ti n k < 8 := it_2 hoki hkm
                    refine lv_aload_n S.1 S.2.1 dX5_text_119 rfl (lv_at hl 0 rfl) ?_
                    refine lv_iconst (v := 4) S.1 S.2.1 dX5_text_120 (by decide) ?_
                    refine lv_iload_n S.1 S.2.1 dX5_text_121 rfl (lv_at hl 1 rfl) ?_
                    refine lv_imul S.1 S.2.1 dX5_text_122 ?_
                    refine lv_eqi (y := nI (4 * k)) (pk_mul 4 k) ?_
                    refine go_V (run_V (As := [.int (nI (4 * k))]) (rest := []) (n := 1) S hK (bl_P hP [0, 1, 3] rfl) (bl_D hD [0, 1, 3] rfl rfl) (c_X5_isToldSo l E am (qX (upd q 3 0) (b_87_3, e_87_3, s_87_3, v_87_3, w_87_3) mm pp) ri ti (cnN ti n k) k (by omega) hc8 (by omega) ho1 ho2) gV_X5_297 (by decide +kernel) rfl ⟨rfl, rfl⟩ ⟨Nat.le_of_ble_eq_true rfl, Nat.le_of_ble_eq_true rfl⟩ (ci := 5) (q0 := 0) rfl rfl hl.1 (Nat.le_of_ble_eq_true rfl) dX5_text_123 ⟨Nat.zero_le _, Nat.zero_le _⟩) hP hD hS [0, 1, 3] rfl (had_cons rfl (had_cons cell_ad (had_cons rfl rfl))) (Bs' := [[mObj am (qX (upd q 3 0) (b_87_3, e_87_3, s_87_3, v_87_3, w_87_3) mm pp)], [(am 1, .inl (E.2.1, 77, .inl (sg (tldF ri ti k) 77)))], [(am 5, .inl (E.2.1, 120, .inl (sg tp 120)))], [(am 7, .inl (E.2.1, 480, .inl (sg ti 480)))], [(am 6, .inl (E.2.2.2.2.2, 7, .inr (.inr (.inr (.inr kn)))))]]) rfl (fun H locs hP hD hS => ?_)
                    obtain ⟨r_123_4, er_123_4⟩ : ∃ zz9 : Row, zz9 = tldF ri ti k := ⟨_, rfl⟩
                    rw [← er_123_4] at hP hD
                    refine lv_iinc (v := nI (k + 1)) (lv' := [(1, .int (nI (k + 1))), (0, .ref (am 0))]) S.1 S.2.1 dX5_text_126 hl (k := 1) rfl (nI_1 k) (by decide) rfl (fun ls hl => ?_)
                    refine lv_goto (tgt := 111) S.1 S.2.1 dX5_text_129 (by decide) ?_
                    exact ih_111 (k + 1) r_123_4 (by omega) (by omega) (by rw [er_123_4, hri]; rfl) H locs hP hD hS ls (lv_sub hl [1, 0] rfl)
              exact L_111 (mm + 1) 0 r (by omega) (by omega) rfl H locs hP hD hS ls (lv_sub hl [1, 0] rfl)
            · refine lv_iconst (v := (-1)) S.1 S.2.1 dX5_text_102 (by decide) ?_
              refine lv_aload_n S.1 S.2.1 dX5_text_103 rfl (lv_at hl 0 rfl) ?_
              refine gf_X5_228 S hK hP 0 0 rfl rfl (show _ = some (Value.int (nI b_87_3)) from rfl) dX5_text_104 ?_
              refine lv_isub S.1 S.2.1 dX5_text_107 ?_
              exact retI S hr hlk (by rw [txR_no (by rw [eXX]; exact c_99), eXX, eY]; exact hP) hS (by rw [txA, if_neg (by rw [eXX]; exact c_99), eXX]) dX5_text_108
          · refine lv_iconst (v := 1) S.1 S.2.1 dX5_text_82 (by decide) ?_
            refine lv_goto (tgt := 87) S.1 S.2.1 dX5_text_83 (by decide) ?_
            refine go_V (run_V (As := [.int 1]) (rest := []) (n := 1) S hK (bl_P hP [0, 2] rfl) (bl_D hD [0, 2] rfl rfl) (c_X5_must l E am q tp len b e9 v9 mm pp s9 w9 1 hq3 hl9 (hle).2.1) gV_X5_254 (by decide +kernel) rfl ⟨rfl, rfl⟩ ⟨Nat.le_of_ble_eq_true rfl, Nat.le_of_ble_eq_true rfl⟩ (ci := 5) (q0 := 0) rfl rfl hl.1 (Nat.le_of_ble_eq_true rfl) dX5_text_87 ⟨Nat.zero_le _, Nat.zero_le _⟩) hP hD hS [0, 2] rfl (had_cons mo_ad (had_cons rfl rfl)) (Bs' := [[mObj am (qX q (mstF tp len (b, e9, s9, v9, w9) 1) mm pp)], [(am 1, .inl (E.2.1, 77, .inl (sg r 77)))], [(am 5, .inl (E.2.1, 120, .inl (sg tp 120)))], [(am 7, .inl (E.2.1, 480, .inl (sg ti 480)))], [(am 6, .inl (E.2.2.2.2.2, 7, .inr (.inr (.inr (.inr kn)))))]]) rfl (fun H locs hP hD hS => ?_)
            obtain ⟨⟨b_87_5, e_87_5, s_87_5, v_87_5, w_87_5⟩, eX_87_5⟩ : ∃ zz9 : Xs, zz9 = mstF tp len (b, e9, s9, v9, w9) 1 := ⟨_, rfl⟩
            rw [← eX_87_5] at hP hD
            have hle_87_5 := mst_I eX_87_5 hle
            have eXX : txX tp len n it = (b_87_5, e_87_5, s_87_5, v_87_5, w_87_5) := by (unfold txX; rw [eY]; show mstF tp len (b, e9, s9, v9, w9) (bI (s9 = 0)) = _; rw [bI, if_pos c_79]; exact eX_87_5.symm)
            refine lv_aload_n S.1 S.2.1 dX5_text_90 rfl (lv_at hl 0 rfl) ?_
            refine lv_iconst (v := 0) S.1 S.2.1 dX5_text_91 (by decide) ?_
            refine pf_X5_222 S hK hP hD hS 0 0 rfl rfl (Nat.le_of_ble_eq_true rfl) (mo_3.trans (congrArg (fun z => ([mObj am z] : va_W)) qX_3)) (Bs1 := [[mObj am (qX (upd q 3 0) (b_87_5, e_87_5, s_87_5, v_87_5, w_87_5) mm pp)], [(am 1, .inl (E.2.1, 77, .inl (sg r 77)))], [(am 5, .inl (E.2.1, 120, .inl (sg tp 120)))], [(am 7, .inl (E.2.1, 480, .inl (sg ti 480)))], [(am 6, .inl (E.2.2.2.2.2, 7, .inr (.inr (.inr (.inr kn)))))]]) rfl dX5_text_92 (fun H locs hP hD hS => ?_)
            refine lv_aload_n S.1 S.2.1 dX5_text_95 rfl (lv_at hl 0 rfl) ?_
            refine gf_X5_247 S hK hP 0 0 rfl rfl (show _ = some (Value.int w_87_5) from rfl) dX5_text_96 ?_
            refine lv_if_eq (tgt := 109) S.1 S.2.1 dX5_text_99 (by decide) (fun c_99 => ?_) (fun c_99 => ?_)
            · have hww : w9 = 0 := tx_w hle eY eXX c_99
              have hoki := (hw hww).2
              refine lv_iconst (v := 0) S.1 S.2.1 dX5_text_109 (by decide) ?_
              refine lv_istore_n (lv' := [(1, .int 0), (0, .ref (am 0))]) S.1 S.2.1 dX5_text_110 rfl hl (by decide) rfl (fun ls hl => ?_)
              have L_111 : ∀ (fu : Nat) (k : Nat) (ri : Row), (k ≤ mm) → (mm < k + fu) → (ri = tldN r ti k) → ∀ (H : Heap) (locs : List Loc), PE E [[mObj am (qX (upd q 3 0) (b_87_5, e_87_5, s_87_5, v_87_5, w_87_5) mm pp)], [(am 1, .inl (E.2.1, 77, .inl (sg ri 77)))], [(am 5, .inl (E.2.1, 120, .inl (sg tp 120)))], [(am 7, .inl (E.2.1, 480, .inl (sg ti 480)))], [(am 6, .inl (E.2.2.2.2.2, 7, .inr (.inr (.inr (.inr kn)))))]] H → DE (inB [[mObj am (qX q (bb, ee, ss, vv, ww) mn pt)], [(am 1, .inl (E.2.1, 77, .inl (sg r 77)))], [(am 5, .inl (E.2.1, 120, .inl (sg tp 120)))], [(am 7, .inl (E.2.1, 480, .inl (sg it 480)))], [(am 6, .inl (E.2.2.2.2.2, 7, .inr (.inr (.inr (.inr kn)))))]]) [[mObj am (qX (upd q 3 0) (b_87_5, e_87_5, s_87_5, v_87_5, w_87_5) mm pp)], [(am 1, .inl (E.2.1, 77, .inl (sg ri 77)))], [(am 5, .inl (E.2.1, 120, .inl (sg tp 120)))], [(am 7, .inl (E.2.1, 480, .inl (sg ti 480)))], [(am 6, .inl (E.2.2.2.2.2, 7, .inr (.inr (.inr (.inr kn)))))]] → va_S (inB [[mObj am (qX q (bb, ee, ss, vv, ww) mn pt)], [(am 1, .inl (E.2.1, 77, .inl (sg r 77)))], [(am 5, .inl (E.2.1, 120, .inl (sg tp 120)))], [(am 7, .inl (E.2.1, 480, .inl (sg it 480)))], [(am 6, .inl (E.2.2.2.2.2, 7, .inr (.inr (.inr (.inr kn)))))]]) s.heap H locs → ∀ (ls : Array Slot), lv_has ls 2 [(0, .ref (am 0)), (1, .int (nI k))] → W p l e ({ frames := 8, cells := 0, slots := 0, locals := 176 }) s m ([.ref (am 0)] : List Value).toArray below meth c H locs 0 0 (MQ below (qI E [[mObj am (qX q (bb, ee, ss, vv, ww) mn pt)], [(am 1, .inl (E.2.1, 77, .inl (sg r 77)))], [(am 5, .inl (E.2.1, 120, .inl (sg tp 120)))], [(am 7, .inl (E.2.1, 480, .inl (sg it 480)))], [(am 6, .inl (E.2.2.2.2.2, 7, .inr (.inr (.inr (.inr kn)))))]] [[mObj am (qX (upd q 3 0) (txX tp len n it) ((txY tp len n it).2.1) ((txY tp len n it).2.2.1))], [(am 1, .inl (E.2.1, 77, .inl (sg (txR r tp len n it) 77)))], [(am 5, .inl (E.2.1, 120, .inl (sg tp 120)))], [(am 7, .inl (E.2.1, 480, .inl (sg ((txY tp len n it).2.2.2) 480)))], [(am 6, .inl (E.2.2.2.2.2, 7, .inr (.inr (.inr (.inr kn)))))]] (txA tp len n it)) ([.ref (am 0)] : List Value).toArray s 0 0 (inB [[mObj am (qX q (bb, ee, ss, vv, ww) mn pt)], [(am 1, .inl (E.2.1, 77, .inl (sg r 77)))], [(am 5, .inl (E.2.1, 120, .inl (sg tp 120)))], [(am 7, .inl (E.2.1, 480, .inl (sg it 480)))], [(am 6, .inl (E.2.2.2.2.2, 7, .inr (.inr (.inr (.inr kn)))))]])) (F0 m 111 ls []) := by
                intro fu
                induction fu with
                | zero =>
                  intro k ri hk hf hri
                  omega
                | succ fu ih_111 =>
                  intro k ri hk hf hri H locs hP hD hS ls hl
                  refine lv_iload_n S.1 S.2.1 dX5_text_111 rfl (lv_at hl 1 rfl) ?_
                  have hc1 : ri 1 = nI (cnN ti n k) := by (rw [hri]; exact (tld_ok hR hn hn8 hoki k hk).2)
                  refine lv_aload_n S.1 S.2.1 dX5_text_112 rfl (lv_at hl 0 rfl) ?_
                  refine gf_X5_258 S hK hP 0 0 rfl rfl (show _ = some (Value.int (nI mm)) from rfl) dX5_text_113 ?_
                  refine lv_icmp_ge (tgt := 132) S.1 S.2.1 dX5_text_116 (by decide) (fun c_116 => ?_) (fun c_116 => ?_)
                  · have n_116 := Int32.not_lt.mpr c_116
                    refine lv_aload_n S.1 S.2.1 dX5_text_132 rfl (lv_at hl 0 rfl) ?_
                    refine gf_X5_258 S hK hP 0 0 rfl rfl (show _ = some (Value.int (nI mm)) from rfl) dX5_text_133 ?_
                    exact retI S hr hlk (by rw [txR_yes (by rw [eXX]; exact c_99), eXX, eY]; rw [hri, le_endK hk c_116 (by omega)] at hP; exact hP) hS (by rw [txA, if_pos (by rw [eXX]; exact c_99), eY]) dX5_text_136
                  · have n_116 := Int32.not_le.mp c_116
                    have hkm : k < mm := lt_in c_116 hk
                    have hc8 : cnN ti n k ≤ 8 := by (have z9 := cnN_le (it := ti) (n := n) mm k hk; have y9 := hoki.1; have x9 := hoki.2.1; omega)
                    have hok9 := hoki.2.2 k hkm
                    have ho1 := it_1 hok9
                    have ho2 : ¬ ti (4 * k) = 10 → ¬ ti (4 * k) = 11 → cnN ti n k < 8 := it_2 hoki hkm
                    refine lv_aload_n S.1 S.2.1 dX5_text_119 rfl (lv_at hl 0 rfl) ?_
                    refine lv_iconst (v := 4) S.1 S.2.1 dX5_text_120 (by decide) ?_
                    refine lv_iload_n S.1 S.2.1 dX5_text_121 rfl (lv_at hl 1 rfl) ?_
                    refine lv_imul S.1 S.2.1 dX5_text_122 ?_
                    refine lv_eqi (y := nI (4 * k)) (pk_mul 4 k) ?_
                    refine go_V (run_V (As := [.int (nI (4 * k))]) (rest := []) (n := 1) S hK (bl_P hP [0, 1, 3] rfl) (bl_D hD [0, 1, 3] rfl rfl) (c_X5_isToldSo l E am (qX (upd q 3 0) (b_87_5, e_87_5, s_87_5, v_87_5, w_87_5) mm pp) ri ti (cnN ti n k) k (by omega) hc8 (by omega) ho1 ho2) gV_X5_297 (by decide +kernel) rfl ⟨rfl, rfl⟩ ⟨Nat.le_of_ble_eq_true rfl, Nat.le_of_ble_eq_true rfl⟩ (ci := 5) (q0 := 0) rfl rfl hl.1 (Nat.le_of_ble_eq_true rfl) dX5_text_123 ⟨Nat.zero_le _, Nat.zero_le _⟩) hP hD hS [0, 1, 3] rfl (had_cons rfl (had_cons cell_ad (had_cons rfl rfl))) (Bs' := [[mObj am (qX (upd q 3 0) (b_87_5, e_87_5, s_87_5, v_87_5, w_87_5) mm pp)], [(am 1, .inl (E.2.1, 77, .inl (sg (tldF ri ti k) 77)))], [(am 5, .inl (E.2.1, 120, .inl (sg tp 120)))], [(am 7, .inl (E.2.1, 480, .inl (sg ti 480)))], [(am 6, .inl (E.2.2.2.2.2, 7, .inr (.inr (.inr (.inr kn)))))]]) rfl (fun H locs hP hD hS => ?_)
                    obtain ⟨r_123_6, er_123_6⟩ : ∃ zz9 : Row, zz9 = tldF ri ti k := ⟨_, rfl⟩
                    rw [← er_123_6] at hP hD
                    refine lv_iinc (v := nI (k + 1)) (lv' := [(1, .int (nI (k + 1))), (0, .ref (am 0))]) S.1 S.2.1 dX5_text_126 hl (k := 1) rfl (nI_1 k) (by decide) rfl (fun ls hl => ?_)
                    refine lv_goto (tgt := 111) S.1 S.2.1 dX5_text_129 (by decide) ?_
                    exact ih_111 (k + 1) r_123_6 (by omega) (by omega) (by rw [er_123_6, hri]; rfl) H locs hP hD hS ls (lv_sub hl [1, 0] rfl)
              exact L_111 (mm + 1) 0 r (by omega) (by omega) rfl H locs hP hD hS ls (lv_sub hl [1, 0] rfl)
            · refine lv_iconst (v := (-1)) S.1 S.2.1 dX5_text_102 (by decide) ?_
              refine lv_aload_n S.1 S.2.1 dX5_text_103 rfl (lv_at hl 0 rfl) ?_
              refine gf_X5_228 S hK hP 0 0 rfl rfl (show _ = some (Value.int (nI b_87_5)) from rfl) dX5_text_104 ?_
              refine lv_isub S.1 S.2.1 dX5_text_107 ?_
              exact retI S hr hlk (by rw [txR_no (by rw [eXX]; exact c_99), eXX, eY]; exact hP) hS (by rw [txA, if_neg (by rw [eXX]; exact c_99), eXX]) dX5_text_108
        · have hin9 : b < 120 := by (have z9 : b < e9 := hle.2.2.1 (show ¬ s9 = 0 by rw [c_45]; decide); have y9 : e9 ≤ len := hle.2.1; omega)
          refine lv_aload_n S.1 S.2.1 dX5_text_48 rfl (lv_at hl 0 rfl) ?_
          refine gf_X5_22 S hK hP 0 0 rfl rfl rfl dX5_text_49 ?_
          refine lv_aload_n S.1 S.2.1 dX5_text_52 rfl (lv_at hl 0 rfl) ?_
          refine gf_X5_228 S hK hP 0 0 rfl rfl (show _ = some (Value.int (nI b)) from rfl) dX5_text_53 ?_
          refine b_ialdN (i := b) S hK hP 2 0 rfl rfl (by omega) (by decide) dX5_text_56 ?_
          refine lv_eqi (y := tp b) (sg_at (by omega)) ?_
          refine lv_bipush (v := 59) S.1 S.2.1 dX5_text_57 (by decide) ?_
          refine lv_icmp_ne (tgt := 74) S.1 S.2.1 dX5_text_59 (by decide) (fun c_59 => ?_) (fun c_59 => ?_)
          · have eY : txY tp len n it = ((b, e9, s9, v9, w9), mm, pp, ti) := hZ.trans (lp_no (fun z9 => c_59 z9.2.2))
            refine lv_aload_n S.1 S.2.1 dX5_text_74 rfl (lv_at hl 0 rfl) ?_
            refine lv_aload_n S.1 S.2.1 dX5_text_75 rfl (lv_at hl 0 rfl) ?_
            refine gf_X5_237 S hK hP 0 0 rfl rfl (show _ = some (Value.int s9) from rfl) dX5_text_76 ?_
            refine lv_if_ne (tgt := 86) S.1 S.2.1 dX5_text_79 (by decide) (fun c_79 => ?_) (fun c_79 => ?_)
            · refine lv_iconst (v := 0) S.1 S.2.1 dX5_text_86 (by decide) ?_
              refine go_V (run_V (As := [.int 0]) (rest := []) (n := 1) S hK (bl_P hP [0, 2] rfl) (bl_D hD [0, 2] rfl rfl) (c_X5_must l E am q tp len b e9 v9 mm pp s9 w9 0 hq3 hl9 (hle).2.1) gV_X5_254 (by decide +kernel) rfl ⟨rfl, rfl⟩ ⟨Nat.le_of_ble_eq_true rfl, Nat.le_of_ble_eq_true rfl⟩ (ci := 5) (q0 := 0) rfl rfl hl.1 (Nat.le_of_ble_eq_true rfl) dX5_text_87 ⟨Nat.zero_le _, Nat.zero_le _⟩) hP hD hS [0, 2] rfl (had_cons mo_ad (had_cons rfl rfl)) (Bs' := [[mObj am (qX q (mstF tp len (b, e9, s9, v9, w9) 0) mm pp)], [(am 1, .inl (E.2.1, 77, .inl (sg r 77)))], [(am 5, .inl (E.2.1, 120, .inl (sg tp 120)))], [(am 7, .inl (E.2.1, 480, .inl (sg ti 480)))], [(am 6, .inl (E.2.2.2.2.2, 7, .inr (.inr (.inr (.inr kn)))))]]) rfl (fun H locs hP hD hS => ?_)
              obtain ⟨⟨b_87_7, e_87_7, s_87_7, v_87_7, w_87_7⟩, eX_87_7⟩ : ∃ zz9 : Xs, zz9 = mstF tp len (b, e9, s9, v9, w9) 0 := ⟨_, rfl⟩
              rw [← eX_87_7] at hP hD
              have hle_87_7 := mst_I eX_87_7 hle
              have eXX : txX tp len n it = (b_87_7, e_87_7, s_87_7, v_87_7, w_87_7) := by (unfold txX; rw [eY]; show mstF tp len (b, e9, s9, v9, w9) (bI (s9 = 0)) = _; rw [bI, if_neg c_79]; exact eX_87_7.symm)
              refine lv_aload_n S.1 S.2.1 dX5_text_90 rfl (lv_at hl 0 rfl) ?_
              refine lv_iconst (v := 0) S.1 S.2.1 dX5_text_91 (by decide) ?_
              refine pf_X5_222 S hK hP hD hS 0 0 rfl rfl (Nat.le_of_ble_eq_true rfl) (mo_3.trans (congrArg (fun z => ([mObj am z] : va_W)) qX_3)) (Bs1 := [[mObj am (qX (upd q 3 0) (b_87_7, e_87_7, s_87_7, v_87_7, w_87_7) mm pp)], [(am 1, .inl (E.2.1, 77, .inl (sg r 77)))], [(am 5, .inl (E.2.1, 120, .inl (sg tp 120)))], [(am 7, .inl (E.2.1, 480, .inl (sg ti 480)))], [(am 6, .inl (E.2.2.2.2.2, 7, .inr (.inr (.inr (.inr kn)))))]]) rfl dX5_text_92 (fun H locs hP hD hS => ?_)
              refine lv_aload_n S.1 S.2.1 dX5_text_95 rfl (lv_at hl 0 rfl) ?_
              refine gf_X5_247 S hK hP 0 0 rfl rfl (show _ = some (Value.int w_87_7) from rfl) dX5_text_96 ?_
              refine lv_if_eq (tgt := 109) S.1 S.2.1 dX5_text_99 (by decide) (fun c_99 => ?_) (fun c_99 => ?_)
              · have hww : w9 = 0 := tx_w hle eY eXX c_99
                have hoki := (hw hww).2
                refine lv_iconst (v := 0) S.1 S.2.1 dX5_text_109 (by decide) ?_
                refine lv_istore_n (lv' := [(1, .int 0), (0, .ref (am 0))]) S.1 S.2.1 dX5_text_110 rfl hl (by decide) rfl (fun ls hl => ?_)
                have L_111 : ∀ (fu : Nat) (k : Nat) (ri : Row), (k ≤ mm) → (mm < k + fu) → (ri = tldN r ti k) → ∀ (H : Heap) (locs : List Loc), PE E [[mObj am (qX (upd q 3 0) (b_87_7, e_87_7, s_87_7, v_87_7, w_87_7) mm pp)], [(am 1, .inl (E.2.1, 77, .inl (sg ri 77)))], [(am 5, .inl (E.2.1, 120, .inl (sg tp 120)))], [(am 7, .inl (E.2.1, 480, .inl (sg ti 480)))], [(am 6, .inl (E.2.2.2.2.2, 7, .inr (.inr (.inr (.inr kn)))))]] H → DE (inB [[mObj am (qX q (bb, ee, ss, vv, ww) mn pt)], [(am 1, .inl (E.2.1, 77, .inl (sg r 77)))], [(am 5, .inl (E.2.1, 120, .inl (sg tp 120)))], [(am 7, .inl (E.2.1, 480, .inl (sg it 480)))], [(am 6, .inl (E.2.2.2.2.2, 7, .inr (.inr (.inr (.inr kn)))))]]) [[mObj am (qX (upd q 3 0) (b_87_7, e_87_7, s_87_7, v_87_7, w_87_7) mm pp)], [(am 1, .inl (E.2.1, 77, .inl (sg ri 77)))], [(am 5, .inl (E.2.1, 120, .inl (sg tp 120)))], [(am 7, .inl (E.2.1, 480, .inl (sg ti 480)))], [(am 6, .inl (E.2.2.2.2.2, 7, .inr (.inr (.inr (.inr kn)))))]] → va_S (inB [[mObj am (qX q (bb, ee, ss, vv, ww) mn pt)], [(am 1, .inl (E.2.1, 77, .inl (sg r 77)))], [(am 5, .inl (E.2.1, 120, .inl (sg tp 120)))], [(am 7, .inl (E.2.1, 480, .inl (sg it 480)))], [(am 6, .inl (E.2.2.2.2.2, 7, .inr (.inr (.inr (.inr kn)))))]]) s.heap H locs → ∀ (ls : Array Slot), lv_has ls 2 [(0, .ref (am 0)), (1, .int (nI k))] → W p l e ({ frames := 8, cells := 0, slots := 0, locals := 176 }) s m ([.ref (am 0)] : List Value).toArray below meth c H locs 0 0 (MQ below (qI E [[mObj am (qX q (bb, ee, ss, vv, ww) mn pt)], [(am 1, .inl (E.2.1, 77, .inl (sg r 77)))], [(am 5, .inl (E.2.1, 120, .inl (sg tp 120)))], [(am 7, .inl (E.2.1, 480, .inl (sg it 480)))], [(am 6, .inl (E.2.2.2.2.2, 7, .inr (.inr (.inr (.inr kn)))))]] [[mObj am (qX (upd q 3 0) (txX tp len n it) ((txY tp len n it).2.1) ((txY tp len n it).2.2.1))], [(am 1, .inl (E.2.1, 77, .inl (sg (txR r tp len n it) 77)))], [(am 5, .inl (E.2.1, 120, .inl (sg tp 120)))], [(am 7, .inl (E.2.1, 480, .inl (sg ((txY tp len n it).2.2.2) 480)))], [(am 6, .inl (E.2.2.2.2.2, 7, .inr (.inr (.inr (.inr kn)))))]] (txA tp len n it)) ([.ref (am 0)] : List Value).toArray s 0 0 (inB [[mObj am (qX q (bb, ee, ss, vv, ww) mn pt)], [(am 1, .inl (E.2.1, 77, .inl (sg r 77)))], [(am 5, .inl (E.2.1, 120, .inl (sg tp 120)))], [(am 7, .inl (E.2.1, 480, .inl (sg it 480)))], [(am 6, .inl (E.2.2.2.2.2, 7, .inr (.inr (.inr (.inr kn)))))]])) (F0 m 111 ls []) := by
                  intro fu
                  induction fu with
                  | zero =>
                    intro k ri hk hf hri
                    omega
                  | succ fu ih_111 =>
                    intro k ri hk hf hri H locs hP hD hS ls hl
                    refine lv_iload_n S.1 S.2.1 dX5_text_111 rfl (lv_at hl 1 rfl) ?_
                    have hc1 : ri 1 = nI (cnN ti n k) := by (rw [hri]; exact (tld_ok hR hn hn8 hoki k hk).2)
                    refine lv_aload_n S.1 S.2.1 dX5_text_112 rfl (lv_at hl 0 rfl) ?_
                    refine gf_X5_258 S hK hP 0 0 rfl rfl (show _ = some (Value.int (nI mm)) from rfl) dX5_text_113 ?_
                    refine lv_icmp_ge (tgt := 132) S.1 S.2.1 dX5_text_116 (by decide) (fun c_116 => ?_) (fun c_116 => ?_)
                    · have n_116 := Int32.not_lt.mpr c_116
                      refine lv_aload_n S.1 S.2.1 dX5_text_132 rfl (lv_at hl 0 rfl) ?_
                      refine gf_X5_258 S hK hP 0 0 rfl rfl (show _ = some (Value.int (nI mm)) from rfl) dX5_text_133 ?_
                      exact retI S hr hlk (by rw [txR_yes (by rw [eXX]; exact c_99), eXX, eY]; rw [hri, le_endK hk c_116 (by omega)] at hP; exact hP) hS (by rw [txA, if_pos (by rw [eXX]; exact c_99), eY]) dX5_text_136
                    · have n_116 := Int32.not_le.mp c_116
                      have hkm : k < mm := lt_in c_116 hk
                      have hc8 : cnN ti n k ≤ 8 := by (have z9 := cnN_le (it := ti) (n := n) mm k hk; have y9 := hoki.1; have x9 := hoki.2.1; omega)
                      have hok9 := hoki.2.2 k hkm
                      have ho1 := it_1 hok9
                      have ho2 : ¬ ti (4 * k) = 10 → ¬ ti (4 * k) = 11 → cnN ti n k < 8 := it_2 hoki hkm
                      refine lv_aload_n S.1 S.2.1 dX5_text_119 rfl (lv_at hl 0 rfl) ?_
                      refine lv_iconst (v := 4) S.1 S.2.1 dX5_text_120 (by decide) ?_
                      refine lv_iload_n S.1 S.2.1 dX5_text_121 rfl (lv_at hl 1 rfl) ?_
                      refine lv_imul S.1 S.2.1 dX5_text_122 ?_
                      refine lv_eqi (y := nI (4 * k)) (pk_mul 4 k) ?_
                      refine go_V (run_V (As := [.int (nI (4 * k))]) (rest := []) (n := 1) S hK (bl_P hP [0, 1, 3] rfl) (bl_D hD [0, 1, 3] rfl rfl) (c_X5_isToldSo l E am (qX (upd q 3 0) (b_87_7, e_87_7, s_87_7, v_87_7, w_87_7) mm pp) ri ti (cnN ti n k) k (by omega) hc8 (by omega) ho1 ho2) gV_X5_297 (by decide +kernel) rfl ⟨rfl, rfl⟩ ⟨Nat.le_of_ble_eq_true rfl, Nat.le_of_ble_eq_true rfl⟩ (ci := 5) (q0 := 0) rfl rfl hl.1 (Nat.le_of_ble_eq_true rfl) dX5_text_123 ⟨Nat.zero_le _, Nat.zero_le _⟩) hP hD hS [0, 1, 3] rfl (had_cons rfl (had_cons cell_ad (had_cons rfl rfl))) (Bs' := [[mObj am (qX (upd q 3 0) (b_87_7, e_87_7, s_87_7, v_87_7, w_87_7) mm pp)], [(am 1, .inl (E.2.1, 77, .inl (sg (tldF ri ti k) 77)))], [(am 5, .inl (E.2.1, 120, .inl (sg tp 120)))], [(am 7, .inl (E.2.1, 480, .inl (sg ti 480)))], [(am 6, .inl (E.2.2.2.2.2, 7, .inr (.inr (.inr (.inr kn)))))]]) rfl (fun H locs hP hD hS => ?_)
                      obtain ⟨r_123_8, er_123_8⟩ : ∃ zz9 : Row, zz9 = tldF ri ti k := ⟨_, rfl⟩
                      rw [← er_123_8] at hP hD
                      refine lv_iinc (v := nI (k + 1)) (lv' := [(1, .int (nI (k + 1))), (0, .ref (am 0))]) S.1 S.2.1 dX5_text_126 hl (k := 1) rfl (nI_1 k) (by decide) rfl (fun ls hl => ?_)
                      refine lv_goto (tgt := 111) S.1 S.2.1 dX5_text_129 (by decide) ?_
                      exact ih_111 (k + 1) r_123_8 (by omega) (by omega) (by rw [er_123_8, hri]; rfl) H locs hP hD hS ls (lv_sub hl [1, 0] rfl)
                exact L_111 (mm + 1) 0 r (by omega) (by omega) rfl H locs hP hD hS ls (lv_sub hl [1, 0] rfl)
              · refine lv_iconst (v := (-1)) S.1 S.2.1 dX5_text_102 (by decide) ?_
                refine lv_aload_n S.1 S.2.1 dX5_text_103 rfl (lv_at hl 0 rfl) ?_
                refine gf_X5_228 S hK hP 0 0 rfl rfl (show _ = some (Value.int (nI b_87_7)) from rfl) dX5_text_104 ?_
                refine lv_isub S.1 S.2.1 dX5_text_107 ?_
                exact retI S hr hlk (by rw [txR_no (by rw [eXX]; exact c_99), eXX, eY]; exact hP) hS (by rw [txA, if_neg (by rw [eXX]; exact c_99), eXX]) dX5_text_108
            · refine lv_iconst (v := 1) S.1 S.2.1 dX5_text_82 (by decide) ?_
              refine lv_goto (tgt := 87) S.1 S.2.1 dX5_text_83 (by decide) ?_
              refine go_V (run_V (As := [.int 1]) (rest := []) (n := 1) S hK (bl_P hP [0, 2] rfl) (bl_D hD [0, 2] rfl rfl) (c_X5_must l E am q tp len b e9 v9 mm pp s9 w9 1 hq3 hl9 (hle).2.1) gV_X5_254 (by decide +kernel) rfl ⟨rfl, rfl⟩ ⟨Nat.le_of_ble_eq_true rfl, Nat.le_of_ble_eq_true rfl⟩ (ci := 5) (q0 := 0) rfl rfl hl.1 (Nat.le_of_ble_eq_true rfl) dX5_text_87 ⟨Nat.zero_le _, Nat.zero_le _⟩) hP hD hS [0, 2] rfl (had_cons mo_ad (had_cons rfl rfl)) (Bs' := [[mObj am (qX q (mstF tp len (b, e9, s9, v9, w9) 1) mm pp)], [(am 1, .inl (E.2.1, 77, .inl (sg r 77)))], [(am 5, .inl (E.2.1, 120, .inl (sg tp 120)))], [(am 7, .inl (E.2.1, 480, .inl (sg ti 480)))], [(am 6, .inl (E.2.2.2.2.2, 7, .inr (.inr (.inr (.inr kn)))))]]) rfl (fun H locs hP hD hS => ?_)
              obtain ⟨⟨b_87_9, e_87_9, s_87_9, v_87_9, w_87_9⟩, eX_87_9⟩ : ∃ zz9 : Xs, zz9 = mstF tp len (b, e9, s9, v9, w9) 1 := ⟨_, rfl⟩
              rw [← eX_87_9] at hP hD
              have hle_87_9 := mst_I eX_87_9 hle
              have eXX : txX tp len n it = (b_87_9, e_87_9, s_87_9, v_87_9, w_87_9) := by (unfold txX; rw [eY]; show mstF tp len (b, e9, s9, v9, w9) (bI (s9 = 0)) = _; rw [bI, if_pos c_79]; exact eX_87_9.symm)
              refine lv_aload_n S.1 S.2.1 dX5_text_90 rfl (lv_at hl 0 rfl) ?_
              refine lv_iconst (v := 0) S.1 S.2.1 dX5_text_91 (by decide) ?_
              refine pf_X5_222 S hK hP hD hS 0 0 rfl rfl (Nat.le_of_ble_eq_true rfl) (mo_3.trans (congrArg (fun z => ([mObj am z] : va_W)) qX_3)) (Bs1 := [[mObj am (qX (upd q 3 0) (b_87_9, e_87_9, s_87_9, v_87_9, w_87_9) mm pp)], [(am 1, .inl (E.2.1, 77, .inl (sg r 77)))], [(am 5, .inl (E.2.1, 120, .inl (sg tp 120)))], [(am 7, .inl (E.2.1, 480, .inl (sg ti 480)))], [(am 6, .inl (E.2.2.2.2.2, 7, .inr (.inr (.inr (.inr kn)))))]]) rfl dX5_text_92 (fun H locs hP hD hS => ?_)
              refine lv_aload_n S.1 S.2.1 dX5_text_95 rfl (lv_at hl 0 rfl) ?_
              refine gf_X5_247 S hK hP 0 0 rfl rfl (show _ = some (Value.int w_87_9) from rfl) dX5_text_96 ?_
              refine lv_if_eq (tgt := 109) S.1 S.2.1 dX5_text_99 (by decide) (fun c_99 => ?_) (fun c_99 => ?_)
              · have hww : w9 = 0 := tx_w hle eY eXX c_99
                have hoki := (hw hww).2
                refine lv_iconst (v := 0) S.1 S.2.1 dX5_text_109 (by decide) ?_
                refine lv_istore_n (lv' := [(1, .int 0), (0, .ref (am 0))]) S.1 S.2.1 dX5_text_110 rfl hl (by decide) rfl (fun ls hl => ?_)
                have L_111 : ∀ (fu : Nat) (k : Nat) (ri : Row), (k ≤ mm) → (mm < k + fu) → (ri = tldN r ti k) → ∀ (H : Heap) (locs : List Loc), PE E [[mObj am (qX (upd q 3 0) (b_87_9, e_87_9, s_87_9, v_87_9, w_87_9) mm pp)], [(am 1, .inl (E.2.1, 77, .inl (sg ri 77)))], [(am 5, .inl (E.2.1, 120, .inl (sg tp 120)))], [(am 7, .inl (E.2.1, 480, .inl (sg ti 480)))], [(am 6, .inl (E.2.2.2.2.2, 7, .inr (.inr (.inr (.inr kn)))))]] H → DE (inB [[mObj am (qX q (bb, ee, ss, vv, ww) mn pt)], [(am 1, .inl (E.2.1, 77, .inl (sg r 77)))], [(am 5, .inl (E.2.1, 120, .inl (sg tp 120)))], [(am 7, .inl (E.2.1, 480, .inl (sg it 480)))], [(am 6, .inl (E.2.2.2.2.2, 7, .inr (.inr (.inr (.inr kn)))))]]) [[mObj am (qX (upd q 3 0) (b_87_9, e_87_9, s_87_9, v_87_9, w_87_9) mm pp)], [(am 1, .inl (E.2.1, 77, .inl (sg ri 77)))], [(am 5, .inl (E.2.1, 120, .inl (sg tp 120)))], [(am 7, .inl (E.2.1, 480, .inl (sg ti 480)))], [(am 6, .inl (E.2.2.2.2.2, 7, .inr (.inr (.inr (.inr kn)))))]] → va_S (inB [[mObj am (qX q (bb, ee, ss, vv, ww) mn pt)], [(am 1, .inl (E.2.1, 77, .inl (sg r 77)))], [(am 5, .inl (E.2.1, 120, .inl (sg tp 120)))], [(am 7, .inl (E.2.1, 480, .inl (sg it 480)))], [(am 6, .inl (E.2.2.2.2.2, 7, .inr (.inr (.inr (.inr kn)))))]]) s.heap H locs → ∀ (ls : Array Slot), lv_has ls 2 [(0, .ref (am 0)), (1, .int (nI k))] → W p l e ({ frames := 8, cells := 0, slots := 0, locals := 176 }) s m ([.ref (am 0)] : List Value).toArray below meth c H locs 0 0 (MQ below (qI E [[mObj am (qX q (bb, ee, ss, vv, ww) mn pt)], [(am 1, .inl (E.2.1, 77, .inl (sg r 77)))], [(am 5, .inl (E.2.1, 120, .inl (sg tp 120)))], [(am 7, .inl (E.2.1, 480, .inl (sg it 480)))], [(am 6, .inl (E.2.2.2.2.2, 7, .inr (.inr (.inr (.inr kn)))))]] [[mObj am (qX (upd q 3 0) (txX tp len n it) ((txY tp len n it).2.1) ((txY tp len n it).2.2.1))], [(am 1, .inl (E.2.1, 77, .inl (sg (txR r tp len n it) 77)))], [(am 5, .inl (E.2.1, 120, .inl (sg tp 120)))], [(am 7, .inl (E.2.1, 480, .inl (sg ((txY tp len n it).2.2.2) 480)))], [(am 6, .inl (E.2.2.2.2.2, 7, .inr (.inr (.inr (.inr kn)))))]] (txA tp len n it)) ([.ref (am 0)] : List Value).toArray s 0 0 (inB [[mObj am (qX q (bb, ee, ss, vv, ww) mn pt)], [(am 1, .inl (E.2.1, 77, .inl (sg r 77)))], [(am 5, .inl (E.2.1, 120, .inl (sg tp 120)))], [(am 7, .inl (E.2.1, 480, .inl (sg it 480)))], [(am 6, .inl (E.2.2.2.2.2, 7, .inr (.inr (.inr (.inr kn)))))]])) (F0 m 111 ls []) := by
                  intro fu
                  induction fu with
                  | zero =>
                    intro k ri hk hf hri
                    omega
                  | succ fu ih_111 =>
                    intro k ri hk hf hri H locs hP hD hS ls hl
                    refine lv_iload_n S.1 S.2.1 dX5_text_111 rfl (lv_at hl 1 rfl) ?_
                    have hc1 : ri 1 = nI (cnN ti n k) := by (rw [hri]; exact (tld_ok hR hn hn8 hoki k hk).2)
                    refine lv_aload_n S.1 S.2.1 dX5_text_112 rfl (lv_at hl 0 rfl) ?_
                    refine gf_X5_258 S hK hP 0 0 rfl rfl (show _ = some (Value.int (nI mm)) from rfl) dX5_text_113 ?_
                    refine lv_icmp_ge (tgt := 132) S.1 S.2.1 dX5_text_116 (by decide) (fun c_116 => ?_) (fun c_116 => ?_)
                    · have n_116 := Int32.not_lt.mpr c_116
                      refine lv_aload_n S.1 S.2.1 dX5_text_132 rfl (lv_at hl 0 rfl) ?_
                      refine gf_X5_258 S hK hP 0 0 rfl rfl (show _ = some (Value.int (nI mm)) from rfl) dX5_text_133 ?_
                      exact retI S hr hlk (by rw [txR_yes (by rw [eXX]; exact c_99), eXX, eY]; rw [hri, le_endK hk c_116 (by omega)] at hP; exact hP) hS (by rw [txA, if_pos (by rw [eXX]; exact c_99), eY]) dX5_text_136
                    · have n_116 := Int32.not_le.mp c_116
                      have hkm : k < mm := lt_in c_116 hk
                      have hc8 : cnN ti n k ≤ 8 := by (have z9 := cnN_le (it := ti) (n := n) mm k hk; have y9 := hoki.1; have x9 := hoki.2.1; omega)
                      have hok9 := hoki.2.2 k hkm
                      have ho1 := it_1 hok9
                      have ho2 : ¬ ti (4 * k) = 10 → ¬ ti (4 * k) = 11 → cnN ti n k < 8 := it_2 hoki hkm
                      refine lv_aload_n S.1 S.2.1 dX5_text_119 rfl (lv_at hl 0 rfl) ?_
                      refine lv_iconst (v := 4) S.1 S.2.1 dX5_text_120 (by decide) ?_
                      refine lv_iload_n S.1 S.2.1 dX5_text_121 rfl (lv_at hl 1 rfl) ?_
                      refine lv_imul S.1 S.2.1 dX5_text_122 ?_
                      refine lv_eqi (y := nI (4 * k)) (pk_mul 4 k) ?_
                      refine go_V (run_V (As := [.int (nI (4 * k))]) (rest := []) (n := 1) S hK (bl_P hP [0, 1, 3] rfl) (bl_D hD [0, 1, 3] rfl rfl) (c_X5_isToldSo l E am (qX (upd q 3 0) (b_87_9, e_87_9, s_87_9, v_87_9, w_87_9) mm pp) ri ti (cnN ti n k) k (by omega) hc8 (by omega) ho1 ho2) gV_X5_297 (by decide +kernel) rfl ⟨rfl, rfl⟩ ⟨Nat.le_of_ble_eq_true rfl, Nat.le_of_ble_eq_true rfl⟩ (ci := 5) (q0 := 0) rfl rfl hl.1 (Nat.le_of_ble_eq_true rfl) dX5_text_123 ⟨Nat.zero_le _, Nat.zero_le _⟩) hP hD hS [0, 1, 3] rfl (had_cons rfl (had_cons cell_ad (had_cons rfl rfl))) (Bs' := [[mObj am (qX (upd q 3 0) (b_87_9, e_87_9, s_87_9, v_87_9, w_87_9) mm pp)], [(am 1, .inl (E.2.1, 77, .inl (sg (tldF ri ti k) 77)))], [(am 5, .inl (E.2.1, 120, .inl (sg tp 120)))], [(am 7, .inl (E.2.1, 480, .inl (sg ti 480)))], [(am 6, .inl (E.2.2.2.2.2, 7, .inr (.inr (.inr (.inr kn)))))]]) rfl (fun H locs hP hD hS => ?_)
                      obtain ⟨r_123_10, er_123_10⟩ : ∃ zz9 : Row, zz9 = tldF ri ti k := ⟨_, rfl⟩
                      rw [← er_123_10] at hP hD
                      refine lv_iinc (v := nI (k + 1)) (lv' := [(1, .int (nI (k + 1))), (0, .ref (am 0))]) S.1 S.2.1 dX5_text_126 hl (k := 1) rfl (nI_1 k) (by decide) rfl (fun ls hl => ?_)
                      refine lv_goto (tgt := 111) S.1 S.2.1 dX5_text_129 (by decide) ?_
                      exact ih_111 (k + 1) r_123_10 (by omega) (by omega) (by rw [er_123_10, hri]; rfl) H locs hP hD hS ls (lv_sub hl [1, 0] rfl)
                exact L_111 (mm + 1) 0 r (by omega) (by omega) rfl H locs hP hD hS ls (lv_sub hl [1, 0] rfl)
              · refine lv_iconst (v := (-1)) S.1 S.2.1 dX5_text_102 (by decide) ?_
                refine lv_aload_n S.1 S.2.1 dX5_text_103 rfl (lv_at hl 0 rfl) ?_
                refine gf_X5_228 S hK hP 0 0 rfl rfl (show _ = some (Value.int (nI b_87_9)) from rfl) dX5_text_104 ?_
                refine lv_isub S.1 S.2.1 dX5_text_107 ?_
                exact retI S hr hlk (by rw [txR_no (by rw [eXX]; exact c_99), eXX, eY]; exact hP) hS (by rw [txA, if_neg (by rw [eXX]; exact c_99), eXX]) dX5_text_108
          · refine lv_aload_n S.1 S.2.1 dX5_text_62 rfl (lv_at hl 0 rfl) ?_
            refine lv_iconst (v := 1) S.1 S.2.1 dX5_text_63 (by decide) ?_
            refine go_V (run_V (As := [.int 1]) (rest := []) (n := 1) S hK (bl_P hP [0, 2] rfl) (bl_D hD [0, 2] rfl rfl) (c_X5_must l E am q tp len b e9 v9 mm pp s9 w9 1 hq3 hl9 (hle).2.1) gV_X5_254 (by decide +kernel) rfl ⟨rfl, rfl⟩ ⟨Nat.le_of_ble_eq_true rfl, Nat.le_of_ble_eq_true rfl⟩ (ci := 5) (q0 := 0) rfl rfl hl.1 (Nat.le_of_ble_eq_true rfl) dX5_text_64 ⟨Nat.zero_le _, Nat.zero_le _⟩) hP hD hS [0, 2] rfl (had_cons mo_ad (had_cons rfl rfl)) (Bs' := [[mObj am (qX q (mstF tp len (b, e9, s9, v9, w9) 1) mm pp)], [(am 1, .inl (E.2.1, 77, .inl (sg r 77)))], [(am 5, .inl (E.2.1, 120, .inl (sg tp 120)))], [(am 7, .inl (E.2.1, 480, .inl (sg ti 480)))], [(am 6, .inl (E.2.2.2.2.2, 7, .inr (.inr (.inr (.inr kn)))))]]) rfl (fun H locs hP hD hS => ?_)
            obtain ⟨⟨b_64, e_64, s_64, v_64, w_64⟩, eX_64⟩ : ∃ zz9 : Xs, zz9 = mstF tp len (b, e9, s9, v9, w9) 1 := ⟨_, rfl⟩
            rw [← eX_64] at hP hD
            have hle_64 := mst_I eX_64 hle
            have hge_64 : e9 ≤ b_64 := by (have z9 : (b_64, e_64, s_64, v_64, w_64) = tkX tp len e9 0 := eX_64.trans (mst_yes c_37 (by decide)); have y9 := (tk_I (tp := tp) 0 (show e9 ≤ len from hle.2.1)).2; rw [← z9] at y9; exact y9)
            have hlt9 : b < e9 := hle.2.2.1 (show ¬ s9 = 0 by rw [c_45]; decide)
            have hmb_64 : mm ≤ b_64 := by (have z9 := (hw c_37).1; omega)
            refine lv_aload_n S.1 S.2.1 dX5_text_67 rfl (lv_at hl 0 rfl) ?_
            refine go_V (run_VX (As := []) (rest := []) (n := 0) S hK (bl_P hP [0, 2, 3, 4] rfl) (bl_D hD [0, 2, 3, 4] rfl rfl) (EX_c hX hS hD [0, 2, 3, 4] rfl) (c_X5_readItem l E aS kn am q tp ti len b_64 e_64 v_64 mm pp s_64 w_64 hq3 hl9 hle_64 hmb_64 hkn) gV_X5_294 (by decide +kernel) rfl ⟨rfl, rfl⟩ ⟨Nat.le_of_ble_eq_true rfl, Nat.le_of_ble_eq_true rfl⟩ (ci := 5) (q0 := 0) rfl rfl hl.1 (Nat.le_of_ble_eq_true rfl) dX5_text_68 ⟨Nat.zero_le _, Nat.zero_le _⟩) hP hD hS [0, 2, 3, 4] rfl (had_cons mo_ad (had_cons rfl (had_cons cell_ad (had_cons rfl rfl)))) (Bs' := [[mObj am (qX q ((rdI tp len (b_64, e_64, s_64, v_64, w_64) mm pp ti).1) ((rdI tp len (b_64, e_64, s_64, v_64, w_64) mm pp ti).2.1) ((rdI tp len (b_64, e_64, s_64, v_64, w_64) mm pp ti).2.2.1))], [(am 1, .inl (E.2.1, 77, .inl (sg r 77)))], [(am 5, .inl (E.2.1, 120, .inl (sg tp 120)))], [(am 7, .inl (E.2.1, 480, .inl (sg ((rdI tp len (b_64, e_64, s_64, v_64, w_64) mm pp ti).2.2.2) 480)))], [(am 6, .inl (E.2.2.2.2.2, 7, .inr (.inr (.inr (.inr kn)))))]]) rfl (fun H locs hP hD hS => ?_)
            obtain ⟨r_68_3, er_68_3⟩ : ∃ zz9 : Row, zz9 = (rdI tp len (b_64, e_64, s_64, v_64, w_64) mm pp ti).2.2.2 := ⟨_, rfl⟩
            rw [← er_68_3] at hP hD
            obtain ⟨⟨b_68, e_68, s_68, v_68, w_68⟩, eX_68⟩ : ∃ zz9 : Xs, zz9 = (rdI tp len (b_64, e_64, s_64, v_64, w_64) mm pp ti).1 := ⟨_, rfl⟩
            rw [← eX_68] at hP hD
            have hok_68 := rdI_ok (tp := tp) (it := ti) (n := n) (mn := mm) (pt := pp) hle_64 hmb_64
            rw [← eX_68] at hok_68
            have hle_68 : XI len (b_68, e_68, s_68, v_68, w_68) := hok_68.1
            refine lv_goto (tgt := 33) S.1 S.2.1 dX5_text_71 (by decide) ?_
            exact ih_33 b_68 e_68 s_68 v_68 w_68 ((rdI tp len (b_64, e_64, s_64, v_64, w_64) mm pp ti).2.1) ((rdI tp len (b_64, e_64, s_64, v_64, w_64) mm pp ti).2.2.1) r_68_3 hle_68 (by have y9 : b_64 ≤ b_68 := hok_68.2.1; omega) (Nat.le_trans hok_68.2.2.1 (by have z9 := (hw c_37).1; have y9 : e9 ≤ len := hle.2.1; omega)) (fun z9 => by have y9 := hok_68.2.2.2 z9; rw [er_68_3]; exact ⟨y9.2.1, y9.2.2 (hw c_37).2⟩) (by rw [hZ, lp_yes c_37 c_45 c_59, ← eX_64, eX_68, er_68_3]) H locs hP hD hS ls (lv_sub hl [0] rfl)
  exact L_33 (len + 1) b_30 e_30 s_30 v_30 w_30 ((rdI tp len (b_26, e_26, s_26, v_26, w_26) 0 n it).2.1) ((rdI tp len (b_26, e_26, s_26, v_26, w_26) 0 n it).2.2.1) r_30_3 hle_30 (by omega) (Nat.le_trans hok_30.2.2.1 (by omega)) (fun z9 => by have y9 := hok_30.2.2.2 z9; rw [er_30_3]; exact ⟨y9.2.1, y9.2.2 (OKI_0 hn8)⟩) (by rw [txY, ← eX_26, eX_30, er_30_3]) H locs hP hD hS ls (lv_sub hl [0] rfl)
