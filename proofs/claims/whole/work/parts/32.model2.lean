theorem fa3 (a b : Int32) : a < b ∨ a = b ∨ b < a := by
  rcases Int.lt_trichotomy a.toInt b.toInt with h | h | h
  · exact Or.inl (Int32.lt_iff_toInt_lt.mpr h)
  · exact Or.inr (Or.inl (Int32.toInt_inj.mp h))
  · exact Or.inr (Or.inr (Int32.lt_iff_toInt_lt.mpr h))
theorem mn_sw2 (x y : Int32) : (if y < x then y else x) = if x < y then x else y := by
  rcases fa3 x y with h | h | h
  · rw [if_pos h, if_neg (Int32.not_lt.mpr (Int32.le_of_lt h))]
  · subst h; rfl
  · rw [if_pos h, if_neg (Int32.not_lt.mpr (Int32.le_of_lt h))]
theorem mn_sw (x y : Int32) : mn x y = if x < y then x else y := mn_sw2 x y
theorem mx_sw (x y : Int32) : mx x y = if y < x then x else y := by
  unfold mx
  rcases fa3 x y with h | h | h
  · rw [if_pos h, if_neg (Int32.not_lt.mpr (Int32.le_of_lt h))]
  · subst h; rfl
  · rw [if_pos h, if_neg (Int32.not_lt.mpr (Int32.le_of_lt h))]
theorem gath_eq {r r1 r2 : Row} {i : Nat} {w : Int32} (h1 : r1 = if r (21 + 7 * i) = 1 then (if r 3 ≤ 0 then r else upd r 3 (r 3 - 1)) else r) (h2 : r2 = upd r1 (21 + 7 * i + 3) (if r1 (21 + 7 * i + 3) + (criesR r i + weathersR r i w) < 999 then r1 (21 + 7 * i + 3) + (criesR r i + weathersR r i w) else 999)) : upd r2 (21 + 7 * i + 1) (if 0 < r2 (21 + 7 * i + 1) - healsR r2 i then r2 (21 + 7 * i + 1) - healsR r2 i else 0) = gatherF r i w := by
  have e1 : ∀ f, r1 (21 + 7 * i + f) = r (21 + 7 * i + f) := fun f => by
    rw [h1]
    split
    · split
      · rfl
      · exact upd_ne (by omega)
    · rfl
  have e10 : r1 (21 + 7 * i) = r (21 + 7 * i) := e1 0
  have e2 : r2 (21 + 7 * i + 1) = r (21 + 7 * i + 1) := by rw [h2, upd_ne (by omega), e1]
  have e20 : r2 (21 + 7 * i) = r (21 + 7 * i) := by rw [h2, upd_ne (by omega), e10]
  have e3 : healsR r2 i = healsR r i := by unfold healsR; rw [e20]
  rw [e2, e3, h2, e1 3, ← mn_sw, ← mx_sw]
  have g1 : gath2 (gath1 r i w) i = upd (upd r (21 + 7 * i + 3) (mn (r (21 + 7 * i + 3) + (criesR r i + weathersR r i w)) 999)) (21 + 7 * i + 1) (mx (r (21 + 7 * i + 1) - healsR r i) 0) := by
    unfold gath2 gath1 healsR
    rw [upd_ne (show 21 + 7 * i + 1 ≠ 21 + 7 * i + 3 by omega), upd_ne (show 21 + 7 * i ≠ 21 + 7 * i + 3 by omega)]
  unfold gatherF gath3
  rw [g1, upd_ne (show 21 + 7 * i ≠ 21 + 7 * i + 1 by omega), upd_ne (show 21 + 7 * i ≠ 21 + 7 * i + 3 by omega), upd_ne (show 3 ≠ 21 + 7 * i + 1 by omega), upd_ne (show 3 ≠ 21 + 7 * i + 3 by omega), h1]
  split
  · split
    · rfl
    · funext j
      unfold upd
      by_cases c1 : j = 3
      · subst c1
        rw [if_neg (by omega), if_neg (by omega), if_pos rfl, if_pos rfl]
      · simp only [if_neg c1]
  · rfl
set_option maxHeartbeats 4000000 in
set_option maxRecDepth 100000 in
theorem c_X5_today (l : Launch) (E : EV) (am : Nat → Nat) (q r : Row) (hR : RI r) : Met l yX5_today (wq yX5_today cX5_today 1 (some .int)) ({ frames := 0, cells := 0, slots := 0, locals := 0 }) (preB E [.ref (am 0)] [[mObj am q], [(am 1, .inl (E.2.1, 77, .inl (sg r 77)))]]) (qS (wthr r)) 0 0 (fun _ => False) := by
  refine M_mk RX5 (by decide) rfl (Nat.le_of_ble_eq_true rfl) ?_
  intro p e s m below meth c S hr hlk hK hP hD hS ls hl
  have hl : lv_has ls 1 [(0, .ref (am 0))] := hl
  obtain ⟨n, d, hn, hn8, hd, hd5, ho, hso, hli, hsp, hpt⟩ := id hR
  refine lv_aload_n S.1 S.2.1 dX5_today_0 rfl (lv_at hl 0 rfl) ?_
  refine gf_X5_9 S hK hP 0 0 rfl rfl rfl dX5_today_1 ?_
  refine lv_iconst (v := 5) S.1 S.2.1 dX5_today_4 (by decide) ?_
  refine lv_aload_n S.1 S.2.1 dX5_today_5 rfl (lv_at hl 0 rfl) ?_
  refine gf_X5_9 S hK hP 0 0 rfl rfl rfl dX5_today_6 ?_
  refine lv_iconst (v := 0) S.1 S.2.1 dX5_today_9 (by decide) ?_
  refine b_ialdN (i := 0) S hK hP 1 0 rfl rfl (by omega) (by decide) dX5_today_10 ?_
  refine lv_eqi (y := nI d) ((sg_at (by omega)).trans hd) ?_
  refine lv_bipush (v := 6) S.1 S.2.1 dX5_today_11 (by decide) ?_
  refine lv_irem S.1 S.2.1 dX5_today_13 (by decide) ?_
  refine lv_eqi (y := nI (d % 6)) (pk_rem (a := d) (d := 6) (by omega) (by decide) (by decide)) ?_
  refine lv_iadd S.1 S.2.1 dX5_today_14 ?_
  refine lv_eqi (y := nI (5 + d % 6)) (nI_add 5 (d % 6)) ?_
  refine b_ialdN (i := 5 + d % 6) S hK hP 1 0 rfl rfl (by omega) (by decide) dX5_today_15 ?_
  refine lv_eqi (y := r (5 + d % 6)) (sg_at (by omega)) ?_
  exact retS S hr hlk (by unfold wthr; rw [dayN_eq hd hd5]) dX5_today_16
set_option maxHeartbeats 4000000 in
set_option maxRecDepth 100000 in
theorem c_X5_gathers (l : Launch) (E : EV) (am : Nat → Nat) (q r : Row) (i : Nat) (hR : RI r) (hi : i < cntN r) : Met l yX5_gathers (wq yX5_gathers cX5_gathers 3 none) ({ frames := 3, cells := 0, slots := 0, locals := 69 }) (preB E [.ref (am 0), .int (nI i)] [[mObj am q], [(am 1, .inl (E.2.1, 77, .inl (sg r 77)))]]) (qV E [[mObj am q], [(am 1, .inl (E.2.1, 77, .inl (sg r 77)))]] [[mObj am q], [(am 1, .inl (E.2.1, 77, .inl (sg (gatherF r i (wthr r)) 77)))]]) 0 0 (inB [[mObj am q], [(am 1, .inl (E.2.1, 77, .inl (sg r 77)))]]) := by
  refine M_mk RX5 (by decide) rfl (Nat.le_of_ble_eq_true rfl) ?_
  intro p e s m below meth c S hr hlk hK hP hD hS ls hl
  have hl : lv_has ls 3 [(0, .ref (am 0)), (1, .int (nI i))] := hl
  obtain ⟨n, d, hn, hn8, hd, hd5, ho, hso, hli, hsp, hpt⟩ := id hR
  have hin : i < n := by rw [← cntN_eq hn hn8]; exact hi
  obtain ⟨H, hH⟩ : ∃ z, z = s.heap := ⟨_, rfl⟩
  obtain ⟨locs, hlocs⟩ : ∃ z : List Loc, z = [] := ⟨_, rfl⟩
  have hP : PE E [[mObj am q], [(am 1, .inl (E.2.1, 77, .inl (sg r 77)))]] H := by rw [hH]; exact hP
  have hS : va_S (inB [[mObj am q], [(am 1, .inl (E.2.1, 77, .inl (sg r 77)))]]) s.heap H locs := by rw [hH, hlocs]; exact hS
  show W p l e ({ frames := 3, cells := 0, slots := 0, locals := 69 }) s m ([.ref (am 0), .int (nI i)] : List Value).toArray below meth c s.heap [] 0 0 _ _
  suffices hgo : W p l e ({ frames := 3, cells := 0, slots := 0, locals := 69 }) s m ([.ref (am 0), .int (nI i)] : List Value).toArray below meth c H locs 0 0 (MQ below (qV E [[mObj am q], [(am 1, .inl (E.2.1, 77, .inl (sg r 77)))]] [[mObj am q], [(am 1, .inl (E.2.1, 77, .inl (sg (gatherF r i (wthr r)) 77)))]]) ([.ref (am 0), .int (nI i)] : List Value).toArray s 0 0 (inB [[mObj am q], [(am 1, .inl (E.2.1, 77, .inl (sg r 77)))]])) (F0 m 0 ls []) by rw [hH, hlocs] at hgo; exact hgo
  clear hH hlocs
  refine lv_aload_n S.1 S.2.1 dX5_gathers_0 rfl (lv_at hl 0 rfl) ?_
  refine lv_iload_n S.1 S.2.1 dX5_gathers_1 rfl (lv_at hl 1 rfl) ?_
  refine go_S (run_V (As := [.int (nI i)]) (rest := []) (n := 1) S hK (bl_P hP [0, 1] rfl) (bl_D hD [0, 1] rfl rfl) (c_X5_cries l E am q r i (by omega)) gV_X5_100 (by decide +kernel) rfl ⟨rfl, rfl⟩ ⟨Nat.le_of_ble_eq_true rfl, Nat.le_of_ble_eq_true rfl⟩ (ci := 5) (q0 := 0) rfl rfl hl.1 (Nat.le_of_ble_eq_true rfl) dX5_gathers_2 ⟨Nat.zero_le _, Nat.zero_le _⟩) ?_
  refine lv_aload_n S.1 S.2.1 dX5_gathers_5 rfl (lv_at hl 0 rfl) ?_
  refine lv_iload_n S.1 S.2.1 dX5_gathers_6 rfl (lv_at hl 1 rfl) ?_
  refine lv_aload_n S.1 S.2.1 dX5_gathers_7 rfl (lv_at hl 0 rfl) ?_
  refine go_S (run_V (As := []) (rest := [.int (nI i), .ref (am 0), .int (criesR r i)]) (n := 0) S hK (bl_P hP [0, 1] rfl) (bl_D hD [0, 1] rfl rfl) (c_X5_today l E am q r hR) gV_X5_103 (by decide +kernel) rfl ⟨rfl, rfl⟩ ⟨Nat.le_of_ble_eq_true rfl, Nat.le_of_ble_eq_true rfl⟩ (ci := 5) (q0 := 0) rfl rfl hl.1 (Nat.le_of_ble_eq_true rfl) dX5_gathers_8 ⟨Nat.zero_le _, Nat.zero_le _⟩) ?_
  refine go_S (run_V (As := [.int (nI i), .int (wthr r)]) (rest := [.int (criesR r i)]) (n := 2) S hK (bl_P hP [0, 1] rfl) (bl_D hD [0, 1] rfl rfl) (c_X5_weathers l E am q r i (wthr r) (by omega) (hpt i hin 2 (by decide)) (wthr_nat hR)) gV_X5_107 (by decide +kernel) rfl ⟨rfl, rfl⟩ ⟨Nat.le_of_ble_eq_true rfl, Nat.le_of_ble_eq_true rfl⟩ (ci := 5) (q0 := 0) rfl rfl hl.1 (Nat.le_of_ble_eq_true rfl) dX5_gathers_11 ⟨Nat.zero_le _, Nat.zero_le _⟩) ?_
  refine lv_iadd S.1 S.2.1 dX5_gathers_14 ?_
  refine lv_istore_n (lv' := [(2, .int ((criesR r i) + (weathersR r i (wthr r)))), (0, .ref (am 0)), (1, .int (nI i))]) S.1 S.2.1 dX5_gathers_15 rfl hl (by decide) rfl (fun ls hl => ?_)
  refine lv_aload_n S.1 S.2.1 dX5_gathers_16 rfl (lv_at hl 1 rfl) ?_
  refine lv_iload_n S.1 S.2.1 dX5_gathers_17 rfl (lv_at hl 2 rfl) ?_
  refine lv_iconst (v := 0) S.1 S.2.1 dX5_gathers_18 (by decide) ?_
  refine go_S (run_V (As := [.int (nI i), .int 0]) (rest := []) (n := 2) S hK (bl_P hP [0, 1] rfl) (bl_D hD [0, 1] rfl rfl) (c_X5_potterIs l E am q r i 0 (by omega) (by omega)) gV_X5_92 (by decide +kernel) rfl ⟨rfl, rfl⟩ ⟨Nat.le_of_ble_eq_true rfl, Nat.le_of_ble_eq_true rfl⟩ (ci := 5) (q0 := 0) rfl rfl hl.1 (Nat.le_of_ble_eq_true rfl) dX5_gathers_19 ⟨Nat.zero_le _, Nat.zero_le _⟩) ?_
  refine lv_eqi (y := r (21 + 7 * i)) rfl ?_
  refine lv_iconst (v := 1) S.1 S.2.1 dX5_gathers_22 (by decide) ?_
  refine lv_icmp_ne (tgt := 45) S.1 S.2.1 dX5_gathers_23 (by decide) (fun c_23 => ?_) (fun c_23 => ?_)
  · refine lv_aload_n S.1 S.2.1 dX5_gathers_45 rfl (lv_at hl 1 rfl) ?_
    refine gf_X5_9 S hK hP 0 0 rfl rfl rfl dX5_gathers_46 ?_
    refine lv_iload_n S.1 S.2.1 dX5_gathers_49 rfl (lv_at hl 2 rfl) ?_
    refine lv_iconst (v := 3) S.1 S.2.1 dX5_gathers_50 (by decide) ?_
    refine go_S (run_S (As := [.int (nI i), .int 3]) (rest := [.ref (am 1)]) (n := 2) S hK (bl_P hP [] rfl) (bl_D hD [] rfl rfl) (c_X5_potterAt l E i 3 ) gS_X5_82 (by decide +kernel) rfl ⟨rfl, rfl⟩ ⟨Nat.le_of_ble_eq_true rfl, Nat.le_of_ble_eq_true rfl⟩ hl.1 (Nat.le_of_ble_eq_true rfl) dX5_gathers_51 ⟨Nat.zero_le _, Nat.zero_le _⟩) ?_
    refine lv_sipush (v := 999) S.1 S.2.1 dX5_gathers_54 (by decide) ?_
    refine lv_aload_n S.1 S.2.1 dX5_gathers_57 rfl (lv_at hl 1 rfl) ?_
    refine lv_iload_n S.1 S.2.1 dX5_gathers_58 rfl (lv_at hl 2 rfl) ?_
    refine lv_iconst (v := 3) S.1 S.2.1 dX5_gathers_59 (by decide) ?_
    refine go_S (run_V (As := [.int (nI i), .int 3]) (rest := [.int 999, .int (nI (21 + 7 * i + 3)), .ref (am 1)]) (n := 2) S hK (bl_P hP [0, 1] rfl) (bl_D hD [0, 1] rfl rfl) (c_X5_potterIs l E am q r i 3 (by omega) (by omega)) gV_X5_92 (by decide +kernel) rfl ⟨rfl, rfl⟩ ⟨Nat.le_of_ble_eq_true rfl, Nat.le_of_ble_eq_true rfl⟩ (ci := 5) (q0 := 0) rfl rfl hl.1 (Nat.le_of_ble_eq_true rfl) dX5_gathers_60 ⟨Nat.zero_le _, Nat.zero_le _⟩) ?_
    refine lv_iload_n S.1 S.2.1 dX5_gathers_63 rfl (lv_at hl 0 rfl) ?_
    refine lv_iadd S.1 S.2.1 dX5_gathers_64 ?_
    refine va_mmin S.1 S.2.1 (S.2.2.1.trans hl.1.symm) S.2.2.2.1 (S.2.2.2.2 _ (List.mem_cons_of_mem _ mk_X5_132)) (S.2.2.2.2 _ (List.mem_cons_of_mem _ sk_JMmin)) (S.2.2.2.2 _ (List.mem_cons_of_mem _ nk_J9)) (S.2.2.2.2 _ (List.mem_cons_of_mem _ ck_JMmin)) (Nat.le_of_ble_eq_true rfl) (Nat.le_of_ble_eq_true rfl) (Nat.zero_le _) (Nat.zero_le _) dX5_gathers_65 ?_
    refine b_iastN (i := 21 + 7 * i + 3) S hK hP hD hS 1 0 rfl rfl (by omega) (by decide) (sgs_upd (by omega)) (Bs1 := [[mObj am q], [(am 1, .inl (E.2.1, 77, .inl (sg (upd r (21 + 7 * i + 3) (if ((r (21 + 7 * i + 3)) + ((criesR r i) + (weathersR r i (wthr r)))) < 999 then ((r (21 + 7 * i + 3)) + ((criesR r i) + (weathersR r i (wthr r)))) else 999)) 77)))]]) rfl dX5_gathers_68 (fun H locs hP hD hS => ?_)
    obtain ⟨r_68, er_68⟩ : ∃ z, z = upd r (21 + 7 * i + 3) (if ((r (21 + 7 * i + 3)) + ((criesR r i) + (weathersR r i (wthr r)))) < 999 then ((r (21 + 7 * i + 3)) + ((criesR r i) + (weathersR r i (wthr r)))) else 999) := ⟨_, rfl⟩
    rw [← er_68] at hP hD
    have hr_68_1 : r_68 1 = nI n := by rw [er_68]; exact (upd_ne (by omega)).trans hn
    have hr_68_0 : r_68 0 = nI d := by rw [er_68]; exact (upd_ne (by omega)).trans hd
    refine lv_aload_n S.1 S.2.1 dX5_gathers_69 rfl (lv_at hl 1 rfl) ?_
    refine gf_X5_9 S hK hP 0 0 rfl rfl rfl dX5_gathers_70 ?_
    refine lv_iload_n S.1 S.2.1 dX5_gathers_73 rfl (lv_at hl 2 rfl) ?_
    refine lv_iconst (v := 1) S.1 S.2.1 dX5_gathers_74 (by decide) ?_
    refine go_S (run_S (As := [.int (nI i), .int 1]) (rest := [.ref (am 1)]) (n := 2) S hK (bl_P hP [] rfl) (bl_D hD [] rfl rfl) (c_X5_potterAt l E i 1 ) gS_X5_82 (by decide +kernel) rfl ⟨rfl, rfl⟩ ⟨Nat.le_of_ble_eq_true rfl, Nat.le_of_ble_eq_true rfl⟩ hl.1 (Nat.le_of_ble_eq_true rfl) dX5_gathers_75 ⟨Nat.zero_le _, Nat.zero_le _⟩) ?_
    refine lv_iconst (v := 0) S.1 S.2.1 dX5_gathers_78 (by decide) ?_
    refine lv_aload_n S.1 S.2.1 dX5_gathers_79 rfl (lv_at hl 1 rfl) ?_
    refine lv_iload_n S.1 S.2.1 dX5_gathers_80 rfl (lv_at hl 2 rfl) ?_
    refine lv_iconst (v := 1) S.1 S.2.1 dX5_gathers_81 (by decide) ?_
    refine go_S (run_V (As := [.int (nI i), .int 1]) (rest := [.int 0, .int (nI (21 + 7 * i + 1)), .ref (am 1)]) (n := 2) S hK (bl_P hP [0, 1] rfl) (bl_D hD [0, 1] rfl rfl) (c_X5_potterIs l E am q r_68 i 1 (by omega) (by omega)) gV_X5_92 (by decide +kernel) rfl ⟨rfl, rfl⟩ ⟨Nat.le_of_ble_eq_true rfl, Nat.le_of_ble_eq_true rfl⟩ (ci := 5) (q0 := 0) rfl rfl hl.1 (Nat.le_of_ble_eq_true rfl) dX5_gathers_82 ⟨Nat.zero_le _, Nat.zero_le _⟩) ?_
    refine lv_aload_n S.1 S.2.1 dX5_gathers_85 rfl (lv_at hl 1 rfl) ?_
    refine lv_iload_n S.1 S.2.1 dX5_gathers_86 rfl (lv_at hl 2 rfl) ?_
    refine go_S (run_V (As := [.int (nI i)]) (rest := [.int (r_68 (21 + 7 * i + 1)), .int 0, .int (nI (21 + 7 * i + 1)), .ref (am 1)]) (n := 1) S hK (bl_P hP [0, 1] rfl) (bl_D hD [0, 1] rfl rfl) (c_X5_heals l E am q r_68 i (by omega)) gV_X5_119 (by decide +kernel) rfl ⟨rfl, rfl⟩ ⟨Nat.le_of_ble_eq_true rfl, Nat.le_of_ble_eq_true rfl⟩ (ci := 5) (q0 := 0) rfl rfl hl.1 (Nat.le_of_ble_eq_true rfl) dX5_gathers_87 ⟨Nat.zero_le _, Nat.zero_le _⟩) ?_
    refine lv_isub S.1 S.2.1 dX5_gathers_90 ?_
    refine va_mmax S.1 S.2.1 (S.2.2.1.trans hl.1.symm) S.2.2.2.1 (S.2.2.2.2 _ (List.mem_cons_of_mem _ mk_X5_95)) (S.2.2.2.2 _ (List.mem_cons_of_mem _ sk_JMmax)) (S.2.2.2.2 _ (List.mem_cons_of_mem _ nk_J9)) (S.2.2.2.2 _ (List.mem_cons_of_mem _ ck_JMmax)) (Nat.le_of_ble_eq_true rfl) (Nat.le_of_ble_eq_true rfl) (Nat.zero_le _) (Nat.zero_le _) dX5_gathers_91 ?_
    refine b_iastN (i := 21 + 7 * i + 1) S hK hP hD hS 1 0 rfl rfl (by omega) (by decide) (sgs_upd (by omega)) (Bs1 := [[mObj am q], [(am 1, .inl (E.2.1, 77, .inl (sg (upd r_68 (21 + 7 * i + 1) (if 0 < ((r_68 (21 + 7 * i + 1)) - (healsR r_68 i)) then ((r_68 (21 + 7 * i + 1)) - (healsR r_68 i)) else 0)) 77)))]]) rfl dX5_gathers_94 (fun H locs hP hD hS => ?_)
    obtain ⟨r_94, er_94⟩ : ∃ z, z = upd r_68 (21 + 7 * i + 1) (if 0 < ((r_68 (21 + 7 * i + 1)) - (healsR r_68 i)) then ((r_68 (21 + 7 * i + 1)) - (healsR r_68 i)) else 0) := ⟨_, rfl⟩
    rw [← er_94] at hP hD
    have hr_94_1 : r_94 1 = nI n := by rw [er_94]; exact (upd_ne (by omega)).trans hr_68_1
    have hr_94_0 : r_94 0 = nI d := by rw [er_94]; exact (upd_ne (by omega)).trans hr_68_0
    exact retV S hr hlk (by rw [← gath_eq (w := wthr r) (by simp only [c_23, ↓reduceIte]) er_68, ← er_94]; exact hP) hS dX5_gathers_95
  · refine lv_aload_n S.1 S.2.1 dX5_gathers_26 rfl (lv_at hl 1 rfl) ?_
    refine gf_X5_9 S hK hP 0 0 rfl rfl rfl dX5_gathers_27 ?_
    refine lv_iconst (v := 3) S.1 S.2.1 dX5_gathers_30 (by decide) ?_
    refine b_ialdN (i := 3) S hK hP 1 0 rfl rfl (by omega) (by decide) dX5_gathers_31 ?_
    refine lv_eqi (y := r 3) (sg_at (by omega)) ?_
    refine lv_if_le (tgt := 45) S.1 S.2.1 dX5_gathers_32 (by decide) (fun c_32 => ?_) (fun c_32 => ?_)
    · have n_32 := Int32.not_lt.mpr c_32
      refine lv_aload_n S.1 S.2.1 dX5_gathers_45 rfl (lv_at hl 1 rfl) ?_
      refine gf_X5_9 S hK hP 0 0 rfl rfl rfl dX5_gathers_46 ?_
      refine lv_iload_n S.1 S.2.1 dX5_gathers_49 rfl (lv_at hl 2 rfl) ?_
      refine lv_iconst (v := 3) S.1 S.2.1 dX5_gathers_50 (by decide) ?_
      refine go_S (run_S (As := [.int (nI i), .int 3]) (rest := [.ref (am 1)]) (n := 2) S hK (bl_P hP [] rfl) (bl_D hD [] rfl rfl) (c_X5_potterAt l E i 3 ) gS_X5_82 (by decide +kernel) rfl ⟨rfl, rfl⟩ ⟨Nat.le_of_ble_eq_true rfl, Nat.le_of_ble_eq_true rfl⟩ hl.1 (Nat.le_of_ble_eq_true rfl) dX5_gathers_51 ⟨Nat.zero_le _, Nat.zero_le _⟩) ?_
      refine lv_sipush (v := 999) S.1 S.2.1 dX5_gathers_54 (by decide) ?_
      refine lv_aload_n S.1 S.2.1 dX5_gathers_57 rfl (lv_at hl 1 rfl) ?_
      refine lv_iload_n S.1 S.2.1 dX5_gathers_58 rfl (lv_at hl 2 rfl) ?_
      refine lv_iconst (v := 3) S.1 S.2.1 dX5_gathers_59 (by decide) ?_
      refine go_S (run_V (As := [.int (nI i), .int 3]) (rest := [.int 999, .int (nI (21 + 7 * i + 3)), .ref (am 1)]) (n := 2) S hK (bl_P hP [0, 1] rfl) (bl_D hD [0, 1] rfl rfl) (c_X5_potterIs l E am q r i 3 (by omega) (by omega)) gV_X5_92 (by decide +kernel) rfl ⟨rfl, rfl⟩ ⟨Nat.le_of_ble_eq_true rfl, Nat.le_of_ble_eq_true rfl⟩ (ci := 5) (q0 := 0) rfl rfl hl.1 (Nat.le_of_ble_eq_true rfl) dX5_gathers_60 ⟨Nat.zero_le _, Nat.zero_le _⟩) ?_
      refine lv_iload_n S.1 S.2.1 dX5_gathers_63 rfl (lv_at hl 0 rfl) ?_
      refine lv_iadd S.1 S.2.1 dX5_gathers_64 ?_
      refine va_mmin S.1 S.2.1 (S.2.2.1.trans hl.1.symm) S.2.2.2.1 (S.2.2.2.2 _ (List.mem_cons_of_mem _ mk_X5_132)) (S.2.2.2.2 _ (List.mem_cons_of_mem _ sk_JMmin)) (S.2.2.2.2 _ (List.mem_cons_of_mem _ nk_J9)) (S.2.2.2.2 _ (List.mem_cons_of_mem _ ck_JMmin)) (Nat.le_of_ble_eq_true rfl) (Nat.le_of_ble_eq_true rfl) (Nat.zero_le _) (Nat.zero_le _) dX5_gathers_65 ?_
      refine b_iastN (i := 21 + 7 * i + 3) S hK hP hD hS 1 0 rfl rfl (by omega) (by decide) (sgs_upd (by omega)) (Bs1 := [[mObj am q], [(am 1, .inl (E.2.1, 77, .inl (sg (upd r (21 + 7 * i + 3) (if ((r (21 + 7 * i + 3)) + ((criesR r i) + (weathersR r i (wthr r)))) < 999 then ((r (21 + 7 * i + 3)) + ((criesR r i) + (weathersR r i (wthr r)))) else 999)) 77)))]]) rfl dX5_gathers_68 (fun H locs hP hD hS => ?_)
      obtain ⟨r_68_1, er_68_1⟩ : ∃ z, z = upd r (21 + 7 * i + 3) (if ((r (21 + 7 * i + 3)) + ((criesR r i) + (weathersR r i (wthr r)))) < 999 then ((r (21 + 7 * i + 3)) + ((criesR r i) + (weathersR r i (wthr r)))) else 999) := ⟨_, rfl⟩
      rw [← er_68_1] at hP hD
      have hr_68_1_1 : r_68_1 1 = nI n := by rw [er_68_1]; exact (upd_ne (by omega)).trans hn
      have hr_68_1_0 : r_68_1 0 = nI d := by rw [er_68_1]; exact (upd_ne (by omega)).trans hd
      refine lv_aload_n S.1 S.2.1 dX5_gathers_69 rfl (lv_at hl 1 rfl) ?_
      refine gf_X5_9 S hK hP 0 0 rfl rfl rfl dX5_gathers_70 ?_
      refine lv_iload_n S.1 S.2.1 dX5_gathers_73 rfl (lv_at hl 2 rfl) ?_
      refine lv_iconst (v := 1) S.1 S.2.1 dX5_gathers_74 (by decide) ?_
      refine go_S (run_S (As := [.int (nI i), .int 1]) (rest := [.ref (am 1)]) (n := 2) S hK (bl_P hP [] rfl) (bl_D hD [] rfl rfl) (c_X5_potterAt l E i 1 ) gS_X5_82 (by decide +kernel) rfl ⟨rfl, rfl⟩ ⟨Nat.le_of_ble_eq_true rfl, Nat.le_of_ble_eq_true rfl⟩ hl.1 (Nat.le_of_ble_eq_true rfl) dX5_gathers_75 ⟨Nat.zero_le _, Nat.zero_le _⟩) ?_
      refine lv_iconst (v := 0) S.1 S.2.1 dX5_gathers_78 (by decide) ?_
      refine lv_aload_n S.1 S.2.1 dX5_gathers_79 rfl (lv_at hl 1 rfl) ?_
      refine lv_iload_n S.1 S.2.1 dX5_gathers_80 rfl (lv_at hl 2 rfl) ?_
      refine lv_iconst (v := 1) S.1 S.2.1 dX5_gathers_81 (by decide) ?_
      refine go_S (run_V (As := [.int (nI i), .int 1]) (rest := [.int 0, .int (nI (21 + 7 * i + 1)), .ref (am 1)]) (n := 2) S hK (bl_P hP [0, 1] rfl) (bl_D hD [0, 1] rfl rfl) (c_X5_potterIs l E am q r_68_1 i 1 (by omega) (by omega)) gV_X5_92 (by decide +kernel) rfl ⟨rfl, rfl⟩ ⟨Nat.le_of_ble_eq_true rfl, Nat.le_of_ble_eq_true rfl⟩ (ci := 5) (q0 := 0) rfl rfl hl.1 (Nat.le_of_ble_eq_true rfl) dX5_gathers_82 ⟨Nat.zero_le _, Nat.zero_le _⟩) ?_
      refine lv_aload_n S.1 S.2.1 dX5_gathers_85 rfl (lv_at hl 1 rfl) ?_
      refine lv_iload_n S.1 S.2.1 dX5_gathers_86 rfl (lv_at hl 2 rfl) ?_
      refine go_S (run_V (As := [.int (nI i)]) (rest := [.int (r_68_1 (21 + 7 * i + 1)), .int 0, .int (nI (21 + 7 * i + 1)), .ref (am 1)]) (n := 1) S hK (bl_P hP [0, 1] rfl) (bl_D hD [0, 1] rfl rfl) (c_X5_heals l E am q r_68_1 i (by omega)) gV_X5_119 (by decide +kernel) rfl ⟨rfl, rfl⟩ ⟨Nat.le_of_ble_eq_true rfl, Nat.le_of_ble_eq_true rfl⟩ (ci := 5) (q0 := 0) rfl rfl hl.1 (Nat.le_of_ble_eq_true rfl) dX5_gathers_87 ⟨Nat.zero_le _, Nat.zero_le _⟩) ?_
      refine lv_isub S.1 S.2.1 dX5_gathers_90 ?_
      refine va_mmax S.1 S.2.1 (S.2.2.1.trans hl.1.symm) S.2.2.2.1 (S.2.2.2.2 _ (List.mem_cons_of_mem _ mk_X5_95)) (S.2.2.2.2 _ (List.mem_cons_of_mem _ sk_JMmax)) (S.2.2.2.2 _ (List.mem_cons_of_mem _ nk_J9)) (S.2.2.2.2 _ (List.mem_cons_of_mem _ ck_JMmax)) (Nat.le_of_ble_eq_true rfl) (Nat.le_of_ble_eq_true rfl) (Nat.zero_le _) (Nat.zero_le _) dX5_gathers_91 ?_
      refine b_iastN (i := 21 + 7 * i + 1) S hK hP hD hS 1 0 rfl rfl (by omega) (by decide) (sgs_upd (by omega)) (Bs1 := [[mObj am q], [(am 1, .inl (E.2.1, 77, .inl (sg (upd r_68_1 (21 + 7 * i + 1) (if 0 < ((r_68_1 (21 + 7 * i + 1)) - (healsR r_68_1 i)) then ((r_68_1 (21 + 7 * i + 1)) - (healsR r_68_1 i)) else 0)) 77)))]]) rfl dX5_gathers_94 (fun H locs hP hD hS => ?_)
      obtain ⟨r_94_2, er_94_2⟩ : ∃ z, z = upd r_68_1 (21 + 7 * i + 1) (if 0 < ((r_68_1 (21 + 7 * i + 1)) - (healsR r_68_1 i)) then ((r_68_1 (21 + 7 * i + 1)) - (healsR r_68_1 i)) else 0) := ⟨_, rfl⟩
      rw [← er_94_2] at hP hD
      have hr_94_2_1 : r_94_2 1 = nI n := by rw [er_94_2]; exact (upd_ne (by omega)).trans hr_68_1_1
      have hr_94_2_0 : r_94_2 0 = nI d := by rw [er_94_2]; exact (upd_ne (by omega)).trans hr_68_1_0
      exact retV S hr hlk (by rw [← gath_eq (w := wthr r) (by simp only [eq_true c_23, c_32, ↓reduceIte]) er_68_1, ← er_94_2]; exact hP) hS dX5_gathers_95
    · have n_32 := Int32.not_le.mp c_32
      refine lv_aload_n S.1 S.2.1 dX5_gathers_35 rfl (lv_at hl 1 rfl) ?_
      refine gf_X5_9 S hK hP 0 0 rfl rfl rfl dX5_gathers_36 ?_
      refine lv_iconst (v := 3) S.1 S.2.1 dX5_gathers_39 (by decide) ?_
      refine lv_dup2_11 S.1 S.2.1 dX5_gathers_40 rfl rfl ?_
      refine b_ialdN (i := 3) S hK hP 1 0 rfl rfl (by omega) (by decide) dX5_gathers_41 ?_
      refine lv_eqi (y := r 3) (sg_at (by omega)) ?_
      refine lv_iconst (v := 1) S.1 S.2.1 dX5_gathers_42 (by decide) ?_
      refine lv_isub S.1 S.2.1 dX5_gathers_43 ?_
      refine b_iastN (i := 3) S hK hP hD hS 1 0 rfl rfl (by omega) (by decide) (sgs_upd (by omega)) (Bs1 := [[mObj am q], [(am 1, .inl (E.2.1, 77, .inl (sg (upd r 3 ((r 3) - 1)) 77)))]]) rfl dX5_gathers_44 (fun H locs hP hD hS => ?_)
      obtain ⟨r_44, er_44⟩ : ∃ z, z = upd r 3 ((r 3) - 1) := ⟨_, rfl⟩
      rw [← er_44] at hP hD
      have hr_44_1 : r_44 1 = nI n := by rw [er_44]; exact (upd_ne (by omega)).trans hn
      have hr_44_0 : r_44 0 = nI d := by rw [er_44]; exact (upd_ne (by omega)).trans hd
      refine lv_aload_n S.1 S.2.1 dX5_gathers_45 rfl (lv_at hl 1 rfl) ?_
      refine gf_X5_9 S hK hP 0 0 rfl rfl rfl dX5_gathers_46 ?_
      refine lv_iload_n S.1 S.2.1 dX5_gathers_49 rfl (lv_at hl 2 rfl) ?_
      refine lv_iconst (v := 3) S.1 S.2.1 dX5_gathers_50 (by decide) ?_
      refine go_S (run_S (As := [.int (nI i), .int 3]) (rest := [.ref (am 1)]) (n := 2) S hK (bl_P hP [] rfl) (bl_D hD [] rfl rfl) (c_X5_potterAt l E i 3 ) gS_X5_82 (by decide +kernel) rfl ⟨rfl, rfl⟩ ⟨Nat.le_of_ble_eq_true rfl, Nat.le_of_ble_eq_true rfl⟩ hl.1 (Nat.le_of_ble_eq_true rfl) dX5_gathers_51 ⟨Nat.zero_le _, Nat.zero_le _⟩) ?_
      refine lv_sipush (v := 999) S.1 S.2.1 dX5_gathers_54 (by decide) ?_
      refine lv_aload_n S.1 S.2.1 dX5_gathers_57 rfl (lv_at hl 1 rfl) ?_
      refine lv_iload_n S.1 S.2.1 dX5_gathers_58 rfl (lv_at hl 2 rfl) ?_
      refine lv_iconst (v := 3) S.1 S.2.1 dX5_gathers_59 (by decide) ?_
      refine go_S (run_V (As := [.int (nI i), .int 3]) (rest := [.int 999, .int (nI (21 + 7 * i + 3)), .ref (am 1)]) (n := 2) S hK (bl_P hP [0, 1] rfl) (bl_D hD [0, 1] rfl rfl) (c_X5_potterIs l E am q r_44 i 3 (by omega) (by omega)) gV_X5_92 (by decide +kernel) rfl ⟨rfl, rfl⟩ ⟨Nat.le_of_ble_eq_true rfl, Nat.le_of_ble_eq_true rfl⟩ (ci := 5) (q0 := 0) rfl rfl hl.1 (Nat.le_of_ble_eq_true rfl) dX5_gathers_60 ⟨Nat.zero_le _, Nat.zero_le _⟩) ?_
      refine lv_iload_n S.1 S.2.1 dX5_gathers_63 rfl (lv_at hl 0 rfl) ?_
      refine lv_iadd S.1 S.2.1 dX5_gathers_64 ?_
      refine va_mmin S.1 S.2.1 (S.2.2.1.trans hl.1.symm) S.2.2.2.1 (S.2.2.2.2 _ (List.mem_cons_of_mem _ mk_X5_132)) (S.2.2.2.2 _ (List.mem_cons_of_mem _ sk_JMmin)) (S.2.2.2.2 _ (List.mem_cons_of_mem _ nk_J9)) (S.2.2.2.2 _ (List.mem_cons_of_mem _ ck_JMmin)) (Nat.le_of_ble_eq_true rfl) (Nat.le_of_ble_eq_true rfl) (Nat.zero_le _) (Nat.zero_le _) dX5_gathers_65 ?_
      refine b_iastN (i := 21 + 7 * i + 3) S hK hP hD hS 1 0 rfl rfl (by omega) (by decide) (sgs_upd (by omega)) (Bs1 := [[mObj am q], [(am 1, .inl (E.2.1, 77, .inl (sg (upd r_44 (21 + 7 * i + 3) (if ((r_44 (21 + 7 * i + 3)) + ((criesR r i) + (weathersR r i (wthr r)))) < 999 then ((r_44 (21 + 7 * i + 3)) + ((criesR r i) + (weathersR r i (wthr r)))) else 999)) 77)))]]) rfl dX5_gathers_68 (fun H locs hP hD hS => ?_)
      obtain ⟨r_68_3, er_68_3⟩ : ∃ z, z = upd r_44 (21 + 7 * i + 3) (if ((r_44 (21 + 7 * i + 3)) + ((criesR r i) + (weathersR r i (wthr r)))) < 999 then ((r_44 (21 + 7 * i + 3)) + ((criesR r i) + (weathersR r i (wthr r)))) else 999) := ⟨_, rfl⟩
      rw [← er_68_3] at hP hD
      have hr_68_3_1 : r_68_3 1 = nI n := by rw [er_68_3]; exact (upd_ne (by omega)).trans hr_44_1
      have hr_68_3_0 : r_68_3 0 = nI d := by rw [er_68_3]; exact (upd_ne (by omega)).trans hr_44_0
      refine lv_aload_n S.1 S.2.1 dX5_gathers_69 rfl (lv_at hl 1 rfl) ?_
      refine gf_X5_9 S hK hP 0 0 rfl rfl rfl dX5_gathers_70 ?_
      refine lv_iload_n S.1 S.2.1 dX5_gathers_73 rfl (lv_at hl 2 rfl) ?_
      refine lv_iconst (v := 1) S.1 S.2.1 dX5_gathers_74 (by decide) ?_
      refine go_S (run_S (As := [.int (nI i), .int 1]) (rest := [.ref (am 1)]) (n := 2) S hK (bl_P hP [] rfl) (bl_D hD [] rfl rfl) (c_X5_potterAt l E i 1 ) gS_X5_82 (by decide +kernel) rfl ⟨rfl, rfl⟩ ⟨Nat.le_of_ble_eq_true rfl, Nat.le_of_ble_eq_true rfl⟩ hl.1 (Nat.le_of_ble_eq_true rfl) dX5_gathers_75 ⟨Nat.zero_le _, Nat.zero_le _⟩) ?_
      refine lv_iconst (v := 0) S.1 S.2.1 dX5_gathers_78 (by decide) ?_
      refine lv_aload_n S.1 S.2.1 dX5_gathers_79 rfl (lv_at hl 1 rfl) ?_
      refine lv_iload_n S.1 S.2.1 dX5_gathers_80 rfl (lv_at hl 2 rfl) ?_
      refine lv_iconst (v := 1) S.1 S.2.1 dX5_gathers_81 (by decide) ?_
      refine go_S (run_V (As := [.int (nI i), .int 1]) (rest := [.int 0, .int (nI (21 + 7 * i + 1)), .ref (am 1)]) (n := 2) S hK (bl_P hP [0, 1] rfl) (bl_D hD [0, 1] rfl rfl) (c_X5_potterIs l E am q r_68_3 i 1 (by omega) (by omega)) gV_X5_92 (by decide +kernel) rfl ⟨rfl, rfl⟩ ⟨Nat.le_of_ble_eq_true rfl, Nat.le_of_ble_eq_true rfl⟩ (ci := 5) (q0 := 0) rfl rfl hl.1 (Nat.le_of_ble_eq_true rfl) dX5_gathers_82 ⟨Nat.zero_le _, Nat.zero_le _⟩) ?_
      refine lv_aload_n S.1 S.2.1 dX5_gathers_85 rfl (lv_at hl 1 rfl) ?_
      refine lv_iload_n S.1 S.2.1 dX5_gathers_86 rfl (lv_at hl 2 rfl) ?_
      refine go_S (run_V (As := [.int (nI i)]) (rest := [.int (r_68_3 (21 + 7 * i + 1)), .int 0, .int (nI (21 + 7 * i + 1)), .ref (am 1)]) (n := 1) S hK (bl_P hP [0, 1] rfl) (bl_D hD [0, 1] rfl rfl) (c_X5_heals l E am q r_68_3 i (by omega)) gV_X5_119 (by decide +kernel) rfl ⟨rfl, rfl⟩ ⟨Nat.le_of_ble_eq_true rfl, Nat.le_of_ble_eq_true rfl⟩ (ci := 5) (q0 := 0) rfl rfl hl.1 (Nat.le_of_ble_eq_true rfl) dX5_gathers_87 ⟨Nat.zero_le _, Nat.zero_le _⟩) ?_
      refine lv_isub S.1 S.2.1 dX5_gathers_90 ?_
      refine va_mmax S.1 S.2.1 (S.2.2.1.trans hl.1.symm) S.2.2.2.1 (S.2.2.2.2 _ (List.mem_cons_of_mem _ mk_X5_95)) (S.2.2.2.2 _ (List.mem_cons_of_mem _ sk_JMmax)) (S.2.2.2.2 _ (List.mem_cons_of_mem _ nk_J9)) (S.2.2.2.2 _ (List.mem_cons_of_mem _ ck_JMmax)) (Nat.le_of_ble_eq_true rfl) (Nat.le_of_ble_eq_true rfl) (Nat.zero_le _) (Nat.zero_le _) dX5_gathers_91 ?_
      refine b_iastN (i := 21 + 7 * i + 1) S hK hP hD hS 1 0 rfl rfl (by omega) (by decide) (sgs_upd (by omega)) (Bs1 := [[mObj am q], [(am 1, .inl (E.2.1, 77, .inl (sg (upd r_68_3 (21 + 7 * i + 1) (if 0 < ((r_68_3 (21 + 7 * i + 1)) - (healsR r_68_3 i)) then ((r_68_3 (21 + 7 * i + 1)) - (healsR r_68_3 i)) else 0)) 77)))]]) rfl dX5_gathers_94 (fun H locs hP hD hS => ?_)
      obtain ⟨r_94_4, er_94_4⟩ : ∃ z, z = upd r_68_3 (21 + 7 * i + 1) (if 0 < ((r_68_3 (21 + 7 * i + 1)) - (healsR r_68_3 i)) then ((r_68_3 (21 + 7 * i + 1)) - (healsR r_68_3 i)) else 0) := ⟨_, rfl⟩
      rw [← er_94_4] at hP hD
      have hr_94_4_1 : r_94_4 1 = nI n := by rw [er_94_4]; exact (upd_ne (by omega)).trans hr_68_3_1
      have hr_94_4_0 : r_94_4 0 = nI d := by rw [er_94_4]; exact (upd_ne (by omega)).trans hr_68_3_0
      exact retV S hr hlk (by rw [← gath_eq (w := wthr r) (by rw [er_44]; simp only [eq_true c_23, c_32, ↓reduceIte]) er_68_3, ← er_94_4]; exact hP) hS dX5_gathers_95
set_option maxHeartbeats 4000000 in
set_option maxRecDepth 100000 in
theorem c_X5_fires (l : Launch) (E : EV) (am : Nat → Nat) (q r : Row) (i : Nat) (hi : i < 8) : Met l yX5_fires (wq yX5_fires cX5_fires 2 none) ({ frames := 4, cells := 0, slots := 0, locals := 85 }) (preB E [.ref (am 0), .int (nI i)] [[mObj am q], [(am 1, .inl (E.2.1, 77, .inl (sg r 77)))]]) (qV E [[mObj am q], [(am 1, .inl (E.2.1, 77, .inl (sg r 77)))]] [[mObj am q], [(am 1, .inl (E.2.1, 77, .inl (sg (fireF r i) 77)))]]) 0 0 (inB [[mObj am q], [(am 1, .inl (E.2.1, 77, .inl (sg r 77)))]]) := by
  refine M_mk RX5 (by decide) rfl (Nat.le_of_ble_eq_true rfl) ?_
  intro p e s m below meth c S hr hlk hK hP hD hS ls hl
  have hl : lv_has ls 2 [(0, .ref (am 0)), (1, .int (nI i))] := hl
  obtain ⟨H, hH⟩ : ∃ z, z = s.heap := ⟨_, rfl⟩
  obtain ⟨locs, hlocs⟩ : ∃ z : List Loc, z = [] := ⟨_, rfl⟩
  have hP : PE E [[mObj am q], [(am 1, .inl (E.2.1, 77, .inl (sg r 77)))]] H := by rw [hH]; exact hP
  have hS : va_S (inB [[mObj am q], [(am 1, .inl (E.2.1, 77, .inl (sg r 77)))]]) s.heap H locs := by rw [hH, hlocs]; exact hS
  show W p l e ({ frames := 4, cells := 0, slots := 0, locals := 85 }) s m ([.ref (am 0), .int (nI i)] : List Value).toArray below meth c s.heap [] 0 0 _ _
  suffices hgo : W p l e ({ frames := 4, cells := 0, slots := 0, locals := 85 }) s m ([.ref (am 0), .int (nI i)] : List Value).toArray below meth c H locs 0 0 (MQ below (qV E [[mObj am q], [(am 1, .inl (E.2.1, 77, .inl (sg r 77)))]] [[mObj am q], [(am 1, .inl (E.2.1, 77, .inl (sg (fireF r i) 77)))]]) ([.ref (am 0), .int (nI i)] : List Value).toArray s 0 0 (inB [[mObj am q], [(am 1, .inl (E.2.1, 77, .inl (sg r 77)))]])) (F0 m 0 ls []) by rw [hH, hlocs] at hgo; exact hgo
  clear hH hlocs
  refine lv_aload_n S.1 S.2.1 dX5_fires_0 rfl (lv_at hl 0 rfl) ?_
  refine lv_iload_n S.1 S.2.1 dX5_fires_1 rfl (lv_at hl 1 rfl) ?_
  refine go_S (run_V (As := [.int (nI i)]) (rest := []) (n := 1) S hK (bl_P hP [0, 1] rfl) (bl_D hD [0, 1] rfl rfl) (c_X5_isReady l E am q r i (by omega)) gV_X5_135 (by decide +kernel) rfl ⟨rfl, rfl⟩ ⟨Nat.le_of_ble_eq_true rfl, Nat.le_of_ble_eq_true rfl⟩ (ci := 5) (q0 := 0) rfl rfl hl.1 (Nat.le_of_ble_eq_true rfl) dX5_fires_2 ⟨Nat.zero_le _, Nat.zero_le _⟩) ?_
  refine b_ifeq (tgt := 73) S.1 S.2.1 dX5_fires_5 (by decide) (fun c_5 => ?_) (fun c_5 => ?_)
  · refine lv_aload_n S.1 S.2.1 dX5_fires_73 rfl (lv_at hl 0 rfl) ?_
    refine gf_X5_9 S hK hP 0 0 rfl rfl rfl dX5_fires_74 ?_
    refine lv_iload_n S.1 S.2.1 dX5_fires_77 rfl (lv_at hl 1 rfl) ?_
    refine lv_bipush (v := 6) S.1 S.2.1 dX5_fires_78 (by decide) ?_
    refine go_S (run_S (As := [.int (nI i), .int 6]) (rest := [.ref (am 1)]) (n := 2) S hK (bl_P hP [] rfl) (bl_D hD [] rfl rfl) (c_X5_potterAt l E i 6 ) gS_X5_82 (by decide +kernel) rfl ⟨rfl, rfl⟩ ⟨Nat.le_of_ble_eq_true rfl, Nat.le_of_ble_eq_true rfl⟩ hl.1 (Nat.le_of_ble_eq_true rfl) dX5_fires_80 ⟨Nat.zero_le _, Nat.zero_le _⟩) ?_
    refine lv_sipush (v := 9999) S.1 S.2.1 dX5_fires_83 (by decide) ?_
    refine lv_aload_n S.1 S.2.1 dX5_fires_86 rfl (lv_at hl 0 rfl) ?_
    refine lv_iload_n S.1 S.2.1 dX5_fires_87 rfl (lv_at hl 1 rfl) ?_
    refine lv_bipush (v := 6) S.1 S.2.1 dX5_fires_88 (by decide) ?_
    refine go_S (run_V (As := [.int (nI i), .int 6]) (rest := [.int 9999, .int (nI (21 + 7 * i + 6)), .ref (am 1)]) (n := 2) S hK (bl_P hP [0, 1] rfl) (bl_D hD [0, 1] rfl rfl) (c_X5_potterIs l E am q r i 6 (by omega) (by omega)) gV_X5_92 (by decide +kernel) rfl ⟨rfl, rfl⟩ ⟨Nat.le_of_ble_eq_true rfl, Nat.le_of_ble_eq_true rfl⟩ (ci := 5) (q0 := 0) rfl rfl hl.1 (Nat.le_of_ble_eq_true rfl) dX5_fires_90 ⟨Nat.zero_le _, Nat.zero_le _⟩) ?_
    refine lv_iconst (v := 1) S.1 S.2.1 dX5_fires_93 (by decide) ?_
    refine lv_iadd S.1 S.2.1 dX5_fires_94 ?_
    refine va_mmin S.1 S.2.1 (S.2.2.1.trans hl.1.symm) S.2.2.2.1 (S.2.2.2.2 _ (List.mem_cons_of_mem _ mk_X5_132)) (S.2.2.2.2 _ (List.mem_cons_of_mem _ sk_JMmin)) (S.2.2.2.2 _ (List.mem_cons_of_mem _ nk_J9)) (S.2.2.2.2 _ (List.mem_cons_of_mem _ ck_JMmin)) (Nat.le_of_ble_eq_true rfl) (Nat.le_of_ble_eq_true rfl) (Nat.zero_le _) (Nat.zero_le _) dX5_fires_95 ?_
    refine b_iastN (i := 21 + 7 * i + 6) S hK hP hD hS 1 0 rfl rfl (by omega) (by decide) (sgs_upd (by omega)) (Bs1 := [[mObj am q], [(am 1, .inl (E.2.1, 77, .inl (sg (upd r (21 + 7 * i + 6) (if ((r (21 + 7 * i + 6)) + 1) < 9999 then ((r (21 + 7 * i + 6)) + 1) else 9999)) 77)))]]) rfl dX5_fires_98 (fun H locs hP hD hS => ?_)
    obtain ⟨r_98, er_98⟩ : ∃ z, z = upd r (21 + 7 * i + 6) (if ((r (21 + 7 * i + 6)) + 1) < 9999 then ((r (21 + 7 * i + 6)) + 1) else 9999) := ⟨_, rfl⟩
    rw [← er_98] at hP hD
    refine lv_aload_n S.1 S.2.1 dX5_fires_99 rfl (lv_at hl 0 rfl) ?_
    refine gf_X5_9 S hK hP 0 0 rfl rfl rfl dX5_fires_100 ?_
    refine lv_iload_n S.1 S.2.1 dX5_fires_103 rfl (lv_at hl 1 rfl) ?_
    refine lv_iconst (v := 1) S.1 S.2.1 dX5_fires_104 (by decide) ?_
    refine go_S (run_S (As := [.int (nI i), .int 1]) (rest := [.ref (am 1)]) (n := 2) S hK (bl_P hP [] rfl) (bl_D hD [] rfl rfl) (c_X5_potterAt l E i 1 ) gS_X5_82 (by decide +kernel) rfl ⟨rfl, rfl⟩ ⟨Nat.le_of_ble_eq_true rfl, Nat.le_of_ble_eq_true rfl⟩ hl.1 (Nat.le_of_ble_eq_true rfl) dX5_fires_105 ⟨Nat.zero_le _, Nat.zero_le _⟩) ?_
    refine lv_bipush (v := 99) S.1 S.2.1 dX5_fires_108 (by decide) ?_
    refine lv_aload_n S.1 S.2.1 dX5_fires_110 rfl (lv_at hl 0 rfl) ?_
    refine lv_iload_n S.1 S.2.1 dX5_fires_111 rfl (lv_at hl 1 rfl) ?_
    refine lv_iconst (v := 1) S.1 S.2.1 dX5_fires_112 (by decide) ?_
    refine go_S (run_V (As := [.int (nI i), .int 1]) (rest := [.int 99, .int (nI (21 + 7 * i + 1)), .ref (am 1)]) (n := 2) S hK (bl_P hP [0, 1] rfl) (bl_D hD [0, 1] rfl rfl) (c_X5_potterIs l E am q r_98 i 1 (by omega) (by omega)) gV_X5_92 (by decide +kernel) rfl ⟨rfl, rfl⟩ ⟨Nat.le_of_ble_eq_true rfl, Nat.le_of_ble_eq_true rfl⟩ (ci := 5) (q0 := 0) rfl rfl hl.1 (Nat.le_of_ble_eq_true rfl) dX5_fires_113 ⟨Nat.zero_le _, Nat.zero_le _⟩) ?_
    refine lv_bipush (v := 15) S.1 S.2.1 dX5_fires_116 (by decide) ?_
    refine lv_iadd S.1 S.2.1 dX5_fires_118 ?_
    refine va_mmin S.1 S.2.1 (S.2.2.1.trans hl.1.symm) S.2.2.2.1 (S.2.2.2.2 _ (List.mem_cons_of_mem _ mk_X5_132)) (S.2.2.2.2 _ (List.mem_cons_of_mem _ sk_JMmin)) (S.2.2.2.2 _ (List.mem_cons_of_mem _ nk_J9)) (S.2.2.2.2 _ (List.mem_cons_of_mem _ ck_JMmin)) (Nat.le_of_ble_eq_true rfl) (Nat.le_of_ble_eq_true rfl) (Nat.zero_le _) (Nat.zero_le _) dX5_fires_119 ?_
    refine b_iastN (i := 21 + 7 * i + 1) S hK hP hD hS 1 0 rfl rfl (by omega) (by decide) (sgs_upd (by omega)) (Bs1 := [[mObj am q], [(am 1, .inl (E.2.1, 77, .inl (sg (upd r_98 (21 + 7 * i + 1) (if ((r_98 (21 + 7 * i + 1)) + 15) < 99 then ((r_98 (21 + 7 * i + 1)) + 15) else 99)) 77)))]]) rfl dX5_fires_122 (fun H locs hP hD hS => ?_)
    obtain ⟨r_122, er_122⟩ : ∃ z, z = upd r_98 (21 + 7 * i + 1) (if ((r_98 (21 + 7 * i + 1)) + 15) < 99 then ((r_98 (21 + 7 * i + 1)) + 15) else 99) := ⟨_, rfl⟩
    rw [← er_122] at hP hD
    refine lv_aload_n S.1 S.2.1 dX5_fires_123 rfl (lv_at hl 0 rfl) ?_
    refine gf_X5_9 S hK hP 0 0 rfl rfl rfl dX5_fires_124 ?_
    refine lv_iload_n S.1 S.2.1 dX5_fires_127 rfl (lv_at hl 1 rfl) ?_
    refine lv_iconst (v := 3) S.1 S.2.1 dX5_fires_128 (by decide) ?_
    refine go_S (run_S (As := [.int (nI i), .int 3]) (rest := [.ref (am 1)]) (n := 2) S hK (bl_P hP [] rfl) (bl_D hD [] rfl rfl) (c_X5_potterAt l E i 3 ) gS_X5_82 (by decide +kernel) rfl ⟨rfl, rfl⟩ ⟨Nat.le_of_ble_eq_true rfl, Nat.le_of_ble_eq_true rfl⟩ hl.1 (Nat.le_of_ble_eq_true rfl) dX5_fires_129 ⟨Nat.zero_le _, Nat.zero_le _⟩) ?_
    refine lv_iconst (v := 0) S.1 S.2.1 dX5_fires_132 (by decide) ?_
    refine b_iastN (i := 21 + 7 * i + 3) S hK hP hD hS 1 0 rfl rfl (by omega) (by decide) (sgs_upd (by omega)) (Bs1 := [[mObj am q], [(am 1, .inl (E.2.1, 77, .inl (sg (upd r_122 (21 + 7 * i + 3) 0) 77)))]]) rfl dX5_fires_133 (fun H locs hP hD hS => ?_)
    obtain ⟨r_133, er_133⟩ : ∃ z, z = upd r_122 (21 + 7 * i + 3) 0 := ⟨_, rfl⟩
    rw [← er_133] at hP hD
    exact retV S hr hlk (by rw [show fireF r i = r_133 by (unfold fireF fireE fireD fireC fireB fireA; rw [if_neg c_5]; rw [er_133, er_122, er_98]; simp only [mn_sw]; try rfl)]; exact hP) hS dX5_fires_134
  · refine lv_aload_n S.1 S.2.1 dX5_fires_8 rfl (lv_at hl 0 rfl) ?_
    refine gf_X5_9 S hK hP 0 0 rfl rfl rfl dX5_fires_9 ?_
    refine lv_iload_n S.1 S.2.1 dX5_fires_12 rfl (lv_at hl 1 rfl) ?_
    refine lv_iconst (v := 4) S.1 S.2.1 dX5_fires_13 (by decide) ?_
    refine go_S (run_S (As := [.int (nI i), .int 4]) (rest := [.ref (am 1)]) (n := 2) S hK (bl_P hP [] rfl) (bl_D hD [] rfl rfl) (c_X5_potterAt l E i 4 ) gS_X5_82 (by decide +kernel) rfl ⟨rfl, rfl⟩ ⟨Nat.le_of_ble_eq_true rfl, Nat.le_of_ble_eq_true rfl⟩ hl.1 (Nat.le_of_ble_eq_true rfl) dX5_fires_14 ⟨Nat.zero_le _, Nat.zero_le _⟩) ?_
    refine lv_aload_n S.1 S.2.1 dX5_fires_17 rfl (lv_at hl 0 rfl) ?_
    refine lv_iload_n S.1 S.2.1 dX5_fires_18 rfl (lv_at hl 1 rfl) ?_
    refine go_S (run_V (As := [.int (nI i)]) (rest := [.int (nI (21 + 7 * i + 4)), .ref (am 1)]) (n := 1) S hK (bl_P hP [0, 1] rfl) (bl_D hD [0, 1] rfl rfl) (c_X5_tint l E am q r i (by omega)) gV_X5_113 (by decide +kernel) rfl ⟨rfl, rfl⟩ ⟨Nat.le_of_ble_eq_true rfl, Nat.le_of_ble_eq_true rfl⟩ (ci := 5) (q0 := 0) rfl rfl hl.1 (Nat.le_of_ble_eq_true rfl) dX5_fires_19 ⟨Nat.zero_le _, Nat.zero_le _⟩) ?_
    refine b_iastN (i := 21 + 7 * i + 4) S hK hP hD hS 1 0 rfl rfl (by omega) (by decide) (sgs_upd (by omega)) (Bs1 := [[mObj am q], [(am 1, .inl (E.2.1, 77, .inl (sg (upd r (21 + 7 * i + 4) (tintR r i)) 77)))]]) rfl dX5_fires_22 (fun H locs hP hD hS => ?_)
    obtain ⟨r_22, er_22⟩ : ∃ z, z = upd r (21 + 7 * i + 4) (tintR r i) := ⟨_, rfl⟩
    rw [← er_22] at hP hD
    refine lv_aload_n S.1 S.2.1 dX5_fires_23 rfl (lv_at hl 0 rfl) ?_
    refine gf_X5_9 S hK hP 0 0 rfl rfl rfl dX5_fires_24 ?_
    refine lv_iload_n S.1 S.2.1 dX5_fires_27 rfl (lv_at hl 1 rfl) ?_
    refine lv_iconst (v := 5) S.1 S.2.1 dX5_fires_28 (by decide) ?_
    refine go_S (run_S (As := [.int (nI i), .int 5]) (rest := [.ref (am 1)]) (n := 2) S hK (bl_P hP [] rfl) (bl_D hD [] rfl rfl) (c_X5_potterAt l E i 5 ) gS_X5_82 (by decide +kernel) rfl ⟨rfl, rfl⟩ ⟨Nat.le_of_ble_eq_true rfl, Nat.le_of_ble_eq_true rfl⟩ hl.1 (Nat.le_of_ble_eq_true rfl) dX5_fires_29 ⟨Nat.zero_le _, Nat.zero_le _⟩) ?_
    refine lv_sipush (v := 9999) S.1 S.2.1 dX5_fires_32 (by decide) ?_
    refine lv_aload_n S.1 S.2.1 dX5_fires_35 rfl (lv_at hl 0 rfl) ?_
    refine lv_iload_n S.1 S.2.1 dX5_fires_36 rfl (lv_at hl 1 rfl) ?_
    refine lv_iconst (v := 5) S.1 S.2.1 dX5_fires_37 (by decide) ?_
    refine go_S (run_V (As := [.int (nI i), .int 5]) (rest := [.int 9999, .int (nI (21 + 7 * i + 5)), .ref (am 1)]) (n := 2) S hK (bl_P hP [0, 1] rfl) (bl_D hD [0, 1] rfl rfl) (c_X5_potterIs l E am q r_22 i 5 (by omega) (by omega)) gV_X5_92 (by decide +kernel) rfl ⟨rfl, rfl⟩ ⟨Nat.le_of_ble_eq_true rfl, Nat.le_of_ble_eq_true rfl⟩ (ci := 5) (q0 := 0) rfl rfl hl.1 (Nat.le_of_ble_eq_true rfl) dX5_fires_38 ⟨Nat.zero_le _, Nat.zero_le _⟩) ?_
    refine lv_iconst (v := 1) S.1 S.2.1 dX5_fires_41 (by decide) ?_
    refine lv_iadd S.1 S.2.1 dX5_fires_42 ?_
    refine va_mmin S.1 S.2.1 (S.2.2.1.trans hl.1.symm) S.2.2.2.1 (S.2.2.2.2 _ (List.mem_cons_of_mem _ mk_X5_132)) (S.2.2.2.2 _ (List.mem_cons_of_mem _ sk_JMmin)) (S.2.2.2.2 _ (List.mem_cons_of_mem _ nk_J9)) (S.2.2.2.2 _ (List.mem_cons_of_mem _ ck_JMmin)) (Nat.le_of_ble_eq_true rfl) (Nat.le_of_ble_eq_true rfl) (Nat.zero_le _) (Nat.zero_le _) dX5_fires_43 ?_
    refine b_iastN (i := 21 + 7 * i + 5) S hK hP hD hS 1 0 rfl rfl (by omega) (by decide) (sgs_upd (by omega)) (Bs1 := [[mObj am q], [(am 1, .inl (E.2.1, 77, .inl (sg (upd r_22 (21 + 7 * i + 5) (if ((r_22 (21 + 7 * i + 5)) + 1) < 9999 then ((r_22 (21 + 7 * i + 5)) + 1) else 9999)) 77)))]]) rfl dX5_fires_46 (fun H locs hP hD hS => ?_)
    obtain ⟨r_46, er_46⟩ : ∃ z, z = upd r_22 (21 + 7 * i + 5) (if ((r_22 (21 + 7 * i + 5)) + 1) < 9999 then ((r_22 (21 + 7 * i + 5)) + 1) else 9999) := ⟨_, rfl⟩
    rw [← er_46] at hP hD
    refine lv_aload_n S.1 S.2.1 dX5_fires_47 rfl (lv_at hl 0 rfl) ?_
    refine gf_X5_9 S hK hP 0 0 rfl rfl rfl dX5_fires_48 ?_
    refine lv_iconst (v := 4) S.1 S.2.1 dX5_fires_51 (by decide) ?_
    refine lv_ldc (v := 99999) S.1 S.2.1 S.2.2.2.1 (S.2.2.2.2 _ (List.mem_cons_of_mem _ kk_X5_138)) dX5_fires_52 ?_
    refine lv_aload_n S.1 S.2.1 dX5_fires_54 rfl (lv_at hl 0 rfl) ?_
    refine gf_X5_9 S hK hP 0 0 rfl rfl rfl dX5_fires_55 ?_
    refine lv_iconst (v := 4) S.1 S.2.1 dX5_fires_58 (by decide) ?_
    refine b_ialdN (i := 4) S hK hP 1 0 rfl rfl (by omega) (by decide) dX5_fires_59 ?_
    refine lv_eqi (y := r_46 4) (sg_at (by omega)) ?_
    refine lv_aload_n S.1 S.2.1 dX5_fires_60 rfl (lv_at hl 0 rfl) ?_
    refine lv_iload_n S.1 S.2.1 dX5_fires_61 rfl (lv_at hl 1 rfl) ?_
    refine go_S (run_V (As := [.int (nI i)]) (rest := [.int (r_46 4), .int 99999, .int 4, .ref (am 1)]) (n := 1) S hK (bl_P hP [0, 1] rfl) (bl_D hD [0, 1] rfl rfl) (c_X5_fetches l E am q r_46 i (by omega)) gV_X5_116 (by decide +kernel) rfl ⟨rfl, rfl⟩ ⟨Nat.le_of_ble_eq_true rfl, Nat.le_of_ble_eq_true rfl⟩ (ci := 5) (q0 := 0) rfl rfl hl.1 (Nat.le_of_ble_eq_true rfl) dX5_fires_62 ⟨Nat.zero_le _, Nat.zero_le _⟩) ?_
    refine lv_iadd S.1 S.2.1 dX5_fires_65 ?_
    refine va_mmin S.1 S.2.1 (S.2.2.1.trans hl.1.symm) S.2.2.2.1 (S.2.2.2.2 _ (List.mem_cons_of_mem _ mk_X5_132)) (S.2.2.2.2 _ (List.mem_cons_of_mem _ sk_JMmin)) (S.2.2.2.2 _ (List.mem_cons_of_mem _ nk_J9)) (S.2.2.2.2 _ (List.mem_cons_of_mem _ ck_JMmin)) (Nat.le_of_ble_eq_true rfl) (Nat.le_of_ble_eq_true rfl) (Nat.zero_le _) (Nat.zero_le _) dX5_fires_66 ?_
    refine b_iastN (i := 4) S hK hP hD hS 1 0 rfl rfl (by omega) (by decide) (sgs_upd (by omega)) (Bs1 := [[mObj am q], [(am 1, .inl (E.2.1, 77, .inl (sg (upd r_46 4 (if ((r_46 4) + (fetchesR r_46 i)) < 99999 then ((r_46 4) + (fetchesR r_46 i)) else 99999)) 77)))]]) rfl dX5_fires_69 (fun H locs hP hD hS => ?_)
    obtain ⟨r_69, er_69⟩ : ∃ z, z = upd r_46 4 (if ((r_46 4) + (fetchesR r_46 i)) < 99999 then ((r_46 4) + (fetchesR r_46 i)) else 99999) := ⟨_, rfl⟩
    rw [← er_69] at hP hD
    refine lv_goto (tgt := 123) S.1 S.2.1 dX5_fires_70 (by decide) ?_
    refine lv_aload_n S.1 S.2.1 dX5_fires_123 rfl (lv_at hl 0 rfl) ?_
    refine gf_X5_9 S hK hP 0 0 rfl rfl rfl dX5_fires_124 ?_
    refine lv_iload_n S.1 S.2.1 dX5_fires_127 rfl (lv_at hl 1 rfl) ?_
    refine lv_iconst (v := 3) S.1 S.2.1 dX5_fires_128 (by decide) ?_
    refine go_S (run_S (As := [.int (nI i), .int 3]) (rest := [.ref (am 1)]) (n := 2) S hK (bl_P hP [] rfl) (bl_D hD [] rfl rfl) (c_X5_potterAt l E i 3 ) gS_X5_82 (by decide +kernel) rfl ⟨rfl, rfl⟩ ⟨Nat.le_of_ble_eq_true rfl, Nat.le_of_ble_eq_true rfl⟩ hl.1 (Nat.le_of_ble_eq_true rfl) dX5_fires_129 ⟨Nat.zero_le _, Nat.zero_le _⟩) ?_
    refine lv_iconst (v := 0) S.1 S.2.1 dX5_fires_132 (by decide) ?_
    refine b_iastN (i := 21 + 7 * i + 3) S hK hP hD hS 1 0 rfl rfl (by omega) (by decide) (sgs_upd (by omega)) (Bs1 := [[mObj am q], [(am 1, .inl (E.2.1, 77, .inl (sg (upd r_69 (21 + 7 * i + 3) 0) 77)))]]) rfl dX5_fires_133 (fun H locs hP hD hS => ?_)
    obtain ⟨r_133_1, er_133_1⟩ : ∃ z, z = upd r_69 (21 + 7 * i + 3) 0 := ⟨_, rfl⟩
    rw [← er_133_1] at hP hD
    exact retV S hr hlk (by rw [show fireF r i = r_133_1 by (unfold fireF fireE fireD fireC fireB fireA; rw [if_pos c_5]; rw [er_133_1, er_69, er_46, er_22]; simp only [mn_sw]; try rfl)]; exact hP) hS dX5_fires_134
set_option maxHeartbeats 4000000 in
set_option maxRecDepth 100000 in
theorem c_X5_day (l : Launch) (E : EV) (am : Nat → Nat) (q r : Row) (hR : RI r) : Met l yX5_day (wq yX5_day cX5_day 2 none) ({ frames := 5, cells := 0, slots := 0, locals := 106 }) (preB E [.ref (am 0)] [[mObj am q], [(am 1, .inl (E.2.1, 77, .inl (sg r 77)))]]) (qV E [[mObj am q], [(am 1, .inl (E.2.1, 77, .inl (sg r 77)))]] [[mObj am q], [(am 1, .inl (E.2.1, 77, .inl (sg (dayF r) 77)))]]) 0 0 (inB [[mObj am q], [(am 1, .inl (E.2.1, 77, .inl (sg r 77)))]]) := by
  refine M_mk RX5 (by decide) rfl (Nat.le_of_ble_eq_true rfl) ?_
  intro p e s m below meth c S hr hlk hK hP hD hS ls hl
  have hl : lv_has ls 2 [(0, .ref (am 0))] := hl
  obtain ⟨n, d, hn, hn8, hd, hd5, ho, hso, hli, hsp, hpt⟩ := id hR
  obtain ⟨H, hH⟩ : ∃ z, z = s.heap := ⟨_, rfl⟩
  obtain ⟨locs, hlocs⟩ : ∃ z : List Loc, z = [] := ⟨_, rfl⟩
  have hP : PE E [[mObj am q], [(am 1, .inl (E.2.1, 77, .inl (sg r 77)))]] H := by rw [hH]; exact hP
  have hS : va_S (inB [[mObj am q], [(am 1, .inl (E.2.1, 77, .inl (sg r 77)))]]) s.heap H locs := by rw [hH, hlocs]; exact hS
  show W p l e ({ frames := 5, cells := 0, slots := 0, locals := 106 }) s m ([.ref (am 0)] : List Value).toArray below meth c s.heap [] 0 0 _ _
  suffices hgo : W p l e ({ frames := 5, cells := 0, slots := 0, locals := 106 }) s m ([.ref (am 0)] : List Value).toArray below meth c H locs 0 0 (MQ below (qV E [[mObj am q], [(am 1, .inl (E.2.1, 77, .inl (sg r 77)))]] [[mObj am q], [(am 1, .inl (E.2.1, 77, .inl (sg (dayF r) 77)))]]) ([.ref (am 0)] : List Value).toArray s 0 0 (inB [[mObj am q], [(am 1, .inl (E.2.1, 77, .inl (sg r 77)))]])) (F0 m 0 ls []) by rw [hH, hlocs] at hgo; exact hgo
  clear hH hlocs
  refine lv_iconst (v := 0) S.1 S.2.1 dX5_day_0 (by decide) ?_
  refine lv_istore_n (lv' := [(1, .int 0), (0, .ref (am 0))]) S.1 S.2.1 dX5_day_1 rfl hl (by decide) rfl (fun ls hl => ?_)
  have L_2 : ∀ (fu : Nat) (i : Nat) (ri : Row), (i ≤ n) → (n < i + fu) → (ri = gathN r (wthr r) i) → (ri 1 = nI n) → (ri 0 = nI d) → (RI ri) → ∀ (H : Heap) (locs : List Loc), PE E [[mObj am q], [(am 1, .inl (E.2.1, 77, .inl (sg ri 77)))]] H → DE (inB [[mObj am q], [(am 1, .inl (E.2.1, 77, .inl (sg r 77)))]]) [[mObj am q], [(am 1, .inl (E.2.1, 77, .inl (sg ri 77)))]] → va_S (inB [[mObj am q], [(am 1, .inl (E.2.1, 77, .inl (sg r 77)))]]) s.heap H locs → ∀ (ls : Array Slot), lv_has ls 2 [(0, .ref (am 0)), (1, .int (nI i))] → W p l e ({ frames := 5, cells := 0, slots := 0, locals := 106 }) s m ([.ref (am 0)] : List Value).toArray below meth c H locs 0 0 (MQ below (qV E [[mObj am q], [(am 1, .inl (E.2.1, 77, .inl (sg r 77)))]] [[mObj am q], [(am 1, .inl (E.2.1, 77, .inl (sg (dayF r) 77)))]]) ([.ref (am 0)] : List Value).toArray s 0 0 (inB [[mObj am q], [(am 1, .inl (E.2.1, 77, .inl (sg r 77)))]])) (F0 m 2 ls []) := by
    intro fu
    induction fu with
    | zero =>
      intro i ri hi hf hri hn1 hd1 hR1
      omega
    | succ fu ih_2 =>
      intro i ri hi hf hri hn1 hd1 hR1 H locs hP hD hS ls hl
      refine lv_iload_n S.1 S.2.1 dX5_day_2 rfl (lv_at hl 1 rfl) ?_
      refine lv_aload_n S.1 S.2.1 dX5_day_3 rfl (lv_at hl 0 rfl) ?_
      refine gf_X5_9 S hK hP 0 0 rfl rfl rfl dX5_day_4 ?_
      refine lv_iconst (v := 1) S.1 S.2.1 dX5_day_7 (by decide) ?_
      refine b_ialdN (i := 1) S hK hP 1 0 rfl rfl (by omega) (by decide) dX5_day_8 ?_
      refine lv_eqi (y := nI n) ((sg_at (by omega)).trans hn1) ?_
      refine lv_icmp_ge (tgt := 23) S.1 S.2.1 dX5_day_9 (by decide) (fun c_9 => ?_) (fun c_9 => ?_)
      · have n_9 := Int32.not_lt.mpr c_9
        have hi9 : i = n := le_end hi c_9 hn8
        refine lv_iconst (v := 0) S.1 S.2.1 dX5_day_23 (by decide) ?_
        refine lv_istore_n (lv' := [(1, .int 0), (0, .ref (am 0))]) S.1 S.2.1 dX5_day_24 rfl hl (by decide) rfl (fun ls hl => ?_)
        have L_25 : ∀ (fu : Nat) (k : Nat) (rk : Row), (k ≤ n) → (n < k + fu) → (rk = fireN (gathN r (wthr r) n) k) → (rk 1 = nI n) → (rk 0 = nI d) → (k = 0 ∨ d % 7 = 6) → ∀ (H : Heap) (locs : List Loc), PE E [[mObj am q], [(am 1, .inl (E.2.1, 77, .inl (sg rk 77)))]] H → DE (inB [[mObj am q], [(am 1, .inl (E.2.1, 77, .inl (sg r 77)))]]) [[mObj am q], [(am 1, .inl (E.2.1, 77, .inl (sg rk 77)))]] → va_S (inB [[mObj am q], [(am 1, .inl (E.2.1, 77, .inl (sg r 77)))]]) s.heap H locs → ∀ (ls : Array Slot), lv_has ls 2 [(0, .ref (am 0)), (1, .int (nI k))] → W p l e ({ frames := 5, cells := 0, slots := 0, locals := 106 }) s m ([.ref (am 0)] : List Value).toArray below meth c H locs 0 0 (MQ below (qV E [[mObj am q], [(am 1, .inl (E.2.1, 77, .inl (sg r 77)))]] [[mObj am q], [(am 1, .inl (E.2.1, 77, .inl (sg (dayF r) 77)))]]) ([.ref (am 0)] : List Value).toArray s 0 0 (inB [[mObj am q], [(am 1, .inl (E.2.1, 77, .inl (sg r 77)))]])) (F0 m 25 ls []) := by
          intro fu
          induction fu with
          | zero =>
            intro k rk hk hg hrk hn2 hd2 hk0
            omega
          | succ fu ih_25 =>
            intro k rk hk hg hrk hn2 hd2 hk0 H locs hP hD hS ls hl
            refine lv_iload_n S.1 S.2.1 dX5_day_25 rfl (lv_at hl 1 rfl) ?_
            refine lv_aload_n S.1 S.2.1 dX5_day_26 rfl (lv_at hl 0 rfl) ?_
            refine gf_X5_9 S hK hP 0 0 rfl rfl rfl dX5_day_27 ?_
            refine lv_iconst (v := 1) S.1 S.2.1 dX5_day_30 (by decide) ?_
            refine b_ialdN (i := 1) S hK hP 1 0 rfl rfl (by omega) (by decide) dX5_day_31 ?_
            refine lv_eqi (y := nI n) ((sg_at (by omega)).trans hn2) ?_
            refine lv_icmp_ge (tgt := 60) S.1 S.2.1 dX5_day_32 (by decide) (fun c_32 => ?_) (fun c_32 => ?_)
            · have n_32 := Int32.not_lt.mpr c_32
              have hfin : (if d % 7 = 6 then fireN (gathN r (wthr r) n) n else gathN r (wthr r) n) = rk := by (have hk9 : k = n := le_end hk c_32 hn8; exact hk0.elim (fun q => by rw [hrk, hk9, show n = 0 by omega]; split <;> rfl) (fun q => by rw [if_pos q, hrk, hk9]))
              refine lv_aload_n S.1 S.2.1 dX5_day_60 rfl (lv_at hl 0 rfl) ?_
              refine gf_X5_9 S hK hP 0 0 rfl rfl rfl dX5_day_61 ?_
              refine lv_iconst (v := 0) S.1 S.2.1 dX5_day_64 (by decide) ?_
              refine lv_ldc (v := 99999) S.1 S.2.1 S.2.2.2.1 (S.2.2.2.2 _ (List.mem_cons_of_mem _ kk_X5_138)) dX5_day_65 ?_
              refine lv_aload_n S.1 S.2.1 dX5_day_67 rfl (lv_at hl 0 rfl) ?_
              refine gf_X5_9 S hK hP 0 0 rfl rfl rfl dX5_day_68 ?_
              refine lv_iconst (v := 0) S.1 S.2.1 dX5_day_71 (by decide) ?_
              refine b_ialdN (i := 0) S hK hP 1 0 rfl rfl (by omega) (by decide) dX5_day_72 ?_
              refine lv_eqi (y := nI d) ((sg_at (by omega)).trans hd2) ?_
              refine lv_iconst (v := 1) S.1 S.2.1 dX5_day_73 (by decide) ?_
              refine lv_iadd S.1 S.2.1 dX5_day_74 ?_
              refine lv_eqi (y := nI (d + 1)) (nI_add d 1) ?_
              refine va_mmin S.1 S.2.1 (S.2.2.1.trans hl.1.symm) S.2.2.2.1 (S.2.2.2.2 _ (List.mem_cons_of_mem _ mk_X5_132)) (S.2.2.2.2 _ (List.mem_cons_of_mem _ sk_JMmin)) (S.2.2.2.2 _ (List.mem_cons_of_mem _ nk_J9)) (S.2.2.2.2 _ (List.mem_cons_of_mem _ ck_JMmin)) (Nat.le_of_ble_eq_true rfl) (Nat.le_of_ble_eq_true rfl) (Nat.zero_le _) (Nat.zero_le _) dX5_day_75 ?_
              refine b_iastN (i := 0) S hK hP hD hS 1 0 rfl rfl (by omega) (by decide) (sgs_upd (by omega)) (Bs1 := [[mObj am q], [(am 1, .inl (E.2.1, 77, .inl (sg (upd rk 0 (if (nI (d + 1)) < 99999 then (nI (d + 1)) else 99999)) 77)))]]) rfl dX5_day_78 (fun H locs hP hD hS => ?_)
              obtain ⟨r_78, er_78⟩ : ∃ z, z = upd rk 0 (if (nI (d + 1)) < 99999 then (nI (d + 1)) else 99999) := ⟨_, rfl⟩
              rw [← er_78] at hP hD
              have hr_78_1 : r_78 1 = nI n := by rw [er_78]; exact (upd_ne (by omega)).trans hn2
              exact retV S hr hlk (by rw [show dayF r = r_78 by (unfold dayF dayEnd; rw [cntN_eq hn hn8, dayN_eq hd hd5, show (if d % 7 = 6 then fireN (gathN r (wthr r) n) n else gathN r (wthr r) n) = rk from hfin, hd2, nI_1, er_78]; exact congrArg (upd rk 0) (mn_sw2 _ _))]; exact hP) hS dX5_day_79
            · have n_32 := Int32.not_le.mp c_32
              have hk2 : k < n := lt_in c_32 hk
              refine lv_aload_n S.1 S.2.1 dX5_day_35 rfl (lv_at hl 0 rfl) ?_
              refine gf_X5_9 S hK hP 0 0 rfl rfl rfl dX5_day_36 ?_
              refine lv_iconst (v := 0) S.1 S.2.1 dX5_day_39 (by decide) ?_
              refine b_ialdN (i := 0) S hK hP 1 0 rfl rfl (by omega) (by decide) dX5_day_40 ?_
              refine lv_eqi (y := nI d) ((sg_at (by omega)).trans hd2) ?_
              refine lv_bipush (v := 7) S.1 S.2.1 dX5_day_41 (by decide) ?_
              refine lv_irem S.1 S.2.1 dX5_day_43 (by decide) ?_
              refine lv_eqi (y := nI (d % 7)) (pk_rem (a := d) (d := 7) (by omega) (by decide) (by decide)) ?_
              refine lv_bipush (v := 6) S.1 S.2.1 dX5_day_44 (by decide) ?_
              refine lv_icmp_ne (tgt := 60) S.1 S.2.1 dX5_day_46 (by decide) (fun c_46 => ?_) (fun c_46 => ?_)
              · have hfin : (if d % 7 = 6 then fireN (gathN r (wthr r) n) n else gathN r (wthr r) n) = rk := by (have q6 : ¬ d % 7 = 6 := fun q => c_46 (by rw [q]; rfl); have q0 : k = 0 := (by rcases hk0 with q | q; exact q; exact absurd q q6); rw [if_neg q6, hrk, q0]; rfl)
                refine lv_aload_n S.1 S.2.1 dX5_day_60 rfl (lv_at hl 0 rfl) ?_
                refine gf_X5_9 S hK hP 0 0 rfl rfl rfl dX5_day_61 ?_
                refine lv_iconst (v := 0) S.1 S.2.1 dX5_day_64 (by decide) ?_
                refine lv_ldc (v := 99999) S.1 S.2.1 S.2.2.2.1 (S.2.2.2.2 _ (List.mem_cons_of_mem _ kk_X5_138)) dX5_day_65 ?_
                refine lv_aload_n S.1 S.2.1 dX5_day_67 rfl (lv_at hl 0 rfl) ?_
                refine gf_X5_9 S hK hP 0 0 rfl rfl rfl dX5_day_68 ?_
                refine lv_iconst (v := 0) S.1 S.2.1 dX5_day_71 (by decide) ?_
                refine b_ialdN (i := 0) S hK hP 1 0 rfl rfl (by omega) (by decide) dX5_day_72 ?_
                refine lv_eqi (y := nI d) ((sg_at (by omega)).trans hd2) ?_
                refine lv_iconst (v := 1) S.1 S.2.1 dX5_day_73 (by decide) ?_
                refine lv_iadd S.1 S.2.1 dX5_day_74 ?_
                refine lv_eqi (y := nI (d + 1)) (nI_add d 1) ?_
                refine va_mmin S.1 S.2.1 (S.2.2.1.trans hl.1.symm) S.2.2.2.1 (S.2.2.2.2 _ (List.mem_cons_of_mem _ mk_X5_132)) (S.2.2.2.2 _ (List.mem_cons_of_mem _ sk_JMmin)) (S.2.2.2.2 _ (List.mem_cons_of_mem _ nk_J9)) (S.2.2.2.2 _ (List.mem_cons_of_mem _ ck_JMmin)) (Nat.le_of_ble_eq_true rfl) (Nat.le_of_ble_eq_true rfl) (Nat.zero_le _) (Nat.zero_le _) dX5_day_75 ?_
                refine b_iastN (i := 0) S hK hP hD hS 1 0 rfl rfl (by omega) (by decide) (sgs_upd (by omega)) (Bs1 := [[mObj am q], [(am 1, .inl (E.2.1, 77, .inl (sg (upd rk 0 (if (nI (d + 1)) < 99999 then (nI (d + 1)) else 99999)) 77)))]]) rfl dX5_day_78 (fun H locs hP hD hS => ?_)
                obtain ⟨r_78_1, er_78_1⟩ : ∃ z, z = upd rk 0 (if (nI (d + 1)) < 99999 then (nI (d + 1)) else 99999) := ⟨_, rfl⟩
                rw [← er_78_1] at hP hD
                have hr_78_1_1 : r_78_1 1 = nI n := by rw [er_78_1]; exact (upd_ne (by omega)).trans hn2
                exact retV S hr hlk (by rw [show dayF r = r_78_1 by (unfold dayF dayEnd; rw [cntN_eq hn hn8, dayN_eq hd hd5, show (if d % 7 = 6 then fireN (gathN r (wthr r) n) n else gathN r (wthr r) n) = rk from hfin, hd2, nI_1, er_78_1]; exact congrArg (upd rk 0) (mn_sw2 _ _))]; exact hP) hS dX5_day_79
              · have hmod : d % 7 = 6 := (nI_eq (by omega) (by omega)).mp c_46
                refine lv_aload_n S.1 S.2.1 dX5_day_49 rfl (lv_at hl 0 rfl) ?_
                refine lv_iload_n S.1 S.2.1 dX5_day_50 rfl (lv_at hl 1 rfl) ?_
                refine go_V (run_V (As := [.int (nI k)]) (rest := []) (n := 1) S hK (bl_P hP [0, 1] rfl) (bl_D hD [0, 1] rfl rfl) (c_X5_fires l E am q rk k (by omega)) gV_X5_143 (by decide +kernel) rfl ⟨rfl, rfl⟩ ⟨Nat.le_of_ble_eq_true rfl, Nat.le_of_ble_eq_true rfl⟩ (ci := 5) (q0 := 0) rfl rfl hl.1 (Nat.le_of_ble_eq_true rfl) dX5_day_51 ⟨Nat.zero_le _, Nat.zero_le _⟩) hP hD hS [0, 1] rfl (had_cons rfl (had_cons cell_ad rfl)) (Bs' := [[mObj am q], [(am 1, .inl (E.2.1, 77, .inl (sg (fireF rk k) 77)))]]) rfl (fun H locs hP hD hS => ?_)
                obtain ⟨r_51, er_51⟩ : ∃ z : Row, z = fireF rk k := ⟨_, rfl⟩
                rw [← er_51] at hP hD
                have hr_51_1 : r_51 1 = nI n := by rw [er_51]; exact (fireF_lo (by decide)).trans hn2
                have hr_51_0 : r_51 0 = nI d := by rw [er_51]; exact (fireF_lo (by decide)).trans hd2
                refine lv_iinc (v := nI (k + 1)) (lv' := [(1, .int (nI (k + 1))), (0, .ref (am 0))]) S.1 S.2.1 dX5_day_54 hl (k := 1) rfl (nI_1 k) (by decide) rfl (fun ls hl => ?_)
                refine lv_goto (tgt := 25) S.1 S.2.1 dX5_day_57 (by decide) ?_
                exact ih_25 (k + 1) r_51 (by omega) (by omega) (by rw [er_51, hrk]; rfl) hr_51_1 hr_51_0 (Or.inr hmod) H locs hP hD hS ls (lv_sub hl [1, 0] rfl)
        exact L_25 (n + 1) 0 ri (by omega) (by omega) (by rw [hri, hi9]; rfl) hn1 hd1 (Or.inl rfl) H locs hP hD hS ls (lv_sub hl [1, 0] rfl)
      · have n_9 := Int32.not_le.mp c_9
        have hi2 : i < n := lt_in c_9 hi
        have hwt : wthr ri = wthr r := by (unfold wthr; rw [dayN_eq hd hd5, dayN_eq hd1 hd5, hri, gathN_lo (by omega)])
        refine lv_aload_n S.1 S.2.1 dX5_day_12 rfl (lv_at hl 0 rfl) ?_
        refine lv_iload_n S.1 S.2.1 dX5_day_13 rfl (lv_at hl 1 rfl) ?_
        refine go_V (run_V (As := [.int (nI i)]) (rest := []) (n := 1) S hK (bl_P hP [0, 1] rfl) (bl_D hD [0, 1] rfl rfl) (c_X5_gathers l E am q ri i hR1 (by rw [cntN_eq hn1 hn8]; exact hi2)) gV_X5_139 (by decide +kernel) rfl ⟨rfl, rfl⟩ ⟨Nat.le_of_ble_eq_true rfl, Nat.le_of_ble_eq_true rfl⟩ (ci := 5) (q0 := 0) rfl rfl hl.1 (Nat.le_of_ble_eq_true rfl) dX5_day_14 ⟨Nat.zero_le _, Nat.zero_le _⟩) hP hD hS [0, 1] rfl (had_cons rfl (had_cons cell_ad rfl)) (Bs' := [[mObj am q], [(am 1, .inl (E.2.1, 77, .inl (sg (gatherF ri i (wthr ri)) 77)))]]) rfl (fun H locs hP hD hS => ?_)
        obtain ⟨r_14, er_14⟩ : ∃ z : Row, z = gatherF ri i (wthr ri) := ⟨_, rfl⟩
        rw [← er_14] at hP hD
        have hr_14_1 : r_14 1 = nI n := by rw [er_14]; exact (gatherF_lo (by decide)).trans hn1
        have hr_14_0 : r_14 0 = nI d := by rw [er_14]; exact (gatherF_lo (by decide)).trans hd1
        have hr_14_RI : RI r_14 := by rw [er_14]; exact gatherF_RI hR1 (by rw [cntN_eq hn1 hn8]; exact hi2) (wthr_nat hR1)
        refine lv_iinc (v := nI (i + 1)) (lv' := [(1, .int (nI (i + 1))), (0, .ref (am 0))]) S.1 S.2.1 dX5_day_17 hl (k := 1) rfl (nI_1 i) (by decide) rfl (fun ls hl => ?_)
        refine lv_goto (tgt := 2) S.1 S.2.1 dX5_day_20 (by decide) ?_
        exact ih_2 (i + 1) r_14 (by omega) (by omega) (by rw [er_14, hwt, hri]; rfl) hr_14_1 hr_14_0 hr_14_RI H locs hP hD hS ls (lv_sub hl [1, 0] rfl)
  exact L_2 (n + 1) 0 r (by omega) (by omega) rfl hn hd hR H locs hP hD hS ls (lv_sub hl [1, 0] rfl)
set_option maxHeartbeats 4000000 in
set_option maxRecDepth 100000 in
theorem c_X5_daysGo (l : Launch) (E : EV) (am : Nat → Nat) (q r : Row) (n : Nat) (hn : n < 2147483648) (hR : RI r) : Met l yX5_daysGo (wq yX5_daysGo cX5_daysGo 3 none) ({ frames := 6, cells := 0, slots := 0, locals := 127 }) (preB E [.ref (am 0), .int (nI n)] [[mObj am q], [(am 1, .inl (E.2.1, 77, .inl (sg r 77)))]]) (qV E [[mObj am q], [(am 1, .inl (E.2.1, 77, .inl (sg r 77)))]] [[mObj am q], [(am 1, .inl (E.2.1, 77, .inl (sg (daysF r n) 77)))]]) 0 0 (inB [[mObj am q], [(am 1, .inl (E.2.1, 77, .inl (sg r 77)))]]) := by
  refine M_mk RX5 (by decide) rfl (Nat.le_of_ble_eq_true rfl) ?_
  intro p e s m below meth c S hr hlk hK hP hD hS ls hl
  have hl : lv_has ls 3 [(0, .ref (am 0)), (1, .int (nI n))] := hl
  obtain ⟨H, hH⟩ : ∃ z, z = s.heap := ⟨_, rfl⟩
  obtain ⟨locs, hlocs⟩ : ∃ z : List Loc, z = [] := ⟨_, rfl⟩
  have hP : PE E [[mObj am q], [(am 1, .inl (E.2.1, 77, .inl (sg r 77)))]] H := by rw [hH]; exact hP
  have hS : va_S (inB [[mObj am q], [(am 1, .inl (E.2.1, 77, .inl (sg r 77)))]]) s.heap H locs := by rw [hH, hlocs]; exact hS
  show W p l e ({ frames := 6, cells := 0, slots := 0, locals := 127 }) s m ([.ref (am 0), .int (nI n)] : List Value).toArray below meth c s.heap [] 0 0 _ _
  suffices hgo : W p l e ({ frames := 6, cells := 0, slots := 0, locals := 127 }) s m ([.ref (am 0), .int (nI n)] : List Value).toArray below meth c H locs 0 0 (MQ below (qV E [[mObj am q], [(am 1, .inl (E.2.1, 77, .inl (sg r 77)))]] [[mObj am q], [(am 1, .inl (E.2.1, 77, .inl (sg (daysF r n) 77)))]]) ([.ref (am 0), .int (nI n)] : List Value).toArray s 0 0 (inB [[mObj am q], [(am 1, .inl (E.2.1, 77, .inl (sg r 77)))]])) (F0 m 0 ls []) by rw [hH, hlocs] at hgo; exact hgo
  clear hH hlocs
  refine lv_iconst (v := 0) S.1 S.2.1 dX5_daysGo_0 (by decide) ?_
  refine lv_istore_n (lv' := [(2, .int 0), (0, .ref (am 0)), (1, .int (nI n))]) S.1 S.2.1 dX5_daysGo_1 rfl hl (by decide) rfl (fun ls hl => ?_)
  have L_2 : ∀ (fu : Nat) (i : Nat) (ri : Row), (i ≤ n) → (n < i + fu) → (ri = daysF r i) → (RI ri) → ∀ (H : Heap) (locs : List Loc), PE E [[mObj am q], [(am 1, .inl (E.2.1, 77, .inl (sg ri 77)))]] H → DE (inB [[mObj am q], [(am 1, .inl (E.2.1, 77, .inl (sg r 77)))]]) [[mObj am q], [(am 1, .inl (E.2.1, 77, .inl (sg ri 77)))]] → va_S (inB [[mObj am q], [(am 1, .inl (E.2.1, 77, .inl (sg r 77)))]]) s.heap H locs → ∀ (ls : Array Slot), lv_has ls 3 [(0, .ref (am 0)), (1, .int (nI n)), (2, .int (nI i))] → W p l e ({ frames := 6, cells := 0, slots := 0, locals := 127 }) s m ([.ref (am 0), .int (nI n)] : List Value).toArray below meth c H locs 0 0 (MQ below (qV E [[mObj am q], [(am 1, .inl (E.2.1, 77, .inl (sg r 77)))]] [[mObj am q], [(am 1, .inl (E.2.1, 77, .inl (sg (daysF r n) 77)))]]) ([.ref (am 0), .int (nI n)] : List Value).toArray s 0 0 (inB [[mObj am q], [(am 1, .inl (E.2.1, 77, .inl (sg r 77)))]])) (F0 m 2 ls []) := by
    intro fu
    induction fu with
    | zero =>
      intro i ri hi hf hri hR1
      omega
    | succ fu ih_2 =>
      intro i ri hi hf hri hR1 H locs hP hD hS ls hl
      refine lv_iload_n S.1 S.2.1 dX5_daysGo_2 rfl (lv_at hl 2 rfl) ?_
      refine lv_iload_n S.1 S.2.1 dX5_daysGo_3 rfl (lv_at hl 1 rfl) ?_
      refine lv_icmp_ge (tgt := 17) S.1 S.2.1 dX5_daysGo_4 (by decide) (fun c_4 => ?_) (fun c_4 => ?_)
      · have n_4 := Int32.not_lt.mpr c_4
        have hi9 : i = n := le_endK hi c_4 hn
        exact retV S hr hlk (by rw [← hi9, ← hri]; exact hP) hS dX5_daysGo_17
      · have n_4 := Int32.not_le.mp c_4
        have hi2 : i < n := lt_in c_4 hi
        refine lv_aload_n S.1 S.2.1 dX5_daysGo_7 rfl (lv_at hl 0 rfl) ?_
        refine go_V (run_V (As := []) (rest := []) (n := 0) S hK (bl_P hP [0, 1] rfl) (bl_D hD [0, 1] rfl rfl) (c_X5_day l E am q ri hR1) gV_X5_146 (by decide +kernel) rfl ⟨rfl, rfl⟩ ⟨Nat.le_of_ble_eq_true rfl, Nat.le_of_ble_eq_true rfl⟩ (ci := 5) (q0 := 0) rfl rfl hl.1 (Nat.le_of_ble_eq_true rfl) dX5_daysGo_8 ⟨Nat.zero_le _, Nat.zero_le _⟩) hP hD hS [0, 1] rfl (had_cons rfl (had_cons cell_ad rfl)) (Bs' := [[mObj am q], [(am 1, .inl (E.2.1, 77, .inl (sg (dayF ri) 77)))]]) rfl (fun H locs hP hD hS => ?_)
        obtain ⟨r_8, er_8⟩ : ∃ z : Row, z = dayF ri := ⟨_, rfl⟩
        rw [← er_8] at hP hD
        have hr_8_RI : RI r_8 := by rw [er_8]; exact dayF_RI hR1
        refine lv_iinc (v := nI (i + 1)) (lv' := [(2, .int (nI (i + 1))), (0, .ref (am 0)), (1, .int (nI n))]) S.1 S.2.1 dX5_daysGo_11 hl (k := 2) rfl (nI_1 i) (by decide) rfl (fun ls hl => ?_)
        refine lv_goto (tgt := 2) S.1 S.2.1 dX5_daysGo_14 (by decide) ?_
        exact ih_2 (i + 1) r_8 (by omega) (by omega) (by rw [er_8, hri]; rfl) hr_8_RI H locs hP hD hS ls (lv_sub hl [1, 2, 0] rfl)
  exact L_2 (n + 1) 0 r (by omega) (by omega) rfl hR H locs hP hD hS ls (lv_sub hl [1, 2, 0] rfl)
set_option maxHeartbeats 4000000 in
set_option maxRecDepth 100000 in
theorem c_X5_sumOf (l : Launch) (E : EV) (am : Nat → Nat) (q r : Row) (f : Nat) (hf7 : f < 7) (hR : RI r) : Met l yX5_sumOf (wq yX5_sumOf cX5_sumOf 4 (some .int)) ({ frames := 2, cells := 0, slots := 0, locals := 43 }) (preB E [.ref (am 0), .int (nI f)] [[mObj am q], [(am 1, .inl (E.2.1, 77, .inl (sg r 77)))]]) (qS (sumR r f (cntN r))) 0 0 (fun _ => False) := by
  refine M_mk RX5 (by decide) rfl (Nat.le_of_ble_eq_true rfl) ?_
  intro p e s m below meth c S hr hlk hK hP hD hS ls hl
  have hl : lv_has ls 4 [(0, .ref (am 0)), (1, .int (nI f))] := hl
  obtain ⟨n, d, hn, hn8, hd, hd5, ho, hso, hli, hsp, hpt⟩ := id hR
  refine lv_iconst (v := 0) S.1 S.2.1 dX5_sumOf_0 (by decide) ?_
  refine lv_istore_n (lv' := [(2, .int 0), (0, .ref (am 0)), (1, .int (nI f))]) S.1 S.2.1 dX5_sumOf_1 rfl hl (by decide) rfl (fun ls hl => ?_)
  refine lv_iconst (v := 0) S.1 S.2.1 dX5_sumOf_2 (by decide) ?_
  refine lv_istore_n (lv' := [(3, .int 0), (2, .int 0), (0, .ref (am 0)), (1, .int (nI f))]) S.1 S.2.1 dX5_sumOf_3 rfl hl (by decide) rfl (fun ls hl => ?_)
  have L_4 : ∀ (fu : Nat) (i : Nat) (x : Int32), (i ≤ n) → (n < i + fu) → (x = sumR r f i) → ∀ (ls : Array Slot), lv_has ls 4 [(0, .ref (am 0)), (1, .int (nI f)), (3, .int (nI i)), (2, .int x)] → W p l e ({ frames := 2, cells := 0, slots := 0, locals := 43 }) s m ([.ref (am 0), .int (nI f)] : List Value).toArray below meth c s.heap [] 0 0 (MQ below (qS (sumR r f (cntN r))) ([.ref (am 0), .int (nI f)] : List Value).toArray s 0 0 (fun _ => False)) (F0 m 4 ls []) := by
    intro fu
    induction fu with
    | zero =>
      intro i x hi hf hx
      omega
    | succ fu ih_4 =>
      intro i x hi hf hx ls hl
      refine lv_iload_n S.1 S.2.1 dX5_sumOf_4 rfl (lv_at hl 2 rfl) ?_
      refine lv_aload_n S.1 S.2.1 dX5_sumOf_5 rfl (lv_at hl 0 rfl) ?_
      refine gf_X5_9 S hK hP 0 0 rfl rfl rfl dX5_sumOf_6 ?_
      refine lv_iconst (v := 1) S.1 S.2.1 dX5_sumOf_9 (by decide) ?_
      refine b_ialdN (i := 1) S hK hP 1 0 rfl rfl (by omega) (by decide) dX5_sumOf_10 ?_
      refine lv_eqi (y := nI n) ((sg_at (by omega)).trans hn) ?_
      refine lv_icmp_ge (tgt := 29) S.1 S.2.1 dX5_sumOf_11 (by decide) (fun c_11 => ?_) (fun c_11 => ?_)
      · have n_11 := Int32.not_lt.mpr c_11
        have hi9 : i = n := le_end hi c_11 hn8
        refine lv_iload_n S.1 S.2.1 dX5_sumOf_29 rfl (lv_at hl 3 rfl) ?_
        exact retS S hr hlk (by rw [cntN_eq hn hn8, hx, hi9]) dX5_sumOf_30
      · have n_11 := Int32.not_le.mp c_11
        have hi2 : i < n := lt_in c_11 hi
        refine lv_iload_n S.1 S.2.1 dX5_sumOf_14 rfl (lv_at hl 3 rfl) ?_
        refine lv_aload_n S.1 S.2.1 dX5_sumOf_15 rfl (lv_at hl 0 rfl) ?_
        refine lv_iload_n S.1 S.2.1 dX5_sumOf_16 rfl (lv_at hl 2 rfl) ?_
        refine lv_iload_n S.1 S.2.1 dX5_sumOf_17 rfl (lv_at hl 1 rfl) ?_
        refine go_S (run_V (As := [.int (nI i), .int (nI f)]) (rest := [.int x]) (n := 2) S hK (bl_P hP [0, 1] rfl) (bl_D hD [0, 1] rfl rfl) (c_X5_potterIs l E am q r i f (by omega) (by omega)) gV_X5_92 (by decide +kernel) rfl ⟨rfl, rfl⟩ ⟨Nat.le_of_ble_eq_true rfl, Nat.le_of_ble_eq_true rfl⟩ (ci := 5) (q0 := 0) rfl rfl hl.1 (Nat.le_of_ble_eq_true rfl) dX5_sumOf_18 ⟨Nat.zero_le _, Nat.zero_le _⟩) ?_
        refine lv_iadd S.1 S.2.1 dX5_sumOf_21 ?_
        refine lv_istore_n (lv' := [(2, .int (x + (r (21 + 7 * i + f)))), (0, .ref (am 0)), (1, .int (nI f)), (3, .int (nI i))]) S.1 S.2.1 dX5_sumOf_22 rfl hl (by decide) rfl (fun ls hl => ?_)
        refine lv_iinc (v := nI (i + 1)) (lv' := [(3, .int (nI (i + 1))), (2, .int (x + (r (21 + 7 * i + f)))), (0, .ref (am 0)), (1, .int (nI f))]) S.1 S.2.1 dX5_sumOf_23 hl (k := 3) rfl (nI_1 i) (by decide) rfl (fun ls hl => ?_)
        refine lv_goto (tgt := 4) S.1 S.2.1 dX5_sumOf_26 (by decide) ?_
        exact ih_4 (i + 1) (x + (r (21 + 7 * i + f))) (by omega) (by omega) (by rw [show sumR r f (i + 1) = _ from rfl]; subst_vars; simp only [sumR, c_11, n_11, ↓reduceIte])  ls (lv_sub hl [2, 3, 0, 1] rfl)
  exact L_4 (n + 1) 0 0 (by omega) (by omega) rfl  ls (lv_sub hl [2, 3, 0, 1] rfl)
set_option maxHeartbeats 4000000 in
set_option maxRecDepth 100000 in
theorem c_X5_colours (l : Launch) (E : EV) (am : Nat → Nat) (q r : Row) (hR : RI r) : Met l yX5_colours (wq yX5_colours cX5_colours 3 (some .int)) ({ frames := 2, cells := 0, slots := 0, locals := 43 }) (preB E [.ref (am 0)] [[mObj am q], [(am 1, .inl (E.2.1, 77, .inl (sg r 77)))]]) (qS (colR r (cntN r))) 0 0 (fun _ => False) := by
  refine M_mk RX5 (by decide) rfl (Nat.le_of_ble_eq_true rfl) ?_
  intro p e s m below meth c S hr hlk hK hP hD hS ls hl
  have hl : lv_has ls 3 [(0, .ref (am 0))] := hl
  obtain ⟨n, d, hn, hn8, hd, hd5, ho, hso, hli, hsp, hpt⟩ := id hR
  refine lv_iconst (v := 0) S.1 S.2.1 dX5_colours_0 (by decide) ?_
  refine lv_istore_n (lv' := [(1, .int 0), (0, .ref (am 0))]) S.1 S.2.1 dX5_colours_1 rfl hl (by decide) rfl (fun ls hl => ?_)
  refine lv_iconst (v := 0) S.1 S.2.1 dX5_colours_2 (by decide) ?_
  refine lv_istore_n (lv' := [(2, .int 0), (1, .int 0), (0, .ref (am 0))]) S.1 S.2.1 dX5_colours_3 rfl hl (by decide) rfl (fun ls hl => ?_)
  have L_4 : ∀ (fu : Nat) (i : Nat) (x : Int32), (i ≤ n) → (n < i + fu) → (x = colR r i) → ∀ (ls : Array Slot), lv_has ls 3 [(0, .ref (am 0)), (2, .int (nI i)), (1, .int x)] → W p l e ({ frames := 2, cells := 0, slots := 0, locals := 43 }) s m ([.ref (am 0)] : List Value).toArray below meth c s.heap [] 0 0 (MQ below (qS (colR r (cntN r))) ([.ref (am 0)] : List Value).toArray s 0 0 (fun _ => False)) (F0 m 4 ls []) := by
    intro fu
    induction fu with
    | zero =>
      intro i x hi hf hx
      omega
    | succ fu ih_4 =>
      intro i x hi hf hx ls hl
      refine lv_iload_n S.1 S.2.1 dX5_colours_4 rfl (lv_at hl 1 rfl) ?_
      refine lv_aload_n S.1 S.2.1 dX5_colours_5 rfl (lv_at hl 0 rfl) ?_
      refine gf_X5_9 S hK hP 0 0 rfl rfl rfl dX5_colours_6 ?_
      refine lv_iconst (v := 1) S.1 S.2.1 dX5_colours_9 (by decide) ?_
      refine b_ialdN (i := 1) S hK hP 1 0 rfl rfl (by omega) (by decide) dX5_colours_10 ?_
      refine lv_eqi (y := nI n) ((sg_at (by omega)).trans hn) ?_
      refine lv_icmp_ge (tgt := 44) S.1 S.2.1 dX5_colours_11 (by decide) (fun c_11 => ?_) (fun c_11 => ?_)
      · have n_11 := Int32.not_lt.mpr c_11
        have hi9 : i = n := le_end hi c_11 hn8
        refine lv_iload_n S.1 S.2.1 dX5_colours_44 rfl (lv_at hl 2 rfl) ?_
        exact retS S hr hlk (by rw [cntN_eq hn hn8, hx, hi9]) dX5_colours_45
      · have n_11 := Int32.not_le.mp c_11
        have hi2 : i < n := lt_in c_11 hi
        refine lv_iload_n S.1 S.2.1 dX5_colours_14 rfl (lv_at hl 2 rfl) ?_
        refine lv_aload_n S.1 S.2.1 dX5_colours_15 rfl (lv_at hl 0 rfl) ?_
        refine lv_iload_n S.1 S.2.1 dX5_colours_16 rfl (lv_at hl 1 rfl) ?_
        refine lv_iconst (v := 5) S.1 S.2.1 dX5_colours_17 (by decide) ?_
        refine go_S (run_V (As := [.int (nI i), .int 5]) (rest := [.int x]) (n := 2) S hK (bl_P hP [0, 1] rfl) (bl_D hD [0, 1] rfl rfl) (c_X5_potterIs l E am q r i 5 (by omega) (by omega)) gV_X5_92 (by decide +kernel) rfl ⟨rfl, rfl⟩ ⟨Nat.le_of_ble_eq_true rfl, Nat.le_of_ble_eq_true rfl⟩ (ci := 5) (q0 := 0) rfl rfl hl.1 (Nat.le_of_ble_eq_true rfl) dX5_colours_18 ⟨Nat.zero_le _, Nat.zero_le _⟩) ?_
        refine lv_if_le (tgt := 35) S.1 S.2.1 dX5_colours_21 (by decide) (fun c_21 => ?_) (fun c_21 => ?_)
        · have n_21 := Int32.not_lt.mpr c_21
          refine lv_iconst (v := 0) S.1 S.2.1 dX5_colours_35 (by decide) ?_
          refine lv_ior S.1 S.2.1 dX5_colours_36 ?_
          refine lv_istore_n (lv' := [(1, .int (x ||| 0)), (0, .ref (am 0)), (2, .int (nI i))]) S.1 S.2.1 dX5_colours_37 rfl hl (by decide) rfl (fun ls hl => ?_)
          refine lv_iinc (v := nI (i + 1)) (lv' := [(2, .int (nI (i + 1))), (1, .int (x ||| 0)), (0, .ref (am 0))]) S.1 S.2.1 dX5_colours_38 hl (k := 2) rfl (nI_1 i) (by decide) rfl (fun ls hl => ?_)
          refine lv_goto (tgt := 4) S.1 S.2.1 dX5_colours_41 (by decide) ?_
          exact ih_4 (i + 1) (x ||| 0) (by omega) (by omega) (by rw [show colR r (i + 1) = _ from rfl]; subst_vars; simp only [colR, Int32.or_zero, c_11, n_11, c_21, n_21, ↓reduceIte])  ls (lv_sub hl [2, 0, 1] rfl)
        · have n_21 := Int32.not_le.mp c_21
          refine lv_iconst (v := 1) S.1 S.2.1 dX5_colours_24 (by decide) ?_
          refine lv_aload_n S.1 S.2.1 dX5_colours_25 rfl (lv_at hl 0 rfl) ?_
          refine lv_iload_n S.1 S.2.1 dX5_colours_26 rfl (lv_at hl 1 rfl) ?_
          refine lv_iconst (v := 4) S.1 S.2.1 dX5_colours_27 (by decide) ?_
          refine go_S (run_V (As := [.int (nI i), .int 4]) (rest := [.int 1, .int x]) (n := 2) S hK (bl_P hP [0, 1] rfl) (bl_D hD [0, 1] rfl rfl) (c_X5_potterIs l E am q r i 4 (by omega) (by omega)) gV_X5_92 (by decide +kernel) rfl ⟨rfl, rfl⟩ ⟨Nat.le_of_ble_eq_true rfl, Nat.le_of_ble_eq_true rfl⟩ (ci := 5) (q0 := 0) rfl rfl hl.1 (Nat.le_of_ble_eq_true rfl) dX5_colours_28 ⟨Nat.zero_le _, Nat.zero_le _⟩) ?_
          refine lv_ishl S.1 S.2.1 dX5_colours_31 ?_
          refine lv_goto (tgt := 36) S.1 S.2.1 dX5_colours_32 (by decide) ?_
          refine lv_ior S.1 S.2.1 dX5_colours_36 ?_
          refine lv_istore_n (lv' := [(1, .int (x ||| (1 <<< ((r (21 + 7 * i + 4)) &&& 31)))), (0, .ref (am 0)), (2, .int (nI i))]) S.1 S.2.1 dX5_colours_37 rfl hl (by decide) rfl (fun ls hl => ?_)
          refine lv_iinc (v := nI (i + 1)) (lv' := [(2, .int (nI (i + 1))), (1, .int (x ||| (1 <<< ((r (21 + 7 * i + 4)) &&& 31)))), (0, .ref (am 0))]) S.1 S.2.1 dX5_colours_38 hl (k := 2) rfl (nI_1 i) (by decide) rfl (fun ls hl => ?_)
          refine lv_goto (tgt := 4) S.1 S.2.1 dX5_colours_41 (by decide) ?_
          exact ih_4 (i + 1) (x ||| (1 <<< ((r (21 + 7 * i + 4)) &&& 31))) (by omega) (by omega) (by rw [show colR r (i + 1) = _ from rfl]; subst_vars; simp only [colR, Int32.or_zero, c_11, n_11, c_21, n_21, ↓reduceIte])  ls (lv_sub hl [2, 0, 1] rfl)
  exact L_4 (n + 1) 0 0 (by omega) (by omega) rfl  ls (lv_sub hl [2, 0, 1] rfl)
set_option maxHeartbeats 4000000 in
set_option maxRecDepth 100000 in
theorem c_X5_ready (l : Launch) (E : EV) (am : Nat → Nat) (q r : Row) (hR : RI r) : Met l yX5_ready (wq yX5_ready cX5_ready 3 (some .int)) ({ frames := 4, cells := 0, slots := 0, locals := 85 }) (preB E [.ref (am 0)] [[mObj am q], [(am 1, .inl (E.2.1, 77, .inl (sg r 77)))]]) (qS (rdyR r (cntN r))) 0 0 (fun _ => False) := by
  refine M_mk RX5 (by decide) rfl (Nat.le_of_ble_eq_true rfl) ?_
  intro p e s m below meth c S hr hlk hK hP hD hS ls hl
  have hl : lv_has ls 3 [(0, .ref (am 0))] := hl
  obtain ⟨n, d, hn, hn8, hd, hd5, ho, hso, hli, hsp, hpt⟩ := id hR
  refine lv_iconst (v := 0) S.1 S.2.1 dX5_ready_0 (by decide) ?_
  refine lv_istore_n (lv' := [(1, .int 0), (0, .ref (am 0))]) S.1 S.2.1 dX5_ready_1 rfl hl (by decide) rfl (fun ls hl => ?_)
  refine lv_iconst (v := 0) S.1 S.2.1 dX5_ready_2 (by decide) ?_
  refine lv_istore_n (lv' := [(2, .int 0), (1, .int 0), (0, .ref (am 0))]) S.1 S.2.1 dX5_ready_3 rfl hl (by decide) rfl (fun ls hl => ?_)
  have L_4 : ∀ (fu : Nat) (i : Nat) (x : Int32), (i ≤ n) → (n < i + fu) → (x = rdyR r i) → ∀ (ls : Array Slot), lv_has ls 3 [(0, .ref (am 0)), (2, .int (nI i)), (1, .int x)] → W p l e ({ frames := 4, cells := 0, slots := 0, locals := 85 }) s m ([.ref (am 0)] : List Value).toArray below meth c s.heap [] 0 0 (MQ below (qS (rdyR r (cntN r))) ([.ref (am 0)] : List Value).toArray s 0 0 (fun _ => False)) (F0 m 4 ls []) := by
    intro fu
    induction fu with
    | zero =>
      intro i x hi hf hx
      omega
    | succ fu ih_4 =>
      intro i x hi hf hx ls hl
      refine lv_iload_n S.1 S.2.1 dX5_ready_4 rfl (lv_at hl 1 rfl) ?_
      refine lv_aload_n S.1 S.2.1 dX5_ready_5 rfl (lv_at hl 0 rfl) ?_
      refine gf_X5_9 S hK hP 0 0 rfl rfl rfl dX5_ready_6 ?_
      refine lv_iconst (v := 1) S.1 S.2.1 dX5_ready_9 (by decide) ?_
      refine b_ialdN (i := 1) S hK hP 1 0 rfl rfl (by omega) (by decide) dX5_ready_10 ?_
      refine lv_eqi (y := nI n) ((sg_at (by omega)).trans hn) ?_
      refine lv_icmp_ge (tgt := 38) S.1 S.2.1 dX5_ready_11 (by decide) (fun c_11 => ?_) (fun c_11 => ?_)
      · have n_11 := Int32.not_lt.mpr c_11
        have hi9 : i = n := le_end hi c_11 hn8
        refine lv_iload_n S.1 S.2.1 dX5_ready_38 rfl (lv_at hl 2 rfl) ?_
        exact retS S hr hlk (by rw [cntN_eq hn hn8, hx, hi9]) dX5_ready_39
      · have n_11 := Int32.not_le.mp c_11
        have hi2 : i < n := lt_in c_11 hi
        refine lv_iload_n S.1 S.2.1 dX5_ready_14 rfl (lv_at hl 2 rfl) ?_
        refine lv_aload_n S.1 S.2.1 dX5_ready_15 rfl (lv_at hl 0 rfl) ?_
        refine lv_iload_n S.1 S.2.1 dX5_ready_16 rfl (lv_at hl 1 rfl) ?_
        refine go_S (run_V (As := [.int (nI i)]) (rest := [.int x]) (n := 1) S hK (bl_P hP [0, 1] rfl) (bl_D hD [0, 1] rfl rfl) (c_X5_isReady l E am q r i (by omega)) gV_X5_135 (by decide +kernel) rfl ⟨rfl, rfl⟩ ⟨Nat.le_of_ble_eq_true rfl, Nat.le_of_ble_eq_true rfl⟩ (ci := 5) (q0 := 0) rfl rfl hl.1 (Nat.le_of_ble_eq_true rfl) dX5_ready_17 ⟨Nat.zero_le _, Nat.zero_le _⟩) ?_
        refine b_ifeq (tgt := 29) S.1 S.2.1 dX5_ready_20 (by decide) (fun c_20 => ?_) (fun c_20 => ?_)
        · refine lv_iconst (v := 0) S.1 S.2.1 dX5_ready_29 (by decide) ?_
          refine lv_ior S.1 S.2.1 dX5_ready_30 ?_
          refine lv_istore_n (lv' := [(1, .int (x ||| 0)), (0, .ref (am 0)), (2, .int (nI i))]) S.1 S.2.1 dX5_ready_31 rfl hl (by decide) rfl (fun ls hl => ?_)
          refine lv_iinc (v := nI (i + 1)) (lv' := [(2, .int (nI (i + 1))), (1, .int (x ||| 0)), (0, .ref (am 0))]) S.1 S.2.1 dX5_ready_32 hl (k := 2) rfl (nI_1 i) (by decide) rfl (fun ls hl => ?_)
          refine lv_goto (tgt := 4) S.1 S.2.1 dX5_ready_35 (by decide) ?_
          exact ih_4 (i + 1) (x ||| 0) (by omega) (by omega) (by rw [show rdyR r (i + 1) = _ from rfl]; subst_vars; simp only [rdyR, Int32.or_zero, c_11, n_11, c_20, ↓reduceIte])  ls (lv_sub hl [2, 0, 1] rfl)
        · refine lv_iconst (v := 1) S.1 S.2.1 dX5_ready_23 (by decide) ?_
          refine lv_iload_n S.1 S.2.1 dX5_ready_24 rfl (lv_at hl 1 rfl) ?_
          refine lv_ishl S.1 S.2.1 dX5_ready_25 ?_
          refine lv_goto (tgt := 30) S.1 S.2.1 dX5_ready_26 (by decide) ?_
          refine lv_ior S.1 S.2.1 dX5_ready_30 ?_
          refine lv_istore_n (lv' := [(1, .int (x ||| (1 <<< ((nI i) &&& 31)))), (0, .ref (am 0)), (2, .int (nI i))]) S.1 S.2.1 dX5_ready_31 rfl hl (by decide) rfl (fun ls hl => ?_)
          refine lv_iinc (v := nI (i + 1)) (lv' := [(2, .int (nI (i + 1))), (1, .int (x ||| (1 <<< ((nI i) &&& 31)))), (0, .ref (am 0))]) S.1 S.2.1 dX5_ready_32 hl (k := 2) rfl (nI_1 i) (by decide) rfl (fun ls hl => ?_)
          refine lv_goto (tgt := 4) S.1 S.2.1 dX5_ready_35 (by decide) ?_
          exact ih_4 (i + 1) (x ||| (1 <<< ((nI i) &&& 31))) (by omega) (by omega) (by rw [show rdyR r (i + 1) = _ from rfl]; subst_vars; simp only [rdyR, Int32.or_zero, c_11, n_11, c_20, ↓reduceIte])  ls (lv_sub hl [2, 0, 1] rfl)
  exact L_4 (n + 1) 0 0 (by omega) (by omega) rfl  ls (lv_sub hl [2, 0, 1] rfl)
