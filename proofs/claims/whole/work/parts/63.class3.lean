theorem ck_cmp {x : Int32} {b : Int32} (hb : le9 b 9999) : (b + 1 ≤ x) ↔ b < x := by
  obtain ⟨k, hk, rfl⟩ := hb
  rw [Int32.le_iff_toInt_le, Int32.lt_iff_toInt_lt, nI_1, nI_toInt (show k + 1 < 2 ^ 31 by omega), nI_toInt (show k < 2 ^ 31 by omega)]
  omega
theorem ck_no {x b : Int32} (hb : le9 b 9999) (h : x ≤ b) : ¬ b + 1 ≤ x := fun z => Int32.not_lt.mpr h ((ck_cmp hb).mp z)
theorem ck_yes {x b : Int32} (hb : le9 b 9999) (h : ¬ x ≤ b) : b + 1 ≤ x := (ck_cmp hb).mpr (Int32.not_le.mp h)
theorem ck_0 {r : Row} {p : Nat} (hb : le9 (r p) 9999) : ∀ j, j < 0 + 1 → ¬ (r p + 1 ≤ daysF r j p) := fun j hj => by
  rw [show j = 0 by omega]
  exact ck_no hb (Int32.le_refl _)
set_option maxHeartbeats 800000 in
set_option maxRecDepth 100000 in
theorem c_X4_ahead (l : Launch) (E : EV) (ag ah az ak : Nat → Nat) (i0 : Int32) (r f x : Row) (pp w n9 : Int32) (hR : RI r) : Met l yX4_ahead (wq yX4_ahead cX4_ahead 5 (some .int)) ({ frames := 5, cells := 0, slots := 0, locals := 105 }) (preB E [.ref (ag 0), .int pp, .int w, .int n9] [[gObj ag ah az ak i0], hillsW E ah r, [(ag 4, .inl (E.2.1, 7, .inl (sg f 7)))], hillsW E az x]) (qIx E [[gObj ag ah az ak i0], hillsW E ah r, [(ag 4, .inl (E.2.1, 7, .inl (sg f 7)))], hillsW E az x] (fun u9 => [[gObj ag ah az ak i0], hillsW E ah r, [(ag 4, .inl (E.2.1, 7, .inl (sg (fndC f (rAhead r pp w n9)) 7)))], hillsW E az u9]) (ansR (rAhead r pp w n9))) 0 0 (inB [[gObj ag ah az ak i0], hillsW E ah r, [(ag 4, .inl (E.2.1, 7, .inl (sg f 7)))], hillsW E az x]) := by
  refine M_mk RX4 (by decide) rfl (Nat.le_of_ble_eq_true rfl) ?_
  intro p e s m below meth c S hr hlk hK hP hD hS ls hl
  have hl : lv_has ls 5 [(0, .ref (ag 0)), (1, .int pp), (2, .int w), (3, .int n9)] := hl
  obtain ⟨n, d, hn, hn8, hd, hd5, ho, hso, hli, hsp, hpt⟩ := id hR
  obtain ⟨H, hH⟩ : ∃ zz9, zz9 = s.heap := ⟨_, rfl⟩
  obtain ⟨locs, hlocs⟩ : ∃ zz9 : List Loc, zz9 = [] := ⟨_, rfl⟩
  have hP : PE E [[gObj ag ah az ak i0], hillsW E ah r, [(ag 4, .inl (E.2.1, 7, .inl (sg f 7)))], hillsW E az x] H := by rw [hH]; exact hP
  have hS : va_S (inB [[gObj ag ah az ak i0], hillsW E ah r, [(ag 4, .inl (E.2.1, 7, .inl (sg f 7)))], hillsW E az x]) s.heap H locs := by rw [hH, hlocs]; exact hS
  show W p l e ({ frames := 5, cells := 0, slots := 0, locals := 105 }) s m ([.ref (ag 0), .int pp, .int w, .int n9] : List Value).toArray below meth c s.heap [] 0 0 _ _
  suffices hgo : W p l e ({ frames := 5, cells := 0, slots := 0, locals := 105 }) s m ([.ref (ag 0), .int pp, .int w, .int n9] : List Value).toArray below meth c H locs 0 0 (MQ below (qIx E [[gObj ag ah az ak i0], hillsW E ah r, [(ag 4, .inl (E.2.1, 7, .inl (sg f 7)))], hillsW E az x] (fun u9 => [[gObj ag ah az ak i0], hillsW E ah r, [(ag 4, .inl (E.2.1, 7, .inl (sg (fndC f (rAhead r pp w n9)) 7)))], hillsW E az u9]) (ansR (rAhead r pp w n9))) ([.ref (ag 0), .int pp, .int w, .int n9] : List Value).toArray s 0 0 (inB [[gObj ag ah az ak i0], hillsW E ah r, [(ag 4, .inl (E.2.1, 7, .inl (sg f 7)))], hillsW E az x])) (F0 m 0 ls []) by rw [hH, hlocs] at hgo; exact hgo
  clear hH hlocs
  refine lv_iload_n S.1 S.2.1 dX4_ahead_0 rfl (lv_at hl 2 rfl) ?_
  refine lv_iconst (v := 1) S.1 S.2.1 dX4_ahead_1 (by decide) ?_
  refine lv_icmp_eq (tgt := 16) S.1 S.2.1 dX4_ahead_2 (by decide) (fun c_2 => ?_) (fun c_2 => ?_)
  · refine lv_iconst (v := 1) S.1 S.2.1 dX4_ahead_16 (by decide) ?_
    refine lv_goto (tgt := 21) S.1 S.2.1 dX4_ahead_17 (by decide) ?_
    refine lv_istore (lv' := [(4, .int 1), (0, .ref (ag 0)), (1, .int pp), (2, .int w), (3, .int n9)]) S.1 S.2.1 dX4_ahead_21 hl (by decide) rfl (fun ls hl => ?_)
    refine lv_aload_n S.1 S.2.1 dX4_ahead_23 rfl (lv_at hl 1 rfl) ?_
    refine lv_iload_n S.1 S.2.1 dX4_ahead_24 rfl (lv_at hl 2 rfl) ?_
    refine go_S (run_V (As := [.int pp]) (rest := []) (n := 1) S hK (bl_P hP [0, 1] rfl) (bl_D hD [0, 1] rfl rfl) (c_X4_isPotter l E ag ah az ak i0 r pp ) gV_X4_67 (by decide +kernel) rfl ⟨rfl, rfl⟩ ⟨Nat.le_of_ble_eq_true rfl, Nat.le_of_ble_eq_true rfl⟩ (ci := 4) (q0 := 0) rfl rfl hl.1 (Nat.le_of_ble_eq_true rfl) dX4_ahead_25 ⟨Nat.zero_le _, Nat.zero_le _⟩) ?_
    refine b_ifeq (tgt := 45) S.1 S.2.1 dX4_ahead_28 (by decide) (fun c_28 => ?_) (fun c_28 => ?_)
    · refine lv_aload_n S.1 S.2.1 dX4_ahead_45 rfl (lv_at hl 1 rfl) ?_
      refine lv_iconst (v := 0) S.1 S.2.1 dX4_ahead_46 (by decide) ?_
      refine go_I (run_V (As := [.int 0]) (rest := []) (n := 1) S hK (bl_P hP [0, 2] rfl) (bl_D hD [0, 2] rfl rfl) (c_X4_finding l E ag ah az ak i0 f 0 (by decide)) gV_X4_48 (by decide +kernel) rfl ⟨rfl, rfl⟩ ⟨Nat.le_of_ble_eq_true rfl, Nat.le_of_ble_eq_true rfl⟩ (ci := 4) (q0 := 0) rfl rfl hl.1 (Nat.le_of_ble_eq_true rfl) dX4_ahead_47 ⟨Nat.zero_le _, Nat.zero_le _⟩) hP hD hS [0, 2] rfl (had_cons rfl (had_cons cell_ad rfl)) (Bs' := [[gObj ag ah az ak i0], hillsW E ah r, [(ag 4, .inl (E.2.1, 7, .inl (sg (upd f 0 (f 0 + 1)) 7)))], hillsW E az x]) rfl (fun H locs hP hD hS => ?_)
      obtain ⟨r_47, er_47⟩ : ∃ zz9 : Row, zz9 = upd f 0 (f 0 + 1) := ⟨_, rfl⟩
      rw [← er_47] at hP hD
      exact retIx S hr hlk x (by have e9 : rAhead r pp w n9 = .inl 0 := (by unfold rAhead; rw [if_neg c_28]); rw [er_47] at hP; rw [e9, fndC_inl]; exact hP) hS (by have e9 : rAhead r pp w n9 = .inl 0 := (by unfold rAhead; rw [if_neg c_28]); rw [e9]; decide) dX4_ahead_50
    · obtain ⟨k_pp, hk_pp, ek_pp⟩ := pot_nat c_28 hn (by omega)
      refine lv_iload S.1 S.2.1 dX4_ahead_31 (lv_at hl 0 rfl) ?_
      refine lv_if_eq (tgt := 45) S.1 S.2.1 dX4_ahead_33 (by decide) (fun h => absurd h (by decide)) (fun _ => ?_)
      refine lv_iload_n S.1 S.2.1 dX4_ahead_36 rfl (lv_at hl 4 rfl) ?_
      refine lv_bipush (v := 100) S.1 S.2.1 dX4_ahead_37 (by decide) ?_
      refine go_S (run_S (As := [.int n9, .int 100]) (rest := []) (n := 2) S hK (bl_P hP [] rfl) (bl_D hD [] rfl rfl) (c_X4_isWithin l E n9 100 ) gS_X4_44 (by decide +kernel) rfl ⟨rfl, rfl⟩ ⟨Nat.le_of_ble_eq_true rfl, Nat.le_of_ble_eq_true rfl⟩ hl.1 (Nat.le_of_ble_eq_true rfl) dX4_ahead_39 ⟨Nat.zero_le _, Nat.zero_le _⟩) ?_
      refine b_ifne (tgt := 51) S.1 S.2.1 dX4_ahead_42 (by decide) (fun c_42 => ?_) (fun c_42 => ?_)
      · obtain ⟨k_n9, hk_n9, ek_n9⟩ := nI_of2 (n := 100) (by decide) (Int32.not_lt.mpr c_42.1) c_42.2
        obtain ⟨k_w, hk_w, ek_w⟩ : ∃ k : Nat, k < 7 ∧ w = nI k := ⟨1, by decide, c_2⟩
        refine lv_aload_n S.1 S.2.1 dX4_ahead_51 rfl (lv_at hl 1 rfl) ?_
        refine gf_X4_16 S hK hP 0 0 rfl rfl rfl dX4_ahead_52 ?_
        refine lv_aload_n S.1 S.2.1 dX4_ahead_55 rfl (lv_at hl 1 rfl) ?_
        refine gf_X4_10 S hK hP 0 0 rfl rfl rfl dX4_ahead_56 ?_
        refine go_V (run_V (As := [.ref (ah 0)]) (rest := []) (n := 1) S hK (bl_P hP [3, 1] rfl) (bl_D hD [3, 1] rfl rfl) (c_X0_become l E az ah x r n hn hn8) gV_X4_135 (by decide +kernel) rfl ⟨rfl, rfl⟩ ⟨Nat.le_of_ble_eq_true rfl, Nat.le_of_ble_eq_true rfl⟩ (ci := 0) (q0 := 0) rfl rfl hl.1 (Nat.le_of_ble_eq_true rfl) dX4_ahead_59 ⟨Nat.zero_le _, Nat.zero_le _⟩) hP hD hS [3, 1] rfl (had_cons hw_ad (had_cons rfl rfl)) (Bs' := [[gObj ag ah az ak i0], hillsW E ah r, [(ag 4, .inl (E.2.1, 7, .inl (sg f 7)))], hillsW E az (becF x r)]) rfl (fun H locs hP hD hS => ?_)
        obtain ⟨r_59, er_59⟩ : ∃ zz9 : Row, zz9 = becF x r := ⟨_, rfl⟩
        rw [← er_59] at hP hD
        have hev_r_59 : Ev r_59 r := by rw [er_59]; exact Ev.bec
        have hRI_r_59 : RI r_59 := RI_ev hev_r_59.sy hR
        have hr_59_1 : r_59 1 = nI n := (hev_r_59.lo (by decide)).trans hn
        have hr_59_0 : r_59 0 = nI d := (hev_r_59.lo (by decide)).trans hd
        refine lv_aload_n S.1 S.2.1 dX4_ahead_62 rfl (lv_at hl 1 rfl) ?_
        refine gf_X4_16 S hK hP 0 0 rfl rfl rfl dX4_ahead_63 ?_
        refine lv_iload_n S.1 S.2.1 dX4_ahead_66 rfl (lv_at hl 4 rfl) ?_
        refine lv_eqi (y := nI k_n9) ek_n9 ?_
        refine go_V (run_V (As := [.int (nI k_n9)]) (rest := []) (n := 1) S hK (bl_P hP [3] rfl) (bl_D hD [3] rfl rfl) (c_X0_passDays l E az r_59 k_n9 (by omega) hRI_r_59) gV_X4_113 (by decide +kernel) rfl ⟨rfl, rfl⟩ ⟨Nat.le_of_ble_eq_true rfl, Nat.le_of_ble_eq_true rfl⟩ (ci := 0) (q0 := 0) rfl rfl hl.1 (Nat.le_of_ble_eq_true rfl) dX4_ahead_67 ⟨Nat.zero_le _, Nat.zero_le _⟩) hP hD hS [3] rfl (had_cons hw_ad rfl) (Bs' := [[gObj ag ah az ak i0], hillsW E ah r, [(ag 4, .inl (E.2.1, 7, .inl (sg f 7)))], hillsW E az (daysF r_59 k_n9)]) rfl (fun H locs hP hD hS => ?_)
        obtain ⟨r_67, er_67⟩ : ∃ zz9 : Row, zz9 = daysF r_59 k_n9 := ⟨_, rfl⟩
        rw [← er_67] at hP hD
        have hr_67_1 : r_67 1 = nI n := by rw [er_67]; exact (daysF_1 _ _).trans hr_59_1
        have hRI_r_67 : RI r_67 := by rw [er_67]; exact daysF_RI hRI_r_59 _
        have hev_r_67 : Ev r_67 (daysF r k_n9) := by rw [er_67]; exact ev_days hev_r_59 _
        refine lv_aload_n S.1 S.2.1 dX4_ahead_70 rfl (lv_at hl 1 rfl) ?_
        refine gf_X4_16 S hK hP 0 0 rfl rfl rfl dX4_ahead_71 ?_
        refine gf_X4_71 S hK hP 3 0 rfl rfl rfl dX4_ahead_74 ?_
        refine lv_iload_n S.1 S.2.1 dX4_ahead_77 rfl (lv_at hl 2 rfl) ?_
        refine lv_eqi (y := nI k_pp) ek_pp ?_
        refine b_aaldN (i := k_pp) S hK hP 2 3 2 rfl rfl rfl (by omega) (by decide) (v := az (4 + k_pp)) rfl dX4_ahead_78 ?_
        refine lv_iload_n S.1 S.2.1 dX4_ahead_79 rfl (lv_at hl 3 rfl) ?_
        refine lv_eqi (y := nI k_w) ek_w ?_
        refine go_S (run_V (As := [.int (nI k_w)]) (rest := []) (n := 1) S hK (cell_P hP (b := 3) (j := (4 + k_pp)) rfl (hw_pot (by omega))) cell_D (c_X1_told l E (az (4 + k_pp)) (r_67 (21 + 7 * k_pp)) (r_67 (21 + 7 * k_pp + 1)) (r_67 (21 + 7 * k_pp + 2)) (r_67 (21 + 7 * k_pp + 3)) (r_67 (21 + 7 * k_pp + 4)) (r_67 (21 + 7 * k_pp + 5)) (r_67 (21 + 7 * k_pp + 6)) (nI k_w)) gV_X4_99 (by decide +kernel) rfl ⟨rfl, rfl⟩ ⟨Nat.le_of_ble_eq_true rfl, Nat.le_of_ble_eq_true rfl⟩ (ci := 1) (q0 := 0) rfl rfl hl.1 (Nat.le_of_ble_eq_true rfl) dX4_ahead_80 ⟨Nat.zero_le _, Nat.zero_le _⟩) ?_
        refine lv_eqi (y := (daysF r k_n9) (21 + 7 * k_pp + k_w)) ((told_eq (k := k_w) hk_w).trans ((hev_r_67).p (by rw [cntN_eq hr_67_1 hn8]; exact hk_pp) hk_w)) ?_
        exact retIx S hr hlk r_67 (by have e9 : rAhead r pp w n9 = .inr (r, (daysF r k_n9) (21 + 7 * k_pp + k_w)) := (by unfold rAhead; rw [if_pos c_28, if_pos (Or.inl c_2), if_pos c_42, ek_pp, ek_w, ek_n9, tN_nI (k := k_pp) (by omega), tN_nI (k := k_w) (by omega), tN_nI (k := k_n9) (by omega)]); rw [e9, fndC_inr]; exact hP) hS (by have e9 : rAhead r pp w n9 = .inr (r, (daysF r k_n9) (21 + 7 * k_pp + k_w)) := (by unfold rAhead; rw [if_pos c_28, if_pos (Or.inl c_2), if_pos c_42, ek_pp, ek_w, ek_n9, tN_nI (k := k_pp) (by omega), tN_nI (k := k_w) (by omega), tN_nI (k := k_n9) (by omega)]); rw [e9, ansR_inr]) dX4_ahead_83
      · refine lv_aload_n S.1 S.2.1 dX4_ahead_45 rfl (lv_at hl 1 rfl) ?_
        refine lv_iconst (v := 0) S.1 S.2.1 dX4_ahead_46 (by decide) ?_
        refine go_I (run_V (As := [.int 0]) (rest := []) (n := 1) S hK (bl_P hP [0, 2] rfl) (bl_D hD [0, 2] rfl rfl) (c_X4_finding l E ag ah az ak i0 f 0 (by decide)) gV_X4_48 (by decide +kernel) rfl ⟨rfl, rfl⟩ ⟨Nat.le_of_ble_eq_true rfl, Nat.le_of_ble_eq_true rfl⟩ (ci := 4) (q0 := 0) rfl rfl hl.1 (Nat.le_of_ble_eq_true rfl) dX4_ahead_47 ⟨Nat.zero_le _, Nat.zero_le _⟩) hP hD hS [0, 2] rfl (had_cons rfl (had_cons cell_ad rfl)) (Bs' := [[gObj ag ah az ak i0], hillsW E ah r, [(ag 4, .inl (E.2.1, 7, .inl (sg (upd f 0 (f 0 + 1)) 7)))], hillsW E az x]) rfl (fun H locs hP hD hS => ?_)
        obtain ⟨r_47_1, er_47_1⟩ : ∃ zz9 : Row, zz9 = upd f 0 (f 0 + 1) := ⟨_, rfl⟩
        rw [← er_47_1] at hP hD
        exact retIx S hr hlk x (by have e9 : rAhead r pp w n9 = .inl 0 := (by unfold rAhead; rw [if_pos c_28, if_pos (Or.inl c_2), if_neg c_42]); rw [er_47_1] at hP; rw [e9, fndC_inl]; exact hP) hS (by have e9 : rAhead r pp w n9 = .inl 0 := (by unfold rAhead; rw [if_pos c_28, if_pos (Or.inl c_2), if_neg c_42]); rw [e9]; decide) dX4_ahead_50
  · refine lv_iload_n S.1 S.2.1 dX4_ahead_5 rfl (lv_at hl 2 rfl) ?_
    refine lv_iconst (v := 3) S.1 S.2.1 dX4_ahead_6 (by decide) ?_
    refine lv_icmp_lt (tgt := 20) S.1 S.2.1 dX4_ahead_7 (by decide) (fun c_7 => ?_) (fun c_7 => ?_)
    · have n_7 := Int32.not_le.mpr c_7
      refine lv_iconst (v := 0) S.1 S.2.1 dX4_ahead_20 (by decide) ?_
      refine lv_istore (lv' := [(4, .int 0), (0, .ref (ag 0)), (1, .int pp), (2, .int w), (3, .int n9)]) S.1 S.2.1 dX4_ahead_21 hl (by decide) rfl (fun ls hl => ?_)
      refine lv_aload_n S.1 S.2.1 dX4_ahead_23 rfl (lv_at hl 1 rfl) ?_
      refine lv_iload_n S.1 S.2.1 dX4_ahead_24 rfl (lv_at hl 2 rfl) ?_
      refine go_S (run_V (As := [.int pp]) (rest := []) (n := 1) S hK (bl_P hP [0, 1] rfl) (bl_D hD [0, 1] rfl rfl) (c_X4_isPotter l E ag ah az ak i0 r pp ) gV_X4_67 (by decide +kernel) rfl ⟨rfl, rfl⟩ ⟨Nat.le_of_ble_eq_true rfl, Nat.le_of_ble_eq_true rfl⟩ (ci := 4) (q0 := 0) rfl rfl hl.1 (Nat.le_of_ble_eq_true rfl) dX4_ahead_25 ⟨Nat.zero_le _, Nat.zero_le _⟩) ?_
      refine b_ifeq (tgt := 45) S.1 S.2.1 dX4_ahead_28 (by decide) (fun c_28 => ?_) (fun c_28 => ?_)
      · refine lv_aload_n S.1 S.2.1 dX4_ahead_45 rfl (lv_at hl 1 rfl) ?_
        refine lv_iconst (v := 0) S.1 S.2.1 dX4_ahead_46 (by decide) ?_
        refine go_I (run_V (As := [.int 0]) (rest := []) (n := 1) S hK (bl_P hP [0, 2] rfl) (bl_D hD [0, 2] rfl rfl) (c_X4_finding l E ag ah az ak i0 f 0 (by decide)) gV_X4_48 (by decide +kernel) rfl ⟨rfl, rfl⟩ ⟨Nat.le_of_ble_eq_true rfl, Nat.le_of_ble_eq_true rfl⟩ (ci := 4) (q0 := 0) rfl rfl hl.1 (Nat.le_of_ble_eq_true rfl) dX4_ahead_47 ⟨Nat.zero_le _, Nat.zero_le _⟩) hP hD hS [0, 2] rfl (had_cons rfl (had_cons cell_ad rfl)) (Bs' := [[gObj ag ah az ak i0], hillsW E ah r, [(ag 4, .inl (E.2.1, 7, .inl (sg (upd f 0 (f 0 + 1)) 7)))], hillsW E az x]) rfl (fun H locs hP hD hS => ?_)
        obtain ⟨r_47_2, er_47_2⟩ : ∃ zz9 : Row, zz9 = upd f 0 (f 0 + 1) := ⟨_, rfl⟩
        rw [← er_47_2] at hP hD
        exact retIx S hr hlk x (by have e9 : rAhead r pp w n9 = .inl 0 := (by unfold rAhead; rw [if_neg c_28]); rw [er_47_2] at hP; rw [e9, fndC_inl]; exact hP) hS (by have e9 : rAhead r pp w n9 = .inl 0 := (by unfold rAhead; rw [if_neg c_28]); rw [e9]; decide) dX4_ahead_50
      · obtain ⟨k_pp, hk_pp, ek_pp⟩ := pot_nat c_28 hn (by omega)
        refine lv_iload S.1 S.2.1 dX4_ahead_31 (lv_at hl 0 rfl) ?_
        refine lv_if_eq (tgt := 45) S.1 S.2.1 dX4_ahead_33 (by decide) (fun _ => ?_) (fun h => absurd h (by decide))
        refine lv_aload_n S.1 S.2.1 dX4_ahead_45 rfl (lv_at hl 1 rfl) ?_
        refine lv_iconst (v := 0) S.1 S.2.1 dX4_ahead_46 (by decide) ?_
        refine go_I (run_V (As := [.int 0]) (rest := []) (n := 1) S hK (bl_P hP [0, 2] rfl) (bl_D hD [0, 2] rfl rfl) (c_X4_finding l E ag ah az ak i0 f 0 (by decide)) gV_X4_48 (by decide +kernel) rfl ⟨rfl, rfl⟩ ⟨Nat.le_of_ble_eq_true rfl, Nat.le_of_ble_eq_true rfl⟩ (ci := 4) (q0 := 0) rfl rfl hl.1 (Nat.le_of_ble_eq_true rfl) dX4_ahead_47 ⟨Nat.zero_le _, Nat.zero_le _⟩) hP hD hS [0, 2] rfl (had_cons rfl (had_cons cell_ad rfl)) (Bs' := [[gObj ag ah az ak i0], hillsW E ah r, [(ag 4, .inl (E.2.1, 7, .inl (sg (upd f 0 (f 0 + 1)) 7)))], hillsW E az x]) rfl (fun H locs hP hD hS => ?_)
        obtain ⟨r_47_3, er_47_3⟩ : ∃ zz9 : Row, zz9 = upd f 0 (f 0 + 1) := ⟨_, rfl⟩
        rw [← er_47_3] at hP hD
        exact retIx S hr hlk x (by have e9 : rAhead r pp w n9 = .inl 0 := (by unfold rAhead; rw [if_pos c_28, if_neg (fun z9 => z9.elim c_2 (fun y9 => Int32.not_le.mpr c_7 y9.1))]); rw [er_47_3] at hP; rw [e9, fndC_inl]; exact hP) hS (by have e9 : rAhead r pp w n9 = .inl 0 := (by unfold rAhead; rw [if_pos c_28, if_neg (fun z9 => z9.elim c_2 (fun y9 => Int32.not_le.mpr c_7 y9.1))]); rw [e9]; decide) dX4_ahead_50
    · have n_7 := Int32.not_lt.mp c_7
      refine lv_iload_n S.1 S.2.1 dX4_ahead_10 rfl (lv_at hl 2 rfl) ?_
      refine lv_bipush (v := 6) S.1 S.2.1 dX4_ahead_11 (by decide) ?_
      refine lv_icmp_gt (tgt := 20) S.1 S.2.1 dX4_ahead_13 (by decide) (fun c_13 => ?_) (fun c_13 => ?_)
      · have n_13 := Int32.not_le.mpr c_13
        refine lv_iconst (v := 0) S.1 S.2.1 dX4_ahead_20 (by decide) ?_
        refine lv_istore (lv' := [(4, .int 0), (0, .ref (ag 0)), (1, .int pp), (2, .int w), (3, .int n9)]) S.1 S.2.1 dX4_ahead_21 hl (by decide) rfl (fun ls hl => ?_)
        refine lv_aload_n S.1 S.2.1 dX4_ahead_23 rfl (lv_at hl 1 rfl) ?_
        refine lv_iload_n S.1 S.2.1 dX4_ahead_24 rfl (lv_at hl 2 rfl) ?_
        refine go_S (run_V (As := [.int pp]) (rest := []) (n := 1) S hK (bl_P hP [0, 1] rfl) (bl_D hD [0, 1] rfl rfl) (c_X4_isPotter l E ag ah az ak i0 r pp ) gV_X4_67 (by decide +kernel) rfl ⟨rfl, rfl⟩ ⟨Nat.le_of_ble_eq_true rfl, Nat.le_of_ble_eq_true rfl⟩ (ci := 4) (q0 := 0) rfl rfl hl.1 (Nat.le_of_ble_eq_true rfl) dX4_ahead_25 ⟨Nat.zero_le _, Nat.zero_le _⟩) ?_
        refine b_ifeq (tgt := 45) S.1 S.2.1 dX4_ahead_28 (by decide) (fun c_28 => ?_) (fun c_28 => ?_)
        · refine lv_aload_n S.1 S.2.1 dX4_ahead_45 rfl (lv_at hl 1 rfl) ?_
          refine lv_iconst (v := 0) S.1 S.2.1 dX4_ahead_46 (by decide) ?_
          refine go_I (run_V (As := [.int 0]) (rest := []) (n := 1) S hK (bl_P hP [0, 2] rfl) (bl_D hD [0, 2] rfl rfl) (c_X4_finding l E ag ah az ak i0 f 0 (by decide)) gV_X4_48 (by decide +kernel) rfl ⟨rfl, rfl⟩ ⟨Nat.le_of_ble_eq_true rfl, Nat.le_of_ble_eq_true rfl⟩ (ci := 4) (q0 := 0) rfl rfl hl.1 (Nat.le_of_ble_eq_true rfl) dX4_ahead_47 ⟨Nat.zero_le _, Nat.zero_le _⟩) hP hD hS [0, 2] rfl (had_cons rfl (had_cons cell_ad rfl)) (Bs' := [[gObj ag ah az ak i0], hillsW E ah r, [(ag 4, .inl (E.2.1, 7, .inl (sg (upd f 0 (f 0 + 1)) 7)))], hillsW E az x]) rfl (fun H locs hP hD hS => ?_)
          obtain ⟨r_47_4, er_47_4⟩ : ∃ zz9 : Row, zz9 = upd f 0 (f 0 + 1) := ⟨_, rfl⟩
          rw [← er_47_4] at hP hD
          exact retIx S hr hlk x (by have e9 : rAhead r pp w n9 = .inl 0 := (by unfold rAhead; rw [if_neg c_28]); rw [er_47_4] at hP; rw [e9, fndC_inl]; exact hP) hS (by have e9 : rAhead r pp w n9 = .inl 0 := (by unfold rAhead; rw [if_neg c_28]); rw [e9]; decide) dX4_ahead_50
        · obtain ⟨k_pp, hk_pp, ek_pp⟩ := pot_nat c_28 hn (by omega)
          refine lv_iload S.1 S.2.1 dX4_ahead_31 (lv_at hl 0 rfl) ?_
          refine lv_if_eq (tgt := 45) S.1 S.2.1 dX4_ahead_33 (by decide) (fun _ => ?_) (fun h => absurd h (by decide))
          refine lv_aload_n S.1 S.2.1 dX4_ahead_45 rfl (lv_at hl 1 rfl) ?_
          refine lv_iconst (v := 0) S.1 S.2.1 dX4_ahead_46 (by decide) ?_
          refine go_I (run_V (As := [.int 0]) (rest := []) (n := 1) S hK (bl_P hP [0, 2] rfl) (bl_D hD [0, 2] rfl rfl) (c_X4_finding l E ag ah az ak i0 f 0 (by decide)) gV_X4_48 (by decide +kernel) rfl ⟨rfl, rfl⟩ ⟨Nat.le_of_ble_eq_true rfl, Nat.le_of_ble_eq_true rfl⟩ (ci := 4) (q0 := 0) rfl rfl hl.1 (Nat.le_of_ble_eq_true rfl) dX4_ahead_47 ⟨Nat.zero_le _, Nat.zero_le _⟩) hP hD hS [0, 2] rfl (had_cons rfl (had_cons cell_ad rfl)) (Bs' := [[gObj ag ah az ak i0], hillsW E ah r, [(ag 4, .inl (E.2.1, 7, .inl (sg (upd f 0 (f 0 + 1)) 7)))], hillsW E az x]) rfl (fun H locs hP hD hS => ?_)
          obtain ⟨r_47_5, er_47_5⟩ : ∃ zz9 : Row, zz9 = upd f 0 (f 0 + 1) := ⟨_, rfl⟩
          rw [← er_47_5] at hP hD
          exact retIx S hr hlk x (by have e9 : rAhead r pp w n9 = .inl 0 := (by unfold rAhead; rw [if_pos c_28, if_neg (fun z9 => z9.elim c_2 (fun y9 => Int32.not_le.mpr c_13 y9.2))]); rw [er_47_5] at hP; rw [e9, fndC_inl]; exact hP) hS (by have e9 : rAhead r pp w n9 = .inl 0 := (by unfold rAhead; rw [if_pos c_28, if_neg (fun z9 => z9.elim c_2 (fun y9 => Int32.not_le.mpr c_13 y9.2))]); rw [e9]; decide) dX4_ahead_50
      · have n_13 := Int32.not_lt.mp c_13
        refine lv_iconst (v := 1) S.1 S.2.1 dX4_ahead_16 (by decide) ?_
        refine lv_goto (tgt := 21) S.1 S.2.1 dX4_ahead_17 (by decide) ?_
        refine lv_istore (lv' := [(4, .int 1), (0, .ref (ag 0)), (1, .int pp), (2, .int w), (3, .int n9)]) S.1 S.2.1 dX4_ahead_21 hl (by decide) rfl (fun ls hl => ?_)
        refine lv_aload_n S.1 S.2.1 dX4_ahead_23 rfl (lv_at hl 1 rfl) ?_
        refine lv_iload_n S.1 S.2.1 dX4_ahead_24 rfl (lv_at hl 2 rfl) ?_
        refine go_S (run_V (As := [.int pp]) (rest := []) (n := 1) S hK (bl_P hP [0, 1] rfl) (bl_D hD [0, 1] rfl rfl) (c_X4_isPotter l E ag ah az ak i0 r pp ) gV_X4_67 (by decide +kernel) rfl ⟨rfl, rfl⟩ ⟨Nat.le_of_ble_eq_true rfl, Nat.le_of_ble_eq_true rfl⟩ (ci := 4) (q0 := 0) rfl rfl hl.1 (Nat.le_of_ble_eq_true rfl) dX4_ahead_25 ⟨Nat.zero_le _, Nat.zero_le _⟩) ?_
        refine b_ifeq (tgt := 45) S.1 S.2.1 dX4_ahead_28 (by decide) (fun c_28 => ?_) (fun c_28 => ?_)
        · refine lv_aload_n S.1 S.2.1 dX4_ahead_45 rfl (lv_at hl 1 rfl) ?_
          refine lv_iconst (v := 0) S.1 S.2.1 dX4_ahead_46 (by decide) ?_
          refine go_I (run_V (As := [.int 0]) (rest := []) (n := 1) S hK (bl_P hP [0, 2] rfl) (bl_D hD [0, 2] rfl rfl) (c_X4_finding l E ag ah az ak i0 f 0 (by decide)) gV_X4_48 (by decide +kernel) rfl ⟨rfl, rfl⟩ ⟨Nat.le_of_ble_eq_true rfl, Nat.le_of_ble_eq_true rfl⟩ (ci := 4) (q0 := 0) rfl rfl hl.1 (Nat.le_of_ble_eq_true rfl) dX4_ahead_47 ⟨Nat.zero_le _, Nat.zero_le _⟩) hP hD hS [0, 2] rfl (had_cons rfl (had_cons cell_ad rfl)) (Bs' := [[gObj ag ah az ak i0], hillsW E ah r, [(ag 4, .inl (E.2.1, 7, .inl (sg (upd f 0 (f 0 + 1)) 7)))], hillsW E az x]) rfl (fun H locs hP hD hS => ?_)
          obtain ⟨r_47_6, er_47_6⟩ : ∃ zz9 : Row, zz9 = upd f 0 (f 0 + 1) := ⟨_, rfl⟩
          rw [← er_47_6] at hP hD
          exact retIx S hr hlk x (by have e9 : rAhead r pp w n9 = .inl 0 := (by unfold rAhead; rw [if_neg c_28]); rw [er_47_6] at hP; rw [e9, fndC_inl]; exact hP) hS (by have e9 : rAhead r pp w n9 = .inl 0 := (by unfold rAhead; rw [if_neg c_28]); rw [e9]; decide) dX4_ahead_50
        · obtain ⟨k_pp, hk_pp, ek_pp⟩ := pot_nat c_28 hn (by omega)
          refine lv_iload S.1 S.2.1 dX4_ahead_31 (lv_at hl 0 rfl) ?_
          refine lv_if_eq (tgt := 45) S.1 S.2.1 dX4_ahead_33 (by decide) (fun h => absurd h (by decide)) (fun _ => ?_)
          refine lv_iload_n S.1 S.2.1 dX4_ahead_36 rfl (lv_at hl 4 rfl) ?_
          refine lv_bipush (v := 100) S.1 S.2.1 dX4_ahead_37 (by decide) ?_
          refine go_S (run_S (As := [.int n9, .int 100]) (rest := []) (n := 2) S hK (bl_P hP [] rfl) (bl_D hD [] rfl rfl) (c_X4_isWithin l E n9 100 ) gS_X4_44 (by decide +kernel) rfl ⟨rfl, rfl⟩ ⟨Nat.le_of_ble_eq_true rfl, Nat.le_of_ble_eq_true rfl⟩ hl.1 (Nat.le_of_ble_eq_true rfl) dX4_ahead_39 ⟨Nat.zero_le _, Nat.zero_le _⟩) ?_
          refine b_ifne (tgt := 51) S.1 S.2.1 dX4_ahead_42 (by decide) (fun c_42 => ?_) (fun c_42 => ?_)
          · obtain ⟨k_n9, hk_n9, ek_n9⟩ := nI_of2 (n := 100) (by decide) (Int32.not_lt.mpr c_42.1) c_42.2
            obtain ⟨k_w, hk_w, ek_w⟩ : ∃ k : Nat, k < 7 ∧ w = nI k := by (obtain ⟨k, h1, h2, h3⟩ := of_rng (lo := 3) (hi := 6) (by decide) (by decide) ⟨Int32.not_lt.mp c_7, Int32.not_lt.mp c_13⟩; exact ⟨k, by omega, h3⟩)
            refine lv_aload_n S.1 S.2.1 dX4_ahead_51 rfl (lv_at hl 1 rfl) ?_
            refine gf_X4_16 S hK hP 0 0 rfl rfl rfl dX4_ahead_52 ?_
            refine lv_aload_n S.1 S.2.1 dX4_ahead_55 rfl (lv_at hl 1 rfl) ?_
            refine gf_X4_10 S hK hP 0 0 rfl rfl rfl dX4_ahead_56 ?_
            refine go_V (run_V (As := [.ref (ah 0)]) (rest := []) (n := 1) S hK (bl_P hP [3, 1] rfl) (bl_D hD [3, 1] rfl rfl) (c_X0_become l E az ah x r n hn hn8) gV_X4_135 (by decide +kernel) rfl ⟨rfl, rfl⟩ ⟨Nat.le_of_ble_eq_true rfl, Nat.le_of_ble_eq_true rfl⟩ (ci := 0) (q0 := 0) rfl rfl hl.1 (Nat.le_of_ble_eq_true rfl) dX4_ahead_59 ⟨Nat.zero_le _, Nat.zero_le _⟩) hP hD hS [3, 1] rfl (had_cons hw_ad (had_cons rfl rfl)) (Bs' := [[gObj ag ah az ak i0], hillsW E ah r, [(ag 4, .inl (E.2.1, 7, .inl (sg f 7)))], hillsW E az (becF x r)]) rfl (fun H locs hP hD hS => ?_)
            obtain ⟨r_59_7, er_59_7⟩ : ∃ zz9 : Row, zz9 = becF x r := ⟨_, rfl⟩
            rw [← er_59_7] at hP hD
            have hev_r_59_7 : Ev r_59_7 r := by rw [er_59_7]; exact Ev.bec
            have hRI_r_59_7 : RI r_59_7 := RI_ev hev_r_59_7.sy hR
            have hr_59_7_1 : r_59_7 1 = nI n := (hev_r_59_7.lo (by decide)).trans hn
            have hr_59_7_0 : r_59_7 0 = nI d := (hev_r_59_7.lo (by decide)).trans hd
            refine lv_aload_n S.1 S.2.1 dX4_ahead_62 rfl (lv_at hl 1 rfl) ?_
            refine gf_X4_16 S hK hP 0 0 rfl rfl rfl dX4_ahead_63 ?_
            refine lv_iload_n S.1 S.2.1 dX4_ahead_66 rfl (lv_at hl 4 rfl) ?_
            refine lv_eqi (y := nI k_n9) ek_n9 ?_
            refine go_V (run_V (As := [.int (nI k_n9)]) (rest := []) (n := 1) S hK (bl_P hP [3] rfl) (bl_D hD [3] rfl rfl) (c_X0_passDays l E az r_59_7 k_n9 (by omega) hRI_r_59_7) gV_X4_113 (by decide +kernel) rfl ⟨rfl, rfl⟩ ⟨Nat.le_of_ble_eq_true rfl, Nat.le_of_ble_eq_true rfl⟩ (ci := 0) (q0 := 0) rfl rfl hl.1 (Nat.le_of_ble_eq_true rfl) dX4_ahead_67 ⟨Nat.zero_le _, Nat.zero_le _⟩) hP hD hS [3] rfl (had_cons hw_ad rfl) (Bs' := [[gObj ag ah az ak i0], hillsW E ah r, [(ag 4, .inl (E.2.1, 7, .inl (sg f 7)))], hillsW E az (daysF r_59_7 k_n9)]) rfl (fun H locs hP hD hS => ?_)
            obtain ⟨r_67_8, er_67_8⟩ : ∃ zz9 : Row, zz9 = daysF r_59_7 k_n9 := ⟨_, rfl⟩
            rw [← er_67_8] at hP hD
            have hr_67_8_1 : r_67_8 1 = nI n := by rw [er_67_8]; exact (daysF_1 _ _).trans hr_59_7_1
            have hRI_r_67_8 : RI r_67_8 := by rw [er_67_8]; exact daysF_RI hRI_r_59_7 _
            have hev_r_67_8 : Ev r_67_8 (daysF r k_n9) := by rw [er_67_8]; exact ev_days hev_r_59_7 _
            refine lv_aload_n S.1 S.2.1 dX4_ahead_70 rfl (lv_at hl 1 rfl) ?_
            refine gf_X4_16 S hK hP 0 0 rfl rfl rfl dX4_ahead_71 ?_
            refine gf_X4_71 S hK hP 3 0 rfl rfl rfl dX4_ahead_74 ?_
            refine lv_iload_n S.1 S.2.1 dX4_ahead_77 rfl (lv_at hl 2 rfl) ?_
            refine lv_eqi (y := nI k_pp) ek_pp ?_
            refine b_aaldN (i := k_pp) S hK hP 2 3 2 rfl rfl rfl (by omega) (by decide) (v := az (4 + k_pp)) rfl dX4_ahead_78 ?_
            refine lv_iload_n S.1 S.2.1 dX4_ahead_79 rfl (lv_at hl 3 rfl) ?_
            refine lv_eqi (y := nI k_w) ek_w ?_
            refine go_S (run_V (As := [.int (nI k_w)]) (rest := []) (n := 1) S hK (cell_P hP (b := 3) (j := (4 + k_pp)) rfl (hw_pot (by omega))) cell_D (c_X1_told l E (az (4 + k_pp)) (r_67_8 (21 + 7 * k_pp)) (r_67_8 (21 + 7 * k_pp + 1)) (r_67_8 (21 + 7 * k_pp + 2)) (r_67_8 (21 + 7 * k_pp + 3)) (r_67_8 (21 + 7 * k_pp + 4)) (r_67_8 (21 + 7 * k_pp + 5)) (r_67_8 (21 + 7 * k_pp + 6)) (nI k_w)) gV_X4_99 (by decide +kernel) rfl ⟨rfl, rfl⟩ ⟨Nat.le_of_ble_eq_true rfl, Nat.le_of_ble_eq_true rfl⟩ (ci := 1) (q0 := 0) rfl rfl hl.1 (Nat.le_of_ble_eq_true rfl) dX4_ahead_80 ⟨Nat.zero_le _, Nat.zero_le _⟩) ?_
            refine lv_eqi (y := (daysF r k_n9) (21 + 7 * k_pp + k_w)) ((told_eq (k := k_w) hk_w).trans ((hev_r_67_8).p (by rw [cntN_eq hr_67_8_1 hn8]; exact hk_pp) hk_w)) ?_
            exact retIx S hr hlk r_67_8 (by have e9 : rAhead r pp w n9 = .inr (r, (daysF r k_n9) (21 + 7 * k_pp + k_w)) := (by unfold rAhead; rw [if_pos c_28, if_pos (Or.inr ⟨Int32.not_lt.mp c_7, Int32.not_lt.mp c_13⟩), if_pos c_42, ek_pp, ek_w, ek_n9, tN_nI (k := k_pp) (by omega), tN_nI (k := k_w) (by omega), tN_nI (k := k_n9) (by omega)]); rw [e9, fndC_inr]; exact hP) hS (by have e9 : rAhead r pp w n9 = .inr (r, (daysF r k_n9) (21 + 7 * k_pp + k_w)) := (by unfold rAhead; rw [if_pos c_28, if_pos (Or.inr ⟨Int32.not_lt.mp c_7, Int32.not_lt.mp c_13⟩), if_pos c_42, ek_pp, ek_w, ek_n9, tN_nI (k := k_pp) (by omega), tN_nI (k := k_w) (by omega), tN_nI (k := k_n9) (by omega)]); rw [e9, ansR_inr]) dX4_ahead_83
          · refine lv_aload_n S.1 S.2.1 dX4_ahead_45 rfl (lv_at hl 1 rfl) ?_
            refine lv_iconst (v := 0) S.1 S.2.1 dX4_ahead_46 (by decide) ?_
            refine go_I (run_V (As := [.int 0]) (rest := []) (n := 1) S hK (bl_P hP [0, 2] rfl) (bl_D hD [0, 2] rfl rfl) (c_X4_finding l E ag ah az ak i0 f 0 (by decide)) gV_X4_48 (by decide +kernel) rfl ⟨rfl, rfl⟩ ⟨Nat.le_of_ble_eq_true rfl, Nat.le_of_ble_eq_true rfl⟩ (ci := 4) (q0 := 0) rfl rfl hl.1 (Nat.le_of_ble_eq_true rfl) dX4_ahead_47 ⟨Nat.zero_le _, Nat.zero_le _⟩) hP hD hS [0, 2] rfl (had_cons rfl (had_cons cell_ad rfl)) (Bs' := [[gObj ag ah az ak i0], hillsW E ah r, [(ag 4, .inl (E.2.1, 7, .inl (sg (upd f 0 (f 0 + 1)) 7)))], hillsW E az x]) rfl (fun H locs hP hD hS => ?_)
            obtain ⟨r_47_9, er_47_9⟩ : ∃ zz9 : Row, zz9 = upd f 0 (f 0 + 1) := ⟨_, rfl⟩
            rw [← er_47_9] at hP hD
            exact retIx S hr hlk x (by have e9 : rAhead r pp w n9 = .inl 0 := (by unfold rAhead; rw [if_pos c_28, if_pos (Or.inr ⟨Int32.not_lt.mp c_7, Int32.not_lt.mp c_13⟩), if_neg c_42]); rw [er_47_9] at hP; rw [e9, fndC_inl]; exact hP) hS (by have e9 : rAhead r pp w n9 = .inl 0 := (by unfold rAhead; rw [if_pos c_28, if_pos (Or.inr ⟨Int32.not_lt.mp c_7, Int32.not_lt.mp c_13⟩), if_neg c_42]); rw [e9]; decide) dX4_ahead_50
set_option maxHeartbeats 800000 in
set_option maxRecDepth 100000 in
theorem c_X4_sold (l : Launch) (E : EV) (ag ah az ak : Nat → Nat) (i0 : Int32) (r f x : Row) (n9 : Int32) (hR : RI r) : Met l yX4_sold (wq yX4_sold cX4_sold 2 (some .int)) ({ frames := 5, cells := 0, slots := 0, locals := 105 }) (preB E [.ref (ag 0), .int n9] [[gObj ag ah az ak i0], hillsW E ah r, [(ag 4, .inl (E.2.1, 7, .inl (sg f 7)))], hillsW E az x]) (qIx E [[gObj ag ah az ak i0], hillsW E ah r, [(ag 4, .inl (E.2.1, 7, .inl (sg f 7)))], hillsW E az x] (fun u9 => [[gObj ag ah az ak i0], hillsW E ah r, [(ag 4, .inl (E.2.1, 7, .inl (sg (fndC f (rSold r n9)) 7)))], hillsW E az u9]) (ansR (rSold r n9))) 0 0 (inB [[gObj ag ah az ak i0], hillsW E ah r, [(ag 4, .inl (E.2.1, 7, .inl (sg f 7)))], hillsW E az x]) := by
  refine M_mk RX4 (by decide) rfl (Nat.le_of_ble_eq_true rfl) ?_
  intro p e s m below meth c S hr hlk hK hP hD hS ls hl
  have hl : lv_has ls 2 [(0, .ref (ag 0)), (1, .int n9)] := hl
  obtain ⟨n, d, hn, hn8, hd, hd5, ho, hso, hli, hsp, hpt⟩ := id hR
  obtain ⟨H, hH⟩ : ∃ zz9, zz9 = s.heap := ⟨_, rfl⟩
  obtain ⟨locs, hlocs⟩ : ∃ zz9 : List Loc, zz9 = [] := ⟨_, rfl⟩
  have hP : PE E [[gObj ag ah az ak i0], hillsW E ah r, [(ag 4, .inl (E.2.1, 7, .inl (sg f 7)))], hillsW E az x] H := by rw [hH]; exact hP
  have hS : va_S (inB [[gObj ag ah az ak i0], hillsW E ah r, [(ag 4, .inl (E.2.1, 7, .inl (sg f 7)))], hillsW E az x]) s.heap H locs := by rw [hH, hlocs]; exact hS
  show W p l e ({ frames := 5, cells := 0, slots := 0, locals := 105 }) s m ([.ref (ag 0), .int n9] : List Value).toArray below meth c s.heap [] 0 0 _ _
  suffices hgo : W p l e ({ frames := 5, cells := 0, slots := 0, locals := 105 }) s m ([.ref (ag 0), .int n9] : List Value).toArray below meth c H locs 0 0 (MQ below (qIx E [[gObj ag ah az ak i0], hillsW E ah r, [(ag 4, .inl (E.2.1, 7, .inl (sg f 7)))], hillsW E az x] (fun u9 => [[gObj ag ah az ak i0], hillsW E ah r, [(ag 4, .inl (E.2.1, 7, .inl (sg (fndC f (rSold r n9)) 7)))], hillsW E az u9]) (ansR (rSold r n9))) ([.ref (ag 0), .int n9] : List Value).toArray s 0 0 (inB [[gObj ag ah az ak i0], hillsW E ah r, [(ag 4, .inl (E.2.1, 7, .inl (sg f 7)))], hillsW E az x])) (F0 m 0 ls []) by rw [hH, hlocs] at hgo; exact hgo
  clear hH hlocs
  refine lv_iload_n S.1 S.2.1 dX4_sold_0 rfl (lv_at hl 1 rfl) ?_
  refine lv_bipush (v := 100) S.1 S.2.1 dX4_sold_1 (by decide) ?_
  refine go_S (run_S (As := [.int n9, .int 100]) (rest := []) (n := 2) S hK (bl_P hP [] rfl) (bl_D hD [] rfl rfl) (c_X4_isWithin l E n9 100 ) gS_X4_44 (by decide +kernel) rfl ⟨rfl, rfl⟩ ⟨Nat.le_of_ble_eq_true rfl, Nat.le_of_ble_eq_true rfl⟩ hl.1 (Nat.le_of_ble_eq_true rfl) dX4_sold_3 ⟨Nat.zero_le _, Nat.zero_le _⟩) ?_
  refine b_ifne (tgt := 15) S.1 S.2.1 dX4_sold_6 (by decide) (fun c_6 => ?_) (fun c_6 => ?_)
  · obtain ⟨k_n9, hk_n9, ek_n9⟩ := nI_of2 (n := 100) (by decide) (Int32.not_lt.mpr c_6.1) c_6.2
    refine lv_aload_n S.1 S.2.1 dX4_sold_15 rfl (lv_at hl 0 rfl) ?_
    refine gf_X4_16 S hK hP 0 0 rfl rfl rfl dX4_sold_16 ?_
    refine lv_aload_n S.1 S.2.1 dX4_sold_19 rfl (lv_at hl 0 rfl) ?_
    refine gf_X4_10 S hK hP 0 0 rfl rfl rfl dX4_sold_20 ?_
    refine go_V (run_V (As := [.ref (ah 0)]) (rest := []) (n := 1) S hK (bl_P hP [3, 1] rfl) (bl_D hD [3, 1] rfl rfl) (c_X0_become l E az ah x r n hn hn8) gV_X4_135 (by decide +kernel) rfl ⟨rfl, rfl⟩ ⟨Nat.le_of_ble_eq_true rfl, Nat.le_of_ble_eq_true rfl⟩ (ci := 0) (q0 := 0) rfl rfl hl.1 (Nat.le_of_ble_eq_true rfl) dX4_sold_23 ⟨Nat.zero_le _, Nat.zero_le _⟩) hP hD hS [3, 1] rfl (had_cons hw_ad (had_cons rfl rfl)) (Bs' := [[gObj ag ah az ak i0], hillsW E ah r, [(ag 4, .inl (E.2.1, 7, .inl (sg f 7)))], hillsW E az (becF x r)]) rfl (fun H locs hP hD hS => ?_)
    obtain ⟨r_23, er_23⟩ : ∃ zz9 : Row, zz9 = becF x r := ⟨_, rfl⟩
    rw [← er_23] at hP hD
    have hev_r_23 : Ev r_23 r := by rw [er_23]; exact Ev.bec
    have hRI_r_23 : RI r_23 := RI_ev hev_r_23.sy hR
    have hr_23_1 : r_23 1 = nI n := (hev_r_23.lo (by decide)).trans hn
    have hr_23_0 : r_23 0 = nI d := (hev_r_23.lo (by decide)).trans hd
    refine lv_aload_n S.1 S.2.1 dX4_sold_26 rfl (lv_at hl 0 rfl) ?_
    refine gf_X4_16 S hK hP 0 0 rfl rfl rfl dX4_sold_27 ?_
    refine lv_iload_n S.1 S.2.1 dX4_sold_30 rfl (lv_at hl 1 rfl) ?_
    refine lv_eqi (y := nI k_n9) ek_n9 ?_
    refine go_V (run_V (As := [.int (nI k_n9)]) (rest := []) (n := 1) S hK (bl_P hP [3] rfl) (bl_D hD [3] rfl rfl) (c_X0_passDays l E az r_23 k_n9 (by omega) hRI_r_23) gV_X4_113 (by decide +kernel) rfl ⟨rfl, rfl⟩ ⟨Nat.le_of_ble_eq_true rfl, Nat.le_of_ble_eq_true rfl⟩ (ci := 0) (q0 := 0) rfl rfl hl.1 (Nat.le_of_ble_eq_true rfl) dX4_sold_31 ⟨Nat.zero_le _, Nat.zero_le _⟩) hP hD hS [3] rfl (had_cons hw_ad rfl) (Bs' := [[gObj ag ah az ak i0], hillsW E ah r, [(ag 4, .inl (E.2.1, 7, .inl (sg f 7)))], hillsW E az (daysF r_23 k_n9)]) rfl (fun H locs hP hD hS => ?_)
    obtain ⟨r_31, er_31⟩ : ∃ zz9 : Row, zz9 = daysF r_23 k_n9 := ⟨_, rfl⟩
    rw [← er_31] at hP hD
    have hr_31_1 : r_31 1 = nI n := by rw [er_31]; exact (daysF_1 _ _).trans hr_23_1
    have hRI_r_31 : RI r_31 := by rw [er_31]; exact daysF_RI hRI_r_23 _
    have hev_r_31 : Ev r_31 (daysF r k_n9) := by rw [er_31]; exact ev_days hev_r_23 _
    refine lv_aload_n S.1 S.2.1 dX4_sold_34 rfl (lv_at hl 0 rfl) ?_
    refine gf_X4_16 S hK hP 0 0 rfl rfl rfl dX4_sold_35 ?_
    refine gf_X4_117 S hK hP 3 0 rfl rfl rfl dX4_sold_38 ?_
    refine lv_eqi (y := (daysF r k_n9) 4) ((hev_r_31).lo (by decide)) ?_
    exact retIx S hr hlk r_31 (by have e9 : rSold r n9 = .inr (r, (daysF r k_n9) 4) := (by unfold rSold; rw [if_pos c_6, ek_n9, tN_nI (by omega)]); rw [e9, fndC_inr]; exact hP) hS (by have e9 : rSold r n9 = .inr (r, (daysF r k_n9) 4) := (by unfold rSold; rw [if_pos c_6, ek_n9, tN_nI (by omega)]); rw [e9, ansR_inr]) dX4_sold_41
  · refine lv_aload_n S.1 S.2.1 dX4_sold_9 rfl (lv_at hl 0 rfl) ?_
    refine lv_iconst (v := 0) S.1 S.2.1 dX4_sold_10 (by decide) ?_
    refine go_I (run_V (As := [.int 0]) (rest := []) (n := 1) S hK (bl_P hP [0, 2] rfl) (bl_D hD [0, 2] rfl rfl) (c_X4_finding l E ag ah az ak i0 f 0 (by decide)) gV_X4_48 (by decide +kernel) rfl ⟨rfl, rfl⟩ ⟨Nat.le_of_ble_eq_true rfl, Nat.le_of_ble_eq_true rfl⟩ (ci := 4) (q0 := 0) rfl rfl hl.1 (Nat.le_of_ble_eq_true rfl) dX4_sold_11 ⟨Nat.zero_le _, Nat.zero_le _⟩) hP hD hS [0, 2] rfl (had_cons rfl (had_cons cell_ad rfl)) (Bs' := [[gObj ag ah az ak i0], hillsW E ah r, [(ag 4, .inl (E.2.1, 7, .inl (sg (upd f 0 (f 0 + 1)) 7)))], hillsW E az x]) rfl (fun H locs hP hD hS => ?_)
    obtain ⟨r_11, er_11⟩ : ∃ zz9 : Row, zz9 = upd f 0 (f 0 + 1) := ⟨_, rfl⟩
    rw [← er_11] at hP hD
    exact retIx S hr hlk x (by have e9 : rSold r n9 = .inl 0 := (by unfold rSold; rw [if_neg c_6]); rw [er_11] at hP; rw [e9, fndC_inl]; exact hP) hS (by have e9 : rSold r n9 = .inl 0 := (by unfold rSold; rw [if_neg c_6]); rw [e9]; decide) dX4_sold_14
set_option maxHeartbeats 800000 in
set_option maxRecDepth 100000 in
theorem c_X4_when (l : Launch) (E : EV) (ag ah az ak : Nat → Nat) (i0 : Int32) (r f x : Row) (pp v : Int32) (hR : RI r) : Met l yX4_when (wq yX4_when cX4_when 4 (some .int)) ({ frames := 4, cells := 0, slots := 0, locals := 83 }) (preB E [.ref (ag 0), .int pp, .int v] [[gObj ag ah az ak i0], hillsW E ah r, [(ag 4, .inl (E.2.1, 7, .inl (sg f 7)))], hillsW E az x]) (qIx E [[gObj ag ah az ak i0], hillsW E ah r, [(ag 4, .inl (E.2.1, 7, .inl (sg f 7)))], hillsW E az x] (fun u9 => [[gObj ag ah az ak i0], hillsW E ah r, [(ag 4, .inl (E.2.1, 7, .inl (sg (fndC f (rWhen r pp v)) 7)))], hillsW E az u9]) (ansR (rWhen r pp v))) 0 0 (inB [[gObj ag ah az ak i0], hillsW E ah r, [(ag 4, .inl (E.2.1, 7, .inl (sg f 7)))], hillsW E az x]) := by
  refine M_mk RX4 (by decide) rfl (Nat.le_of_ble_eq_true rfl) ?_
  intro p e s m below meth c S hr hlk hK hP hD hS ls hl
  have hl : lv_has ls 4 [(0, .ref (ag 0)), (1, .int pp), (2, .int v)] := hl
  obtain ⟨n, d, hn, hn8, hd, hd5, ho, hso, hli, hsp, hpt⟩ := id hR
  obtain ⟨H, hH⟩ : ∃ zz9, zz9 = s.heap := ⟨_, rfl⟩
  obtain ⟨locs, hlocs⟩ : ∃ zz9 : List Loc, zz9 = [] := ⟨_, rfl⟩
  have hP : PE E [[gObj ag ah az ak i0], hillsW E ah r, [(ag 4, .inl (E.2.1, 7, .inl (sg f 7)))], hillsW E az x] H := by rw [hH]; exact hP
  have hS : va_S (inB [[gObj ag ah az ak i0], hillsW E ah r, [(ag 4, .inl (E.2.1, 7, .inl (sg f 7)))], hillsW E az x]) s.heap H locs := by rw [hH, hlocs]; exact hS
  show W p l e ({ frames := 4, cells := 0, slots := 0, locals := 83 }) s m ([.ref (ag 0), .int pp, .int v] : List Value).toArray below meth c s.heap [] 0 0 _ _
  suffices hgo : W p l e ({ frames := 4, cells := 0, slots := 0, locals := 83 }) s m ([.ref (ag 0), .int pp, .int v] : List Value).toArray below meth c H locs 0 0 (MQ below (qIx E [[gObj ag ah az ak i0], hillsW E ah r, [(ag 4, .inl (E.2.1, 7, .inl (sg f 7)))], hillsW E az x] (fun u9 => [[gObj ag ah az ak i0], hillsW E ah r, [(ag 4, .inl (E.2.1, 7, .inl (sg (fndC f (rWhen r pp v)) 7)))], hillsW E az u9]) (ansR (rWhen r pp v))) ([.ref (ag 0), .int pp, .int v] : List Value).toArray s 0 0 (inB [[gObj ag ah az ak i0], hillsW E ah r, [(ag 4, .inl (E.2.1, 7, .inl (sg f 7)))], hillsW E az x])) (F0 m 0 ls []) by rw [hH, hlocs] at hgo; exact hgo
  clear hH hlocs
  refine lv_aload_n S.1 S.2.1 dX4_when_0 rfl (lv_at hl 0 rfl) ?_
  refine lv_iload_n S.1 S.2.1 dX4_when_1 rfl (lv_at hl 1 rfl) ?_
  refine go_S (run_V (As := [.int pp]) (rest := []) (n := 1) S hK (bl_P hP [0, 1] rfl) (bl_D hD [0, 1] rfl rfl) (c_X4_isPotter l E ag ah az ak i0 r pp ) gV_X4_67 (by decide +kernel) rfl ⟨rfl, rfl⟩ ⟨Nat.le_of_ble_eq_true rfl, Nat.le_of_ble_eq_true rfl⟩ (ci := 4) (q0 := 0) rfl rfl hl.1 (Nat.le_of_ble_eq_true rfl) dX4_when_2 ⟨Nat.zero_le _, Nat.zero_le _⟩) ?_
  refine b_ifeq (tgt := 18) S.1 S.2.1 dX4_when_5 (by decide) (fun c_5 => ?_) (fun c_5 => ?_)
  · refine lv_aload_n S.1 S.2.1 dX4_when_18 rfl (lv_at hl 0 rfl) ?_
    refine lv_iconst (v := 0) S.1 S.2.1 dX4_when_19 (by decide) ?_
    refine go_I (run_V (As := [.int 0]) (rest := []) (n := 1) S hK (bl_P hP [0, 2] rfl) (bl_D hD [0, 2] rfl rfl) (c_X4_finding l E ag ah az ak i0 f 0 (by decide)) gV_X4_48 (by decide +kernel) rfl ⟨rfl, rfl⟩ ⟨Nat.le_of_ble_eq_true rfl, Nat.le_of_ble_eq_true rfl⟩ (ci := 4) (q0 := 0) rfl rfl hl.1 (Nat.le_of_ble_eq_true rfl) dX4_when_20 ⟨Nat.zero_le _, Nat.zero_le _⟩) hP hD hS [0, 2] rfl (had_cons rfl (had_cons cell_ad rfl)) (Bs' := [[gObj ag ah az ak i0], hillsW E ah r, [(ag 4, .inl (E.2.1, 7, .inl (sg (upd f 0 (f 0 + 1)) 7)))], hillsW E az x]) rfl (fun H locs hP hD hS => ?_)
    obtain ⟨r_20, er_20⟩ : ∃ zz9 : Row, zz9 = upd f 0 (f 0 + 1) := ⟨_, rfl⟩
    rw [← er_20] at hP hD
    exact retIx S hr hlk x (by have e9 : rWhen r pp v = .inl 0 := (by unfold rWhen; rw [if_neg c_5]); rw [er_20] at hP; rw [e9, fndC_inl]; exact hP) hS (by have e9 : rWhen r pp v = .inl 0 := (by unfold rWhen; rw [if_neg c_5]); rw [e9]; decide) dX4_when_23
  · obtain ⟨k_pp, hk_pp, ek_pp⟩ := pot_nat c_5 hn (by omega)
    refine lv_iload_n S.1 S.2.1 dX4_when_8 rfl (lv_at hl 2 rfl) ?_
    refine lv_sipush (v := 9999) S.1 S.2.1 dX4_when_9 (by decide) ?_
    refine go_S (run_S (As := [.int v, .int 9999]) (rest := []) (n := 2) S hK (bl_P hP [] rfl) (bl_D hD [] rfl rfl) (c_X4_isWithin l E v 9999 ) gS_X4_44 (by decide +kernel) rfl ⟨rfl, rfl⟩ ⟨Nat.le_of_ble_eq_true rfl, Nat.le_of_ble_eq_true rfl⟩ hl.1 (Nat.le_of_ble_eq_true rfl) dX4_when_12 ⟨Nat.zero_le _, Nat.zero_le _⟩) ?_
    refine b_ifne (tgt := 24) S.1 S.2.1 dX4_when_15 (by decide) (fun c_15 => ?_) (fun c_15 => ?_)
    · obtain ⟨k_v, hk_v, ek_v⟩ := nI_of2 (n := 9999) (by decide) (Int32.not_lt.mpr c_15.1) c_15.2
      refine lv_aload_n S.1 S.2.1 dX4_when_24 rfl (lv_at hl 0 rfl) ?_
      refine gf_X4_16 S hK hP 0 0 rfl rfl rfl dX4_when_25 ?_
      refine lv_aload_n S.1 S.2.1 dX4_when_28 rfl (lv_at hl 0 rfl) ?_
      refine gf_X4_10 S hK hP 0 0 rfl rfl rfl dX4_when_29 ?_
      refine go_V (run_V (As := [.ref (ah 0)]) (rest := []) (n := 1) S hK (bl_P hP [3, 1] rfl) (bl_D hD [3, 1] rfl rfl) (c_X0_become l E az ah x r n hn hn8) gV_X4_135 (by decide +kernel) rfl ⟨rfl, rfl⟩ ⟨Nat.le_of_ble_eq_true rfl, Nat.le_of_ble_eq_true rfl⟩ (ci := 0) (q0 := 0) rfl rfl hl.1 (Nat.le_of_ble_eq_true rfl) dX4_when_32 ⟨Nat.zero_le _, Nat.zero_le _⟩) hP hD hS [3, 1] rfl (had_cons hw_ad (had_cons rfl rfl)) (Bs' := [[gObj ag ah az ak i0], hillsW E ah r, [(ag 4, .inl (E.2.1, 7, .inl (sg f 7)))], hillsW E az (becF x r)]) rfl (fun H locs hP hD hS => ?_)
      obtain ⟨r_32, er_32⟩ : ∃ zz9 : Row, zz9 = becF x r := ⟨_, rfl⟩
      rw [← er_32] at hP hD
      have hev_r_32 : Ev r_32 r := by rw [er_32]; exact Ev.bec
      have hRI_r_32 : RI r_32 := RI_ev hev_r_32.sy hR
      have hr_32_1 : r_32 1 = nI n := (hev_r_32.lo (by decide)).trans hn
      have hr_32_0 : r_32 0 = nI d := (hev_r_32.lo (by decide)).trans hd
      refine lv_iconst (v := 0) S.1 S.2.1 dX4_when_35 (by decide) ?_
      refine lv_istore_n (lv' := [(3, .int 0), (0, .ref (ag 0)), (1, .int pp), (2, .int v)]) S.1 S.2.1 dX4_when_36 rfl hl (by decide) rfl (fun ls hl => ?_)
      have L_37 : ∀ (fu : Nat) (i : Nat) (ti : Row), (i ≤ 201) → (201 < i + fu) → (Ev ti (daysF r i)) → (RI ti) → (ti 1 = nI n) → (∀ j, j < i → ¬ (nI k_v ≤ daysF r j (21 + 7 * k_pp + 5))) → ∀ (H : Heap) (locs : List Loc), PE E [[gObj ag ah az ak i0], hillsW E ah r, [(ag 4, .inl (E.2.1, 7, .inl (sg f 7)))], hillsW E az ti] H → DE (inB [[gObj ag ah az ak i0], hillsW E ah r, [(ag 4, .inl (E.2.1, 7, .inl (sg f 7)))], hillsW E az x]) [[gObj ag ah az ak i0], hillsW E ah r, [(ag 4, .inl (E.2.1, 7, .inl (sg f 7)))], hillsW E az ti] → va_S (inB [[gObj ag ah az ak i0], hillsW E ah r, [(ag 4, .inl (E.2.1, 7, .inl (sg f 7)))], hillsW E az x]) s.heap H locs → ∀ (ls : Array Slot), lv_has ls 4 [(0, .ref (ag 0)), (1, .int pp), (2, .int v), (3, .int (nI i))] → W p l e ({ frames := 4, cells := 0, slots := 0, locals := 83 }) s m ([.ref (ag 0), .int pp, .int v] : List Value).toArray below meth c H locs 0 0 (MQ below (qIx E [[gObj ag ah az ak i0], hillsW E ah r, [(ag 4, .inl (E.2.1, 7, .inl (sg f 7)))], hillsW E az x] (fun u9 => [[gObj ag ah az ak i0], hillsW E ah r, [(ag 4, .inl (E.2.1, 7, .inl (sg (fndC f (rWhen r pp v)) 7)))], hillsW E az u9]) (ansR (rWhen r pp v))) ([.ref (ag 0), .int pp, .int v] : List Value).toArray s 0 0 (inB [[gObj ag ah az ak i0], hillsW E ah r, [(ag 4, .inl (E.2.1, 7, .inl (sg f 7)))], hillsW E az x])) (F0 m 37 ls []) := by
        intro fu
        induction fu with
        | zero =>
          intro i ti hi hf hev hRt ht1 hno
          omega
        | succ fu ih_37 =>
          intro i ti hi hf hev hRt ht1 hno H locs hP hD hS ls hl
          refine lv_iload_n S.1 S.2.1 dX4_when_37 rfl (lv_at hl 3 rfl) ?_
          refine lv_sipush (v := 200) S.1 S.2.1 dX4_when_38 (by decide) ?_
          refine lv_icmp_gt (tgt := 75) S.1 S.2.1 dX4_when_41 (by decide) (fun c_41 => ?_) (fun c_41 => ?_)
          · have n_41 := Int32.not_le.mpr c_41
            have hi9 : i = 200 + 1 := by (have z9 : 200 < i := lt_of_nI (a := 200) c_41 (by decide) (by omega); omega)
            refine lv_aload_n S.1 S.2.1 dX4_when_75 rfl (lv_at hl 0 rfl) ?_
            refine lv_iconst (v := 3) S.1 S.2.1 dX4_when_76 (by decide) ?_
            refine go_I (run_V (As := [.int 3]) (rest := []) (n := 1) S hK (bl_P hP [0, 2] rfl) (bl_D hD [0, 2] rfl rfl) (c_X4_finding l E ag ah az ak i0 f 3 (by decide)) gV_X4_48 (by decide +kernel) rfl ⟨rfl, rfl⟩ ⟨Nat.le_of_ble_eq_true rfl, Nat.le_of_ble_eq_true rfl⟩ (ci := 4) (q0 := 0) rfl rfl hl.1 (Nat.le_of_ble_eq_true rfl) dX4_when_77 ⟨Nat.zero_le _, Nat.zero_le _⟩) hP hD hS [0, 2] rfl (had_cons rfl (had_cons cell_ad rfl)) (Bs' := [[gObj ag ah az ak i0], hillsW E ah r, [(ag 4, .inl (E.2.1, 7, .inl (sg (upd f 3 (f 3 + 1)) 7)))], hillsW E az ti]) rfl (fun H locs hP hD hS => ?_)
            obtain ⟨r_77, er_77⟩ : ∃ zz9 : Row, zz9 = upd f 3 (f 3 + 1) := ⟨_, rfl⟩
            rw [← er_77] at hP hD
            exact retIx S hr hlk ti (by have e9 : rWhen r pp v = fstR r (fun h9 => decide (nI k_v ≤ daysF r h9 (21 + 7 * k_pp + 5))) 201 := (by unfold rWhen; rw [if_pos c_5, if_pos c_15]; (try rw [ek_pp]); (try rw [ek_v]); (try rw [tN_nI (k := k_pp) (by omega)]); (try rw [tN_nI (k := k_v) (by omega)]); try rfl); have e8 : fstR r (fun h9 => decide (nI k_v ≤ daysF r h9 (21 + 7 * k_pp + 5))) 201 = .inl 3 := fst_out (fun j hj => decide_eq_false (hno j (by omega))); rw [er_77] at hP; rw [e9, e8, fndC_inl]; exact hP) hS (by have e9 : rWhen r pp v = fstR r (fun h9 => decide (nI k_v ≤ daysF r h9 (21 + 7 * k_pp + 5))) 201 := (by unfold rWhen; rw [if_pos c_5, if_pos c_15]; (try rw [ek_pp]); (try rw [ek_v]); (try rw [tN_nI (k := k_pp) (by omega)]); (try rw [tN_nI (k := k_v) (by omega)]); try rfl); have e8 : fstR r (fun h9 => decide (nI k_v ≤ daysF r h9 (21 + 7 * k_pp + 5))) 201 = .inl 3 := fst_out (fun j hj => decide_eq_false (hno j (by omega))); rw [e9, e8]; decide) dX4_when_80
          · have n_41 := Int32.not_lt.mp c_41
            have hi2 : i ≤ 200 := le_of_nI (b := 200) (Int32.not_lt.mp c_41) (by omega) (by decide)
            refine lv_aload_n S.1 S.2.1 dX4_when_44 rfl (lv_at hl 0 rfl) ?_
            refine gf_X4_16 S hK hP 0 0 rfl rfl rfl dX4_when_45 ?_
            refine gf_X4_71 S hK hP 3 0 rfl rfl rfl dX4_when_48 ?_
            refine lv_iload_n S.1 S.2.1 dX4_when_51 rfl (lv_at hl 1 rfl) ?_
            refine lv_eqi (y := nI k_pp) ek_pp ?_
            refine b_aaldN (i := k_pp) S hK hP 2 3 2 rfl rfl rfl (by omega) (by decide) (v := az (4 + k_pp)) rfl dX4_when_52 ?_
            refine gf_X4_139 S hK hP 3 (4 + k_pp) rfl (hw_pot (by omega)) rfl dX4_when_53 ?_
            refine lv_eqi (y := (daysF r i) (21 + 7 * k_pp + 5)) ((hev).p (by rw [cntN_eq ht1 hn8]; exact hk_pp) (by decide)) ?_
            refine lv_iload_n S.1 S.2.1 dX4_when_56 rfl (lv_at hl 2 rfl) ?_
            refine lv_eqi (y := nI k_v) ek_v ?_
            refine lv_icmp_lt (tgt := 62) S.1 S.2.1 dX4_when_57 (by decide) (fun c_57 => ?_) (fun c_57 => ?_)
            · have n_57 := Int32.not_le.mpr c_57
              refine lv_aload_n S.1 S.2.1 dX4_when_62 rfl (lv_at hl 0 rfl) ?_
              refine gf_X4_16 S hK hP 0 0 rfl rfl rfl dX4_when_63 ?_
              refine go_V (run_V (As := []) (rest := []) (n := 0) S hK (bl_P hP [3] rfl) (bl_D hD [3] rfl rfl) (c_X0_passDay9 l E az ti hRt) gV_X4_142 (by decide +kernel) rfl ⟨rfl, rfl⟩ ⟨Nat.le_of_ble_eq_true rfl, Nat.le_of_ble_eq_true rfl⟩ (ci := 0) (q0 := 0) rfl rfl hl.1 (Nat.le_of_ble_eq_true rfl) dX4_when_66 ⟨Nat.zero_le _, Nat.zero_le _⟩) hP hD hS [3] rfl (had_cons hw_ad rfl) (Bs' := [[gObj ag ah az ak i0], hillsW E ah r, [(ag 4, .inl (E.2.1, 7, .inl (sg f 7)))], hillsW E az (dayF ti)]) rfl (fun H locs hP hD hS => ?_)
              obtain ⟨r_66, er_66⟩ : ∃ zz9 : Row, zz9 = dayF ti := ⟨_, rfl⟩
              rw [← er_66] at hP hD
              have hr_66_1 : r_66 1 = nI n := by rw [er_66]; exact (dayF_1 _).trans ht1
              have hRI_r_66 : RI r_66 := by rw [er_66]; exact dayF_RI hRt
              have hev_r_66 : Ev r_66 (dayF (daysF r i)) := by rw [er_66]; exact ev_day hev
              refine lv_iinc (v := nI (i + 1)) (lv' := [(3, .int (nI (i + 1))), (0, .ref (ag 0)), (1, .int pp), (2, .int v)]) S.1 S.2.1 dX4_when_69 hl (k := 3) rfl (nI_1 i) (by decide) rfl (fun ls hl => ?_)
              refine lv_goto (tgt := 37) S.1 S.2.1 dX4_when_72 (by decide) ?_
              exact ih_37 (i + 1) r_66 (by omega) (by omega) (show Ev r_66 (daysF r (i + 1)) from hev_r_66) hRI_r_66 hr_66_1 (lt_s hno n_57) H locs hP hD hS ls (lv_sub hl [1, 2, 3, 0] rfl)
            · have n_57 := Int32.not_lt.mp c_57
              refine lv_iload_n S.1 S.2.1 dX4_when_60 rfl (lv_at hl 3 rfl) ?_
              exact retIx S hr hlk ti (by have e9 : rWhen r pp v = fstR r (fun h9 => decide (nI k_v ≤ daysF r h9 (21 + 7 * k_pp + 5))) 201 := (by unfold rWhen; rw [if_pos c_5, if_pos c_15]; (try rw [ek_pp]); (try rw [ek_v]); (try rw [tN_nI (k := k_pp) (by omega)]); (try rw [tN_nI (k := k_v) (by omega)]); try rfl); have e8 : fstR r (fun h9 => decide (nI k_v ≤ daysF r h9 (21 + 7 * k_pp + 5))) 201 = .inr (r, nI i) := fst_in (by omega) (fun j hj => decide_eq_false (hno j hj)) (decide_eq_true n_57); rw [e9, e8, fndC_inr]; exact hP) hS (by have e9 : rWhen r pp v = fstR r (fun h9 => decide (nI k_v ≤ daysF r h9 (21 + 7 * k_pp + 5))) 201 := (by unfold rWhen; rw [if_pos c_5, if_pos c_15]; (try rw [ek_pp]); (try rw [ek_v]); (try rw [tN_nI (k := k_pp) (by omega)]); (try rw [tN_nI (k := k_v) (by omega)]); try rfl); have e8 : fstR r (fun h9 => decide (nI k_v ≤ daysF r h9 (21 + 7 * k_pp + 5))) 201 = .inr (r, nI i) := fst_in (by omega) (fun j hj => decide_eq_false (hno j hj)) (decide_eq_true n_57); rw [e9, e8, ansR_inr]) dX4_when_61
      exact L_37 202 0 r_32 (by omega) (by omega) hev_r_32 hRI_r_32 hr_32_1 (fun j hj => absurd hj (by omega)) H locs hP hD hS ls (lv_sub hl [1, 2, 3, 0] rfl)
    · refine lv_aload_n S.1 S.2.1 dX4_when_18 rfl (lv_at hl 0 rfl) ?_
      refine lv_iconst (v := 0) S.1 S.2.1 dX4_when_19 (by decide) ?_
      refine go_I (run_V (As := [.int 0]) (rest := []) (n := 1) S hK (bl_P hP [0, 2] rfl) (bl_D hD [0, 2] rfl rfl) (c_X4_finding l E ag ah az ak i0 f 0 (by decide)) gV_X4_48 (by decide +kernel) rfl ⟨rfl, rfl⟩ ⟨Nat.le_of_ble_eq_true rfl, Nat.le_of_ble_eq_true rfl⟩ (ci := 4) (q0 := 0) rfl rfl hl.1 (Nat.le_of_ble_eq_true rfl) dX4_when_20 ⟨Nat.zero_le _, Nat.zero_le _⟩) hP hD hS [0, 2] rfl (had_cons rfl (had_cons cell_ad rfl)) (Bs' := [[gObj ag ah az ak i0], hillsW E ah r, [(ag 4, .inl (E.2.1, 7, .inl (sg (upd f 0 (f 0 + 1)) 7)))], hillsW E az x]) rfl (fun H locs hP hD hS => ?_)
      obtain ⟨r_20_1, er_20_1⟩ : ∃ zz9 : Row, zz9 = upd f 0 (f 0 + 1) := ⟨_, rfl⟩
      rw [← er_20_1] at hP hD
      exact retIx S hr hlk x (by have e9 : rWhen r pp v = .inl 0 := (by unfold rWhen; rw [if_pos c_5, if_neg c_15]); rw [er_20_1] at hP; rw [e9, fndC_inl]; exact hP) hS (by have e9 : rWhen r pp v = .inl 0 := (by unfold rWhen; rw [if_pos c_5, if_neg c_15]); rw [e9]; decide) dX4_when_23
set_option maxHeartbeats 800000 in
set_option maxRecDepth 100000 in
theorem c_X4_tinted (l : Launch) (E : EV) (ag ah az ak : Nat → Nat) (i0 : Int32) (r f x : Row) (pp w : Int32) (hR : RI r) : Met l yX4_tinted (wq yX4_tinted cX4_tinted 4 (some .int)) ({ frames := 4, cells := 0, slots := 0, locals := 83 }) (preB E [.ref (ag 0), .int pp, .int w] [[gObj ag ah az ak i0], hillsW E ah r, [(ag 4, .inl (E.2.1, 7, .inl (sg f 7)))], hillsW E az x]) (qIx E [[gObj ag ah az ak i0], hillsW E ah r, [(ag 4, .inl (E.2.1, 7, .inl (sg f 7)))], hillsW E az x] (fun u9 => [[gObj ag ah az ak i0], hillsW E ah r, [(ag 4, .inl (E.2.1, 7, .inl (sg (fndC f (rTinted r pp w)) 7)))], hillsW E az u9]) (ansR (rTinted r pp w))) 0 0 (inB [[gObj ag ah az ak i0], hillsW E ah r, [(ag 4, .inl (E.2.1, 7, .inl (sg f 7)))], hillsW E az x]) := by
  refine M_mk RX4 (by decide) rfl (Nat.le_of_ble_eq_true rfl) ?_
  intro p e s m below meth c S hr hlk hK hP hD hS ls hl
  have hl : lv_has ls 4 [(0, .ref (ag 0)), (1, .int pp), (2, .int w)] := hl
  obtain ⟨n, d, hn, hn8, hd, hd5, ho, hso, hli, hsp, hpt⟩ := id hR
  obtain ⟨H, hH⟩ : ∃ zz9, zz9 = s.heap := ⟨_, rfl⟩
  obtain ⟨locs, hlocs⟩ : ∃ zz9 : List Loc, zz9 = [] := ⟨_, rfl⟩
  have hP : PE E [[gObj ag ah az ak i0], hillsW E ah r, [(ag 4, .inl (E.2.1, 7, .inl (sg f 7)))], hillsW E az x] H := by rw [hH]; exact hP
  have hS : va_S (inB [[gObj ag ah az ak i0], hillsW E ah r, [(ag 4, .inl (E.2.1, 7, .inl (sg f 7)))], hillsW E az x]) s.heap H locs := by rw [hH, hlocs]; exact hS
  show W p l e ({ frames := 4, cells := 0, slots := 0, locals := 83 }) s m ([.ref (ag 0), .int pp, .int w] : List Value).toArray below meth c s.heap [] 0 0 _ _
  suffices hgo : W p l e ({ frames := 4, cells := 0, slots := 0, locals := 83 }) s m ([.ref (ag 0), .int pp, .int w] : List Value).toArray below meth c H locs 0 0 (MQ below (qIx E [[gObj ag ah az ak i0], hillsW E ah r, [(ag 4, .inl (E.2.1, 7, .inl (sg f 7)))], hillsW E az x] (fun u9 => [[gObj ag ah az ak i0], hillsW E ah r, [(ag 4, .inl (E.2.1, 7, .inl (sg (fndC f (rTinted r pp w)) 7)))], hillsW E az u9]) (ansR (rTinted r pp w))) ([.ref (ag 0), .int pp, .int w] : List Value).toArray s 0 0 (inB [[gObj ag ah az ak i0], hillsW E ah r, [(ag 4, .inl (E.2.1, 7, .inl (sg f 7)))], hillsW E az x])) (F0 m 0 ls []) by rw [hH, hlocs] at hgo; exact hgo
  clear hH hlocs
  refine lv_aload_n S.1 S.2.1 dX4_tinted_0 rfl (lv_at hl 0 rfl) ?_
  refine lv_iload_n S.1 S.2.1 dX4_tinted_1 rfl (lv_at hl 1 rfl) ?_
  refine go_S (run_V (As := [.int pp]) (rest := []) (n := 1) S hK (bl_P hP [0, 1] rfl) (bl_D hD [0, 1] rfl rfl) (c_X4_isPotter l E ag ah az ak i0 r pp ) gV_X4_67 (by decide +kernel) rfl ⟨rfl, rfl⟩ ⟨Nat.le_of_ble_eq_true rfl, Nat.le_of_ble_eq_true rfl⟩ (ci := 4) (q0 := 0) rfl rfl hl.1 (Nat.le_of_ble_eq_true rfl) dX4_tinted_2 ⟨Nat.zero_le _, Nat.zero_le _⟩) ?_
  refine b_ifeq (tgt := 17) S.1 S.2.1 dX4_tinted_5 (by decide) (fun c_5 => ?_) (fun c_5 => ?_)
  · refine lv_aload_n S.1 S.2.1 dX4_tinted_17 rfl (lv_at hl 0 rfl) ?_
    refine lv_iconst (v := 0) S.1 S.2.1 dX4_tinted_18 (by decide) ?_
    refine go_I (run_V (As := [.int 0]) (rest := []) (n := 1) S hK (bl_P hP [0, 2] rfl) (bl_D hD [0, 2] rfl rfl) (c_X4_finding l E ag ah az ak i0 f 0 (by decide)) gV_X4_48 (by decide +kernel) rfl ⟨rfl, rfl⟩ ⟨Nat.le_of_ble_eq_true rfl, Nat.le_of_ble_eq_true rfl⟩ (ci := 4) (q0 := 0) rfl rfl hl.1 (Nat.le_of_ble_eq_true rfl) dX4_tinted_19 ⟨Nat.zero_le _, Nat.zero_le _⟩) hP hD hS [0, 2] rfl (had_cons rfl (had_cons cell_ad rfl)) (Bs' := [[gObj ag ah az ak i0], hillsW E ah r, [(ag 4, .inl (E.2.1, 7, .inl (sg (upd f 0 (f 0 + 1)) 7)))], hillsW E az x]) rfl (fun H locs hP hD hS => ?_)
    obtain ⟨r_19, er_19⟩ : ∃ zz9 : Row, zz9 = upd f 0 (f 0 + 1) := ⟨_, rfl⟩
    rw [← er_19] at hP hD
    exact retIx S hr hlk x (by have e9 : rTinted r pp w = .inl 0 := (by unfold rTinted; rw [if_neg c_5]); rw [er_19] at hP; rw [e9, fndC_inl]; exact hP) hS (by have e9 : rTinted r pp w = .inl 0 := (by unfold rTinted; rw [if_neg c_5]); rw [e9]; decide) dX4_tinted_22
  · obtain ⟨k_pp, hk_pp, ek_pp⟩ := pot_nat c_5 hn (by omega)
    refine lv_iload_n S.1 S.2.1 dX4_tinted_8 rfl (lv_at hl 2 rfl) ?_
    refine lv_bipush (v := 7) S.1 S.2.1 dX4_tinted_9 (by decide) ?_
    refine go_S (run_S (As := [.int w, .int 7]) (rest := []) (n := 2) S hK (bl_P hP [] rfl) (bl_D hD [] rfl rfl) (c_X4_isWithin l E w 7 ) gS_X4_44 (by decide +kernel) rfl ⟨rfl, rfl⟩ ⟨Nat.le_of_ble_eq_true rfl, Nat.le_of_ble_eq_true rfl⟩ hl.1 (Nat.le_of_ble_eq_true rfl) dX4_tinted_11 ⟨Nat.zero_le _, Nat.zero_le _⟩) ?_
    refine b_ifne (tgt := 23) S.1 S.2.1 dX4_tinted_14 (by decide) (fun c_14 => ?_) (fun c_14 => ?_)
    · obtain ⟨k_w, hk_w, ek_w⟩ := nI_of2 (n := 7) (by decide) (Int32.not_lt.mpr c_14.1) c_14.2
      refine lv_aload_n S.1 S.2.1 dX4_tinted_23 rfl (lv_at hl 0 rfl) ?_
      refine gf_X4_16 S hK hP 0 0 rfl rfl rfl dX4_tinted_24 ?_
      refine lv_aload_n S.1 S.2.1 dX4_tinted_27 rfl (lv_at hl 0 rfl) ?_
      refine gf_X4_10 S hK hP 0 0 rfl rfl rfl dX4_tinted_28 ?_
      refine go_V (run_V (As := [.ref (ah 0)]) (rest := []) (n := 1) S hK (bl_P hP [3, 1] rfl) (bl_D hD [3, 1] rfl rfl) (c_X0_become l E az ah x r n hn hn8) gV_X4_135 (by decide +kernel) rfl ⟨rfl, rfl⟩ ⟨Nat.le_of_ble_eq_true rfl, Nat.le_of_ble_eq_true rfl⟩ (ci := 0) (q0 := 0) rfl rfl hl.1 (Nat.le_of_ble_eq_true rfl) dX4_tinted_31 ⟨Nat.zero_le _, Nat.zero_le _⟩) hP hD hS [3, 1] rfl (had_cons hw_ad (had_cons rfl rfl)) (Bs' := [[gObj ag ah az ak i0], hillsW E ah r, [(ag 4, .inl (E.2.1, 7, .inl (sg f 7)))], hillsW E az (becF x r)]) rfl (fun H locs hP hD hS => ?_)
      obtain ⟨r_31, er_31⟩ : ∃ zz9 : Row, zz9 = becF x r := ⟨_, rfl⟩
      rw [← er_31] at hP hD
      have hev_r_31 : Ev r_31 r := by rw [er_31]; exact Ev.bec
      have hRI_r_31 : RI r_31 := RI_ev hev_r_31.sy hR
      have hr_31_1 : r_31 1 = nI n := (hev_r_31.lo (by decide)).trans hn
      have hr_31_0 : r_31 0 = nI d := (hev_r_31.lo (by decide)).trans hd
      refine lv_iconst (v := 0) S.1 S.2.1 dX4_tinted_34 (by decide) ?_
      refine lv_istore_n (lv' := [(3, .int 0), (0, .ref (ag 0)), (1, .int pp), (2, .int w)]) S.1 S.2.1 dX4_tinted_35 rfl hl (by decide) rfl (fun ls hl => ?_)
      have L_36 : ∀ (fu : Nat) (i : Nat) (ti : Row), (i ≤ 201) → (201 < i + fu) → (Ev ti (daysF r i)) → (RI ti) → (ti 1 = nI n) → (∀ j, j < i → ¬ (0 < daysF r j (21 + 7 * k_pp + 5) ∧ daysF r j (21 + 7 * k_pp + 4) = nI k_w)) → ∀ (H : Heap) (locs : List Loc), PE E [[gObj ag ah az ak i0], hillsW E ah r, [(ag 4, .inl (E.2.1, 7, .inl (sg f 7)))], hillsW E az ti] H → DE (inB [[gObj ag ah az ak i0], hillsW E ah r, [(ag 4, .inl (E.2.1, 7, .inl (sg f 7)))], hillsW E az x]) [[gObj ag ah az ak i0], hillsW E ah r, [(ag 4, .inl (E.2.1, 7, .inl (sg f 7)))], hillsW E az ti] → va_S (inB [[gObj ag ah az ak i0], hillsW E ah r, [(ag 4, .inl (E.2.1, 7, .inl (sg f 7)))], hillsW E az x]) s.heap H locs → ∀ (ls : Array Slot), lv_has ls 4 [(0, .ref (ag 0)), (1, .int pp), (2, .int w), (3, .int (nI i))] → W p l e ({ frames := 4, cells := 0, slots := 0, locals := 83 }) s m ([.ref (ag 0), .int pp, .int w] : List Value).toArray below meth c H locs 0 0 (MQ below (qIx E [[gObj ag ah az ak i0], hillsW E ah r, [(ag 4, .inl (E.2.1, 7, .inl (sg f 7)))], hillsW E az x] (fun u9 => [[gObj ag ah az ak i0], hillsW E ah r, [(ag 4, .inl (E.2.1, 7, .inl (sg (fndC f (rTinted r pp w)) 7)))], hillsW E az u9]) (ansR (rTinted r pp w))) ([.ref (ag 0), .int pp, .int w] : List Value).toArray s 0 0 (inB [[gObj ag ah az ak i0], hillsW E ah r, [(ag 4, .inl (E.2.1, 7, .inl (sg f 7)))], hillsW E az x])) (F0 m 36 ls []) := by
        intro fu
        induction fu with
        | zero =>
          intro i ti hi hf hev hRt ht1 hno
          omega
        | succ fu ih_36 =>
          intro i ti hi hf hev hRt ht1 hno H locs hP hD hS ls hl
          refine lv_iload_n S.1 S.2.1 dX4_tinted_36 rfl (lv_at hl 3 rfl) ?_
          refine lv_sipush (v := 200) S.1 S.2.1 dX4_tinted_37 (by decide) ?_
          refine lv_icmp_gt (tgt := 74) S.1 S.2.1 dX4_tinted_40 (by decide) (fun c_40 => ?_) (fun c_40 => ?_)
          · have n_40 := Int32.not_le.mpr c_40
            have hi9 : i = 200 + 1 := by (have z9 : 200 < i := lt_of_nI (a := 200) c_40 (by decide) (by omega); omega)
            refine lv_aload_n S.1 S.2.1 dX4_tinted_74 rfl (lv_at hl 0 rfl) ?_
            refine lv_iconst (v := 3) S.1 S.2.1 dX4_tinted_75 (by decide) ?_
            refine go_I (run_V (As := [.int 3]) (rest := []) (n := 1) S hK (bl_P hP [0, 2] rfl) (bl_D hD [0, 2] rfl rfl) (c_X4_finding l E ag ah az ak i0 f 3 (by decide)) gV_X4_48 (by decide +kernel) rfl ⟨rfl, rfl⟩ ⟨Nat.le_of_ble_eq_true rfl, Nat.le_of_ble_eq_true rfl⟩ (ci := 4) (q0 := 0) rfl rfl hl.1 (Nat.le_of_ble_eq_true rfl) dX4_tinted_76 ⟨Nat.zero_le _, Nat.zero_le _⟩) hP hD hS [0, 2] rfl (had_cons rfl (had_cons cell_ad rfl)) (Bs' := [[gObj ag ah az ak i0], hillsW E ah r, [(ag 4, .inl (E.2.1, 7, .inl (sg (upd f 3 (f 3 + 1)) 7)))], hillsW E az ti]) rfl (fun H locs hP hD hS => ?_)
            obtain ⟨r_76, er_76⟩ : ∃ zz9 : Row, zz9 = upd f 3 (f 3 + 1) := ⟨_, rfl⟩
            rw [← er_76] at hP hD
            exact retIx S hr hlk ti (by have e9 : rTinted r pp w = fstR r (fun h9 => decide (0 < daysF r h9 (21 + 7 * k_pp + 5) ∧ daysF r h9 (21 + 7 * k_pp + 4) = nI k_w)) 201 := (by unfold rTinted; rw [if_pos c_5, if_pos c_14]; (try rw [ek_pp]); (try rw [ek_w]); (try rw [tN_nI (k := k_pp) (by omega)]); (try rw [tN_nI (k := k_w) (by omega)]); try rfl); have e8 : fstR r (fun h9 => decide (0 < daysF r h9 (21 + 7 * k_pp + 5) ∧ daysF r h9 (21 + 7 * k_pp + 4) = nI k_w)) 201 = .inl 3 := fst_out (fun j hj => decide_eq_false (hno j (by omega))); rw [er_76] at hP; rw [e9, e8, fndC_inl]; exact hP) hS (by have e9 : rTinted r pp w = fstR r (fun h9 => decide (0 < daysF r h9 (21 + 7 * k_pp + 5) ∧ daysF r h9 (21 + 7 * k_pp + 4) = nI k_w)) 201 := (by unfold rTinted; rw [if_pos c_5, if_pos c_14]; (try rw [ek_pp]); (try rw [ek_w]); (try rw [tN_nI (k := k_pp) (by omega)]); (try rw [tN_nI (k := k_w) (by omega)]); try rfl); have e8 : fstR r (fun h9 => decide (0 < daysF r h9 (21 + 7 * k_pp + 5) ∧ daysF r h9 (21 + 7 * k_pp + 4) = nI k_w)) 201 = .inl 3 := fst_out (fun j hj => decide_eq_false (hno j (by omega))); rw [e9, e8]; decide) dX4_tinted_79
          · have n_40 := Int32.not_lt.mp c_40
            have hi2 : i ≤ 200 := le_of_nI (b := 200) (Int32.not_lt.mp c_40) (by omega) (by decide)
            refine lv_aload_n S.1 S.2.1 dX4_tinted_43 rfl (lv_at hl 0 rfl) ?_
            refine gf_X4_16 S hK hP 0 0 rfl rfl rfl dX4_tinted_44 ?_
            refine gf_X4_71 S hK hP 3 0 rfl rfl rfl dX4_tinted_47 ?_
            refine lv_iload_n S.1 S.2.1 dX4_tinted_50 rfl (lv_at hl 1 rfl) ?_
            refine lv_eqi (y := nI k_pp) ek_pp ?_
            refine b_aaldN (i := k_pp) S hK hP 2 3 2 rfl rfl rfl (by omega) (by decide) (v := az (4 + k_pp)) rfl dX4_tinted_51 ?_
            refine lv_iload_n S.1 S.2.1 dX4_tinted_52 rfl (lv_at hl 2 rfl) ?_
            refine lv_eqi (y := nI k_w) ek_w ?_
            refine go_S (run_V (As := [.int (nI k_w)]) (rest := []) (n := 1) S hK (cell_P hP (b := 3) (j := (4 + k_pp)) rfl (hw_pot (by omega))) cell_D (c_X1_hasPotOf l E (az (4 + k_pp)) (ti (21 + 7 * k_pp)) (ti (21 + 7 * k_pp + 1)) (ti (21 + 7 * k_pp + 2)) (ti (21 + 7 * k_pp + 3)) (ti (21 + 7 * k_pp + 4)) (ti (21 + 7 * k_pp + 5)) (ti (21 + 7 * k_pp + 6)) (nI k_w)) gV_X4_148 (by decide +kernel) rfl ⟨rfl, rfl⟩ ⟨Nat.le_of_ble_eq_true rfl, Nat.le_of_ble_eq_true rfl⟩ (ci := 1) (q0 := 0) rfl rfl hl.1 (Nat.le_of_ble_eq_true rfl) dX4_tinted_53 ⟨Nat.zero_le _, Nat.zero_le _⟩) ?_
            refine lv_eqi (y := bI (0 < (daysF r i) (21 + 7 * k_pp + 5) ∧ (daysF r i) (21 + 7 * k_pp + 4) = nI k_w)) (by rw [((hev).p (f := 5) (by rw [cntN_eq ht1 hn8]; exact hk_pp) (by decide)), ((hev).p (f := 4) (by rw [cntN_eq ht1 hn8]; exact hk_pp) (by decide))]) ?_
            refine b_ifeq (tgt := 61) S.1 S.2.1 dX4_tinted_56 (by decide) (fun c_56 => ?_) (fun c_56 => ?_)
            · refine lv_aload_n S.1 S.2.1 dX4_tinted_61 rfl (lv_at hl 0 rfl) ?_
              refine gf_X4_16 S hK hP 0 0 rfl rfl rfl dX4_tinted_62 ?_
              refine go_V (run_V (As := []) (rest := []) (n := 0) S hK (bl_P hP [3] rfl) (bl_D hD [3] rfl rfl) (c_X0_passDay9 l E az ti hRt) gV_X4_142 (by decide +kernel) rfl ⟨rfl, rfl⟩ ⟨Nat.le_of_ble_eq_true rfl, Nat.le_of_ble_eq_true rfl⟩ (ci := 0) (q0 := 0) rfl rfl hl.1 (Nat.le_of_ble_eq_true rfl) dX4_tinted_65 ⟨Nat.zero_le _, Nat.zero_le _⟩) hP hD hS [3] rfl (had_cons hw_ad rfl) (Bs' := [[gObj ag ah az ak i0], hillsW E ah r, [(ag 4, .inl (E.2.1, 7, .inl (sg f 7)))], hillsW E az (dayF ti)]) rfl (fun H locs hP hD hS => ?_)
              obtain ⟨r_65, er_65⟩ : ∃ zz9 : Row, zz9 = dayF ti := ⟨_, rfl⟩
              rw [← er_65] at hP hD
              have hr_65_1 : r_65 1 = nI n := by rw [er_65]; exact (dayF_1 _).trans ht1
              have hRI_r_65 : RI r_65 := by rw [er_65]; exact dayF_RI hRt
              have hev_r_65 : Ev r_65 (dayF (daysF r i)) := by rw [er_65]; exact ev_day hev
              refine lv_iinc (v := nI (i + 1)) (lv' := [(3, .int (nI (i + 1))), (0, .ref (ag 0)), (1, .int pp), (2, .int w)]) S.1 S.2.1 dX4_tinted_68 hl (k := 3) rfl (nI_1 i) (by decide) rfl (fun ls hl => ?_)
              refine lv_goto (tgt := 36) S.1 S.2.1 dX4_tinted_71 (by decide) ?_
              exact ih_36 (i + 1) r_65 (by omega) (by omega) (show Ev r_65 (daysF r (i + 1)) from hev_r_65) hRI_r_65 hr_65_1 (lt_s hno c_56) H locs hP hD hS ls (lv_sub hl [1, 2, 3, 0] rfl)
            · refine lv_iload_n S.1 S.2.1 dX4_tinted_59 rfl (lv_at hl 3 rfl) ?_
              exact retIx S hr hlk ti (by have e9 : rTinted r pp w = fstR r (fun h9 => decide (0 < daysF r h9 (21 + 7 * k_pp + 5) ∧ daysF r h9 (21 + 7 * k_pp + 4) = nI k_w)) 201 := (by unfold rTinted; rw [if_pos c_5, if_pos c_14]; (try rw [ek_pp]); (try rw [ek_w]); (try rw [tN_nI (k := k_pp) (by omega)]); (try rw [tN_nI (k := k_w) (by omega)]); try rfl); have e8 : fstR r (fun h9 => decide (0 < daysF r h9 (21 + 7 * k_pp + 5) ∧ daysF r h9 (21 + 7 * k_pp + 4) = nI k_w)) 201 = .inr (r, nI i) := fst_in (by omega) (fun j hj => decide_eq_false (hno j hj)) (decide_eq_true c_56); rw [e9, e8, fndC_inr]; exact hP) hS (by have e9 : rTinted r pp w = fstR r (fun h9 => decide (0 < daysF r h9 (21 + 7 * k_pp + 5) ∧ daysF r h9 (21 + 7 * k_pp + 4) = nI k_w)) 201 := (by unfold rTinted; rw [if_pos c_5, if_pos c_14]; (try rw [ek_pp]); (try rw [ek_w]); (try rw [tN_nI (k := k_pp) (by omega)]); (try rw [tN_nI (k := k_w) (by omega)]); try rfl); have e8 : fstR r (fun h9 => decide (0 < daysF r h9 (21 + 7 * k_pp + 5) ∧ daysF r h9 (21 + 7 * k_pp + 4) = nI k_w)) 201 = .inr (r, nI i) := fst_in (by omega) (fun j hj => decide_eq_false (hno j hj)) (decide_eq_true c_56); rw [e9, e8, ansR_inr]) dX4_tinted_60
      exact L_36 202 0 r_31 (by omega) (by omega) hev_r_31 hRI_r_31 hr_31_1 (fun j hj => absurd hj (by omega)) H locs hP hD hS ls (lv_sub hl [1, 2, 3, 0] rfl)
    · refine lv_aload_n S.1 S.2.1 dX4_tinted_17 rfl (lv_at hl 0 rfl) ?_
      refine lv_iconst (v := 0) S.1 S.2.1 dX4_tinted_18 (by decide) ?_
      refine go_I (run_V (As := [.int 0]) (rest := []) (n := 1) S hK (bl_P hP [0, 2] rfl) (bl_D hD [0, 2] rfl rfl) (c_X4_finding l E ag ah az ak i0 f 0 (by decide)) gV_X4_48 (by decide +kernel) rfl ⟨rfl, rfl⟩ ⟨Nat.le_of_ble_eq_true rfl, Nat.le_of_ble_eq_true rfl⟩ (ci := 4) (q0 := 0) rfl rfl hl.1 (Nat.le_of_ble_eq_true rfl) dX4_tinted_19 ⟨Nat.zero_le _, Nat.zero_le _⟩) hP hD hS [0, 2] rfl (had_cons rfl (had_cons cell_ad rfl)) (Bs' := [[gObj ag ah az ak i0], hillsW E ah r, [(ag 4, .inl (E.2.1, 7, .inl (sg (upd f 0 (f 0 + 1)) 7)))], hillsW E az x]) rfl (fun H locs hP hD hS => ?_)
      obtain ⟨r_19_1, er_19_1⟩ : ∃ zz9 : Row, zz9 = upd f 0 (f 0 + 1) := ⟨_, rfl⟩
      rw [← er_19_1] at hP hD
      exact retIx S hr hlk x (by have e9 : rTinted r pp w = .inl 0 := (by unfold rTinted; rw [if_pos c_5, if_neg c_14]); rw [er_19_1] at hP; rw [e9, fndC_inl]; exact hP) hS (by have e9 : rTinted r pp w = .inl 0 := (by unfold rTinted; rw [if_pos c_5, if_neg c_14]); rw [e9]; decide) dX4_tinted_22
set_option maxHeartbeats 800000 in
set_option maxRecDepth 100000 in
theorem c_X4_cracks (l : Launch) (E : EV) (ag ah az ak : Nat → Nat) (i0 : Int32) (r f x : Row) (pp : Int32) (hR : RI r) : Met l yX4_cracks (wq yX4_cracks cX4_cracks 4 (some .int)) ({ frames := 4, cells := 0, slots := 0, locals := 83 }) (preB E [.ref (ag 0), .int pp] [[gObj ag ah az ak i0], hillsW E ah r, [(ag 4, .inl (E.2.1, 7, .inl (sg f 7)))], hillsW E az x]) (qIx E [[gObj ag ah az ak i0], hillsW E ah r, [(ag 4, .inl (E.2.1, 7, .inl (sg f 7)))], hillsW E az x] (fun u9 => [[gObj ag ah az ak i0], hillsW E ah r, [(ag 4, .inl (E.2.1, 7, .inl (sg (fndC f (rCracks r pp)) 7)))], hillsW E az u9]) (ansR (rCracks r pp))) 0 0 (inB [[gObj ag ah az ak i0], hillsW E ah r, [(ag 4, .inl (E.2.1, 7, .inl (sg f 7)))], hillsW E az x]) := by
  refine M_mk RX4 (by decide) rfl (Nat.le_of_ble_eq_true rfl) ?_
  intro p e s m below meth c S hr hlk hK hP hD hS ls hl
  have hl : lv_has ls 4 [(0, .ref (ag 0)), (1, .int pp)] := hl
  obtain ⟨n, d, hn, hn8, hd, hd5, ho, hso, hli, hsp, hpt⟩ := id hR
  obtain ⟨H, hH⟩ : ∃ zz9, zz9 = s.heap := ⟨_, rfl⟩
  obtain ⟨locs, hlocs⟩ : ∃ zz9 : List Loc, zz9 = [] := ⟨_, rfl⟩
  have hP : PE E [[gObj ag ah az ak i0], hillsW E ah r, [(ag 4, .inl (E.2.1, 7, .inl (sg f 7)))], hillsW E az x] H := by rw [hH]; exact hP
  have hS : va_S (inB [[gObj ag ah az ak i0], hillsW E ah r, [(ag 4, .inl (E.2.1, 7, .inl (sg f 7)))], hillsW E az x]) s.heap H locs := by rw [hH, hlocs]; exact hS
  show W p l e ({ frames := 4, cells := 0, slots := 0, locals := 83 }) s m ([.ref (ag 0), .int pp] : List Value).toArray below meth c s.heap [] 0 0 _ _
  suffices hgo : W p l e ({ frames := 4, cells := 0, slots := 0, locals := 83 }) s m ([.ref (ag 0), .int pp] : List Value).toArray below meth c H locs 0 0 (MQ below (qIx E [[gObj ag ah az ak i0], hillsW E ah r, [(ag 4, .inl (E.2.1, 7, .inl (sg f 7)))], hillsW E az x] (fun u9 => [[gObj ag ah az ak i0], hillsW E ah r, [(ag 4, .inl (E.2.1, 7, .inl (sg (fndC f (rCracks r pp)) 7)))], hillsW E az u9]) (ansR (rCracks r pp))) ([.ref (ag 0), .int pp] : List Value).toArray s 0 0 (inB [[gObj ag ah az ak i0], hillsW E ah r, [(ag 4, .inl (E.2.1, 7, .inl (sg f 7)))], hillsW E az x])) (F0 m 0 ls []) by rw [hH, hlocs] at hgo; exact hgo
  clear hH hlocs
  refine lv_aload_n S.1 S.2.1 dX4_cracks_0 rfl (lv_at hl 0 rfl) ?_
  refine lv_iload_n S.1 S.2.1 dX4_cracks_1 rfl (lv_at hl 1 rfl) ?_
  refine go_S (run_V (As := [.int pp]) (rest := []) (n := 1) S hK (bl_P hP [0, 1] rfl) (bl_D hD [0, 1] rfl rfl) (c_X4_isPotter l E ag ah az ak i0 r pp ) gV_X4_67 (by decide +kernel) rfl ⟨rfl, rfl⟩ ⟨Nat.le_of_ble_eq_true rfl, Nat.le_of_ble_eq_true rfl⟩ (ci := 4) (q0 := 0) rfl rfl hl.1 (Nat.le_of_ble_eq_true rfl) dX4_cracks_2 ⟨Nat.zero_le _, Nat.zero_le _⟩) ?_
  refine b_ifne (tgt := 14) S.1 S.2.1 dX4_cracks_5 (by decide) (fun c_5 => ?_) (fun c_5 => ?_)
  · obtain ⟨k_pp, hk_pp, ek_pp⟩ := pot_nat c_5 hn (by omega)
    have hb9 := hpt k_pp hk_pp 6 (by decide)
    refine lv_aload_n S.1 S.2.1 dX4_cracks_14 rfl (lv_at hl 0 rfl) ?_
    refine gf_X4_10 S hK hP 0 0 rfl rfl rfl dX4_cracks_15 ?_
    refine gf_X4_71 S hK hP 1 0 rfl rfl rfl dX4_cracks_18 ?_
    refine lv_iload_n S.1 S.2.1 dX4_cracks_21 rfl (lv_at hl 1 rfl) ?_
    refine lv_eqi (y := nI k_pp) ek_pp ?_
    refine b_aaldN (i := k_pp) S hK hP 2 1 2 rfl rfl rfl (by omega) (by decide) (v := ah (4 + k_pp)) rfl dX4_cracks_22 ?_
    refine gf_X4_145 S hK hP 1 (4 + k_pp) rfl (hw_pot (by omega)) rfl dX4_cracks_23 ?_
    refine lv_istore_n (lv' := [(2, .int (r (21 + 7 * k_pp + 6))), (0, .ref (ag 0)), (1, .int pp)]) S.1 S.2.1 dX4_cracks_26 rfl hl (by decide) rfl (fun ls hl => ?_)
    refine lv_aload_n S.1 S.2.1 dX4_cracks_27 rfl (lv_at hl 1 rfl) ?_
    refine gf_X4_16 S hK hP 0 0 rfl rfl rfl dX4_cracks_28 ?_
    refine lv_aload_n S.1 S.2.1 dX4_cracks_31 rfl (lv_at hl 1 rfl) ?_
    refine gf_X4_10 S hK hP 0 0 rfl rfl rfl dX4_cracks_32 ?_
    refine go_V (run_V (As := [.ref (ah 0)]) (rest := []) (n := 1) S hK (bl_P hP [3, 1] rfl) (bl_D hD [3, 1] rfl rfl) (c_X0_become l E az ah x r n hn hn8) gV_X4_135 (by decide +kernel) rfl ⟨rfl, rfl⟩ ⟨Nat.le_of_ble_eq_true rfl, Nat.le_of_ble_eq_true rfl⟩ (ci := 0) (q0 := 0) rfl rfl hl.1 (Nat.le_of_ble_eq_true rfl) dX4_cracks_35 ⟨Nat.zero_le _, Nat.zero_le _⟩) hP hD hS [3, 1] rfl (had_cons hw_ad (had_cons rfl rfl)) (Bs' := [[gObj ag ah az ak i0], hillsW E ah r, [(ag 4, .inl (E.2.1, 7, .inl (sg f 7)))], hillsW E az (becF x r)]) rfl (fun H locs hP hD hS => ?_)
    obtain ⟨r_35, er_35⟩ : ∃ zz9 : Row, zz9 = becF x r := ⟨_, rfl⟩
    rw [← er_35] at hP hD
    have hev_r_35 : Ev r_35 r := by rw [er_35]; exact Ev.bec
    have hRI_r_35 : RI r_35 := RI_ev hev_r_35.sy hR
    have hr_35_1 : r_35 1 = nI n := (hev_r_35.lo (by decide)).trans hn
    have hr_35_0 : r_35 0 = nI d := (hev_r_35.lo (by decide)).trans hd
    refine lv_iconst (v := 1) S.1 S.2.1 dX4_cracks_38 (by decide) ?_
    refine lv_istore_n (lv' := [(3, .int 1), (2, .int (r (21 + 7 * k_pp + 6))), (0, .ref (ag 0)), (1, .int pp)]) S.1 S.2.1 dX4_cracks_39 rfl hl (by decide) rfl (fun ls hl => ?_)
    have L_40 : ∀ (fu : Nat) (i : Nat) (ti : Row), (i ≤ 200) → (200 < i + fu) → (Ev ti (daysF r i)) → (RI ti) → (ti 1 = nI n) → (∀ j, j < i + 1 → ¬ (r (21 + 7 * k_pp + 6) + 1 ≤ daysF r j (21 + 7 * k_pp + 6))) → ∀ (H : Heap) (locs : List Loc), PE E [[gObj ag ah az ak i0], hillsW E ah r, [(ag 4, .inl (E.2.1, 7, .inl (sg f 7)))], hillsW E az ti] H → DE (inB [[gObj ag ah az ak i0], hillsW E ah r, [(ag 4, .inl (E.2.1, 7, .inl (sg f 7)))], hillsW E az x]) [[gObj ag ah az ak i0], hillsW E ah r, [(ag 4, .inl (E.2.1, 7, .inl (sg f 7)))], hillsW E az ti] → va_S (inB [[gObj ag ah az ak i0], hillsW E ah r, [(ag 4, .inl (E.2.1, 7, .inl (sg f 7)))], hillsW E az x]) s.heap H locs → ∀ (ls : Array Slot), lv_has ls 4 [(0, .ref (ag 0)), (1, .int pp), (2, .int (r (21 + 7 * k_pp + 6))), (3, .int (nI (i + 1)))] → W p l e ({ frames := 4, cells := 0, slots := 0, locals := 83 }) s m ([.ref (ag 0), .int pp] : List Value).toArray below meth c H locs 0 0 (MQ below (qIx E [[gObj ag ah az ak i0], hillsW E ah r, [(ag 4, .inl (E.2.1, 7, .inl (sg f 7)))], hillsW E az x] (fun u9 => [[gObj ag ah az ak i0], hillsW E ah r, [(ag 4, .inl (E.2.1, 7, .inl (sg (fndC f (rCracks r pp)) 7)))], hillsW E az u9]) (ansR (rCracks r pp))) ([.ref (ag 0), .int pp] : List Value).toArray s 0 0 (inB [[gObj ag ah az ak i0], hillsW E ah r, [(ag 4, .inl (E.2.1, 7, .inl (sg f 7)))], hillsW E az x])) (F0 m 40 ls []) := by
      intro fu
      induction fu with
      | zero =>
        intro i ti hi hf hev hRt ht1 hno
        omega
      | succ fu ih_40 =>
        intro i ti hi hf hev hRt ht1 hno H locs hP hD hS ls hl
        refine lv_iload_n S.1 S.2.1 dX4_cracks_40 rfl (lv_at hl 3 rfl) ?_
        refine lv_sipush (v := 200) S.1 S.2.1 dX4_cracks_41 (by decide) ?_
        refine lv_icmp_gt (tgt := 78) S.1 S.2.1 dX4_cracks_44 (by decide) (fun c_44 => ?_) (fun c_44 => ?_)
        · have n_44 := Int32.not_le.mpr c_44
          have hi9 : i = 200 := by (have z9 : 200 < i + 1 := lt_of_nI (a := 200) c_44 (by decide) (by omega); omega)
          refine lv_aload_n S.1 S.2.1 dX4_cracks_78 rfl (lv_at hl 0 rfl) ?_
          refine lv_iconst (v := 3) S.1 S.2.1 dX4_cracks_79 (by decide) ?_
          refine go_I (run_V (As := [.int 3]) (rest := []) (n := 1) S hK (bl_P hP [0, 2] rfl) (bl_D hD [0, 2] rfl rfl) (c_X4_finding l E ag ah az ak i0 f 3 (by decide)) gV_X4_48 (by decide +kernel) rfl ⟨rfl, rfl⟩ ⟨Nat.le_of_ble_eq_true rfl, Nat.le_of_ble_eq_true rfl⟩ (ci := 4) (q0 := 0) rfl rfl hl.1 (Nat.le_of_ble_eq_true rfl) dX4_cracks_80 ⟨Nat.zero_le _, Nat.zero_le _⟩) hP hD hS [0, 2] rfl (had_cons rfl (had_cons cell_ad rfl)) (Bs' := [[gObj ag ah az ak i0], hillsW E ah r, [(ag 4, .inl (E.2.1, 7, .inl (sg (upd f 3 (f 3 + 1)) 7)))], hillsW E az ti]) rfl (fun H locs hP hD hS => ?_)
          obtain ⟨r_80, er_80⟩ : ∃ zz9 : Row, zz9 = upd f 3 (f 3 + 1) := ⟨_, rfl⟩
          rw [← er_80] at hP hD
          exact retIx S hr hlk ti (by have e9 : rCracks r pp = fstR r (fun h9 => decide (r (21 + 7 * k_pp + 6) + 1 ≤ daysF r h9 (21 + 7 * k_pp + 6))) 201 := (by unfold rCracks; rw [if_pos c_5]; (try rw [ek_pp]); (try rw [tN_nI (k := k_pp) (by omega)]); try rfl); have e8 : fstR r (fun h9 => decide (r (21 + 7 * k_pp + 6) + 1 ≤ daysF r h9 (21 + 7 * k_pp + 6))) 201 = .inl 3 := fst_out (fun j hj => decide_eq_false (hno j (by omega))); rw [er_80] at hP; rw [e9, e8, fndC_inl]; exact hP) hS (by have e9 : rCracks r pp = fstR r (fun h9 => decide (r (21 + 7 * k_pp + 6) + 1 ≤ daysF r h9 (21 + 7 * k_pp + 6))) 201 := (by unfold rCracks; rw [if_pos c_5]; (try rw [ek_pp]); (try rw [tN_nI (k := k_pp) (by omega)]); try rfl); have e8 : fstR r (fun h9 => decide (r (21 + 7 * k_pp + 6) + 1 ≤ daysF r h9 (21 + 7 * k_pp + 6))) 201 = .inl 3 := fst_out (fun j hj => decide_eq_false (hno j (by omega))); rw [e9, e8]; decide) dX4_cracks_83
        · have n_44 := Int32.not_lt.mp c_44
          have hi2 : i + 1 ≤ 200 := le_of_nI (b := 200) (Int32.not_lt.mp c_44) (by omega) (by decide)
          refine lv_aload_n S.1 S.2.1 dX4_cracks_47 rfl (lv_at hl 0 rfl) ?_
          refine gf_X4_16 S hK hP 0 0 rfl rfl rfl dX4_cracks_48 ?_
          refine go_V (run_V (As := []) (rest := []) (n := 0) S hK (bl_P hP [3] rfl) (bl_D hD [3] rfl rfl) (c_X0_passDay9 l E az ti hRt) gV_X4_142 (by decide +kernel) rfl ⟨rfl, rfl⟩ ⟨Nat.le_of_ble_eq_true rfl, Nat.le_of_ble_eq_true rfl⟩ (ci := 0) (q0 := 0) rfl rfl hl.1 (Nat.le_of_ble_eq_true rfl) dX4_cracks_51 ⟨Nat.zero_le _, Nat.zero_le _⟩) hP hD hS [3] rfl (had_cons hw_ad rfl) (Bs' := [[gObj ag ah az ak i0], hillsW E ah r, [(ag 4, .inl (E.2.1, 7, .inl (sg f 7)))], hillsW E az (dayF ti)]) rfl (fun H locs hP hD hS => ?_)
          obtain ⟨r_51, er_51⟩ : ∃ zz9 : Row, zz9 = dayF ti := ⟨_, rfl⟩
          rw [← er_51] at hP hD
          have hr_51_1 : r_51 1 = nI n := by rw [er_51]; exact (dayF_1 _).trans ht1
          have hRI_r_51 : RI r_51 := by rw [er_51]; exact dayF_RI hRt
          have hev_r_51 : Ev r_51 (dayF (daysF r i)) := by rw [er_51]; exact ev_day hev
          refine lv_aload_n S.1 S.2.1 dX4_cracks_54 rfl (lv_at hl 0 rfl) ?_
          refine gf_X4_16 S hK hP 0 0 rfl rfl rfl dX4_cracks_55 ?_
          refine gf_X4_71 S hK hP 3 0 rfl rfl rfl dX4_cracks_58 ?_
          refine lv_iload_n S.1 S.2.1 dX4_cracks_61 rfl (lv_at hl 1 rfl) ?_
          refine lv_eqi (y := nI k_pp) ek_pp ?_
          refine b_aaldN (i := k_pp) S hK hP 2 3 2 rfl rfl rfl (by omega) (by decide) (v := az (4 + k_pp)) rfl dX4_cracks_62 ?_
          refine gf_X4_145 S hK hP 3 (4 + k_pp) rfl (hw_pot (by omega)) rfl dX4_cracks_63 ?_
          refine lv_eqi (y := (dayF (daysF r i)) (21 + 7 * k_pp + 6)) ((hev_r_51).p (by rw [cntN_eq hr_51_1 hn8]; exact hk_pp) (by decide)) ?_
          refine lv_eqi (y := daysF r (i + 1) (21 + 7 * k_pp + 6)) rfl ?_
          refine lv_iload_n S.1 S.2.1 dX4_cracks_66 rfl (lv_at hl 2 rfl) ?_
          refine lv_icmp_le (tgt := 72) S.1 S.2.1 dX4_cracks_67 (by decide) (fun c_67 => ?_) (fun c_67 => ?_)
          · have n_67 := Int32.not_lt.mpr c_67
            refine lv_iinc (v := nI (i + 1 + 1)) (lv' := [(3, .int (nI (i + 1 + 1))), (0, .ref (ag 0)), (1, .int pp), (2, .int (r (21 + 7 * k_pp + 6)))]) S.1 S.2.1 dX4_cracks_72 hl (k := 3) rfl (nI_1 (i + 1)) (by decide) rfl (fun ls hl => ?_)
            refine lv_goto (tgt := 40) S.1 S.2.1 dX4_cracks_75 (by decide) ?_
            exact ih_40 (i + 1) r_51 (by omega) (by omega) (show Ev r_51 (daysF r (i + 1)) from hev_r_51) hRI_r_51 hr_51_1 (lt_s hno (ck_no hb9 c_67)) H locs hP hD hS ls (lv_sub hl [1, 2, 3, 0] rfl)
          · have n_67 := Int32.not_le.mp c_67
            refine lv_iload_n S.1 S.2.1 dX4_cracks_70 rfl (lv_at hl 3 rfl) ?_
            exact retIx S hr hlk r_51 (by have e9 : rCracks r pp = fstR r (fun h9 => decide (r (21 + 7 * k_pp + 6) + 1 ≤ daysF r h9 (21 + 7 * k_pp + 6))) 201 := (by unfold rCracks; rw [if_pos c_5]; (try rw [ek_pp]); (try rw [tN_nI (k := k_pp) (by omega)]); try rfl); have e8 : fstR r (fun h9 => decide (r (21 + 7 * k_pp + 6) + 1 ≤ daysF r h9 (21 + 7 * k_pp + 6))) 201 = .inr (r, nI (i + 1)) := fst_in (by omega) (fun j hj => decide_eq_false (hno j hj)) (decide_eq_true (ck_yes hb9 c_67)); rw [e9, e8, fndC_inr]; exact hP) hS (by have e9 : rCracks r pp = fstR r (fun h9 => decide (r (21 + 7 * k_pp + 6) + 1 ≤ daysF r h9 (21 + 7 * k_pp + 6))) 201 := (by unfold rCracks; rw [if_pos c_5]; (try rw [ek_pp]); (try rw [tN_nI (k := k_pp) (by omega)]); try rfl); have e8 : fstR r (fun h9 => decide (r (21 + 7 * k_pp + 6) + 1 ≤ daysF r h9 (21 + 7 * k_pp + 6))) 201 = .inr (r, nI (i + 1)) := fst_in (by omega) (fun j hj => decide_eq_false (hno j hj)) (decide_eq_true (ck_yes hb9 c_67)); rw [e9, e8, ansR_inr]) dX4_cracks_71
    exact L_40 201 0 r_35 (by omega) (by omega) hev_r_35 hRI_r_35 hr_35_1 (ck_0 hb9) H locs hP hD hS ls (lv_sub hl [2, 3, 1, 0] rfl)
  · refine lv_aload_n S.1 S.2.1 dX4_cracks_8 rfl (lv_at hl 0 rfl) ?_
    refine lv_iconst (v := 0) S.1 S.2.1 dX4_cracks_9 (by decide) ?_
    refine go_I (run_V (As := [.int 0]) (rest := []) (n := 1) S hK (bl_P hP [0, 2] rfl) (bl_D hD [0, 2] rfl rfl) (c_X4_finding l E ag ah az ak i0 f 0 (by decide)) gV_X4_48 (by decide +kernel) rfl ⟨rfl, rfl⟩ ⟨Nat.le_of_ble_eq_true rfl, Nat.le_of_ble_eq_true rfl⟩ (ci := 4) (q0 := 0) rfl rfl hl.1 (Nat.le_of_ble_eq_true rfl) dX4_cracks_10 ⟨Nat.zero_le _, Nat.zero_le _⟩) hP hD hS [0, 2] rfl (had_cons rfl (had_cons cell_ad rfl)) (Bs' := [[gObj ag ah az ak i0], hillsW E ah r, [(ag 4, .inl (E.2.1, 7, .inl (sg (upd f 0 (f 0 + 1)) 7)))], hillsW E az x]) rfl (fun H locs hP hD hS => ?_)
    obtain ⟨r_10, er_10⟩ : ∃ zz9 : Row, zz9 = upd f 0 (f 0 + 1) := ⟨_, rfl⟩
    rw [← er_10] at hP hD
    exact retIx S hr hlk x (by have e9 : rCracks r pp = .inl 0 := (by unfold rCracks; rw [if_neg c_5]); rw [er_10] at hP; rw [e9, fndC_inl]; exact hP) hS (by have e9 : rCracks r pp = .inl 0 := (by unfold rCracks; rw [if_neg c_5]); rw [e9]; decide) dX4_cracks_13
set_option maxHeartbeats 800000 in
set_option maxRecDepth 100000 in
theorem c_X4_hoursFor (l : Launch) (E : EV) (ag ah az ak : Nat → Nat) (i0 : Int32) (r f x : Row) (pp v n9 : Int32) (hR : RI r) : Met l yX4_hoursFor (wq yX4_hoursFor cX4_hoursFor 5 (some .int)) ({ frames := 5, cells := 0, slots := 0, locals := 105 }) (preB E [.ref (ag 0), .int pp, .int v, .int n9] [[gObj ag ah az ak i0], hillsW E ah r, [(ag 4, .inl (E.2.1, 7, .inl (sg f 7)))], hillsW E az x]) (qIx E [[gObj ag ah az ak i0], hillsW E ah r, [(ag 4, .inl (E.2.1, 7, .inl (sg f 7)))], hillsW E az x] (fun u9 => [[gObj ag ah az ak i0], hillsW E ah r, [(ag 4, .inl (E.2.1, 7, .inl (sg (fndC f (rHours r pp v n9)) 7)))], hillsW E az u9]) (ansR (rHours r pp v n9))) 0 0 (inB [[gObj ag ah az ak i0], hillsW E ah r, [(ag 4, .inl (E.2.1, 7, .inl (sg f 7)))], hillsW E az x]) := by
  refine M_mk RX4 (by decide) rfl (Nat.le_of_ble_eq_true rfl) ?_
  intro p e s m below meth c S hr hlk hK hP hD hS ls hl
  have hl : lv_has ls 5 [(0, .ref (ag 0)), (1, .int pp), (2, .int v), (3, .int n9)] := hl
  obtain ⟨n, d, hn, hn8, hd, hd5, ho, hso, hli, hsp, hpt⟩ := id hR
  obtain ⟨H, hH⟩ : ∃ zz9, zz9 = s.heap := ⟨_, rfl⟩
  obtain ⟨locs, hlocs⟩ : ∃ zz9 : List Loc, zz9 = [] := ⟨_, rfl⟩
  have hP : PE E [[gObj ag ah az ak i0], hillsW E ah r, [(ag 4, .inl (E.2.1, 7, .inl (sg f 7)))], hillsW E az x] H := by rw [hH]; exact hP
  have hS : va_S (inB [[gObj ag ah az ak i0], hillsW E ah r, [(ag 4, .inl (E.2.1, 7, .inl (sg f 7)))], hillsW E az x]) s.heap H locs := by rw [hH, hlocs]; exact hS
  show W p l e ({ frames := 5, cells := 0, slots := 0, locals := 105 }) s m ([.ref (ag 0), .int pp, .int v, .int n9] : List Value).toArray below meth c s.heap [] 0 0 _ _
  suffices hgo : W p l e ({ frames := 5, cells := 0, slots := 0, locals := 105 }) s m ([.ref (ag 0), .int pp, .int v, .int n9] : List Value).toArray below meth c H locs 0 0 (MQ below (qIx E [[gObj ag ah az ak i0], hillsW E ah r, [(ag 4, .inl (E.2.1, 7, .inl (sg f 7)))], hillsW E az x] (fun u9 => [[gObj ag ah az ak i0], hillsW E ah r, [(ag 4, .inl (E.2.1, 7, .inl (sg (fndC f (rHours r pp v n9)) 7)))], hillsW E az u9]) (ansR (rHours r pp v n9))) ([.ref (ag 0), .int pp, .int v, .int n9] : List Value).toArray s 0 0 (inB [[gObj ag ah az ak i0], hillsW E ah r, [(ag 4, .inl (E.2.1, 7, .inl (sg f 7)))], hillsW E az x])) (F0 m 0 ls []) by rw [hH, hlocs] at hgo; exact hgo
  clear hH hlocs
  refine lv_aload_n S.1 S.2.1 dX4_hoursFor_0 rfl (lv_at hl 0 rfl) ?_
  refine lv_iload_n S.1 S.2.1 dX4_hoursFor_1 rfl (lv_at hl 1 rfl) ?_
  refine go_S (run_V (As := [.int pp]) (rest := []) (n := 1) S hK (bl_P hP [0, 1] rfl) (bl_D hD [0, 1] rfl rfl) (c_X4_isPotter l E ag ah az ak i0 r pp ) gV_X4_67 (by decide +kernel) rfl ⟨rfl, rfl⟩ ⟨Nat.le_of_ble_eq_true rfl, Nat.le_of_ble_eq_true rfl⟩ (ci := 4) (q0 := 0) rfl rfl hl.1 (Nat.le_of_ble_eq_true rfl) dX4_hoursFor_2 ⟨Nat.zero_le _, Nat.zero_le _⟩) ?_
  refine b_ifeq (tgt := 27) S.1 S.2.1 dX4_hoursFor_5 (by decide) (fun c_5 => ?_) (fun c_5 => ?_)
  · refine lv_aload_n S.1 S.2.1 dX4_hoursFor_27 rfl (lv_at hl 0 rfl) ?_
    refine lv_iconst (v := 0) S.1 S.2.1 dX4_hoursFor_28 (by decide) ?_
    refine go_I (run_V (As := [.int 0]) (rest := []) (n := 1) S hK (bl_P hP [0, 2] rfl) (bl_D hD [0, 2] rfl rfl) (c_X4_finding l E ag ah az ak i0 f 0 (by decide)) gV_X4_48 (by decide +kernel) rfl ⟨rfl, rfl⟩ ⟨Nat.le_of_ble_eq_true rfl, Nat.le_of_ble_eq_true rfl⟩ (ci := 4) (q0 := 0) rfl rfl hl.1 (Nat.le_of_ble_eq_true rfl) dX4_hoursFor_29 ⟨Nat.zero_le _, Nat.zero_le _⟩) hP hD hS [0, 2] rfl (had_cons rfl (had_cons cell_ad rfl)) (Bs' := [[gObj ag ah az ak i0], hillsW E ah r, [(ag 4, .inl (E.2.1, 7, .inl (sg (upd f 0 (f 0 + 1)) 7)))], hillsW E az x]) rfl (fun H locs hP hD hS => ?_)
    obtain ⟨r_29, er_29⟩ : ∃ zz9 : Row, zz9 = upd f 0 (f 0 + 1) := ⟨_, rfl⟩
    rw [← er_29] at hP hD
    exact retIx S hr hlk x (by have e9 : rHours r pp v n9 = .inl 0 := (by unfold rHours; rw [if_neg c_5]); rw [er_29] at hP; rw [e9, fndC_inl]; exact hP) hS (by have e9 : rHours r pp v n9 = .inl 0 := (by unfold rHours; rw [if_neg c_5]); rw [e9]; decide) dX4_hoursFor_32
  · obtain ⟨k_pp, hk_pp, ek_pp⟩ := pot_nat c_5 hn (by omega)
    refine lv_iload_n S.1 S.2.1 dX4_hoursFor_8 rfl (lv_at hl 2 rfl) ?_
    refine lv_sipush (v := 9999) S.1 S.2.1 dX4_hoursFor_9 (by decide) ?_
    refine go_S (run_S (As := [.int v, .int 9999]) (rest := []) (n := 2) S hK (bl_P hP [] rfl) (bl_D hD [] rfl rfl) (c_X4_isWithin l E v 9999 ) gS_X4_44 (by decide +kernel) rfl ⟨rfl, rfl⟩ ⟨Nat.le_of_ble_eq_true rfl, Nat.le_of_ble_eq_true rfl⟩ hl.1 (Nat.le_of_ble_eq_true rfl) dX4_hoursFor_12 ⟨Nat.zero_le _, Nat.zero_le _⟩) ?_
    refine b_ifeq (tgt := 27) S.1 S.2.1 dX4_hoursFor_15 (by decide) (fun c_15 => ?_) (fun c_15 => ?_)
    · refine lv_aload_n S.1 S.2.1 dX4_hoursFor_27 rfl (lv_at hl 0 rfl) ?_
      refine lv_iconst (v := 0) S.1 S.2.1 dX4_hoursFor_28 (by decide) ?_
      refine go_I (run_V (As := [.int 0]) (rest := []) (n := 1) S hK (bl_P hP [0, 2] rfl) (bl_D hD [0, 2] rfl rfl) (c_X4_finding l E ag ah az ak i0 f 0 (by decide)) gV_X4_48 (by decide +kernel) rfl ⟨rfl, rfl⟩ ⟨Nat.le_of_ble_eq_true rfl, Nat.le_of_ble_eq_true rfl⟩ (ci := 4) (q0 := 0) rfl rfl hl.1 (Nat.le_of_ble_eq_true rfl) dX4_hoursFor_29 ⟨Nat.zero_le _, Nat.zero_le _⟩) hP hD hS [0, 2] rfl (had_cons rfl (had_cons cell_ad rfl)) (Bs' := [[gObj ag ah az ak i0], hillsW E ah r, [(ag 4, .inl (E.2.1, 7, .inl (sg (upd f 0 (f 0 + 1)) 7)))], hillsW E az x]) rfl (fun H locs hP hD hS => ?_)
      obtain ⟨r_29_1, er_29_1⟩ : ∃ zz9 : Row, zz9 = upd f 0 (f 0 + 1) := ⟨_, rfl⟩
      rw [← er_29_1] at hP hD
      exact retIx S hr hlk x (by have e9 : rHours r pp v n9 = .inl 0 := (by unfold rHours; rw [if_pos c_5, if_neg c_15]); rw [er_29_1] at hP; rw [e9, fndC_inl]; exact hP) hS (by have e9 : rHours r pp v n9 = .inl 0 := (by unfold rHours; rw [if_pos c_5, if_neg c_15]); rw [e9]; decide) dX4_hoursFor_32
    · obtain ⟨k_v, hk_v, ek_v⟩ := nI_of2 (n := 9999) (by decide) (Int32.not_lt.mpr c_15.1) c_15.2
      refine lv_iload_n S.1 S.2.1 dX4_hoursFor_18 rfl (lv_at hl 3 rfl) ?_
      refine lv_bipush (v := 60) S.1 S.2.1 dX4_hoursFor_19 (by decide) ?_
      refine go_S (run_S (As := [.int n9, .int 60]) (rest := []) (n := 2) S hK (bl_P hP [] rfl) (bl_D hD [] rfl rfl) (c_X4_isWithin l E n9 60 ) gS_X4_44 (by decide +kernel) rfl ⟨rfl, rfl⟩ ⟨Nat.le_of_ble_eq_true rfl, Nat.le_of_ble_eq_true rfl⟩ hl.1 (Nat.le_of_ble_eq_true rfl) dX4_hoursFor_21 ⟨Nat.zero_le _, Nat.zero_le _⟩) ?_
      refine b_ifne (tgt := 33) S.1 S.2.1 dX4_hoursFor_24 (by decide) (fun c_24 => ?_) (fun c_24 => ?_)
      · obtain ⟨k_n9, hk_n9, ek_n9⟩ := nI_of2 (n := 60) (by decide) (Int32.not_lt.mpr c_24.1) c_24.2
        refine lv_iconst (v := 0) S.1 S.2.1 dX4_hoursFor_33 (by decide) ?_
        refine lv_istore (lv' := [(4, .int 0), (0, .ref (ag 0)), (1, .int pp), (2, .int v), (3, .int n9)]) S.1 S.2.1 dX4_hoursFor_34 hl (by decide) rfl (fun ls hl => ?_)
        have L_36 : ∀ (fu : Nat) (i : Nat) (ti : Row), (i ≤ 9 + 1) → (9 + 1 < i + fu) → (∀ j, j < i → ¬ (nI k_v ≤ daysF (upd r (21 + 7 * k_pp + 2) (nI j)) k_n9 (21 + 7 * k_pp + 5))) → ∀ (H : Heap) (locs : List Loc), PE E [[gObj ag ah az ak i0], hillsW E ah r, [(ag 4, .inl (E.2.1, 7, .inl (sg f 7)))], hillsW E az ti] H → DE (inB [[gObj ag ah az ak i0], hillsW E ah r, [(ag 4, .inl (E.2.1, 7, .inl (sg f 7)))], hillsW E az x]) [[gObj ag ah az ak i0], hillsW E ah r, [(ag 4, .inl (E.2.1, 7, .inl (sg f 7)))], hillsW E az ti] → va_S (inB [[gObj ag ah az ak i0], hillsW E ah r, [(ag 4, .inl (E.2.1, 7, .inl (sg f 7)))], hillsW E az x]) s.heap H locs → ∀ (ls : Array Slot), lv_has ls 5 [(0, .ref (ag 0)), (1, .int pp), (2, .int v), (3, .int n9), (4, .int (nI i))] → W p l e ({ frames := 5, cells := 0, slots := 0, locals := 105 }) s m ([.ref (ag 0), .int pp, .int v, .int n9] : List Value).toArray below meth c H locs 0 0 (MQ below (qIx E [[gObj ag ah az ak i0], hillsW E ah r, [(ag 4, .inl (E.2.1, 7, .inl (sg f 7)))], hillsW E az x] (fun u9 => [[gObj ag ah az ak i0], hillsW E ah r, [(ag 4, .inl (E.2.1, 7, .inl (sg (fndC f (rHours r pp v n9)) 7)))], hillsW E az u9]) (ansR (rHours r pp v n9))) ([.ref (ag 0), .int pp, .int v, .int n9] : List Value).toArray s 0 0 (inB [[gObj ag ah az ak i0], hillsW E ah r, [(ag 4, .inl (E.2.1, 7, .inl (sg f 7)))], hillsW E az x])) (F0 m 36 ls []) := by
          intro fu
          induction fu with
          | zero =>
            intro i ti hi hf hno
            omega
          | succ fu ih_36 =>
            intro i ti hi hf hno H locs hP hD hS ls hl
            refine lv_iload S.1 S.2.1 dX4_hoursFor_36 (lv_at hl 4 rfl) ?_
            refine lv_bipush (v := 9) S.1 S.2.1 dX4_hoursFor_38 (by decide) ?_
            refine lv_icmp_gt (tgt := 101) S.1 S.2.1 dX4_hoursFor_40 (by decide) (fun c_40 => ?_) (fun c_40 => ?_)
            · have n_40 := Int32.not_le.mpr c_40
              have hi9 : i = 9 + 1 := by (have z9 : 9 < i := lt_of_nI (a := 9) c_40 (by decide) (by omega); omega)
              refine lv_aload_n S.1 S.2.1 dX4_hoursFor_101 rfl (lv_at hl 0 rfl) ?_
              refine lv_iconst (v := 3) S.1 S.2.1 dX4_hoursFor_102 (by decide) ?_
              refine go_I (run_V (As := [.int 3]) (rest := []) (n := 1) S hK (bl_P hP [0, 2] rfl) (bl_D hD [0, 2] rfl rfl) (c_X4_finding l E ag ah az ak i0 f 3 (by decide)) gV_X4_48 (by decide +kernel) rfl ⟨rfl, rfl⟩ ⟨Nat.le_of_ble_eq_true rfl, Nat.le_of_ble_eq_true rfl⟩ (ci := 4) (q0 := 0) rfl rfl hl.1 (Nat.le_of_ble_eq_true rfl) dX4_hoursFor_103 ⟨Nat.zero_le _, Nat.zero_le _⟩) hP hD hS [0, 2] rfl (had_cons rfl (had_cons cell_ad rfl)) (Bs' := [[gObj ag ah az ak i0], hillsW E ah r, [(ag 4, .inl (E.2.1, 7, .inl (sg (upd f 3 (f 3 + 1)) 7)))], hillsW E az ti]) rfl (fun H locs hP hD hS => ?_)
              obtain ⟨r_103, er_103⟩ : ∃ zz9 : Row, zz9 = upd f 3 (f 3 + 1) := ⟨_, rfl⟩
              rw [← er_103] at hP hD
              exact retIx S hr hlk ti (by have e9 : rHours r pp v n9 = fstR r (fun h9 => decide (nI k_v ≤ daysF (upd r (21 + 7 * k_pp + 2) (nI h9)) k_n9 (21 + 7 * k_pp + 5))) 10 := (by unfold rHours; rw [if_pos c_5, if_pos c_15, if_pos c_24]; (try rw [ek_pp]); (try rw [ek_v]); (try rw [ek_n9]); (try rw [tN_nI (k := k_pp) (by omega)]); (try rw [tN_nI (k := k_v) (by omega)]); (try rw [tN_nI (k := k_n9) (by omega)]); try rfl); have e8 : fstR r (fun h9 => decide (nI k_v ≤ daysF (upd r (21 + 7 * k_pp + 2) (nI h9)) k_n9 (21 + 7 * k_pp + 5))) 10 = .inl 3 := fst_out (fun j hj => decide_eq_false (hno j (by omega))); rw [er_103] at hP; rw [e9, e8, fndC_inl]; exact hP) hS (by have e9 : rHours r pp v n9 = fstR r (fun h9 => decide (nI k_v ≤ daysF (upd r (21 + 7 * k_pp + 2) (nI h9)) k_n9 (21 + 7 * k_pp + 5))) 10 := (by unfold rHours; rw [if_pos c_5, if_pos c_15, if_pos c_24]; (try rw [ek_pp]); (try rw [ek_v]); (try rw [ek_n9]); (try rw [tN_nI (k := k_pp) (by omega)]); (try rw [tN_nI (k := k_v) (by omega)]); (try rw [tN_nI (k := k_n9) (by omega)]); try rfl); have e8 : fstR r (fun h9 => decide (nI k_v ≤ daysF (upd r (21 + 7 * k_pp + 2) (nI h9)) k_n9 (21 + 7 * k_pp + 5))) 10 = .inl 3 := fst_out (fun j hj => decide_eq_false (hno j (by omega))); rw [e9, e8]; decide) dX4_hoursFor_106
            · have n_40 := Int32.not_lt.mp c_40
              have hi2 : i ≤ 9 := le_of_nI (b := 9) (Int32.not_lt.mp c_40) (by omega) (by decide)
              refine lv_aload_n S.1 S.2.1 dX4_hoursFor_43 rfl (lv_at hl 0 rfl) ?_
              refine gf_X4_16 S hK hP 0 0 rfl rfl rfl dX4_hoursFor_44 ?_
              refine lv_aload_n S.1 S.2.1 dX4_hoursFor_47 rfl (lv_at hl 0 rfl) ?_
              refine gf_X4_10 S hK hP 0 0 rfl rfl rfl dX4_hoursFor_48 ?_
              refine go_V (run_V (As := [.ref (ah 0)]) (rest := []) (n := 1) S hK (bl_P hP [3, 1] rfl) (bl_D hD [3, 1] rfl rfl) (c_X0_become l E az ah ti r n hn hn8) gV_X4_135 (by decide +kernel) rfl ⟨rfl, rfl⟩ ⟨Nat.le_of_ble_eq_true rfl, Nat.le_of_ble_eq_true rfl⟩ (ci := 0) (q0 := 0) rfl rfl hl.1 (Nat.le_of_ble_eq_true rfl) dX4_hoursFor_51 ⟨Nat.zero_le _, Nat.zero_le _⟩) hP hD hS [3, 1] rfl (had_cons hw_ad (had_cons rfl rfl)) (Bs' := [[gObj ag ah az ak i0], hillsW E ah r, [(ag 4, .inl (E.2.1, 7, .inl (sg f 7)))], hillsW E az (becF ti r)]) rfl (fun H locs hP hD hS => ?_)
              obtain ⟨r_51, er_51⟩ : ∃ zz9 : Row, zz9 = becF ti r := ⟨_, rfl⟩
              rw [← er_51] at hP hD
              have hev_r_51 : Ev r_51 r := by rw [er_51]; exact Ev.bec
              have hRI_r_51 : RI r_51 := RI_ev hev_r_51.sy hR
              have hr_51_1 : r_51 1 = nI n := (hev_r_51.lo (by decide)).trans hn
              have hr_51_0 : r_51 0 = nI d := (hev_r_51.lo (by decide)).trans hd
              refine lv_aload_n S.1 S.2.1 dX4_hoursFor_54 rfl (lv_at hl 0 rfl) ?_
              refine gf_X4_16 S hK hP 0 0 rfl rfl rfl dX4_hoursFor_55 ?_
              refine gf_X4_71 S hK hP 3 0 rfl rfl rfl dX4_hoursFor_58 ?_
              refine lv_iload_n S.1 S.2.1 dX4_hoursFor_61 rfl (lv_at hl 1 rfl) ?_
              refine lv_eqi (y := nI k_pp) ek_pp ?_
              refine b_aaldN (i := k_pp) S hK hP 2 3 2 rfl rfl rfl (by omega) (by decide) (v := az (4 + k_pp)) rfl dX4_hoursFor_62 ?_
              refine lv_iload S.1 S.2.1 dX4_hoursFor_63 (lv_at hl 4 rfl) ?_
              refine pf_X4_151 S hK hP hD hS 3 (4 + k_pp) rfl (hw_pot (by omega)) (Nat.le_of_ble_eq_true rfl) (hs_p2 (by omega)) (Bs1 := [[gObj ag ah az ak i0], hillsW E ah r, [(ag 4, .inl (E.2.1, 7, .inl (sg f 7)))], hillsW E az (upd r_51 (21 + 7 * k_pp + 2) (nI i))]) rfl dX4_hoursFor_65 (fun H locs hP hD hS => ?_)
              obtain ⟨r_65, er_65⟩ : ∃ zz9, zz9 = upd r_51 (21 + 7 * k_pp + 2) (nI i) := ⟨_, rfl⟩
              rw [← er_65] at hP hD
              have hr_65_1 : r_65 1 = nI n := by rw [er_65]; exact (upd_ne (by omega)).trans hr_51_1
              have hr_65_0 : r_65 0 = nI d := by rw [er_65]; exact (upd_ne (by omega)).trans hr_51_0
              have hev_r_65 : Ev r_65 (upd r (21 + 7 * k_pp + 2) (nI i)) := by rw [er_65]; exact (hev_r_51).up (by omega) rfl
              have hRI_r_65 : RI r_65 := by rw [er_65]; exact RI_pf (f := 2) hRI_r_51 (by decide) ⟨i, by show i ≤ 9; omega, rfl⟩
              refine lv_aload_n S.1 S.2.1 dX4_hoursFor_68 rfl (lv_at hl 0 rfl) ?_
              refine gf_X4_16 S hK hP 0 0 rfl rfl rfl dX4_hoursFor_69 ?_
              refine lv_iload_n S.1 S.2.1 dX4_hoursFor_72 rfl (lv_at hl 3 rfl) ?_
              refine lv_eqi (y := nI k_n9) ek_n9 ?_
              refine go_V (run_V (As := [.int (nI k_n9)]) (rest := []) (n := 1) S hK (bl_P hP [3] rfl) (bl_D hD [3] rfl rfl) (c_X0_passDays l E az r_65 k_n9 (by omega) hRI_r_65) gV_X4_113 (by decide +kernel) rfl ⟨rfl, rfl⟩ ⟨Nat.le_of_ble_eq_true rfl, Nat.le_of_ble_eq_true rfl⟩ (ci := 0) (q0 := 0) rfl rfl hl.1 (Nat.le_of_ble_eq_true rfl) dX4_hoursFor_73 ⟨Nat.zero_le _, Nat.zero_le _⟩) hP hD hS [3] rfl (had_cons hw_ad rfl) (Bs' := [[gObj ag ah az ak i0], hillsW E ah r, [(ag 4, .inl (E.2.1, 7, .inl (sg f 7)))], hillsW E az (daysF r_65 k_n9)]) rfl (fun H locs hP hD hS => ?_)
              obtain ⟨r_73, er_73⟩ : ∃ zz9 : Row, zz9 = daysF r_65 k_n9 := ⟨_, rfl⟩
              rw [← er_73] at hP hD
              have hr_73_1 : r_73 1 = nI n := by rw [er_73]; exact (daysF_1 _ _).trans hr_65_1
              have hRI_r_73 : RI r_73 := by rw [er_73]; exact daysF_RI hRI_r_65 _
              have hev_r_73 : Ev r_73 (daysF (upd r (21 + 7 * k_pp + 2) (nI i)) k_n9) := by rw [er_73]; exact ev_days hev_r_65 _
              refine lv_aload_n S.1 S.2.1 dX4_hoursFor_76 rfl (lv_at hl 0 rfl) ?_
              refine gf_X4_16 S hK hP 0 0 rfl rfl rfl dX4_hoursFor_77 ?_
              refine gf_X4_71 S hK hP 3 0 rfl rfl rfl dX4_hoursFor_80 ?_
              refine lv_iload_n S.1 S.2.1 dX4_hoursFor_83 rfl (lv_at hl 1 rfl) ?_
              refine lv_eqi (y := nI k_pp) ek_pp ?_
              refine b_aaldN (i := k_pp) S hK hP 2 3 2 rfl rfl rfl (by omega) (by decide) (v := az (4 + k_pp)) rfl dX4_hoursFor_84 ?_
              refine gf_X4_139 S hK hP 3 (4 + k_pp) rfl (hw_pot (by omega)) rfl dX4_hoursFor_85 ?_
              refine lv_eqi (y := (daysF (upd r (21 + 7 * k_pp + 2) (nI i)) k_n9) (21 + 7 * k_pp + 5)) ((hev_r_73).p (by rw [cntN_eq hr_73_1 hn8]; exact hk_pp) (by decide)) ?_
              refine lv_iload_n S.1 S.2.1 dX4_hoursFor_88 rfl (lv_at hl 2 rfl) ?_
              refine lv_eqi (y := nI k_v) ek_v ?_
              refine lv_icmp_lt (tgt := 95) S.1 S.2.1 dX4_hoursFor_89 (by decide) (fun c_89 => ?_) (fun c_89 => ?_)
              · have n_89 := Int32.not_le.mpr c_89
                refine lv_iinc (v := nI (i + 1)) (lv' := [(4, .int (nI (i + 1))), (0, .ref (ag 0)), (1, .int pp), (2, .int v), (3, .int n9)]) S.1 S.2.1 dX4_hoursFor_95 hl (k := 4) rfl (nI_1 i) (by decide) rfl (fun ls hl => ?_)
                refine lv_goto (tgt := 36) S.1 S.2.1 dX4_hoursFor_98 (by decide) ?_
                exact ih_36 (i + 1) r_73 (by omega) (by omega) (lt_s hno n_89) H locs hP hD hS ls (lv_sub hl [1, 2, 3, 4, 0] rfl)
              · have n_89 := Int32.not_lt.mp c_89
                refine lv_iload S.1 S.2.1 dX4_hoursFor_92 (lv_at hl 4 rfl) ?_
                exact retIx S hr hlk r_73 (by have e9 : rHours r pp v n9 = fstR r (fun h9 => decide (nI k_v ≤ daysF (upd r (21 + 7 * k_pp + 2) (nI h9)) k_n9 (21 + 7 * k_pp + 5))) 10 := (by unfold rHours; rw [if_pos c_5, if_pos c_15, if_pos c_24]; (try rw [ek_pp]); (try rw [ek_v]); (try rw [ek_n9]); (try rw [tN_nI (k := k_pp) (by omega)]); (try rw [tN_nI (k := k_v) (by omega)]); (try rw [tN_nI (k := k_n9) (by omega)]); try rfl); have e8 : fstR r (fun h9 => decide (nI k_v ≤ daysF (upd r (21 + 7 * k_pp + 2) (nI h9)) k_n9 (21 + 7 * k_pp + 5))) 10 = .inr (r, nI i) := fst_in (by omega) (fun j hj => decide_eq_false (hno j hj)) (decide_eq_true n_89); rw [e9, e8, fndC_inr]; exact hP) hS (by have e9 : rHours r pp v n9 = fstR r (fun h9 => decide (nI k_v ≤ daysF (upd r (21 + 7 * k_pp + 2) (nI h9)) k_n9 (21 + 7 * k_pp + 5))) 10 := (by unfold rHours; rw [if_pos c_5, if_pos c_15, if_pos c_24]; (try rw [ek_pp]); (try rw [ek_v]); (try rw [ek_n9]); (try rw [tN_nI (k := k_pp) (by omega)]); (try rw [tN_nI (k := k_v) (by omega)]); (try rw [tN_nI (k := k_n9) (by omega)]); try rfl); have e8 : fstR r (fun h9 => decide (nI k_v ≤ daysF (upd r (21 + 7 * k_pp + 2) (nI h9)) k_n9 (21 + 7 * k_pp + 5))) 10 = .inr (r, nI i) := fst_in (by omega) (fun j hj => decide_eq_false (hno j hj)) (decide_eq_true n_89); rw [e9, e8, ansR_inr]) dX4_hoursFor_94
        exact L_36 (9 + 2) 0 x (by omega) (by omega) (fun j hj => absurd hj (by omega)) H locs hP hD hS ls (lv_sub hl [1, 2, 3, 4, 0] rfl)
      · refine lv_aload_n S.1 S.2.1 dX4_hoursFor_27 rfl (lv_at hl 0 rfl) ?_
        refine lv_iconst (v := 0) S.1 S.2.1 dX4_hoursFor_28 (by decide) ?_
        refine go_I (run_V (As := [.int 0]) (rest := []) (n := 1) S hK (bl_P hP [0, 2] rfl) (bl_D hD [0, 2] rfl rfl) (c_X4_finding l E ag ah az ak i0 f 0 (by decide)) gV_X4_48 (by decide +kernel) rfl ⟨rfl, rfl⟩ ⟨Nat.le_of_ble_eq_true rfl, Nat.le_of_ble_eq_true rfl⟩ (ci := 4) (q0 := 0) rfl rfl hl.1 (Nat.le_of_ble_eq_true rfl) dX4_hoursFor_29 ⟨Nat.zero_le _, Nat.zero_le _⟩) hP hD hS [0, 2] rfl (had_cons rfl (had_cons cell_ad rfl)) (Bs' := [[gObj ag ah az ak i0], hillsW E ah r, [(ag 4, .inl (E.2.1, 7, .inl (sg (upd f 0 (f 0 + 1)) 7)))], hillsW E az x]) rfl (fun H locs hP hD hS => ?_)
        obtain ⟨r_29_2, er_29_2⟩ : ∃ zz9 : Row, zz9 = upd f 0 (f 0 + 1) := ⟨_, rfl⟩
        rw [← er_29_2] at hP hD
        exact retIx S hr hlk x (by have e9 : rHours r pp v n9 = .inl 0 := (by unfold rHours; rw [if_pos c_5, if_pos c_15, if_neg c_24]); rw [er_29_2] at hP; rw [e9, fndC_inl]; exact hP) hS (by have e9 : rHours r pp v n9 = .inl 0 := (by unfold rHours; rw [if_pos c_5, if_pos c_15, if_neg c_24]); rw [e9]; decide) dX4_hoursFor_32
set_option maxHeartbeats 800000 in
set_option maxRecDepth 100000 in
theorem c_X4_griefFor (l : Launch) (E : EV) (ag ah az ak : Nat → Nat) (i0 : Int32) (r f x : Row) (pp n9 : Int32) (hR : RI r) : Met l yX4_griefFor (wq yX4_griefFor cX4_griefFor 5 (some .int)) ({ frames := 5, cells := 0, slots := 0, locals := 105 }) (preB E [.ref (ag 0), .int pp, .int n9] [[gObj ag ah az ak i0], hillsW E ah r, [(ag 4, .inl (E.2.1, 7, .inl (sg f 7)))], hillsW E az x]) (qIx E [[gObj ag ah az ak i0], hillsW E ah r, [(ag 4, .inl (E.2.1, 7, .inl (sg f 7)))], hillsW E az x] (fun u9 => [[gObj ag ah az ak i0], hillsW E ah r, [(ag 4, .inl (E.2.1, 7, .inl (sg (fndC f (rGriefFor r pp n9)) 7)))], hillsW E az u9]) (ansR (rGriefFor r pp n9))) 0 0 (inB [[gObj ag ah az ak i0], hillsW E ah r, [(ag 4, .inl (E.2.1, 7, .inl (sg f 7)))], hillsW E az x]) := by
  refine M_mk RX4 (by decide) rfl (Nat.le_of_ble_eq_true rfl) ?_
  intro p e s m below meth c S hr hlk hK hP hD hS ls hl
  have hl : lv_has ls 5 [(0, .ref (ag 0)), (1, .int pp), (2, .int n9)] := hl
  obtain ⟨n, d, hn, hn8, hd, hd5, ho, hso, hli, hsp, hpt⟩ := id hR
  obtain ⟨H, hH⟩ : ∃ zz9, zz9 = s.heap := ⟨_, rfl⟩
  obtain ⟨locs, hlocs⟩ : ∃ zz9 : List Loc, zz9 = [] := ⟨_, rfl⟩
  have hP : PE E [[gObj ag ah az ak i0], hillsW E ah r, [(ag 4, .inl (E.2.1, 7, .inl (sg f 7)))], hillsW E az x] H := by rw [hH]; exact hP
  have hS : va_S (inB [[gObj ag ah az ak i0], hillsW E ah r, [(ag 4, .inl (E.2.1, 7, .inl (sg f 7)))], hillsW E az x]) s.heap H locs := by rw [hH, hlocs]; exact hS
  show W p l e ({ frames := 5, cells := 0, slots := 0, locals := 105 }) s m ([.ref (ag 0), .int pp, .int n9] : List Value).toArray below meth c s.heap [] 0 0 _ _
  suffices hgo : W p l e ({ frames := 5, cells := 0, slots := 0, locals := 105 }) s m ([.ref (ag 0), .int pp, .int n9] : List Value).toArray below meth c H locs 0 0 (MQ below (qIx E [[gObj ag ah az ak i0], hillsW E ah r, [(ag 4, .inl (E.2.1, 7, .inl (sg f 7)))], hillsW E az x] (fun u9 => [[gObj ag ah az ak i0], hillsW E ah r, [(ag 4, .inl (E.2.1, 7, .inl (sg (fndC f (rGriefFor r pp n9)) 7)))], hillsW E az u9]) (ansR (rGriefFor r pp n9))) ([.ref (ag 0), .int pp, .int n9] : List Value).toArray s 0 0 (inB [[gObj ag ah az ak i0], hillsW E ah r, [(ag 4, .inl (E.2.1, 7, .inl (sg f 7)))], hillsW E az x])) (F0 m 0 ls []) by rw [hH, hlocs] at hgo; exact hgo
  clear hH hlocs
  refine lv_aload_n S.1 S.2.1 dX4_griefFor_0 rfl (lv_at hl 0 rfl) ?_
  refine lv_iload_n S.1 S.2.1 dX4_griefFor_1 rfl (lv_at hl 1 rfl) ?_
  refine go_S (run_V (As := [.int pp]) (rest := []) (n := 1) S hK (bl_P hP [0, 1] rfl) (bl_D hD [0, 1] rfl rfl) (c_X4_isPotter l E ag ah az ak i0 r pp ) gV_X4_67 (by decide +kernel) rfl ⟨rfl, rfl⟩ ⟨Nat.le_of_ble_eq_true rfl, Nat.le_of_ble_eq_true rfl⟩ (ci := 4) (q0 := 0) rfl rfl hl.1 (Nat.le_of_ble_eq_true rfl) dX4_griefFor_2 ⟨Nat.zero_le _, Nat.zero_le _⟩) ?_
  refine b_ifeq (tgt := 17) S.1 S.2.1 dX4_griefFor_5 (by decide) (fun c_5 => ?_) (fun c_5 => ?_)
  · refine lv_aload_n S.1 S.2.1 dX4_griefFor_17 rfl (lv_at hl 0 rfl) ?_
    refine lv_iconst (v := 0) S.1 S.2.1 dX4_griefFor_18 (by decide) ?_
    refine go_I (run_V (As := [.int 0]) (rest := []) (n := 1) S hK (bl_P hP [0, 2] rfl) (bl_D hD [0, 2] rfl rfl) (c_X4_finding l E ag ah az ak i0 f 0 (by decide)) gV_X4_48 (by decide +kernel) rfl ⟨rfl, rfl⟩ ⟨Nat.le_of_ble_eq_true rfl, Nat.le_of_ble_eq_true rfl⟩ (ci := 4) (q0 := 0) rfl rfl hl.1 (Nat.le_of_ble_eq_true rfl) dX4_griefFor_19 ⟨Nat.zero_le _, Nat.zero_le _⟩) hP hD hS [0, 2] rfl (had_cons rfl (had_cons cell_ad rfl)) (Bs' := [[gObj ag ah az ak i0], hillsW E ah r, [(ag 4, .inl (E.2.1, 7, .inl (sg (upd f 0 (f 0 + 1)) 7)))], hillsW E az x]) rfl (fun H locs hP hD hS => ?_)
    obtain ⟨r_19, er_19⟩ : ∃ zz9 : Row, zz9 = upd f 0 (f 0 + 1) := ⟨_, rfl⟩
    rw [← er_19] at hP hD
    exact retIx S hr hlk x (by have e9 : rGriefFor r pp n9 = .inl 0 := (by unfold rGriefFor; rw [if_neg c_5]); rw [er_19] at hP; rw [e9, fndC_inl]; exact hP) hS (by have e9 : rGriefFor r pp n9 = .inl 0 := (by unfold rGriefFor; rw [if_neg c_5]); rw [e9]; decide) dX4_griefFor_22
  · obtain ⟨k_pp, hk_pp, ek_pp⟩ := pot_nat c_5 hn (by omega)
    refine lv_iload_n S.1 S.2.1 dX4_griefFor_8 rfl (lv_at hl 2 rfl) ?_
    refine lv_bipush (v := 60) S.1 S.2.1 dX4_griefFor_9 (by decide) ?_
    refine go_S (run_S (As := [.int n9, .int 60]) (rest := []) (n := 2) S hK (bl_P hP [] rfl) (bl_D hD [] rfl rfl) (c_X4_isWithin l E n9 60 ) gS_X4_44 (by decide +kernel) rfl ⟨rfl, rfl⟩ ⟨Nat.le_of_ble_eq_true rfl, Nat.le_of_ble_eq_true rfl⟩ hl.1 (Nat.le_of_ble_eq_true rfl) dX4_griefFor_11 ⟨Nat.zero_le _, Nat.zero_le _⟩) ?_
    refine b_ifne (tgt := 23) S.1 S.2.1 dX4_griefFor_14 (by decide) (fun c_14 => ?_) (fun c_14 => ?_)
    · obtain ⟨k_n9, hk_n9, ek_n9⟩ := nI_of2 (n := 60) (by decide) (Int32.not_lt.mpr c_14.1) c_14.2
      refine lv_aload_n S.1 S.2.1 dX4_griefFor_23 rfl (lv_at hl 0 rfl) ?_
      refine gf_X4_10 S hK hP 0 0 rfl rfl rfl dX4_griefFor_24 ?_
      refine gf_X4_71 S hK hP 1 0 rfl rfl rfl dX4_griefFor_27 ?_
      refine lv_iload_n S.1 S.2.1 dX4_griefFor_30 rfl (lv_at hl 1 rfl) ?_
      refine lv_eqi (y := nI k_pp) ek_pp ?_
      refine b_aaldN (i := k_pp) S hK hP 2 1 2 rfl rfl rfl (by omega) (by decide) (v := ah (4 + k_pp)) rfl dX4_griefFor_31 ?_
      refine gf_X4_145 S hK hP 1 (4 + k_pp) rfl (hw_pot (by omega)) rfl dX4_griefFor_32 ?_
      refine lv_istore_n (lv' := [(3, .int (r (21 + 7 * k_pp + 6))), (0, .ref (ag 0)), (1, .int pp), (2, .int n9)]) S.1 S.2.1 dX4_griefFor_35 rfl hl (by decide) rfl (fun ls hl => ?_)
      refine lv_iconst (v := 0) S.1 S.2.1 dX4_griefFor_36 (by decide) ?_
      refine lv_istore (lv' := [(4, .int 0), (3, .int (r (21 + 7 * k_pp + 6))), (0, .ref (ag 0)), (1, .int pp), (2, .int n9)]) S.1 S.2.1 dX4_griefFor_37 hl (by decide) rfl (fun ls hl => ?_)
      have L_39 : ∀ (fu : Nat) (i : Nat) (ti : Row), (i ≤ 99 + 1) → (99 + 1 < i + fu) → (∀ j, j < i → ¬ (daysF (upd r (21 + 7 * k_pp + 1) (nI j)) k_n9 (21 + 7 * k_pp + 6) = r (21 + 7 * k_pp + 6))) → ∀ (H : Heap) (locs : List Loc), PE E [[gObj ag ah az ak i0], hillsW E ah r, [(ag 4, .inl (E.2.1, 7, .inl (sg f 7)))], hillsW E az ti] H → DE (inB [[gObj ag ah az ak i0], hillsW E ah r, [(ag 4, .inl (E.2.1, 7, .inl (sg f 7)))], hillsW E az x]) [[gObj ag ah az ak i0], hillsW E ah r, [(ag 4, .inl (E.2.1, 7, .inl (sg f 7)))], hillsW E az ti] → va_S (inB [[gObj ag ah az ak i0], hillsW E ah r, [(ag 4, .inl (E.2.1, 7, .inl (sg f 7)))], hillsW E az x]) s.heap H locs → ∀ (ls : Array Slot), lv_has ls 5 [(0, .ref (ag 0)), (1, .int pp), (2, .int n9), (3, .int (r (21 + 7 * k_pp + 6))), (4, .int (nI i))] → W p l e ({ frames := 5, cells := 0, slots := 0, locals := 105 }) s m ([.ref (ag 0), .int pp, .int n9] : List Value).toArray below meth c H locs 0 0 (MQ below (qIx E [[gObj ag ah az ak i0], hillsW E ah r, [(ag 4, .inl (E.2.1, 7, .inl (sg f 7)))], hillsW E az x] (fun u9 => [[gObj ag ah az ak i0], hillsW E ah r, [(ag 4, .inl (E.2.1, 7, .inl (sg (fndC f (rGriefFor r pp n9)) 7)))], hillsW E az u9]) (ansR (rGriefFor r pp n9))) ([.ref (ag 0), .int pp, .int n9] : List Value).toArray s 0 0 (inB [[gObj ag ah az ak i0], hillsW E ah r, [(ag 4, .inl (E.2.1, 7, .inl (sg f 7)))], hillsW E az x])) (F0 m 39 ls []) := by
        intro fu
        induction fu with
        | zero =>
          intro i ti hi hf hno
          omega
        | succ fu ih_39 =>
          intro i ti hi hf hno H locs hP hD hS ls hl
          refine lv_iload S.1 S.2.1 dX4_griefFor_39 (lv_at hl 4 rfl) ?_
          refine lv_bipush (v := 99) S.1 S.2.1 dX4_griefFor_41 (by decide) ?_
          refine lv_icmp_gt (tgt := 104) S.1 S.2.1 dX4_griefFor_43 (by decide) (fun c_43 => ?_) (fun c_43 => ?_)
          · have n_43 := Int32.not_le.mpr c_43
            have hi9 : i = 99 + 1 := by (have z9 : 99 < i := lt_of_nI (a := 99) c_43 (by decide) (by omega); omega)
            refine lv_aload_n S.1 S.2.1 dX4_griefFor_104 rfl (lv_at hl 0 rfl) ?_
            refine lv_iconst (v := 3) S.1 S.2.1 dX4_griefFor_105 (by decide) ?_
            refine go_I (run_V (As := [.int 3]) (rest := []) (n := 1) S hK (bl_P hP [0, 2] rfl) (bl_D hD [0, 2] rfl rfl) (c_X4_finding l E ag ah az ak i0 f 3 (by decide)) gV_X4_48 (by decide +kernel) rfl ⟨rfl, rfl⟩ ⟨Nat.le_of_ble_eq_true rfl, Nat.le_of_ble_eq_true rfl⟩ (ci := 4) (q0 := 0) rfl rfl hl.1 (Nat.le_of_ble_eq_true rfl) dX4_griefFor_106 ⟨Nat.zero_le _, Nat.zero_le _⟩) hP hD hS [0, 2] rfl (had_cons rfl (had_cons cell_ad rfl)) (Bs' := [[gObj ag ah az ak i0], hillsW E ah r, [(ag 4, .inl (E.2.1, 7, .inl (sg (upd f 3 (f 3 + 1)) 7)))], hillsW E az ti]) rfl (fun H locs hP hD hS => ?_)
            obtain ⟨r_106, er_106⟩ : ∃ zz9 : Row, zz9 = upd f 3 (f 3 + 1) := ⟨_, rfl⟩
            rw [← er_106] at hP hD
            exact retIx S hr hlk ti (by have e9 : rGriefFor r pp n9 = fstR r (fun h9 => decide (daysF (upd r (21 + 7 * k_pp + 1) (nI h9)) k_n9 (21 + 7 * k_pp + 6) = r (21 + 7 * k_pp + 6))) 100 := (by unfold rGriefFor; rw [if_pos c_5, if_pos c_14]; (try rw [ek_pp]); (try rw [ek_n9]); (try rw [tN_nI (k := k_pp) (by omega)]); (try rw [tN_nI (k := k_n9) (by omega)]); try rfl); have e8 : fstR r (fun h9 => decide (daysF (upd r (21 + 7 * k_pp + 1) (nI h9)) k_n9 (21 + 7 * k_pp + 6) = r (21 + 7 * k_pp + 6))) 100 = .inl 3 := fst_out (fun j hj => decide_eq_false (hno j (by omega))); rw [er_106] at hP; rw [e9, e8, fndC_inl]; exact hP) hS (by have e9 : rGriefFor r pp n9 = fstR r (fun h9 => decide (daysF (upd r (21 + 7 * k_pp + 1) (nI h9)) k_n9 (21 + 7 * k_pp + 6) = r (21 + 7 * k_pp + 6))) 100 := (by unfold rGriefFor; rw [if_pos c_5, if_pos c_14]; (try rw [ek_pp]); (try rw [ek_n9]); (try rw [tN_nI (k := k_pp) (by omega)]); (try rw [tN_nI (k := k_n9) (by omega)]); try rfl); have e8 : fstR r (fun h9 => decide (daysF (upd r (21 + 7 * k_pp + 1) (nI h9)) k_n9 (21 + 7 * k_pp + 6) = r (21 + 7 * k_pp + 6))) 100 = .inl 3 := fst_out (fun j hj => decide_eq_false (hno j (by omega))); rw [e9, e8]; decide) dX4_griefFor_109
          · have n_43 := Int32.not_lt.mp c_43
            have hi2 : i ≤ 99 := le_of_nI (b := 99) (Int32.not_lt.mp c_43) (by omega) (by decide)
            refine lv_aload_n S.1 S.2.1 dX4_griefFor_46 rfl (lv_at hl 0 rfl) ?_
            refine gf_X4_16 S hK hP 0 0 rfl rfl rfl dX4_griefFor_47 ?_
            refine lv_aload_n S.1 S.2.1 dX4_griefFor_50 rfl (lv_at hl 0 rfl) ?_
            refine gf_X4_10 S hK hP 0 0 rfl rfl rfl dX4_griefFor_51 ?_
            refine go_V (run_V (As := [.ref (ah 0)]) (rest := []) (n := 1) S hK (bl_P hP [3, 1] rfl) (bl_D hD [3, 1] rfl rfl) (c_X0_become l E az ah ti r n hn hn8) gV_X4_135 (by decide +kernel) rfl ⟨rfl, rfl⟩ ⟨Nat.le_of_ble_eq_true rfl, Nat.le_of_ble_eq_true rfl⟩ (ci := 0) (q0 := 0) rfl rfl hl.1 (Nat.le_of_ble_eq_true rfl) dX4_griefFor_54 ⟨Nat.zero_le _, Nat.zero_le _⟩) hP hD hS [3, 1] rfl (had_cons hw_ad (had_cons rfl rfl)) (Bs' := [[gObj ag ah az ak i0], hillsW E ah r, [(ag 4, .inl (E.2.1, 7, .inl (sg f 7)))], hillsW E az (becF ti r)]) rfl (fun H locs hP hD hS => ?_)
            obtain ⟨r_54, er_54⟩ : ∃ zz9 : Row, zz9 = becF ti r := ⟨_, rfl⟩
            rw [← er_54] at hP hD
            have hev_r_54 : Ev r_54 r := by rw [er_54]; exact Ev.bec
            have hRI_r_54 : RI r_54 := RI_ev hev_r_54.sy hR
            have hr_54_1 : r_54 1 = nI n := (hev_r_54.lo (by decide)).trans hn
            have hr_54_0 : r_54 0 = nI d := (hev_r_54.lo (by decide)).trans hd
            refine lv_aload_n S.1 S.2.1 dX4_griefFor_57 rfl (lv_at hl 0 rfl) ?_
            refine gf_X4_16 S hK hP 0 0 rfl rfl rfl dX4_griefFor_58 ?_
            refine gf_X4_71 S hK hP 3 0 rfl rfl rfl dX4_griefFor_61 ?_
            refine lv_iload_n S.1 S.2.1 dX4_griefFor_64 rfl (lv_at hl 1 rfl) ?_
            refine lv_eqi (y := nI k_pp) ek_pp ?_
            refine b_aaldN (i := k_pp) S hK hP 2 3 2 rfl rfl rfl (by omega) (by decide) (v := az (4 + k_pp)) rfl dX4_griefFor_65 ?_
            refine lv_iload S.1 S.2.1 dX4_griefFor_66 (lv_at hl 4 rfl) ?_
            refine pf_X4_157 S hK hP hD hS 3 (4 + k_pp) rfl (hw_pot (by omega)) (Nat.le_of_ble_eq_true rfl) (hs_p1 (by omega)) (Bs1 := [[gObj ag ah az ak i0], hillsW E ah r, [(ag 4, .inl (E.2.1, 7, .inl (sg f 7)))], hillsW E az (upd r_54 (21 + 7 * k_pp + 1) (nI i))]) rfl dX4_griefFor_68 (fun H locs hP hD hS => ?_)
            obtain ⟨r_68, er_68⟩ : ∃ zz9, zz9 = upd r_54 (21 + 7 * k_pp + 1) (nI i) := ⟨_, rfl⟩
            rw [← er_68] at hP hD
            have hr_68_1 : r_68 1 = nI n := by rw [er_68]; exact (upd_ne (by omega)).trans hr_54_1
            have hr_68_0 : r_68 0 = nI d := by rw [er_68]; exact (upd_ne (by omega)).trans hr_54_0
            have hev_r_68 : Ev r_68 (upd r (21 + 7 * k_pp + 1) (nI i)) := by rw [er_68]; exact (hev_r_54).up (by omega) rfl
            have hRI_r_68 : RI r_68 := by rw [er_68]; exact RI_pf (f := 1) hRI_r_54 (by decide) ⟨i, by show i ≤ 99; omega, rfl⟩
            refine lv_aload_n S.1 S.2.1 dX4_griefFor_71 rfl (lv_at hl 0 rfl) ?_
            refine gf_X4_16 S hK hP 0 0 rfl rfl rfl dX4_griefFor_72 ?_
            refine lv_iload_n S.1 S.2.1 dX4_griefFor_75 rfl (lv_at hl 2 rfl) ?_
            refine lv_eqi (y := nI k_n9) ek_n9 ?_
            refine go_V (run_V (As := [.int (nI k_n9)]) (rest := []) (n := 1) S hK (bl_P hP [3] rfl) (bl_D hD [3] rfl rfl) (c_X0_passDays l E az r_68 k_n9 (by omega) hRI_r_68) gV_X4_113 (by decide +kernel) rfl ⟨rfl, rfl⟩ ⟨Nat.le_of_ble_eq_true rfl, Nat.le_of_ble_eq_true rfl⟩ (ci := 0) (q0 := 0) rfl rfl hl.1 (Nat.le_of_ble_eq_true rfl) dX4_griefFor_76 ⟨Nat.zero_le _, Nat.zero_le _⟩) hP hD hS [3] rfl (had_cons hw_ad rfl) (Bs' := [[gObj ag ah az ak i0], hillsW E ah r, [(ag 4, .inl (E.2.1, 7, .inl (sg f 7)))], hillsW E az (daysF r_68 k_n9)]) rfl (fun H locs hP hD hS => ?_)
            obtain ⟨r_76, er_76⟩ : ∃ zz9 : Row, zz9 = daysF r_68 k_n9 := ⟨_, rfl⟩
            rw [← er_76] at hP hD
            have hr_76_1 : r_76 1 = nI n := by rw [er_76]; exact (daysF_1 _ _).trans hr_68_1
            have hRI_r_76 : RI r_76 := by rw [er_76]; exact daysF_RI hRI_r_68 _
            have hev_r_76 : Ev r_76 (daysF (upd r (21 + 7 * k_pp + 1) (nI i)) k_n9) := by rw [er_76]; exact ev_days hev_r_68 _
            refine lv_aload_n S.1 S.2.1 dX4_griefFor_79 rfl (lv_at hl 0 rfl) ?_
            refine gf_X4_16 S hK hP 0 0 rfl rfl rfl dX4_griefFor_80 ?_
            refine gf_X4_71 S hK hP 3 0 rfl rfl rfl dX4_griefFor_83 ?_
            refine lv_iload_n S.1 S.2.1 dX4_griefFor_86 rfl (lv_at hl 1 rfl) ?_
            refine lv_eqi (y := nI k_pp) ek_pp ?_
            refine b_aaldN (i := k_pp) S hK hP 2 3 2 rfl rfl rfl (by omega) (by decide) (v := az (4 + k_pp)) rfl dX4_griefFor_87 ?_
            refine gf_X4_145 S hK hP 3 (4 + k_pp) rfl (hw_pot (by omega)) rfl dX4_griefFor_88 ?_
            refine lv_eqi (y := (daysF (upd r (21 + 7 * k_pp + 1) (nI i)) k_n9) (21 + 7 * k_pp + 6)) ((hev_r_76).p (by rw [cntN_eq hr_76_1 hn8]; exact hk_pp) (by decide)) ?_
            refine lv_iload_n S.1 S.2.1 dX4_griefFor_91 rfl (lv_at hl 3 rfl) ?_
            refine lv_icmp_ne (tgt := 98) S.1 S.2.1 dX4_griefFor_92 (by decide) (fun c_92 => ?_) (fun c_92 => ?_)
            · refine lv_iinc (v := nI (i + 1)) (lv' := [(4, .int (nI (i + 1))), (0, .ref (ag 0)), (1, .int pp), (2, .int n9), (3, .int (r (21 + 7 * k_pp + 6)))]) S.1 S.2.1 dX4_griefFor_98 hl (k := 4) rfl (nI_1 i) (by decide) rfl (fun ls hl => ?_)
              refine lv_goto (tgt := 39) S.1 S.2.1 dX4_griefFor_101 (by decide) ?_
              exact ih_39 (i + 1) r_76 (by omega) (by omega) (lt_s hno c_92) H locs hP hD hS ls (lv_sub hl [1, 2, 3, 4, 0] rfl)
            · refine lv_iload S.1 S.2.1 dX4_griefFor_95 (lv_at hl 4 rfl) ?_
              exact retIx S hr hlk r_76 (by have e9 : rGriefFor r pp n9 = fstR r (fun h9 => decide (daysF (upd r (21 + 7 * k_pp + 1) (nI h9)) k_n9 (21 + 7 * k_pp + 6) = r (21 + 7 * k_pp + 6))) 100 := (by unfold rGriefFor; rw [if_pos c_5, if_pos c_14]; (try rw [ek_pp]); (try rw [ek_n9]); (try rw [tN_nI (k := k_pp) (by omega)]); (try rw [tN_nI (k := k_n9) (by omega)]); try rfl); have e8 : fstR r (fun h9 => decide (daysF (upd r (21 + 7 * k_pp + 1) (nI h9)) k_n9 (21 + 7 * k_pp + 6) = r (21 + 7 * k_pp + 6))) 100 = .inr (r, nI i) := fst_in (by omega) (fun j hj => decide_eq_false (hno j hj)) (decide_eq_true c_92); rw [e9, e8, fndC_inr]; exact hP) hS (by have e9 : rGriefFor r pp n9 = fstR r (fun h9 => decide (daysF (upd r (21 + 7 * k_pp + 1) (nI h9)) k_n9 (21 + 7 * k_pp + 6) = r (21 + 7 * k_pp + 6))) 100 := (by unfold rGriefFor; rw [if_pos c_5, if_pos c_14]; (try rw [ek_pp]); (try rw [ek_n9]); (try rw [tN_nI (k := k_pp) (by omega)]); (try rw [tN_nI (k := k_n9) (by omega)]); try rfl); have e8 : fstR r (fun h9 => decide (daysF (upd r (21 + 7 * k_pp + 1) (nI h9)) k_n9 (21 + 7 * k_pp + 6) = r (21 + 7 * k_pp + 6))) 100 = .inr (r, nI i) := fst_in (by omega) (fun j hj => decide_eq_false (hno j hj)) (decide_eq_true c_92); rw [e9, e8, ansR_inr]) dX4_griefFor_97
      exact L_39 (99 + 2) 0 x (by omega) (by omega) (fun j hj => absurd hj (by omega)) H locs hP hD hS ls (lv_sub hl [2, 3, 4, 1, 0] rfl)
    · refine lv_aload_n S.1 S.2.1 dX4_griefFor_17 rfl (lv_at hl 0 rfl) ?_
      refine lv_iconst (v := 0) S.1 S.2.1 dX4_griefFor_18 (by decide) ?_
      refine go_I (run_V (As := [.int 0]) (rest := []) (n := 1) S hK (bl_P hP [0, 2] rfl) (bl_D hD [0, 2] rfl rfl) (c_X4_finding l E ag ah az ak i0 f 0 (by decide)) gV_X4_48 (by decide +kernel) rfl ⟨rfl, rfl⟩ ⟨Nat.le_of_ble_eq_true rfl, Nat.le_of_ble_eq_true rfl⟩ (ci := 4) (q0 := 0) rfl rfl hl.1 (Nat.le_of_ble_eq_true rfl) dX4_griefFor_19 ⟨Nat.zero_le _, Nat.zero_le _⟩) hP hD hS [0, 2] rfl (had_cons rfl (had_cons cell_ad rfl)) (Bs' := [[gObj ag ah az ak i0], hillsW E ah r, [(ag 4, .inl (E.2.1, 7, .inl (sg (upd f 0 (f 0 + 1)) 7)))], hillsW E az x]) rfl (fun H locs hP hD hS => ?_)
      obtain ⟨r_19_1, er_19_1⟩ : ∃ zz9 : Row, zz9 = upd f 0 (f 0 + 1) := ⟨_, rfl⟩
      rw [← er_19_1] at hP hD
      exact retIx S hr hlk x (by have e9 : rGriefFor r pp n9 = .inl 0 := (by unfold rGriefFor; rw [if_pos c_5, if_neg c_14]); rw [er_19_1] at hP; rw [e9, fndC_inl]; exact hP) hS (by have e9 : rGriefFor r pp n9 = .inl 0 := (by unfold rGriefFor; rw [if_pos c_5, if_neg c_14]); rw [e9]; decide) dX4_griefFor_22
set_option maxHeartbeats 800000 in
set_option maxRecDepth 100000 in
theorem c_X4_onionsFor (l : Launch) (E : EV) (ag ah az ak : Nat → Nat) (i0 : Int32) (r f x : Row) (v n9 : Int32) (hR : RI r) : Met l yX4_onionsFor (wq yX4_onionsFor cX4_onionsFor 4 (some .int)) ({ frames := 5, cells := 0, slots := 0, locals := 105 }) (preB E [.ref (ag 0), .int v, .int n9] [[gObj ag ah az ak i0], hillsW E ah r, [(ag 4, .inl (E.2.1, 7, .inl (sg f 7)))], hillsW E az x]) (qIx E [[gObj ag ah az ak i0], hillsW E ah r, [(ag 4, .inl (E.2.1, 7, .inl (sg f 7)))], hillsW E az x] (fun u9 => [[gObj ag ah az ak i0], hillsW E ah r, [(ag 4, .inl (E.2.1, 7, .inl (sg (fndC f (rOnionsFor r v n9)) 7)))], hillsW E az u9]) (ansR (rOnionsFor r v n9))) 0 0 (inB [[gObj ag ah az ak i0], hillsW E ah r, [(ag 4, .inl (E.2.1, 7, .inl (sg f 7)))], hillsW E az x]) := by
  refine M_mk RX4 (by decide) rfl (Nat.le_of_ble_eq_true rfl) ?_
  intro p e s m below meth c S hr hlk hK hP hD hS ls hl
  have hl : lv_has ls 4 [(0, .ref (ag 0)), (1, .int v), (2, .int n9)] := hl
  obtain ⟨n, d, hn, hn8, hd, hd5, ho, hso, hli, hsp, hpt⟩ := id hR
  obtain ⟨H, hH⟩ : ∃ zz9, zz9 = s.heap := ⟨_, rfl⟩
  obtain ⟨locs, hlocs⟩ : ∃ zz9 : List Loc, zz9 = [] := ⟨_, rfl⟩
  have hP : PE E [[gObj ag ah az ak i0], hillsW E ah r, [(ag 4, .inl (E.2.1, 7, .inl (sg f 7)))], hillsW E az x] H := by rw [hH]; exact hP
  have hS : va_S (inB [[gObj ag ah az ak i0], hillsW E ah r, [(ag 4, .inl (E.2.1, 7, .inl (sg f 7)))], hillsW E az x]) s.heap H locs := by rw [hH, hlocs]; exact hS
  show W p l e ({ frames := 5, cells := 0, slots := 0, locals := 105 }) s m ([.ref (ag 0), .int v, .int n9] : List Value).toArray below meth c s.heap [] 0 0 _ _
  suffices hgo : W p l e ({ frames := 5, cells := 0, slots := 0, locals := 105 }) s m ([.ref (ag 0), .int v, .int n9] : List Value).toArray below meth c H locs 0 0 (MQ below (qIx E [[gObj ag ah az ak i0], hillsW E ah r, [(ag 4, .inl (E.2.1, 7, .inl (sg f 7)))], hillsW E az x] (fun u9 => [[gObj ag ah az ak i0], hillsW E ah r, [(ag 4, .inl (E.2.1, 7, .inl (sg (fndC f (rOnionsFor r v n9)) 7)))], hillsW E az u9]) (ansR (rOnionsFor r v n9))) ([.ref (ag 0), .int v, .int n9] : List Value).toArray s 0 0 (inB [[gObj ag ah az ak i0], hillsW E ah r, [(ag 4, .inl (E.2.1, 7, .inl (sg f 7)))], hillsW E az x])) (F0 m 0 ls []) by rw [hH, hlocs] at hgo; exact hgo
  clear hH hlocs
  refine lv_iload_n S.1 S.2.1 dX4_onionsFor_0 rfl (lv_at hl 1 rfl) ?_
  refine lv_ldc (v := 99999) S.1 S.2.1 S.2.2.2.1 (S.2.2.2.2 _ (List.mem_cons_of_mem _ kk_X4_112)) dX4_onionsFor_1 ?_
  refine go_S (run_S (As := [.int v, .int 99999]) (rest := []) (n := 2) S hK (bl_P hP [] rfl) (bl_D hD [] rfl rfl) (c_X4_isWithin l E v 99999 ) gS_X4_44 (by decide +kernel) rfl ⟨rfl, rfl⟩ ⟨Nat.le_of_ble_eq_true rfl, Nat.le_of_ble_eq_true rfl⟩ hl.1 (Nat.le_of_ble_eq_true rfl) dX4_onionsFor_3 ⟨Nat.zero_le _, Nat.zero_le _⟩) ?_
  refine b_ifeq (tgt := 18) S.1 S.2.1 dX4_onionsFor_6 (by decide) (fun c_6 => ?_) (fun c_6 => ?_)
  · refine lv_aload_n S.1 S.2.1 dX4_onionsFor_18 rfl (lv_at hl 0 rfl) ?_
    refine lv_iconst (v := 0) S.1 S.2.1 dX4_onionsFor_19 (by decide) ?_
    refine go_I (run_V (As := [.int 0]) (rest := []) (n := 1) S hK (bl_P hP [0, 2] rfl) (bl_D hD [0, 2] rfl rfl) (c_X4_finding l E ag ah az ak i0 f 0 (by decide)) gV_X4_48 (by decide +kernel) rfl ⟨rfl, rfl⟩ ⟨Nat.le_of_ble_eq_true rfl, Nat.le_of_ble_eq_true rfl⟩ (ci := 4) (q0 := 0) rfl rfl hl.1 (Nat.le_of_ble_eq_true rfl) dX4_onionsFor_20 ⟨Nat.zero_le _, Nat.zero_le _⟩) hP hD hS [0, 2] rfl (had_cons rfl (had_cons cell_ad rfl)) (Bs' := [[gObj ag ah az ak i0], hillsW E ah r, [(ag 4, .inl (E.2.1, 7, .inl (sg (upd f 0 (f 0 + 1)) 7)))], hillsW E az x]) rfl (fun H locs hP hD hS => ?_)
    obtain ⟨r_20, er_20⟩ : ∃ zz9 : Row, zz9 = upd f 0 (f 0 + 1) := ⟨_, rfl⟩
    rw [← er_20] at hP hD
    exact retIx S hr hlk x (by have e9 : rOnionsFor r v n9 = .inl 0 := (by unfold rOnionsFor; rw [if_neg c_6]); rw [er_20] at hP; rw [e9, fndC_inl]; exact hP) hS (by have e9 : rOnionsFor r v n9 = .inl 0 := (by unfold rOnionsFor; rw [if_neg c_6]); rw [e9]; decide) dX4_onionsFor_23
  · obtain ⟨k_v, hk_v, ek_v⟩ := nI_of2 (n := 99999) (by decide) (Int32.not_lt.mpr c_6.1) c_6.2
    refine lv_iload_n S.1 S.2.1 dX4_onionsFor_9 rfl (lv_at hl 2 rfl) ?_
    refine lv_bipush (v := 40) S.1 S.2.1 dX4_onionsFor_10 (by decide) ?_
    refine go_S (run_S (As := [.int n9, .int 40]) (rest := []) (n := 2) S hK (bl_P hP [] rfl) (bl_D hD [] rfl rfl) (c_X4_isWithin l E n9 40 ) gS_X4_44 (by decide +kernel) rfl ⟨rfl, rfl⟩ ⟨Nat.le_of_ble_eq_true rfl, Nat.le_of_ble_eq_true rfl⟩ hl.1 (Nat.le_of_ble_eq_true rfl) dX4_onionsFor_12 ⟨Nat.zero_le _, Nat.zero_le _⟩) ?_
    refine b_ifne (tgt := 24) S.1 S.2.1 dX4_onionsFor_15 (by decide) (fun c_15 => ?_) (fun c_15 => ?_)
    · obtain ⟨k_n9, hk_n9, ek_n9⟩ := nI_of2 (n := 40) (by decide) (Int32.not_lt.mpr c_15.1) c_15.2
      refine lv_iconst (v := 0) S.1 S.2.1 dX4_onionsFor_24 (by decide) ?_
      refine lv_istore_n (lv' := [(3, .int 0), (0, .ref (ag 0)), (1, .int v), (2, .int n9)]) S.1 S.2.1 dX4_onionsFor_25 rfl hl (by decide) rfl (fun ls hl => ?_)
      have L_26 : ∀ (fu : Nat) (i : Nat) (ti : Row), (i ≤ 99 + 1) → (99 + 1 < i + fu) → (∀ j, j < i → ¬ (nI k_v ≤ daysF (upd r 3 (nI j)) k_n9 4)) → ∀ (H : Heap) (locs : List Loc), PE E [[gObj ag ah az ak i0], hillsW E ah r, [(ag 4, .inl (E.2.1, 7, .inl (sg f 7)))], hillsW E az ti] H → DE (inB [[gObj ag ah az ak i0], hillsW E ah r, [(ag 4, .inl (E.2.1, 7, .inl (sg f 7)))], hillsW E az x]) [[gObj ag ah az ak i0], hillsW E ah r, [(ag 4, .inl (E.2.1, 7, .inl (sg f 7)))], hillsW E az ti] → va_S (inB [[gObj ag ah az ak i0], hillsW E ah r, [(ag 4, .inl (E.2.1, 7, .inl (sg f 7)))], hillsW E az x]) s.heap H locs → ∀ (ls : Array Slot), lv_has ls 4 [(0, .ref (ag 0)), (1, .int v), (2, .int n9), (3, .int (nI i))] → W p l e ({ frames := 5, cells := 0, slots := 0, locals := 105 }) s m ([.ref (ag 0), .int v, .int n9] : List Value).toArray below meth c H locs 0 0 (MQ below (qIx E [[gObj ag ah az ak i0], hillsW E ah r, [(ag 4, .inl (E.2.1, 7, .inl (sg f 7)))], hillsW E az x] (fun u9 => [[gObj ag ah az ak i0], hillsW E ah r, [(ag 4, .inl (E.2.1, 7, .inl (sg (fndC f (rOnionsFor r v n9)) 7)))], hillsW E az u9]) (ansR (rOnionsFor r v n9))) ([.ref (ag 0), .int v, .int n9] : List Value).toArray s 0 0 (inB [[gObj ag ah az ak i0], hillsW E ah r, [(ag 4, .inl (E.2.1, 7, .inl (sg f 7)))], hillsW E az x])) (F0 m 26 ls []) := by
        intro fu
        induction fu with
        | zero =>
          intro i ti hi hf hno
          omega
        | succ fu ih_26 =>
          intro i ti hi hf hno H locs hP hD hS ls hl
          refine lv_iload_n S.1 S.2.1 dX4_onionsFor_26 rfl (lv_at hl 3 rfl) ?_
          refine lv_bipush (v := 99) S.1 S.2.1 dX4_onionsFor_27 (by decide) ?_
          refine lv_icmp_gt (tgt := 78) S.1 S.2.1 dX4_onionsFor_29 (by decide) (fun c_29 => ?_) (fun c_29 => ?_)
          · have n_29 := Int32.not_le.mpr c_29
            have hi9 : i = 99 + 1 := by (have z9 : 99 < i := lt_of_nI (a := 99) c_29 (by decide) (by omega); omega)
            refine lv_aload_n S.1 S.2.1 dX4_onionsFor_78 rfl (lv_at hl 0 rfl) ?_
            refine lv_iconst (v := 3) S.1 S.2.1 dX4_onionsFor_79 (by decide) ?_
            refine go_I (run_V (As := [.int 3]) (rest := []) (n := 1) S hK (bl_P hP [0, 2] rfl) (bl_D hD [0, 2] rfl rfl) (c_X4_finding l E ag ah az ak i0 f 3 (by decide)) gV_X4_48 (by decide +kernel) rfl ⟨rfl, rfl⟩ ⟨Nat.le_of_ble_eq_true rfl, Nat.le_of_ble_eq_true rfl⟩ (ci := 4) (q0 := 0) rfl rfl hl.1 (Nat.le_of_ble_eq_true rfl) dX4_onionsFor_80 ⟨Nat.zero_le _, Nat.zero_le _⟩) hP hD hS [0, 2] rfl (had_cons rfl (had_cons cell_ad rfl)) (Bs' := [[gObj ag ah az ak i0], hillsW E ah r, [(ag 4, .inl (E.2.1, 7, .inl (sg (upd f 3 (f 3 + 1)) 7)))], hillsW E az ti]) rfl (fun H locs hP hD hS => ?_)
            obtain ⟨r_80, er_80⟩ : ∃ zz9 : Row, zz9 = upd f 3 (f 3 + 1) := ⟨_, rfl⟩
            rw [← er_80] at hP hD
            exact retIx S hr hlk ti (by have e9 : rOnionsFor r v n9 = fstR r (fun h9 => decide (nI k_v ≤ daysF (upd r 3 (nI h9)) k_n9 4)) 100 := (by unfold rOnionsFor; rw [if_pos c_6, if_pos c_15]; (try rw [ek_v]); (try rw [ek_n9]); (try rw [tN_nI (k := k_v) (by omega)]); (try rw [tN_nI (k := k_n9) (by omega)]); try rfl); have e8 : fstR r (fun h9 => decide (nI k_v ≤ daysF (upd r 3 (nI h9)) k_n9 4)) 100 = .inl 3 := fst_out (fun j hj => decide_eq_false (hno j (by omega))); rw [er_80] at hP; rw [e9, e8, fndC_inl]; exact hP) hS (by have e9 : rOnionsFor r v n9 = fstR r (fun h9 => decide (nI k_v ≤ daysF (upd r 3 (nI h9)) k_n9 4)) 100 := (by unfold rOnionsFor; rw [if_pos c_6, if_pos c_15]; (try rw [ek_v]); (try rw [ek_n9]); (try rw [tN_nI (k := k_v) (by omega)]); (try rw [tN_nI (k := k_n9) (by omega)]); try rfl); have e8 : fstR r (fun h9 => decide (nI k_v ≤ daysF (upd r 3 (nI h9)) k_n9 4)) 100 = .inl 3 := fst_out (fun j hj => decide_eq_false (hno j (by omega))); rw [e9, e8]; decide) dX4_onionsFor_83
          · have n_29 := Int32.not_lt.mp c_29
            have hi2 : i ≤ 99 := le_of_nI (b := 99) (Int32.not_lt.mp c_29) (by omega) (by decide)
            refine lv_aload_n S.1 S.2.1 dX4_onionsFor_32 rfl (lv_at hl 0 rfl) ?_
            refine gf_X4_16 S hK hP 0 0 rfl rfl rfl dX4_onionsFor_33 ?_
            refine lv_aload_n S.1 S.2.1 dX4_onionsFor_36 rfl (lv_at hl 0 rfl) ?_
            refine gf_X4_10 S hK hP 0 0 rfl rfl rfl dX4_onionsFor_37 ?_
            refine go_V (run_V (As := [.ref (ah 0)]) (rest := []) (n := 1) S hK (bl_P hP [3, 1] rfl) (bl_D hD [3, 1] rfl rfl) (c_X0_become l E az ah ti r n hn hn8) gV_X4_135 (by decide +kernel) rfl ⟨rfl, rfl⟩ ⟨Nat.le_of_ble_eq_true rfl, Nat.le_of_ble_eq_true rfl⟩ (ci := 0) (q0 := 0) rfl rfl hl.1 (Nat.le_of_ble_eq_true rfl) dX4_onionsFor_40 ⟨Nat.zero_le _, Nat.zero_le _⟩) hP hD hS [3, 1] rfl (had_cons hw_ad (had_cons rfl rfl)) (Bs' := [[gObj ag ah az ak i0], hillsW E ah r, [(ag 4, .inl (E.2.1, 7, .inl (sg f 7)))], hillsW E az (becF ti r)]) rfl (fun H locs hP hD hS => ?_)
            obtain ⟨r_40, er_40⟩ : ∃ zz9 : Row, zz9 = becF ti r := ⟨_, rfl⟩
            rw [← er_40] at hP hD
            have hev_r_40 : Ev r_40 r := by rw [er_40]; exact Ev.bec
            have hRI_r_40 : RI r_40 := RI_ev hev_r_40.sy hR
            have hr_40_1 : r_40 1 = nI n := (hev_r_40.lo (by decide)).trans hn
            have hr_40_0 : r_40 0 = nI d := (hev_r_40.lo (by decide)).trans hd
            refine lv_aload_n S.1 S.2.1 dX4_onionsFor_43 rfl (lv_at hl 0 rfl) ?_
            refine gf_X4_16 S hK hP 0 0 rfl rfl rfl dX4_onionsFor_44 ?_
            refine lv_iload_n S.1 S.2.1 dX4_onionsFor_47 rfl (lv_at hl 3 rfl) ?_
            refine pf_X4_55 S hK hP hD hS 3 0 rfl rfl (Nat.le_of_ble_eq_true rfl) hs_3 (Bs1 := [[gObj ag ah az ak i0], hillsW E ah r, [(ag 4, .inl (E.2.1, 7, .inl (sg f 7)))], hillsW E az (upd r_40 3 (nI i))]) rfl dX4_onionsFor_48 (fun H locs hP hD hS => ?_)
            obtain ⟨r_48, er_48⟩ : ∃ zz9, zz9 = upd r_40 3 (nI i) := ⟨_, rfl⟩
            rw [← er_48] at hP hD
            have hr_48_1 : r_48 1 = nI n := by rw [er_48]; exact (upd_ne (by omega)).trans hr_40_1
            have hr_48_0 : r_48 0 = nI d := by rw [er_48]; exact (upd_ne (by omega)).trans hr_40_0
            have hev_r_48 : Ev r_48 (upd r 3 (nI i)) := by rw [er_48]; exact (hev_r_40).up (by omega) rfl
            have hRI_r_48 : RI r_48 := by rw [er_48]; exact RI_3 hRI_r_40 ⟨i, by omega, rfl⟩
            refine lv_aload_n S.1 S.2.1 dX4_onionsFor_51 rfl (lv_at hl 0 rfl) ?_
            refine gf_X4_16 S hK hP 0 0 rfl rfl rfl dX4_onionsFor_52 ?_
            refine lv_iload_n S.1 S.2.1 dX4_onionsFor_55 rfl (lv_at hl 2 rfl) ?_
            refine lv_eqi (y := nI k_n9) ek_n9 ?_
            refine go_V (run_V (As := [.int (nI k_n9)]) (rest := []) (n := 1) S hK (bl_P hP [3] rfl) (bl_D hD [3] rfl rfl) (c_X0_passDays l E az r_48 k_n9 (by omega) hRI_r_48) gV_X4_113 (by decide +kernel) rfl ⟨rfl, rfl⟩ ⟨Nat.le_of_ble_eq_true rfl, Nat.le_of_ble_eq_true rfl⟩ (ci := 0) (q0 := 0) rfl rfl hl.1 (Nat.le_of_ble_eq_true rfl) dX4_onionsFor_56 ⟨Nat.zero_le _, Nat.zero_le _⟩) hP hD hS [3] rfl (had_cons hw_ad rfl) (Bs' := [[gObj ag ah az ak i0], hillsW E ah r, [(ag 4, .inl (E.2.1, 7, .inl (sg f 7)))], hillsW E az (daysF r_48 k_n9)]) rfl (fun H locs hP hD hS => ?_)
            obtain ⟨r_56, er_56⟩ : ∃ zz9 : Row, zz9 = daysF r_48 k_n9 := ⟨_, rfl⟩
            rw [← er_56] at hP hD
            have hr_56_1 : r_56 1 = nI n := by rw [er_56]; exact (daysF_1 _ _).trans hr_48_1
            have hRI_r_56 : RI r_56 := by rw [er_56]; exact daysF_RI hRI_r_48 _
            have hev_r_56 : Ev r_56 (daysF (upd r 3 (nI i)) k_n9) := by rw [er_56]; exact ev_days hev_r_48 _
            refine lv_aload_n S.1 S.2.1 dX4_onionsFor_59 rfl (lv_at hl 0 rfl) ?_
            refine gf_X4_16 S hK hP 0 0 rfl rfl rfl dX4_onionsFor_60 ?_
            refine gf_X4_117 S hK hP 3 0 rfl rfl rfl dX4_onionsFor_63 ?_
            refine lv_eqi (y := (daysF (upd r 3 (nI i)) k_n9) 4) ((hev_r_56).lo (by decide)) ?_
            refine lv_iload_n S.1 S.2.1 dX4_onionsFor_66 rfl (lv_at hl 1 rfl) ?_
            refine lv_eqi (y := nI k_v) ek_v ?_
            refine lv_icmp_lt (tgt := 72) S.1 S.2.1 dX4_onionsFor_67 (by decide) (fun c_67 => ?_) (fun c_67 => ?_)
            · have n_67 := Int32.not_le.mpr c_67
              refine lv_iinc (v := nI (i + 1)) (lv' := [(3, .int (nI (i + 1))), (0, .ref (ag 0)), (1, .int v), (2, .int n9)]) S.1 S.2.1 dX4_onionsFor_72 hl (k := 3) rfl (nI_1 i) (by decide) rfl (fun ls hl => ?_)
              refine lv_goto (tgt := 26) S.1 S.2.1 dX4_onionsFor_75 (by decide) ?_
              exact ih_26 (i + 1) r_56 (by omega) (by omega) (lt_s hno n_67) H locs hP hD hS ls (lv_sub hl [1, 2, 3, 0] rfl)
            · have n_67 := Int32.not_lt.mp c_67
              refine lv_iload_n S.1 S.2.1 dX4_onionsFor_70 rfl (lv_at hl 3 rfl) ?_
              exact retIx S hr hlk r_56 (by have e9 : rOnionsFor r v n9 = fstR r (fun h9 => decide (nI k_v ≤ daysF (upd r 3 (nI h9)) k_n9 4)) 100 := (by unfold rOnionsFor; rw [if_pos c_6, if_pos c_15]; (try rw [ek_v]); (try rw [ek_n9]); (try rw [tN_nI (k := k_v) (by omega)]); (try rw [tN_nI (k := k_n9) (by omega)]); try rfl); have e8 : fstR r (fun h9 => decide (nI k_v ≤ daysF (upd r 3 (nI h9)) k_n9 4)) 100 = .inr (r, nI i) := fst_in (by omega) (fun j hj => decide_eq_false (hno j hj)) (decide_eq_true n_67); rw [e9, e8, fndC_inr]; exact hP) hS (by have e9 : rOnionsFor r v n9 = fstR r (fun h9 => decide (nI k_v ≤ daysF (upd r 3 (nI h9)) k_n9 4)) 100 := (by unfold rOnionsFor; rw [if_pos c_6, if_pos c_15]; (try rw [ek_v]); (try rw [ek_n9]); (try rw [tN_nI (k := k_v) (by omega)]); (try rw [tN_nI (k := k_n9) (by omega)]); try rfl); have e8 : fstR r (fun h9 => decide (nI k_v ≤ daysF (upd r 3 (nI h9)) k_n9 4)) 100 = .inr (r, nI i) := fst_in (by omega) (fun j hj => decide_eq_false (hno j hj)) (decide_eq_true n_67); rw [e9, e8, ansR_inr]) dX4_onionsFor_71
      exact L_26 (99 + 2) 0 x (by omega) (by omega) (fun j hj => absurd hj (by omega)) H locs hP hD hS ls (lv_sub hl [1, 2, 3, 0] rfl)
    · refine lv_aload_n S.1 S.2.1 dX4_onionsFor_18 rfl (lv_at hl 0 rfl) ?_
      refine lv_iconst (v := 0) S.1 S.2.1 dX4_onionsFor_19 (by decide) ?_
      refine go_I (run_V (As := [.int 0]) (rest := []) (n := 1) S hK (bl_P hP [0, 2] rfl) (bl_D hD [0, 2] rfl rfl) (c_X4_finding l E ag ah az ak i0 f 0 (by decide)) gV_X4_48 (by decide +kernel) rfl ⟨rfl, rfl⟩ ⟨Nat.le_of_ble_eq_true rfl, Nat.le_of_ble_eq_true rfl⟩ (ci := 4) (q0 := 0) rfl rfl hl.1 (Nat.le_of_ble_eq_true rfl) dX4_onionsFor_20 ⟨Nat.zero_le _, Nat.zero_le _⟩) hP hD hS [0, 2] rfl (had_cons rfl (had_cons cell_ad rfl)) (Bs' := [[gObj ag ah az ak i0], hillsW E ah r, [(ag 4, .inl (E.2.1, 7, .inl (sg (upd f 0 (f 0 + 1)) 7)))], hillsW E az x]) rfl (fun H locs hP hD hS => ?_)
      obtain ⟨r_20_1, er_20_1⟩ : ∃ zz9 : Row, zz9 = upd f 0 (f 0 + 1) := ⟨_, rfl⟩
      rw [← er_20_1] at hP hD
      exact retIx S hr hlk x (by have e9 : rOnionsFor r v n9 = .inl 0 := (by unfold rOnionsFor; rw [if_pos c_6, if_neg c_15]); rw [er_20_1] at hP; rw [e9, fndC_inl]; exact hP) hS (by have e9 : rOnionsFor r v n9 = .inl 0 := (by unfold rOnionsFor; rw [if_pos c_6, if_neg c_15]); rw [e9]; decide) dX4_onionsFor_23
set_option maxHeartbeats 800000 in
set_option maxRecDepth 100000 in
theorem c_X4_kindFor (l : Launch) (E : EV) (ag ah az ak : Nat → Nat) (i0 : Int32) (r f x : Row) (pp n9 : Int32) (hR : RI r) : Met l yX4_kindFor (wq yX4_kindFor cX4_kindFor 6 (some .int)) ({ frames := 5, cells := 0, slots := 0, locals := 105 }) (preB E [.ref (ag 0), .int pp, .int n9] [[gObj ag ah az ak i0], hillsW E ah r, [(ag 4, .inl (E.2.1, 7, .inl (sg f 7)))], hillsW E az x]) (qIx E [[gObj ag ah az ak i0], hillsW E ah r, [(ag 4, .inl (E.2.1, 7, .inl (sg f 7)))], hillsW E az x] (fun u9 => [[gObj ag ah az ak i0], hillsW E ah r, [(ag 4, .inl (E.2.1, 7, .inl (sg (fndC f (rKindFor r pp n9)) 7)))], hillsW E az u9]) (ansR (rKindFor r pp n9))) 0 0 (inB [[gObj ag ah az ak i0], hillsW E ah r, [(ag 4, .inl (E.2.1, 7, .inl (sg f 7)))], hillsW E az x]) := by
  refine M_mk RX4 (by decide) rfl (Nat.le_of_ble_eq_true rfl) ?_
  intro p e s m below meth c S hr hlk hK hP hD hS ls hl
  have hl : lv_has ls 6 [(0, .ref (ag 0)), (1, .int pp), (2, .int n9)] := hl
  obtain ⟨n, d, hn, hn8, hd, hd5, ho, hso, hli, hsp, hpt⟩ := id hR
  obtain ⟨H, hH⟩ : ∃ zz9, zz9 = s.heap := ⟨_, rfl⟩
  obtain ⟨locs, hlocs⟩ : ∃ zz9 : List Loc, zz9 = [] := ⟨_, rfl⟩
  have hP : PE E [[gObj ag ah az ak i0], hillsW E ah r, [(ag 4, .inl (E.2.1, 7, .inl (sg f 7)))], hillsW E az x] H := by rw [hH]; exact hP
  have hS : va_S (inB [[gObj ag ah az ak i0], hillsW E ah r, [(ag 4, .inl (E.2.1, 7, .inl (sg f 7)))], hillsW E az x]) s.heap H locs := by rw [hH, hlocs]; exact hS
  show W p l e ({ frames := 5, cells := 0, slots := 0, locals := 105 }) s m ([.ref (ag 0), .int pp, .int n9] : List Value).toArray below meth c s.heap [] 0 0 _ _
  suffices hgo : W p l e ({ frames := 5, cells := 0, slots := 0, locals := 105 }) s m ([.ref (ag 0), .int pp, .int n9] : List Value).toArray below meth c H locs 0 0 (MQ below (qIx E [[gObj ag ah az ak i0], hillsW E ah r, [(ag 4, .inl (E.2.1, 7, .inl (sg f 7)))], hillsW E az x] (fun u9 => [[gObj ag ah az ak i0], hillsW E ah r, [(ag 4, .inl (E.2.1, 7, .inl (sg (fndC f (rKindFor r pp n9)) 7)))], hillsW E az u9]) (ansR (rKindFor r pp n9))) ([.ref (ag 0), .int pp, .int n9] : List Value).toArray s 0 0 (inB [[gObj ag ah az ak i0], hillsW E ah r, [(ag 4, .inl (E.2.1, 7, .inl (sg f 7)))], hillsW E az x])) (F0 m 0 ls []) by rw [hH, hlocs] at hgo; exact hgo
  clear hH hlocs
  refine lv_aload_n S.1 S.2.1 dX4_kindFor_0 rfl (lv_at hl 0 rfl) ?_
  refine lv_iload_n S.1 S.2.1 dX4_kindFor_1 rfl (lv_at hl 1 rfl) ?_
  refine go_S (run_V (As := [.int pp]) (rest := []) (n := 1) S hK (bl_P hP [0, 1] rfl) (bl_D hD [0, 1] rfl rfl) (c_X4_isPotter l E ag ah az ak i0 r pp ) gV_X4_67 (by decide +kernel) rfl ⟨rfl, rfl⟩ ⟨Nat.le_of_ble_eq_true rfl, Nat.le_of_ble_eq_true rfl⟩ (ci := 4) (q0 := 0) rfl rfl hl.1 (Nat.le_of_ble_eq_true rfl) dX4_kindFor_2 ⟨Nat.zero_le _, Nat.zero_le _⟩) ?_
  refine b_ifeq (tgt := 17) S.1 S.2.1 dX4_kindFor_5 (by decide) (fun c_5 => ?_) (fun c_5 => ?_)
  · refine lv_aload_n S.1 S.2.1 dX4_kindFor_17 rfl (lv_at hl 0 rfl) ?_
    refine lv_iconst (v := 0) S.1 S.2.1 dX4_kindFor_18 (by decide) ?_
    refine go_I (run_V (As := [.int 0]) (rest := []) (n := 1) S hK (bl_P hP [0, 2] rfl) (bl_D hD [0, 2] rfl rfl) (c_X4_finding l E ag ah az ak i0 f 0 (by decide)) gV_X4_48 (by decide +kernel) rfl ⟨rfl, rfl⟩ ⟨Nat.le_of_ble_eq_true rfl, Nat.le_of_ble_eq_true rfl⟩ (ci := 4) (q0 := 0) rfl rfl hl.1 (Nat.le_of_ble_eq_true rfl) dX4_kindFor_19 ⟨Nat.zero_le _, Nat.zero_le _⟩) hP hD hS [0, 2] rfl (had_cons rfl (had_cons cell_ad rfl)) (Bs' := [[gObj ag ah az ak i0], hillsW E ah r, [(ag 4, .inl (E.2.1, 7, .inl (sg (upd f 0 (f 0 + 1)) 7)))], hillsW E az x]) rfl (fun H locs hP hD hS => ?_)
    obtain ⟨r_19, er_19⟩ : ∃ zz9 : Row, zz9 = upd f 0 (f 0 + 1) := ⟨_, rfl⟩
    rw [← er_19] at hP hD
    exact retIx S hr hlk x (by have e9 : rKindFor r pp n9 = .inl 0 := (by unfold rKindFor; rw [if_neg c_5]); rw [er_19] at hP; rw [e9, fndC_inl]; exact hP) hS (by have e9 : rKindFor r pp n9 = .inl 0 := (by unfold rKindFor; rw [if_neg c_5]); rw [e9]; decide) dX4_kindFor_22
  · obtain ⟨k_pp, hk_pp, ek_pp⟩ := pot_nat c_5 hn (by omega)
    refine lv_iload_n S.1 S.2.1 dX4_kindFor_8 rfl (lv_at hl 2 rfl) ?_
    refine lv_bipush (v := 60) S.1 S.2.1 dX4_kindFor_9 (by decide) ?_
    refine go_S (run_S (As := [.int n9, .int 60]) (rest := []) (n := 2) S hK (bl_P hP [] rfl) (bl_D hD [] rfl rfl) (c_X4_isWithin l E n9 60 ) gS_X4_44 (by decide +kernel) rfl ⟨rfl, rfl⟩ ⟨Nat.le_of_ble_eq_true rfl, Nat.le_of_ble_eq_true rfl⟩ hl.1 (Nat.le_of_ble_eq_true rfl) dX4_kindFor_11 ⟨Nat.zero_le _, Nat.zero_le _⟩) ?_
    refine b_ifne (tgt := 23) S.1 S.2.1 dX4_kindFor_14 (by decide) (fun c_14 => ?_) (fun c_14 => ?_)
    · obtain ⟨k_n9, hk_n9, ek_n9⟩ := nI_of2 (n := 60) (by decide) (Int32.not_lt.mpr c_14.1) c_14.2
      refine lv_iconst (v := 0) S.1 S.2.1 dX4_kindFor_23 (by decide) ?_
      refine lv_istore_n (lv' := [(3, .int 0), (0, .ref (ag 0)), (1, .int pp), (2, .int n9)]) S.1 S.2.1 dX4_kindFor_24 rfl hl (by decide) rfl (fun ls hl => ?_)
      refine lv_iconst (v := (-1)) S.1 S.2.1 dX4_kindFor_25 (by decide) ?_
      refine lv_istore (lv' := [(4, .int (-1)), (3, .int 0), (0, .ref (ag 0)), (1, .int pp), (2, .int n9)]) S.1 S.2.1 dX4_kindFor_26 hl (by decide) rfl (fun ls hl => ?_)
      refine lv_iconst (v := 0) S.1 S.2.1 dX4_kindFor_28 (by decide) ?_
      refine lv_istore (lv' := [(5, .int 0), (4, .int (-1)), (3, .int 0), (0, .ref (ag 0)), (1, .int pp), (2, .int n9)]) S.1 S.2.1 dX4_kindFor_29 hl (by decide) rfl (fun ls hl => ?_)
      have L_31 : ∀ (fu : Nat) (i : Nat) (b : Int32) (mo : Int32) (ti : Row), (i ≤ 7) → (7 < i + fu) → (b = (bestN (fun k => daysF (upd r (21 + 7 * k_pp) (nI k)) k_n9 4) i).1) → (mo = (bestN (fun k => daysF (upd r (21 + 7 * k_pp) (nI k)) k_n9 4) i).2) → ∀ (H : Heap) (locs : List Loc), PE E [[gObj ag ah az ak i0], hillsW E ah r, [(ag 4, .inl (E.2.1, 7, .inl (sg f 7)))], hillsW E az ti] H → DE (inB [[gObj ag ah az ak i0], hillsW E ah r, [(ag 4, .inl (E.2.1, 7, .inl (sg f 7)))], hillsW E az x]) [[gObj ag ah az ak i0], hillsW E ah r, [(ag 4, .inl (E.2.1, 7, .inl (sg f 7)))], hillsW E az ti] → va_S (inB [[gObj ag ah az ak i0], hillsW E ah r, [(ag 4, .inl (E.2.1, 7, .inl (sg f 7)))], hillsW E az x]) s.heap H locs → ∀ (ls : Array Slot), lv_has ls 6 [(0, .ref (ag 0)), (1, .int pp), (2, .int n9), (3, .int b), (4, .int mo), (5, .int (nI i))] → W p l e ({ frames := 5, cells := 0, slots := 0, locals := 105 }) s m ([.ref (ag 0), .int pp, .int n9] : List Value).toArray below meth c H locs 0 0 (MQ below (qIx E [[gObj ag ah az ak i0], hillsW E ah r, [(ag 4, .inl (E.2.1, 7, .inl (sg f 7)))], hillsW E az x] (fun u9 => [[gObj ag ah az ak i0], hillsW E ah r, [(ag 4, .inl (E.2.1, 7, .inl (sg (fndC f (rKindFor r pp n9)) 7)))], hillsW E az u9]) (ansR (rKindFor r pp n9))) ([.ref (ag 0), .int pp, .int n9] : List Value).toArray s 0 0 (inB [[gObj ag ah az ak i0], hillsW E ah r, [(ag 4, .inl (E.2.1, 7, .inl (sg f 7)))], hillsW E az x])) (F0 m 31 ls []) := by
        intro fu
        induction fu with
        | zero =>
          intro i b mo ti hi hf hb hm
          omega
        | succ fu ih_31 =>
          intro i b mo ti hi hf hb hm H locs hP hD hS ls hl
          refine lv_iload S.1 S.2.1 dX4_kindFor_31 (lv_at hl 5 rfl) ?_
          refine lv_bipush (v := 7) S.1 S.2.1 dX4_kindFor_33 (by decide) ?_
          refine lv_icmp_ge (tgt := 101) S.1 S.2.1 dX4_kindFor_35 (by decide) (fun c_35 => ?_) (fun c_35 => ?_)
          · have n_35 := Int32.not_lt.mpr c_35
            have hi9 : i = 7 := le_endK (n := 7) hi c_35 (by decide)
            refine lv_iload_n S.1 S.2.1 dX4_kindFor_101 rfl (lv_at hl 3 rfl) ?_
            exact retIx S hr hlk ti (by have e9 : rKindFor r pp n9 = .inr (r, b) := (by unfold rKindFor; rw [if_pos c_5, if_pos c_14]; (try rw [ek_pp]); (try rw [ek_n9]); (try rw [tN_nI (k := k_pp) (by omega)]); (try rw [tN_nI (k := k_n9) (by omega)]); rw [hb, hi9]); rw [e9, fndC_inr]; exact hP) hS (by have e9 : rKindFor r pp n9 = .inr (r, b) := (by unfold rKindFor; rw [if_pos c_5, if_pos c_14]; (try rw [ek_pp]); (try rw [ek_n9]); (try rw [tN_nI (k := k_pp) (by omega)]); (try rw [tN_nI (k := k_n9) (by omega)]); rw [hb, hi9]); rw [e9, ansR_inr]) dX4_kindFor_102
          · have n_35 := Int32.not_le.mp c_35
            have hi2 : i < 7 := lt_in (n := 7) c_35 hi
            refine lv_aload_n S.1 S.2.1 dX4_kindFor_38 rfl (lv_at hl 0 rfl) ?_
            refine gf_X4_16 S hK hP 0 0 rfl rfl rfl dX4_kindFor_39 ?_
            refine lv_aload_n S.1 S.2.1 dX4_kindFor_42 rfl (lv_at hl 0 rfl) ?_
            refine gf_X4_10 S hK hP 0 0 rfl rfl rfl dX4_kindFor_43 ?_
            refine go_V (run_V (As := [.ref (ah 0)]) (rest := []) (n := 1) S hK (bl_P hP [3, 1] rfl) (bl_D hD [3, 1] rfl rfl) (c_X0_become l E az ah ti r n hn hn8) gV_X4_135 (by decide +kernel) rfl ⟨rfl, rfl⟩ ⟨Nat.le_of_ble_eq_true rfl, Nat.le_of_ble_eq_true rfl⟩ (ci := 0) (q0 := 0) rfl rfl hl.1 (Nat.le_of_ble_eq_true rfl) dX4_kindFor_46 ⟨Nat.zero_le _, Nat.zero_le _⟩) hP hD hS [3, 1] rfl (had_cons hw_ad (had_cons rfl rfl)) (Bs' := [[gObj ag ah az ak i0], hillsW E ah r, [(ag 4, .inl (E.2.1, 7, .inl (sg f 7)))], hillsW E az (becF ti r)]) rfl (fun H locs hP hD hS => ?_)
            obtain ⟨r_46, er_46⟩ : ∃ zz9 : Row, zz9 = becF ti r := ⟨_, rfl⟩
            rw [← er_46] at hP hD
            have hev_r_46 : Ev r_46 r := by rw [er_46]; exact Ev.bec
            have hRI_r_46 : RI r_46 := RI_ev hev_r_46.sy hR
            have hr_46_1 : r_46 1 = nI n := (hev_r_46.lo (by decide)).trans hn
            have hr_46_0 : r_46 0 = nI d := (hev_r_46.lo (by decide)).trans hd
            refine lv_aload_n S.1 S.2.1 dX4_kindFor_49 rfl (lv_at hl 0 rfl) ?_
            refine gf_X4_16 S hK hP 0 0 rfl rfl rfl dX4_kindFor_50 ?_
            refine gf_X4_71 S hK hP 3 0 rfl rfl rfl dX4_kindFor_53 ?_
            refine lv_iload_n S.1 S.2.1 dX4_kindFor_56 rfl (lv_at hl 1 rfl) ?_
            refine lv_eqi (y := nI k_pp) ek_pp ?_
            refine b_aaldN (i := k_pp) S hK hP 2 3 2 rfl rfl rfl (by omega) (by decide) (v := az (4 + k_pp)) rfl dX4_kindFor_57 ?_
            refine lv_iload S.1 S.2.1 dX4_kindFor_58 (lv_at hl 5 rfl) ?_
            refine pf_X4_154 S hK hP hD hS 3 (4 + k_pp) rfl (hw_pot (by omega)) (Nat.le_of_ble_eq_true rfl) (hs_p0 (by omega)) (Bs1 := [[gObj ag ah az ak i0], hillsW E ah r, [(ag 4, .inl (E.2.1, 7, .inl (sg f 7)))], hillsW E az (upd r_46 (21 + 7 * k_pp) (nI i))]) rfl dX4_kindFor_60 (fun H locs hP hD hS => ?_)
            obtain ⟨r_60, er_60⟩ : ∃ zz9, zz9 = upd r_46 (21 + 7 * k_pp) (nI i) := ⟨_, rfl⟩
            rw [← er_60] at hP hD
            have hr_60_1 : r_60 1 = nI n := by rw [er_60]; exact (upd_ne (by omega)).trans hr_46_1
            have hr_60_0 : r_60 0 = nI d := by rw [er_60]; exact (upd_ne (by omega)).trans hr_46_0
            have hev_r_60 : Ev r_60 (upd r (21 + 7 * k_pp) (nI i)) := by rw [er_60]; exact (hev_r_46).up (by omega) rfl
            have hRI_r_60 : RI r_60 := by rw [er_60]; exact (show RI (upd _ (21 + 7 * k_pp + 0) _) from RI_pf (f := 0) hRI_r_46 (by decide) ⟨i, by show i ≤ 6; omega, rfl⟩)
            refine lv_aload_n S.1 S.2.1 dX4_kindFor_63 rfl (lv_at hl 0 rfl) ?_
            refine gf_X4_16 S hK hP 0 0 rfl rfl rfl dX4_kindFor_64 ?_
            refine lv_iload_n S.1 S.2.1 dX4_kindFor_67 rfl (lv_at hl 2 rfl) ?_
            refine lv_eqi (y := nI k_n9) ek_n9 ?_
            refine go_V (run_V (As := [.int (nI k_n9)]) (rest := []) (n := 1) S hK (bl_P hP [3] rfl) (bl_D hD [3] rfl rfl) (c_X0_passDays l E az r_60 k_n9 (by omega) hRI_r_60) gV_X4_113 (by decide +kernel) rfl ⟨rfl, rfl⟩ ⟨Nat.le_of_ble_eq_true rfl, Nat.le_of_ble_eq_true rfl⟩ (ci := 0) (q0 := 0) rfl rfl hl.1 (Nat.le_of_ble_eq_true rfl) dX4_kindFor_68 ⟨Nat.zero_le _, Nat.zero_le _⟩) hP hD hS [3] rfl (had_cons hw_ad rfl) (Bs' := [[gObj ag ah az ak i0], hillsW E ah r, [(ag 4, .inl (E.2.1, 7, .inl (sg f 7)))], hillsW E az (daysF r_60 k_n9)]) rfl (fun H locs hP hD hS => ?_)
            obtain ⟨r_68, er_68⟩ : ∃ zz9 : Row, zz9 = daysF r_60 k_n9 := ⟨_, rfl⟩
            rw [← er_68] at hP hD
            have hr_68_1 : r_68 1 = nI n := by rw [er_68]; exact (daysF_1 _ _).trans hr_60_1
            have hRI_r_68 : RI r_68 := by rw [er_68]; exact daysF_RI hRI_r_60 _
            have hev_r_68 : Ev r_68 (daysF (upd r (21 + 7 * k_pp) (nI i)) k_n9) := by rw [er_68]; exact ev_days hev_r_60 _
            refine lv_aload_n S.1 S.2.1 dX4_kindFor_71 rfl (lv_at hl 0 rfl) ?_
            refine gf_X4_16 S hK hP 0 0 rfl rfl rfl dX4_kindFor_72 ?_
            refine gf_X4_117 S hK hP 3 0 rfl rfl rfl dX4_kindFor_75 ?_
            refine lv_eqi (y := (daysF (upd r (21 + 7 * k_pp) (nI i)) k_n9) 4) ((hev_r_68).lo (by decide)) ?_
            refine lv_iload S.1 S.2.1 dX4_kindFor_78 (lv_at hl 4 rfl) ?_
            refine lv_icmp_le (tgt := 95) S.1 S.2.1 dX4_kindFor_80 (by decide) (fun c_80 => ?_) (fun c_80 => ?_)
            · have n_80 := Int32.not_lt.mpr c_80
              refine lv_iinc (v := nI (i + 1)) (lv' := [(5, .int (nI (i + 1))), (0, .ref (ag 0)), (1, .int pp), (2, .int n9), (3, .int b), (4, .int mo)]) S.1 S.2.1 dX4_kindFor_95 hl (k := 5) rfl (nI_1 i) (by decide) rfl (fun ls hl => ?_)
              refine lv_goto (tgt := 31) S.1 S.2.1 dX4_kindFor_98 (by decide) ?_
              exact ih_31 (i + 1) b mo r_68 (by omega) (by omega) (best_t hb hm c_80).1 (best_t hb hm c_80).2 H locs hP hD hS ls (lv_sub hl [1, 2, 3, 4, 5, 0] rfl)
            · have n_80 := Int32.not_le.mp c_80
              refine lv_aload_n S.1 S.2.1 dX4_kindFor_83 rfl (lv_at hl 0 rfl) ?_
              refine gf_X4_16 S hK hP 0 0 rfl rfl rfl dX4_kindFor_84 ?_
              refine gf_X4_117 S hK hP 3 0 rfl rfl rfl dX4_kindFor_87 ?_
              refine lv_eqi (y := (daysF (upd r (21 + 7 * k_pp) (nI i)) k_n9) 4) ((hev_r_68).lo (by decide)) ?_
              refine lv_istore (lv' := [(4, .int ((daysF (upd r (21 + 7 * k_pp) (nI i)) k_n9) 4)), (0, .ref (ag 0)), (1, .int pp), (2, .int n9), (3, .int b), (5, .int (nI i))]) S.1 S.2.1 dX4_kindFor_90 hl (by decide) rfl (fun ls hl => ?_)
              refine lv_iload S.1 S.2.1 dX4_kindFor_92 (lv_at hl 5 rfl) ?_
              refine lv_istore_n (lv' := [(3, .int (nI i)), (4, .int ((daysF (upd r (21 + 7 * k_pp) (nI i)) k_n9) 4)), (0, .ref (ag 0)), (1, .int pp), (2, .int n9), (5, .int (nI i))]) S.1 S.2.1 dX4_kindFor_94 rfl hl (by decide) rfl (fun ls hl => ?_)
              refine lv_iinc (v := nI (i + 1)) (lv' := [(5, .int (nI (i + 1))), (3, .int (nI i)), (4, .int ((daysF (upd r (21 + 7 * k_pp) (nI i)) k_n9) 4)), (0, .ref (ag 0)), (1, .int pp), (2, .int n9)]) S.1 S.2.1 dX4_kindFor_95 hl (k := 5) rfl (nI_1 i) (by decide) rfl (fun ls hl => ?_)
              refine lv_goto (tgt := 31) S.1 S.2.1 dX4_kindFor_98 (by decide) ?_
              exact ih_31 (i + 1) (nI i) ((daysF (upd r (21 + 7 * k_pp) (nI i)) k_n9) 4) r_68 (by omega) (by omega) (best_f hm c_80).1 (best_f hm c_80).2 H locs hP hD hS ls (lv_sub hl [3, 4, 5, 1, 2, 0] rfl)
      exact L_31 (7 + 1) 0 0 (-1) x (by omega) (by omega) rfl rfl H locs hP hD hS ls (lv_sub hl [3, 4, 5, 2, 1, 0] rfl)
    · refine lv_aload_n S.1 S.2.1 dX4_kindFor_17 rfl (lv_at hl 0 rfl) ?_
      refine lv_iconst (v := 0) S.1 S.2.1 dX4_kindFor_18 (by decide) ?_
      refine go_I (run_V (As := [.int 0]) (rest := []) (n := 1) S hK (bl_P hP [0, 2] rfl) (bl_D hD [0, 2] rfl rfl) (c_X4_finding l E ag ah az ak i0 f 0 (by decide)) gV_X4_48 (by decide +kernel) rfl ⟨rfl, rfl⟩ ⟨Nat.le_of_ble_eq_true rfl, Nat.le_of_ble_eq_true rfl⟩ (ci := 4) (q0 := 0) rfl rfl hl.1 (Nat.le_of_ble_eq_true rfl) dX4_kindFor_19 ⟨Nat.zero_le _, Nat.zero_le _⟩) hP hD hS [0, 2] rfl (had_cons rfl (had_cons cell_ad rfl)) (Bs' := [[gObj ag ah az ak i0], hillsW E ah r, [(ag 4, .inl (E.2.1, 7, .inl (sg (upd f 0 (f 0 + 1)) 7)))], hillsW E az x]) rfl (fun H locs hP hD hS => ?_)
      obtain ⟨r_19_1, er_19_1⟩ : ∃ zz9 : Row, zz9 = upd f 0 (f 0 + 1) := ⟨_, rfl⟩
      rw [← er_19_1] at hP hD
      exact retIx S hr hlk x (by have e9 : rKindFor r pp n9 = .inl 0 := (by unfold rKindFor; rw [if_pos c_5, if_neg c_14]); rw [er_19_1] at hP; rw [e9, fndC_inl]; exact hP) hS (by have e9 : rKindFor r pp n9 = .inl 0 := (by unfold rKindFor; rw [if_pos c_5, if_neg c_14]); rw [e9]; decide) dX4_kindFor_22
set_option maxHeartbeats 800000 in
set_option maxRecDepth 100000 in
theorem c_X4_weatherFor (l : Launch) (E : EV) (ag ah az ak : Nat → Nat) (i0 : Int32) (r f x : Row) (i n9 : Int32) (hR : RI r) : Met l yX4_weatherFor (wq yX4_weatherFor cX4_weatherFor 6 (some .int)) ({ frames := 5, cells := 0, slots := 0, locals := 105 }) (preB E [.ref (ag 0), .int i, .int n9] [[gObj ag ah az ak i0], hillsW E ah r, [(ag 4, .inl (E.2.1, 7, .inl (sg f 7)))], hillsW E az x]) (qIx E [[gObj ag ah az ak i0], hillsW E ah r, [(ag 4, .inl (E.2.1, 7, .inl (sg f 7)))], hillsW E az x] (fun u9 => [[gObj ag ah az ak i0], hillsW E ah r, [(ag 4, .inl (E.2.1, 7, .inl (sg (fndC f (rWeatherFor r i n9)) 7)))], hillsW E az u9]) (ansR (rWeatherFor r i n9))) 0 0 (inB [[gObj ag ah az ak i0], hillsW E ah r, [(ag 4, .inl (E.2.1, 7, .inl (sg f 7)))], hillsW E az x]) := by
  refine M_mk RX4 (by decide) rfl (Nat.le_of_ble_eq_true rfl) ?_
  intro p e s m below meth c S hr hlk hK hP hD hS ls hl
  have hl : lv_has ls 6 [(0, .ref (ag 0)), (1, .int i), (2, .int n9)] := hl
  obtain ⟨n, d, hn, hn8, hd, hd5, ho, hso, hli, hsp, hpt⟩ := id hR
  obtain ⟨H, hH⟩ : ∃ zz9, zz9 = s.heap := ⟨_, rfl⟩
  obtain ⟨locs, hlocs⟩ : ∃ zz9 : List Loc, zz9 = [] := ⟨_, rfl⟩
  have hP : PE E [[gObj ag ah az ak i0], hillsW E ah r, [(ag 4, .inl (E.2.1, 7, .inl (sg f 7)))], hillsW E az x] H := by rw [hH]; exact hP
  have hS : va_S (inB [[gObj ag ah az ak i0], hillsW E ah r, [(ag 4, .inl (E.2.1, 7, .inl (sg f 7)))], hillsW E az x]) s.heap H locs := by rw [hH, hlocs]; exact hS
  show W p l e ({ frames := 5, cells := 0, slots := 0, locals := 105 }) s m ([.ref (ag 0), .int i, .int n9] : List Value).toArray below meth c s.heap [] 0 0 _ _
  suffices hgo : W p l e ({ frames := 5, cells := 0, slots := 0, locals := 105 }) s m ([.ref (ag 0), .int i, .int n9] : List Value).toArray below meth c H locs 0 0 (MQ below (qIx E [[gObj ag ah az ak i0], hillsW E ah r, [(ag 4, .inl (E.2.1, 7, .inl (sg f 7)))], hillsW E az x] (fun u9 => [[gObj ag ah az ak i0], hillsW E ah r, [(ag 4, .inl (E.2.1, 7, .inl (sg (fndC f (rWeatherFor r i n9)) 7)))], hillsW E az u9]) (ansR (rWeatherFor r i n9))) ([.ref (ag 0), .int i, .int n9] : List Value).toArray s 0 0 (inB [[gObj ag ah az ak i0], hillsW E ah r, [(ag 4, .inl (E.2.1, 7, .inl (sg f 7)))], hillsW E az x])) (F0 m 0 ls []) by rw [hH, hlocs] at hgo; exact hgo
  clear hH hlocs
  refine lv_iload_n S.1 S.2.1 dX4_weatherFor_0 rfl (lv_at hl 1 rfl) ?_
  refine lv_iconst (v := 5) S.1 S.2.1 dX4_weatherFor_1 (by decide) ?_
  refine go_S (run_S (As := [.int i, .int 5]) (rest := []) (n := 2) S hK (bl_P hP [] rfl) (bl_D hD [] rfl rfl) (c_X4_isWithin l E i 5 ) gS_X4_44 (by decide +kernel) rfl ⟨rfl, rfl⟩ ⟨Nat.le_of_ble_eq_true rfl, Nat.le_of_ble_eq_true rfl⟩ hl.1 (Nat.le_of_ble_eq_true rfl) dX4_weatherFor_2 ⟨Nat.zero_le _, Nat.zero_le _⟩) ?_
  refine b_ifeq (tgt := 17) S.1 S.2.1 dX4_weatherFor_5 (by decide) (fun c_5 => ?_) (fun c_5 => ?_)
  · refine lv_aload_n S.1 S.2.1 dX4_weatherFor_17 rfl (lv_at hl 0 rfl) ?_
    refine lv_iconst (v := 0) S.1 S.2.1 dX4_weatherFor_18 (by decide) ?_
    refine go_I (run_V (As := [.int 0]) (rest := []) (n := 1) S hK (bl_P hP [0, 2] rfl) (bl_D hD [0, 2] rfl rfl) (c_X4_finding l E ag ah az ak i0 f 0 (by decide)) gV_X4_48 (by decide +kernel) rfl ⟨rfl, rfl⟩ ⟨Nat.le_of_ble_eq_true rfl, Nat.le_of_ble_eq_true rfl⟩ (ci := 4) (q0 := 0) rfl rfl hl.1 (Nat.le_of_ble_eq_true rfl) dX4_weatherFor_19 ⟨Nat.zero_le _, Nat.zero_le _⟩) hP hD hS [0, 2] rfl (had_cons rfl (had_cons cell_ad rfl)) (Bs' := [[gObj ag ah az ak i0], hillsW E ah r, [(ag 4, .inl (E.2.1, 7, .inl (sg (upd f 0 (f 0 + 1)) 7)))], hillsW E az x]) rfl (fun H locs hP hD hS => ?_)
    obtain ⟨r_19, er_19⟩ : ∃ zz9 : Row, zz9 = upd f 0 (f 0 + 1) := ⟨_, rfl⟩
    rw [← er_19] at hP hD
    exact retIx S hr hlk x (by have e9 : rWeatherFor r i n9 = .inl 0 := (by unfold rWeatherFor; rw [if_neg c_5]); rw [er_19] at hP; rw [e9, fndC_inl]; exact hP) hS (by have e9 : rWeatherFor r i n9 = .inl 0 := (by unfold rWeatherFor; rw [if_neg c_5]); rw [e9]; decide) dX4_weatherFor_22
  · obtain ⟨k_i, hk_i, ek_i⟩ := nI_of2 (n := 5) (by decide) (Int32.not_lt.mpr c_5.1) c_5.2
    refine lv_iload_n S.1 S.2.1 dX4_weatherFor_8 rfl (lv_at hl 2 rfl) ?_
    refine lv_bipush (v := 40) S.1 S.2.1 dX4_weatherFor_9 (by decide) ?_
    refine go_S (run_S (As := [.int n9, .int 40]) (rest := []) (n := 2) S hK (bl_P hP [] rfl) (bl_D hD [] rfl rfl) (c_X4_isWithin l E n9 40 ) gS_X4_44 (by decide +kernel) rfl ⟨rfl, rfl⟩ ⟨Nat.le_of_ble_eq_true rfl, Nat.le_of_ble_eq_true rfl⟩ hl.1 (Nat.le_of_ble_eq_true rfl) dX4_weatherFor_11 ⟨Nat.zero_le _, Nat.zero_le _⟩) ?_
    refine b_ifne (tgt := 23) S.1 S.2.1 dX4_weatherFor_14 (by decide) (fun c_14 => ?_) (fun c_14 => ?_)
    · obtain ⟨k_n9, hk_n9, ek_n9⟩ := nI_of2 (n := 40) (by decide) (Int32.not_lt.mpr c_14.1) c_14.2
      refine lv_iconst (v := 0) S.1 S.2.1 dX4_weatherFor_23 (by decide) ?_
      refine lv_istore_n (lv' := [(3, .int 0), (0, .ref (ag 0)), (1, .int i), (2, .int n9)]) S.1 S.2.1 dX4_weatherFor_24 rfl hl (by decide) rfl (fun ls hl => ?_)
      refine lv_iconst (v := (-1)) S.1 S.2.1 dX4_weatherFor_25 (by decide) ?_
      refine lv_istore (lv' := [(4, .int (-1)), (3, .int 0), (0, .ref (ag 0)), (1, .int i), (2, .int n9)]) S.1 S.2.1 dX4_weatherFor_26 hl (by decide) rfl (fun ls hl => ?_)
      refine lv_iconst (v := 0) S.1 S.2.1 dX4_weatherFor_28 (by decide) ?_
      refine lv_istore (lv' := [(5, .int 0), (4, .int (-1)), (3, .int 0), (0, .ref (ag 0)), (1, .int i), (2, .int n9)]) S.1 S.2.1 dX4_weatherFor_29 hl (by decide) rfl (fun ls hl => ?_)
      have L_31 : ∀ (fu : Nat) (j9 : Nat) (b : Int32) (mo : Int32) (ti : Row), (j9 ≤ 100) → (100 < j9 + fu) → (b = (bestN (fun k => daysF (upd r (5 + k_i) (nI k)) k_n9 4) j9).1) → (mo = (bestN (fun k => daysF (upd r (5 + k_i) (nI k)) k_n9 4) j9).2) → ∀ (H : Heap) (locs : List Loc), PE E [[gObj ag ah az ak i0], hillsW E ah r, [(ag 4, .inl (E.2.1, 7, .inl (sg f 7)))], hillsW E az ti] H → DE (inB [[gObj ag ah az ak i0], hillsW E ah r, [(ag 4, .inl (E.2.1, 7, .inl (sg f 7)))], hillsW E az x]) [[gObj ag ah az ak i0], hillsW E ah r, [(ag 4, .inl (E.2.1, 7, .inl (sg f 7)))], hillsW E az ti] → va_S (inB [[gObj ag ah az ak i0], hillsW E ah r, [(ag 4, .inl (E.2.1, 7, .inl (sg f 7)))], hillsW E az x]) s.heap H locs → ∀ (ls : Array Slot), lv_has ls 6 [(0, .ref (ag 0)), (1, .int i), (2, .int n9), (3, .int b), (4, .int mo), (5, .int (nI j9))] → W p l e ({ frames := 5, cells := 0, slots := 0, locals := 105 }) s m ([.ref (ag 0), .int i, .int n9] : List Value).toArray below meth c H locs 0 0 (MQ below (qIx E [[gObj ag ah az ak i0], hillsW E ah r, [(ag 4, .inl (E.2.1, 7, .inl (sg f 7)))], hillsW E az x] (fun u9 => [[gObj ag ah az ak i0], hillsW E ah r, [(ag 4, .inl (E.2.1, 7, .inl (sg (fndC f (rWeatherFor r i n9)) 7)))], hillsW E az u9]) (ansR (rWeatherFor r i n9))) ([.ref (ag 0), .int i, .int n9] : List Value).toArray s 0 0 (inB [[gObj ag ah az ak i0], hillsW E ah r, [(ag 4, .inl (E.2.1, 7, .inl (sg f 7)))], hillsW E az x])) (F0 m 31 ls []) := by
        intro fu
        induction fu with
        | zero =>
          intro j9 b mo ti hi hf hb hm
          omega
        | succ fu ih_31 =>
          intro j9 b mo ti hi hf hb hm H locs hP hD hS ls hl
          refine lv_iload S.1 S.2.1 dX4_weatherFor_31 (lv_at hl 5 rfl) ?_
          refine lv_bipush (v := 99) S.1 S.2.1 dX4_weatherFor_33 (by decide) ?_
          refine lv_icmp_gt (tgt := 98) S.1 S.2.1 dX4_weatherFor_35 (by decide) (fun c_35 => ?_) (fun c_35 => ?_)
          · have n_35 := Int32.not_le.mpr c_35
            have hi9 : j9 = 100 := by (have z9 : 99 < j9 := lt_of_nI (a := 99) c_35 (by decide) (by omega); omega)
            refine lv_iload_n S.1 S.2.1 dX4_weatherFor_98 rfl (lv_at hl 3 rfl) ?_
            exact retIx S hr hlk ti (by have e9 : rWeatherFor r i n9 = .inr (r, b) := (by unfold rWeatherFor; rw [if_pos c_5, if_pos c_14]; (try rw [ek_i]); (try rw [ek_n9]); (try rw [tN_nI (k := k_i) (by omega)]); (try rw [tN_nI (k := k_n9) (by omega)]); rw [hb, hi9]); rw [e9, fndC_inr]; exact hP) hS (by have e9 : rWeatherFor r i n9 = .inr (r, b) := (by unfold rWeatherFor; rw [if_pos c_5, if_pos c_14]; (try rw [ek_i]); (try rw [ek_n9]); (try rw [tN_nI (k := k_i) (by omega)]); (try rw [tN_nI (k := k_n9) (by omega)]); rw [hb, hi9]); rw [e9, ansR_inr]) dX4_weatherFor_99
          · have n_35 := Int32.not_lt.mp c_35
            have hi2 : j9 ≤ 99 := le_of_nI (b := 99) (Int32.not_lt.mp c_35) (by omega) (by decide)
            refine lv_aload_n S.1 S.2.1 dX4_weatherFor_38 rfl (lv_at hl 0 rfl) ?_
            refine gf_X4_16 S hK hP 0 0 rfl rfl rfl dX4_weatherFor_39 ?_
            refine lv_aload_n S.1 S.2.1 dX4_weatherFor_42 rfl (lv_at hl 0 rfl) ?_
            refine gf_X4_10 S hK hP 0 0 rfl rfl rfl dX4_weatherFor_43 ?_
            refine go_V (run_V (As := [.ref (ah 0)]) (rest := []) (n := 1) S hK (bl_P hP [3, 1] rfl) (bl_D hD [3, 1] rfl rfl) (c_X0_become l E az ah ti r n hn hn8) gV_X4_135 (by decide +kernel) rfl ⟨rfl, rfl⟩ ⟨Nat.le_of_ble_eq_true rfl, Nat.le_of_ble_eq_true rfl⟩ (ci := 0) (q0 := 0) rfl rfl hl.1 (Nat.le_of_ble_eq_true rfl) dX4_weatherFor_46 ⟨Nat.zero_le _, Nat.zero_le _⟩) hP hD hS [3, 1] rfl (had_cons hw_ad (had_cons rfl rfl)) (Bs' := [[gObj ag ah az ak i0], hillsW E ah r, [(ag 4, .inl (E.2.1, 7, .inl (sg f 7)))], hillsW E az (becF ti r)]) rfl (fun H locs hP hD hS => ?_)
            obtain ⟨r_46, er_46⟩ : ∃ zz9 : Row, zz9 = becF ti r := ⟨_, rfl⟩
            rw [← er_46] at hP hD
            have hev_r_46 : Ev r_46 r := by rw [er_46]; exact Ev.bec
            have hRI_r_46 : RI r_46 := RI_ev hev_r_46.sy hR
            have hr_46_1 : r_46 1 = nI n := (hev_r_46.lo (by decide)).trans hn
            have hr_46_0 : r_46 0 = nI d := (hev_r_46.lo (by decide)).trans hd
            refine lv_aload_n S.1 S.2.1 dX4_weatherFor_49 rfl (lv_at hl 0 rfl) ?_
            refine gf_X4_16 S hK hP 0 0 rfl rfl rfl dX4_weatherFor_50 ?_
            refine gf_X4_52 S hK hP 3 0 rfl rfl rfl dX4_weatherFor_53 ?_
            refine lv_iload_n S.1 S.2.1 dX4_weatherFor_56 rfl (lv_at hl 1 rfl) ?_
            refine lv_eqi (y := nI k_i) ek_i ?_
            refine lv_iload S.1 S.2.1 dX4_weatherFor_57 (lv_at hl 5 rfl) ?_
            refine b_iastN (i := k_i) S hK hP hD hS 3 1 rfl rfl (by omega) (by decide) (hs_list (by omega)) (Bs1 := [[gObj ag ah az ak i0], hillsW E ah r, [(ag 4, .inl (E.2.1, 7, .inl (sg f 7)))], hillsW E az (upd r_46 (5 + k_i) (nI j9))]) rfl dX4_weatherFor_59 (fun H locs hP hD hS => ?_)
            obtain ⟨r_59, er_59⟩ : ∃ zz9, zz9 = upd r_46 (5 + k_i) (nI j9) := ⟨_, rfl⟩
            rw [← er_59] at hP hD
            have hr_59_1 : r_59 1 = nI n := by rw [er_59]; exact (upd_ne (by omega)).trans hr_46_1
            have hr_59_0 : r_59 0 = nI d := by rw [er_59]; exact (upd_ne (by omega)).trans hr_46_0
            have hev_r_59 : Ev r_59 (upd r (5 + k_i) (nI j9)) := by rw [er_59]; exact (hev_r_46).up (by omega) rfl
            have hRI_r_59 : RI r_59 := by rw [er_59]; exact RI_list hRI_r_46 (by omega) ⟨j9, by omega, rfl⟩
            refine lv_aload_n S.1 S.2.1 dX4_weatherFor_60 rfl (lv_at hl 0 rfl) ?_
            refine gf_X4_16 S hK hP 0 0 rfl rfl rfl dX4_weatherFor_61 ?_
            refine lv_iload_n S.1 S.2.1 dX4_weatherFor_64 rfl (lv_at hl 2 rfl) ?_
            refine lv_eqi (y := nI k_n9) ek_n9 ?_
            refine go_V (run_V (As := [.int (nI k_n9)]) (rest := []) (n := 1) S hK (bl_P hP [3] rfl) (bl_D hD [3] rfl rfl) (c_X0_passDays l E az r_59 k_n9 (by omega) hRI_r_59) gV_X4_113 (by decide +kernel) rfl ⟨rfl, rfl⟩ ⟨Nat.le_of_ble_eq_true rfl, Nat.le_of_ble_eq_true rfl⟩ (ci := 0) (q0 := 0) rfl rfl hl.1 (Nat.le_of_ble_eq_true rfl) dX4_weatherFor_65 ⟨Nat.zero_le _, Nat.zero_le _⟩) hP hD hS [3] rfl (had_cons hw_ad rfl) (Bs' := [[gObj ag ah az ak i0], hillsW E ah r, [(ag 4, .inl (E.2.1, 7, .inl (sg f 7)))], hillsW E az (daysF r_59 k_n9)]) rfl (fun H locs hP hD hS => ?_)
            obtain ⟨r_65, er_65⟩ : ∃ zz9 : Row, zz9 = daysF r_59 k_n9 := ⟨_, rfl⟩
            rw [← er_65] at hP hD
            have hr_65_1 : r_65 1 = nI n := by rw [er_65]; exact (daysF_1 _ _).trans hr_59_1
            have hRI_r_65 : RI r_65 := by rw [er_65]; exact daysF_RI hRI_r_59 _
            have hev_r_65 : Ev r_65 (daysF (upd r (5 + k_i) (nI j9)) k_n9) := by rw [er_65]; exact ev_days hev_r_59 _
            refine lv_aload_n S.1 S.2.1 dX4_weatherFor_68 rfl (lv_at hl 0 rfl) ?_
            refine gf_X4_16 S hK hP 0 0 rfl rfl rfl dX4_weatherFor_69 ?_
            refine gf_X4_117 S hK hP 3 0 rfl rfl rfl dX4_weatherFor_72 ?_
            refine lv_eqi (y := (daysF (upd r (5 + k_i) (nI j9)) k_n9) 4) ((hev_r_65).lo (by decide)) ?_
            refine lv_iload S.1 S.2.1 dX4_weatherFor_75 (lv_at hl 4 rfl) ?_
            refine lv_icmp_le (tgt := 92) S.1 S.2.1 dX4_weatherFor_77 (by decide) (fun c_77 => ?_) (fun c_77 => ?_)
            · have n_77 := Int32.not_lt.mpr c_77
              refine lv_iinc (v := nI (j9 + 1)) (lv' := [(5, .int (nI (j9 + 1))), (0, .ref (ag 0)), (1, .int i), (2, .int n9), (3, .int b), (4, .int mo)]) S.1 S.2.1 dX4_weatherFor_92 hl (k := 5) rfl (nI_1 j9) (by decide) rfl (fun ls hl => ?_)
              refine lv_goto (tgt := 31) S.1 S.2.1 dX4_weatherFor_95 (by decide) ?_
              exact ih_31 (j9 + 1) b mo r_65 (by omega) (by omega) (best_t hb hm c_77).1 (best_t hb hm c_77).2 H locs hP hD hS ls (lv_sub hl [1, 2, 3, 4, 5, 0] rfl)
            · have n_77 := Int32.not_le.mp c_77
              refine lv_aload_n S.1 S.2.1 dX4_weatherFor_80 rfl (lv_at hl 0 rfl) ?_
              refine gf_X4_16 S hK hP 0 0 rfl rfl rfl dX4_weatherFor_81 ?_
              refine gf_X4_117 S hK hP 3 0 rfl rfl rfl dX4_weatherFor_84 ?_
              refine lv_eqi (y := (daysF (upd r (5 + k_i) (nI j9)) k_n9) 4) ((hev_r_65).lo (by decide)) ?_
              refine lv_istore (lv' := [(4, .int ((daysF (upd r (5 + k_i) (nI j9)) k_n9) 4)), (0, .ref (ag 0)), (1, .int i), (2, .int n9), (3, .int b), (5, .int (nI j9))]) S.1 S.2.1 dX4_weatherFor_87 hl (by decide) rfl (fun ls hl => ?_)
              refine lv_iload S.1 S.2.1 dX4_weatherFor_89 (lv_at hl 5 rfl) ?_
              refine lv_istore_n (lv' := [(3, .int (nI j9)), (4, .int ((daysF (upd r (5 + k_i) (nI j9)) k_n9) 4)), (0, .ref (ag 0)), (1, .int i), (2, .int n9), (5, .int (nI j9))]) S.1 S.2.1 dX4_weatherFor_91 rfl hl (by decide) rfl (fun ls hl => ?_)
              refine lv_iinc (v := nI (j9 + 1)) (lv' := [(5, .int (nI (j9 + 1))), (3, .int (nI j9)), (4, .int ((daysF (upd r (5 + k_i) (nI j9)) k_n9) 4)), (0, .ref (ag 0)), (1, .int i), (2, .int n9)]) S.1 S.2.1 dX4_weatherFor_92 hl (k := 5) rfl (nI_1 j9) (by decide) rfl (fun ls hl => ?_)
              refine lv_goto (tgt := 31) S.1 S.2.1 dX4_weatherFor_95 (by decide) ?_
              exact ih_31 (j9 + 1) (nI j9) ((daysF (upd r (5 + k_i) (nI j9)) k_n9) 4) r_65 (by omega) (by omega) (best_f hm c_77).1 (best_f hm c_77).2 H locs hP hD hS ls (lv_sub hl [3, 4, 5, 1, 2, 0] rfl)
      exact L_31 (100 + 1) 0 0 (-1) x (by omega) (by omega) rfl rfl H locs hP hD hS ls (lv_sub hl [3, 4, 5, 2, 1, 0] rfl)
    · refine lv_aload_n S.1 S.2.1 dX4_weatherFor_17 rfl (lv_at hl 0 rfl) ?_
      refine lv_iconst (v := 0) S.1 S.2.1 dX4_weatherFor_18 (by decide) ?_
      refine go_I (run_V (As := [.int 0]) (rest := []) (n := 1) S hK (bl_P hP [0, 2] rfl) (bl_D hD [0, 2] rfl rfl) (c_X4_finding l E ag ah az ak i0 f 0 (by decide)) gV_X4_48 (by decide +kernel) rfl ⟨rfl, rfl⟩ ⟨Nat.le_of_ble_eq_true rfl, Nat.le_of_ble_eq_true rfl⟩ (ci := 4) (q0 := 0) rfl rfl hl.1 (Nat.le_of_ble_eq_true rfl) dX4_weatherFor_19 ⟨Nat.zero_le _, Nat.zero_le _⟩) hP hD hS [0, 2] rfl (had_cons rfl (had_cons cell_ad rfl)) (Bs' := [[gObj ag ah az ak i0], hillsW E ah r, [(ag 4, .inl (E.2.1, 7, .inl (sg (upd f 0 (f 0 + 1)) 7)))], hillsW E az x]) rfl (fun H locs hP hD hS => ?_)
      obtain ⟨r_19_1, er_19_1⟩ : ∃ zz9 : Row, zz9 = upd f 0 (f 0 + 1) := ⟨_, rfl⟩
      rw [← er_19_1] at hP hD
      exact retIx S hr hlk x (by have e9 : rWeatherFor r i n9 = .inl 0 := (by unfold rWeatherFor; rw [if_pos c_5, if_neg c_14]); rw [er_19_1] at hP; rw [e9, fndC_inl]; exact hP) hS (by have e9 : rWeatherFor r i n9 = .inl 0 := (by unfold rWeatherFor; rw [if_pos c_5, if_neg c_14]); rw [e9]; decide) dX4_weatherFor_22
