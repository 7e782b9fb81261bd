theorem fst_fnd {f r : Row} {c : Nat → Bool} : fndM f (fstR r c 201) = orNF f (dtV c) := by
  unfold fstR dtV
  by_cases h : fstN c 201 < 201
  · rw [if_pos h, if_pos h, orNF, if_pos (nI_pos' (by omega))]; rfl
  · rw [if_neg h, if_neg h, orNF, if_neg (by decide)]; rfl
theorem fst_ans {r : Row} {c : Nat → Bool} : orNV (dtV c) = ansR (fstR r c 201) := by
  unfold fstR dtV
  by_cases h : fstN c 201 < 201
  · rw [if_pos h, if_pos h, orNV, if_pos (nI_pos' (by omega))]; rfl
  · rw [if_neg h, if_neg h, orNV, if_neg (by decide)]; decide
theorem fst_in {r : Row} {c : Nat → Bool} {i N : Nat} (hi : i < N) (hno : ∀ j, j < i → c j = false) (h : c i = true) : fstR r c N = .inr (r, nI i) := by
  unfold fstR
  rw [fst_yes hno h hi, if_pos hi]
theorem fst_out {r : Row} {c : Nat → Bool} {N : Nat} (hno : ∀ j, j < N → c j = false) : fstR r c N = .inl 3 := by
  unfold fstR
  rw [fst_no hno, if_neg (by omega)]
theorem fa_tw {r : Row} {p9 : Nat} {a b : Int32} : upd (upd r p9 a) p9 b = upd r p9 b := funext fun j => by
  unfold upd
  by_cases q : j = p9
  · rw [if_pos q, if_pos q]
  · rw [if_neg q, if_neg q, if_neg q]
theorem lt_of_nI {a b : Nat} (h : nI a < nI b) (ha : a < 2147483648) (hb : b < 2147483648) : a < b := (nI_ltI ha hb).mp h
set_option maxHeartbeats 800000 in
set_option maxRecDepth 100000 in
theorem c_X5_ahead (l : Launch) (E : EV) (am : Nat → Nat) (q r f x : Row) (pp w n9 : Int32) (hR : RI r) : Met l yX5_ahead (wq yX5_ahead cX5_ahead 5 (some .int)) ({ frames := 8, cells := 0, slots := 0, locals := 171 }) (preB E [.ref (am 0), .int pp, .int w, .int n9] [[mObj am q], [(am 1, .inl (E.2.1, 77, .inl (sg r 77)))], [(am 4, .inl (E.2.1, 8, .inl (sg f 8)))], [(am 3, .inl (E.2.1, 77, .inl (sg x 77)))]]) (qIx E [[mObj am q], [(am 1, .inl (E.2.1, 77, .inl (sg r 77)))], [(am 4, .inl (E.2.1, 8, .inl (sg f 8)))], [(am 3, .inl (E.2.1, 77, .inl (sg x 77)))]] (fun u9 => [[mObj am q], [(am 1, .inl (E.2.1, 77, .inl (sg r 77)))], [(am 4, .inl (E.2.1, 8, .inl (sg (fndM f (rAhead r pp w n9)) 8)))], [(am 3, .inl (E.2.1, 77, .inl (sg u9 77)))]]) (ansR (rAhead r pp w n9))) 0 0 (inB [[mObj am q], [(am 1, .inl (E.2.1, 77, .inl (sg r 77)))], [(am 4, .inl (E.2.1, 8, .inl (sg f 8)))], [(am 3, .inl (E.2.1, 77, .inl (sg x 77)))]]) := by
  refine M_mk RX5 (by decide) rfl (Nat.le_of_ble_eq_true rfl) ?_
  intro p e s m below meth c S hr hlk hK hP hD hS ls hl
  have hl : lv_has ls 5 [(0, .ref (am 0)), (1, .int pp), (2, .int w), (3, .int n9)] := hl
  obtain ⟨n, d, hn, hn8, hd, hd5, ho, hso, hli, hsp, hpt⟩ := id hR
  obtain ⟨H, hH⟩ : ∃ z, z = s.heap := ⟨_, rfl⟩
  obtain ⟨locs, hlocs⟩ : ∃ z : List Loc, z = [] := ⟨_, rfl⟩
  have hP : PE E [[mObj am q], [(am 1, .inl (E.2.1, 77, .inl (sg r 77)))], [(am 4, .inl (E.2.1, 8, .inl (sg f 8)))], [(am 3, .inl (E.2.1, 77, .inl (sg x 77)))]] H := by rw [hH]; exact hP
  have hS : va_S (inB [[mObj am q], [(am 1, .inl (E.2.1, 77, .inl (sg r 77)))], [(am 4, .inl (E.2.1, 8, .inl (sg f 8)))], [(am 3, .inl (E.2.1, 77, .inl (sg x 77)))]]) s.heap H locs := by rw [hH, hlocs]; exact hS
  show W p l e ({ frames := 8, cells := 0, slots := 0, locals := 171 }) s m ([.ref (am 0), .int pp, .int w, .int n9] : List Value).toArray below meth c s.heap [] 0 0 _ _
  suffices hgo : W p l e ({ frames := 8, cells := 0, slots := 0, locals := 171 }) s m ([.ref (am 0), .int pp, .int w, .int n9] : List Value).toArray below meth c H locs 0 0 (MQ below (qIx E [[mObj am q], [(am 1, .inl (E.2.1, 77, .inl (sg r 77)))], [(am 4, .inl (E.2.1, 8, .inl (sg f 8)))], [(am 3, .inl (E.2.1, 77, .inl (sg x 77)))]] (fun u9 => [[mObj am q], [(am 1, .inl (E.2.1, 77, .inl (sg r 77)))], [(am 4, .inl (E.2.1, 8, .inl (sg (fndM f (rAhead r pp w n9)) 8)))], [(am 3, .inl (E.2.1, 77, .inl (sg u9 77)))]]) (ansR (rAhead r pp w n9))) ([.ref (am 0), .int pp, .int w, .int n9] : List Value).toArray s 0 0 (inB [[mObj am q], [(am 1, .inl (E.2.1, 77, .inl (sg r 77)))], [(am 4, .inl (E.2.1, 8, .inl (sg f 8)))], [(am 3, .inl (E.2.1, 77, .inl (sg x 77)))]])) (F0 m 0 ls []) by rw [hH, hlocs] at hgo; exact hgo
  clear hH hlocs
  refine lv_iload_n S.1 S.2.1 dX5_ahead_0 rfl (lv_at hl 2 rfl) ?_
  refine lv_iconst (v := 1) S.1 S.2.1 dX5_ahead_1 (by decide) ?_
  refine lv_icmp_eq (tgt := 15) S.1 S.2.1 dX5_ahead_2 (by decide) (fun c_2 => ?_) (fun c_2 => ?_)
  · refine lv_iconst (v := 1) S.1 S.2.1 dX5_ahead_15 (by decide) ?_
    refine lv_goto (tgt := 20) S.1 S.2.1 dX5_ahead_16 (by decide) ?_
    refine lv_istore (lv' := [(4, .int 1), (0, .ref (am 0)), (1, .int pp), (2, .int w), (3, .int n9)]) S.1 S.2.1 dX5_ahead_20 hl (by decide) rfl (fun ls hl => ?_)
    refine lv_aload_n S.1 S.2.1 dX5_ahead_22 rfl (lv_at hl 1 rfl) ?_
    refine lv_iload_n S.1 S.2.1 dX5_ahead_23 rfl (lv_at hl 2 rfl) ?_
    refine go_S (run_V (As := [.int pp]) (rest := []) (n := 1) S hK (bl_P hP [0, 1] rfl) (bl_D hD [0, 1] rfl rfl) (c_X5_isPotter l E am q r pp n hn hn8) gV_X5_122 (by decide +kernel) rfl ⟨rfl, rfl⟩ ⟨Nat.le_of_ble_eq_true rfl, Nat.le_of_ble_eq_true rfl⟩ (ci := 5) (q0 := 0) rfl rfl hl.1 (Nat.le_of_ble_eq_true rfl) dX5_ahead_24 ⟨Nat.zero_le _, Nat.zero_le _⟩) ?_
    refine b_ifeq (tgt := 45) S.1 S.2.1 dX5_ahead_27 (by decide) (fun c_27 => ?_) (fun c_27 => ?_)
    · refine lv_aload_n S.1 S.2.1 dX5_ahead_45 rfl (lv_at hl 1 rfl) ?_
      refine lv_ldc (v := (-1000001)) S.1 S.2.1 S.2.2.2.1 (S.2.2.2.2 _ (List.mem_cons_of_mem _ kk_X5_60)) dX5_ahead_46 ?_
      refine go_I (run_V (As := [.int (-1000001)]) (rest := []) (n := 1) S hK (bl_P hP [0, 2] rfl) (bl_D hD [0, 2] rfl rfl) (c_X5_finding l E am q f (-1000001) 0 (by decide) (by decide)) gV_X5_66 (by decide +kernel) rfl ⟨rfl, rfl⟩ ⟨Nat.le_of_ble_eq_true rfl, Nat.le_of_ble_eq_true rfl⟩ (ci := 5) (q0 := 0) rfl rfl hl.1 (Nat.le_of_ble_eq_true rfl) dX5_ahead_48 ⟨Nat.zero_le _, Nat.zero_le _⟩) hP hD hS [0, 2] rfl (had_cons rfl (had_cons cell_ad rfl)) (Bs' := [[mObj am q], [(am 1, .inl (E.2.1, 77, .inl (sg r 77)))], [(am 4, .inl (E.2.1, 8, .inl (sg (findM f 0) 8)))], [(am 3, .inl (E.2.1, 77, .inl (sg x 77)))]]) rfl (fun H locs hP hD hS => ?_)
      obtain ⟨r_48, er_48⟩ : ∃ z : Row, z = findM f 0 := ⟨_, rfl⟩
      rw [← er_48] at hP hD
      exact retIx S hr hlk x (by have e9 : rAhead r pp w n9 = .inl 0 := (by unfold rAhead; rw [if_neg c_27]); rw [er_48] at hP; rw [e9, fndM_inl]; exact hP) hS (by have e9 : rAhead r pp w n9 = .inl 0 := (by unfold rAhead; rw [if_neg c_27]); rw [e9]; decide) dX5_ahead_51
    · obtain ⟨k_pp, hk_pp, ek_pp⟩ := pot_nat c_27 hn (by omega)
      refine lv_iload S.1 S.2.1 dX5_ahead_30 (lv_at hl 0 rfl) ?_
      refine lv_if_eq (tgt := 45) S.1 S.2.1 dX5_ahead_32 (by decide) (fun h => absurd h (by decide)) (fun _ => ?_)
      refine lv_iload_n S.1 S.2.1 dX5_ahead_35 rfl (lv_at hl 4 rfl) ?_
      refine lv_iconst (v := 0) S.1 S.2.1 dX5_ahead_36 (by decide) ?_
      refine lv_bipush (v := 100) S.1 S.2.1 dX5_ahead_37 (by decide) ?_
      refine go_S (run_S (As := [.int n9, .int 0, .int 100]) (rest := []) (n := 3) S hK (bl_P hP [] rfl) (bl_D hD [] rfl rfl) (c_X5_within l E n9 0 100 ) gS_X5_70 (by decide +kernel) rfl ⟨rfl, rfl⟩ ⟨Nat.le_of_ble_eq_true rfl, Nat.le_of_ble_eq_true rfl⟩ hl.1 (Nat.le_of_ble_eq_true rfl) dX5_ahead_39 ⟨Nat.zero_le _, Nat.zero_le _⟩) ?_
      refine b_ifne (tgt := 52) S.1 S.2.1 dX5_ahead_42 (by decide) (fun c_42 => ?_) (fun c_42 => ?_)
      · obtain ⟨k_n9, hk_n9, ek_n9⟩ := nI_of2 (n := 100) (by decide) (Int32.not_lt.mpr c_42.1) c_42.2
        obtain ⟨k_w, hk_w, ek_w⟩ : ∃ k : Nat, k < 7 ∧ w = nI k := ⟨1, by decide, c_2⟩
        refine lv_aload_n S.1 S.2.1 dX5_ahead_52 rfl (lv_at hl 1 rfl) ?_
        refine lv_iload_n S.1 S.2.1 dX5_ahead_53 rfl (lv_at hl 2 rfl) ?_
        refine lv_eqi (y := nI k_pp) ek_pp ?_
        refine lv_iload_n S.1 S.2.1 dX5_ahead_54 rfl (lv_at hl 3 rfl) ?_
        refine lv_eqi (y := nI k_w) ek_w ?_
        refine go_S (run_S (As := [.int (nI k_pp), .int (nI k_w)]) (rest := [.ref (am 0)]) (n := 2) S hK (bl_P hP [] rfl) (bl_D hD [] rfl rfl) (c_X5_potterAt l E k_pp k_w ) gS_X5_82 (by decide +kernel) rfl ⟨rfl, rfl⟩ ⟨Nat.le_of_ble_eq_true rfl, Nat.le_of_ble_eq_true rfl⟩ hl.1 (Nat.le_of_ble_eq_true rfl) dX5_ahead_55 ⟨Nat.zero_le _, Nat.zero_le _⟩) ?_
        refine lv_iload_n S.1 S.2.1 dX5_ahead_58 rfl (lv_at hl 4 rfl) ?_
        refine lv_eqi (y := nI k_n9) ek_n9 ?_
        refine go_I (run_V (As := [.int (nI (21 + 7 * k_pp + k_w)), .int (nI k_n9)]) (rest := []) (n := 2) S hK (bl_P hP [0, 1, 3] rfl) (bl_D hD [0, 1, 3] rfl rfl) (c_X5_behind l E am q r x (21 + 7 * k_pp + k_w) k_n9 (by omega) (by omega) hR) gV_X5_168 (by decide +kernel) rfl ⟨rfl, rfl⟩ ⟨Nat.le_of_ble_eq_true rfl, Nat.le_of_ble_eq_true rfl⟩ (ci := 5) (q0 := 0) rfl rfl hl.1 (Nat.le_of_ble_eq_true rfl) dX5_ahead_59 ⟨Nat.zero_le _, Nat.zero_le _⟩) hP hD hS [0, 1, 3] rfl (had_cons rfl (had_cons rfl (had_cons cell_ad rfl))) (Bs' := [[mObj am q], [(am 1, .inl (E.2.1, 77, .inl (sg r 77)))], [(am 4, .inl (E.2.1, 8, .inl (sg f 8)))], [(am 3, .inl (E.2.1, 77, .inl (sg r 77)))]]) rfl (fun H locs hP hD hS => ?_)
        exact retIx S hr hlk r (by have e9 : rAhead r pp w n9 = .inr (r, daysF r k_n9 (21 + 7 * k_pp + k_w)) := (by unfold rAhead; rw [if_pos c_27, if_pos (Or.inl c_2), if_pos c_42]; (try rw [ek_pp]); (try rw [ek_n9]); (try rw [ek_w]); (try rw [tN_nI (k := k_pp) (by omega)]); (try rw [tN_nI (k := k_n9) (by omega)]); (try rw [tN_nI (k := k_w) (by omega)]); try with_reducible rfl); rw [e9, fndM_inr]; exact hP) hS (by have e9 : rAhead r pp w n9 = .inr (r, daysF r k_n9 (21 + 7 * k_pp + k_w)) := (by unfold rAhead; rw [if_pos c_27, if_pos (Or.inl c_2), if_pos c_42]; (try rw [ek_pp]); (try rw [ek_n9]); (try rw [ek_w]); (try rw [tN_nI (k := k_pp) (by omega)]); (try rw [tN_nI (k := k_n9) (by omega)]); (try rw [tN_nI (k := k_w) (by omega)]); try with_reducible rfl); rw [e9, ansR_inr]) dX5_ahead_62
      · refine lv_aload_n S.1 S.2.1 dX5_ahead_45 rfl (lv_at hl 1 rfl) ?_
        refine lv_ldc (v := (-1000001)) S.1 S.2.1 S.2.2.2.1 (S.2.2.2.2 _ (List.mem_cons_of_mem _ kk_X5_60)) dX5_ahead_46 ?_
        refine go_I (run_V (As := [.int (-1000001)]) (rest := []) (n := 1) S hK (bl_P hP [0, 2] rfl) (bl_D hD [0, 2] rfl rfl) (c_X5_finding l E am q f (-1000001) 0 (by decide) (by decide)) gV_X5_66 (by decide +kernel) rfl ⟨rfl, rfl⟩ ⟨Nat.le_of_ble_eq_true rfl, Nat.le_of_ble_eq_true rfl⟩ (ci := 5) (q0 := 0) rfl rfl hl.1 (Nat.le_of_ble_eq_true rfl) dX5_ahead_48 ⟨Nat.zero_le _, Nat.zero_le _⟩) hP hD hS [0, 2] rfl (had_cons rfl (had_cons cell_ad rfl)) (Bs' := [[mObj am q], [(am 1, .inl (E.2.1, 77, .inl (sg r 77)))], [(am 4, .inl (E.2.1, 8, .inl (sg (findM f 0) 8)))], [(am 3, .inl (E.2.1, 77, .inl (sg x 77)))]]) rfl (fun H locs hP hD hS => ?_)
        obtain ⟨r_48_1, er_48_1⟩ : ∃ z : Row, z = findM f 0 := ⟨_, rfl⟩
        rw [← er_48_1] at hP hD
        exact retIx S hr hlk x (by have e9 : rAhead r pp w n9 = .inl 0 := (by unfold rAhead; rw [if_pos c_27, if_pos (Or.inl c_2), if_neg c_42]); rw [er_48_1] at hP; rw [e9, fndM_inl]; exact hP) hS (by have e9 : rAhead r pp w n9 = .inl 0 := (by unfold rAhead; rw [if_pos c_27, if_pos (Or.inl c_2), if_neg c_42]); rw [e9]; decide) dX5_ahead_51
  · refine lv_iload_n S.1 S.2.1 dX5_ahead_5 rfl (lv_at hl 2 rfl) ?_
    refine lv_iconst (v := 3) S.1 S.2.1 dX5_ahead_6 (by decide) ?_
    refine lv_bipush (v := 6) S.1 S.2.1 dX5_ahead_7 (by decide) ?_
    refine go_S (run_S (As := [.int w, .int 3, .int 6]) (rest := []) (n := 3) S hK (bl_P hP [] rfl) (bl_D hD [] rfl rfl) (c_X5_within l E w 3 6 ) gS_X5_70 (by decide +kernel) rfl ⟨rfl, rfl⟩ ⟨Nat.le_of_ble_eq_true rfl, Nat.le_of_ble_eq_true rfl⟩ hl.1 (Nat.le_of_ble_eq_true rfl) dX5_ahead_9 ⟨Nat.zero_le _, Nat.zero_le _⟩) ?_
    refine b_ifeq (tgt := 19) S.1 S.2.1 dX5_ahead_12 (by decide) (fun c_12 => ?_) (fun c_12 => ?_)
    · refine lv_iconst (v := 0) S.1 S.2.1 dX5_ahead_19 (by decide) ?_
      refine lv_istore (lv' := [(4, .int 0), (0, .ref (am 0)), (1, .int pp), (2, .int w), (3, .int n9)]) S.1 S.2.1 dX5_ahead_20 hl (by decide) rfl (fun ls hl => ?_)
      refine lv_aload_n S.1 S.2.1 dX5_ahead_22 rfl (lv_at hl 1 rfl) ?_
      refine lv_iload_n S.1 S.2.1 dX5_ahead_23 rfl (lv_at hl 2 rfl) ?_
      refine go_S (run_V (As := [.int pp]) (rest := []) (n := 1) S hK (bl_P hP [0, 1] rfl) (bl_D hD [0, 1] rfl rfl) (c_X5_isPotter l E am q r pp n hn hn8) gV_X5_122 (by decide +kernel) rfl ⟨rfl, rfl⟩ ⟨Nat.le_of_ble_eq_true rfl, Nat.le_of_ble_eq_true rfl⟩ (ci := 5) (q0 := 0) rfl rfl hl.1 (Nat.le_of_ble_eq_true rfl) dX5_ahead_24 ⟨Nat.zero_le _, Nat.zero_le _⟩) ?_
      refine b_ifeq (tgt := 45) S.1 S.2.1 dX5_ahead_27 (by decide) (fun c_27 => ?_) (fun c_27 => ?_)
      · refine lv_aload_n S.1 S.2.1 dX5_ahead_45 rfl (lv_at hl 1 rfl) ?_
        refine lv_ldc (v := (-1000001)) S.1 S.2.1 S.2.2.2.1 (S.2.2.2.2 _ (List.mem_cons_of_mem _ kk_X5_60)) dX5_ahead_46 ?_
        refine go_I (run_V (As := [.int (-1000001)]) (rest := []) (n := 1) S hK (bl_P hP [0, 2] rfl) (bl_D hD [0, 2] rfl rfl) (c_X5_finding l E am q f (-1000001) 0 (by decide) (by decide)) gV_X5_66 (by decide +kernel) rfl ⟨rfl, rfl⟩ ⟨Nat.le_of_ble_eq_true rfl, Nat.le_of_ble_eq_true rfl⟩ (ci := 5) (q0 := 0) rfl rfl hl.1 (Nat.le_of_ble_eq_true rfl) dX5_ahead_48 ⟨Nat.zero_le _, Nat.zero_le _⟩) hP hD hS [0, 2] rfl (had_cons rfl (had_cons cell_ad rfl)) (Bs' := [[mObj am q], [(am 1, .inl (E.2.1, 77, .inl (sg r 77)))], [(am 4, .inl (E.2.1, 8, .inl (sg (findM f 0) 8)))], [(am 3, .inl (E.2.1, 77, .inl (sg x 77)))]]) rfl (fun H locs hP hD hS => ?_)
        obtain ⟨r_48_2, er_48_2⟩ : ∃ z : Row, z = findM f 0 := ⟨_, rfl⟩
        rw [← er_48_2] at hP hD
        exact retIx S hr hlk x (by have e9 : rAhead r pp w n9 = .inl 0 := (by unfold rAhead; rw [if_neg c_27]); rw [er_48_2] at hP; rw [e9, fndM_inl]; exact hP) hS (by have e9 : rAhead r pp w n9 = .inl 0 := (by unfold rAhead; rw [if_neg c_27]); rw [e9]; decide) dX5_ahead_51
      · obtain ⟨k_pp, hk_pp, ek_pp⟩ := pot_nat c_27 hn (by omega)
        refine lv_iload S.1 S.2.1 dX5_ahead_30 (lv_at hl 0 rfl) ?_
        refine lv_if_eq (tgt := 45) S.1 S.2.1 dX5_ahead_32 (by decide) (fun _ => ?_) (fun h => absurd h (by decide))
        refine lv_aload_n S.1 S.2.1 dX5_ahead_45 rfl (lv_at hl 1 rfl) ?_
        refine lv_ldc (v := (-1000001)) S.1 S.2.1 S.2.2.2.1 (S.2.2.2.2 _ (List.mem_cons_of_mem _ kk_X5_60)) dX5_ahead_46 ?_
        refine go_I (run_V (As := [.int (-1000001)]) (rest := []) (n := 1) S hK (bl_P hP [0, 2] rfl) (bl_D hD [0, 2] rfl rfl) (c_X5_finding l E am q f (-1000001) 0 (by decide) (by decide)) gV_X5_66 (by decide +kernel) rfl ⟨rfl, rfl⟩ ⟨Nat.le_of_ble_eq_true rfl, Nat.le_of_ble_eq_true rfl⟩ (ci := 5) (q0 := 0) rfl rfl hl.1 (Nat.le_of_ble_eq_true rfl) dX5_ahead_48 ⟨Nat.zero_le _, Nat.zero_le _⟩) hP hD hS [0, 2] rfl (had_cons rfl (had_cons cell_ad rfl)) (Bs' := [[mObj am q], [(am 1, .inl (E.2.1, 77, .inl (sg r 77)))], [(am 4, .inl (E.2.1, 8, .inl (sg (findM f 0) 8)))], [(am 3, .inl (E.2.1, 77, .inl (sg x 77)))]]) rfl (fun H locs hP hD hS => ?_)
        obtain ⟨r_48_3, er_48_3⟩ : ∃ z : Row, z = findM f 0 := ⟨_, rfl⟩
        rw [← er_48_3] at hP hD
        exact retIx S hr hlk x (by have e9 : rAhead r pp w n9 = .inl 0 := (by unfold rAhead; rw [if_pos c_27, if_neg (fun z => z.elim c_2 c_12)]); rw [er_48_3] at hP; rw [e9, fndM_inl]; exact hP) hS (by have e9 : rAhead r pp w n9 = .inl 0 := (by unfold rAhead; rw [if_pos c_27, if_neg (fun z => z.elim c_2 c_12)]); rw [e9]; decide) dX5_ahead_51
    · obtain ⟨k_w, hj_w, hk_w, ek_w⟩ := of_rng (lo := 3) (hi := 6) (by decide) (by decide) c_12
      refine lv_iconst (v := 1) S.1 S.2.1 dX5_ahead_15 (by decide) ?_
      refine lv_goto (tgt := 20) S.1 S.2.1 dX5_ahead_16 (by decide) ?_
      refine lv_istore (lv' := [(4, .int 1), (0, .ref (am 0)), (1, .int pp), (2, .int w), (3, .int n9)]) S.1 S.2.1 dX5_ahead_20 hl (by decide) rfl (fun ls hl => ?_)
      refine lv_aload_n S.1 S.2.1 dX5_ahead_22 rfl (lv_at hl 1 rfl) ?_
      refine lv_iload_n S.1 S.2.1 dX5_ahead_23 rfl (lv_at hl 2 rfl) ?_
      refine go_S (run_V (As := [.int pp]) (rest := []) (n := 1) S hK (bl_P hP [0, 1] rfl) (bl_D hD [0, 1] rfl rfl) (c_X5_isPotter l E am q r pp n hn hn8) gV_X5_122 (by decide +kernel) rfl ⟨rfl, rfl⟩ ⟨Nat.le_of_ble_eq_true rfl, Nat.le_of_ble_eq_true rfl⟩ (ci := 5) (q0 := 0) rfl rfl hl.1 (Nat.le_of_ble_eq_true rfl) dX5_ahead_24 ⟨Nat.zero_le _, Nat.zero_le _⟩) ?_
      refine b_ifeq (tgt := 45) S.1 S.2.1 dX5_ahead_27 (by decide) (fun c_27 => ?_) (fun c_27 => ?_)
      · refine lv_aload_n S.1 S.2.1 dX5_ahead_45 rfl (lv_at hl 1 rfl) ?_
        refine lv_ldc (v := (-1000001)) S.1 S.2.1 S.2.2.2.1 (S.2.2.2.2 _ (List.mem_cons_of_mem _ kk_X5_60)) dX5_ahead_46 ?_
        refine go_I (run_V (As := [.int (-1000001)]) (rest := []) (n := 1) S hK (bl_P hP [0, 2] rfl) (bl_D hD [0, 2] rfl rfl) (c_X5_finding l E am q f (-1000001) 0 (by decide) (by decide)) gV_X5_66 (by decide +kernel) rfl ⟨rfl, rfl⟩ ⟨Nat.le_of_ble_eq_true rfl, Nat.le_of_ble_eq_true rfl⟩ (ci := 5) (q0 := 0) rfl rfl hl.1 (Nat.le_of_ble_eq_true rfl) dX5_ahead_48 ⟨Nat.zero_le _, Nat.zero_le _⟩) hP hD hS [0, 2] rfl (had_cons rfl (had_cons cell_ad rfl)) (Bs' := [[mObj am q], [(am 1, .inl (E.2.1, 77, .inl (sg r 77)))], [(am 4, .inl (E.2.1, 8, .inl (sg (findM f 0) 8)))], [(am 3, .inl (E.2.1, 77, .inl (sg x 77)))]]) rfl (fun H locs hP hD hS => ?_)
        obtain ⟨r_48_4, er_48_4⟩ : ∃ z : Row, z = findM f 0 := ⟨_, rfl⟩
        rw [← er_48_4] at hP hD
        exact retIx S hr hlk x (by have e9 : rAhead r pp w n9 = .inl 0 := (by unfold rAhead; rw [if_neg c_27]); rw [er_48_4] at hP; rw [e9, fndM_inl]; exact hP) hS (by have e9 : rAhead r pp w n9 = .inl 0 := (by unfold rAhead; rw [if_neg c_27]); rw [e9]; decide) dX5_ahead_51
      · obtain ⟨k_pp, hk_pp, ek_pp⟩ := pot_nat c_27 hn (by omega)
        refine lv_iload S.1 S.2.1 dX5_ahead_30 (lv_at hl 0 rfl) ?_
        refine lv_if_eq (tgt := 45) S.1 S.2.1 dX5_ahead_32 (by decide) (fun h => absurd h (by decide)) (fun _ => ?_)
        refine lv_iload_n S.1 S.2.1 dX5_ahead_35 rfl (lv_at hl 4 rfl) ?_
        refine lv_iconst (v := 0) S.1 S.2.1 dX5_ahead_36 (by decide) ?_
        refine lv_bipush (v := 100) S.1 S.2.1 dX5_ahead_37 (by decide) ?_
        refine go_S (run_S (As := [.int n9, .int 0, .int 100]) (rest := []) (n := 3) S hK (bl_P hP [] rfl) (bl_D hD [] rfl rfl) (c_X5_within l E n9 0 100 ) gS_X5_70 (by decide +kernel) rfl ⟨rfl, rfl⟩ ⟨Nat.le_of_ble_eq_true rfl, Nat.le_of_ble_eq_true rfl⟩ hl.1 (Nat.le_of_ble_eq_true rfl) dX5_ahead_39 ⟨Nat.zero_le _, Nat.zero_le _⟩) ?_
        refine b_ifne (tgt := 52) S.1 S.2.1 dX5_ahead_42 (by decide) (fun c_42 => ?_) (fun c_42 => ?_)
        · obtain ⟨k_n9, hk_n9, ek_n9⟩ := nI_of2 (n := 100) (by decide) (Int32.not_lt.mpr c_42.1) c_42.2
          have hk_w2 := hk_w
          refine lv_aload_n S.1 S.2.1 dX5_ahead_52 rfl (lv_at hl 1 rfl) ?_
          refine lv_iload_n S.1 S.2.1 dX5_ahead_53 rfl (lv_at hl 2 rfl) ?_
          refine lv_eqi (y := nI k_pp) ek_pp ?_
          refine lv_iload_n S.1 S.2.1 dX5_ahead_54 rfl (lv_at hl 3 rfl) ?_
          refine lv_eqi (y := nI k_w) ek_w ?_
          refine go_S (run_S (As := [.int (nI k_pp), .int (nI k_w)]) (rest := [.ref (am 0)]) (n := 2) S hK (bl_P hP [] rfl) (bl_D hD [] rfl rfl) (c_X5_potterAt l E k_pp k_w ) gS_X5_82 (by decide +kernel) rfl ⟨rfl, rfl⟩ ⟨Nat.le_of_ble_eq_true rfl, Nat.le_of_ble_eq_true rfl⟩ hl.1 (Nat.le_of_ble_eq_true rfl) dX5_ahead_55 ⟨Nat.zero_le _, Nat.zero_le _⟩) ?_
          refine lv_iload_n S.1 S.2.1 dX5_ahead_58 rfl (lv_at hl 4 rfl) ?_
          refine lv_eqi (y := nI k_n9) ek_n9 ?_
          refine go_I (run_V (As := [.int (nI (21 + 7 * k_pp + k_w)), .int (nI k_n9)]) (rest := []) (n := 2) S hK (bl_P hP [0, 1, 3] rfl) (bl_D hD [0, 1, 3] rfl rfl) (c_X5_behind l E am q r x (21 + 7 * k_pp + k_w) k_n9 (by omega) (by omega) hR) gV_X5_168 (by decide +kernel) rfl ⟨rfl, rfl⟩ ⟨Nat.le_of_ble_eq_true rfl, Nat.le_of_ble_eq_true rfl⟩ (ci := 5) (q0 := 0) rfl rfl hl.1 (Nat.le_of_ble_eq_true rfl) dX5_ahead_59 ⟨Nat.zero_le _, Nat.zero_le _⟩) hP hD hS [0, 1, 3] rfl (had_cons rfl (had_cons rfl (had_cons cell_ad rfl))) (Bs' := [[mObj am q], [(am 1, .inl (E.2.1, 77, .inl (sg r 77)))], [(am 4, .inl (E.2.1, 8, .inl (sg f 8)))], [(am 3, .inl (E.2.1, 77, .inl (sg r 77)))]]) rfl (fun H locs hP hD hS => ?_)
          exact retIx S hr hlk r (by have e9 : rAhead r pp w n9 = .inr (r, daysF r k_n9 (21 + 7 * k_pp + k_w)) := (by unfold rAhead; rw [if_pos c_27, if_pos (Or.inr c_12), if_pos c_42]; (try rw [ek_w]); (try rw [ek_pp]); (try rw [ek_n9]); (try rw [tN_nI (k := k_w) (by omega)]); (try rw [tN_nI (k := k_pp) (by omega)]); (try rw [tN_nI (k := k_n9) (by omega)]); try with_reducible rfl); rw [e9, fndM_inr]; exact hP) hS (by have e9 : rAhead r pp w n9 = .inr (r, daysF r k_n9 (21 + 7 * k_pp + k_w)) := (by unfold rAhead; rw [if_pos c_27, if_pos (Or.inr c_12), if_pos c_42]; (try rw [ek_w]); (try rw [ek_pp]); (try rw [ek_n9]); (try rw [tN_nI (k := k_w) (by omega)]); (try rw [tN_nI (k := k_pp) (by omega)]); (try rw [tN_nI (k := k_n9) (by omega)]); try with_reducible rfl); rw [e9, ansR_inr]) dX5_ahead_62
        · refine lv_aload_n S.1 S.2.1 dX5_ahead_45 rfl (lv_at hl 1 rfl) ?_
          refine lv_ldc (v := (-1000001)) S.1 S.2.1 S.2.2.2.1 (S.2.2.2.2 _ (List.mem_cons_of_mem _ kk_X5_60)) dX5_ahead_46 ?_
          refine go_I (run_V (As := [.int (-1000001)]) (rest := []) (n := 1) S hK (bl_P hP [0, 2] rfl) (bl_D hD [0, 2] rfl rfl) (c_X5_finding l E am q f (-1000001) 0 (by decide) (by decide)) gV_X5_66 (by decide +kernel) rfl ⟨rfl, rfl⟩ ⟨Nat.le_of_ble_eq_true rfl, Nat.le_of_ble_eq_true rfl⟩ (ci := 5) (q0 := 0) rfl rfl hl.1 (Nat.le_of_ble_eq_true rfl) dX5_ahead_48 ⟨Nat.zero_le _, Nat.zero_le _⟩) hP hD hS [0, 2] rfl (had_cons rfl (had_cons cell_ad rfl)) (Bs' := [[mObj am q], [(am 1, .inl (E.2.1, 77, .inl (sg r 77)))], [(am 4, .inl (E.2.1, 8, .inl (sg (findM f 0) 8)))], [(am 3, .inl (E.2.1, 77, .inl (sg x 77)))]]) rfl (fun H locs hP hD hS => ?_)
          obtain ⟨r_48_5, er_48_5⟩ : ∃ z : Row, z = findM f 0 := ⟨_, rfl⟩
          rw [← er_48_5] at hP hD
          exact retIx S hr hlk x (by have e9 : rAhead r pp w n9 = .inl 0 := (by unfold rAhead; rw [if_pos c_27, if_pos (Or.inr c_12), if_neg c_42]); rw [er_48_5] at hP; rw [e9, fndM_inl]; exact hP) hS (by have e9 : rAhead r pp w n9 = .inl 0 := (by unfold rAhead; rw [if_pos c_27, if_pos (Or.inr c_12), if_neg c_42]); rw [e9]; decide) dX5_ahead_51
set_option maxHeartbeats 800000 in
set_option maxRecDepth 100000 in
theorem c_X5_sold (l : Launch) (E : EV) (am : Nat → Nat) (q r f x : Row) (n9 : Int32) (hR : RI r) : Met l yX5_sold (wq yX5_sold cX5_sold 2 (some .int)) ({ frames := 8, cells := 0, slots := 0, locals := 171 }) (preB E [.ref (am 0), .int n9] [[mObj am q], [(am 1, .inl (E.2.1, 77, .inl (sg r 77)))], [(am 4, .inl (E.2.1, 8, .inl (sg f 8)))], [(am 3, .inl (E.2.1, 77, .inl (sg x 77)))]]) (qIx E [[mObj am q], [(am 1, .inl (E.2.1, 77, .inl (sg r 77)))], [(am 4, .inl (E.2.1, 8, .inl (sg f 8)))], [(am 3, .inl (E.2.1, 77, .inl (sg x 77)))]] (fun u9 => [[mObj am q], [(am 1, .inl (E.2.1, 77, .inl (sg r 77)))], [(am 4, .inl (E.2.1, 8, .inl (sg (fndM f (rSold r n9)) 8)))], [(am 3, .inl (E.2.1, 77, .inl (sg u9 77)))]]) (ansR (rSold r n9))) 0 0 (inB [[mObj am q], [(am 1, .inl (E.2.1, 77, .inl (sg r 77)))], [(am 4, .inl (E.2.1, 8, .inl (sg f 8)))], [(am 3, .inl (E.2.1, 77, .inl (sg x 77)))]]) := by
  refine M_mk RX5 (by decide) rfl (Nat.le_of_ble_eq_true rfl) ?_
  intro p e s m below meth c S hr hlk hK hP hD hS ls hl
  have hl : lv_has ls 2 [(0, .ref (am 0)), (1, .int n9)] := hl
  obtain ⟨n, d, hn, hn8, hd, hd5, ho, hso, hli, hsp, hpt⟩ := id hR
  obtain ⟨H, hH⟩ : ∃ z, z = s.heap := ⟨_, rfl⟩
  obtain ⟨locs, hlocs⟩ : ∃ z : List Loc, z = [] := ⟨_, rfl⟩
  have hP : PE E [[mObj am q], [(am 1, .inl (E.2.1, 77, .inl (sg r 77)))], [(am 4, .inl (E.2.1, 8, .inl (sg f 8)))], [(am 3, .inl (E.2.1, 77, .inl (sg x 77)))]] H := by rw [hH]; exact hP
  have hS : va_S (inB [[mObj am q], [(am 1, .inl (E.2.1, 77, .inl (sg r 77)))], [(am 4, .inl (E.2.1, 8, .inl (sg f 8)))], [(am 3, .inl (E.2.1, 77, .inl (sg x 77)))]]) s.heap H locs := by rw [hH, hlocs]; exact hS
  show W p l e ({ frames := 8, cells := 0, slots := 0, locals := 171 }) s m ([.ref (am 0), .int n9] : List Value).toArray below meth c s.heap [] 0 0 _ _
  suffices hgo : W p l e ({ frames := 8, cells := 0, slots := 0, locals := 171 }) s m ([.ref (am 0), .int n9] : List Value).toArray below meth c H locs 0 0 (MQ below (qIx E [[mObj am q], [(am 1, .inl (E.2.1, 77, .inl (sg r 77)))], [(am 4, .inl (E.2.1, 8, .inl (sg f 8)))], [(am 3, .inl (E.2.1, 77, .inl (sg x 77)))]] (fun u9 => [[mObj am q], [(am 1, .inl (E.2.1, 77, .inl (sg r 77)))], [(am 4, .inl (E.2.1, 8, .inl (sg (fndM f (rSold r n9)) 8)))], [(am 3, .inl (E.2.1, 77, .inl (sg u9 77)))]]) (ansR (rSold r n9))) ([.ref (am 0), .int n9] : List Value).toArray s 0 0 (inB [[mObj am q], [(am 1, .inl (E.2.1, 77, .inl (sg r 77)))], [(am 4, .inl (E.2.1, 8, .inl (sg f 8)))], [(am 3, .inl (E.2.1, 77, .inl (sg x 77)))]])) (F0 m 0 ls []) by rw [hH, hlocs] at hgo; exact hgo
  clear hH hlocs
  refine lv_iload_n S.1 S.2.1 dX5_sold_0 rfl (lv_at hl 1 rfl) ?_
  refine lv_iconst (v := 0) S.1 S.2.1 dX5_sold_1 (by decide) ?_
  refine lv_bipush (v := 100) S.1 S.2.1 dX5_sold_2 (by decide) ?_
  refine go_S (run_S (As := [.int n9, .int 0, .int 100]) (rest := []) (n := 3) S hK (bl_P hP [] rfl) (bl_D hD [] rfl rfl) (c_X5_within l E n9 0 100 ) gS_X5_70 (by decide +kernel) rfl ⟨rfl, rfl⟩ ⟨Nat.le_of_ble_eq_true rfl, Nat.le_of_ble_eq_true rfl⟩ hl.1 (Nat.le_of_ble_eq_true rfl) dX5_sold_4 ⟨Nat.zero_le _, Nat.zero_le _⟩) ?_
  refine b_ifeq (tgt := 19) S.1 S.2.1 dX5_sold_7 (by decide) (fun c_7 => ?_) (fun c_7 => ?_)
  · refine lv_aload_n S.1 S.2.1 dX5_sold_19 rfl (lv_at hl 0 rfl) ?_
    refine lv_ldc (v := (-1000001)) S.1 S.2.1 S.2.2.2.1 (S.2.2.2.2 _ (List.mem_cons_of_mem _ kk_X5_60)) dX5_sold_20 ?_
    refine go_I (run_V (As := [.int (-1000001)]) (rest := []) (n := 1) S hK (bl_P hP [0, 2] rfl) (bl_D hD [0, 2] rfl rfl) (c_X5_finding l E am q f (-1000001) 0 (by decide) (by decide)) gV_X5_66 (by decide +kernel) rfl ⟨rfl, rfl⟩ ⟨Nat.le_of_ble_eq_true rfl, Nat.le_of_ble_eq_true rfl⟩ (ci := 5) (q0 := 0) rfl rfl hl.1 (Nat.le_of_ble_eq_true rfl) dX5_sold_22 ⟨Nat.zero_le _, Nat.zero_le _⟩) hP hD hS [0, 2] rfl (had_cons rfl (had_cons cell_ad rfl)) (Bs' := [[mObj am q], [(am 1, .inl (E.2.1, 77, .inl (sg r 77)))], [(am 4, .inl (E.2.1, 8, .inl (sg (findM f 0) 8)))], [(am 3, .inl (E.2.1, 77, .inl (sg x 77)))]]) rfl (fun H locs hP hD hS => ?_)
    obtain ⟨r_22, er_22⟩ : ∃ z : Row, z = findM f 0 := ⟨_, rfl⟩
    rw [← er_22] at hP hD
    exact retIx S hr hlk x (by have e9 : rSold r n9 = .inl 0 := (by unfold rSold; rw [if_neg c_7]); rw [er_22] at hP; rw [e9, fndM_inl]; exact hP) hS (by have e9 : rSold r n9 = .inl 0 := (by unfold rSold; rw [if_neg c_7]); rw [e9]; decide) dX5_sold_25
  · obtain ⟨k_n9, hk_n9, ek_n9⟩ := nI_of2 (n := 100) (by decide) (Int32.not_lt.mpr c_7.1) c_7.2
    refine lv_aload_n S.1 S.2.1 dX5_sold_10 rfl (lv_at hl 0 rfl) ?_
    refine lv_iconst (v := 4) S.1 S.2.1 dX5_sold_11 (by decide) ?_
    refine lv_iload_n S.1 S.2.1 dX5_sold_12 rfl (lv_at hl 1 rfl) ?_
    refine lv_eqi (y := nI k_n9) ek_n9 ?_
    refine go_I (run_V (As := [.int 4, .int (nI k_n9)]) (rest := []) (n := 2) S hK (bl_P hP [0, 1, 3] rfl) (bl_D hD [0, 1, 3] rfl rfl) (c_X5_behind l E am q r x 4 k_n9 (by omega) (by omega) hR) gV_X5_168 (by decide +kernel) rfl ⟨rfl, rfl⟩ ⟨Nat.le_of_ble_eq_true rfl, Nat.le_of_ble_eq_true rfl⟩ (ci := 5) (q0 := 0) rfl rfl hl.1 (Nat.le_of_ble_eq_true rfl) dX5_sold_13 ⟨Nat.zero_le _, Nat.zero_le _⟩) hP hD hS [0, 1, 3] rfl (had_cons rfl (had_cons rfl (had_cons cell_ad rfl))) (Bs' := [[mObj am q], [(am 1, .inl (E.2.1, 77, .inl (sg r 77)))], [(am 4, .inl (E.2.1, 8, .inl (sg f 8)))], [(am 3, .inl (E.2.1, 77, .inl (sg r 77)))]]) rfl (fun H locs hP hD hS => ?_)
    refine lv_goto (tgt := 25) S.1 S.2.1 dX5_sold_16 (by decide) ?_
    exact retIx S hr hlk r (by have e9 : rSold r n9 = .inr (r, daysF r k_n9 4) := (by unfold rSold; rw [if_pos c_7]; (try rw [ek_n9]); (try rw [tN_nI (k := k_n9) (by omega)]); try with_reducible rfl); rw [e9, fndM_inr]; exact hP) hS (by have e9 : rSold r n9 = .inr (r, daysF r k_n9 4) := (by unfold rSold; rw [if_pos c_7]; (try rw [ek_n9]); (try rw [tN_nI (k := k_n9) (by omega)]); try with_reducible rfl); rw [e9, ansR_inr]) dX5_sold_25
set_option maxHeartbeats 800000 in
set_option maxRecDepth 100000 in
theorem c_X5_when (l : Launch) (E : EV) (am : Nat → Nat) (q r f x : Row) (pp v : Int32) (hR : RI r) : Met l yX5_when (wq yX5_when cX5_when 3 (some .int)) ({ frames := 7, cells := 0, slots := 0, locals := 150 }) (preB E [.ref (am 0), .int pp, .int v] [[mObj am q], [(am 1, .inl (E.2.1, 77, .inl (sg r 77)))], [(am 4, .inl (E.2.1, 8, .inl (sg f 8)))], [(am 3, .inl (E.2.1, 77, .inl (sg x 77)))]]) (qIx E [[mObj am q], [(am 1, .inl (E.2.1, 77, .inl (sg r 77)))], [(am 4, .inl (E.2.1, 8, .inl (sg f 8)))], [(am 3, .inl (E.2.1, 77, .inl (sg x 77)))]] (fun u9 => [[mObj am q], [(am 1, .inl (E.2.1, 77, .inl (sg r 77)))], [(am 4, .inl (E.2.1, 8, .inl (sg (fndM f (rWhen r pp v)) 8)))], [(am 3, .inl (E.2.1, 77, .inl (sg u9 77)))]]) (ansR (rWhen r pp v))) 0 0 (inB [[mObj am q], [(am 1, .inl (E.2.1, 77, .inl (sg r 77)))], [(am 4, .inl (E.2.1, 8, .inl (sg f 8)))], [(am 3, .inl (E.2.1, 77, .inl (sg x 77)))]]) := by
  refine M_mk RX5 (by decide) rfl (Nat.le_of_ble_eq_true rfl) ?_
  intro p e s m below meth c S hr hlk hK hP hD hS ls hl
  have hl : lv_has ls 3 [(0, .ref (am 0)), (1, .int pp), (2, .int v)] := hl
  obtain ⟨n, d, hn, hn8, hd, hd5, ho, hso, hli, hsp, hpt⟩ := id hR
  obtain ⟨H, hH⟩ : ∃ z, z = s.heap := ⟨_, rfl⟩
  obtain ⟨locs, hlocs⟩ : ∃ z : List Loc, z = [] := ⟨_, rfl⟩
  have hP : PE E [[mObj am q], [(am 1, .inl (E.2.1, 77, .inl (sg r 77)))], [(am 4, .inl (E.2.1, 8, .inl (sg f 8)))], [(am 3, .inl (E.2.1, 77, .inl (sg x 77)))]] H := by rw [hH]; exact hP
  have hS : va_S (inB [[mObj am q], [(am 1, .inl (E.2.1, 77, .inl (sg r 77)))], [(am 4, .inl (E.2.1, 8, .inl (sg f 8)))], [(am 3, .inl (E.2.1, 77, .inl (sg x 77)))]]) s.heap H locs := by rw [hH, hlocs]; exact hS
  show W p l e ({ frames := 7, cells := 0, slots := 0, locals := 150 }) s m ([.ref (am 0), .int pp, .int v] : List Value).toArray below meth c s.heap [] 0 0 _ _
  suffices hgo : W p l e ({ frames := 7, cells := 0, slots := 0, locals := 150 }) s m ([.ref (am 0), .int pp, .int v] : List Value).toArray below meth c H locs 0 0 (MQ below (qIx E [[mObj am q], [(am 1, .inl (E.2.1, 77, .inl (sg r 77)))], [(am 4, .inl (E.2.1, 8, .inl (sg f 8)))], [(am 3, .inl (E.2.1, 77, .inl (sg x 77)))]] (fun u9 => [[mObj am q], [(am 1, .inl (E.2.1, 77, .inl (sg r 77)))], [(am 4, .inl (E.2.1, 8, .inl (sg (fndM f (rWhen r pp v)) 8)))], [(am 3, .inl (E.2.1, 77, .inl (sg u9 77)))]]) (ansR (rWhen r pp v))) ([.ref (am 0), .int pp, .int v] : List Value).toArray s 0 0 (inB [[mObj am q], [(am 1, .inl (E.2.1, 77, .inl (sg r 77)))], [(am 4, .inl (E.2.1, 8, .inl (sg f 8)))], [(am 3, .inl (E.2.1, 77, .inl (sg x 77)))]])) (F0 m 0 ls []) by rw [hH, hlocs] at hgo; exact hgo
  clear hH hlocs
  refine lv_aload_n S.1 S.2.1 dX5_when_0 rfl (lv_at hl 0 rfl) ?_
  refine lv_iload_n S.1 S.2.1 dX5_when_1 rfl (lv_at hl 1 rfl) ?_
  refine go_S (run_V (As := [.int pp]) (rest := []) (n := 1) S hK (bl_P hP [0, 1] rfl) (bl_D hD [0, 1] rfl rfl) (c_X5_isPotter l E am q r pp n hn hn8) gV_X5_122 (by decide +kernel) rfl ⟨rfl, rfl⟩ ⟨Nat.le_of_ble_eq_true rfl, Nat.le_of_ble_eq_true rfl⟩ (ci := 5) (q0 := 0) rfl rfl hl.1 (Nat.le_of_ble_eq_true rfl) dX5_when_2 ⟨Nat.zero_le _, Nat.zero_le _⟩) ?_
  refine b_ifeq (tgt := 36) S.1 S.2.1 dX5_when_5 (by decide) (fun c_5 => ?_) (fun c_5 => ?_)
  · refine lv_aload_n S.1 S.2.1 dX5_when_36 rfl (lv_at hl 0 rfl) ?_
    refine lv_ldc (v := (-1000001)) S.1 S.2.1 S.2.2.2.1 (S.2.2.2.2 _ (List.mem_cons_of_mem _ kk_X5_60)) dX5_when_37 ?_
    refine go_I (run_V (As := [.int (-1000001)]) (rest := []) (n := 1) S hK (bl_P hP [0, 2] rfl) (bl_D hD [0, 2] rfl rfl) (c_X5_finding l E am q f (-1000001) 0 (by decide) (by decide)) gV_X5_66 (by decide +kernel) rfl ⟨rfl, rfl⟩ ⟨Nat.le_of_ble_eq_true rfl, Nat.le_of_ble_eq_true rfl⟩ (ci := 5) (q0 := 0) rfl rfl hl.1 (Nat.le_of_ble_eq_true rfl) dX5_when_39 ⟨Nat.zero_le _, Nat.zero_le _⟩) hP hD hS [0, 2] rfl (had_cons rfl (had_cons cell_ad rfl)) (Bs' := [[mObj am q], [(am 1, .inl (E.2.1, 77, .inl (sg r 77)))], [(am 4, .inl (E.2.1, 8, .inl (sg (findM f 0) 8)))], [(am 3, .inl (E.2.1, 77, .inl (sg x 77)))]]) rfl (fun H locs hP hD hS => ?_)
    obtain ⟨r_39, er_39⟩ : ∃ z : Row, z = findM f 0 := ⟨_, rfl⟩
    rw [← er_39] at hP hD
    exact retIx S hr hlk x (by have e9 : rWhen r pp v = .inl 0 := (by unfold rWhen; rw [if_neg c_5]); rw [er_39] at hP; rw [e9, fndM_inl]; exact hP) hS (by have e9 : rWhen r pp v = .inl 0 := (by unfold rWhen; rw [if_neg c_5]); rw [e9]; decide) dX5_when_42
  · obtain ⟨k_pp, hk_pp, ek_pp⟩ := pot_nat c_5 hn (by omega)
    refine lv_iload_n S.1 S.2.1 dX5_when_8 rfl (lv_at hl 2 rfl) ?_
    refine lv_iconst (v := 0) S.1 S.2.1 dX5_when_9 (by decide) ?_
    refine lv_sipush (v := 9999) S.1 S.2.1 dX5_when_10 (by decide) ?_
    refine go_S (run_S (As := [.int v, .int 0, .int 9999]) (rest := []) (n := 3) S hK (bl_P hP [] rfl) (bl_D hD [] rfl rfl) (c_X5_within l E v 0 9999 ) gS_X5_70 (by decide +kernel) rfl ⟨rfl, rfl⟩ ⟨Nat.le_of_ble_eq_true rfl, Nat.le_of_ble_eq_true rfl⟩ hl.1 (Nat.le_of_ble_eq_true rfl) dX5_when_13 ⟨Nat.zero_le _, Nat.zero_le _⟩) ?_
    refine b_ifeq (tgt := 36) S.1 S.2.1 dX5_when_16 (by decide) (fun c_16 => ?_) (fun c_16 => ?_)
    · refine lv_aload_n S.1 S.2.1 dX5_when_36 rfl (lv_at hl 0 rfl) ?_
      refine lv_ldc (v := (-1000001)) S.1 S.2.1 S.2.2.2.1 (S.2.2.2.2 _ (List.mem_cons_of_mem _ kk_X5_60)) dX5_when_37 ?_
      refine go_I (run_V (As := [.int (-1000001)]) (rest := []) (n := 1) S hK (bl_P hP [0, 2] rfl) (bl_D hD [0, 2] rfl rfl) (c_X5_finding l E am q f (-1000001) 0 (by decide) (by decide)) gV_X5_66 (by decide +kernel) rfl ⟨rfl, rfl⟩ ⟨Nat.le_of_ble_eq_true rfl, Nat.le_of_ble_eq_true rfl⟩ (ci := 5) (q0 := 0) rfl rfl hl.1 (Nat.le_of_ble_eq_true rfl) dX5_when_39 ⟨Nat.zero_le _, Nat.zero_le _⟩) hP hD hS [0, 2] rfl (had_cons rfl (had_cons cell_ad rfl)) (Bs' := [[mObj am q], [(am 1, .inl (E.2.1, 77, .inl (sg r 77)))], [(am 4, .inl (E.2.1, 8, .inl (sg (findM f 0) 8)))], [(am 3, .inl (E.2.1, 77, .inl (sg x 77)))]]) rfl (fun H locs hP hD hS => ?_)
      obtain ⟨r_39_1, er_39_1⟩ : ∃ z : Row, z = findM f 0 := ⟨_, rfl⟩
      rw [← er_39_1] at hP hD
      exact retIx S hr hlk x (by have e9 : rWhen r pp v = .inl 0 := (by unfold rWhen; rw [if_pos c_5, if_neg c_16]); rw [er_39_1] at hP; rw [e9, fndM_inl]; exact hP) hS (by have e9 : rWhen r pp v = .inl 0 := (by unfold rWhen; rw [if_pos c_5, if_neg c_16]); rw [e9]; decide) dX5_when_42
    · obtain ⟨k_v, hk_v, ek_v⟩ := nI_of2 (n := 9999) (by decide) (Int32.not_lt.mpr c_16.1) c_16.2
      refine lv_aload_n S.1 S.2.1 dX5_when_19 rfl (lv_at hl 0 rfl) ?_
      refine lv_aload_n S.1 S.2.1 dX5_when_20 rfl (lv_at hl 0 rfl) ?_
      refine lv_iload_n S.1 S.2.1 dX5_when_21 rfl (lv_at hl 1 rfl) ?_
      refine lv_eqi (y := nI k_pp) ek_pp ?_
      refine lv_iconst (v := 5) S.1 S.2.1 dX5_when_22 (by decide) ?_
      refine go_S (run_S (As := [.int (nI k_pp), .int 5]) (rest := [.ref (am 0), .ref (am 0)]) (n := 2) S hK (bl_P hP [] rfl) (bl_D hD [] rfl rfl) (c_X5_potterAt l E k_pp 5 ) gS_X5_82 (by decide +kernel) rfl ⟨rfl, rfl⟩ ⟨Nat.le_of_ble_eq_true rfl, Nat.le_of_ble_eq_true rfl⟩ hl.1 (Nat.le_of_ble_eq_true rfl) dX5_when_23 ⟨Nat.zero_le _, Nat.zero_le _⟩) ?_
      refine lv_iload_n S.1 S.2.1 dX5_when_26 rfl (lv_at hl 2 rfl) ?_
      refine lv_eqi (y := nI k_v) ek_v ?_
      refine go_I (run_V (As := [.int (nI (21 + 7 * k_pp + 5)), .int (nI k_v)]) (rest := [.ref (am 0)]) (n := 2) S hK (bl_P hP [0, 1, 3] rfl) (bl_D hD [0, 1, 3] rfl rfl) (c_X5_daysTo l E am q r x (21 + 7 * k_pp + 5) (nI k_v) (by omega) hR) gV_X5_171 (by decide +kernel) rfl ⟨rfl, rfl⟩ ⟨Nat.le_of_ble_eq_true rfl, Nat.le_of_ble_eq_true rfl⟩ (ci := 5) (q0 := 0) rfl rfl hl.1 (Nat.le_of_ble_eq_true rfl) dX5_when_27 ⟨Nat.zero_le _, Nat.zero_le _⟩) hP hD hS [0, 1, 3] rfl (had_cons rfl (had_cons rfl (had_cons cell_ad rfl))) (Bs' := [[mObj am q], [(am 1, .inl (E.2.1, 77, .inl (sg r 77)))], [(am 4, .inl (E.2.1, 8, .inl (sg f 8)))], [(am 3, .inl (E.2.1, 77, .inl (sg r 77)))]]) rfl (fun H locs hP hD hS => ?_)
      refine go_I (run_V (As := [.int (dtV (fun k => decide ((nI k_v) ≤ daysF r k (21 + 7 * k_pp + 5))))]) (rest := []) (n := 1) S hK (bl_P hP [0, 2] rfl) (bl_D hD [0, 2] rfl rfl) (c_X5_orNone l E am q f (dtV (fun k => decide ((nI k_v) ≤ daysF r k (21 + 7 * k_pp + 5)))) ) gV_X5_174 (by decide +kernel) rfl ⟨rfl, rfl⟩ ⟨Nat.le_of_ble_eq_true rfl, Nat.le_of_ble_eq_true rfl⟩ (ci := 5) (q0 := 0) rfl rfl hl.1 (Nat.le_of_ble_eq_true rfl) dX5_when_30 ⟨Nat.zero_le _, Nat.zero_le _⟩) hP hD hS [0, 2] rfl (had_cons rfl (had_cons cell_ad rfl)) (Bs' := [[mObj am q], [(am 1, .inl (E.2.1, 77, .inl (sg r 77)))], [(am 4, .inl (E.2.1, 8, .inl (sg (orNF f (dtV (fun k => decide ((nI k_v) ≤ daysF r k (21 + 7 * k_pp + 5))))) 8)))], [(am 3, .inl (E.2.1, 77, .inl (sg r 77)))]]) rfl (fun H locs hP hD hS => ?_)
      obtain ⟨r_30, er_30⟩ : ∃ z : Row, z = orNF f (dtV (fun k => decide ((nI k_v) ≤ daysF r k (21 + 7 * k_pp + 5)))) := ⟨_, rfl⟩
      rw [← er_30] at hP hD
      refine lv_goto (tgt := 42) S.1 S.2.1 dX5_when_33 (by decide) ?_
      exact retIx S hr hlk r (by have e9 : rWhen r pp v = fstR r (fun k => decide (nI k_v ≤ daysF r k (21 + 7 * k_pp + 5))) 201 := (by unfold rWhen; rw [if_pos c_5, if_pos c_16]; (try rw [ek_pp]); (try rw [ek_v]); (try rw [tN_nI (k := k_pp) (by omega)]); (try rw [tN_nI (k := k_v) (by omega)]); try rfl); rw [er_30] at hP; rw [e9, fst_fnd]; exact hP) hS (by have e9 : rWhen r pp v = fstR r (fun k => decide (nI k_v ≤ daysF r k (21 + 7 * k_pp + 5))) 201 := (by unfold rWhen; rw [if_pos c_5, if_pos c_16]; (try rw [ek_pp]); (try rw [ek_v]); (try rw [tN_nI (k := k_pp) (by omega)]); (try rw [tN_nI (k := k_v) (by omega)]); try rfl); rw [e9, fst_ans]) dX5_when_42
set_option maxHeartbeats 800000 in
set_option maxRecDepth 100000 in
theorem c_X5_cracks (l : Launch) (E : EV) (am : Nat → Nat) (q r f x : Row) (pp : Int32) (hR : RI r) : Met l yX5_cracks (wq yX5_cracks cX5_cracks 2 (some .int)) ({ frames := 7, cells := 0, slots := 0, locals := 150 }) (preB E [.ref (am 0), .int pp] [[mObj am q], [(am 1, .inl (E.2.1, 77, .inl (sg r 77)))], [(am 4, .inl (E.2.1, 8, .inl (sg f 8)))], [(am 3, .inl (E.2.1, 77, .inl (sg x 77)))]]) (qIx E [[mObj am q], [(am 1, .inl (E.2.1, 77, .inl (sg r 77)))], [(am 4, .inl (E.2.1, 8, .inl (sg f 8)))], [(am 3, .inl (E.2.1, 77, .inl (sg x 77)))]] (fun u9 => [[mObj am q], [(am 1, .inl (E.2.1, 77, .inl (sg r 77)))], [(am 4, .inl (E.2.1, 8, .inl (sg (fndM f (rCracks r pp)) 8)))], [(am 3, .inl (E.2.1, 77, .inl (sg u9 77)))]]) (ansR (rCracks r pp))) 0 0 (inB [[mObj am q], [(am 1, .inl (E.2.1, 77, .inl (sg r 77)))], [(am 4, .inl (E.2.1, 8, .inl (sg f 8)))], [(am 3, .inl (E.2.1, 77, .inl (sg x 77)))]]) := by
  refine M_mk RX5 (by decide) rfl (Nat.le_of_ble_eq_true rfl) ?_
  intro p e s m below meth c S hr hlk hK hP hD hS ls hl
  have hl : lv_has ls 2 [(0, .ref (am 0)), (1, .int pp)] := hl
  obtain ⟨n, d, hn, hn8, hd, hd5, ho, hso, hli, hsp, hpt⟩ := id hR
  obtain ⟨H, hH⟩ : ∃ z, z = s.heap := ⟨_, rfl⟩
  obtain ⟨locs, hlocs⟩ : ∃ z : List Loc, z = [] := ⟨_, rfl⟩
  have hP : PE E [[mObj am q], [(am 1, .inl (E.2.1, 77, .inl (sg r 77)))], [(am 4, .inl (E.2.1, 8, .inl (sg f 8)))], [(am 3, .inl (E.2.1, 77, .inl (sg x 77)))]] H := by rw [hH]; exact hP
  have hS : va_S (inB [[mObj am q], [(am 1, .inl (E.2.1, 77, .inl (sg r 77)))], [(am 4, .inl (E.2.1, 8, .inl (sg f 8)))], [(am 3, .inl (E.2.1, 77, .inl (sg x 77)))]]) s.heap H locs := by rw [hH, hlocs]; exact hS
  show W p l e ({ frames := 7, cells := 0, slots := 0, locals := 150 }) s m ([.ref (am 0), .int pp] : List Value).toArray below meth c s.heap [] 0 0 _ _
  suffices hgo : W p l e ({ frames := 7, cells := 0, slots := 0, locals := 150 }) s m ([.ref (am 0), .int pp] : List Value).toArray below meth c H locs 0 0 (MQ below (qIx E [[mObj am q], [(am 1, .inl (E.2.1, 77, .inl (sg r 77)))], [(am 4, .inl (E.2.1, 8, .inl (sg f 8)))], [(am 3, .inl (E.2.1, 77, .inl (sg x 77)))]] (fun u9 => [[mObj am q], [(am 1, .inl (E.2.1, 77, .inl (sg r 77)))], [(am 4, .inl (E.2.1, 8, .inl (sg (fndM f (rCracks r pp)) 8)))], [(am 3, .inl (E.2.1, 77, .inl (sg u9 77)))]]) (ansR (rCracks r pp))) ([.ref (am 0), .int pp] : List Value).toArray s 0 0 (inB [[mObj am q], [(am 1, .inl (E.2.1, 77, .inl (sg r 77)))], [(am 4, .inl (E.2.1, 8, .inl (sg f 8)))], [(am 3, .inl (E.2.1, 77, .inl (sg x 77)))]])) (F0 m 0 ls []) by rw [hH, hlocs] at hgo; exact hgo
  clear hH hlocs
  refine lv_aload_n S.1 S.2.1 dX5_cracks_0 rfl (lv_at hl 0 rfl) ?_
  refine lv_iload_n S.1 S.2.1 dX5_cracks_1 rfl (lv_at hl 1 rfl) ?_
  refine go_S (run_V (As := [.int pp]) (rest := []) (n := 1) S hK (bl_P hP [0, 1] rfl) (bl_D hD [0, 1] rfl rfl) (c_X5_isPotter l E am q r pp n hn hn8) gV_X5_122 (by decide +kernel) rfl ⟨rfl, rfl⟩ ⟨Nat.le_of_ble_eq_true rfl, Nat.le_of_ble_eq_true rfl⟩ (ci := 5) (q0 := 0) rfl rfl hl.1 (Nat.le_of_ble_eq_true rfl) dX5_cracks_2 ⟨Nat.zero_le _, Nat.zero_le _⟩) ?_
  refine b_ifeq (tgt := 34) S.1 S.2.1 dX5_cracks_5 (by decide) (fun c_5 => ?_) (fun c_5 => ?_)
  · refine lv_aload_n S.1 S.2.1 dX5_cracks_34 rfl (lv_at hl 0 rfl) ?_
    refine lv_ldc (v := (-1000001)) S.1 S.2.1 S.2.2.2.1 (S.2.2.2.2 _ (List.mem_cons_of_mem _ kk_X5_60)) dX5_cracks_35 ?_
    refine go_I (run_V (As := [.int (-1000001)]) (rest := []) (n := 1) S hK (bl_P hP [0, 2] rfl) (bl_D hD [0, 2] rfl rfl) (c_X5_finding l E am q f (-1000001) 0 (by decide) (by decide)) gV_X5_66 (by decide +kernel) rfl ⟨rfl, rfl⟩ ⟨Nat.le_of_ble_eq_true rfl, Nat.le_of_ble_eq_true rfl⟩ (ci := 5) (q0 := 0) rfl rfl hl.1 (Nat.le_of_ble_eq_true rfl) dX5_cracks_37 ⟨Nat.zero_le _, Nat.zero_le _⟩) hP hD hS [0, 2] rfl (had_cons rfl (had_cons cell_ad rfl)) (Bs' := [[mObj am q], [(am 1, .inl (E.2.1, 77, .inl (sg r 77)))], [(am 4, .inl (E.2.1, 8, .inl (sg (findM f 0) 8)))], [(am 3, .inl (E.2.1, 77, .inl (sg x 77)))]]) rfl (fun H locs hP hD hS => ?_)
    obtain ⟨r_37, er_37⟩ : ∃ z : Row, z = findM f 0 := ⟨_, rfl⟩
    rw [← er_37] at hP hD
    exact retIx S hr hlk x (by have e9 : rCracks r pp = .inl 0 := (by unfold rCracks; rw [if_neg c_5]); rw [er_37] at hP; rw [e9, fndM_inl]; exact hP) hS (by have e9 : rCracks r pp = .inl 0 := (by unfold rCracks; rw [if_neg c_5]); rw [e9]; decide) dX5_cracks_40
  · obtain ⟨k_pp, hk_pp, ek_pp⟩ := pot_nat c_5 hn (by omega)
    refine lv_aload_n S.1 S.2.1 dX5_cracks_8 rfl (lv_at hl 0 rfl) ?_
    refine lv_aload_n S.1 S.2.1 dX5_cracks_9 rfl (lv_at hl 0 rfl) ?_
    refine lv_iload_n S.1 S.2.1 dX5_cracks_10 rfl (lv_at hl 1 rfl) ?_
    refine lv_eqi (y := nI k_pp) ek_pp ?_
    refine lv_bipush (v := 6) S.1 S.2.1 dX5_cracks_11 (by decide) ?_
    refine go_S (run_S (As := [.int (nI k_pp), .int 6]) (rest := [.ref (am 0), .ref (am 0)]) (n := 2) S hK (bl_P hP [] rfl) (bl_D hD [] rfl rfl) (c_X5_potterAt l E k_pp 6 ) gS_X5_82 (by decide +kernel) rfl ⟨rfl, rfl⟩ ⟨Nat.le_of_ble_eq_true rfl, Nat.le_of_ble_eq_true rfl⟩ hl.1 (Nat.le_of_ble_eq_true rfl) dX5_cracks_13 ⟨Nat.zero_le _, Nat.zero_le _⟩) ?_
    refine lv_aload_n S.1 S.2.1 dX5_cracks_16 rfl (lv_at hl 0 rfl) ?_
    refine lv_iload_n S.1 S.2.1 dX5_cracks_17 rfl (lv_at hl 1 rfl) ?_
    refine lv_eqi (y := nI k_pp) ek_pp ?_
    refine lv_bipush (v := 6) S.1 S.2.1 dX5_cracks_18 (by decide) ?_
    refine go_S (run_V (As := [.int (nI k_pp), .int 6]) (rest := [.int (nI (21 + 7 * k_pp + 6)), .ref (am 0), .ref (am 0)]) (n := 2) S hK (bl_P hP [0, 1] rfl) (bl_D hD [0, 1] rfl rfl) (c_X5_potterIs l E am q r k_pp 6 (by omega) (by omega)) gV_X5_92 (by decide +kernel) rfl ⟨rfl, rfl⟩ ⟨Nat.le_of_ble_eq_true rfl, Nat.le_of_ble_eq_true rfl⟩ (ci := 5) (q0 := 0) rfl rfl hl.1 (Nat.le_of_ble_eq_true rfl) dX5_cracks_20 ⟨Nat.zero_le _, Nat.zero_le _⟩) ?_
    refine lv_iconst (v := 1) S.1 S.2.1 dX5_cracks_23 (by decide) ?_
    refine lv_iadd S.1 S.2.1 dX5_cracks_24 ?_
    refine go_I (run_V (As := [.int (nI (21 + 7 * k_pp + 6)), .int ((r (21 + 7 * k_pp + 6)) + 1)]) (rest := [.ref (am 0)]) (n := 2) S hK (bl_P hP [0, 1, 3] rfl) (bl_D hD [0, 1, 3] rfl rfl) (c_X5_daysTo l E am q r x (21 + 7 * k_pp + 6) ((r (21 + 7 * k_pp + 6)) + 1) (by omega) hR) gV_X5_171 (by decide +kernel) rfl ⟨rfl, rfl⟩ ⟨Nat.le_of_ble_eq_true rfl, Nat.le_of_ble_eq_true rfl⟩ (ci := 5) (q0 := 0) rfl rfl hl.1 (Nat.le_of_ble_eq_true rfl) dX5_cracks_25 ⟨Nat.zero_le _, Nat.zero_le _⟩) hP hD hS [0, 1, 3] rfl (had_cons rfl (had_cons rfl (had_cons cell_ad rfl))) (Bs' := [[mObj am q], [(am 1, .inl (E.2.1, 77, .inl (sg r 77)))], [(am 4, .inl (E.2.1, 8, .inl (sg f 8)))], [(am 3, .inl (E.2.1, 77, .inl (sg r 77)))]]) rfl (fun H locs hP hD hS => ?_)
    refine go_I (run_V (As := [.int (dtV (fun k => decide (((r (21 + 7 * k_pp + 6)) + 1) ≤ daysF r k (21 + 7 * k_pp + 6))))]) (rest := []) (n := 1) S hK (bl_P hP [0, 2] rfl) (bl_D hD [0, 2] rfl rfl) (c_X5_orNone l E am q f (dtV (fun k => decide (((r (21 + 7 * k_pp + 6)) + 1) ≤ daysF r k (21 + 7 * k_pp + 6)))) ) gV_X5_174 (by decide +kernel) rfl ⟨rfl, rfl⟩ ⟨Nat.le_of_ble_eq_true rfl, Nat.le_of_ble_eq_true rfl⟩ (ci := 5) (q0 := 0) rfl rfl hl.1 (Nat.le_of_ble_eq_true rfl) dX5_cracks_28 ⟨Nat.zero_le _, Nat.zero_le _⟩) hP hD hS [0, 2] rfl (had_cons rfl (had_cons cell_ad rfl)) (Bs' := [[mObj am q], [(am 1, .inl (E.2.1, 77, .inl (sg r 77)))], [(am 4, .inl (E.2.1, 8, .inl (sg (orNF f (dtV (fun k => decide (((r (21 + 7 * k_pp + 6)) + 1) ≤ daysF r k (21 + 7 * k_pp + 6))))) 8)))], [(am 3, .inl (E.2.1, 77, .inl (sg r 77)))]]) rfl (fun H locs hP hD hS => ?_)
    obtain ⟨r_28, er_28⟩ : ∃ z : Row, z = orNF f (dtV (fun k => decide (((r (21 + 7 * k_pp + 6)) + 1) ≤ daysF r k (21 + 7 * k_pp + 6)))) := ⟨_, rfl⟩
    rw [← er_28] at hP hD
    refine lv_goto (tgt := 40) S.1 S.2.1 dX5_cracks_31 (by decide) ?_
    exact retIx S hr hlk r (by have e9 : rCracks r pp = fstR r (fun k => decide (r (21 + 7 * k_pp + 6) + 1 ≤ daysF r k (21 + 7 * k_pp + 6))) 201 := (by unfold rCracks; rw [if_pos c_5]; (try rw [ek_pp]); (try rw [tN_nI (k := k_pp) (by omega)]); try rfl); rw [er_28] at hP; rw [e9, fst_fnd]; exact hP) hS (by have e9 : rCracks r pp = fstR r (fun k => decide (r (21 + 7 * k_pp + 6) + 1 ≤ daysF r k (21 + 7 * k_pp + 6))) 201 := (by unfold rCracks; rw [if_pos c_5]; (try rw [ek_pp]); (try rw [tN_nI (k := k_pp) (by omega)]); try rfl); rw [e9, fst_ans]) dX5_cracks_40
set_option maxHeartbeats 800000 in
set_option maxRecDepth 100000 in
theorem c_X5_tinted (l : Launch) (E : EV) (am : Nat → Nat) (q r f x : Row) (pp w : Int32) (hR : RI r) : Met l yX5_tinted (wq yX5_tinted cX5_tinted 4 (some .int)) ({ frames := 6, cells := 0, slots := 0, locals := 127 }) (preB E [.ref (am 0), .int pp, .int w] [[mObj am q], [(am 1, .inl (E.2.1, 77, .inl (sg r 77)))], [(am 4, .inl (E.2.1, 8, .inl (sg f 8)))], [(am 3, .inl (E.2.1, 77, .inl (sg x 77)))]]) (qIx E [[mObj am q], [(am 1, .inl (E.2.1, 77, .inl (sg r 77)))], [(am 4, .inl (E.2.1, 8, .inl (sg f 8)))], [(am 3, .inl (E.2.1, 77, .inl (sg x 77)))]] (fun u9 => [[mObj am q], [(am 1, .inl (E.2.1, 77, .inl (sg r 77)))], [(am 4, .inl (E.2.1, 8, .inl (sg (fndM f (rTinted r pp w)) 8)))], [(am 3, .inl (E.2.1, 77, .inl (sg u9 77)))]]) (ansR (rTinted r pp w))) 0 0 (inB [[mObj am q], [(am 1, .inl (E.2.1, 77, .inl (sg r 77)))], [(am 4, .inl (E.2.1, 8, .inl (sg f 8)))], [(am 3, .inl (E.2.1, 77, .inl (sg x 77)))]]) := by
  refine M_mk RX5 (by decide) rfl (Nat.le_of_ble_eq_true rfl) ?_
  intro p e s m below meth c S hr hlk hK hP hD hS ls hl
  have hl : lv_has ls 4 [(0, .ref (am 0)), (1, .int pp), (2, .int w)] := hl
  obtain ⟨n, d, hn, hn8, hd, hd5, ho, hso, hli, hsp, hpt⟩ := id hR
  obtain ⟨H, hH⟩ : ∃ z, z = s.heap := ⟨_, rfl⟩
  obtain ⟨locs, hlocs⟩ : ∃ z : List Loc, z = [] := ⟨_, rfl⟩
  have hP : PE E [[mObj am q], [(am 1, .inl (E.2.1, 77, .inl (sg r 77)))], [(am 4, .inl (E.2.1, 8, .inl (sg f 8)))], [(am 3, .inl (E.2.1, 77, .inl (sg x 77)))]] H := by rw [hH]; exact hP
  have hS : va_S (inB [[mObj am q], [(am 1, .inl (E.2.1, 77, .inl (sg r 77)))], [(am 4, .inl (E.2.1, 8, .inl (sg f 8)))], [(am 3, .inl (E.2.1, 77, .inl (sg x 77)))]]) s.heap H locs := by rw [hH, hlocs]; exact hS
  show W p l e ({ frames := 6, cells := 0, slots := 0, locals := 127 }) s m ([.ref (am 0), .int pp, .int w] : List Value).toArray below meth c s.heap [] 0 0 _ _
  suffices hgo : W p l e ({ frames := 6, cells := 0, slots := 0, locals := 127 }) s m ([.ref (am 0), .int pp, .int w] : List Value).toArray below meth c H locs 0 0 (MQ below (qIx E [[mObj am q], [(am 1, .inl (E.2.1, 77, .inl (sg r 77)))], [(am 4, .inl (E.2.1, 8, .inl (sg f 8)))], [(am 3, .inl (E.2.1, 77, .inl (sg x 77)))]] (fun u9 => [[mObj am q], [(am 1, .inl (E.2.1, 77, .inl (sg r 77)))], [(am 4, .inl (E.2.1, 8, .inl (sg (fndM f (rTinted r pp w)) 8)))], [(am 3, .inl (E.2.1, 77, .inl (sg u9 77)))]]) (ansR (rTinted r pp w))) ([.ref (am 0), .int pp, .int w] : List Value).toArray s 0 0 (inB [[mObj am q], [(am 1, .inl (E.2.1, 77, .inl (sg r 77)))], [(am 4, .inl (E.2.1, 8, .inl (sg f 8)))], [(am 3, .inl (E.2.1, 77, .inl (sg x 77)))]])) (F0 m 0 ls []) by rw [hH, hlocs] at hgo; exact hgo
  clear hH hlocs
  refine lv_aload_n S.1 S.2.1 dX5_tinted_0 rfl (lv_at hl 0 rfl) ?_
  refine lv_iload_n S.1 S.2.1 dX5_tinted_1 rfl (lv_at hl 1 rfl) ?_
  refine go_S (run_V (As := [.int pp]) (rest := []) (n := 1) S hK (bl_P hP [0, 1] rfl) (bl_D hD [0, 1] rfl rfl) (c_X5_isPotter l E am q r pp n hn hn8) gV_X5_122 (by decide +kernel) rfl ⟨rfl, rfl⟩ ⟨Nat.le_of_ble_eq_true rfl, Nat.le_of_ble_eq_true rfl⟩ (ci := 5) (q0 := 0) rfl rfl hl.1 (Nat.le_of_ble_eq_true rfl) dX5_tinted_2 ⟨Nat.zero_le _, Nat.zero_le _⟩) ?_
  refine b_ifeq (tgt := 15) S.1 S.2.1 dX5_tinted_5 (by decide) (fun c_5 => ?_) (fun c_5 => ?_)
  · refine lv_aload_n S.1 S.2.1 dX5_tinted_15 rfl (lv_at hl 0 rfl) ?_
    refine lv_ldc (v := (-1000001)) S.1 S.2.1 S.2.2.2.1 (S.2.2.2.2 _ (List.mem_cons_of_mem _ kk_X5_60)) dX5_tinted_16 ?_
    refine go_I (run_V (As := [.int (-1000001)]) (rest := []) (n := 1) S hK (bl_P hP [0, 2] rfl) (bl_D hD [0, 2] rfl rfl) (c_X5_finding l E am q f (-1000001) 0 (by decide) (by decide)) gV_X5_66 (by decide +kernel) rfl ⟨rfl, rfl⟩ ⟨Nat.le_of_ble_eq_true rfl, Nat.le_of_ble_eq_true rfl⟩ (ci := 5) (q0 := 0) rfl rfl hl.1 (Nat.le_of_ble_eq_true rfl) dX5_tinted_18 ⟨Nat.zero_le _, Nat.zero_le _⟩) hP hD hS [0, 2] rfl (had_cons rfl (had_cons cell_ad rfl)) (Bs' := [[mObj am q], [(am 1, .inl (E.2.1, 77, .inl (sg r 77)))], [(am 4, .inl (E.2.1, 8, .inl (sg (findM f 0) 8)))], [(am 3, .inl (E.2.1, 77, .inl (sg x 77)))]]) rfl (fun H locs hP hD hS => ?_)
    obtain ⟨r_18, er_18⟩ : ∃ z : Row, z = findM f 0 := ⟨_, rfl⟩
    rw [← er_18] at hP hD
    exact retIx S hr hlk x (by have e9 : rTinted r pp w = .inl 0 := (by unfold rTinted; rw [if_neg c_5]); rw [er_18] at hP; rw [e9, fndM_inl]; exact hP) hS (by have e9 : rTinted r pp w = .inl 0 := (by unfold rTinted; rw [if_neg c_5]); rw [e9]; decide) dX5_tinted_21
  · obtain ⟨k_pp, hk_pp, ek_pp⟩ := pot_nat c_5 hn (by omega)
    refine lv_iload_n S.1 S.2.1 dX5_tinted_8 rfl (lv_at hl 2 rfl) ?_
    refine go_S (run_S (As := [.int w]) (rest := []) (n := 1) S hK (bl_P hP [] rfl) (bl_D hD [] rfl rfl) (c_X5_isColour l E w ) gS_X5_177 (by decide +kernel) rfl ⟨rfl, rfl⟩ ⟨Nat.le_of_ble_eq_true rfl, Nat.le_of_ble_eq_true rfl⟩ hl.1 (Nat.le_of_ble_eq_true rfl) dX5_tinted_9 ⟨Nat.zero_le _, Nat.zero_le _⟩) ?_
    refine b_ifne (tgt := 22) S.1 S.2.1 dX5_tinted_12 (by decide) (fun c_12 => ?_) (fun c_12 => ?_)
    · obtain ⟨k_w, hk_w, ek_w⟩ := nI_of2 (n := 7) (by decide) (Int32.not_lt.mpr c_12.1) c_12.2
      refine lv_aload_n S.1 S.2.1 dX5_tinted_22 rfl (lv_at hl 0 rfl) ?_
      refine gf_X5_9 S hK hP 0 0 rfl rfl rfl dX5_tinted_23 ?_
      refine lv_aload_n S.1 S.2.1 dX5_tinted_26 rfl (lv_at hl 0 rfl) ?_
      refine gf_X5_16 S hK hP 0 0 rfl rfl rfl dX5_tinted_27 ?_
      refine go_V (run_S (As := [.ref (am 1), .ref (am 3)]) (rest := []) (n := 2) S hK (bl_P hP [1, 3] rfl) (bl_D hD [1, 3] rfl rfl) (c_X5_copyRow l E (am 1) (am 3) r x ) gS_X5_61 (by decide +kernel) rfl ⟨rfl, rfl⟩ ⟨Nat.le_of_ble_eq_true rfl, Nat.le_of_ble_eq_true rfl⟩ hl.1 (Nat.le_of_ble_eq_true rfl) dX5_tinted_30 ⟨Nat.zero_le _, Nat.zero_le _⟩) hP hD hS [1, 3] rfl (had_cons rfl (had_cons cell_ad rfl)) (Bs' := [[mObj am q], [(am 1, .inl (E.2.1, 77, .inl (sg r 77)))], [(am 4, .inl (E.2.1, 8, .inl (sg f 8)))], [(am 3, .inl (E.2.1, 77, .inl (sg r 77)))]]) rfl (fun H locs hP hD hS => ?_)
      refine lv_iconst (v := 0) S.1 S.2.1 dX5_tinted_33 (by decide) ?_
      refine lv_istore_n (lv' := [(3, .int 0), (0, .ref (am 0)), (1, .int pp), (2, .int w)]) S.1 S.2.1 dX5_tinted_34 rfl hl (by decide) rfl (fun ls hl => ?_)
      have L_35 : ∀ (fu : Nat) (i : Nat) (ri : Row), (i ≤ 200) → (200 < i + fu) → (ri = daysF r i) → (RI ri) → (∀ j, j < i → ¬ (0 < daysF r j (21 + 7 * k_pp + 5) ∧ daysF r j (21 + 7 * k_pp + 4) = w)) → ∀ (H : Heap) (locs : List Loc), PE E [[mObj am q], [(am 1, .inl (E.2.1, 77, .inl (sg ri 77)))], [(am 4, .inl (E.2.1, 8, .inl (sg f 8)))], [(am 3, .inl (E.2.1, 77, .inl (sg r 77)))]] H → DE (inB [[mObj am q], [(am 1, .inl (E.2.1, 77, .inl (sg r 77)))], [(am 4, .inl (E.2.1, 8, .inl (sg f 8)))], [(am 3, .inl (E.2.1, 77, .inl (sg x 77)))]]) [[mObj am q], [(am 1, .inl (E.2.1, 77, .inl (sg ri 77)))], [(am 4, .inl (E.2.1, 8, .inl (sg f 8)))], [(am 3, .inl (E.2.1, 77, .inl (sg r 77)))]] → va_S (inB [[mObj am q], [(am 1, .inl (E.2.1, 77, .inl (sg r 77)))], [(am 4, .inl (E.2.1, 8, .inl (sg f 8)))], [(am 3, .inl (E.2.1, 77, .inl (sg x 77)))]]) s.heap H locs → ∀ (ls : Array Slot), lv_has ls 4 [(0, .ref (am 0)), (1, .int pp), (2, .int w), (3, .int (nI i))] → W p l e ({ frames := 6, cells := 0, slots := 0, locals := 127 }) s m ([.ref (am 0), .int pp, .int w] : List Value).toArray below meth c H locs 0 0 (MQ below (qIx E [[mObj am q], [(am 1, .inl (E.2.1, 77, .inl (sg r 77)))], [(am 4, .inl (E.2.1, 8, .inl (sg f 8)))], [(am 3, .inl (E.2.1, 77, .inl (sg x 77)))]] (fun u9 => [[mObj am q], [(am 1, .inl (E.2.1, 77, .inl (sg r 77)))], [(am 4, .inl (E.2.1, 8, .inl (sg (fndM f (rTinted r pp w)) 8)))], [(am 3, .inl (E.2.1, 77, .inl (sg u9 77)))]]) (ansR (rTinted r pp w))) ([.ref (am 0), .int pp, .int w] : List Value).toArray s 0 0 (inB [[mObj am q], [(am 1, .inl (E.2.1, 77, .inl (sg r 77)))], [(am 4, .inl (E.2.1, 8, .inl (sg f 8)))], [(am 3, .inl (E.2.1, 77, .inl (sg x 77)))]])) (F0 m 35 ls []) := by
        intro fu
        induction fu with
        | zero =>
          intro i ri hi hf hri hR1 hno
          omega
        | succ fu ih_35 =>
          intro i ri hi hf hri hR1 hno H locs hP hD hS ls hl
          refine lv_iload_n S.1 S.2.1 dX5_tinted_35 rfl (lv_at hl 3 rfl) ?_
          refine lv_sipush (v := 200) S.1 S.2.1 dX5_tinted_36 (by decide) ?_
          refine lv_icmp_ge (tgt := 61) S.1 S.2.1 dX5_tinted_39 (by decide) (fun c_39 => ?_) (fun c_39 => ?_)
          · have n_39 := Int32.not_lt.mpr c_39
            have hi9 : i = 200 := le_endK (n := 200) hi c_39 (by decide)
            refine lv_aload_n S.1 S.2.1 dX5_tinted_61 rfl (lv_at hl 0 rfl) ?_
            refine lv_aload_n S.1 S.2.1 dX5_tinted_62 rfl (lv_at hl 0 rfl) ?_
            refine lv_aload_n S.1 S.2.1 dX5_tinted_63 rfl (lv_at hl 0 rfl) ?_
            refine lv_iload_n S.1 S.2.1 dX5_tinted_64 rfl (lv_at hl 1 rfl) ?_
            refine lv_eqi (y := nI k_pp) ek_pp ?_
            refine lv_iload_n S.1 S.2.1 dX5_tinted_65 rfl (lv_at hl 2 rfl) ?_
            refine lv_eqi (y := nI k_w) ek_w ?_
            refine go_S (run_V (As := [.int (nI k_pp), .int (nI k_w)]) (rest := [.ref (am 0), .ref (am 0)]) (n := 2) S hK (bl_P hP [0, 1] rfl) (bl_D hD [0, 1] rfl rfl) (c_X5_hasColour l E am q ri k_pp (nI k_w) (by omega)) gV_X5_180 (by decide +kernel) rfl ⟨rfl, rfl⟩ ⟨Nat.le_of_ble_eq_true rfl, Nat.le_of_ble_eq_true rfl⟩ (ci := 5) (q0 := 0) rfl rfl hl.1 (Nat.le_of_ble_eq_true rfl) dX5_tinted_66 ⟨Nat.zero_le _, Nat.zero_le _⟩) ?_
            refine b_ifeq (tgt := 76) S.1 S.2.1 dX5_tinted_69 (by decide) (fun c_69 => ?_) (fun c_69 => ?_)
            · refine lv_iconst (v := (-1)) S.1 S.2.1 dX5_tinted_76 (by decide) ?_
              refine go_I (run_V (As := [.int (-1)]) (rest := [.ref (am 0)]) (n := 1) S hK (bl_P hP [0, 1, 3] rfl) (bl_D hD [0, 1, 3] rfl rfl) (c_X5_putBack l E am q ri r (-1) ) gV_X5_165 (by decide +kernel) rfl ⟨rfl, rfl⟩ ⟨Nat.le_of_ble_eq_true rfl, Nat.le_of_ble_eq_true rfl⟩ (ci := 5) (q0 := 0) rfl rfl hl.1 (Nat.le_of_ble_eq_true rfl) dX5_tinted_77 ⟨Nat.zero_le _, Nat.zero_le _⟩) hP hD hS [0, 1, 3] rfl (had_cons rfl (had_cons cell_ad (had_cons rfl rfl))) (Bs' := [[mObj am q], [(am 1, .inl (E.2.1, 77, .inl (sg r 77)))], [(am 4, .inl (E.2.1, 8, .inl (sg f 8)))], [(am 3, .inl (E.2.1, 77, .inl (sg r 77)))]]) rfl (fun H locs hP hD hS => ?_)
              refine go_I (run_V (As := [.int (-1)]) (rest := []) (n := 1) S hK (bl_P hP [0, 2] rfl) (bl_D hD [0, 2] rfl rfl) (c_X5_orNone l E am q f (-1) ) gV_X5_174 (by decide +kernel) rfl ⟨rfl, rfl⟩ ⟨Nat.le_of_ble_eq_true rfl, Nat.le_of_ble_eq_true rfl⟩ (ci := 5) (q0 := 0) rfl rfl hl.1 (Nat.le_of_ble_eq_true rfl) dX5_tinted_80 ⟨Nat.zero_le _, Nat.zero_le _⟩) hP hD hS [0, 2] rfl (had_cons rfl (had_cons cell_ad rfl)) (Bs' := [[mObj am q], [(am 1, .inl (E.2.1, 77, .inl (sg r 77)))], [(am 4, .inl (E.2.1, 8, .inl (sg (orNF f (-1)) 8)))], [(am 3, .inl (E.2.1, 77, .inl (sg r 77)))]]) rfl (fun H locs hP hD hS => ?_)
              obtain ⟨r_80, er_80⟩ : ∃ z : Row, z = orNF f (-1) := ⟨_, rfl⟩
              rw [← er_80] at hP hD
              exact retIx S hr hlk r (by have e9 : rTinted r pp w = fstR r (fun k => decide (0 < daysF r k (21 + 7 * k_pp + 5) ∧ daysF r k (21 + 7 * k_pp + 4) = w)) 201 := (by unfold rTinted; rw [if_pos c_5, if_pos c_12, ek_pp, tN_nI (by omega)]); have e8 : fstR r (fun k => decide (0 < daysF r k (21 + 7 * k_pp + 5) ∧ daysF r k (21 + 7 * k_pp + 4) = w)) 201 = .inl 3 := fst_out (fun j hj => decide_eq_false ((Nat.lt_or_eq_of_le (Nat.le_of_lt_succ hj)).elim (fun z => hno j (by omega)) (fun z => by rw [z, ← hi9, ← hri, ek_w]; exact c_69))); rw [er_80, show orNF f (-1) = findM f 3 from if_neg (by decide)] at hP; rw [e9, e8]; exact hP) hS (by have e9 : rTinted r pp w = fstR r (fun k => decide (0 < daysF r k (21 + 7 * k_pp + 5) ∧ daysF r k (21 + 7 * k_pp + 4) = w)) 201 := (by unfold rTinted; rw [if_pos c_5, if_pos c_12, ek_pp, tN_nI (by omega)]); have e8 : fstR r (fun k => decide (0 < daysF r k (21 + 7 * k_pp + 5) ∧ daysF r k (21 + 7 * k_pp + 4) = w)) 201 = .inl 3 := fst_out (fun j hj => decide_eq_false ((Nat.lt_or_eq_of_le (Nat.le_of_lt_succ hj)).elim (fun z => hno j (by omega)) (fun z => by rw [z, ← hi9, ← hri, ek_w]; exact c_69))); rw [e9, e8]; decide) dX5_tinted_83
            · refine lv_iload_n S.1 S.2.1 dX5_tinted_72 rfl (lv_at hl 3 rfl) ?_
              refine lv_goto (tgt := 77) S.1 S.2.1 dX5_tinted_73 (by decide) ?_
              refine go_I (run_V (As := [.int (nI i)]) (rest := [.ref (am 0)]) (n := 1) S hK (bl_P hP [0, 1, 3] rfl) (bl_D hD [0, 1, 3] rfl rfl) (c_X5_putBack l E am q ri r (nI i) ) gV_X5_165 (by decide +kernel) rfl ⟨rfl, rfl⟩ ⟨Nat.le_of_ble_eq_true rfl, Nat.le_of_ble_eq_true rfl⟩ (ci := 5) (q0 := 0) rfl rfl hl.1 (Nat.le_of_ble_eq_true rfl) dX5_tinted_77 ⟨Nat.zero_le _, Nat.zero_le _⟩) hP hD hS [0, 1, 3] rfl (had_cons rfl (had_cons cell_ad (had_cons rfl rfl))) (Bs' := [[mObj am q], [(am 1, .inl (E.2.1, 77, .inl (sg r 77)))], [(am 4, .inl (E.2.1, 8, .inl (sg f 8)))], [(am 3, .inl (E.2.1, 77, .inl (sg r 77)))]]) rfl (fun H locs hP hD hS => ?_)
              refine go_I (run_V (As := [.int (nI i)]) (rest := []) (n := 1) S hK (bl_P hP [0, 2] rfl) (bl_D hD [0, 2] rfl rfl) (c_X5_orNone l E am q f (nI i) ) gV_X5_174 (by decide +kernel) rfl ⟨rfl, rfl⟩ ⟨Nat.le_of_ble_eq_true rfl, Nat.le_of_ble_eq_true rfl⟩ (ci := 5) (q0 := 0) rfl rfl hl.1 (Nat.le_of_ble_eq_true rfl) dX5_tinted_80 ⟨Nat.zero_le _, Nat.zero_le _⟩) hP hD hS [0, 2] rfl (had_cons rfl (had_cons cell_ad rfl)) (Bs' := [[mObj am q], [(am 1, .inl (E.2.1, 77, .inl (sg r 77)))], [(am 4, .inl (E.2.1, 8, .inl (sg (orNF f (nI i)) 8)))], [(am 3, .inl (E.2.1, 77, .inl (sg r 77)))]]) rfl (fun H locs hP hD hS => ?_)
              obtain ⟨r_80_1, er_80_1⟩ : ∃ z : Row, z = orNF f (nI i) := ⟨_, rfl⟩
              rw [← er_80_1] at hP hD
              exact retIx S hr hlk r (by have e9 : rTinted r pp w = fstR r (fun k => decide (0 < daysF r k (21 + 7 * k_pp + 5) ∧ daysF r k (21 + 7 * k_pp + 4) = w)) 201 := (by unfold rTinted; rw [if_pos c_5, if_pos c_12, ek_pp, tN_nI (by omega)]); have e8 : fstR r (fun k => decide (0 < daysF r k (21 + 7 * k_pp + 5) ∧ daysF r k (21 + 7 * k_pp + 4) = w)) 201 = .inr (r, nI i) := fst_in (by omega) (fun j hj => decide_eq_false (hno j hj)) (decide_eq_true (by rw [← hri, ek_w]; exact c_69)); rw [er_80_1, show orNF f (nI i) = f from if_pos (nI_pos' (by omega))] at hP; rw [e9, e8]; exact hP) hS (by have e9 : rTinted r pp w = fstR r (fun k => decide (0 < daysF r k (21 + 7 * k_pp + 5) ∧ daysF r k (21 + 7 * k_pp + 4) = w)) 201 := (by unfold rTinted; rw [if_pos c_5, if_pos c_12, ek_pp, tN_nI (by omega)]); have e8 : fstR r (fun k => decide (0 < daysF r k (21 + 7 * k_pp + 5) ∧ daysF r k (21 + 7 * k_pp + 4) = w)) 201 = .inr (r, nI i) := fst_in (by omega) (fun j hj => decide_eq_false (hno j hj)) (decide_eq_true (by rw [← hri, ek_w]; exact c_69)); rw [e9, e8]; exact if_pos (nI_pos' (by omega))) dX5_tinted_83
          · have n_39 := Int32.not_le.mp c_39
            have hi2 : i < 200 := lt_in (n := 200) c_39 hi
            refine lv_aload_n S.1 S.2.1 dX5_tinted_42 rfl (lv_at hl 0 rfl) ?_
            refine lv_iload_n S.1 S.2.1 dX5_tinted_43 rfl (lv_at hl 1 rfl) ?_
            refine lv_eqi (y := nI k_pp) ek_pp ?_
            refine lv_iload_n S.1 S.2.1 dX5_tinted_44 rfl (lv_at hl 2 rfl) ?_
            refine lv_eqi (y := nI k_w) ek_w ?_
            refine go_S (run_V (As := [.int (nI k_pp), .int (nI k_w)]) (rest := []) (n := 2) S hK (bl_P hP [0, 1] rfl) (bl_D hD [0, 1] rfl rfl) (c_X5_hasColour l E am q ri k_pp (nI k_w) (by omega)) gV_X5_180 (by decide +kernel) rfl ⟨rfl, rfl⟩ ⟨Nat.le_of_ble_eq_true rfl, Nat.le_of_ble_eq_true rfl⟩ (ci := 5) (q0 := 0) rfl rfl hl.1 (Nat.le_of_ble_eq_true rfl) dX5_tinted_45 ⟨Nat.zero_le _, Nat.zero_le _⟩) ?_
            refine b_ifne (tgt := 61) S.1 S.2.1 dX5_tinted_48 (by decide) (fun c_48 => ?_) (fun c_48 => ?_)
            · refine lv_aload_n S.1 S.2.1 dX5_tinted_61 rfl (lv_at hl 0 rfl) ?_
              refine lv_aload_n S.1 S.2.1 dX5_tinted_62 rfl (lv_at hl 0 rfl) ?_
              refine lv_aload_n S.1 S.2.1 dX5_tinted_63 rfl (lv_at hl 0 rfl) ?_
              refine lv_iload_n S.1 S.2.1 dX5_tinted_64 rfl (lv_at hl 1 rfl) ?_
              refine lv_eqi (y := nI k_pp) ek_pp ?_
              refine lv_iload_n S.1 S.2.1 dX5_tinted_65 rfl (lv_at hl 2 rfl) ?_
              refine lv_eqi (y := nI k_w) ek_w ?_
              refine go_S (run_V (As := [.int (nI k_pp), .int (nI k_w)]) (rest := [.ref (am 0), .ref (am 0)]) (n := 2) S hK (bl_P hP [0, 1] rfl) (bl_D hD [0, 1] rfl rfl) (c_X5_hasColour l E am q ri k_pp (nI k_w) (by omega)) gV_X5_180 (by decide +kernel) rfl ⟨rfl, rfl⟩ ⟨Nat.le_of_ble_eq_true rfl, Nat.le_of_ble_eq_true rfl⟩ (ci := 5) (q0 := 0) rfl rfl hl.1 (Nat.le_of_ble_eq_true rfl) dX5_tinted_66 ⟨Nat.zero_le _, Nat.zero_le _⟩) ?_
              refine b_ifeq (tgt := 76) S.1 S.2.1 dX5_tinted_69 (by decide) (fun c_69 => ?_) (fun c_69 => ?_)
              · refine lv_iconst (v := (-1)) S.1 S.2.1 dX5_tinted_76 (by decide) ?_
                refine go_I (run_V (As := [.int (-1)]) (rest := [.ref (am 0)]) (n := 1) S hK (bl_P hP [0, 1, 3] rfl) (bl_D hD [0, 1, 3] rfl rfl) (c_X5_putBack l E am q ri r (-1) ) gV_X5_165 (by decide +kernel) rfl ⟨rfl, rfl⟩ ⟨Nat.le_of_ble_eq_true rfl, Nat.le_of_ble_eq_true rfl⟩ (ci := 5) (q0 := 0) rfl rfl hl.1 (Nat.le_of_ble_eq_true rfl) dX5_tinted_77 ⟨Nat.zero_le _, Nat.zero_le _⟩) hP hD hS [0, 1, 3] rfl (had_cons rfl (had_cons cell_ad (had_cons rfl rfl))) (Bs' := [[mObj am q], [(am 1, .inl (E.2.1, 77, .inl (sg r 77)))], [(am 4, .inl (E.2.1, 8, .inl (sg f 8)))], [(am 3, .inl (E.2.1, 77, .inl (sg r 77)))]]) rfl (fun H locs hP hD hS => ?_)
                refine go_I (run_V (As := [.int (-1)]) (rest := []) (n := 1) S hK (bl_P hP [0, 2] rfl) (bl_D hD [0, 2] rfl rfl) (c_X5_orNone l E am q f (-1) ) gV_X5_174 (by decide +kernel) rfl ⟨rfl, rfl⟩ ⟨Nat.le_of_ble_eq_true rfl, Nat.le_of_ble_eq_true rfl⟩ (ci := 5) (q0 := 0) rfl rfl hl.1 (Nat.le_of_ble_eq_true rfl) dX5_tinted_80 ⟨Nat.zero_le _, Nat.zero_le _⟩) hP hD hS [0, 2] rfl (had_cons rfl (had_cons cell_ad rfl)) (Bs' := [[mObj am q], [(am 1, .inl (E.2.1, 77, .inl (sg r 77)))], [(am 4, .inl (E.2.1, 8, .inl (sg (orNF f (-1)) 8)))], [(am 3, .inl (E.2.1, 77, .inl (sg r 77)))]]) rfl (fun H locs hP hD hS => ?_)
                obtain ⟨r_80_2, er_80_2⟩ : ∃ z : Row, z = orNF f (-1) := ⟨_, rfl⟩
                rw [← er_80_2] at hP hD
                exact retIx S hr hlk r (absurd c_48 c_69) hS (absurd c_48 c_69) dX5_tinted_83
              · refine lv_iload_n S.1 S.2.1 dX5_tinted_72 rfl (lv_at hl 3 rfl) ?_
                refine lv_goto (tgt := 77) S.1 S.2.1 dX5_tinted_73 (by decide) ?_
                refine go_I (run_V (As := [.int (nI i)]) (rest := [.ref (am 0)]) (n := 1) S hK (bl_P hP [0, 1, 3] rfl) (bl_D hD [0, 1, 3] rfl rfl) (c_X5_putBack l E am q ri r (nI i) ) gV_X5_165 (by decide +kernel) rfl ⟨rfl, rfl⟩ ⟨Nat.le_of_ble_eq_true rfl, Nat.le_of_ble_eq_true rfl⟩ (ci := 5) (q0 := 0) rfl rfl hl.1 (Nat.le_of_ble_eq_true rfl) dX5_tinted_77 ⟨Nat.zero_le _, Nat.zero_le _⟩) hP hD hS [0, 1, 3] rfl (had_cons rfl (had_cons cell_ad (had_cons rfl rfl))) (Bs' := [[mObj am q], [(am 1, .inl (E.2.1, 77, .inl (sg r 77)))], [(am 4, .inl (E.2.1, 8, .inl (sg f 8)))], [(am 3, .inl (E.2.1, 77, .inl (sg r 77)))]]) rfl (fun H locs hP hD hS => ?_)
                refine go_I (run_V (As := [.int (nI i)]) (rest := []) (n := 1) S hK (bl_P hP [0, 2] rfl) (bl_D hD [0, 2] rfl rfl) (c_X5_orNone l E am q f (nI i) ) gV_X5_174 (by decide +kernel) rfl ⟨rfl, rfl⟩ ⟨Nat.le_of_ble_eq_true rfl, Nat.le_of_ble_eq_true rfl⟩ (ci := 5) (q0 := 0) rfl rfl hl.1 (Nat.le_of_ble_eq_true rfl) dX5_tinted_80 ⟨Nat.zero_le _, Nat.zero_le _⟩) hP hD hS [0, 2] rfl (had_cons rfl (had_cons cell_ad rfl)) (Bs' := [[mObj am q], [(am 1, .inl (E.2.1, 77, .inl (sg r 77)))], [(am 4, .inl (E.2.1, 8, .inl (sg (orNF f (nI i)) 8)))], [(am 3, .inl (E.2.1, 77, .inl (sg r 77)))]]) rfl (fun H locs hP hD hS => ?_)
                obtain ⟨r_80_3, er_80_3⟩ : ∃ z : Row, z = orNF f (nI i) := ⟨_, rfl⟩
                rw [← er_80_3] at hP hD
                exact retIx S hr hlk r (by have e9 : rTinted r pp w = fstR r (fun k => decide (0 < daysF r k (21 + 7 * k_pp + 5) ∧ daysF r k (21 + 7 * k_pp + 4) = w)) 201 := (by unfold rTinted; rw [if_pos c_5, if_pos c_12, ek_pp, tN_nI (by omega)]); have e8 : fstR r (fun k => decide (0 < daysF r k (21 + 7 * k_pp + 5) ∧ daysF r k (21 + 7 * k_pp + 4) = w)) 201 = .inr (r, nI i) := fst_in (by omega) (fun j hj => decide_eq_false (hno j hj)) (decide_eq_true (by rw [← hri, ek_w]; exact c_69)); rw [er_80_3, show orNF f (nI i) = f from if_pos (nI_pos' (by omega))] at hP; rw [e9, e8]; exact hP) hS (by have e9 : rTinted r pp w = fstR r (fun k => decide (0 < daysF r k (21 + 7 * k_pp + 5) ∧ daysF r k (21 + 7 * k_pp + 4) = w)) 201 := (by unfold rTinted; rw [if_pos c_5, if_pos c_12, ek_pp, tN_nI (by omega)]); have e8 : fstR r (fun k => decide (0 < daysF r k (21 + 7 * k_pp + 5) ∧ daysF r k (21 + 7 * k_pp + 4) = w)) 201 = .inr (r, nI i) := fst_in (by omega) (fun j hj => decide_eq_false (hno j hj)) (decide_eq_true (by rw [← hri, ek_w]; exact c_69)); rw [e9, e8]; exact if_pos (nI_pos' (by omega))) dX5_tinted_83
            · refine lv_aload_n S.1 S.2.1 dX5_tinted_51 rfl (lv_at hl 0 rfl) ?_
              refine go_V (run_V (As := []) (rest := []) (n := 0) S hK (bl_P hP [0, 1] rfl) (bl_D hD [0, 1] rfl rfl) (c_X5_day l E am q ri hR1) gV_X5_146 (by decide +kernel) rfl ⟨rfl, rfl⟩ ⟨Nat.le_of_ble_eq_true rfl, Nat.le_of_ble_eq_true rfl⟩ (ci := 5) (q0 := 0) rfl rfl hl.1 (Nat.le_of_ble_eq_true rfl) dX5_tinted_52 ⟨Nat.zero_le _, Nat.zero_le _⟩) hP hD hS [0, 1] rfl (had_cons rfl (had_cons cell_ad rfl)) (Bs' := [[mObj am q], [(am 1, .inl (E.2.1, 77, .inl (sg (dayF ri) 77)))], [(am 4, .inl (E.2.1, 8, .inl (sg f 8)))], [(am 3, .inl (E.2.1, 77, .inl (sg r 77)))]]) rfl (fun H locs hP hD hS => ?_)
              obtain ⟨r_52, er_52⟩ : ∃ z : Row, z = dayF ri := ⟨_, rfl⟩
              rw [← er_52] at hP hD
              have hr_52_RI : RI r_52 := by rw [er_52]; exact dayF_RI hR1
              refine lv_iinc (v := nI (i + 1)) (lv' := [(3, .int (nI (i + 1))), (0, .ref (am 0)), (1, .int pp), (2, .int w)]) S.1 S.2.1 dX5_tinted_55 hl (k := 3) rfl (nI_1 i) (by decide) rfl (fun ls hl => ?_)
              refine lv_goto (tgt := 35) S.1 S.2.1 dX5_tinted_58 (by decide) ?_
              exact ih_35 (i + 1) r_52 (by omega) (by omega) (by rw [er_52, hri]; rfl) hr_52_RI (lt_s hno (by rw [← hri, ek_w]; exact c_48)) H locs hP hD hS ls (lv_sub hl [1, 2, 3, 0] rfl)
      exact L_35 (200 + 1) 0 r (by omega) (by omega) rfl hR (fun j hj => absurd hj (by omega)) H locs hP hD hS ls (lv_sub hl [1, 2, 3, 0] rfl)
    · refine lv_aload_n S.1 S.2.1 dX5_tinted_15 rfl (lv_at hl 0 rfl) ?_
      refine lv_ldc (v := (-1000001)) S.1 S.2.1 S.2.2.2.1 (S.2.2.2.2 _ (List.mem_cons_of_mem _ kk_X5_60)) dX5_tinted_16 ?_
      refine go_I (run_V (As := [.int (-1000001)]) (rest := []) (n := 1) S hK (bl_P hP [0, 2] rfl) (bl_D hD [0, 2] rfl rfl) (c_X5_finding l E am q f (-1000001) 0 (by decide) (by decide)) gV_X5_66 (by decide +kernel) rfl ⟨rfl, rfl⟩ ⟨Nat.le_of_ble_eq_true rfl, Nat.le_of_ble_eq_true rfl⟩ (ci := 5) (q0 := 0) rfl rfl hl.1 (Nat.le_of_ble_eq_true rfl) dX5_tinted_18 ⟨Nat.zero_le _, Nat.zero_le _⟩) hP hD hS [0, 2] rfl (had_cons rfl (had_cons cell_ad rfl)) (Bs' := [[mObj am q], [(am 1, .inl (E.2.1, 77, .inl (sg r 77)))], [(am 4, .inl (E.2.1, 8, .inl (sg (findM f 0) 8)))], [(am 3, .inl (E.2.1, 77, .inl (sg x 77)))]]) rfl (fun H locs hP hD hS => ?_)
      obtain ⟨r_18_4, er_18_4⟩ : ∃ z : Row, z = findM f 0 := ⟨_, rfl⟩
      rw [← er_18_4] at hP hD
      exact retIx S hr hlk x (by have e9 : rTinted r pp w = .inl 0 := (by unfold rTinted; rw [if_pos c_5, if_neg c_12]); rw [er_18_4] at hP; rw [e9, fndM_inl]; exact hP) hS (by have e9 : rTinted r pp w = .inl 0 := (by unfold rTinted; rw [if_pos c_5, if_neg c_12]); rw [e9]; decide) dX5_tinted_21
set_option maxHeartbeats 800000 in
set_option maxRecDepth 100000 in
theorem c_X5_hoursFor (l : Launch) (E : EV) (am : Nat → Nat) (q r f x : Row) (pp v n9 : Int32) (hR : RI r) : Met l yX5_hoursFor (wq yX5_hoursFor cX5_hoursFor 7 (some .int)) ({ frames := 8, cells := 0, slots := 0, locals := 171 }) (preB E [.ref (am 0), .int pp, .int v, .int n9] [[mObj am q], [(am 1, .inl (E.2.1, 77, .inl (sg r 77)))], [(am 4, .inl (E.2.1, 8, .inl (sg f 8)))], [(am 3, .inl (E.2.1, 77, .inl (sg x 77)))]]) (qIx E [[mObj am q], [(am 1, .inl (E.2.1, 77, .inl (sg r 77)))], [(am 4, .inl (E.2.1, 8, .inl (sg f 8)))], [(am 3, .inl (E.2.1, 77, .inl (sg x 77)))]] (fun u9 => [[mObj am q], [(am 1, .inl (E.2.1, 77, .inl (sg r 77)))], [(am 4, .inl (E.2.1, 8, .inl (sg (fndM f (rHours r pp v n9)) 8)))], [(am 3, .inl (E.2.1, 77, .inl (sg u9 77)))]]) (ansR (rHours r pp v n9))) 0 0 (inB [[mObj am q], [(am 1, .inl (E.2.1, 77, .inl (sg r 77)))], [(am 4, .inl (E.2.1, 8, .inl (sg f 8)))], [(am 3, .inl (E.2.1, 77, .inl (sg x 77)))]]) := by
  refine M_mk RX5 (by decide) rfl (Nat.le_of_ble_eq_true rfl) ?_
  intro p e s m below meth c S hr hlk hK hP hD hS ls hl
  have hl : lv_has ls 7 [(0, .ref (am 0)), (1, .int pp), (2, .int v), (3, .int n9)] := hl
  obtain ⟨n, d, hn, hn8, hd, hd5, ho, hso, hli, hsp, hpt⟩ := id hR
  obtain ⟨H, hH⟩ : ∃ z, z = s.heap := ⟨_, rfl⟩
  obtain ⟨locs, hlocs⟩ : ∃ z : List Loc, z = [] := ⟨_, rfl⟩
  have hP : PE E [[mObj am q], [(am 1, .inl (E.2.1, 77, .inl (sg r 77)))], [(am 4, .inl (E.2.1, 8, .inl (sg f 8)))], [(am 3, .inl (E.2.1, 77, .inl (sg x 77)))]] H := by rw [hH]; exact hP
  have hS : va_S (inB [[mObj am q], [(am 1, .inl (E.2.1, 77, .inl (sg r 77)))], [(am 4, .inl (E.2.1, 8, .inl (sg f 8)))], [(am 3, .inl (E.2.1, 77, .inl (sg x 77)))]]) s.heap H locs := by rw [hH, hlocs]; exact hS
  show W p l e ({ frames := 8, cells := 0, slots := 0, locals := 171 }) s m ([.ref (am 0), .int pp, .int v, .int n9] : List Value).toArray below meth c s.heap [] 0 0 _ _
  suffices hgo : W p l e ({ frames := 8, cells := 0, slots := 0, locals := 171 }) s m ([.ref (am 0), .int pp, .int v, .int n9] : List Value).toArray below meth c H locs 0 0 (MQ below (qIx E [[mObj am q], [(am 1, .inl (E.2.1, 77, .inl (sg r 77)))], [(am 4, .inl (E.2.1, 8, .inl (sg f 8)))], [(am 3, .inl (E.2.1, 77, .inl (sg x 77)))]] (fun u9 => [[mObj am q], [(am 1, .inl (E.2.1, 77, .inl (sg r 77)))], [(am 4, .inl (E.2.1, 8, .inl (sg (fndM f (rHours r pp v n9)) 8)))], [(am 3, .inl (E.2.1, 77, .inl (sg u9 77)))]]) (ansR (rHours r pp v n9))) ([.ref (am 0), .int pp, .int v, .int n9] : List Value).toArray s 0 0 (inB [[mObj am q], [(am 1, .inl (E.2.1, 77, .inl (sg r 77)))], [(am 4, .inl (E.2.1, 8, .inl (sg f 8)))], [(am 3, .inl (E.2.1, 77, .inl (sg x 77)))]])) (F0 m 0 ls []) by rw [hH, hlocs] at hgo; exact hgo
  clear hH hlocs
  refine lv_aload_n S.1 S.2.1 dX5_hoursFor_0 rfl (lv_at hl 0 rfl) ?_
  refine lv_iload_n S.1 S.2.1 dX5_hoursFor_1 rfl (lv_at hl 1 rfl) ?_
  refine go_S (run_V (As := [.int pp]) (rest := []) (n := 1) S hK (bl_P hP [0, 1] rfl) (bl_D hD [0, 1] rfl rfl) (c_X5_isPotter l E am q r pp n hn hn8) gV_X5_122 (by decide +kernel) rfl ⟨rfl, rfl⟩ ⟨Nat.le_of_ble_eq_true rfl, Nat.le_of_ble_eq_true rfl⟩ (ci := 5) (q0 := 0) rfl rfl hl.1 (Nat.le_of_ble_eq_true rfl) dX5_hoursFor_2 ⟨Nat.zero_le _, Nat.zero_le _⟩) ?_
  refine b_ifeq (tgt := 26) S.1 S.2.1 dX5_hoursFor_5 (by decide) (fun c_5 => ?_) (fun c_5 => ?_)
  · refine lv_aload_n S.1 S.2.1 dX5_hoursFor_26 rfl (lv_at hl 0 rfl) ?_
    refine lv_ldc (v := (-1000001)) S.1 S.2.1 S.2.2.2.1 (S.2.2.2.2 _ (List.mem_cons_of_mem _ kk_X5_60)) dX5_hoursFor_27 ?_
    refine go_I (run_V (As := [.int (-1000001)]) (rest := []) (n := 1) S hK (bl_P hP [0, 2] rfl) (bl_D hD [0, 2] rfl rfl) (c_X5_finding l E am q f (-1000001) 0 (by decide) (by decide)) gV_X5_66 (by decide +kernel) rfl ⟨rfl, rfl⟩ ⟨Nat.le_of_ble_eq_true rfl, Nat.le_of_ble_eq_true rfl⟩ (ci := 5) (q0 := 0) rfl rfl hl.1 (Nat.le_of_ble_eq_true rfl) dX5_hoursFor_29 ⟨Nat.zero_le _, Nat.zero_le _⟩) hP hD hS [0, 2] rfl (had_cons rfl (had_cons cell_ad rfl)) (Bs' := [[mObj am q], [(am 1, .inl (E.2.1, 77, .inl (sg r 77)))], [(am 4, .inl (E.2.1, 8, .inl (sg (findM f 0) 8)))], [(am 3, .inl (E.2.1, 77, .inl (sg x 77)))]]) rfl (fun H locs hP hD hS => ?_)
    obtain ⟨r_29, er_29⟩ : ∃ z : Row, z = findM f 0 := ⟨_, rfl⟩
    rw [← er_29] at hP hD
    exact retIx S hr hlk x (by have e9 : rHours r pp v n9 = .inl 0 := (by unfold rHours; rw [if_neg c_5]); rw [er_29] at hP; rw [e9, fndM_inl]; exact hP) hS (by have e9 : rHours r pp v n9 = .inl 0 := (by unfold rHours; rw [if_neg c_5]); rw [e9]; decide) dX5_hoursFor_32
  · obtain ⟨k_pp, hk_pp, ek_pp⟩ := pot_nat c_5 hn (by omega)
    refine lv_iload_n S.1 S.2.1 dX5_hoursFor_8 rfl (lv_at hl 2 rfl) ?_
    refine lv_iconst (v := 0) S.1 S.2.1 dX5_hoursFor_9 (by decide) ?_
    refine lv_sipush (v := 9999) S.1 S.2.1 dX5_hoursFor_10 (by decide) ?_
    refine go_S (run_S (As := [.int v, .int 0, .int 9999]) (rest := []) (n := 3) S hK (bl_P hP [] rfl) (bl_D hD [] rfl rfl) (c_X5_within l E v 0 9999 ) gS_X5_70 (by decide +kernel) rfl ⟨rfl, rfl⟩ ⟨Nat.le_of_ble_eq_true rfl, Nat.le_of_ble_eq_true rfl⟩ hl.1 (Nat.le_of_ble_eq_true rfl) dX5_hoursFor_13 ⟨Nat.zero_le _, Nat.zero_le _⟩) ?_
    refine b_ifeq (tgt := 26) S.1 S.2.1 dX5_hoursFor_16 (by decide) (fun c_16 => ?_) (fun c_16 => ?_)
    · refine lv_aload_n S.1 S.2.1 dX5_hoursFor_26 rfl (lv_at hl 0 rfl) ?_
      refine lv_ldc (v := (-1000001)) S.1 S.2.1 S.2.2.2.1 (S.2.2.2.2 _ (List.mem_cons_of_mem _ kk_X5_60)) dX5_hoursFor_27 ?_
      refine go_I (run_V (As := [.int (-1000001)]) (rest := []) (n := 1) S hK (bl_P hP [0, 2] rfl) (bl_D hD [0, 2] rfl rfl) (c_X5_finding l E am q f (-1000001) 0 (by decide) (by decide)) gV_X5_66 (by decide +kernel) rfl ⟨rfl, rfl⟩ ⟨Nat.le_of_ble_eq_true rfl, Nat.le_of_ble_eq_true rfl⟩ (ci := 5) (q0 := 0) rfl rfl hl.1 (Nat.le_of_ble_eq_true rfl) dX5_hoursFor_29 ⟨Nat.zero_le _, Nat.zero_le _⟩) hP hD hS [0, 2] rfl (had_cons rfl (had_cons cell_ad rfl)) (Bs' := [[mObj am q], [(am 1, .inl (E.2.1, 77, .inl (sg r 77)))], [(am 4, .inl (E.2.1, 8, .inl (sg (findM f 0) 8)))], [(am 3, .inl (E.2.1, 77, .inl (sg x 77)))]]) rfl (fun H locs hP hD hS => ?_)
      obtain ⟨r_29_1, er_29_1⟩ : ∃ z : Row, z = findM f 0 := ⟨_, rfl⟩
      rw [← er_29_1] at hP hD
      exact retIx S hr hlk x (by have e9 : rHours r pp v n9 = .inl 0 := (by unfold rHours; rw [if_pos c_5, if_neg c_16]); rw [er_29_1] at hP; rw [e9, fndM_inl]; exact hP) hS (by have e9 : rHours r pp v n9 = .inl 0 := (by unfold rHours; rw [if_pos c_5, if_neg c_16]); rw [e9]; decide) dX5_hoursFor_32
    · obtain ⟨k_v, hk_v, ek_v⟩ := nI_of2 (n := 9999) (by decide) (Int32.not_lt.mpr c_16.1) c_16.2
      refine lv_iload_n S.1 S.2.1 dX5_hoursFor_19 rfl (lv_at hl 3 rfl) ?_
      refine go_S (run_S (As := [.int n9]) (rest := []) (n := 1) S hK (bl_P hP [] rfl) (bl_D hD [] rfl rfl) (c_X5_isThought l E n9 ) gS_X5_183 (by decide +kernel) rfl ⟨rfl, rfl⟩ ⟨Nat.le_of_ble_eq_true rfl, Nat.le_of_ble_eq_true rfl⟩ hl.1 (Nat.le_of_ble_eq_true rfl) dX5_hoursFor_20 ⟨Nat.zero_le _, Nat.zero_le _⟩) ?_
      refine b_ifne (tgt := 33) S.1 S.2.1 dX5_hoursFor_23 (by decide) (fun c_23 => ?_) (fun c_23 => ?_)
      · obtain ⟨k_n9, hk_n9, ek_n9⟩ := nI_of2 (n := 60) (by decide) (Int32.not_lt.mpr c_23.1) c_23.2
        refine lv_iload_n S.1 S.2.1 dX5_hoursFor_33 rfl (lv_at hl 1 rfl) ?_
        refine lv_eqi (y := nI k_pp) ek_pp ?_
        refine lv_iconst (v := 2) S.1 S.2.1 dX5_hoursFor_34 (by decide) ?_
        refine go_S (run_S (As := [.int (nI k_pp), .int 2]) (rest := []) (n := 2) S hK (bl_P hP [] rfl) (bl_D hD [] rfl rfl) (c_X5_potterAt l E k_pp 2 ) gS_X5_82 (by decide +kernel) rfl ⟨rfl, rfl⟩ ⟨Nat.le_of_ble_eq_true rfl, Nat.le_of_ble_eq_true rfl⟩ hl.1 (Nat.le_of_ble_eq_true rfl) dX5_hoursFor_35 ⟨Nat.zero_le _, Nat.zero_le _⟩) ?_
        refine lv_istore (lv' := [(4, .int (nI (21 + 7 * k_pp + 2))), (0, .ref (am 0)), (1, .int pp), (2, .int v), (3, .int n9)]) S.1 S.2.1 dX5_hoursFor_38 hl (by decide) rfl (fun ls hl => ?_)
        refine lv_aload_n S.1 S.2.1 dX5_hoursFor_40 rfl (lv_at hl 1 rfl) ?_
        refine gf_X5_9 S hK hP 0 0 rfl rfl rfl dX5_hoursFor_41 ?_
        refine lv_iload S.1 S.2.1 dX5_hoursFor_44 (lv_at hl 0 rfl) ?_
        refine b_ialdN (i := 21 + 7 * k_pp + 2) S hK hP 1 0 rfl rfl (by omega) (by decide) dX5_hoursFor_46 ?_
        refine lv_eqi (y := r (21 + 7 * k_pp + 2)) (sg_at (by omega)) ?_
        refine lv_istore (lv' := [(5, .int (r (21 + 7 * k_pp + 2))), (4, .int (nI (21 + 7 * k_pp + 2))), (0, .ref (am 0)), (1, .int pp), (2, .int v), (3, .int n9)]) S.1 S.2.1 dX5_hoursFor_47 hl (by decide) rfl (fun ls hl => ?_)
        refine lv_iconst (v := 0) S.1 S.2.1 dX5_hoursFor_49 (by decide) ?_
        refine lv_istore (lv' := [(6, .int 0), (5, .int (r (21 + 7 * k_pp + 2))), (4, .int (nI (21 + 7 * k_pp + 2))), (0, .ref (am 0)), (1, .int pp), (2, .int v), (3, .int n9)]) S.1 S.2.1 dX5_hoursFor_50 hl (by decide) rfl (fun ls hl => ?_)
        refine lv_aload_n S.1 S.2.1 dX5_hoursFor_52 rfl (lv_at hl 3 rfl) ?_
        refine gf_X5_9 S hK hP 0 0 rfl rfl rfl dX5_hoursFor_53 ?_
        refine lv_iload S.1 S.2.1 dX5_hoursFor_56 (lv_at hl 2 rfl) ?_
        refine lv_iconst (v := 0) S.1 S.2.1 dX5_hoursFor_58 (by decide) ?_
        refine b_iastN (i := 21 + 7 * k_pp + 2) S hK hP hD hS 1 0 rfl rfl (by omega) (by decide) (sgs_upd (by omega)) (Bs1 := [[mObj am q], [(am 1, .inl (E.2.1, 77, .inl (sg (upd r (21 + 7 * k_pp + 2) 0) 77)))], [(am 4, .inl (E.2.1, 8, .inl (sg f 8)))], [(am 3, .inl (E.2.1, 77, .inl (sg x 77)))]]) rfl dX5_hoursFor_59 (fun H locs hP hD hS => ?_)
        obtain ⟨r_59, er_59⟩ : ∃ z, z = upd r (21 + 7 * k_pp + 2) 0 := ⟨_, rfl⟩
        rw [← er_59] at hP hD
        have hr_59_1 : r_59 1 = nI n := by rw [er_59]; exact (upd_ne (by omega)).trans hn
        have hr_59_0 : r_59 0 = nI d := by rw [er_59]; exact (upd_ne (by omega)).trans hd
        have L_60 : ∀ (fu : Nat) (i : Nat) (xi : Row) (ai : Row), (i ≤ 10) → (10 < i + fu) → (xi = upd r (21 + 7 * k_pp + 2) (nI i)) → (∀ j, j < i → ¬ (v ≤ daysF (upd r (21 + 7 * k_pp + 2) (nI j)) k_n9 (21 + 7 * k_pp + 5))) → ∀ (H : Heap) (locs : List Loc), PE E [[mObj am q], [(am 1, .inl (E.2.1, 77, .inl (sg xi 77)))], [(am 4, .inl (E.2.1, 8, .inl (sg f 8)))], [(am 3, .inl (E.2.1, 77, .inl (sg ai 77)))]] H → DE (inB [[mObj am q], [(am 1, .inl (E.2.1, 77, .inl (sg r 77)))], [(am 4, .inl (E.2.1, 8, .inl (sg f 8)))], [(am 3, .inl (E.2.1, 77, .inl (sg x 77)))]]) [[mObj am q], [(am 1, .inl (E.2.1, 77, .inl (sg xi 77)))], [(am 4, .inl (E.2.1, 8, .inl (sg f 8)))], [(am 3, .inl (E.2.1, 77, .inl (sg ai 77)))]] → va_S (inB [[mObj am q], [(am 1, .inl (E.2.1, 77, .inl (sg r 77)))], [(am 4, .inl (E.2.1, 8, .inl (sg f 8)))], [(am 3, .inl (E.2.1, 77, .inl (sg x 77)))]]) s.heap H locs → ∀ (ls : Array Slot), lv_has ls 7 [(0, .ref (am 0)), (1, .int pp), (2, .int v), (3, .int n9), (4, .int (nI (21 + 7 * k_pp + 2))), (5, .int (r (21 + 7 * k_pp + 2))), (6, .int (nI i))] → W p l e ({ frames := 8, cells := 0, slots := 0, locals := 171 }) s m ([.ref (am 0), .int pp, .int v, .int n9] : List Value).toArray below meth c H locs 0 0 (MQ below (qIx E [[mObj am q], [(am 1, .inl (E.2.1, 77, .inl (sg r 77)))], [(am 4, .inl (E.2.1, 8, .inl (sg f 8)))], [(am 3, .inl (E.2.1, 77, .inl (sg x 77)))]] (fun u9 => [[mObj am q], [(am 1, .inl (E.2.1, 77, .inl (sg r 77)))], [(am 4, .inl (E.2.1, 8, .inl (sg (fndM f (rHours r pp v n9)) 8)))], [(am 3, .inl (E.2.1, 77, .inl (sg u9 77)))]]) (ansR (rHours r pp v n9))) ([.ref (am 0), .int pp, .int v, .int n9] : List Value).toArray s 0 0 (inB [[mObj am q], [(am 1, .inl (E.2.1, 77, .inl (sg r 77)))], [(am 4, .inl (E.2.1, 8, .inl (sg f 8)))], [(am 3, .inl (E.2.1, 77, .inl (sg x 77)))]])) (F0 m 60 ls []) := by
          intro fu
          induction fu with
          | zero =>
            intro i xi ai hi hf hxi hno
            omega
          | succ fu ih_60 =>
            intro i xi ai hi hf hxi hno H locs hP hD hS ls hl
            refine lv_iload S.1 S.2.1 dX5_hoursFor_60 (lv_at hl 6 rfl) ?_
            refine lv_bipush (v := 9) S.1 S.2.1 dX5_hoursFor_62 (by decide) ?_
            refine lv_icmp_gt (tgt := 96) S.1 S.2.1 dX5_hoursFor_64 (by decide) (fun c_64 => ?_) (fun c_64 => ?_)
            · have n_64 := Int32.not_le.mpr c_64
              refine lv_aload_n S.1 S.2.1 dX5_hoursFor_96 rfl (lv_at hl 0 rfl) ?_
              refine gf_X5_9 S hK hP 0 0 rfl rfl rfl dX5_hoursFor_97 ?_
              refine lv_iload S.1 S.2.1 dX5_hoursFor_100 (lv_at hl 4 rfl) ?_
              refine lv_iload S.1 S.2.1 dX5_hoursFor_102 (lv_at hl 5 rfl) ?_
              refine b_iastN (i := 21 + 7 * k_pp + 2) S hK hP hD hS 1 0 rfl rfl (by omega) (by decide) (sgs_upd (by omega)) (Bs1 := [[mObj am q], [(am 1, .inl (E.2.1, 77, .inl (sg (upd xi (21 + 7 * k_pp + 2) (r (21 + 7 * k_pp + 2))) 77)))], [(am 4, .inl (E.2.1, 8, .inl (sg f 8)))], [(am 3, .inl (E.2.1, 77, .inl (sg ai 77)))]]) rfl dX5_hoursFor_104 (fun H locs hP hD hS => ?_)
              obtain ⟨r_104, er_104⟩ : ∃ z, z = upd xi (21 + 7 * k_pp + 2) (r (21 + 7 * k_pp + 2)) := ⟨_, rfl⟩
              rw [← er_104] at hP hD
              refine lv_iload S.1 S.2.1 dX5_hoursFor_105 (lv_at hl 6 rfl) ?_
              refine lv_bipush (v := 9) S.1 S.2.1 dX5_hoursFor_107 (by decide) ?_
              refine lv_icmp_gt (tgt := 117) S.1 S.2.1 dX5_hoursFor_109 (by decide) (fun c_109 => ?_) (fun c_109 => ?_)
              · have n_109 := Int32.not_le.mpr c_109
                refine lv_aload_n S.1 S.2.1 dX5_hoursFor_117 rfl (lv_at hl 0 rfl) ?_
                refine lv_ldc (v := (-1000004)) S.1 S.2.1 S.2.2.2.1 (S.2.2.2.2 _ (List.mem_cons_of_mem _ kk_X5_65)) dX5_hoursFor_118 ?_
                refine go_I (run_V (As := [.int (-1000004)]) (rest := []) (n := 1) S hK (bl_P hP [0, 2] rfl) (bl_D hD [0, 2] rfl rfl) (c_X5_finding l E am q f (-1000004) 3 (by decide) (by decide)) gV_X5_66 (by decide +kernel) rfl ⟨rfl, rfl⟩ ⟨Nat.le_of_ble_eq_true rfl, Nat.le_of_ble_eq_true rfl⟩ (ci := 5) (q0 := 0) rfl rfl hl.1 (Nat.le_of_ble_eq_true rfl) dX5_hoursFor_120 ⟨Nat.zero_le _, Nat.zero_le _⟩) hP hD hS [0, 2] rfl (had_cons rfl (had_cons cell_ad rfl)) (Bs' := [[mObj am q], [(am 1, .inl (E.2.1, 77, .inl (sg r_104 77)))], [(am 4, .inl (E.2.1, 8, .inl (sg (findM f 3) 8)))], [(am 3, .inl (E.2.1, 77, .inl (sg ai 77)))]]) rfl (fun H locs hP hD hS => ?_)
                obtain ⟨r_120, er_120⟩ : ∃ z : Row, z = findM f 3 := ⟨_, rfl⟩
                rw [← er_120] at hP hD
                exact retIx S hr hlk ai (by have e9 : rHours r pp v n9 = fstR r (fun h => decide (v ≤ daysF (upd r (21 + 7 * k_pp + 2) (nI h)) k_n9 (21 + 7 * k_pp + 5))) 10 := (by unfold rHours; rw [if_pos c_5, if_pos c_16, if_pos c_23]; (try rw [ek_pp]); (try rw [ek_n9]); (try rw [tN_nI (k := k_pp) (by omega)]); (try rw [tN_nI (k := k_n9) (by omega)]); try rfl); have e8 : fstR r (fun h => decide (v ≤ daysF (upd r (21 + 7 * k_pp + 2) (nI h)) k_n9 (21 + 7 * k_pp + 5))) 10 = .inl 3 := fst_out (fun j hj => decide_eq_false (hno j (by have z9 : 9 < i := lt_of_nI c_64 (by omega) (by omega); omega))); have e7 : r_104 = r := (by rw [er_104, hxi, fa_tw]; exact upd_self); rw [e7] at hP; rw [er_120] at hP; rw [e9, e8]; exact hP) hS (by have e9 : rHours r pp v n9 = fstR r (fun h => decide (v ≤ daysF (upd r (21 + 7 * k_pp + 2) (nI h)) k_n9 (21 + 7 * k_pp + 5))) 10 := (by unfold rHours; rw [if_pos c_5, if_pos c_16, if_pos c_23]; (try rw [ek_pp]); (try rw [ek_n9]); (try rw [tN_nI (k := k_pp) (by omega)]); (try rw [tN_nI (k := k_n9) (by omega)]); try rfl); have e8 : fstR r (fun h => decide (v ≤ daysF (upd r (21 + 7 * k_pp + 2) (nI h)) k_n9 (21 + 7 * k_pp + 5))) 10 = .inl 3 := fst_out (fun j hj => decide_eq_false (hno j (by have z9 : 9 < i := lt_of_nI c_64 (by omega) (by omega); omega))); rw [e9, e8]; decide) dX5_hoursFor_123
              · have n_109 := Int32.not_lt.mp c_109
                refine lv_iload S.1 S.2.1 dX5_hoursFor_112 (lv_at hl 6 rfl) ?_
                refine lv_goto (tgt := 123) S.1 S.2.1 dX5_hoursFor_114 (by decide) ?_
                exact retIx S hr hlk r (absurd c_64 c_109) hS (absurd c_64 c_109) dX5_hoursFor_123
            · have n_64 := Int32.not_lt.mp c_64
              have hi2 : i ≤ 9 := Nat.le_of_not_lt (fun z => c_64 (show nI 9 < nI i from nI_lt z (by omega)))
              have hRx : RI xi := by (rw [hxi]; exact RI_pf (f := 2) hR (by decide) ⟨i, hi2, rfl⟩)
              refine lv_aload_n S.1 S.2.1 dX5_hoursFor_67 rfl (lv_at hl 0 rfl) ?_
              refine lv_iload_n S.1 S.2.1 dX5_hoursFor_68 rfl (lv_at hl 1 rfl) ?_
              refine lv_eqi (y := nI k_pp) ek_pp ?_
              refine lv_iconst (v := 5) S.1 S.2.1 dX5_hoursFor_69 (by decide) ?_
              refine go_S (run_S (As := [.int (nI k_pp), .int 5]) (rest := [.ref (am 0)]) (n := 2) S hK (bl_P hP [] rfl) (bl_D hD [] rfl rfl) (c_X5_potterAt l E k_pp 5 ) gS_X5_82 (by decide +kernel) rfl ⟨rfl, rfl⟩ ⟨Nat.le_of_ble_eq_true rfl, Nat.le_of_ble_eq_true rfl⟩ hl.1 (Nat.le_of_ble_eq_true rfl) dX5_hoursFor_70 ⟨Nat.zero_le _, Nat.zero_le _⟩) ?_
              refine lv_iload_n S.1 S.2.1 dX5_hoursFor_73 rfl (lv_at hl 3 rfl) ?_
              refine lv_eqi (y := nI k_n9) ek_n9 ?_
              refine go_I (run_V (As := [.int (nI (21 + 7 * k_pp + 5)), .int (nI k_n9)]) (rest := []) (n := 2) S hK (bl_P hP [0, 1, 3] rfl) (bl_D hD [0, 1, 3] rfl rfl) (c_X5_behind l E am q xi ai (21 + 7 * k_pp + 5) k_n9 (by omega) (by omega) hRx) gV_X5_168 (by decide +kernel) rfl ⟨rfl, rfl⟩ ⟨Nat.le_of_ble_eq_true rfl, Nat.le_of_ble_eq_true rfl⟩ (ci := 5) (q0 := 0) rfl rfl hl.1 (Nat.le_of_ble_eq_true rfl) dX5_hoursFor_74 ⟨Nat.zero_le _, Nat.zero_le _⟩) hP hD hS [0, 1, 3] rfl (had_cons rfl (had_cons rfl (had_cons cell_ad rfl))) (Bs' := [[mObj am q], [(am 1, .inl (E.2.1, 77, .inl (sg xi 77)))], [(am 4, .inl (E.2.1, 8, .inl (sg f 8)))], [(am 3, .inl (E.2.1, 77, .inl (sg xi 77)))]]) rfl (fun H locs hP hD hS => ?_)
              refine lv_iload_n S.1 S.2.1 dX5_hoursFor_77 rfl (lv_at hl 2 rfl) ?_
              refine lv_eqi (y := nI k_v) ek_v ?_
              refine lv_icmp_ge (tgt := 96) S.1 S.2.1 dX5_hoursFor_78 (by decide) (fun c_78 => ?_) (fun c_78 => ?_)
              · have n_78 := Int32.not_lt.mpr c_78
                refine lv_aload_n S.1 S.2.1 dX5_hoursFor_96 rfl (lv_at hl 0 rfl) ?_
                refine gf_X5_9 S hK hP 0 0 rfl rfl rfl dX5_hoursFor_97 ?_
                refine lv_iload S.1 S.2.1 dX5_hoursFor_100 (lv_at hl 4 rfl) ?_
                refine lv_iload S.1 S.2.1 dX5_hoursFor_102 (lv_at hl 5 rfl) ?_
                refine b_iastN (i := 21 + 7 * k_pp + 2) S hK hP hD hS 1 0 rfl rfl (by omega) (by decide) (sgs_upd (by omega)) (Bs1 := [[mObj am q], [(am 1, .inl (E.2.1, 77, .inl (sg (upd xi (21 + 7 * k_pp + 2) (r (21 + 7 * k_pp + 2))) 77)))], [(am 4, .inl (E.2.1, 8, .inl (sg f 8)))], [(am 3, .inl (E.2.1, 77, .inl (sg xi 77)))]]) rfl dX5_hoursFor_104 (fun H locs hP hD hS => ?_)
                obtain ⟨r_104_2, er_104_2⟩ : ∃ z, z = upd xi (21 + 7 * k_pp + 2) (r (21 + 7 * k_pp + 2)) := ⟨_, rfl⟩
                rw [← er_104_2] at hP hD
                refine lv_iload S.1 S.2.1 dX5_hoursFor_105 (lv_at hl 6 rfl) ?_
                refine lv_bipush (v := 9) S.1 S.2.1 dX5_hoursFor_107 (by decide) ?_
                refine lv_icmp_gt (tgt := 117) S.1 S.2.1 dX5_hoursFor_109 (by decide) (fun c_109 => ?_) (fun c_109 => ?_)
                · have n_109 := Int32.not_le.mpr c_109
                  refine lv_aload_n S.1 S.2.1 dX5_hoursFor_117 rfl (lv_at hl 0 rfl) ?_
                  refine lv_ldc (v := (-1000004)) S.1 S.2.1 S.2.2.2.1 (S.2.2.2.2 _ (List.mem_cons_of_mem _ kk_X5_65)) dX5_hoursFor_118 ?_
                  refine go_I (run_V (As := [.int (-1000004)]) (rest := []) (n := 1) S hK (bl_P hP [0, 2] rfl) (bl_D hD [0, 2] rfl rfl) (c_X5_finding l E am q f (-1000004) 3 (by decide) (by decide)) gV_X5_66 (by decide +kernel) rfl ⟨rfl, rfl⟩ ⟨Nat.le_of_ble_eq_true rfl, Nat.le_of_ble_eq_true rfl⟩ (ci := 5) (q0 := 0) rfl rfl hl.1 (Nat.le_of_ble_eq_true rfl) dX5_hoursFor_120 ⟨Nat.zero_le _, Nat.zero_le _⟩) hP hD hS [0, 2] rfl (had_cons rfl (had_cons cell_ad rfl)) (Bs' := [[mObj am q], [(am 1, .inl (E.2.1, 77, .inl (sg r_104_2 77)))], [(am 4, .inl (E.2.1, 8, .inl (sg (findM f 3) 8)))], [(am 3, .inl (E.2.1, 77, .inl (sg xi 77)))]]) rfl (fun H locs hP hD hS => ?_)
                  obtain ⟨r_120_3, er_120_3⟩ : ∃ z : Row, z = findM f 3 := ⟨_, rfl⟩
                  rw [← er_120_3] at hP hD
                  exact retIx S hr hlk r (absurd c_109 (nI_nlt (a := 9) (b := i) hi2 (by decide))) hS (absurd c_109 (nI_nlt (a := 9) (b := i) hi2 (by decide))) dX5_hoursFor_123
                · have n_109 := Int32.not_lt.mp c_109
                  refine lv_iload S.1 S.2.1 dX5_hoursFor_112 (lv_at hl 6 rfl) ?_
                  refine lv_goto (tgt := 123) S.1 S.2.1 dX5_hoursFor_114 (by decide) ?_
                  exact retIx S hr hlk xi (by have e9 : rHours r pp v n9 = fstR r (fun h => decide (v ≤ daysF (upd r (21 + 7 * k_pp + 2) (nI h)) k_n9 (21 + 7 * k_pp + 5))) 10 := (by unfold rHours; rw [if_pos c_5, if_pos c_16, if_pos c_23]; (try rw [ek_pp]); (try rw [ek_n9]); (try rw [tN_nI (k := k_pp) (by omega)]); (try rw [tN_nI (k := k_n9) (by omega)]); try rfl); have e8 : fstR r (fun h => decide (v ≤ daysF (upd r (21 + 7 * k_pp + 2) (nI h)) k_n9 (21 + 7 * k_pp + 5))) 10 = .inr (r, nI i) := fst_in (by omega) (fun j hj => decide_eq_false (hno j hj)) (decide_eq_true (by rw [← hxi, ek_v]; exact c_78)); have e7 : r_104_2 = r := (by rw [er_104_2, hxi, fa_tw]; exact upd_self); rw [e7] at hP; rw [e9, e8]; exact hP) hS (by have e9 : rHours r pp v n9 = fstR r (fun h => decide (v ≤ daysF (upd r (21 + 7 * k_pp + 2) (nI h)) k_n9 (21 + 7 * k_pp + 5))) 10 := (by unfold rHours; rw [if_pos c_5, if_pos c_16, if_pos c_23]; (try rw [ek_pp]); (try rw [ek_n9]); (try rw [tN_nI (k := k_pp) (by omega)]); (try rw [tN_nI (k := k_n9) (by omega)]); try rfl); have e8 : fstR r (fun h => decide (v ≤ daysF (upd r (21 + 7 * k_pp + 2) (nI h)) k_n9 (21 + 7 * k_pp + 5))) 10 = .inr (r, nI i) := fst_in (by omega) (fun j hj => decide_eq_false (hno j hj)) (decide_eq_true (by rw [← hxi, ek_v]; exact c_78)); rw [e9, e8]; rfl) dX5_hoursFor_123
              · have n_78 := Int32.not_le.mp c_78
                refine lv_iinc (v := nI (i + 1)) (lv' := [(6, .int (nI (i + 1))), (0, .ref (am 0)), (1, .int pp), (2, .int v), (3, .int n9), (4, .int (nI (21 + 7 * k_pp + 2))), (5, .int (r (21 + 7 * k_pp + 2)))]) S.1 S.2.1 dX5_hoursFor_81 hl (k := 6) rfl (nI_1 i) (by decide) rfl (fun ls hl => ?_)
                refine lv_aload_n S.1 S.2.1 dX5_hoursFor_84 rfl (lv_at hl 1 rfl) ?_
                refine gf_X5_9 S hK hP 0 0 rfl rfl rfl dX5_hoursFor_85 ?_
                refine lv_iload S.1 S.2.1 dX5_hoursFor_88 (lv_at hl 5 rfl) ?_
                refine lv_iload S.1 S.2.1 dX5_hoursFor_90 (lv_at hl 0 rfl) ?_
                refine b_iastN (i := 21 + 7 * k_pp + 2) S hK hP hD hS 1 0 rfl rfl (by omega) (by decide) (sgs_upd (by omega)) (Bs1 := [[mObj am q], [(am 1, .inl (E.2.1, 77, .inl (sg (upd xi (21 + 7 * k_pp + 2) (nI (i + 1))) 77)))], [(am 4, .inl (E.2.1, 8, .inl (sg f 8)))], [(am 3, .inl (E.2.1, 77, .inl (sg xi 77)))]]) rfl dX5_hoursFor_92 (fun H locs hP hD hS => ?_)
                obtain ⟨r_92, er_92⟩ : ∃ z, z = upd xi (21 + 7 * k_pp + 2) (nI (i + 1)) := ⟨_, rfl⟩
                rw [← er_92] at hP hD
                refine lv_goto (tgt := 60) S.1 S.2.1 dX5_hoursFor_93 (by decide) ?_
                exact ih_60 (i + 1) r_92 xi (by omega) (by omega) (by rw [er_92, hxi, fa_tw]) (lt_s hno (by rw [← hxi, ek_v]; exact c_78)) H locs hP hD hS ls (lv_sub hl [1, 2, 3, 4, 5, 6, 0] rfl)
        exact L_60 (10 + 1) 0 r_59 x (by omega) (by omega) (by rw [er_59]; rfl) (fun j hj => absurd hj (by omega)) H locs hP hD hS ls (lv_sub hl [3, 4, 5, 6, 2, 1, 0] rfl)
      · refine lv_aload_n S.1 S.2.1 dX5_hoursFor_26 rfl (lv_at hl 0 rfl) ?_
        refine lv_ldc (v := (-1000001)) S.1 S.2.1 S.2.2.2.1 (S.2.2.2.2 _ (List.mem_cons_of_mem _ kk_X5_60)) dX5_hoursFor_27 ?_
        refine go_I (run_V (As := [.int (-1000001)]) (rest := []) (n := 1) S hK (bl_P hP [0, 2] rfl) (bl_D hD [0, 2] rfl rfl) (c_X5_finding l E am q f (-1000001) 0 (by decide) (by decide)) gV_X5_66 (by decide +kernel) rfl ⟨rfl, rfl⟩ ⟨Nat.le_of_ble_eq_true rfl, Nat.le_of_ble_eq_true rfl⟩ (ci := 5) (q0 := 0) rfl rfl hl.1 (Nat.le_of_ble_eq_true rfl) dX5_hoursFor_29 ⟨Nat.zero_le _, Nat.zero_le _⟩) hP hD hS [0, 2] rfl (had_cons rfl (had_cons cell_ad rfl)) (Bs' := [[mObj am q], [(am 1, .inl (E.2.1, 77, .inl (sg r 77)))], [(am 4, .inl (E.2.1, 8, .inl (sg (findM f 0) 8)))], [(am 3, .inl (E.2.1, 77, .inl (sg x 77)))]]) rfl (fun H locs hP hD hS => ?_)
        obtain ⟨r_29_4, er_29_4⟩ : ∃ z : Row, z = findM f 0 := ⟨_, rfl⟩
        rw [← er_29_4] at hP hD
        exact retIx S hr hlk x (by have e9 : rHours r pp v n9 = .inl 0 := (by unfold rHours; rw [if_pos c_5, if_pos c_16, if_neg c_23]); rw [er_29_4] at hP; rw [e9, fndM_inl]; exact hP) hS (by have e9 : rHours r pp v n9 = .inl 0 := (by unfold rHours; rw [if_pos c_5, if_pos c_16, if_neg c_23]); rw [e9]; decide) dX5_hoursFor_32
set_option maxHeartbeats 800000 in
set_option maxRecDepth 100000 in
theorem c_X5_griefFor (l : Launch) (E : EV) (am : Nat → Nat) (q r f x : Row) (pp n9 : Int32) (hR : RI r) : Met l yX5_griefFor (wq yX5_griefFor cX5_griefFor 7 (some .int)) ({ frames := 8, cells := 0, slots := 0, locals := 171 }) (preB E [.ref (am 0), .int pp, .int n9] [[mObj am q], [(am 1, .inl (E.2.1, 77, .inl (sg r 77)))], [(am 4, .inl (E.2.1, 8, .inl (sg f 8)))], [(am 3, .inl (E.2.1, 77, .inl (sg x 77)))]]) (qIx E [[mObj am q], [(am 1, .inl (E.2.1, 77, .inl (sg r 77)))], [(am 4, .inl (E.2.1, 8, .inl (sg f 8)))], [(am 3, .inl (E.2.1, 77, .inl (sg x 77)))]] (fun u9 => [[mObj am q], [(am 1, .inl (E.2.1, 77, .inl (sg r 77)))], [(am 4, .inl (E.2.1, 8, .inl (sg (fndM f (rGriefFor r pp n9)) 8)))], [(am 3, .inl (E.2.1, 77, .inl (sg u9 77)))]]) (ansR (rGriefFor r pp n9))) 0 0 (inB [[mObj am q], [(am 1, .inl (E.2.1, 77, .inl (sg r 77)))], [(am 4, .inl (E.2.1, 8, .inl (sg f 8)))], [(am 3, .inl (E.2.1, 77, .inl (sg x 77)))]]) := by
  refine M_mk RX5 (by decide) rfl (Nat.le_of_ble_eq_true rfl) ?_
  intro p e s m below meth c S hr hlk hK hP hD hS ls hl
  have hl : lv_has ls 7 [(0, .ref (am 0)), (1, .int pp), (2, .int n9)] := hl
  obtain ⟨n, d, hn, hn8, hd, hd5, ho, hso, hli, hsp, hpt⟩ := id hR
  obtain ⟨H, hH⟩ : ∃ z, z = s.heap := ⟨_, rfl⟩
  obtain ⟨locs, hlocs⟩ : ∃ z : List Loc, z = [] := ⟨_, rfl⟩
  have hP : PE E [[mObj am q], [(am 1, .inl (E.2.1, 77, .inl (sg r 77)))], [(am 4, .inl (E.2.1, 8, .inl (sg f 8)))], [(am 3, .inl (E.2.1, 77, .inl (sg x 77)))]] H := by rw [hH]; exact hP
  have hS : va_S (inB [[mObj am q], [(am 1, .inl (E.2.1, 77, .inl (sg r 77)))], [(am 4, .inl (E.2.1, 8, .inl (sg f 8)))], [(am 3, .inl (E.2.1, 77, .inl (sg x 77)))]]) s.heap H locs := by rw [hH, hlocs]; exact hS
  show W p l e ({ frames := 8, cells := 0, slots := 0, locals := 171 }) s m ([.ref (am 0), .int pp, .int n9] : List Value).toArray below meth c s.heap [] 0 0 _ _
  suffices hgo : W p l e ({ frames := 8, cells := 0, slots := 0, locals := 171 }) s m ([.ref (am 0), .int pp, .int n9] : List Value).toArray below meth c H locs 0 0 (MQ below (qIx E [[mObj am q], [(am 1, .inl (E.2.1, 77, .inl (sg r 77)))], [(am 4, .inl (E.2.1, 8, .inl (sg f 8)))], [(am 3, .inl (E.2.1, 77, .inl (sg x 77)))]] (fun u9 => [[mObj am q], [(am 1, .inl (E.2.1, 77, .inl (sg r 77)))], [(am 4, .inl (E.2.1, 8, .inl (sg (fndM f (rGriefFor r pp n9)) 8)))], [(am 3, .inl (E.2.1, 77, .inl (sg u9 77)))]]) (ansR (rGriefFor r pp n9))) ([.ref (am 0), .int pp, .int n9] : List Value).toArray s 0 0 (inB [[mObj am q], [(am 1, .inl (E.2.1, 77, .inl (sg r 77)))], [(am 4, .inl (E.2.1, 8, .inl (sg f 8)))], [(am 3, .inl (E.2.1, 77, .inl (sg x 77)))]])) (F0 m 0 ls []) by rw [hH, hlocs] at hgo; exact hgo
  clear hH hlocs
  refine lv_aload_n S.1 S.2.1 dX5_griefFor_0 rfl (lv_at hl 0 rfl) ?_
  refine lv_iload_n S.1 S.2.1 dX5_griefFor_1 rfl (lv_at hl 1 rfl) ?_
  refine go_S (run_V (As := [.int pp]) (rest := []) (n := 1) S hK (bl_P hP [0, 1] rfl) (bl_D hD [0, 1] rfl rfl) (c_X5_isPotter l E am q r pp n hn hn8) gV_X5_122 (by decide +kernel) rfl ⟨rfl, rfl⟩ ⟨Nat.le_of_ble_eq_true rfl, Nat.le_of_ble_eq_true rfl⟩ (ci := 5) (q0 := 0) rfl rfl hl.1 (Nat.le_of_ble_eq_true rfl) dX5_griefFor_2 ⟨Nat.zero_le _, Nat.zero_le _⟩) ?_
  refine b_ifeq (tgt := 15) S.1 S.2.1 dX5_griefFor_5 (by decide) (fun c_5 => ?_) (fun c_5 => ?_)
  · refine lv_aload_n S.1 S.2.1 dX5_griefFor_15 rfl (lv_at hl 0 rfl) ?_
    refine lv_ldc (v := (-1000001)) S.1 S.2.1 S.2.2.2.1 (S.2.2.2.2 _ (List.mem_cons_of_mem _ kk_X5_60)) dX5_griefFor_16 ?_
    refine go_I (run_V (As := [.int (-1000001)]) (rest := []) (n := 1) S hK (bl_P hP [0, 2] rfl) (bl_D hD [0, 2] rfl rfl) (c_X5_finding l E am q f (-1000001) 0 (by decide) (by decide)) gV_X5_66 (by decide +kernel) rfl ⟨rfl, rfl⟩ ⟨Nat.le_of_ble_eq_true rfl, Nat.le_of_ble_eq_true rfl⟩ (ci := 5) (q0 := 0) rfl rfl hl.1 (Nat.le_of_ble_eq_true rfl) dX5_griefFor_18 ⟨Nat.zero_le _, Nat.zero_le _⟩) hP hD hS [0, 2] rfl (had_cons rfl (had_cons cell_ad rfl)) (Bs' := [[mObj am q], [(am 1, .inl (E.2.1, 77, .inl (sg r 77)))], [(am 4, .inl (E.2.1, 8, .inl (sg (findM f 0) 8)))], [(am 3, .inl (E.2.1, 77, .inl (sg x 77)))]]) rfl (fun H locs hP hD hS => ?_)
    obtain ⟨r_18, er_18⟩ : ∃ z : Row, z = findM f 0 := ⟨_, rfl⟩
    rw [← er_18] at hP hD
    exact retIx S hr hlk x (by have e9 : rGriefFor r pp n9 = .inl 0 := (by unfold rGriefFor; rw [if_neg c_5]); rw [er_18] at hP; rw [e9, fndM_inl]; exact hP) hS (by have e9 : rGriefFor r pp n9 = .inl 0 := (by unfold rGriefFor; rw [if_neg c_5]); rw [e9]; decide) dX5_griefFor_21
  · obtain ⟨k_pp, hk_pp, ek_pp⟩ := pot_nat c_5 hn (by omega)
    refine lv_iload_n S.1 S.2.1 dX5_griefFor_8 rfl (lv_at hl 2 rfl) ?_
    refine go_S (run_S (As := [.int n9]) (rest := []) (n := 1) S hK (bl_P hP [] rfl) (bl_D hD [] rfl rfl) (c_X5_isThought l E n9 ) gS_X5_183 (by decide +kernel) rfl ⟨rfl, rfl⟩ ⟨Nat.le_of_ble_eq_true rfl, Nat.le_of_ble_eq_true rfl⟩ hl.1 (Nat.le_of_ble_eq_true rfl) dX5_griefFor_9 ⟨Nat.zero_le _, Nat.zero_le _⟩) ?_
    refine b_ifne (tgt := 22) S.1 S.2.1 dX5_griefFor_12 (by decide) (fun c_12 => ?_) (fun c_12 => ?_)
    · obtain ⟨k_n9, hk_n9, ek_n9⟩ := nI_of2 (n := 60) (by decide) (Int32.not_lt.mpr c_12.1) c_12.2
      refine lv_iload_n S.1 S.2.1 dX5_griefFor_22 rfl (lv_at hl 1 rfl) ?_
      refine lv_eqi (y := nI k_pp) ek_pp ?_
      refine lv_iconst (v := 1) S.1 S.2.1 dX5_griefFor_23 (by decide) ?_
      refine go_S (run_S (As := [.int (nI k_pp), .int 1]) (rest := []) (n := 2) S hK (bl_P hP [] rfl) (bl_D hD [] rfl rfl) (c_X5_potterAt l E k_pp 1 ) gS_X5_82 (by decide +kernel) rfl ⟨rfl, rfl⟩ ⟨Nat.le_of_ble_eq_true rfl, Nat.le_of_ble_eq_true rfl⟩ hl.1 (Nat.le_of_ble_eq_true rfl) dX5_griefFor_24 ⟨Nat.zero_le _, Nat.zero_le _⟩) ?_
      refine lv_istore_n (lv' := [(3, .int (nI (21 + 7 * k_pp + 1))), (0, .ref (am 0)), (1, .int pp), (2, .int n9)]) S.1 S.2.1 dX5_griefFor_27 rfl hl (by decide) rfl (fun ls hl => ?_)
      refine lv_aload_n S.1 S.2.1 dX5_griefFor_28 rfl (lv_at hl 1 rfl) ?_
      refine gf_X5_9 S hK hP 0 0 rfl rfl rfl dX5_griefFor_29 ?_
      refine lv_iload_n S.1 S.2.1 dX5_griefFor_32 rfl (lv_at hl 0 rfl) ?_
      refine b_ialdN (i := 21 + 7 * k_pp + 1) S hK hP 1 0 rfl rfl (by omega) (by decide) dX5_griefFor_33 ?_
      refine lv_eqi (y := r (21 + 7 * k_pp + 1)) (sg_at (by omega)) ?_
      refine lv_istore (lv' := [(4, .int (r (21 + 7 * k_pp + 1))), (3, .int (nI (21 + 7 * k_pp + 1))), (0, .ref (am 0)), (1, .int pp), (2, .int n9)]) S.1 S.2.1 dX5_griefFor_34 hl (by decide) rfl (fun ls hl => ?_)
      refine lv_aload_n S.1 S.2.1 dX5_griefFor_36 rfl (lv_at hl 2 rfl) ?_
      refine lv_iload_n S.1 S.2.1 dX5_griefFor_37 rfl (lv_at hl 3 rfl) ?_
      refine lv_eqi (y := nI k_pp) ek_pp ?_
      refine lv_bipush (v := 6) S.1 S.2.1 dX5_griefFor_38 (by decide) ?_
      refine go_S (run_V (As := [.int (nI k_pp), .int 6]) (rest := []) (n := 2) S hK (bl_P hP [0, 1] rfl) (bl_D hD [0, 1] rfl rfl) (c_X5_potterIs l E am q r k_pp 6 (by omega) (by omega)) gV_X5_92 (by decide +kernel) rfl ⟨rfl, rfl⟩ ⟨Nat.le_of_ble_eq_true rfl, Nat.le_of_ble_eq_true rfl⟩ (ci := 5) (q0 := 0) rfl rfl hl.1 (Nat.le_of_ble_eq_true rfl) dX5_griefFor_40 ⟨Nat.zero_le _, Nat.zero_le _⟩) ?_
      refine lv_istore (lv' := [(5, .int (r (21 + 7 * k_pp + 6))), (4, .int (r (21 + 7 * k_pp + 1))), (3, .int (nI (21 + 7 * k_pp + 1))), (0, .ref (am 0)), (1, .int pp), (2, .int n9)]) S.1 S.2.1 dX5_griefFor_43 hl (by decide) rfl (fun ls hl => ?_)
      refine lv_iconst (v := 0) S.1 S.2.1 dX5_griefFor_45 (by decide) ?_
      refine lv_istore (lv' := [(6, .int 0), (5, .int (r (21 + 7 * k_pp + 6))), (4, .int (r (21 + 7 * k_pp + 1))), (3, .int (nI (21 + 7 * k_pp + 1))), (0, .ref (am 0)), (1, .int pp), (2, .int n9)]) S.1 S.2.1 dX5_griefFor_46 hl (by decide) rfl (fun ls hl => ?_)
      refine lv_aload_n S.1 S.2.1 dX5_griefFor_48 rfl (lv_at hl 4 rfl) ?_
      refine gf_X5_9 S hK hP 0 0 rfl rfl rfl dX5_griefFor_49 ?_
      refine lv_iload_n S.1 S.2.1 dX5_griefFor_52 rfl (lv_at hl 3 rfl) ?_
      refine lv_iconst (v := 0) S.1 S.2.1 dX5_griefFor_53 (by decide) ?_
      refine b_iastN (i := 21 + 7 * k_pp + 1) S hK hP hD hS 1 0 rfl rfl (by omega) (by decide) (sgs_upd (by omega)) (Bs1 := [[mObj am q], [(am 1, .inl (E.2.1, 77, .inl (sg (upd r (21 + 7 * k_pp + 1) 0) 77)))], [(am 4, .inl (E.2.1, 8, .inl (sg f 8)))], [(am 3, .inl (E.2.1, 77, .inl (sg x 77)))]]) rfl dX5_griefFor_54 (fun H locs hP hD hS => ?_)
      obtain ⟨r_54, er_54⟩ : ∃ z, z = upd r (21 + 7 * k_pp + 1) 0 := ⟨_, rfl⟩
      rw [← er_54] at hP hD
      have hr_54_1 : r_54 1 = nI n := by rw [er_54]; exact (upd_ne (by omega)).trans hn
      have hr_54_0 : r_54 0 = nI d := by rw [er_54]; exact (upd_ne (by omega)).trans hd
      have L_55 : ∀ (fu : Nat) (i : Nat) (xi : Row) (ai : Row), (i ≤ 100) → (100 < i + fu) → (xi = upd r (21 + 7 * k_pp + 1) (nI i)) → (∀ j, j < i → ¬ (daysF (upd r (21 + 7 * k_pp + 1) (nI j)) k_n9 (21 + 7 * k_pp + 6) = r (21 + 7 * k_pp + 6))) → ∀ (H : Heap) (locs : List Loc), PE E [[mObj am q], [(am 1, .inl (E.2.1, 77, .inl (sg xi 77)))], [(am 4, .inl (E.2.1, 8, .inl (sg f 8)))], [(am 3, .inl (E.2.1, 77, .inl (sg ai 77)))]] H → DE (inB [[mObj am q], [(am 1, .inl (E.2.1, 77, .inl (sg r 77)))], [(am 4, .inl (E.2.1, 8, .inl (sg f 8)))], [(am 3, .inl (E.2.1, 77, .inl (sg x 77)))]]) [[mObj am q], [(am 1, .inl (E.2.1, 77, .inl (sg xi 77)))], [(am 4, .inl (E.2.1, 8, .inl (sg f 8)))], [(am 3, .inl (E.2.1, 77, .inl (sg ai 77)))]] → va_S (inB [[mObj am q], [(am 1, .inl (E.2.1, 77, .inl (sg r 77)))], [(am 4, .inl (E.2.1, 8, .inl (sg f 8)))], [(am 3, .inl (E.2.1, 77, .inl (sg x 77)))]]) s.heap H locs → ∀ (ls : Array Slot), lv_has ls 7 [(0, .ref (am 0)), (1, .int pp), (2, .int n9), (3, .int (nI (21 + 7 * k_pp + 1))), (4, .int (r (21 + 7 * k_pp + 1))), (5, .int (r (21 + 7 * k_pp + 6))), (6, .int (nI i))] → W p l e ({ frames := 8, cells := 0, slots := 0, locals := 171 }) s m ([.ref (am 0), .int pp, .int n9] : List Value).toArray below meth c H locs 0 0 (MQ below (qIx E [[mObj am q], [(am 1, .inl (E.2.1, 77, .inl (sg r 77)))], [(am 4, .inl (E.2.1, 8, .inl (sg f 8)))], [(am 3, .inl (E.2.1, 77, .inl (sg x 77)))]] (fun u9 => [[mObj am q], [(am 1, .inl (E.2.1, 77, .inl (sg r 77)))], [(am 4, .inl (E.2.1, 8, .inl (sg (fndM f (rGriefFor r pp n9)) 8)))], [(am 3, .inl (E.2.1, 77, .inl (sg u9 77)))]]) (ansR (rGriefFor r pp n9))) ([.ref (am 0), .int pp, .int n9] : List Value).toArray s 0 0 (inB [[mObj am q], [(am 1, .inl (E.2.1, 77, .inl (sg r 77)))], [(am 4, .inl (E.2.1, 8, .inl (sg f 8)))], [(am 3, .inl (E.2.1, 77, .inl (sg x 77)))]])) (F0 m 55 ls []) := by
        intro fu
        induction fu with
        | zero =>
          intro i xi ai hi hf hxi hno
          omega
        | succ fu ih_55 =>
          intro i xi ai hi hf hxi hno H locs hP hD hS ls hl
          refine lv_iload S.1 S.2.1 dX5_griefFor_55 (lv_at hl 6 rfl) ?_
          refine lv_bipush (v := 99) S.1 S.2.1 dX5_griefFor_57 (by decide) ?_
          refine lv_icmp_gt (tgt := 92) S.1 S.2.1 dX5_griefFor_59 (by decide) (fun c_59 => ?_) (fun c_59 => ?_)
          · have n_59 := Int32.not_le.mpr c_59
            refine lv_aload_n S.1 S.2.1 dX5_griefFor_92 rfl (lv_at hl 0 rfl) ?_
            refine gf_X5_9 S hK hP 0 0 rfl rfl rfl dX5_griefFor_93 ?_
            refine lv_iload_n S.1 S.2.1 dX5_griefFor_96 rfl (lv_at hl 3 rfl) ?_
            refine lv_iload S.1 S.2.1 dX5_griefFor_97 (lv_at hl 4 rfl) ?_
            refine b_iastN (i := 21 + 7 * k_pp + 1) S hK hP hD hS 1 0 rfl rfl (by omega) (by decide) (sgs_upd (by omega)) (Bs1 := [[mObj am q], [(am 1, .inl (E.2.1, 77, .inl (sg (upd xi (21 + 7 * k_pp + 1) (r (21 + 7 * k_pp + 1))) 77)))], [(am 4, .inl (E.2.1, 8, .inl (sg f 8)))], [(am 3, .inl (E.2.1, 77, .inl (sg ai 77)))]]) rfl dX5_griefFor_99 (fun H locs hP hD hS => ?_)
            obtain ⟨r_99, er_99⟩ : ∃ z, z = upd xi (21 + 7 * k_pp + 1) (r (21 + 7 * k_pp + 1)) := ⟨_, rfl⟩
            rw [← er_99] at hP hD
            refine lv_iload S.1 S.2.1 dX5_griefFor_100 (lv_at hl 6 rfl) ?_
            refine lv_bipush (v := 99) S.1 S.2.1 dX5_griefFor_102 (by decide) ?_
            refine lv_icmp_gt (tgt := 112) S.1 S.2.1 dX5_griefFor_104 (by decide) (fun c_104 => ?_) (fun c_104 => ?_)
            · have n_104 := Int32.not_le.mpr c_104
              refine lv_aload_n S.1 S.2.1 dX5_griefFor_112 rfl (lv_at hl 0 rfl) ?_
              refine lv_ldc (v := (-1000004)) S.1 S.2.1 S.2.2.2.1 (S.2.2.2.2 _ (List.mem_cons_of_mem _ kk_X5_65)) dX5_griefFor_113 ?_
              refine go_I (run_V (As := [.int (-1000004)]) (rest := []) (n := 1) S hK (bl_P hP [0, 2] rfl) (bl_D hD [0, 2] rfl rfl) (c_X5_finding l E am q f (-1000004) 3 (by decide) (by decide)) gV_X5_66 (by decide +kernel) rfl ⟨rfl, rfl⟩ ⟨Nat.le_of_ble_eq_true rfl, Nat.le_of_ble_eq_true rfl⟩ (ci := 5) (q0 := 0) rfl rfl hl.1 (Nat.le_of_ble_eq_true rfl) dX5_griefFor_115 ⟨Nat.zero_le _, Nat.zero_le _⟩) hP hD hS [0, 2] rfl (had_cons rfl (had_cons cell_ad rfl)) (Bs' := [[mObj am q], [(am 1, .inl (E.2.1, 77, .inl (sg r_99 77)))], [(am 4, .inl (E.2.1, 8, .inl (sg (findM f 3) 8)))], [(am 3, .inl (E.2.1, 77, .inl (sg ai 77)))]]) rfl (fun H locs hP hD hS => ?_)
              obtain ⟨r_115, er_115⟩ : ∃ z : Row, z = findM f 3 := ⟨_, rfl⟩
              rw [← er_115] at hP hD
              exact retIx S hr hlk ai (by have e9 : rGriefFor r pp n9 = fstR r (fun h => decide (daysF (upd r (21 + 7 * k_pp + 1) (nI h)) k_n9 (21 + 7 * k_pp + 6) = r (21 + 7 * k_pp + 6))) 100 := (by unfold rGriefFor; rw [if_pos c_5, if_pos c_12]; (try rw [ek_pp]); (try rw [ek_n9]); (try rw [tN_nI (k := k_pp) (by omega)]); (try rw [tN_nI (k := k_n9) (by omega)]); try rfl); have e8 : fstR r (fun h => decide (daysF (upd r (21 + 7 * k_pp + 1) (nI h)) k_n9 (21 + 7 * k_pp + 6) = r (21 + 7 * k_pp + 6))) 100 = .inl 3 := fst_out (fun j hj => decide_eq_false (hno j (by have z9 : 99 < i := lt_of_nI c_59 (by omega) (by omega); omega))); have e7 : r_99 = r := (by rw [er_99, hxi, fa_tw]; exact upd_self); rw [e7] at hP; rw [er_115] at hP; rw [e9, e8]; exact hP) hS (by have e9 : rGriefFor r pp n9 = fstR r (fun h => decide (daysF (upd r (21 + 7 * k_pp + 1) (nI h)) k_n9 (21 + 7 * k_pp + 6) = r (21 + 7 * k_pp + 6))) 100 := (by unfold rGriefFor; rw [if_pos c_5, if_pos c_12]; (try rw [ek_pp]); (try rw [ek_n9]); (try rw [tN_nI (k := k_pp) (by omega)]); (try rw [tN_nI (k := k_n9) (by omega)]); try rfl); have e8 : fstR r (fun h => decide (daysF (upd r (21 + 7 * k_pp + 1) (nI h)) k_n9 (21 + 7 * k_pp + 6) = r (21 + 7 * k_pp + 6))) 100 = .inl 3 := fst_out (fun j hj => decide_eq_false (hno j (by have z9 : 99 < i := lt_of_nI c_59 (by omega) (by omega); omega))); rw [e9, e8]; decide) dX5_griefFor_118
            · have n_104 := Int32.not_lt.mp c_104
              refine lv_iload S.1 S.2.1 dX5_griefFor_107 (lv_at hl 6 rfl) ?_
              refine lv_goto (tgt := 118) S.1 S.2.1 dX5_griefFor_109 (by decide) ?_
              exact retIx S hr hlk r (absurd c_59 c_104) hS (absurd c_59 c_104) dX5_griefFor_118
          · have n_59 := Int32.not_lt.mp c_59
            have hi2 : i ≤ 99 := Nat.le_of_not_lt (fun z => c_59 (show nI 99 < nI i from nI_lt z (by omega)))
            have hRx : RI xi := by (rw [hxi]; exact RI_pf (f := 1) hR (by decide) ⟨i, hi2, rfl⟩)
            refine lv_aload_n S.1 S.2.1 dX5_griefFor_62 rfl (lv_at hl 0 rfl) ?_
            refine lv_iload_n S.1 S.2.1 dX5_griefFor_63 rfl (lv_at hl 1 rfl) ?_
            refine lv_eqi (y := nI k_pp) ek_pp ?_
            refine lv_bipush (v := 6) S.1 S.2.1 dX5_griefFor_64 (by decide) ?_
            refine go_S (run_S (As := [.int (nI k_pp), .int 6]) (rest := [.ref (am 0)]) (n := 2) S hK (bl_P hP [] rfl) (bl_D hD [] rfl rfl) (c_X5_potterAt l E k_pp 6 ) gS_X5_82 (by decide +kernel) rfl ⟨rfl, rfl⟩ ⟨Nat.le_of_ble_eq_true rfl, Nat.le_of_ble_eq_true rfl⟩ hl.1 (Nat.le_of_ble_eq_true rfl) dX5_griefFor_66 ⟨Nat.zero_le _, Nat.zero_le _⟩) ?_
            refine lv_iload_n S.1 S.2.1 dX5_griefFor_69 rfl (lv_at hl 2 rfl) ?_
            refine lv_eqi (y := nI k_n9) ek_n9 ?_
            refine go_I (run_V (As := [.int (nI (21 + 7 * k_pp + 6)), .int (nI k_n9)]) (rest := []) (n := 2) S hK (bl_P hP [0, 1, 3] rfl) (bl_D hD [0, 1, 3] rfl rfl) (c_X5_behind l E am q xi ai (21 + 7 * k_pp + 6) k_n9 (by omega) (by omega) hRx) gV_X5_168 (by decide +kernel) rfl ⟨rfl, rfl⟩ ⟨Nat.le_of_ble_eq_true rfl, Nat.le_of_ble_eq_true rfl⟩ (ci := 5) (q0 := 0) rfl rfl hl.1 (Nat.le_of_ble_eq_true rfl) dX5_griefFor_70 ⟨Nat.zero_le _, Nat.zero_le _⟩) hP hD hS [0, 1, 3] rfl (had_cons rfl (had_cons rfl (had_cons cell_ad rfl))) (Bs' := [[mObj am q], [(am 1, .inl (E.2.1, 77, .inl (sg xi 77)))], [(am 4, .inl (E.2.1, 8, .inl (sg f 8)))], [(am 3, .inl (E.2.1, 77, .inl (sg xi 77)))]]) rfl (fun H locs hP hD hS => ?_)
            refine lv_iload S.1 S.2.1 dX5_griefFor_73 (lv_at hl 5 rfl) ?_
            refine lv_icmp_eq (tgt := 92) S.1 S.2.1 dX5_griefFor_75 (by decide) (fun c_75 => ?_) (fun c_75 => ?_)
            · refine lv_aload_n S.1 S.2.1 dX5_griefFor_92 rfl (lv_at hl 0 rfl) ?_
              refine gf_X5_9 S hK hP 0 0 rfl rfl rfl dX5_griefFor_93 ?_
              refine lv_iload_n S.1 S.2.1 dX5_griefFor_96 rfl (lv_at hl 3 rfl) ?_
              refine lv_iload S.1 S.2.1 dX5_griefFor_97 (lv_at hl 4 rfl) ?_
              refine b_iastN (i := 21 + 7 * k_pp + 1) S hK hP hD hS 1 0 rfl rfl (by omega) (by decide) (sgs_upd (by omega)) (Bs1 := [[mObj am q], [(am 1, .inl (E.2.1, 77, .inl (sg (upd xi (21 + 7 * k_pp + 1) (r (21 + 7 * k_pp + 1))) 77)))], [(am 4, .inl (E.2.1, 8, .inl (sg f 8)))], [(am 3, .inl (E.2.1, 77, .inl (sg xi 77)))]]) rfl dX5_griefFor_99 (fun H locs hP hD hS => ?_)
              obtain ⟨r_99_1, er_99_1⟩ : ∃ z, z = upd xi (21 + 7 * k_pp + 1) (r (21 + 7 * k_pp + 1)) := ⟨_, rfl⟩
              rw [← er_99_1] at hP hD
              refine lv_iload S.1 S.2.1 dX5_griefFor_100 (lv_at hl 6 rfl) ?_
              refine lv_bipush (v := 99) S.1 S.2.1 dX5_griefFor_102 (by decide) ?_
              refine lv_icmp_gt (tgt := 112) S.1 S.2.1 dX5_griefFor_104 (by decide) (fun c_104 => ?_) (fun c_104 => ?_)
              · have n_104 := Int32.not_le.mpr c_104
                refine lv_aload_n S.1 S.2.1 dX5_griefFor_112 rfl (lv_at hl 0 rfl) ?_
                refine lv_ldc (v := (-1000004)) S.1 S.2.1 S.2.2.2.1 (S.2.2.2.2 _ (List.mem_cons_of_mem _ kk_X5_65)) dX5_griefFor_113 ?_
                refine go_I (run_V (As := [.int (-1000004)]) (rest := []) (n := 1) S hK (bl_P hP [0, 2] rfl) (bl_D hD [0, 2] rfl rfl) (c_X5_finding l E am q f (-1000004) 3 (by decide) (by decide)) gV_X5_66 (by decide +kernel) rfl ⟨rfl, rfl⟩ ⟨Nat.le_of_ble_eq_true rfl, Nat.le_of_ble_eq_true rfl⟩ (ci := 5) (q0 := 0) rfl rfl hl.1 (Nat.le_of_ble_eq_true rfl) dX5_griefFor_115 ⟨Nat.zero_le _, Nat.zero_le _⟩) hP hD hS [0, 2] rfl (had_cons rfl (had_cons cell_ad rfl)) (Bs' := [[mObj am q], [(am 1, .inl (E.2.1, 77, .inl (sg r_99_1 77)))], [(am 4, .inl (E.2.1, 8, .inl (sg (findM f 3) 8)))], [(am 3, .inl (E.2.1, 77, .inl (sg xi 77)))]]) rfl (fun H locs hP hD hS => ?_)
                obtain ⟨r_115_2, er_115_2⟩ : ∃ z : Row, z = findM f 3 := ⟨_, rfl⟩
                rw [← er_115_2] at hP hD
                exact retIx S hr hlk r (absurd c_104 (nI_nlt (a := 99) (b := i) hi2 (by decide))) hS (absurd c_104 (nI_nlt (a := 99) (b := i) hi2 (by decide))) dX5_griefFor_118
              · have n_104 := Int32.not_lt.mp c_104
                refine lv_iload S.1 S.2.1 dX5_griefFor_107 (lv_at hl 6 rfl) ?_
                refine lv_goto (tgt := 118) S.1 S.2.1 dX5_griefFor_109 (by decide) ?_
                exact retIx S hr hlk xi (by have e9 : rGriefFor r pp n9 = fstR r (fun h => decide (daysF (upd r (21 + 7 * k_pp + 1) (nI h)) k_n9 (21 + 7 * k_pp + 6) = r (21 + 7 * k_pp + 6))) 100 := (by unfold rGriefFor; rw [if_pos c_5, if_pos c_12]; (try rw [ek_pp]); (try rw [ek_n9]); (try rw [tN_nI (k := k_pp) (by omega)]); (try rw [tN_nI (k := k_n9) (by omega)]); try rfl); have e8 : fstR r (fun h => decide (daysF (upd r (21 + 7 * k_pp + 1) (nI h)) k_n9 (21 + 7 * k_pp + 6) = r (21 + 7 * k_pp + 6))) 100 = .inr (r, nI i) := fst_in (by omega) (fun j hj => decide_eq_false (hno j hj)) (decide_eq_true (by rw [← hxi]; exact c_75)); have e7 : r_99_1 = r := (by rw [er_99_1, hxi, fa_tw]; exact upd_self); rw [e7] at hP; rw [e9, e8]; exact hP) hS (by have e9 : rGriefFor r pp n9 = fstR r (fun h => decide (daysF (upd r (21 + 7 * k_pp + 1) (nI h)) k_n9 (21 + 7 * k_pp + 6) = r (21 + 7 * k_pp + 6))) 100 := (by unfold rGriefFor; rw [if_pos c_5, if_pos c_12]; (try rw [ek_pp]); (try rw [ek_n9]); (try rw [tN_nI (k := k_pp) (by omega)]); (try rw [tN_nI (k := k_n9) (by omega)]); try rfl); have e8 : fstR r (fun h => decide (daysF (upd r (21 + 7 * k_pp + 1) (nI h)) k_n9 (21 + 7 * k_pp + 6) = r (21 + 7 * k_pp + 6))) 100 = .inr (r, nI i) := fst_in (by omega) (fun j hj => decide_eq_false (hno j hj)) (decide_eq_true (by rw [← hxi]; exact c_75)); rw [e9, e8]; rfl) dX5_griefFor_118
            · refine lv_iinc (v := nI (i + 1)) (lv' := [(6, .int (nI (i + 1))), (0, .ref (am 0)), (1, .int pp), (2, .int n9), (3, .int (nI (21 + 7 * k_pp + 1))), (4, .int (r (21 + 7 * k_pp + 1))), (5, .int (r (21 + 7 * k_pp + 6)))]) S.1 S.2.1 dX5_griefFor_78 hl (k := 6) rfl (nI_1 i) (by decide) rfl (fun ls hl => ?_)
              refine lv_aload_n S.1 S.2.1 dX5_griefFor_81 rfl (lv_at hl 1 rfl) ?_
              refine gf_X5_9 S hK hP 0 0 rfl rfl rfl dX5_griefFor_82 ?_
              refine lv_iload_n S.1 S.2.1 dX5_griefFor_85 rfl (lv_at hl 4 rfl) ?_
              refine lv_iload S.1 S.2.1 dX5_griefFor_86 (lv_at hl 0 rfl) ?_
              refine b_iastN (i := 21 + 7 * k_pp + 1) S hK hP hD hS 1 0 rfl rfl (by omega) (by decide) (sgs_upd (by omega)) (Bs1 := [[mObj am q], [(am 1, .inl (E.2.1, 77, .inl (sg (upd xi (21 + 7 * k_pp + 1) (nI (i + 1))) 77)))], [(am 4, .inl (E.2.1, 8, .inl (sg f 8)))], [(am 3, .inl (E.2.1, 77, .inl (sg xi 77)))]]) rfl dX5_griefFor_88 (fun H locs hP hD hS => ?_)
              obtain ⟨r_88, er_88⟩ : ∃ z, z = upd xi (21 + 7 * k_pp + 1) (nI (i + 1)) := ⟨_, rfl⟩
              rw [← er_88] at hP hD
              refine lv_goto (tgt := 55) S.1 S.2.1 dX5_griefFor_89 (by decide) ?_
              exact ih_55 (i + 1) r_88 xi (by omega) (by omega) (by rw [er_88, hxi, fa_tw]) (lt_s hno (by rw [← hxi]; exact c_75)) H locs hP hD hS ls (lv_sub hl [1, 2, 3, 4, 5, 6, 0] rfl)
      exact L_55 (100 + 1) 0 r_54 x (by omega) (by omega) (by rw [er_54]; rfl) (fun j hj => absurd hj (by omega)) H locs hP hD hS ls (lv_sub hl [4, 5, 6, 3, 2, 1, 0] rfl)
    · refine lv_aload_n S.1 S.2.1 dX5_griefFor_15 rfl (lv_at hl 0 rfl) ?_
      refine lv_ldc (v := (-1000001)) S.1 S.2.1 S.2.2.2.1 (S.2.2.2.2 _ (List.mem_cons_of_mem _ kk_X5_60)) dX5_griefFor_16 ?_
      refine go_I (run_V (As := [.int (-1000001)]) (rest := []) (n := 1) S hK (bl_P hP [0, 2] rfl) (bl_D hD [0, 2] rfl rfl) (c_X5_finding l E am q f (-1000001) 0 (by decide) (by decide)) gV_X5_66 (by decide +kernel) rfl ⟨rfl, rfl⟩ ⟨Nat.le_of_ble_eq_true rfl, Nat.le_of_ble_eq_true rfl⟩ (ci := 5) (q0 := 0) rfl rfl hl.1 (Nat.le_of_ble_eq_true rfl) dX5_griefFor_18 ⟨Nat.zero_le _, Nat.zero_le _⟩) hP hD hS [0, 2] rfl (had_cons rfl (had_cons cell_ad rfl)) (Bs' := [[mObj am q], [(am 1, .inl (E.2.1, 77, .inl (sg r 77)))], [(am 4, .inl (E.2.1, 8, .inl (sg (findM f 0) 8)))], [(am 3, .inl (E.2.1, 77, .inl (sg x 77)))]]) rfl (fun H locs hP hD hS => ?_)
      obtain ⟨r_18_3, er_18_3⟩ : ∃ z : Row, z = findM f 0 := ⟨_, rfl⟩
      rw [← er_18_3] at hP hD
      exact retIx S hr hlk x (by have e9 : rGriefFor r pp n9 = .inl 0 := (by unfold rGriefFor; rw [if_pos c_5, if_neg c_12]); rw [er_18_3] at hP; rw [e9, fndM_inl]; exact hP) hS (by have e9 : rGriefFor r pp n9 = .inl 0 := (by unfold rGriefFor; rw [if_pos c_5, if_neg c_12]); rw [e9]; decide) dX5_griefFor_21
set_option maxHeartbeats 800000 in
set_option maxRecDepth 100000 in
theorem c_X5_kindFor (l : Launch) (E : EV) (am : Nat → Nat) (q r f x : Row) (pp n9 : Int32) (hR : RI r) : Met l yX5_kindFor (wq yX5_kindFor cX5_kindFor 3 (some .int)) ({ frames := 9, cells := 0, slots := 0, locals := 199 }) (preB E [.ref (am 0), .int pp, .int n9] [[mObj am q], [(am 1, .inl (E.2.1, 77, .inl (sg r 77)))], [(am 4, .inl (E.2.1, 8, .inl (sg f 8)))], [(am 3, .inl (E.2.1, 77, .inl (sg x 77)))]]) (qIx E [[mObj am q], [(am 1, .inl (E.2.1, 77, .inl (sg r 77)))], [(am 4, .inl (E.2.1, 8, .inl (sg f 8)))], [(am 3, .inl (E.2.1, 77, .inl (sg x 77)))]] (fun u9 => [[mObj am q], [(am 1, .inl (E.2.1, 77, .inl (sg r 77)))], [(am 4, .inl (E.2.1, 8, .inl (sg (fndM f (rKindFor r pp n9)) 8)))], [(am 3, .inl (E.2.1, 77, .inl (sg u9 77)))]]) (ansR (rKindFor r pp n9))) 0 0 (inB [[mObj am q], [(am 1, .inl (E.2.1, 77, .inl (sg r 77)))], [(am 4, .inl (E.2.1, 8, .inl (sg f 8)))], [(am 3, .inl (E.2.1, 77, .inl (sg x 77)))]]) := by
  refine M_mk RX5 (by decide) rfl (Nat.le_of_ble_eq_true rfl) ?_
  intro p e s m below meth c S hr hlk hK hP hD hS ls hl
  have hl : lv_has ls 3 [(0, .ref (am 0)), (1, .int pp), (2, .int n9)] := hl
  obtain ⟨n, d, hn, hn8, hd, hd5, ho, hso, hli, hsp, hpt⟩ := id hR
  obtain ⟨H, hH⟩ : ∃ z, z = s.heap := ⟨_, rfl⟩
  obtain ⟨locs, hlocs⟩ : ∃ z : List Loc, z = [] := ⟨_, rfl⟩
  have hP : PE E [[mObj am q], [(am 1, .inl (E.2.1, 77, .inl (sg r 77)))], [(am 4, .inl (E.2.1, 8, .inl (sg f 8)))], [(am 3, .inl (E.2.1, 77, .inl (sg x 77)))]] H := by rw [hH]; exact hP
  have hS : va_S (inB [[mObj am q], [(am 1, .inl (E.2.1, 77, .inl (sg r 77)))], [(am 4, .inl (E.2.1, 8, .inl (sg f 8)))], [(am 3, .inl (E.2.1, 77, .inl (sg x 77)))]]) s.heap H locs := by rw [hH, hlocs]; exact hS
  show W p l e ({ frames := 9, cells := 0, slots := 0, locals := 199 }) s m ([.ref (am 0), .int pp, .int n9] : List Value).toArray below meth c s.heap [] 0 0 _ _
  suffices hgo : W p l e ({ frames := 9, cells := 0, slots := 0, locals := 199 }) s m ([.ref (am 0), .int pp, .int n9] : List Value).toArray below meth c H locs 0 0 (MQ below (qIx E [[mObj am q], [(am 1, .inl (E.2.1, 77, .inl (sg r 77)))], [(am 4, .inl (E.2.1, 8, .inl (sg f 8)))], [(am 3, .inl (E.2.1, 77, .inl (sg x 77)))]] (fun u9 => [[mObj am q], [(am 1, .inl (E.2.1, 77, .inl (sg r 77)))], [(am 4, .inl (E.2.1, 8, .inl (sg (fndM f (rKindFor r pp n9)) 8)))], [(am 3, .inl (E.2.1, 77, .inl (sg u9 77)))]]) (ansR (rKindFor r pp n9))) ([.ref (am 0), .int pp, .int n9] : List Value).toArray s 0 0 (inB [[mObj am q], [(am 1, .inl (E.2.1, 77, .inl (sg r 77)))], [(am 4, .inl (E.2.1, 8, .inl (sg f 8)))], [(am 3, .inl (E.2.1, 77, .inl (sg x 77)))]])) (F0 m 0 ls []) by rw [hH, hlocs] at hgo; exact hgo
  clear hH hlocs
  refine lv_aload_n S.1 S.2.1 dX5_kindFor_0 rfl (lv_at hl 0 rfl) ?_
  refine lv_iload_n S.1 S.2.1 dX5_kindFor_1 rfl (lv_at hl 1 rfl) ?_
  refine go_S (run_V (As := [.int pp]) (rest := []) (n := 1) S hK (bl_P hP [0, 1] rfl) (bl_D hD [0, 1] rfl rfl) (c_X5_isPotter l E am q r pp n hn hn8) gV_X5_122 (by decide +kernel) rfl ⟨rfl, rfl⟩ ⟨Nat.le_of_ble_eq_true rfl, Nat.le_of_ble_eq_true rfl⟩ (ci := 5) (q0 := 0) rfl rfl hl.1 (Nat.le_of_ble_eq_true rfl) dX5_kindFor_2 ⟨Nat.zero_le _, Nat.zero_le _⟩) ?_
  refine b_ifeq (tgt := 30) S.1 S.2.1 dX5_kindFor_5 (by decide) (fun c_5 => ?_) (fun c_5 => ?_)
  · refine lv_aload_n S.1 S.2.1 dX5_kindFor_30 rfl (lv_at hl 0 rfl) ?_
    refine lv_ldc (v := (-1000001)) S.1 S.2.1 S.2.2.2.1 (S.2.2.2.2 _ (List.mem_cons_of_mem _ kk_X5_60)) dX5_kindFor_31 ?_
    refine go_I (run_V (As := [.int (-1000001)]) (rest := []) (n := 1) S hK (bl_P hP [0, 2] rfl) (bl_D hD [0, 2] rfl rfl) (c_X5_finding l E am q f (-1000001) 0 (by decide) (by decide)) gV_X5_66 (by decide +kernel) rfl ⟨rfl, rfl⟩ ⟨Nat.le_of_ble_eq_true rfl, Nat.le_of_ble_eq_true rfl⟩ (ci := 5) (q0 := 0) rfl rfl hl.1 (Nat.le_of_ble_eq_true rfl) dX5_kindFor_33 ⟨Nat.zero_le _, Nat.zero_le _⟩) hP hD hS [0, 2] rfl (had_cons rfl (had_cons cell_ad rfl)) (Bs' := [[mObj am q], [(am 1, .inl (E.2.1, 77, .inl (sg r 77)))], [(am 4, .inl (E.2.1, 8, .inl (sg (findM f 0) 8)))], [(am 3, .inl (E.2.1, 77, .inl (sg x 77)))]]) rfl (fun H locs hP hD hS => ?_)
    obtain ⟨r_33, er_33⟩ : ∃ z : Row, z = findM f 0 := ⟨_, rfl⟩
    rw [← er_33] at hP hD
    exact retIx S hr hlk x (by have e9 : rKindFor r pp n9 = .inl 0 := (by unfold rKindFor; rw [if_neg c_5]); rw [er_33] at hP; rw [e9, fndM_inl]; exact hP) hS (by have e9 : rKindFor r pp n9 = .inl 0 := (by unfold rKindFor; rw [if_neg c_5]); rw [e9]; decide) dX5_kindFor_36
  · obtain ⟨k_pp, hk_pp, ek_pp⟩ := pot_nat c_5 hn (by omega)
    refine lv_iload_n S.1 S.2.1 dX5_kindFor_8 rfl (lv_at hl 2 rfl) ?_
    refine go_S (run_S (As := [.int n9]) (rest := []) (n := 1) S hK (bl_P hP [] rfl) (bl_D hD [] rfl rfl) (c_X5_isThought l E n9 ) gS_X5_183 (by decide +kernel) rfl ⟨rfl, rfl⟩ ⟨Nat.le_of_ble_eq_true rfl, Nat.le_of_ble_eq_true rfl⟩ hl.1 (Nat.le_of_ble_eq_true rfl) dX5_kindFor_9 ⟨Nat.zero_le _, Nat.zero_le _⟩) ?_
    refine b_ifeq (tgt := 30) S.1 S.2.1 dX5_kindFor_12 (by decide) (fun c_12 => ?_) (fun c_12 => ?_)
    · refine lv_aload_n S.1 S.2.1 dX5_kindFor_30 rfl (lv_at hl 0 rfl) ?_
      refine lv_ldc (v := (-1000001)) S.1 S.2.1 S.2.2.2.1 (S.2.2.2.2 _ (List.mem_cons_of_mem _ kk_X5_60)) dX5_kindFor_31 ?_
      refine go_I (run_V (As := [.int (-1000001)]) (rest := []) (n := 1) S hK (bl_P hP [0, 2] rfl) (bl_D hD [0, 2] rfl rfl) (c_X5_finding l E am q f (-1000001) 0 (by decide) (by decide)) gV_X5_66 (by decide +kernel) rfl ⟨rfl, rfl⟩ ⟨Nat.le_of_ble_eq_true rfl, Nat.le_of_ble_eq_true rfl⟩ (ci := 5) (q0 := 0) rfl rfl hl.1 (Nat.le_of_ble_eq_true rfl) dX5_kindFor_33 ⟨Nat.zero_le _, Nat.zero_le _⟩) hP hD hS [0, 2] rfl (had_cons rfl (had_cons cell_ad rfl)) (Bs' := [[mObj am q], [(am 1, .inl (E.2.1, 77, .inl (sg r 77)))], [(am 4, .inl (E.2.1, 8, .inl (sg (findM f 0) 8)))], [(am 3, .inl (E.2.1, 77, .inl (sg x 77)))]]) rfl (fun H locs hP hD hS => ?_)
      obtain ⟨r_33_1, er_33_1⟩ : ∃ z : Row, z = findM f 0 := ⟨_, rfl⟩
      rw [← er_33_1] at hP hD
      exact retIx S hr hlk x (by have e9 : rKindFor r pp n9 = .inl 0 := (by unfold rKindFor; rw [if_pos c_5, if_neg c_12]); rw [er_33_1] at hP; rw [e9, fndM_inl]; exact hP) hS (by have e9 : rKindFor r pp n9 = .inl 0 := (by unfold rKindFor; rw [if_pos c_5, if_neg c_12]); rw [e9]; decide) dX5_kindFor_36
    · obtain ⟨k_n9, hk_n9, ek_n9⟩ := nI_of2 (n := 60) (by decide) (Int32.not_lt.mpr c_12.1) c_12.2
      refine lv_aload_n S.1 S.2.1 dX5_kindFor_15 rfl (lv_at hl 0 rfl) ?_
      refine lv_iload_n S.1 S.2.1 dX5_kindFor_16 rfl (lv_at hl 1 rfl) ?_
      refine lv_eqi (y := nI k_pp) ek_pp ?_
      refine lv_iconst (v := 0) S.1 S.2.1 dX5_kindFor_17 (by decide) ?_
      refine go_S (run_S (As := [.int (nI k_pp), .int 0]) (rest := [.ref (am 0)]) (n := 2) S hK (bl_P hP [] rfl) (bl_D hD [] rfl rfl) (c_X5_potterAt l E k_pp 0 ) gS_X5_82 (by decide +kernel) rfl ⟨rfl, rfl⟩ ⟨Nat.le_of_ble_eq_true rfl, Nat.le_of_ble_eq_true rfl⟩ hl.1 (Nat.le_of_ble_eq_true rfl) dX5_kindFor_18 ⟨Nat.zero_le _, Nat.zero_le _⟩) ?_
      refine lv_eqi (y := nI (21 + 7 * k_pp)) rfl ?_
      refine lv_bipush (v := 7) S.1 S.2.1 dX5_kindFor_21 (by decide) ?_
      refine lv_iload_n S.1 S.2.1 dX5_kindFor_23 rfl (lv_at hl 2 rfl) ?_
      refine lv_eqi (y := nI k_n9) ek_n9 ?_
      refine go_I (run_V (As := [.int (nI (21 + 7 * k_pp)), .int 7, .int (nI k_n9)]) (rest := []) (n := 3) S hK (bl_P hP [0, 1, 3] rfl) (bl_D hD [0, 1, 3] rfl rfl) (c_X5_bestFor l E am q r x (21 + 7 * k_pp) 7 k_n9 (by omega) (by omega) (by omega) (by omega) (fun k hk => RI_pf (f := 0) hR (by decide) ⟨k, Nat.le_of_lt_succ hk, rfl⟩)) gV_X5_186 (by decide +kernel) rfl ⟨rfl, rfl⟩ ⟨Nat.le_of_ble_eq_true rfl, Nat.le_of_ble_eq_true rfl⟩ (ci := 5) (q0 := 0) rfl rfl hl.1 (Nat.le_of_ble_eq_true rfl) dX5_kindFor_24 ⟨Nat.zero_le _, Nat.zero_le _⟩) hP hD hS [0, 1, 3] rfl (had_cons rfl (had_cons rfl (had_cons cell_ad rfl))) (Bs' := [[mObj am q], [(am 1, .inl (E.2.1, 77, .inl (sg r 77)))], [(am 4, .inl (E.2.1, 8, .inl (sg f 8)))], [(am 3, .inl (E.2.1, 77, .inl (sg (upd r (21 + 7 * k_pp) (nI (7 - 1))) 77)))]]) rfl (fun H locs hP hD hS => ?_)
      obtain ⟨r_24, er_24⟩ : ∃ z : Row, z = upd r (21 + 7 * k_pp) (nI (7 - 1)) := ⟨_, rfl⟩
      rw [← er_24] at hP hD
      refine lv_goto (tgt := 36) S.1 S.2.1 dX5_kindFor_27 (by decide) ?_
      exact retIx S hr hlk r_24 (by have e9 : rKindFor r pp n9 = .inr (r, (bestN (fun k => daysF (upd r (21 + 7 * k_pp) (nI k)) k_n9 4) 7).1) := (by unfold rKindFor; rw [if_pos c_5, if_pos c_12]; (try rw [ek_pp]); (try rw [ek_n9]); (try rw [tN_nI (k := k_pp) (by omega)]); (try rw [tN_nI (k := k_n9) (by omega)]); try with_reducible rfl); rw [e9, fndM_inr]; exact hP) hS (by have e9 : rKindFor r pp n9 = .inr (r, (bestN (fun k => daysF (upd r (21 + 7 * k_pp) (nI k)) k_n9 4) 7).1) := (by unfold rKindFor; rw [if_pos c_5, if_pos c_12]; (try rw [ek_pp]); (try rw [ek_n9]); (try rw [tN_nI (k := k_pp) (by omega)]); (try rw [tN_nI (k := k_n9) (by omega)]); try with_reducible rfl); rw [e9, ansR_inr]) dX5_kindFor_36
set_option maxHeartbeats 800000 in
set_option maxRecDepth 100000 in
theorem c_X5_weatherFor (l : Launch) (E : EV) (am : Nat → Nat) (q r f x : Row) (i n9 : Int32) (hR : RI r) : Met l yX5_weatherFor (wq yX5_weatherFor cX5_weatherFor 3 (some .int)) ({ frames := 9, cells := 0, slots := 0, locals := 199 }) (preB E [.ref (am 0), .int i, .int n9] [[mObj am q], [(am 1, .inl (E.2.1, 77, .inl (sg r 77)))], [(am 4, .inl (E.2.1, 8, .inl (sg f 8)))], [(am 3, .inl (E.2.1, 77, .inl (sg x 77)))]]) (qIx E [[mObj am q], [(am 1, .inl (E.2.1, 77, .inl (sg r 77)))], [(am 4, .inl (E.2.1, 8, .inl (sg f 8)))], [(am 3, .inl (E.2.1, 77, .inl (sg x 77)))]] (fun u9 => [[mObj am q], [(am 1, .inl (E.2.1, 77, .inl (sg r 77)))], [(am 4, .inl (E.2.1, 8, .inl (sg (fndM f (rWeatherFor r i n9)) 8)))], [(am 3, .inl (E.2.1, 77, .inl (sg u9 77)))]]) (ansR (rWeatherFor r i n9))) 0 0 (inB [[mObj am q], [(am 1, .inl (E.2.1, 77, .inl (sg r 77)))], [(am 4, .inl (E.2.1, 8, .inl (sg f 8)))], [(am 3, .inl (E.2.1, 77, .inl (sg x 77)))]]) := by
  refine M_mk RX5 (by decide) rfl (Nat.le_of_ble_eq_true rfl) ?_
  intro p e s m below meth c S hr hlk hK hP hD hS ls hl
  have hl : lv_has ls 3 [(0, .ref (am 0)), (1, .int i), (2, .int n9)] := hl
  obtain ⟨n, d, hn, hn8, hd, hd5, ho, hso, hli, hsp, hpt⟩ := id hR
  obtain ⟨H, hH⟩ : ∃ z, z = s.heap := ⟨_, rfl⟩
  obtain ⟨locs, hlocs⟩ : ∃ z : List Loc, z = [] := ⟨_, rfl⟩
  have hP : PE E [[mObj am q], [(am 1, .inl (E.2.1, 77, .inl (sg r 77)))], [(am 4, .inl (E.2.1, 8, .inl (sg f 8)))], [(am 3, .inl (E.2.1, 77, .inl (sg x 77)))]] H := by rw [hH]; exact hP
  have hS : va_S (inB [[mObj am q], [(am 1, .inl (E.2.1, 77, .inl (sg r 77)))], [(am 4, .inl (E.2.1, 8, .inl (sg f 8)))], [(am 3, .inl (E.2.1, 77, .inl (sg x 77)))]]) s.heap H locs := by rw [hH, hlocs]; exact hS
  show W p l e ({ frames := 9, cells := 0, slots := 0, locals := 199 }) s m ([.ref (am 0), .int i, .int n9] : List Value).toArray below meth c s.heap [] 0 0 _ _
  suffices hgo : W p l e ({ frames := 9, cells := 0, slots := 0, locals := 199 }) s m ([.ref (am 0), .int i, .int n9] : List Value).toArray below meth c H locs 0 0 (MQ below (qIx E [[mObj am q], [(am 1, .inl (E.2.1, 77, .inl (sg r 77)))], [(am 4, .inl (E.2.1, 8, .inl (sg f 8)))], [(am 3, .inl (E.2.1, 77, .inl (sg x 77)))]] (fun u9 => [[mObj am q], [(am 1, .inl (E.2.1, 77, .inl (sg r 77)))], [(am 4, .inl (E.2.1, 8, .inl (sg (fndM f (rWeatherFor r i n9)) 8)))], [(am 3, .inl (E.2.1, 77, .inl (sg u9 77)))]]) (ansR (rWeatherFor r i n9))) ([.ref (am 0), .int i, .int n9] : List Value).toArray s 0 0 (inB [[mObj am q], [(am 1, .inl (E.2.1, 77, .inl (sg r 77)))], [(am 4, .inl (E.2.1, 8, .inl (sg f 8)))], [(am 3, .inl (E.2.1, 77, .inl (sg x 77)))]])) (F0 m 0 ls []) by rw [hH, hlocs] at hgo; exact hgo
  clear hH hlocs
  refine lv_iload_n S.1 S.2.1 dX5_weatherFor_0 rfl (lv_at hl 1 rfl) ?_
  refine go_S (run_S (As := [.int i]) (rest := []) (n := 1) S hK (bl_P hP [] rfl) (bl_D hD [] rfl rfl) (c_X5_isListed l E i ) gS_X5_74 (by decide +kernel) rfl ⟨rfl, rfl⟩ ⟨Nat.le_of_ble_eq_true rfl, Nat.le_of_ble_eq_true rfl⟩ hl.1 (Nat.le_of_ble_eq_true rfl) dX5_weatherFor_1 ⟨Nat.zero_le _, Nat.zero_le _⟩) ?_
  refine b_ifeq (tgt := 30) S.1 S.2.1 dX5_weatherFor_4 (by decide) (fun c_4 => ?_) (fun c_4 => ?_)
  · refine lv_aload_n S.1 S.2.1 dX5_weatherFor_30 rfl (lv_at hl 0 rfl) ?_
    refine lv_ldc (v := (-1000001)) S.1 S.2.1 S.2.2.2.1 (S.2.2.2.2 _ (List.mem_cons_of_mem _ kk_X5_60)) dX5_weatherFor_31 ?_
    refine go_I (run_V (As := [.int (-1000001)]) (rest := []) (n := 1) S hK (bl_P hP [0, 2] rfl) (bl_D hD [0, 2] rfl rfl) (c_X5_finding l E am q f (-1000001) 0 (by decide) (by decide)) gV_X5_66 (by decide +kernel) rfl ⟨rfl, rfl⟩ ⟨Nat.le_of_ble_eq_true rfl, Nat.le_of_ble_eq_true rfl⟩ (ci := 5) (q0 := 0) rfl rfl hl.1 (Nat.le_of_ble_eq_true rfl) dX5_weatherFor_33 ⟨Nat.zero_le _, Nat.zero_le _⟩) hP hD hS [0, 2] rfl (had_cons rfl (had_cons cell_ad rfl)) (Bs' := [[mObj am q], [(am 1, .inl (E.2.1, 77, .inl (sg r 77)))], [(am 4, .inl (E.2.1, 8, .inl (sg (findM f 0) 8)))], [(am 3, .inl (E.2.1, 77, .inl (sg x 77)))]]) rfl (fun H locs hP hD hS => ?_)
    obtain ⟨r_33, er_33⟩ : ∃ z : Row, z = findM f 0 := ⟨_, rfl⟩
    rw [← er_33] at hP hD
    exact retIx S hr hlk x (by have e9 : rWeatherFor r i n9 = .inl 0 := (by unfold rWeatherFor; rw [if_neg c_4]); rw [er_33] at hP; rw [e9, fndM_inl]; exact hP) hS (by have e9 : rWeatherFor r i n9 = .inl 0 := (by unfold rWeatherFor; rw [if_neg c_4]); rw [e9]; decide) dX5_weatherFor_36
  · obtain ⟨k_i, hk_i, ek_i⟩ := nI_of2 (n := 5) (by decide) (Int32.not_lt.mpr c_4.1) c_4.2
    refine lv_iload_n S.1 S.2.1 dX5_weatherFor_7 rfl (lv_at hl 2 rfl) ?_
    refine lv_iconst (v := 0) S.1 S.2.1 dX5_weatherFor_8 (by decide) ?_
    refine lv_bipush (v := 40) S.1 S.2.1 dX5_weatherFor_9 (by decide) ?_
    refine go_S (run_S (As := [.int n9, .int 0, .int 40]) (rest := []) (n := 3) S hK (bl_P hP [] rfl) (bl_D hD [] rfl rfl) (c_X5_within l E n9 0 40 ) gS_X5_70 (by decide +kernel) rfl ⟨rfl, rfl⟩ ⟨Nat.le_of_ble_eq_true rfl, Nat.le_of_ble_eq_true rfl⟩ hl.1 (Nat.le_of_ble_eq_true rfl) dX5_weatherFor_11 ⟨Nat.zero_le _, Nat.zero_le _⟩) ?_
    refine b_ifeq (tgt := 30) S.1 S.2.1 dX5_weatherFor_14 (by decide) (fun c_14 => ?_) (fun c_14 => ?_)
    · refine lv_aload_n S.1 S.2.1 dX5_weatherFor_30 rfl (lv_at hl 0 rfl) ?_
      refine lv_ldc (v := (-1000001)) S.1 S.2.1 S.2.2.2.1 (S.2.2.2.2 _ (List.mem_cons_of_mem _ kk_X5_60)) dX5_weatherFor_31 ?_
      refine go_I (run_V (As := [.int (-1000001)]) (rest := []) (n := 1) S hK (bl_P hP [0, 2] rfl) (bl_D hD [0, 2] rfl rfl) (c_X5_finding l E am q f (-1000001) 0 (by decide) (by decide)) gV_X5_66 (by decide +kernel) rfl ⟨rfl, rfl⟩ ⟨Nat.le_of_ble_eq_true rfl, Nat.le_of_ble_eq_true rfl⟩ (ci := 5) (q0 := 0) rfl rfl hl.1 (Nat.le_of_ble_eq_true rfl) dX5_weatherFor_33 ⟨Nat.zero_le _, Nat.zero_le _⟩) hP hD hS [0, 2] rfl (had_cons rfl (had_cons cell_ad rfl)) (Bs' := [[mObj am q], [(am 1, .inl (E.2.1, 77, .inl (sg r 77)))], [(am 4, .inl (E.2.1, 8, .inl (sg (findM f 0) 8)))], [(am 3, .inl (E.2.1, 77, .inl (sg x 77)))]]) rfl (fun H locs hP hD hS => ?_)
      obtain ⟨r_33_1, er_33_1⟩ : ∃ z : Row, z = findM f 0 := ⟨_, rfl⟩
      rw [← er_33_1] at hP hD
      exact retIx S hr hlk x (by have e9 : rWeatherFor r i n9 = .inl 0 := (by unfold rWeatherFor; rw [if_pos c_4, if_neg c_14]); rw [er_33_1] at hP; rw [e9, fndM_inl]; exact hP) hS (by have e9 : rWeatherFor r i n9 = .inl 0 := (by unfold rWeatherFor; rw [if_pos c_4, if_neg c_14]); rw [e9]; decide) dX5_weatherFor_36
    · obtain ⟨k_n9, hk_n9, ek_n9⟩ := nI_of2 (n := 40) (by decide) (Int32.not_lt.mpr c_14.1) c_14.2
      refine lv_aload_n S.1 S.2.1 dX5_weatherFor_17 rfl (lv_at hl 0 rfl) ?_
      refine lv_iconst (v := 5) S.1 S.2.1 dX5_weatherFor_18 (by decide) ?_
      refine lv_iload_n S.1 S.2.1 dX5_weatherFor_19 rfl (lv_at hl 1 rfl) ?_
      refine lv_eqi (y := nI k_i) ek_i ?_
      refine lv_iadd S.1 S.2.1 dX5_weatherFor_20 ?_
      refine lv_eqi (y := nI (5 + k_i)) (nI_add 5 k_i) ?_
      refine lv_bipush (v := 100) S.1 S.2.1 dX5_weatherFor_21 (by decide) ?_
      refine lv_iload_n S.1 S.2.1 dX5_weatherFor_23 rfl (lv_at hl 2 rfl) ?_
      refine lv_eqi (y := nI k_n9) ek_n9 ?_
      refine go_I (run_V (As := [.int (nI (5 + k_i)), .int 100, .int (nI k_n9)]) (rest := []) (n := 3) S hK (bl_P hP [0, 1, 3] rfl) (bl_D hD [0, 1, 3] rfl rfl) (c_X5_bestFor l E am q r x (5 + k_i) 100 k_n9 (by omega) (by omega) (by omega) (by omega) (fun k hk => RI_list hR (by omega) ⟨k, Nat.le_of_lt_succ hk, rfl⟩)) gV_X5_186 (by decide +kernel) rfl ⟨rfl, rfl⟩ ⟨Nat.le_of_ble_eq_true rfl, Nat.le_of_ble_eq_true rfl⟩ (ci := 5) (q0 := 0) rfl rfl hl.1 (Nat.le_of_ble_eq_true rfl) dX5_weatherFor_24 ⟨Nat.zero_le _, Nat.zero_le _⟩) hP hD hS [0, 1, 3] rfl (had_cons rfl (had_cons rfl (had_cons cell_ad rfl))) (Bs' := [[mObj am q], [(am 1, .inl (E.2.1, 77, .inl (sg r 77)))], [(am 4, .inl (E.2.1, 8, .inl (sg f 8)))], [(am 3, .inl (E.2.1, 77, .inl (sg (upd r (5 + k_i) (nI (100 - 1))) 77)))]]) rfl (fun H locs hP hD hS => ?_)
      obtain ⟨r_24, er_24⟩ : ∃ z : Row, z = upd r (5 + k_i) (nI (100 - 1)) := ⟨_, rfl⟩
      rw [← er_24] at hP hD
      refine lv_goto (tgt := 36) S.1 S.2.1 dX5_weatherFor_27 (by decide) ?_
      exact retIx S hr hlk r_24 (by have e9 : rWeatherFor r i n9 = .inr (r, (bestN (fun k => daysF (upd r (5 + k_i) (nI k)) k_n9 4) 100).1) := (by unfold rWeatherFor; rw [if_pos c_4, if_pos c_14]; (try rw [ek_i]); (try rw [ek_n9]); (try rw [tN_nI (k := k_i) (by omega)]); (try rw [tN_nI (k := k_n9) (by omega)]); try with_reducible rfl); rw [e9, fndM_inr]; exact hP) hS (by have e9 : rWeatherFor r i n9 = .inr (r, (bestN (fun k => daysF (upd r (5 + k_i) (nI k)) k_n9 4) 100).1) := (by unfold rWeatherFor; rw [if_pos c_4, if_pos c_14]; (try rw [ek_i]); (try rw [ek_n9]); (try rw [tN_nI (k := k_i) (by omega)]); (try rw [tN_nI (k := k_n9) (by omega)]); try with_reducible rfl); rw [e9, ansR_inr]) dX5_weatherFor_36
set_option maxHeartbeats 800000 in
set_option maxRecDepth 100000 in
theorem c_X5_onionsFor (l : Launch) (E : EV) (am : Nat → Nat) (q r f x : Row) (v n9 : Int32) (hR : RI r) : Met l yX5_onionsFor (wq yX5_onionsFor cX5_onionsFor 5 (some .int)) ({ frames := 8, cells := 0, slots := 0, locals := 171 }) (preB E [.ref (am 0), .int v, .int n9] [[mObj am q], [(am 1, .inl (E.2.1, 77, .inl (sg r 77)))], [(am 4, .inl (E.2.1, 8, .inl (sg f 8)))], [(am 3, .inl (E.2.1, 77, .inl (sg x 77)))]]) (qIx E [[mObj am q], [(am 1, .inl (E.2.1, 77, .inl (sg r 77)))], [(am 4, .inl (E.2.1, 8, .inl (sg f 8)))], [(am 3, .inl (E.2.1, 77, .inl (sg x 77)))]] (fun u9 => [[mObj am q], [(am 1, .inl (E.2.1, 77, .inl (sg r 77)))], [(am 4, .inl (E.2.1, 8, .inl (sg (fndM f (rOnionsFor r v n9)) 8)))], [(am 3, .inl (E.2.1, 77, .inl (sg u9 77)))]]) (ansR (rOnionsFor r v n9))) 0 0 (inB [[mObj am q], [(am 1, .inl (E.2.1, 77, .inl (sg r 77)))], [(am 4, .inl (E.2.1, 8, .inl (sg f 8)))], [(am 3, .inl (E.2.1, 77, .inl (sg x 77)))]]) := by
  refine M_mk RX5 (by decide) rfl (Nat.le_of_ble_eq_true rfl) ?_
  intro p e s m below meth c S hr hlk hK hP hD hS ls hl
  have hl : lv_has ls 5 [(0, .ref (am 0)), (1, .int v), (2, .int n9)] := hl
  obtain ⟨n, d, hn, hn8, hd, hd5, ho, hso, hli, hsp, hpt⟩ := id hR
  obtain ⟨H, hH⟩ : ∃ z, z = s.heap := ⟨_, rfl⟩
  obtain ⟨locs, hlocs⟩ : ∃ z : List Loc, z = [] := ⟨_, rfl⟩
  have hP : PE E [[mObj am q], [(am 1, .inl (E.2.1, 77, .inl (sg r 77)))], [(am 4, .inl (E.2.1, 8, .inl (sg f 8)))], [(am 3, .inl (E.2.1, 77, .inl (sg x 77)))]] H := by rw [hH]; exact hP
  have hS : va_S (inB [[mObj am q], [(am 1, .inl (E.2.1, 77, .inl (sg r 77)))], [(am 4, .inl (E.2.1, 8, .inl (sg f 8)))], [(am 3, .inl (E.2.1, 77, .inl (sg x 77)))]]) s.heap H locs := by rw [hH, hlocs]; exact hS
  show W p l e ({ frames := 8, cells := 0, slots := 0, locals := 171 }) s m ([.ref (am 0), .int v, .int n9] : List Value).toArray below meth c s.heap [] 0 0 _ _
  suffices hgo : W p l e ({ frames := 8, cells := 0, slots := 0, locals := 171 }) s m ([.ref (am 0), .int v, .int n9] : List Value).toArray below meth c H locs 0 0 (MQ below (qIx E [[mObj am q], [(am 1, .inl (E.2.1, 77, .inl (sg r 77)))], [(am 4, .inl (E.2.1, 8, .inl (sg f 8)))], [(am 3, .inl (E.2.1, 77, .inl (sg x 77)))]] (fun u9 => [[mObj am q], [(am 1, .inl (E.2.1, 77, .inl (sg r 77)))], [(am 4, .inl (E.2.1, 8, .inl (sg (fndM f (rOnionsFor r v n9)) 8)))], [(am 3, .inl (E.2.1, 77, .inl (sg u9 77)))]]) (ansR (rOnionsFor r v n9))) ([.ref (am 0), .int v, .int n9] : List Value).toArray s 0 0 (inB [[mObj am q], [(am 1, .inl (E.2.1, 77, .inl (sg r 77)))], [(am 4, .inl (E.2.1, 8, .inl (sg f 8)))], [(am 3, .inl (E.2.1, 77, .inl (sg x 77)))]])) (F0 m 0 ls []) by rw [hH, hlocs] at hgo; exact hgo
  clear hH hlocs
  refine lv_iload_n S.1 S.2.1 dX5_onionsFor_0 rfl (lv_at hl 1 rfl) ?_
  refine lv_iconst (v := 0) S.1 S.2.1 dX5_onionsFor_1 (by decide) ?_
  refine lv_ldc (v := 99999) S.1 S.2.1 S.2.2.2.1 (S.2.2.2.2 _ (List.mem_cons_of_mem _ kk_X5_138)) dX5_onionsFor_2 ?_
  refine go_S (run_S (As := [.int v, .int 0, .int 99999]) (rest := []) (n := 3) S hK (bl_P hP [] rfl) (bl_D hD [] rfl rfl) (c_X5_within l E v 0 99999 ) gS_X5_70 (by decide +kernel) rfl ⟨rfl, rfl⟩ ⟨Nat.le_of_ble_eq_true rfl, Nat.le_of_ble_eq_true rfl⟩ hl.1 (Nat.le_of_ble_eq_true rfl) dX5_onionsFor_4 ⟨Nat.zero_le _, Nat.zero_le _⟩) ?_
  refine b_ifeq (tgt := 20) S.1 S.2.1 dX5_onionsFor_7 (by decide) (fun c_7 => ?_) (fun c_7 => ?_)
  · refine lv_aload_n S.1 S.2.1 dX5_onionsFor_20 rfl (lv_at hl 0 rfl) ?_
    refine lv_ldc (v := (-1000001)) S.1 S.2.1 S.2.2.2.1 (S.2.2.2.2 _ (List.mem_cons_of_mem _ kk_X5_60)) dX5_onionsFor_21 ?_
    refine go_I (run_V (As := [.int (-1000001)]) (rest := []) (n := 1) S hK (bl_P hP [0, 2] rfl) (bl_D hD [0, 2] rfl rfl) (c_X5_finding l E am q f (-1000001) 0 (by decide) (by decide)) gV_X5_66 (by decide +kernel) rfl ⟨rfl, rfl⟩ ⟨Nat.le_of_ble_eq_true rfl, Nat.le_of_ble_eq_true rfl⟩ (ci := 5) (q0 := 0) rfl rfl hl.1 (Nat.le_of_ble_eq_true rfl) dX5_onionsFor_23 ⟨Nat.zero_le _, Nat.zero_le _⟩) hP hD hS [0, 2] rfl (had_cons rfl (had_cons cell_ad rfl)) (Bs' := [[mObj am q], [(am 1, .inl (E.2.1, 77, .inl (sg r 77)))], [(am 4, .inl (E.2.1, 8, .inl (sg (findM f 0) 8)))], [(am 3, .inl (E.2.1, 77, .inl (sg x 77)))]]) rfl (fun H locs hP hD hS => ?_)
    obtain ⟨r_23, er_23⟩ : ∃ z : Row, z = findM f 0 := ⟨_, rfl⟩
    rw [← er_23] at hP hD
    exact retIx S hr hlk x (by have e9 : rOnionsFor r v n9 = .inl 0 := (by unfold rOnionsFor; rw [if_neg c_7]); rw [er_23] at hP; rw [e9, fndM_inl]; exact hP) hS (by have e9 : rOnionsFor r v n9 = .inl 0 := (by unfold rOnionsFor; rw [if_neg c_7]); rw [e9]; decide) dX5_onionsFor_26
  · obtain ⟨k_v, hk_v, ek_v⟩ := nI_of2 (n := 99999) (by decide) (Int32.not_lt.mpr c_7.1) c_7.2
    refine lv_iload_n S.1 S.2.1 dX5_onionsFor_10 rfl (lv_at hl 2 rfl) ?_
    refine lv_iconst (v := 0) S.1 S.2.1 dX5_onionsFor_11 (by decide) ?_
    refine lv_bipush (v := 40) S.1 S.2.1 dX5_onionsFor_12 (by decide) ?_
    refine go_S (run_S (As := [.int n9, .int 0, .int 40]) (rest := []) (n := 3) S hK (bl_P hP [] rfl) (bl_D hD [] rfl rfl) (c_X5_within l E n9 0 40 ) gS_X5_70 (by decide +kernel) rfl ⟨rfl, rfl⟩ ⟨Nat.le_of_ble_eq_true rfl, Nat.le_of_ble_eq_true rfl⟩ hl.1 (Nat.le_of_ble_eq_true rfl) dX5_onionsFor_14 ⟨Nat.zero_le _, Nat.zero_le _⟩) ?_
    refine b_ifne (tgt := 27) S.1 S.2.1 dX5_onionsFor_17 (by decide) (fun c_17 => ?_) (fun c_17 => ?_)
    · obtain ⟨k_n9, hk_n9, ek_n9⟩ := nI_of2 (n := 40) (by decide) (Int32.not_lt.mpr c_17.1) c_17.2
      refine lv_aload_n S.1 S.2.1 dX5_onionsFor_27 rfl (lv_at hl 0 rfl) ?_
      refine gf_X5_9 S hK hP 0 0 rfl rfl rfl dX5_onionsFor_28 ?_
      refine lv_iconst (v := 3) S.1 S.2.1 dX5_onionsFor_31 (by decide) ?_
      refine b_ialdN (i := 3) S hK hP 1 0 rfl rfl (by omega) (by decide) dX5_onionsFor_32 ?_
      refine lv_eqi (y := r 3) (sg_at (by omega)) ?_
      refine lv_istore_n (lv' := [(3, .int (r 3)), (0, .ref (am 0)), (1, .int v), (2, .int n9)]) S.1 S.2.1 dX5_onionsFor_33 rfl hl (by decide) rfl (fun ls hl => ?_)
      refine lv_iconst (v := 0) S.1 S.2.1 dX5_onionsFor_34 (by decide) ?_
      refine lv_istore (lv' := [(4, .int 0), (3, .int (r 3)), (0, .ref (am 0)), (1, .int v), (2, .int n9)]) S.1 S.2.1 dX5_onionsFor_35 hl (by decide) rfl (fun ls hl => ?_)
      refine lv_aload_n S.1 S.2.1 dX5_onionsFor_37 rfl (lv_at hl 2 rfl) ?_
      refine gf_X5_9 S hK hP 0 0 rfl rfl rfl dX5_onionsFor_38 ?_
      refine lv_iconst (v := 3) S.1 S.2.1 dX5_onionsFor_41 (by decide) ?_
      refine lv_iconst (v := 0) S.1 S.2.1 dX5_onionsFor_42 (by decide) ?_
      refine b_iastN (i := 3) S hK hP hD hS 1 0 rfl rfl (by omega) (by decide) (sgs_upd (by omega)) (Bs1 := [[mObj am q], [(am 1, .inl (E.2.1, 77, .inl (sg (upd r 3 0) 77)))], [(am 4, .inl (E.2.1, 8, .inl (sg f 8)))], [(am 3, .inl (E.2.1, 77, .inl (sg x 77)))]]) rfl dX5_onionsFor_43 (fun H locs hP hD hS => ?_)
      obtain ⟨r_43, er_43⟩ : ∃ z, z = upd r 3 0 := ⟨_, rfl⟩
      rw [← er_43] at hP hD
      have hr_43_1 : r_43 1 = nI n := by rw [er_43]; exact (upd_ne (by omega)).trans hn
      have hr_43_0 : r_43 0 = nI d := by rw [er_43]; exact (upd_ne (by omega)).trans hd
      have L_44 : ∀ (fu : Nat) (i : Nat) (xi : Row) (ai : Row), (i ≤ 100) → (100 < i + fu) → (xi = upd r (3) (nI i)) → (∀ j, j < i → ¬ (v ≤ daysF (upd r 3 (nI j)) k_n9 4)) → ∀ (H : Heap) (locs : List Loc), PE E [[mObj am q], [(am 1, .inl (E.2.1, 77, .inl (sg xi 77)))], [(am 4, .inl (E.2.1, 8, .inl (sg f 8)))], [(am 3, .inl (E.2.1, 77, .inl (sg ai 77)))]] H → DE (inB [[mObj am q], [(am 1, .inl (E.2.1, 77, .inl (sg r 77)))], [(am 4, .inl (E.2.1, 8, .inl (sg f 8)))], [(am 3, .inl (E.2.1, 77, .inl (sg x 77)))]]) [[mObj am q], [(am 1, .inl (E.2.1, 77, .inl (sg xi 77)))], [(am 4, .inl (E.2.1, 8, .inl (sg f 8)))], [(am 3, .inl (E.2.1, 77, .inl (sg ai 77)))]] → va_S (inB [[mObj am q], [(am 1, .inl (E.2.1, 77, .inl (sg r 77)))], [(am 4, .inl (E.2.1, 8, .inl (sg f 8)))], [(am 3, .inl (E.2.1, 77, .inl (sg x 77)))]]) s.heap H locs → ∀ (ls : Array Slot), lv_has ls 5 [(0, .ref (am 0)), (1, .int v), (2, .int n9), (3, .int (r 3)), (4, .int (nI i))] → W p l e ({ frames := 8, cells := 0, slots := 0, locals := 171 }) s m ([.ref (am 0), .int v, .int n9] : List Value).toArray below meth c H locs 0 0 (MQ below (qIx E [[mObj am q], [(am 1, .inl (E.2.1, 77, .inl (sg r 77)))], [(am 4, .inl (E.2.1, 8, .inl (sg f 8)))], [(am 3, .inl (E.2.1, 77, .inl (sg x 77)))]] (fun u9 => [[mObj am q], [(am 1, .inl (E.2.1, 77, .inl (sg r 77)))], [(am 4, .inl (E.2.1, 8, .inl (sg (fndM f (rOnionsFor r v n9)) 8)))], [(am 3, .inl (E.2.1, 77, .inl (sg u9 77)))]]) (ansR (rOnionsFor r v n9))) ([.ref (am 0), .int v, .int n9] : List Value).toArray s 0 0 (inB [[mObj am q], [(am 1, .inl (E.2.1, 77, .inl (sg r 77)))], [(am 4, .inl (E.2.1, 8, .inl (sg f 8)))], [(am 3, .inl (E.2.1, 77, .inl (sg x 77)))]])) (F0 m 44 ls []) := by
        intro fu
        induction fu with
        | zero =>
          intro i xi ai hi hf hxi hno
          omega
        | succ fu ih_44 =>
          intro i xi ai hi hf hxi hno H locs hP hD hS ls hl
          refine lv_iload S.1 S.2.1 dX5_onionsFor_44 (lv_at hl 4 rfl) ?_
          refine lv_bipush (v := 99) S.1 S.2.1 dX5_onionsFor_46 (by decide) ?_
          refine lv_icmp_gt (tgt := 75) S.1 S.2.1 dX5_onionsFor_48 (by decide) (fun c_48 => ?_) (fun c_48 => ?_)
          · have n_48 := Int32.not_le.mpr c_48
            refine lv_aload_n S.1 S.2.1 dX5_onionsFor_75 rfl (lv_at hl 0 rfl) ?_
            refine gf_X5_9 S hK hP 0 0 rfl rfl rfl dX5_onionsFor_76 ?_
            refine lv_iconst (v := 3) S.1 S.2.1 dX5_onionsFor_79 (by decide) ?_
            refine lv_iload_n S.1 S.2.1 dX5_onionsFor_80 rfl (lv_at hl 3 rfl) ?_
            refine b_iastN (i := 3) S hK hP hD hS 1 0 rfl rfl (by omega) (by decide) (sgs_upd (by omega)) (Bs1 := [[mObj am q], [(am 1, .inl (E.2.1, 77, .inl (sg (upd xi 3 (r 3)) 77)))], [(am 4, .inl (E.2.1, 8, .inl (sg f 8)))], [(am 3, .inl (E.2.1, 77, .inl (sg ai 77)))]]) rfl dX5_onionsFor_81 (fun H locs hP hD hS => ?_)
            obtain ⟨r_81, er_81⟩ : ∃ z, z = upd xi 3 (r 3) := ⟨_, rfl⟩
            rw [← er_81] at hP hD
            refine lv_iload S.1 S.2.1 dX5_onionsFor_82 (lv_at hl 4 rfl) ?_
            refine lv_bipush (v := 99) S.1 S.2.1 dX5_onionsFor_84 (by decide) ?_
            refine lv_icmp_gt (tgt := 94) S.1 S.2.1 dX5_onionsFor_86 (by decide) (fun c_86 => ?_) (fun c_86 => ?_)
            · have n_86 := Int32.not_le.mpr c_86
              refine lv_aload_n S.1 S.2.1 dX5_onionsFor_94 rfl (lv_at hl 0 rfl) ?_
              refine lv_ldc (v := (-1000004)) S.1 S.2.1 S.2.2.2.1 (S.2.2.2.2 _ (List.mem_cons_of_mem _ kk_X5_65)) dX5_onionsFor_95 ?_
              refine go_I (run_V (As := [.int (-1000004)]) (rest := []) (n := 1) S hK (bl_P hP [0, 2] rfl) (bl_D hD [0, 2] rfl rfl) (c_X5_finding l E am q f (-1000004) 3 (by decide) (by decide)) gV_X5_66 (by decide +kernel) rfl ⟨rfl, rfl⟩ ⟨Nat.le_of_ble_eq_true rfl, Nat.le_of_ble_eq_true rfl⟩ (ci := 5) (q0 := 0) rfl rfl hl.1 (Nat.le_of_ble_eq_true rfl) dX5_onionsFor_97 ⟨Nat.zero_le _, Nat.zero_le _⟩) hP hD hS [0, 2] rfl (had_cons rfl (had_cons cell_ad rfl)) (Bs' := [[mObj am q], [(am 1, .inl (E.2.1, 77, .inl (sg r_81 77)))], [(am 4, .inl (E.2.1, 8, .inl (sg (findM f 3) 8)))], [(am 3, .inl (E.2.1, 77, .inl (sg ai 77)))]]) rfl (fun H locs hP hD hS => ?_)
              obtain ⟨r_97, er_97⟩ : ∃ z : Row, z = findM f 3 := ⟨_, rfl⟩
              rw [← er_97] at hP hD
              exact retIx S hr hlk ai (by have e9 : rOnionsFor r v n9 = fstR r (fun h => decide (v ≤ daysF (upd r 3 (nI h)) k_n9 4)) 100 := (by unfold rOnionsFor; rw [if_pos c_7, if_pos c_17]; (try rw [ek_n9]); (try rw [tN_nI (k := k_n9) (by omega)]); try rfl); have e8 : fstR r (fun h => decide (v ≤ daysF (upd r 3 (nI h)) k_n9 4)) 100 = .inl 3 := fst_out (fun j hj => decide_eq_false (hno j (by have z9 : 99 < i := lt_of_nI c_48 (by omega) (by omega); omega))); have e7 : r_81 = r := (by rw [er_81, hxi, fa_tw]; exact upd_self); rw [e7] at hP; rw [er_97] at hP; rw [e9, e8]; exact hP) hS (by have e9 : rOnionsFor r v n9 = fstR r (fun h => decide (v ≤ daysF (upd r 3 (nI h)) k_n9 4)) 100 := (by unfold rOnionsFor; rw [if_pos c_7, if_pos c_17]; (try rw [ek_n9]); (try rw [tN_nI (k := k_n9) (by omega)]); try rfl); have e8 : fstR r (fun h => decide (v ≤ daysF (upd r 3 (nI h)) k_n9 4)) 100 = .inl 3 := fst_out (fun j hj => decide_eq_false (hno j (by have z9 : 99 < i := lt_of_nI c_48 (by omega) (by omega); omega))); rw [e9, e8]; decide) dX5_onionsFor_100
            · have n_86 := Int32.not_lt.mp c_86
              refine lv_iload S.1 S.2.1 dX5_onionsFor_89 (lv_at hl 4 rfl) ?_
              refine lv_goto (tgt := 100) S.1 S.2.1 dX5_onionsFor_91 (by decide) ?_
              exact retIx S hr hlk r (absurd c_48 c_86) hS (absurd c_48 c_86) dX5_onionsFor_100
          · have n_48 := Int32.not_lt.mp c_48
            have hi2 : i ≤ 99 := Nat.le_of_not_lt (fun z => c_48 (show nI 99 < nI i from nI_lt z (by omega)))
            have hRx : RI xi := by (rw [hxi]; exact RI_3 hR ⟨i, hi2, rfl⟩)
            refine lv_aload_n S.1 S.2.1 dX5_onionsFor_51 rfl (lv_at hl 0 rfl) ?_
            refine lv_iconst (v := 4) S.1 S.2.1 dX5_onionsFor_52 (by decide) ?_
            refine lv_iload_n S.1 S.2.1 dX5_onionsFor_53 rfl (lv_at hl 2 rfl) ?_
            refine lv_eqi (y := nI k_n9) ek_n9 ?_
            refine go_I (run_V (As := [.int 4, .int (nI k_n9)]) (rest := []) (n := 2) S hK (bl_P hP [0, 1, 3] rfl) (bl_D hD [0, 1, 3] rfl rfl) (c_X5_behind l E am q xi ai 4 k_n9 (by omega) (by omega) hRx) gV_X5_168 (by decide +kernel) rfl ⟨rfl, rfl⟩ ⟨Nat.le_of_ble_eq_true rfl, Nat.le_of_ble_eq_true rfl⟩ (ci := 5) (q0 := 0) rfl rfl hl.1 (Nat.le_of_ble_eq_true rfl) dX5_onionsFor_54 ⟨Nat.zero_le _, Nat.zero_le _⟩) hP hD hS [0, 1, 3] rfl (had_cons rfl (had_cons rfl (had_cons cell_ad rfl))) (Bs' := [[mObj am q], [(am 1, .inl (E.2.1, 77, .inl (sg xi 77)))], [(am 4, .inl (E.2.1, 8, .inl (sg f 8)))], [(am 3, .inl (E.2.1, 77, .inl (sg xi 77)))]]) rfl (fun H locs hP hD hS => ?_)
            refine lv_iload_n S.1 S.2.1 dX5_onionsFor_57 rfl (lv_at hl 1 rfl) ?_
            refine lv_eqi (y := nI k_v) ek_v ?_
            refine lv_icmp_ge (tgt := 75) S.1 S.2.1 dX5_onionsFor_58 (by decide) (fun c_58 => ?_) (fun c_58 => ?_)
            · have n_58 := Int32.not_lt.mpr c_58
              refine lv_aload_n S.1 S.2.1 dX5_onionsFor_75 rfl (lv_at hl 0 rfl) ?_
              refine gf_X5_9 S hK hP 0 0 rfl rfl rfl dX5_onionsFor_76 ?_
              refine lv_iconst (v := 3) S.1 S.2.1 dX5_onionsFor_79 (by decide) ?_
              refine lv_iload_n S.1 S.2.1 dX5_onionsFor_80 rfl (lv_at hl 3 rfl) ?_
              refine b_iastN (i := 3) S hK hP hD hS 1 0 rfl rfl (by omega) (by decide) (sgs_upd (by omega)) (Bs1 := [[mObj am q], [(am 1, .inl (E.2.1, 77, .inl (sg (upd xi 3 (r 3)) 77)))], [(am 4, .inl (E.2.1, 8, .inl (sg f 8)))], [(am 3, .inl (E.2.1, 77, .inl (sg xi 77)))]]) rfl dX5_onionsFor_81 (fun H locs hP hD hS => ?_)
              obtain ⟨r_81_1, er_81_1⟩ : ∃ z, z = upd xi 3 (r 3) := ⟨_, rfl⟩
              rw [← er_81_1] at hP hD
              refine lv_iload S.1 S.2.1 dX5_onionsFor_82 (lv_at hl 4 rfl) ?_
              refine lv_bipush (v := 99) S.1 S.2.1 dX5_onionsFor_84 (by decide) ?_
              refine lv_icmp_gt (tgt := 94) S.1 S.2.1 dX5_onionsFor_86 (by decide) (fun c_86 => ?_) (fun c_86 => ?_)
              · have n_86 := Int32.not_le.mpr c_86
                refine lv_aload_n S.1 S.2.1 dX5_onionsFor_94 rfl (lv_at hl 0 rfl) ?_
                refine lv_ldc (v := (-1000004)) S.1 S.2.1 S.2.2.2.1 (S.2.2.2.2 _ (List.mem_cons_of_mem _ kk_X5_65)) dX5_onionsFor_95 ?_
                refine go_I (run_V (As := [.int (-1000004)]) (rest := []) (n := 1) S hK (bl_P hP [0, 2] rfl) (bl_D hD [0, 2] rfl rfl) (c_X5_finding l E am q f (-1000004) 3 (by decide) (by decide)) gV_X5_66 (by decide +kernel) rfl ⟨rfl, rfl⟩ ⟨Nat.le_of_ble_eq_true rfl, Nat.le_of_ble_eq_true rfl⟩ (ci := 5) (q0 := 0) rfl rfl hl.1 (Nat.le_of_ble_eq_true rfl) dX5_onionsFor_97 ⟨Nat.zero_le _, Nat.zero_le _⟩) hP hD hS [0, 2] rfl (had_cons rfl (had_cons cell_ad rfl)) (Bs' := [[mObj am q], [(am 1, .inl (E.2.1, 77, .inl (sg r_81_1 77)))], [(am 4, .inl (E.2.1, 8, .inl (sg (findM f 3) 8)))], [(am 3, .inl (E.2.1, 77, .inl (sg xi 77)))]]) rfl (fun H locs hP hD hS => ?_)
                obtain ⟨r_97_2, er_97_2⟩ : ∃ z : Row, z = findM f 3 := ⟨_, rfl⟩
                rw [← er_97_2] at hP hD
                exact retIx S hr hlk r (absurd c_86 (nI_nlt (a := 99) (b := i) hi2 (by decide))) hS (absurd c_86 (nI_nlt (a := 99) (b := i) hi2 (by decide))) dX5_onionsFor_100
              · have n_86 := Int32.not_lt.mp c_86
                refine lv_iload S.1 S.2.1 dX5_onionsFor_89 (lv_at hl 4 rfl) ?_
                refine lv_goto (tgt := 100) S.1 S.2.1 dX5_onionsFor_91 (by decide) ?_
                exact retIx S hr hlk xi (by have e9 : rOnionsFor r v n9 = fstR r (fun h => decide (v ≤ daysF (upd r 3 (nI h)) k_n9 4)) 100 := (by unfold rOnionsFor; rw [if_pos c_7, if_pos c_17]; (try rw [ek_n9]); (try rw [tN_nI (k := k_n9) (by omega)]); try rfl); have e8 : fstR r (fun h => decide (v ≤ daysF (upd r 3 (nI h)) k_n9 4)) 100 = .inr (r, nI i) := fst_in (by omega) (fun j hj => decide_eq_false (hno j hj)) (decide_eq_true (by rw [← hxi, ek_v]; exact c_58)); have e7 : r_81_1 = r := (by rw [er_81_1, hxi, fa_tw]; exact upd_self); rw [e7] at hP; rw [e9, e8]; exact hP) hS (by have e9 : rOnionsFor r v n9 = fstR r (fun h => decide (v ≤ daysF (upd r 3 (nI h)) k_n9 4)) 100 := (by unfold rOnionsFor; rw [if_pos c_7, if_pos c_17]; (try rw [ek_n9]); (try rw [tN_nI (k := k_n9) (by omega)]); try rfl); have e8 : fstR r (fun h => decide (v ≤ daysF (upd r 3 (nI h)) k_n9 4)) 100 = .inr (r, nI i) := fst_in (by omega) (fun j hj => decide_eq_false (hno j hj)) (decide_eq_true (by rw [← hxi, ek_v]; exact c_58)); rw [e9, e8]; rfl) dX5_onionsFor_100
            · have n_58 := Int32.not_le.mp c_58
              refine lv_iinc (v := nI (i + 1)) (lv' := [(4, .int (nI (i + 1))), (0, .ref (am 0)), (1, .int v), (2, .int n9), (3, .int (r 3))]) S.1 S.2.1 dX5_onionsFor_61 hl (k := 4) rfl (nI_1 i) (by decide) rfl (fun ls hl => ?_)
              refine lv_aload_n S.1 S.2.1 dX5_onionsFor_64 rfl (lv_at hl 1 rfl) ?_
              refine gf_X5_9 S hK hP 0 0 rfl rfl rfl dX5_onionsFor_65 ?_
              refine lv_iconst (v := 3) S.1 S.2.1 dX5_onionsFor_68 (by decide) ?_
              refine lv_iload S.1 S.2.1 dX5_onionsFor_69 (lv_at hl 0 rfl) ?_
              refine b_iastN (i := 3) S hK hP hD hS 1 0 rfl rfl (by omega) (by decide) (sgs_upd (by omega)) (Bs1 := [[mObj am q], [(am 1, .inl (E.2.1, 77, .inl (sg (upd xi 3 (nI (i + 1))) 77)))], [(am 4, .inl (E.2.1, 8, .inl (sg f 8)))], [(am 3, .inl (E.2.1, 77, .inl (sg xi 77)))]]) rfl dX5_onionsFor_71 (fun H locs hP hD hS => ?_)
              obtain ⟨r_71, er_71⟩ : ∃ z, z = upd xi 3 (nI (i + 1)) := ⟨_, rfl⟩
              rw [← er_71] at hP hD
              refine lv_goto (tgt := 44) S.1 S.2.1 dX5_onionsFor_72 (by decide) ?_
              exact ih_44 (i + 1) r_71 xi (by omega) (by omega) (by rw [er_71, hxi, fa_tw]) (lt_s hno (by rw [← hxi, ek_v]; exact c_58)) H locs hP hD hS ls (lv_sub hl [1, 2, 3, 4, 0] rfl)
      exact L_44 (100 + 1) 0 r_43 x (by omega) (by omega) (by rw [er_43]; rfl) (fun j hj => absurd hj (by omega)) H locs hP hD hS ls (lv_sub hl [2, 3, 4, 1, 0] rfl)
    · refine lv_aload_n S.1 S.2.1 dX5_onionsFor_20 rfl (lv_at hl 0 rfl) ?_
      refine lv_ldc (v := (-1000001)) S.1 S.2.1 S.2.2.2.1 (S.2.2.2.2 _ (List.mem_cons_of_mem _ kk_X5_60)) dX5_onionsFor_21 ?_
      refine go_I (run_V (As := [.int (-1000001)]) (rest := []) (n := 1) S hK (bl_P hP [0, 2] rfl) (bl_D hD [0, 2] rfl rfl) (c_X5_finding l E am q f (-1000001) 0 (by decide) (by decide)) gV_X5_66 (by decide +kernel) rfl ⟨rfl, rfl⟩ ⟨Nat.le_of_ble_eq_true rfl, Nat.le_of_ble_eq_true rfl⟩ (ci := 5) (q0 := 0) rfl rfl hl.1 (Nat.le_of_ble_eq_true rfl) dX5_onionsFor_23 ⟨Nat.zero_le _, Nat.zero_le _⟩) hP hD hS [0, 2] rfl (had_cons rfl (had_cons cell_ad rfl)) (Bs' := [[mObj am q], [(am 1, .inl (E.2.1, 77, .inl (sg r 77)))], [(am 4, .inl (E.2.1, 8, .inl (sg (findM f 0) 8)))], [(am 3, .inl (E.2.1, 77, .inl (sg x 77)))]]) rfl (fun H locs hP hD hS => ?_)
      obtain ⟨r_23_3, er_23_3⟩ : ∃ z : Row, z = findM f 0 := ⟨_, rfl⟩
      rw [← er_23_3] at hP hD
      exact retIx S hr hlk x (by have e9 : rOnionsFor r v n9 = .inl 0 := (by unfold rOnionsFor; rw [if_pos c_7, if_neg c_17]); rw [er_23_3] at hP; rw [e9, fndM_inl]; exact hP) hS (by have e9 : rOnionsFor r v n9 = .inl 0 := (by unfold rOnionsFor; rw [if_pos c_7, if_neg c_17]); rw [e9]; decide) dX5_onionsFor_26
