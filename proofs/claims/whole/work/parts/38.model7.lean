def rUndo (y : Row) (z : Int32) : Res := if z = 0 then .inl 3 else .inr (y, y 0)
def rStatM (f : Row) (v : Int32) : Res := if (-1) ≤ v ∧ v ≤ 6 then .inr (f, f (tN (v + 1))) else .inl 0
theorem st_nat {v : Int32} (h : (-1) ≤ v ∧ v ≤ 6) : ∃ k : Nat, k < 8 ∧ v + 1 = nI k := by
  have h1 := Int32.le_iff_toInt_le.mp h.1
  have h2 := Int32.le_iff_toInt_le.mp h.2
  have e1 : (-1 : Int32).toInt = -1 := by decide
  have e2 : (6 : Int32).toInt = 6 := by decide
  rw [e1] at h1
  rw [e2] at h2
  refine ⟨(v.toInt + 1).toNat, by omega, ?_⟩
  apply Int32.toInt_inj.mp
  rw [nI_toInt (by omega), Int32.toInt_add, show (1 : Int32).toInt = 1 by decide, Int.bmod_eq_of_le (by omega) (by omega)]
  omega
def rCount (r : Row) (tp v : Int32) : Res := if v = 0 then .inr (r, r 0) else if v = 1 then .inr (r, r 1) else if v = 2 then .inr (r, r 4) else if v = 3 then .inr (r, sumR r 5 (cntN r)) else if v = 4 then .inr (r, sumR r 6 (cntN r)) else if v = 5 then .inr (r, tp) else if v = 6 then .inr (r, r 2) else if v = 7 then .inr (r, heldR r 10) else .inl 0
theorem held_p {r : Row} {i n : Nat} {x : Int32} (hx : x = heldR r i) (h : r (11 + i) = -1 ∨ ∃ k : Nat, k < n ∧ r (11 + i) = nI k) (c : 0 ≤ r (11 + i)) : x + 1 = heldR r (i + 1) := by
  rw [heldR, if_neg (fun z => by rw [z] at c; exact absurd c (by decide)), hx]
theorem held_n {r : Row} {i n : Nat} {x : Int32} (hx : x = heldR r i) (h : r (11 + i) = -1 ∨ ∃ k : Nat, k < n ∧ r (11 + i) = nI k) (hn : n ≤ 8) (c : ¬ 0 ≤ r (11 + i)) : x + 0 = heldR r (i + 1) := by
  rcases h with h | ⟨k, h1, h2⟩
  · rw [heldR, if_pos h, hx, Int32.add_zero]
  · rw [h2] at c
    exact absurd (nI_pos' (by omega)) c
set_option maxHeartbeats 800000 in
set_option maxRecDepth 100000 in
theorem c_X5_seed (l : Launch) (E : EV) (am : Nat → Nat) (q r : Row) (v : Int32)  : Met l yX5_seed (wq yX5_seed cX5_seed 2 (some .int)) ({ frames := 1, cells := 0, slots := 0, locals := 23 }) (preB E [.ref (am 0), .int v] [[mObj am q], [(am 1, .inl (E.2.1, 77, .inl (sg r 77)))]]) (qI E [[mObj am q], [(am 1, .inl (E.2.1, 77, .inl (sg r 77)))]] [[mObj am q], [(am 1, .inl (E.2.1, 77, .inl (sg (upd r 2 v) 77)))]] (r 2)) 0 0 (inB [[mObj am q], [(am 1, .inl (E.2.1, 77, .inl (sg r 77)))]]) := by
  refine M_mk RX5 (by decide) rfl (Nat.le_of_ble_eq_true rfl) ?_
  intro p e s m below meth c S hr hlk hK hP hD hS ls hl
  have hl : lv_has ls 2 [(0, .ref (am 0)), (1, .int v)] := hl
  obtain ⟨H, hH⟩ : ∃ z, z = s.heap := ⟨_, rfl⟩
  obtain ⟨locs, hlocs⟩ : ∃ z : List Loc, z = [] := ⟨_, rfl⟩
  have hP : PE E [[mObj am q], [(am 1, .inl (E.2.1, 77, .inl (sg r 77)))]] H := by rw [hH]; exact hP
  have hS : va_S (inB [[mObj am q], [(am 1, .inl (E.2.1, 77, .inl (sg r 77)))]]) s.heap H locs := by rw [hH, hlocs]; exact hS
  show W p l e ({ frames := 1, cells := 0, slots := 0, locals := 23 }) s m ([.ref (am 0), .int v] : List Value).toArray below meth c s.heap [] 0 0 _ _
  suffices hgo : W p l e ({ frames := 1, cells := 0, slots := 0, locals := 23 }) s m ([.ref (am 0), .int v] : List Value).toArray below meth c H locs 0 0 (MQ below (qI E [[mObj am q], [(am 1, .inl (E.2.1, 77, .inl (sg r 77)))]] [[mObj am q], [(am 1, .inl (E.2.1, 77, .inl (sg (upd r 2 v) 77)))]] (r 2)) ([.ref (am 0), .int v] : List Value).toArray s 0 0 (inB [[mObj am q], [(am 1, .inl (E.2.1, 77, .inl (sg r 77)))]])) (F0 m 0 ls []) by rw [hH, hlocs] at hgo; exact hgo
  clear hH hlocs
  refine lv_aload_n S.1 S.2.1 dX5_seed_0 rfl (lv_at hl 0 rfl) ?_
  refine lv_iconst (v := 2) S.1 S.2.1 dX5_seed_1 (by decide) ?_
  refine lv_iload_n S.1 S.2.1 dX5_seed_2 rfl (lv_at hl 1 rfl) ?_
  refine go_I (run_V (As := [.int 2, .int v]) (rest := []) (n := 2) S hK (bl_P hP [0, 1] rfl) (bl_D hD [0, 1] rfl rfl) (c_X5_become l E am q r 2 v (by omega)) gV_X5_78 (by decide +kernel) rfl ⟨rfl, rfl⟩ ⟨Nat.le_of_ble_eq_true rfl, Nat.le_of_ble_eq_true rfl⟩ (ci := 5) (q0 := 0) rfl rfl hl.1 (Nat.le_of_ble_eq_true rfl) dX5_seed_3 ⟨Nat.zero_le _, Nat.zero_le _⟩) hP hD hS [0, 1] rfl (had_cons rfl (had_cons cell_ad rfl)) (Bs' := [[mObj am q], [(am 1, .inl (E.2.1, 77, .inl (sg (upd r 2 v) 77)))]]) rfl (fun H locs hP hD hS => ?_)
  obtain ⟨r_3, er_3⟩ : ∃ z : Row, z = upd r 2 v := ⟨_, rfl⟩
  rw [← er_3] at hP hD
  exact retI S hr hlk (by rw [← er_3]; exact hP) hS rfl dX5_seed_6
set_option maxHeartbeats 800000 in
set_option maxRecDepth 100000 in
theorem c_X5_hold (l : Launch) (E : EV) (am : Nat → Nat) (q r f : Row) (s9 pp : Int32) (hR : RI r) : Met l yX5_hold (wq yX5_hold cX5_hold 3 (some .int)) ({ frames := 2, cells := 0, slots := 0, locals := 43 }) (preB E [.ref (am 0), .int s9, .int pp] [[mObj am q], [(am 1, .inl (E.2.1, 77, .inl (sg r 77)))], [(am 4, .inl (E.2.1, 8, .inl (sg f 8)))]]) (qI E [[mObj am q], [(am 1, .inl (E.2.1, 77, .inl (sg r 77)))], [(am 4, .inl (E.2.1, 8, .inl (sg f 8)))]] [[mObj am q], [(am 1, .inl (E.2.1, 77, .inl (sg (rowR r (rHold r s9 pp)) 77)))], [(am 4, .inl (E.2.1, 8, .inl (sg (fndM f (rHold r s9 pp)) 8)))]] (ansR (rHold r s9 pp))) 0 0 (inB [[mObj am q], [(am 1, .inl (E.2.1, 77, .inl (sg r 77)))], [(am 4, .inl (E.2.1, 8, .inl (sg f 8)))]]) := by
  refine M_mk RX5 (by decide) rfl (Nat.le_of_ble_eq_true rfl) ?_
  intro p e s m below meth c S hr hlk hK hP hD hS ls hl
  have hl : lv_has ls 3 [(0, .ref (am 0)), (1, .int s9), (2, .int pp)] := hl
  obtain ⟨n, d, hn, hn8, hd, hd5, ho, hso, hli, hsp, hpt⟩ := id hR
  obtain ⟨H, hH⟩ : ∃ z, z = s.heap := ⟨_, rfl⟩
  obtain ⟨locs, hlocs⟩ : ∃ z : List Loc, z = [] := ⟨_, rfl⟩
  have hP : PE E [[mObj am q], [(am 1, .inl (E.2.1, 77, .inl (sg r 77)))], [(am 4, .inl (E.2.1, 8, .inl (sg f 8)))]] H := by rw [hH]; exact hP
  have hS : va_S (inB [[mObj am q], [(am 1, .inl (E.2.1, 77, .inl (sg r 77)))], [(am 4, .inl (E.2.1, 8, .inl (sg f 8)))]]) s.heap H locs := by rw [hH, hlocs]; exact hS
  show W p l e ({ frames := 2, cells := 0, slots := 0, locals := 43 }) s m ([.ref (am 0), .int s9, .int pp] : List Value).toArray below meth c s.heap [] 0 0 _ _
  suffices hgo : W p l e ({ frames := 2, cells := 0, slots := 0, locals := 43 }) s m ([.ref (am 0), .int s9, .int pp] : List Value).toArray below meth c H locs 0 0 (MQ below (qI E [[mObj am q], [(am 1, .inl (E.2.1, 77, .inl (sg r 77)))], [(am 4, .inl (E.2.1, 8, .inl (sg f 8)))]] [[mObj am q], [(am 1, .inl (E.2.1, 77, .inl (sg (rowR r (rHold r s9 pp)) 77)))], [(am 4, .inl (E.2.1, 8, .inl (sg (fndM f (rHold r s9 pp)) 8)))]] (ansR (rHold r s9 pp))) ([.ref (am 0), .int s9, .int pp] : List Value).toArray s 0 0 (inB [[mObj am q], [(am 1, .inl (E.2.1, 77, .inl (sg r 77)))], [(am 4, .inl (E.2.1, 8, .inl (sg f 8)))]])) (F0 m 0 ls []) by rw [hH, hlocs] at hgo; exact hgo
  clear hH hlocs
  refine lv_iload_n S.1 S.2.1 dX5_hold_0 rfl (lv_at hl 1 rfl) ?_
  refine go_S (run_S (As := [.int s9]) (rest := []) (n := 1) S hK (bl_P hP [] rfl) (bl_D hD [] rfl rfl) (c_X5_isSpot l E s9 ) gS_X5_300 (by decide +kernel) rfl ⟨rfl, rfl⟩ ⟨Nat.le_of_ble_eq_true rfl, Nat.le_of_ble_eq_true rfl⟩ hl.1 (Nat.le_of_ble_eq_true rfl) dX5_hold_1 ⟨Nat.zero_le _, Nat.zero_le _⟩) ?_
  refine b_ifeq (tgt := 20) S.1 S.2.1 dX5_hold_4 (by decide) (fun c_4 => ?_) (fun c_4 => ?_)
  · refine lv_aload_n S.1 S.2.1 dX5_hold_20 rfl (lv_at hl 0 rfl) ?_
    refine lv_ldc (v := (-1000001)) S.1 S.2.1 S.2.2.2.1 (S.2.2.2.2 _ (List.mem_cons_of_mem _ kk_X5_60)) dX5_hold_21 ?_
    refine go_I (run_V (As := [.int (-1000001)]) (rest := []) (n := 1) S hK (bl_P hP [0, 2] rfl) (bl_D hD [0, 2] rfl rfl) (c_X5_finding l E am q f (-1000001) 0 (by decide) (by decide)) gV_X5_66 (by decide +kernel) rfl ⟨rfl, rfl⟩ ⟨Nat.le_of_ble_eq_true rfl, Nat.le_of_ble_eq_true rfl⟩ (ci := 5) (q0 := 0) rfl rfl hl.1 (Nat.le_of_ble_eq_true rfl) dX5_hold_23 ⟨Nat.zero_le _, Nat.zero_le _⟩) hP hD hS [0, 2] rfl (had_cons rfl (had_cons cell_ad rfl)) (Bs' := [[mObj am q], [(am 1, .inl (E.2.1, 77, .inl (sg r 77)))], [(am 4, .inl (E.2.1, 8, .inl (sg (findM f 0) 8)))]]) rfl (fun H locs hP hD hS => ?_)
    obtain ⟨r_23, er_23⟩ : ∃ z : Row, z = findM f 0 := ⟨_, rfl⟩
    rw [← er_23] at hP hD
    exact retI S hr hlk (by have e9 : rHold r s9 pp = .inl 0 := (by unfold rHold; rw [if_neg c_4]); rw [er_23] at hP; rw [e9, fndM_inl]; exact hP) hS (by have e9 : rHold r s9 pp = .inl 0 := (by unfold rHold; rw [if_neg c_4]); rw [e9]; decide) dX5_hold_26
  · obtain ⟨k_s9, hk_s9, ek_s9⟩ := nI_of2 (n := 9) (by decide) (Int32.not_lt.mpr c_4.1) c_4.2
    refine lv_iload_n S.1 S.2.1 dX5_hold_7 rfl (lv_at hl 2 rfl) ?_
    refine lv_iconst (v := (-1)) S.1 S.2.1 dX5_hold_8 (by decide) ?_
    refine lv_icmp_eq (tgt := 27) S.1 S.2.1 dX5_hold_9 (by decide) (fun c_9 => ?_) (fun c_9 => ?_)
    · refine lv_aload_n S.1 S.2.1 dX5_hold_27 rfl (lv_at hl 0 rfl) ?_
      refine gf_X5_9 S hK hP 0 0 rfl rfl rfl dX5_hold_28 ?_
      refine lv_bipush (v := 11) S.1 S.2.1 dX5_hold_31 (by decide) ?_
      refine lv_iload_n S.1 S.2.1 dX5_hold_33 rfl (lv_at hl 1 rfl) ?_
      refine lv_eqi (y := nI k_s9) ek_s9 ?_
      refine lv_iadd S.1 S.2.1 dX5_hold_34 ?_
      refine lv_eqi (y := nI (11 + k_s9)) (nI_add 11 k_s9) ?_
      refine lv_iload_n S.1 S.2.1 dX5_hold_35 rfl (lv_at hl 2 rfl) ?_
      refine b_iastN (i := 11 + k_s9) S hK hP hD hS 1 0 rfl rfl (by omega) (by decide) (sgs_upd (by omega)) (Bs1 := [[mObj am q], [(am 1, .inl (E.2.1, 77, .inl (sg (upd r (11 + k_s9) pp) 77)))], [(am 4, .inl (E.2.1, 8, .inl (sg f 8)))]]) rfl dX5_hold_36 (fun H locs hP hD hS => ?_)
      obtain ⟨r_36, er_36⟩ : ∃ z, z = upd r (11 + k_s9) pp := ⟨_, rfl⟩
      rw [← er_36] at hP hD
      have hr_36_1 : r_36 1 = nI n := by rw [er_36]; exact (upd_ne (by omega)).trans hn
      have hr_36_0 : r_36 0 = nI d := by rw [er_36]; exact (upd_ne (by omega)).trans hd
      refine lv_iconst (v := 1) S.1 S.2.1 dX5_hold_37 (by decide) ?_
      exact retI S hr hlk (by have e9 : rHold r s9 pp = .inr (r_36, 1) := (by unfold rHold; rw [if_pos c_4, if_pos (Or.inl c_9)]; (try rw [ek_s9]); (try rw [tN_nI (k := k_s9) (by omega)]); (try rw [er_36]); try with_reducible rfl); rw [e9, rowR_inr, fndM_inr]; exact hP) hS (by have e9 : rHold r s9 pp = .inr (r_36, 1) := (by unfold rHold; rw [if_pos c_4, if_pos (Or.inl c_9)]; (try rw [ek_s9]); (try rw [tN_nI (k := k_s9) (by omega)]); (try rw [er_36]); try with_reducible rfl); rw [e9, ansR_inr]) dX5_hold_38
    · refine lv_aload_n S.1 S.2.1 dX5_hold_12 rfl (lv_at hl 0 rfl) ?_
      refine lv_iload_n S.1 S.2.1 dX5_hold_13 rfl (lv_at hl 2 rfl) ?_
      refine go_S (run_V (As := [.int pp]) (rest := []) (n := 1) S hK (bl_P hP [0, 1] rfl) (bl_D hD [0, 1] rfl rfl) (c_X5_isPotter l E am q r pp n hn hn8) gV_X5_122 (by decide +kernel) rfl ⟨rfl, rfl⟩ ⟨Nat.le_of_ble_eq_true rfl, Nat.le_of_ble_eq_true rfl⟩ (ci := 5) (q0 := 0) rfl rfl hl.1 (Nat.le_of_ble_eq_true rfl) dX5_hold_14 ⟨Nat.zero_le _, Nat.zero_le _⟩) ?_
      refine b_ifne (tgt := 27) S.1 S.2.1 dX5_hold_17 (by decide) (fun c_17 => ?_) (fun c_17 => ?_)
      · obtain ⟨k_pp, hk_pp, ek_pp⟩ := pot_nat c_17 hn (by omega)
        refine lv_aload_n S.1 S.2.1 dX5_hold_27 rfl (lv_at hl 0 rfl) ?_
        refine gf_X5_9 S hK hP 0 0 rfl rfl rfl dX5_hold_28 ?_
        refine lv_bipush (v := 11) S.1 S.2.1 dX5_hold_31 (by decide) ?_
        refine lv_iload_n S.1 S.2.1 dX5_hold_33 rfl (lv_at hl 1 rfl) ?_
        refine lv_eqi (y := nI k_s9) ek_s9 ?_
        refine lv_iadd S.1 S.2.1 dX5_hold_34 ?_
        refine lv_eqi (y := nI (11 + k_s9)) (nI_add 11 k_s9) ?_
        refine lv_iload_n S.1 S.2.1 dX5_hold_35 rfl (lv_at hl 2 rfl) ?_
        refine lv_eqi (y := nI k_pp) ek_pp ?_
        refine b_iastN (i := 11 + k_s9) S hK hP hD hS 1 0 rfl rfl (by omega) (by decide) (sgs_upd (by omega)) (Bs1 := [[mObj am q], [(am 1, .inl (E.2.1, 77, .inl (sg (upd r (11 + k_s9) (nI k_pp)) 77)))], [(am 4, .inl (E.2.1, 8, .inl (sg f 8)))]]) rfl dX5_hold_36 (fun H locs hP hD hS => ?_)
        obtain ⟨r_36_1, er_36_1⟩ : ∃ z, z = upd r (11 + k_s9) (nI k_pp) := ⟨_, rfl⟩
        rw [← er_36_1] at hP hD
        have hr_36_1_1 : r_36_1 1 = nI n := by rw [er_36_1]; exact (upd_ne (by omega)).trans hn
        have hr_36_1_0 : r_36_1 0 = nI d := by rw [er_36_1]; exact (upd_ne (by omega)).trans hd
        refine lv_iconst (v := 1) S.1 S.2.1 dX5_hold_37 (by decide) ?_
        exact retI S hr hlk (by have e9 : rHold r s9 pp = .inr (r_36_1, 1) := (by unfold rHold; rw [if_pos c_4, if_pos (Or.inr c_17)]; (try rw [ek_s9]); (try rw [ek_pp]); (try rw [tN_nI (k := k_s9) (by omega)]); (try rw [tN_nI (k := k_pp) (by omega)]); (try rw [er_36_1]); try with_reducible rfl); rw [e9, rowR_inr, fndM_inr]; exact hP) hS (by have e9 : rHold r s9 pp = .inr (r_36_1, 1) := (by unfold rHold; rw [if_pos c_4, if_pos (Or.inr c_17)]; (try rw [ek_s9]); (try rw [ek_pp]); (try rw [tN_nI (k := k_s9) (by omega)]); (try rw [tN_nI (k := k_pp) (by omega)]); (try rw [er_36_1]); try with_reducible rfl); rw [e9, ansR_inr]) dX5_hold_38
      · refine lv_aload_n S.1 S.2.1 dX5_hold_20 rfl (lv_at hl 0 rfl) ?_
        refine lv_ldc (v := (-1000001)) S.1 S.2.1 S.2.2.2.1 (S.2.2.2.2 _ (List.mem_cons_of_mem _ kk_X5_60)) dX5_hold_21 ?_
        refine go_I (run_V (As := [.int (-1000001)]) (rest := []) (n := 1) S hK (bl_P hP [0, 2] rfl) (bl_D hD [0, 2] rfl rfl) (c_X5_finding l E am q f (-1000001) 0 (by decide) (by decide)) gV_X5_66 (by decide +kernel) rfl ⟨rfl, rfl⟩ ⟨Nat.le_of_ble_eq_true rfl, Nat.le_of_ble_eq_true rfl⟩ (ci := 5) (q0 := 0) rfl rfl hl.1 (Nat.le_of_ble_eq_true rfl) dX5_hold_23 ⟨Nat.zero_le _, Nat.zero_le _⟩) hP hD hS [0, 2] rfl (had_cons rfl (had_cons cell_ad rfl)) (Bs' := [[mObj am q], [(am 1, .inl (E.2.1, 77, .inl (sg r 77)))], [(am 4, .inl (E.2.1, 8, .inl (sg (findM f 0) 8)))]]) rfl (fun H locs hP hD hS => ?_)
        obtain ⟨r_23_2, er_23_2⟩ : ∃ z : Row, z = findM f 0 := ⟨_, rfl⟩
        rw [← er_23_2] at hP hD
        exact retI S hr hlk (by have e9 : rHold r s9 pp = .inl 0 := (by unfold rHold; rw [if_pos c_4, if_neg (fun z => z.elim c_9 c_17)]); rw [er_23_2] at hP; rw [e9, fndM_inl]; exact hP) hS (by have e9 : rHold r s9 pp = .inl 0 := (by unfold rHold; rw [if_pos c_4, if_neg (fun z => z.elim c_9 c_17)]); rw [e9]; decide) dX5_hold_26
set_option maxHeartbeats 800000 in
set_option maxRecDepth 100000 in
theorem c_X5_storms (l : Launch) (E : EV) (am : Nat → Nat) (q r f : Row) (n9 : Int32) (hR : RI r) : Met l yX5_storms (wq yX5_storms cX5_storms 4 (some .int)) ({ frames := 6, cells := 0, slots := 0, locals := 127 }) (preB E [.ref (am 0), .int n9] [[mObj am q], [(am 1, .inl (E.2.1, 77, .inl (sg r 77)))], [(am 4, .inl (E.2.1, 8, .inl (sg f 8)))]]) (qI E [[mObj am q], [(am 1, .inl (E.2.1, 77, .inl (sg r 77)))], [(am 4, .inl (E.2.1, 8, .inl (sg f 8)))]] [[mObj am q], [(am 1, .inl (E.2.1, 77, .inl (sg (rowR r (rStorms r n9)) 77)))], [(am 4, .inl (E.2.1, 8, .inl (sg (fndM f (rStorms r n9)) 8)))]] (ansR (rStorms r n9))) 0 0 (inB [[mObj am q], [(am 1, .inl (E.2.1, 77, .inl (sg r 77)))], [(am 4, .inl (E.2.1, 8, .inl (sg f 8)))]]) := by
  refine M_mk RX5 (by decide) rfl (Nat.le_of_ble_eq_true rfl) ?_
  intro p e s m below meth c S hr hlk hK hP hD hS ls hl
  have hl : lv_has ls 4 [(0, .ref (am 0)), (1, .int n9)] := hl
  obtain ⟨n, d, hn, hn8, hd, hd5, ho, hso, hli, hsp, hpt⟩ := id hR
  obtain ⟨H, hH⟩ : ∃ z, z = s.heap := ⟨_, rfl⟩
  obtain ⟨locs, hlocs⟩ : ∃ z : List Loc, z = [] := ⟨_, rfl⟩
  have hP : PE E [[mObj am q], [(am 1, .inl (E.2.1, 77, .inl (sg r 77)))], [(am 4, .inl (E.2.1, 8, .inl (sg f 8)))]] H := by rw [hH]; exact hP
  have hS : va_S (inB [[mObj am q], [(am 1, .inl (E.2.1, 77, .inl (sg r 77)))], [(am 4, .inl (E.2.1, 8, .inl (sg f 8)))]]) s.heap H locs := by rw [hH, hlocs]; exact hS
  show W p l e ({ frames := 6, cells := 0, slots := 0, locals := 127 }) s m ([.ref (am 0), .int n9] : List Value).toArray below meth c s.heap [] 0 0 _ _
  suffices hgo : W p l e ({ frames := 6, cells := 0, slots := 0, locals := 127 }) s m ([.ref (am 0), .int n9] : List Value).toArray below meth c H locs 0 0 (MQ below (qI E [[mObj am q], [(am 1, .inl (E.2.1, 77, .inl (sg r 77)))], [(am 4, .inl (E.2.1, 8, .inl (sg f 8)))]] [[mObj am q], [(am 1, .inl (E.2.1, 77, .inl (sg (rowR r (rStorms r n9)) 77)))], [(am 4, .inl (E.2.1, 8, .inl (sg (fndM f (rStorms r n9)) 8)))]] (ansR (rStorms r n9))) ([.ref (am 0), .int n9] : List Value).toArray s 0 0 (inB [[mObj am q], [(am 1, .inl (E.2.1, 77, .inl (sg r 77)))], [(am 4, .inl (E.2.1, 8, .inl (sg f 8)))]])) (F0 m 0 ls []) by rw [hH, hlocs] at hgo; exact hgo
  clear hH hlocs
  refine lv_iload_n S.1 S.2.1 dX5_storms_0 rfl (lv_at hl 1 rfl) ?_
  refine lv_iconst (v := 1) S.1 S.2.1 dX5_storms_1 (by decide) ?_
  refine lv_bipush (v := 20) S.1 S.2.1 dX5_storms_2 (by decide) ?_
  refine go_S (run_S (As := [.int n9, .int 1, .int 20]) (rest := []) (n := 3) S hK (bl_P hP [] rfl) (bl_D hD [] rfl rfl) (c_X5_within l E n9 1 20 ) gS_X5_70 (by decide +kernel) rfl ⟨rfl, rfl⟩ ⟨Nat.le_of_ble_eq_true rfl, Nat.le_of_ble_eq_true rfl⟩ hl.1 (Nat.le_of_ble_eq_true rfl) dX5_storms_4 ⟨Nat.zero_le _, Nat.zero_le _⟩) ?_
  refine b_ifne (tgt := 17) S.1 S.2.1 dX5_storms_7 (by decide) (fun c_7 => ?_) (fun c_7 => ?_)
  · obtain ⟨k_n9, hj_n9, hk_n9, ek_n9⟩ := of_rng (lo := 1) (hi := 20) (by decide) (by decide) c_7
    refine lv_aload_n S.1 S.2.1 dX5_storms_17 rfl (lv_at hl 0 rfl) ?_
    refine gf_X5_9 S hK hP 0 0 rfl rfl rfl dX5_storms_18 ?_
    refine lv_iconst (v := 0) S.1 S.2.1 dX5_storms_21 (by decide) ?_
    refine b_ialdN (i := 0) S hK hP 1 0 rfl rfl (by omega) (by decide) dX5_storms_22 ?_
    refine lv_eqi (y := nI d) ((sg_at (by omega)).trans hd) ?_
    refine lv_iload_n S.1 S.2.1 dX5_storms_23 rfl (lv_at hl 1 rfl) ?_
    refine lv_eqi (y := nI k_n9) ek_n9 ?_
    refine lv_iadd S.1 S.2.1 dX5_storms_24 ?_
    refine lv_eqi (y := nI (d + k_n9)) (nI_add d k_n9) ?_
    refine lv_ldc (v := 99999) S.1 S.2.1 S.2.2.2.1 (S.2.2.2.2 _ (List.mem_cons_of_mem _ kk_X5_138)) dX5_storms_25 ?_
    refine lv_icmp_le (tgt := 37) S.1 S.2.1 dX5_storms_27 (by decide) (fun c_27 => ?_) (fun c_27 => ?_)
    · have n_27 := Int32.not_lt.mpr c_27
      refine lv_iconst (v := 0) S.1 S.2.1 dX5_storms_37 (by decide) ?_
      refine lv_istore_n (lv' := [(2, .int 0), (0, .ref (am 0)), (1, .int n9)]) S.1 S.2.1 dX5_storms_38 rfl hl (by decide) rfl (fun ls hl => ?_)
      have L_39 : ∀ (fu : Nat) (i : Nat) (ri : Row), (i ≤ k_n9) → (k_n9 < i + fu) → (ri = stormN r i) → (RI ri) → ∀ (H : Heap) (locs : List Loc), PE E [[mObj am q], [(am 1, .inl (E.2.1, 77, .inl (sg ri 77)))], [(am 4, .inl (E.2.1, 8, .inl (sg f 8)))]] H → DE (inB [[mObj am q], [(am 1, .inl (E.2.1, 77, .inl (sg r 77)))], [(am 4, .inl (E.2.1, 8, .inl (sg f 8)))]]) [[mObj am q], [(am 1, .inl (E.2.1, 77, .inl (sg ri 77)))], [(am 4, .inl (E.2.1, 8, .inl (sg f 8)))]] → va_S (inB [[mObj am q], [(am 1, .inl (E.2.1, 77, .inl (sg r 77)))], [(am 4, .inl (E.2.1, 8, .inl (sg f 8)))]]) s.heap H locs → ∀ (ls : Array Slot), lv_has ls 4 [(0, .ref (am 0)), (1, .int n9), (2, .int (nI i))] → W p l e ({ frames := 6, cells := 0, slots := 0, locals := 127 }) s m ([.ref (am 0), .int n9] : List Value).toArray below meth c H locs 0 0 (MQ below (qI E [[mObj am q], [(am 1, .inl (E.2.1, 77, .inl (sg r 77)))], [(am 4, .inl (E.2.1, 8, .inl (sg f 8)))]] [[mObj am q], [(am 1, .inl (E.2.1, 77, .inl (sg (rowR r (rStorms r n9)) 77)))], [(am 4, .inl (E.2.1, 8, .inl (sg (fndM f (rStorms r n9)) 8)))]] (ansR (rStorms r n9))) ([.ref (am 0), .int n9] : List Value).toArray s 0 0 (inB [[mObj am q], [(am 1, .inl (E.2.1, 77, .inl (sg r 77)))], [(am 4, .inl (E.2.1, 8, .inl (sg f 8)))]])) (F0 m 39 ls []) := by
        intro fu
        induction fu with
        | zero =>
          intro i ri hi hf hri hR1
          omega
        | succ fu ih_39 =>
          intro i ri hi hf hri hR1 H locs hP hD hS ls hl
          refine lv_iload_n S.1 S.2.1 dX5_storms_39 rfl (lv_at hl 2 rfl) ?_
          refine lv_iload_n S.1 S.2.1 dX5_storms_40 rfl (lv_at hl 1 rfl) ?_
          refine lv_eqi (y := nI k_n9) ek_n9 ?_
          refine lv_icmp_ge (tgt := 105) S.1 S.2.1 dX5_storms_41 (by decide) (fun c_41 => ?_) (fun c_41 => ?_)
          · have n_41 := Int32.not_lt.mpr c_41
            have hi9 : i = k_n9 := le_endK hi c_41 (by omega)
            refine lv_aload_n S.1 S.2.1 dX5_storms_105 rfl (lv_at hl 0 rfl) ?_
            refine gf_X5_9 S hK hP 0 0 rfl rfl rfl dX5_storms_106 ?_
            refine lv_iconst (v := 4) S.1 S.2.1 dX5_storms_109 (by decide) ?_
            refine b_ialdN (i := 4) S hK hP 1 0 rfl rfl (by omega) (by decide) dX5_storms_110 ?_
            refine lv_eqi (y := ri 4) (sg_at (by omega)) ?_
            exact retI S hr hlk (by have e9 : rStorms r n9 = .inr (ri, ri 4) := (by unfold rStorms; rw [if_pos c_7, if_neg (show ¬ 99999 < r 0 + n9 by rw [hd, ek_n9, nI_add]; exact n_27), ek_n9, tN_nI (by omega), ← hi9, ← hri]); rw [e9, rowR_inr, fndM_inr]; exact hP) hS (by have e9 : rStorms r n9 = .inr (ri, ri 4) := (by unfold rStorms; rw [if_pos c_7, if_neg (show ¬ 99999 < r 0 + n9 by rw [hd, ek_n9, nI_add]; exact n_27), ek_n9, tN_nI (by omega), ← hi9, ← hri]); rw [e9, ansR_inr]) dX5_storms_111
          · have n_41 := Int32.not_le.mp c_41
            have hi2 : i < k_n9 := lt_in c_41 hi
            obtain ⟨n2, d2, hn2, hn28, hd2, hd25, -⟩ := id hR1
            refine lv_aload_n S.1 S.2.1 dX5_storms_44 rfl (lv_at hl 0 rfl) ?_
            refine gf_X5_9 S hK hP 0 0 rfl rfl rfl dX5_storms_45 ?_
            refine lv_iconst (v := 5) S.1 S.2.1 dX5_storms_48 (by decide) ?_
            refine lv_aload_n S.1 S.2.1 dX5_storms_49 rfl (lv_at hl 0 rfl) ?_
            refine gf_X5_9 S hK hP 0 0 rfl rfl rfl dX5_storms_50 ?_
            refine lv_iconst (v := 0) S.1 S.2.1 dX5_storms_53 (by decide) ?_
            refine b_ialdN (i := 0) S hK hP 1 0 rfl rfl (by omega) (by decide) dX5_storms_54 ?_
            refine lv_eqi (y := nI d2) ((sg_at (by omega)).trans hd2) ?_
            refine lv_bipush (v := 6) S.1 S.2.1 dX5_storms_55 (by decide) ?_
            refine lv_irem S.1 S.2.1 dX5_storms_57 (by decide) ?_
            refine lv_eqi (y := nI (d2 % 6)) (pk_rem (a := d2) (d := 6) (by omega) (by decide) (by decide)) ?_
            refine lv_iadd S.1 S.2.1 dX5_storms_58 ?_
            refine lv_eqi (y := nI (5 + d2 % 6)) (nI_add 5 (d2 % 6)) ?_
            refine lv_aload_n S.1 S.2.1 dX5_storms_59 rfl (lv_at hl 0 rfl) ?_
            refine go_I (run_V (As := []) (rest := [.int (nI (5 + d2 % 6)), .ref (am 1)]) (n := 0) S hK (bl_P hP [0, 1] rfl) (bl_D hD [0, 1] rfl rfl) (c_X5_drawn l E am q ri ) gV_X5_219 (by decide +kernel) rfl ⟨rfl, rfl⟩ ⟨Nat.le_of_ble_eq_true rfl, Nat.le_of_ble_eq_true rfl⟩ (ci := 5) (q0 := 0) rfl rfl hl.1 (Nat.le_of_ble_eq_true rfl) dX5_storms_60 ⟨Nat.zero_le _, Nat.zero_le _⟩) hP hD hS [0, 1] rfl (had_cons rfl (had_cons cell_ad rfl)) (Bs' := [[mObj am q], [(am 1, .inl (E.2.1, 77, .inl (sg (drawF ri) 77)))], [(am 4, .inl (E.2.1, 8, .inl (sg f 8)))]]) rfl (fun H locs hP hD hS => ?_)
            obtain ⟨r_60, er_60⟩ : ∃ z : Row, z = drawF ri := ⟨_, rfl⟩
            rw [← er_60] at hP hD
            have hr_60_1 : r_60 1 = nI n2 := by rw [er_60]; exact (upd_ne (by omega)).trans hn2
            have hr_60_0 : r_60 0 = nI d2 := by rw [er_60]; exact (upd_ne (by omega)).trans hd2
            have hr_60_RI : RI r_60 := by rw [er_60]; exact RI_2 hR1
            obtain ⟨z_60, hz_60, ez_60⟩ := drawV_nat ri
            refine lv_eqi ez_60 ?_
            refine lv_bipush (v := 100) S.1 S.2.1 dX5_storms_63 (by decide) ?_
            refine lv_irem S.1 S.2.1 dX5_storms_65 (by decide) ?_
            refine lv_eqi (y := nI (z_60 % 100)) (pk_rem (a := z_60) (d := 100) (by omega) (by decide) (by decide)) ?_
            refine b_iastN (i := 5 + d2 % 6) S hK hP hD hS 1 0 rfl rfl (by omega) (by decide) (sgs_upd (by omega)) (Bs1 := [[mObj am q], [(am 1, .inl (E.2.1, 77, .inl (sg (upd r_60 (5 + d2 % 6) (nI (z_60 % 100))) 77)))], [(am 4, .inl (E.2.1, 8, .inl (sg f 8)))]]) rfl dX5_storms_66 (fun H locs hP hD hS => ?_)
            obtain ⟨r_66, er_66⟩ : ∃ z, z = upd r_60 (5 + d2 % 6) (nI (z_60 % 100)) := ⟨_, rfl⟩
            rw [← er_66] at hP hD
            have hr_66_1 : r_66 1 = nI n2 := by rw [er_66]; exact (upd_ne (by omega)).trans hr_60_1
            have hr_66_0 : r_66 0 = nI d2 := by rw [er_66]; exact (upd_ne (by omega)).trans hr_60_0
            refine lv_aload_n S.1 S.2.1 dX5_storms_67 rfl (lv_at hl 0 rfl) ?_
            refine go_I (run_V (As := []) (rest := []) (n := 0) S hK (bl_P hP [0, 1] rfl) (bl_D hD [0, 1] rfl rfl) (c_X5_drawn l E am q r_66 ) gV_X5_219 (by decide +kernel) rfl ⟨rfl, rfl⟩ ⟨Nat.le_of_ble_eq_true rfl, Nat.le_of_ble_eq_true rfl⟩ (ci := 5) (q0 := 0) rfl rfl hl.1 (Nat.le_of_ble_eq_true rfl) dX5_storms_68 ⟨Nat.zero_le _, Nat.zero_le _⟩) hP hD hS [0, 1] rfl (had_cons rfl (had_cons cell_ad rfl)) (Bs' := [[mObj am q], [(am 1, .inl (E.2.1, 77, .inl (sg (drawF r_66) 77)))], [(am 4, .inl (E.2.1, 8, .inl (sg f 8)))]]) rfl (fun H locs hP hD hS => ?_)
            obtain ⟨r_68, er_68⟩ : ∃ z : Row, z = drawF r_66 := ⟨_, rfl⟩
            rw [← er_68] at hP hD
            have hr_68_1 : r_68 1 = nI n2 := by rw [er_68]; exact (upd_ne (by omega)).trans hr_66_1
            have hr_68_0 : r_68 0 = nI d2 := by rw [er_68]; exact (upd_ne (by omega)).trans hr_66_0
            obtain ⟨z_68, hz_68, ez_68⟩ := drawV_nat r_66
            refine lv_eqi ez_68 ?_
            refine lv_bipush (v := 8) S.1 S.2.1 dX5_storms_71 (by decide) ?_
            refine lv_irem S.1 S.2.1 dX5_storms_73 (by decide) ?_
            refine lv_eqi (y := nI (z_68 % 8)) (pk_rem (a := z_68) (d := 8) (by omega) (by decide) (by decide)) ?_
            refine lv_istore_n (lv' := [(3, .int (nI (z_68 % 8))), (0, .ref (am 0)), (1, .int n9), (2, .int (nI i))]) S.1 S.2.1 dX5_storms_74 rfl hl (by decide) rfl (fun ls hl => ?_)
            refine lv_aload_n S.1 S.2.1 dX5_storms_75 rfl (lv_at hl 1 rfl) ?_
            refine lv_iload_n S.1 S.2.1 dX5_storms_76 rfl (lv_at hl 0 rfl) ?_
            refine go_S (run_V (As := [.int (nI (z_68 % 8))]) (rest := []) (n := 1) S hK (bl_P hP [0, 1] rfl) (bl_D hD [0, 1] rfl rfl) (c_X5_isPotter l E am q r_68 (nI (z_68 % 8)) n2 hr_68_1 hn28) gV_X5_122 (by decide +kernel) rfl ⟨rfl, rfl⟩ ⟨Nat.le_of_ble_eq_true rfl, Nat.le_of_ble_eq_true rfl⟩ (ci := 5) (q0 := 0) rfl rfl hl.1 (Nat.le_of_ble_eq_true rfl) dX5_storms_77 ⟨Nat.zero_le _, Nat.zero_le _⟩) ?_
            refine b_ifeq (tgt := 95) S.1 S.2.1 dX5_storms_80 (by decide) (fun c_80 => ?_) (fun c_80 => ?_)
            · have hq68 : RI r_68 := by (rw [er_68, er_66, er_60]; exact RI_2 (RI_list (RI_2 hR1) (Nat.mod_lt _ (by decide)) ⟨_, Nat.le_of_lt_succ (Nat.mod_lt _ (by decide)), rfl⟩))
              have hz9 : ¬ z_68 % 8 < n2 := fun z => c_80 ⟨nI_pos' (by omega), by rw [hr_68_1]; exact nI_lt z (by omega)⟩
              refine lv_aload_n S.1 S.2.1 dX5_storms_95 rfl (lv_at hl 1 rfl) ?_
              refine go_V (run_V (As := []) (rest := []) (n := 0) S hK (bl_P hP [0, 1] rfl) (bl_D hD [0, 1] rfl rfl) (c_X5_day l E am q r_68 hq68) gV_X5_146 (by decide +kernel) rfl ⟨rfl, rfl⟩ ⟨Nat.le_of_ble_eq_true rfl, Nat.le_of_ble_eq_true rfl⟩ (ci := 5) (q0 := 0) rfl rfl hl.1 (Nat.le_of_ble_eq_true rfl) dX5_storms_96 ⟨Nat.zero_le _, Nat.zero_le _⟩) hP hD hS [0, 1] rfl (had_cons rfl (had_cons cell_ad rfl)) (Bs' := [[mObj am q], [(am 1, .inl (E.2.1, 77, .inl (sg (dayF r_68) 77)))], [(am 4, .inl (E.2.1, 8, .inl (sg f 8)))]]) rfl (fun H locs hP hD hS => ?_)
              obtain ⟨r_96, er_96⟩ : ∃ z : Row, z = dayF r_68 := ⟨_, rfl⟩
              rw [← er_96] at hP hD
              have hr_96_1 : r_96 1 = nI n2 := by rw [er_96]; exact (dayF_1 r_68).trans hr_68_1
              have hr_96_RI : RI r_96 := by rw [er_96]; exact dayF_RI hq68
              refine lv_iinc (v := nI (i + 1)) (lv' := [(2, .int (nI (i + 1))), (3, .int (nI (z_68 % 8))), (0, .ref (am 0)), (1, .int n9)]) S.1 S.2.1 dX5_storms_99 hl (k := 3) rfl (nI_1 i) (by decide) rfl (fun ls hl => ?_)
              refine lv_goto (tgt := 39) S.1 S.2.1 dX5_storms_102 (by decide) ?_
              exact ih_39 (i + 1) r_96 (by omega) (by omega) (by rw [show r_96 = stormF ri by (unfold stormF stormP stormA; rw [dayN_eq hd2 hd25, cntN_eq hn2 hn28, ez_60, ← er_60, show nI z_60 - nI z_60 / 100 * 100 = nI (z_60 % 100) from pk_rem (a := z_60) (d := 100) (by omega) (by decide) (by decide), ← er_66, ez_68, ← er_68, nI_clamp (by omega)]; rw [if_neg hz9, er_96]), hri]; rfl) hr_96_RI H locs hP hD hS ls (lv_sub hl [2, 3, 0] rfl)
            · have hz9 : z_68 % 8 < n2 := (nI_ltI (by omega) (by omega)).mp (by rw [← hr_68_1]; exact c_80.2)
              refine lv_aload_n S.1 S.2.1 dX5_storms_83 rfl (lv_at hl 1 rfl) ?_
              refine gf_X5_9 S hK hP 0 0 rfl rfl rfl dX5_storms_84 ?_
              refine lv_iload_n S.1 S.2.1 dX5_storms_87 rfl (lv_at hl 0 rfl) ?_
              refine lv_iconst (v := 2) S.1 S.2.1 dX5_storms_88 (by decide) ?_
              refine go_S (run_S (As := [.int (nI (z_68 % 8)), .int 2]) (rest := [.ref (am 1)]) (n := 2) S hK (bl_P hP [] rfl) (bl_D hD [] rfl rfl) (c_X5_potterAt l E (z_68 % 8) 2 ) gS_X5_82 (by decide +kernel) rfl ⟨rfl, rfl⟩ ⟨Nat.le_of_ble_eq_true rfl, Nat.le_of_ble_eq_true rfl⟩ hl.1 (Nat.le_of_ble_eq_true rfl) dX5_storms_89 ⟨Nat.zero_le _, Nat.zero_le _⟩) ?_
              refine lv_bipush (v := 9) S.1 S.2.1 dX5_storms_92 (by decide) ?_
              refine b_iastN (i := 21 + 7 * (z_68 % 8) + 2) S hK hP hD hS 1 0 rfl rfl (by omega) (by decide) (sgs_upd (by omega)) (Bs1 := [[mObj am q], [(am 1, .inl (E.2.1, 77, .inl (sg (upd r_68 (21 + 7 * (z_68 % 8) + 2) 9) 77)))], [(am 4, .inl (E.2.1, 8, .inl (sg f 8)))]]) rfl dX5_storms_94 (fun H locs hP hD hS => ?_)
              obtain ⟨r_94, er_94⟩ : ∃ z, z = upd r_68 (21 + 7 * (z_68 % 8) + 2) 9 := ⟨_, rfl⟩
              rw [← er_94] at hP hD
              have hr_94_1 : r_94 1 = nI n2 := by rw [er_94]; exact (upd_ne (by omega)).trans hr_68_1
              have hr_94_0 : r_94 0 = nI d2 := by rw [er_94]; exact (upd_ne (by omega)).trans hr_68_0
              have hq68 : RI r_68 := by (rw [er_68, er_66, er_60]; exact RI_2 (RI_list (RI_2 hR1) (Nat.mod_lt _ (by decide)) ⟨_, Nat.le_of_lt_succ (Nat.mod_lt _ (by decide)), rfl⟩))
              have hq94 : RI r_94 := by (rw [er_94]; exact RI_pf (f := 2) hq68 (by decide) ⟨9, by decide, rfl⟩)
              refine lv_aload_n S.1 S.2.1 dX5_storms_95 rfl (lv_at hl 1 rfl) ?_
              refine go_V (run_V (As := []) (rest := []) (n := 0) S hK (bl_P hP [0, 1] rfl) (bl_D hD [0, 1] rfl rfl) (c_X5_day l E am q r_94 hq94) gV_X5_146 (by decide +kernel) rfl ⟨rfl, rfl⟩ ⟨Nat.le_of_ble_eq_true rfl, Nat.le_of_ble_eq_true rfl⟩ (ci := 5) (q0 := 0) rfl rfl hl.1 (Nat.le_of_ble_eq_true rfl) dX5_storms_96 ⟨Nat.zero_le _, Nat.zero_le _⟩) hP hD hS [0, 1] rfl (had_cons rfl (had_cons cell_ad rfl)) (Bs' := [[mObj am q], [(am 1, .inl (E.2.1, 77, .inl (sg (dayF r_94) 77)))], [(am 4, .inl (E.2.1, 8, .inl (sg f 8)))]]) rfl (fun H locs hP hD hS => ?_)
              obtain ⟨r_96_1, er_96_1⟩ : ∃ z : Row, z = dayF r_94 := ⟨_, rfl⟩
              rw [← er_96_1] at hP hD
              have hr_96_1_1 : r_96_1 1 = nI n2 := by rw [er_96_1]; exact (dayF_1 r_94).trans hr_94_1
              have hr_96_1_RI : RI r_96_1 := by rw [er_96_1]; exact dayF_RI hq94
              refine lv_iinc (v := nI (i + 1)) (lv' := [(2, .int (nI (i + 1))), (3, .int (nI (z_68 % 8))), (0, .ref (am 0)), (1, .int n9)]) S.1 S.2.1 dX5_storms_99 hl (k := 3) rfl (nI_1 i) (by decide) rfl (fun ls hl => ?_)
              refine lv_goto (tgt := 39) S.1 S.2.1 dX5_storms_102 (by decide) ?_
              exact ih_39 (i + 1) r_96_1 (by omega) (by omega) (by rw [show r_96_1 = stormF ri by (unfold stormF stormP stormA; rw [dayN_eq hd2 hd25, cntN_eq hn2 hn28, ez_60, ← er_60, show nI z_60 - nI z_60 / 100 * 100 = nI (z_60 % 100) from pk_rem (a := z_60) (d := 100) (by omega) (by decide) (by decide), ← er_66, ez_68, ← er_68, nI_clamp (by omega)]; rw [if_pos hz9, er_96_1, er_94]), hri]; rfl) hr_96_1_RI H locs hP hD hS ls (lv_sub hl [2, 3, 0] rfl)
      exact L_39 (k_n9 + 1) 0 r (by omega) (by omega) rfl hR H locs hP hD hS ls (lv_sub hl [1, 2, 0] rfl)
    · have n_27 := Int32.not_le.mp c_27
      refine lv_aload_n S.1 S.2.1 dX5_storms_30 rfl (lv_at hl 0 rfl) ?_
      refine lv_ldc (v := (-1000005)) S.1 S.2.1 S.2.2.2.1 (S.2.2.2.2 _ (List.mem_cons_of_mem _ kk_X5_149)) dX5_storms_31 ?_
      refine go_I (run_V (As := [.int (-1000005)]) (rest := []) (n := 1) S hK (bl_P hP [0, 2] rfl) (bl_D hD [0, 2] rfl rfl) (c_X5_finding l E am q f (-1000005) 4 (by decide) (by decide)) gV_X5_66 (by decide +kernel) rfl ⟨rfl, rfl⟩ ⟨Nat.le_of_ble_eq_true rfl, Nat.le_of_ble_eq_true rfl⟩ (ci := 5) (q0 := 0) rfl rfl hl.1 (Nat.le_of_ble_eq_true rfl) dX5_storms_33 ⟨Nat.zero_le _, Nat.zero_le _⟩) hP hD hS [0, 2] rfl (had_cons rfl (had_cons cell_ad rfl)) (Bs' := [[mObj am q], [(am 1, .inl (E.2.1, 77, .inl (sg r 77)))], [(am 4, .inl (E.2.1, 8, .inl (sg (findM f 4) 8)))]]) rfl (fun H locs hP hD hS => ?_)
      obtain ⟨r_33, er_33⟩ : ∃ z : Row, z = findM f 4 := ⟨_, rfl⟩
      rw [← er_33] at hP hD
      exact retI S hr hlk (by have e9 : rStorms r n9 = .inl 4 := (by unfold rStorms; rw [if_pos c_7, if_pos (show 99999 < r 0 + n9 by rw [hd, ek_n9, nI_add]; exact n_27)]); rw [er_33] at hP; rw [e9, fndM_inl]; exact hP) hS (by have e9 : rStorms r n9 = .inl 4 := (by unfold rStorms; rw [if_pos c_7, if_pos (show 99999 < r 0 + n9 by rw [hd, ek_n9, nI_add]; exact n_27)]); rw [e9]; decide) dX5_storms_36
  · refine lv_aload_n S.1 S.2.1 dX5_storms_10 rfl (lv_at hl 0 rfl) ?_
    refine lv_ldc (v := (-1000001)) S.1 S.2.1 S.2.2.2.1 (S.2.2.2.2 _ (List.mem_cons_of_mem _ kk_X5_60)) dX5_storms_11 ?_
    refine go_I (run_V (As := [.int (-1000001)]) (rest := []) (n := 1) S hK (bl_P hP [0, 2] rfl) (bl_D hD [0, 2] rfl rfl) (c_X5_finding l E am q f (-1000001) 0 (by decide) (by decide)) gV_X5_66 (by decide +kernel) rfl ⟨rfl, rfl⟩ ⟨Nat.le_of_ble_eq_true rfl, Nat.le_of_ble_eq_true rfl⟩ (ci := 5) (q0 := 0) rfl rfl hl.1 (Nat.le_of_ble_eq_true rfl) dX5_storms_13 ⟨Nat.zero_le _, Nat.zero_le _⟩) hP hD hS [0, 2] rfl (had_cons rfl (had_cons cell_ad rfl)) (Bs' := [[mObj am q], [(am 1, .inl (E.2.1, 77, .inl (sg r 77)))], [(am 4, .inl (E.2.1, 8, .inl (sg (findM f 0) 8)))]]) rfl (fun H locs hP hD hS => ?_)
    obtain ⟨r_13, er_13⟩ : ∃ z : Row, z = findM f 0 := ⟨_, rfl⟩
    rw [← er_13] at hP hD
    exact retI S hr hlk (by have e9 : rStorms r n9 = .inl 0 := (by unfold rStorms; rw [if_neg c_7]); rw [er_13] at hP; rw [e9, fndM_inl]; exact hP) hS (by have e9 : rStorms r n9 = .inl 0 := (by unfold rStorms; rw [if_neg c_7]); rw [e9]; decide) dX5_storms_16
set_option maxHeartbeats 800000 in
set_option maxRecDepth 100000 in
theorem c_X5_image (l : Launch) (E : EV) (am : Nat → Nat) (q r y : Row)  : Met l yX5_image (wq yX5_image cX5_image 1 (some .int)) ({ frames := 1, cells := 0, slots := 0, locals := 22 }) (preB E [.ref (am 0)] [[mObj am q], [(am 1, .inl (E.2.1, 77, .inl (sg r 77)))], [(am 2, .inl (E.2.1, 77, .inl (sg y 77)))]]) (qI E [[mObj am q], [(am 1, .inl (E.2.1, 77, .inl (sg r 77)))], [(am 2, .inl (E.2.1, 77, .inl (sg y 77)))]] [[mObj am (upd q 0 1)], [(am 1, .inl (E.2.1, 77, .inl (sg r 77)))], [(am 2, .inl (E.2.1, 77, .inl (sg r 77)))]] 1) 0 0 (inB [[mObj am q], [(am 1, .inl (E.2.1, 77, .inl (sg r 77)))], [(am 2, .inl (E.2.1, 77, .inl (sg y 77)))]]) := by
  refine M_mk RX5 (by decide) rfl (Nat.le_of_ble_eq_true rfl) ?_
  intro p e s m below meth c S hr hlk hK hP hD hS ls hl
  have hl : lv_has ls 1 [(0, .ref (am 0))] := hl
  obtain ⟨H, hH⟩ : ∃ z, z = s.heap := ⟨_, rfl⟩
  obtain ⟨locs, hlocs⟩ : ∃ z : List Loc, z = [] := ⟨_, rfl⟩
  have hP : PE E [[mObj am q], [(am 1, .inl (E.2.1, 77, .inl (sg r 77)))], [(am 2, .inl (E.2.1, 77, .inl (sg y 77)))]] H := by rw [hH]; exact hP
  have hS : va_S (inB [[mObj am q], [(am 1, .inl (E.2.1, 77, .inl (sg r 77)))], [(am 2, .inl (E.2.1, 77, .inl (sg y 77)))]]) s.heap H locs := by rw [hH, hlocs]; exact hS
  show W p l e ({ frames := 1, cells := 0, slots := 0, locals := 22 }) s m ([.ref (am 0)] : List Value).toArray below meth c s.heap [] 0 0 _ _
  suffices hgo : W p l e ({ frames := 1, cells := 0, slots := 0, locals := 22 }) s m ([.ref (am 0)] : List Value).toArray below meth c H locs 0 0 (MQ below (qI E [[mObj am q], [(am 1, .inl (E.2.1, 77, .inl (sg r 77)))], [(am 2, .inl (E.2.1, 77, .inl (sg y 77)))]] [[mObj am (upd q 0 1)], [(am 1, .inl (E.2.1, 77, .inl (sg r 77)))], [(am 2, .inl (E.2.1, 77, .inl (sg r 77)))]] 1) ([.ref (am 0)] : List Value).toArray s 0 0 (inB [[mObj am q], [(am 1, .inl (E.2.1, 77, .inl (sg r 77)))], [(am 2, .inl (E.2.1, 77, .inl (sg y 77)))]])) (F0 m 0 ls []) by rw [hH, hlocs] at hgo; exact hgo
  clear hH hlocs
  refine lv_aload_n S.1 S.2.1 dX5_image_0 rfl (lv_at hl 0 rfl) ?_
  refine gf_X5_9 S hK hP 0 0 rfl rfl rfl dX5_image_1 ?_
  refine lv_aload_n S.1 S.2.1 dX5_image_4 rfl (lv_at hl 0 rfl) ?_
  refine gf_X5_13 S hK hP 0 0 rfl rfl rfl dX5_image_5 ?_
  refine go_V (run_S (As := [.ref (am 1), .ref (am 2)]) (rest := []) (n := 2) S hK (bl_P hP [1, 2] rfl) (bl_D hD [1, 2] rfl rfl) (c_X5_copyRow l E (am 1) (am 2) r y ) gS_X5_61 (by decide +kernel) rfl ⟨rfl, rfl⟩ ⟨Nat.le_of_ble_eq_true rfl, Nat.le_of_ble_eq_true rfl⟩ hl.1 (Nat.le_of_ble_eq_true rfl) dX5_image_8 ⟨Nat.zero_le _, Nat.zero_le _⟩) hP hD hS [1, 2] rfl (had_cons rfl (had_cons cell_ad rfl)) (Bs' := [[mObj am q], [(am 1, .inl (E.2.1, 77, .inl (sg r 77)))], [(am 2, .inl (E.2.1, 77, .inl (sg r 77)))]]) rfl (fun H locs hP hD hS => ?_)
  refine lv_aload_n S.1 S.2.1 dX5_image_11 rfl (lv_at hl 0 rfl) ?_
  refine lv_iconst (v := 1) S.1 S.2.1 dX5_image_12 (by decide) ?_
  refine pf_X5_314 S hK hP hD hS 0 0 rfl rfl rfl rfl (Nat.le_of_ble_eq_true rfl) mo_0 (Bs1 := [[mObj am (upd q 0 1)], [(am 1, .inl (E.2.1, 77, .inl (sg r 77)))], [(am 2, .inl (E.2.1, 77, .inl (sg r 77)))]]) rfl dX5_image_13 (fun H locs hP hD hS => ?_)
  obtain ⟨r_13, er_13⟩ : ∃ z, z = upd q 0 1 := ⟨_, rfl⟩
  rw [← er_13] at hP hD
  have hr_13_0 : r_13 0 = 1 := by rw [er_13]; exact upd_at
  refine lv_iconst (v := 1) S.1 S.2.1 dX5_image_16 (by decide) ?_
  exact retI S hr hlk (by rw [← er_13]; exact hP) hS rfl dX5_image_17
set_option maxHeartbeats 800000 in
set_option maxRecDepth 100000 in
theorem c_X5_tear (l : Launch) (E : EV) (am : Nat → Nat) (q : Row)  : Met l yX5_tear (wq yX5_tear cX5_tear 2 (some .int)) ({ frames := 0, cells := 0, slots := 0, locals := 0 }) (preB E [.ref (am 0)] [[mObj am q]]) (qI E [[mObj am q]] [[mObj am (upd q 0 0)]] (if q 0 = 0 then 0 else 1)) 0 0 (inB [[mObj am q]]) := by
  refine M_mk RX5 (by decide) rfl (Nat.le_of_ble_eq_true rfl) ?_
  intro p e s m below meth c S hr hlk hK hP hD hS ls hl
  have hl : lv_has ls 2 [(0, .ref (am 0))] := hl
  obtain ⟨H, hH⟩ : ∃ z, z = s.heap := ⟨_, rfl⟩
  obtain ⟨locs, hlocs⟩ : ∃ z : List Loc, z = [] := ⟨_, rfl⟩
  have hP : PE E [[mObj am q]] H := by rw [hH]; exact hP
  have hS : va_S (inB [[mObj am q]]) s.heap H locs := by rw [hH, hlocs]; exact hS
  show W p l e ({ frames := 0, cells := 0, slots := 0, locals := 0 }) s m ([.ref (am 0)] : List Value).toArray below meth c s.heap [] 0 0 _ _
  suffices hgo : W p l e ({ frames := 0, cells := 0, slots := 0, locals := 0 }) s m ([.ref (am 0)] : List Value).toArray below meth c H locs 0 0 (MQ below (qI E [[mObj am q]] [[mObj am (upd q 0 0)]] (if q 0 = 0 then 0 else 1)) ([.ref (am 0)] : List Value).toArray s 0 0 (inB [[mObj am q]])) (F0 m 0 ls []) by rw [hH, hlocs] at hgo; exact hgo
  clear hH hlocs
  refine lv_aload_n S.1 S.2.1 dX5_tear_0 rfl (lv_at hl 0 rfl) ?_
  refine gf_X5_314 S hK hP 0 0 rfl rfl rfl dX5_tear_1 ?_
  refine lv_if_eq (tgt := 11) S.1 S.2.1 dX5_tear_4 (by decide) (fun c_4 => ?_) (fun c_4 => ?_)
  · refine lv_iconst (v := 0) S.1 S.2.1 dX5_tear_11 (by decide) ?_
    refine lv_istore_n (lv' := [(1, .int 0), (0, .ref (am 0))]) S.1 S.2.1 dX5_tear_12 rfl hl (by decide) rfl (fun ls hl => ?_)
    refine lv_aload_n S.1 S.2.1 dX5_tear_13 rfl (lv_at hl 1 rfl) ?_
    refine lv_iconst (v := 0) S.1 S.2.1 dX5_tear_14 (by decide) ?_
    refine pf_X5_314 S hK hP hD hS 0 0 rfl rfl rfl rfl (Nat.le_of_ble_eq_true rfl) mo_0 (Bs1 := [[mObj am (upd q 0 0)]]) rfl dX5_tear_15 (fun H locs hP hD hS => ?_)
    obtain ⟨r_15, er_15⟩ : ∃ z, z = upd q 0 0 := ⟨_, rfl⟩
    rw [← er_15] at hP hD
    have hr_15_0 : r_15 0 = 0 := by rw [er_15]; exact upd_at
    refine lv_iload_n S.1 S.2.1 dX5_tear_18 rfl (lv_at hl 0 rfl) ?_
    exact retI S hr hlk (by rw [← er_15]; exact hP) hS (by rw [if_pos c_4]) dX5_tear_19
  · refine lv_iconst (v := 1) S.1 S.2.1 dX5_tear_7 (by decide) ?_
    refine lv_goto (tgt := 12) S.1 S.2.1 dX5_tear_8 (by decide) ?_
    refine lv_istore_n (lv' := [(1, .int 1), (0, .ref (am 0))]) S.1 S.2.1 dX5_tear_12 rfl hl (by decide) rfl (fun ls hl => ?_)
    refine lv_aload_n S.1 S.2.1 dX5_tear_13 rfl (lv_at hl 1 rfl) ?_
    refine lv_iconst (v := 0) S.1 S.2.1 dX5_tear_14 (by decide) ?_
    refine pf_X5_314 S hK hP hD hS 0 0 rfl rfl rfl rfl (Nat.le_of_ble_eq_true rfl) mo_0 (Bs1 := [[mObj am (upd q 0 0)]]) rfl dX5_tear_15 (fun H locs hP hD hS => ?_)
    obtain ⟨r_15_1, er_15_1⟩ : ∃ z, z = upd q 0 0 := ⟨_, rfl⟩
    rw [← er_15_1] at hP hD
    have hr_15_1_0 : r_15_1 0 = 0 := by rw [er_15_1]; exact upd_at
    refine lv_iload_n S.1 S.2.1 dX5_tear_18 rfl (lv_at hl 0 rfl) ?_
    exact retI S hr hlk (by rw [← er_15_1]; exact hP) hS (by rw [if_neg c_4]) dX5_tear_19
set_option maxHeartbeats 800000 in
set_option maxRecDepth 100000 in
theorem c_X5_wipe (l : Launch) (E : EV) (am : Nat → Nat) (q : Row)  : Met l yX5_wipe (wq yX5_wipe cX5_wipe 2 (some .int)) ({ frames := 0, cells := 0, slots := 0, locals := 0 }) (preB E [.ref (am 0)] [[mObj am q]]) (qI E [[mObj am q]] [[mObj am (upd q 3 0)]] (q 3)) 0 0 (inB [[mObj am q]]) := by
  refine M_mk RX5 (by decide) rfl (Nat.le_of_ble_eq_true rfl) ?_
  intro p e s m below meth c S hr hlk hK hP hD hS ls hl
  have hl : lv_has ls 2 [(0, .ref (am 0))] := hl
  obtain ⟨H, hH⟩ : ∃ z, z = s.heap := ⟨_, rfl⟩
  obtain ⟨locs, hlocs⟩ : ∃ z : List Loc, z = [] := ⟨_, rfl⟩
  have hP : PE E [[mObj am q]] H := by rw [hH]; exact hP
  have hS : va_S (inB [[mObj am q]]) s.heap H locs := by rw [hH, hlocs]; exact hS
  show W p l e ({ frames := 0, cells := 0, slots := 0, locals := 0 }) s m ([.ref (am 0)] : List Value).toArray below meth c s.heap [] 0 0 _ _
  suffices hgo : W p l e ({ frames := 0, cells := 0, slots := 0, locals := 0 }) s m ([.ref (am 0)] : List Value).toArray below meth c H locs 0 0 (MQ below (qI E [[mObj am q]] [[mObj am (upd q 3 0)]] (q 3)) ([.ref (am 0)] : List Value).toArray s 0 0 (inB [[mObj am q]])) (F0 m 0 ls []) by rw [hH, hlocs] at hgo; exact hgo
  clear hH hlocs
  refine lv_aload_n S.1 S.2.1 dX5_wipe_0 rfl (lv_at hl 0 rfl) ?_
  refine gf_X5_222 S hK hP 0 0 rfl rfl rfl dX5_wipe_1 ?_
  refine lv_istore_n (lv' := [(1, .int (q 3)), (0, .ref (am 0))]) S.1 S.2.1 dX5_wipe_4 rfl hl (by decide) rfl (fun ls hl => ?_)
  refine lv_aload_n S.1 S.2.1 dX5_wipe_5 rfl (lv_at hl 1 rfl) ?_
  refine lv_iconst (v := 0) S.1 S.2.1 dX5_wipe_6 (by decide) ?_
  refine pf_X5_222 S hK hP hD hS 0 0 rfl rfl (Nat.le_of_ble_eq_true rfl) mo_3 (Bs1 := [[mObj am (upd q 3 0)]]) rfl dX5_wipe_7 (fun H locs hP hD hS => ?_)
  obtain ⟨r_7, er_7⟩ : ∃ z, z = upd q 3 0 := ⟨_, rfl⟩
  rw [← er_7] at hP hD
  have hr_7_3 : r_7 3 = 0 := by rw [er_7]; exact upd_at
  refine lv_iload_n S.1 S.2.1 dX5_wipe_10 rfl (lv_at hl 0 rfl) ?_
  exact retI S hr hlk (by rw [← er_7]; exact hP) hS rfl dX5_wipe_11
set_option maxHeartbeats 800000 in
set_option maxRecDepth 100000 in
theorem c_X5_undo (l : Launch) (E : EV) (am : Nat → Nat) (q r y f : Row)  : Met l yX5_undo (wq yX5_undo cX5_undo 1 (some .int)) ({ frames := 1, cells := 0, slots := 0, locals := 22 }) (preB E [.ref (am 0)] [[mObj am q], [(am 1, .inl (E.2.1, 77, .inl (sg r 77)))], [(am 2, .inl (E.2.1, 77, .inl (sg y 77)))], [(am 4, .inl (E.2.1, 8, .inl (sg f 8)))]]) (qI E [[mObj am q], [(am 1, .inl (E.2.1, 77, .inl (sg r 77)))], [(am 2, .inl (E.2.1, 77, .inl (sg y 77)))], [(am 4, .inl (E.2.1, 8, .inl (sg f 8)))]] [[mObj am q], [(am 1, .inl (E.2.1, 77, .inl (sg (rowR r (rUndo y (q 0))) 77)))], [(am 2, .inl (E.2.1, 77, .inl (sg y 77)))], [(am 4, .inl (E.2.1, 8, .inl (sg (fndM f (rUndo y (q 0))) 8)))]] (ansR (rUndo y (q 0)))) 0 0 (inB [[mObj am q], [(am 1, .inl (E.2.1, 77, .inl (sg r 77)))], [(am 2, .inl (E.2.1, 77, .inl (sg y 77)))], [(am 4, .inl (E.2.1, 8, .inl (sg f 8)))]]) := by
  refine M_mk RX5 (by decide) rfl (Nat.le_of_ble_eq_true rfl) ?_
  intro p e s m below meth c S hr hlk hK hP hD hS ls hl
  have hl : lv_has ls 1 [(0, .ref (am 0))] := hl
  obtain ⟨H, hH⟩ : ∃ z, z = s.heap := ⟨_, rfl⟩
  obtain ⟨locs, hlocs⟩ : ∃ z : List Loc, z = [] := ⟨_, rfl⟩
  have hP : PE E [[mObj am q], [(am 1, .inl (E.2.1, 77, .inl (sg r 77)))], [(am 2, .inl (E.2.1, 77, .inl (sg y 77)))], [(am 4, .inl (E.2.1, 8, .inl (sg f 8)))]] H := by rw [hH]; exact hP
  have hS : va_S (inB [[mObj am q], [(am 1, .inl (E.2.1, 77, .inl (sg r 77)))], [(am 2, .inl (E.2.1, 77, .inl (sg y 77)))], [(am 4, .inl (E.2.1, 8, .inl (sg f 8)))]]) s.heap H locs := by rw [hH, hlocs]; exact hS
  show W p l e ({ frames := 1, cells := 0, slots := 0, locals := 22 }) s m ([.ref (am 0)] : List Value).toArray below meth c s.heap [] 0 0 _ _
  suffices hgo : W p l e ({ frames := 1, cells := 0, slots := 0, locals := 22 }) s m ([.ref (am 0)] : List Value).toArray below meth c H locs 0 0 (MQ below (qI E [[mObj am q], [(am 1, .inl (E.2.1, 77, .inl (sg r 77)))], [(am 2, .inl (E.2.1, 77, .inl (sg y 77)))], [(am 4, .inl (E.2.1, 8, .inl (sg f 8)))]] [[mObj am q], [(am 1, .inl (E.2.1, 77, .inl (sg (rowR r (rUndo y (q 0))) 77)))], [(am 2, .inl (E.2.1, 77, .inl (sg y 77)))], [(am 4, .inl (E.2.1, 8, .inl (sg (fndM f (rUndo y (q 0))) 8)))]] (ansR (rUndo y (q 0)))) ([.ref (am 0)] : List Value).toArray s 0 0 (inB [[mObj am q], [(am 1, .inl (E.2.1, 77, .inl (sg r 77)))], [(am 2, .inl (E.2.1, 77, .inl (sg y 77)))], [(am 4, .inl (E.2.1, 8, .inl (sg f 8)))]])) (F0 m 0 ls []) by rw [hH, hlocs] at hgo; exact hgo
  clear hH hlocs
  refine lv_aload_n S.1 S.2.1 dX5_undo_0 rfl (lv_at hl 0 rfl) ?_
  refine gf_X5_314 S hK hP 0 0 rfl rfl rfl dX5_undo_1 ?_
  refine lv_if_ne (tgt := 14) S.1 S.2.1 dX5_undo_4 (by decide) (fun c_4 => ?_) (fun c_4 => ?_)
  · refine lv_aload_n S.1 S.2.1 dX5_undo_14 rfl (lv_at hl 0 rfl) ?_
    refine gf_X5_13 S hK hP 0 0 rfl rfl rfl dX5_undo_15 ?_
    refine lv_aload_n S.1 S.2.1 dX5_undo_18 rfl (lv_at hl 0 rfl) ?_
    refine gf_X5_9 S hK hP 0 0 rfl rfl rfl dX5_undo_19 ?_
    refine go_V (run_S (As := [.ref (am 2), .ref (am 1)]) (rest := []) (n := 2) S hK (bl_P hP [2, 1] rfl) (bl_D hD [2, 1] rfl rfl) (c_X5_copyRow l E (am 2) (am 1) y r ) gS_X5_61 (by decide +kernel) rfl ⟨rfl, rfl⟩ ⟨Nat.le_of_ble_eq_true rfl, Nat.le_of_ble_eq_true rfl⟩ hl.1 (Nat.le_of_ble_eq_true rfl) dX5_undo_22 ⟨Nat.zero_le _, Nat.zero_le _⟩) hP hD hS [2, 1] rfl (had_cons rfl (had_cons cell_ad rfl)) (Bs' := [[mObj am q], [(am 1, .inl (E.2.1, 77, .inl (sg y 77)))], [(am 2, .inl (E.2.1, 77, .inl (sg y 77)))], [(am 4, .inl (E.2.1, 8, .inl (sg f 8)))]]) rfl (fun H locs hP hD hS => ?_)
    refine lv_aload_n S.1 S.2.1 dX5_undo_25 rfl (lv_at hl 0 rfl) ?_
    refine gf_X5_9 S hK hP 0 0 rfl rfl rfl dX5_undo_26 ?_
    refine lv_iconst (v := 0) S.1 S.2.1 dX5_undo_29 (by decide) ?_
    refine b_ialdN (i := 0) S hK hP 1 0 rfl rfl (by omega) (by decide) dX5_undo_30 ?_
    refine lv_eqi (y := y 0) (sg_at (by omega)) ?_
    exact retI S hr hlk (by have e9 : rUndo y (q 0) = .inr (y, y 0) := if_neg c_4; rw [e9, fndM_inr, rowR_inr]; exact hP) hS (by have e9 : rUndo y (q 0) = .inr (y, y 0) := if_neg c_4; rw [e9, ansR_inr]) dX5_undo_31
  · refine lv_aload_n S.1 S.2.1 dX5_undo_7 rfl (lv_at hl 0 rfl) ?_
    refine lv_ldc (v := (-1000004)) S.1 S.2.1 S.2.2.2.1 (S.2.2.2.2 _ (List.mem_cons_of_mem _ kk_X5_65)) dX5_undo_8 ?_
    refine go_I (run_V (As := [.int (-1000004)]) (rest := []) (n := 1) S hK (bl_P hP [0, 3] rfl) (bl_D hD [0, 3] rfl rfl) (c_X5_finding l E am q f (-1000004) 3 (by decide) (by decide)) gV_X5_66 (by decide +kernel) rfl ⟨rfl, rfl⟩ ⟨Nat.le_of_ble_eq_true rfl, Nat.le_of_ble_eq_true rfl⟩ (ci := 5) (q0 := 0) rfl rfl hl.1 (Nat.le_of_ble_eq_true rfl) dX5_undo_10 ⟨Nat.zero_le _, Nat.zero_le _⟩) hP hD hS [0, 3] rfl (had_cons rfl (had_cons cell_ad rfl)) (Bs' := [[mObj am q], [(am 1, .inl (E.2.1, 77, .inl (sg r 77)))], [(am 2, .inl (E.2.1, 77, .inl (sg y 77)))], [(am 4, .inl (E.2.1, 8, .inl (sg (findM f 3) 8)))]]) rfl (fun H locs hP hD hS => ?_)
    obtain ⟨r_10, er_10⟩ : ∃ z : Row, z = findM f 3 := ⟨_, rfl⟩
    rw [← er_10] at hP hD
    exact retI S hr hlk (by have e9 : rUndo y (q 0) = .inl 3 := if_pos c_4; rw [er_10] at hP; rw [e9, fndM_inl, rowR_inl]; exact hP) hS (by have e9 : rUndo y (q 0) = .inl 3 := if_pos c_4; rw [e9]; decide) dX5_undo_13
set_option maxHeartbeats 800000 in
set_option maxRecDepth 100000 in
theorem c_X5_status (l : Launch) (E : EV) (am : Nat → Nat) (q f : Row) (v : Int32)  : Met l yX5_status (wq yX5_status cX5_status 2 (some .int)) ({ frames := 1, cells := 0, slots := 0, locals := 22 }) (preB E [.ref (am 0), .int v] [[mObj am q], [(am 4, .inl (E.2.1, 8, .inl (sg f 8)))]]) (qI E [[mObj am q], [(am 4, .inl (E.2.1, 8, .inl (sg f 8)))]] [[mObj am q], [(am 4, .inl (E.2.1, 8, .inl (sg (fndM f (rStatM f v)) 8)))]] (ansR (rStatM f v))) 0 0 (inB [[mObj am q], [(am 4, .inl (E.2.1, 8, .inl (sg f 8)))]]) := by
  refine M_mk RX5 (by decide) rfl (Nat.le_of_ble_eq_true rfl) ?_
  intro p e s m below meth c S hr hlk hK hP hD hS ls hl
  have hl : lv_has ls 2 [(0, .ref (am 0)), (1, .int v)] := hl
  obtain ⟨H, hH⟩ : ∃ z, z = s.heap := ⟨_, rfl⟩
  obtain ⟨locs, hlocs⟩ : ∃ z : List Loc, z = [] := ⟨_, rfl⟩
  have hP : PE E [[mObj am q], [(am 4, .inl (E.2.1, 8, .inl (sg f 8)))]] H := by rw [hH]; exact hP
  have hS : va_S (inB [[mObj am q], [(am 4, .inl (E.2.1, 8, .inl (sg f 8)))]]) s.heap H locs := by rw [hH, hlocs]; exact hS
  show W p l e ({ frames := 1, cells := 0, slots := 0, locals := 22 }) s m ([.ref (am 0), .int v] : List Value).toArray below meth c s.heap [] 0 0 _ _
  suffices hgo : W p l e ({ frames := 1, cells := 0, slots := 0, locals := 22 }) s m ([.ref (am 0), .int v] : List Value).toArray below meth c H locs 0 0 (MQ below (qI E [[mObj am q], [(am 4, .inl (E.2.1, 8, .inl (sg f 8)))]] [[mObj am q], [(am 4, .inl (E.2.1, 8, .inl (sg (fndM f (rStatM f v)) 8)))]] (ansR (rStatM f v))) ([.ref (am 0), .int v] : List Value).toArray s 0 0 (inB [[mObj am q], [(am 4, .inl (E.2.1, 8, .inl (sg f 8)))]])) (F0 m 0 ls []) by rw [hH, hlocs] at hgo; exact hgo
  clear hH hlocs
  refine lv_iload_n S.1 S.2.1 dX5_status_0 rfl (lv_at hl 1 rfl) ?_
  refine lv_iconst (v := (-1)) S.1 S.2.1 dX5_status_1 (by decide) ?_
  refine lv_bipush (v := 6) S.1 S.2.1 dX5_status_2 (by decide) ?_
  refine go_S (run_S (As := [.int v, .int (-1), .int 6]) (rest := []) (n := 3) S hK (bl_P hP [] rfl) (bl_D hD [] rfl rfl) (c_X5_within l E v (-1) 6 ) gS_X5_70 (by decide +kernel) rfl ⟨rfl, rfl⟩ ⟨Nat.le_of_ble_eq_true rfl, Nat.le_of_ble_eq_true rfl⟩ hl.1 (Nat.le_of_ble_eq_true rfl) dX5_status_4 ⟨Nat.zero_le _, Nat.zero_le _⟩) ?_
  refine b_ifeq (tgt := 21) S.1 S.2.1 dX5_status_7 (by decide) (fun c_7 => ?_) (fun c_7 => ?_)
  · refine lv_aload_n S.1 S.2.1 dX5_status_21 rfl (lv_at hl 0 rfl) ?_
    refine lv_ldc (v := (-1000001)) S.1 S.2.1 S.2.2.2.1 (S.2.2.2.2 _ (List.mem_cons_of_mem _ kk_X5_60)) dX5_status_22 ?_
    refine go_I (run_V (As := [.int (-1000001)]) (rest := []) (n := 1) S hK (bl_P hP [0, 1] rfl) (bl_D hD [0, 1] rfl rfl) (c_X5_finding l E am q f (-1000001) 0 (by decide) (by decide)) gV_X5_66 (by decide +kernel) rfl ⟨rfl, rfl⟩ ⟨Nat.le_of_ble_eq_true rfl, Nat.le_of_ble_eq_true rfl⟩ (ci := 5) (q0 := 0) rfl rfl hl.1 (Nat.le_of_ble_eq_true rfl) dX5_status_24 ⟨Nat.zero_le _, Nat.zero_le _⟩) hP hD hS [0, 1] rfl (had_cons rfl (had_cons cell_ad rfl)) (Bs' := [[mObj am q], [(am 4, .inl (E.2.1, 8, .inl (sg (findM f 0) 8)))]]) rfl (fun H locs hP hD hS => ?_)
    obtain ⟨r_24, er_24⟩ : ∃ z : Row, z = findM f 0 := ⟨_, rfl⟩
    rw [← er_24] at hP hD
    exact retI S hr hlk (by have e9 : rStatM f v = .inl 0 := if_neg c_7; rw [er_24] at hP; rw [e9, fndM_inl]; exact hP) hS (by have e9 : rStatM f v = .inl 0 := if_neg c_7; rw [e9]; decide) dX5_status_27
  · obtain ⟨k9, hk9, ek9⟩ := st_nat c_7
    refine lv_aload_n S.1 S.2.1 dX5_status_10 rfl (lv_at hl 0 rfl) ?_
    refine gf_X5_19 S hK hP 0 0 rfl rfl rfl dX5_status_11 ?_
    refine lv_iload_n S.1 S.2.1 dX5_status_14 rfl (lv_at hl 1 rfl) ?_
    refine lv_iconst (v := 1) S.1 S.2.1 dX5_status_15 (by decide) ?_
    refine lv_iadd S.1 S.2.1 dX5_status_16 ?_
    refine lv_eqi (y := nI k9) ek9 ?_
    refine b_ialdN (i := k9) S hK hP 1 0 rfl rfl (by omega) (by decide) dX5_status_17 ?_
    refine lv_eqi (y := f k9) (sg_at (by omega)) ?_
    refine lv_goto (tgt := 27) S.1 S.2.1 dX5_status_18 (by decide) ?_
    exact retI S hr hlk (by have e9 : rStatM f v = .inr (f, f k9) := (by unfold rStatM; rw [if_pos c_7, ek9, tN_nI (by omega)]); rw [e9, fndM_inr]; exact hP) hS (by have e9 : rStatM f v = .inr (f, f k9) := (by unfold rStatM; rw [if_pos c_7, ek9, tN_nI (by omega)]); rw [e9, ansR_inr]) dX5_status_27
set_option maxHeartbeats 800000 in
set_option maxRecDepth 100000 in
theorem c_X5_count (l : Launch) (E : EV) (am : Nat → Nat) (q r f : Row) (v : Int32) (hR : RI r) : Met l yX5_count (wq yX5_count cX5_count 4 (some .int)) ({ frames := 3, cells := 0, slots := 0, locals := 66 }) (preB E [.ref (am 0), .int v] [[mObj am q], [(am 1, .inl (E.2.1, 77, .inl (sg r 77)))], [(am 4, .inl (E.2.1, 8, .inl (sg f 8)))]]) (qI E [[mObj am q], [(am 1, .inl (E.2.1, 77, .inl (sg r 77)))], [(am 4, .inl (E.2.1, 8, .inl (sg f 8)))]] [[mObj am q], [(am 1, .inl (E.2.1, 77, .inl (sg r 77)))], [(am 4, .inl (E.2.1, 8, .inl (sg (fndM f (rCount r (q 3) v)) 8)))]] (ansR (rCount r (q 3) v))) 0 0 (inB [[mObj am q], [(am 1, .inl (E.2.1, 77, .inl (sg r 77)))], [(am 4, .inl (E.2.1, 8, .inl (sg f 8)))]]) := by
  refine M_mk RX5 (by decide) rfl (Nat.le_of_ble_eq_true rfl) ?_
  intro p e s m below meth c S hr hlk hK hP hD hS ls hl
  have hl : lv_has ls 4 [(0, .ref (am 0)), (1, .int v)] := hl
  obtain ⟨n, d, hn, hn8, hd, hd5, ho, hso, hli, hsp, hpt⟩ := id hR
  obtain ⟨H, hH⟩ : ∃ z, z = s.heap := ⟨_, rfl⟩
  obtain ⟨locs, hlocs⟩ : ∃ z : List Loc, z = [] := ⟨_, rfl⟩
  have hP : PE E [[mObj am q], [(am 1, .inl (E.2.1, 77, .inl (sg r 77)))], [(am 4, .inl (E.2.1, 8, .inl (sg f 8)))]] H := by rw [hH]; exact hP
  have hS : va_S (inB [[mObj am q], [(am 1, .inl (E.2.1, 77, .inl (sg r 77)))], [(am 4, .inl (E.2.1, 8, .inl (sg f 8)))]]) s.heap H locs := by rw [hH, hlocs]; exact hS
  show W p l e ({ frames := 3, cells := 0, slots := 0, locals := 66 }) s m ([.ref (am 0), .int v] : List Value).toArray below meth c s.heap [] 0 0 _ _
  suffices hgo : W p l e ({ frames := 3, cells := 0, slots := 0, locals := 66 }) s m ([.ref (am 0), .int v] : List Value).toArray below meth c H locs 0 0 (MQ below (qI E [[mObj am q], [(am 1, .inl (E.2.1, 77, .inl (sg r 77)))], [(am 4, .inl (E.2.1, 8, .inl (sg f 8)))]] [[mObj am q], [(am 1, .inl (E.2.1, 77, .inl (sg r 77)))], [(am 4, .inl (E.2.1, 8, .inl (sg (fndM f (rCount r (q 3) v)) 8)))]] (ansR (rCount r (q 3) v))) ([.ref (am 0), .int v] : List Value).toArray s 0 0 (inB [[mObj am q], [(am 1, .inl (E.2.1, 77, .inl (sg r 77)))], [(am 4, .inl (E.2.1, 8, .inl (sg f 8)))]])) (F0 m 0 ls []) by rw [hH, hlocs] at hgo; exact hgo
  clear hH hlocs
  refine lv_iconst (v := 0) S.1 S.2.1 dX5_count_0 (by decide) ?_
  refine lv_istore_n (lv' := [(2, .int 0), (0, .ref (am 0)), (1, .int v)]) S.1 S.2.1 dX5_count_1 rfl hl (by decide) rfl (fun ls hl => ?_)
  refine lv_iload_n S.1 S.2.1 dX5_count_2 rfl (lv_at hl 2 rfl) ?_
  by_cases k_3_0 : v = 0
  · refine lv_tableIn (tgt := 48) S.1 S.2.1 dX5_count_3 (by rw [k_3_0]; decide) (by rw [k_3_0]; decide) (by rw [k_3_0]; rfl) (by decide) ?_
    refine lv_aload_n S.1 S.2.1 dX5_count_48 rfl (lv_at hl 1 rfl) ?_
    refine gf_X5_9 S hK hP 0 0 rfl rfl rfl dX5_count_49 ?_
    refine lv_iconst (v := 0) S.1 S.2.1 dX5_count_52 (by decide) ?_
    refine b_ialdN (i := 0) S hK hP 1 0 rfl rfl (by omega) (by decide) dX5_count_53 ?_
    refine lv_eqi (y := nI d) ((sg_at (by omega)).trans hd) ?_
    exact retI S hr hlk (by have e9 : rCount r (q 3) v = .inr (r, nI d) := (by unfold rCount; rw [if_pos k_3_0]; (try rw [hd]); (try rw [hn])); rw [e9, fndM_inr]; exact hP) hS (by have e9 : rCount r (q 3) v = .inr (r, nI d) := (by unfold rCount; rw [if_pos k_3_0]; (try rw [hd]); (try rw [hn])); rw [e9, ansR_inr]) dX5_count_54
  by_cases k_3_1 : v = 1
  · refine lv_tableIn (tgt := 55) S.1 S.2.1 dX5_count_3 (by rw [k_3_1]; decide) (by rw [k_3_1]; decide) (by rw [k_3_1]; rfl) (by decide) ?_
    refine lv_aload_n S.1 S.2.1 dX5_count_55 rfl (lv_at hl 1 rfl) ?_
    refine gf_X5_9 S hK hP 0 0 rfl rfl rfl dX5_count_56 ?_
    refine lv_iconst (v := 1) S.1 S.2.1 dX5_count_59 (by decide) ?_
    refine b_ialdN (i := 1) S hK hP 1 0 rfl rfl (by omega) (by decide) dX5_count_60 ?_
    refine lv_eqi (y := nI n) ((sg_at (by omega)).trans hn) ?_
    exact retI S hr hlk (by have e9 : rCount r (q 3) v = .inr (r, nI n) := (by unfold rCount; rw [if_neg k_3_0, if_pos k_3_1]; (try rw [hd]); (try rw [hn])); rw [e9, fndM_inr]; exact hP) hS (by have e9 : rCount r (q 3) v = .inr (r, nI n) := (by unfold rCount; rw [if_neg k_3_0, if_pos k_3_1]; (try rw [hd]); (try rw [hn])); rw [e9, ansR_inr]) dX5_count_61
  by_cases k_3_2 : v = 2
  · refine lv_tableIn (tgt := 62) S.1 S.2.1 dX5_count_3 (by rw [k_3_2]; decide) (by rw [k_3_2]; decide) (by rw [k_3_2]; rfl) (by decide) ?_
    refine lv_aload_n S.1 S.2.1 dX5_count_62 rfl (lv_at hl 1 rfl) ?_
    refine gf_X5_9 S hK hP 0 0 rfl rfl rfl dX5_count_63 ?_
    refine lv_iconst (v := 4) S.1 S.2.1 dX5_count_66 (by decide) ?_
    refine b_ialdN (i := 4) S hK hP 1 0 rfl rfl (by omega) (by decide) dX5_count_67 ?_
    refine lv_eqi (y := r 4) (sg_at (by omega)) ?_
    exact retI S hr hlk (by have e9 : rCount r (q 3) v = .inr (r, r 4) := (by unfold rCount; rw [if_neg k_3_0, if_neg k_3_1, if_pos k_3_2]; (try rw [hd]); (try rw [hn])); rw [e9, fndM_inr]; exact hP) hS (by have e9 : rCount r (q 3) v = .inr (r, r 4) := (by unfold rCount; rw [if_neg k_3_0, if_neg k_3_1, if_pos k_3_2]; (try rw [hd]); (try rw [hn])); rw [e9, ansR_inr]) dX5_count_68
  by_cases k_3_3 : v = 3
  · refine lv_tableIn (tgt := 69) S.1 S.2.1 dX5_count_3 (by rw [k_3_3]; decide) (by rw [k_3_3]; decide) (by rw [k_3_3]; rfl) (by decide) ?_
    refine lv_aload_n S.1 S.2.1 dX5_count_69 rfl (lv_at hl 1 rfl) ?_
    refine lv_iconst (v := 5) S.1 S.2.1 dX5_count_70 (by decide) ?_
    refine go_S (run_V (As := [.int 5]) (rest := []) (n := 1) S hK (bl_P hP [0, 1] rfl) (bl_D hD [0, 1] rfl rfl) (c_X5_sumOf l E am q r 5 (by omega) hR) gV_X5_153 (by decide +kernel) rfl ⟨rfl, rfl⟩ ⟨Nat.le_of_ble_eq_true rfl, Nat.le_of_ble_eq_true rfl⟩ (ci := 5) (q0 := 0) rfl rfl hl.1 (Nat.le_of_ble_eq_true rfl) dX5_count_71 ⟨Nat.zero_le _, Nat.zero_le _⟩) ?_
    exact retI S hr hlk (by have e9 : rCount r (q 3) v = .inr (r, sumR r 5 (cntN r)) := (by unfold rCount; rw [if_neg k_3_0, if_neg k_3_1, if_neg k_3_2, if_pos k_3_3]; (try rw [hd]); (try rw [hn])); rw [e9, fndM_inr]; exact hP) hS (by have e9 : rCount r (q 3) v = .inr (r, sumR r 5 (cntN r)) := (by unfold rCount; rw [if_neg k_3_0, if_neg k_3_1, if_neg k_3_2, if_pos k_3_3]; (try rw [hd]); (try rw [hn])); rw [e9, ansR_inr]) dX5_count_74
  by_cases k_3_4 : v = 4
  · refine lv_tableIn (tgt := 75) S.1 S.2.1 dX5_count_3 (by rw [k_3_4]; decide) (by rw [k_3_4]; decide) (by rw [k_3_4]; rfl) (by decide) ?_
    refine lv_aload_n S.1 S.2.1 dX5_count_75 rfl (lv_at hl 1 rfl) ?_
    refine lv_bipush (v := 6) S.1 S.2.1 dX5_count_76 (by decide) ?_
    refine go_S (run_V (As := [.int 6]) (rest := []) (n := 1) S hK (bl_P hP [0, 1] rfl) (bl_D hD [0, 1] rfl rfl) (c_X5_sumOf l E am q r 6 (by omega) hR) gV_X5_153 (by decide +kernel) rfl ⟨rfl, rfl⟩ ⟨Nat.le_of_ble_eq_true rfl, Nat.le_of_ble_eq_true rfl⟩ (ci := 5) (q0 := 0) rfl rfl hl.1 (Nat.le_of_ble_eq_true rfl) dX5_count_78 ⟨Nat.zero_le _, Nat.zero_le _⟩) ?_
    exact retI S hr hlk (by have e9 : rCount r (q 3) v = .inr (r, sumR r 6 (cntN r)) := (by unfold rCount; rw [if_neg k_3_0, if_neg k_3_1, if_neg k_3_2, if_neg k_3_3, if_pos k_3_4]; (try rw [hd]); (try rw [hn])); rw [e9, fndM_inr]; exact hP) hS (by have e9 : rCount r (q 3) v = .inr (r, sumR r 6 (cntN r)) := (by unfold rCount; rw [if_neg k_3_0, if_neg k_3_1, if_neg k_3_2, if_neg k_3_3, if_pos k_3_4]; (try rw [hd]); (try rw [hn])); rw [e9, ansR_inr]) dX5_count_81
  by_cases k_3_5 : v = 5
  · refine lv_tableIn (tgt := 82) S.1 S.2.1 dX5_count_3 (by rw [k_3_5]; decide) (by rw [k_3_5]; decide) (by rw [k_3_5]; rfl) (by decide) ?_
    refine lv_aload_n S.1 S.2.1 dX5_count_82 rfl (lv_at hl 1 rfl) ?_
    refine gf_X5_222 S hK hP 0 0 rfl rfl rfl dX5_count_83 ?_
    exact retI S hr hlk (by have e9 : rCount r (q 3) v = .inr (r, q 3) := (by unfold rCount; rw [if_neg k_3_0, if_neg k_3_1, if_neg k_3_2, if_neg k_3_3, if_neg k_3_4, if_pos k_3_5]; (try rw [hd]); (try rw [hn])); rw [e9, fndM_inr]; exact hP) hS (by have e9 : rCount r (q 3) v = .inr (r, q 3) := (by unfold rCount; rw [if_neg k_3_0, if_neg k_3_1, if_neg k_3_2, if_neg k_3_3, if_neg k_3_4, if_pos k_3_5]; (try rw [hd]); (try rw [hn])); rw [e9, ansR_inr]) dX5_count_86
  by_cases k_3_6 : v = 6
  · refine lv_tableIn (tgt := 87) S.1 S.2.1 dX5_count_3 (by rw [k_3_6]; decide) (by rw [k_3_6]; decide) (by rw [k_3_6]; rfl) (by decide) ?_
    refine lv_aload_n S.1 S.2.1 dX5_count_87 rfl (lv_at hl 1 rfl) ?_
    refine gf_X5_9 S hK hP 0 0 rfl rfl rfl dX5_count_88 ?_
    refine lv_iconst (v := 2) S.1 S.2.1 dX5_count_91 (by decide) ?_
    refine b_ialdN (i := 2) S hK hP 1 0 rfl rfl (by omega) (by decide) dX5_count_92 ?_
    refine lv_eqi (y := r 2) (sg_at (by omega)) ?_
    exact retI S hr hlk (by have e9 : rCount r (q 3) v = .inr (r, r 2) := (by unfold rCount; rw [if_neg k_3_0, if_neg k_3_1, if_neg k_3_2, if_neg k_3_3, if_neg k_3_4, if_neg k_3_5, if_pos k_3_6]; (try rw [hd]); (try rw [hn])); rw [e9, fndM_inr]; exact hP) hS (by have e9 : rCount r (q 3) v = .inr (r, r 2) := (by unfold rCount; rw [if_neg k_3_0, if_neg k_3_1, if_neg k_3_2, if_neg k_3_3, if_neg k_3_4, if_neg k_3_5, if_pos k_3_6]; (try rw [hd]); (try rw [hn])); rw [e9, ansR_inr]) dX5_count_93
  by_cases k_3_7 : v = 7
  · refine lv_tableIn (tgt := 94) S.1 S.2.1 dX5_count_3 (by rw [k_3_7]; decide) (by rw [k_3_7]; decide) (by rw [k_3_7]; rfl) (by decide) ?_
    refine lv_iconst (v := 0) S.1 S.2.1 dX5_count_94 (by decide) ?_
    refine lv_istore_n (lv' := [(3, .int 0), (2, .int 0), (0, .ref (am 0)), (1, .int v)]) S.1 S.2.1 dX5_count_95 rfl hl (by decide) rfl (fun ls hl => ?_)
    have L_96 : ∀ (fu : Nat) (i : Nat) (x : Int32), (i ≤ 10) → (10 < i + fu) → (x = heldR r i) → ∀ (H : Heap) (locs : List Loc), PE E [[mObj am q], [(am 1, .inl (E.2.1, 77, .inl (sg r 77)))], [(am 4, .inl (E.2.1, 8, .inl (sg f 8)))]] H → DE (inB [[mObj am q], [(am 1, .inl (E.2.1, 77, .inl (sg r 77)))], [(am 4, .inl (E.2.1, 8, .inl (sg f 8)))]]) [[mObj am q], [(am 1, .inl (E.2.1, 77, .inl (sg r 77)))], [(am 4, .inl (E.2.1, 8, .inl (sg f 8)))]] → va_S (inB [[mObj am q], [(am 1, .inl (E.2.1, 77, .inl (sg r 77)))], [(am 4, .inl (E.2.1, 8, .inl (sg f 8)))]]) s.heap H locs → ∀ (ls : Array Slot), lv_has ls 4 [(0, .ref (am 0)), (1, .int v), (2, .int x), (3, .int (nI i))] → W p l e ({ frames := 3, cells := 0, slots := 0, locals := 66 }) s m ([.ref (am 0), .int v] : List Value).toArray below meth c H locs 0 0 (MQ below (qI E [[mObj am q], [(am 1, .inl (E.2.1, 77, .inl (sg r 77)))], [(am 4, .inl (E.2.1, 8, .inl (sg f 8)))]] [[mObj am q], [(am 1, .inl (E.2.1, 77, .inl (sg r 77)))], [(am 4, .inl (E.2.1, 8, .inl (sg (fndM f (rCount r (q 3) v)) 8)))]] (ansR (rCount r (q 3) v))) ([.ref (am 0), .int v] : List Value).toArray s 0 0 (inB [[mObj am q], [(am 1, .inl (E.2.1, 77, .inl (sg r 77)))], [(am 4, .inl (E.2.1, 8, .inl (sg f 8)))]])) (F0 m 96 ls []) := by
      intro fu
      induction fu with
      | zero =>
        intro i x hi hf hx
        omega
      | succ fu ih_96 =>
        intro i x hi hf hx H locs hP hD hS ls hl
        refine lv_iload_n S.1 S.2.1 dX5_count_96 rfl (lv_at hl 3 rfl) ?_
        refine lv_bipush (v := 10) S.1 S.2.1 dX5_count_97 (by decide) ?_
        refine lv_icmp_ge (tgt := 128) S.1 S.2.1 dX5_count_99 (by decide) (fun c_99 => ?_) (fun c_99 => ?_)
        · have n_99 := Int32.not_lt.mpr c_99
          have hi9 : i = 10 := le_endK (n := 10) hi c_99 (by decide)
          refine lv_iload_n S.1 S.2.1 dX5_count_128 rfl (lv_at hl 2 rfl) ?_
          exact retI S hr hlk (by have e9 : rCount r (q 3) v = .inr (r, x) := (by unfold rCount; rw [if_neg k_3_0, if_neg k_3_1, if_neg k_3_2, if_neg k_3_3, if_neg k_3_4, if_neg k_3_5, if_neg k_3_6, if_pos k_3_7, hx, hi9]); rw [e9, fndM_inr]; exact hP) hS (by have e9 : rCount r (q 3) v = .inr (r, x) := (by unfold rCount; rw [if_neg k_3_0, if_neg k_3_1, if_neg k_3_2, if_neg k_3_3, if_neg k_3_4, if_neg k_3_5, if_neg k_3_6, if_pos k_3_7, hx, hi9]); rw [e9, ansR_inr]) dX5_count_129
        · have n_99 := Int32.not_le.mp c_99
          have hi2 : i < 10 := lt_in (n := 10) c_99 hi
          refine lv_iload_n S.1 S.2.1 dX5_count_102 rfl (lv_at hl 2 rfl) ?_
          refine lv_aload_n S.1 S.2.1 dX5_count_103 rfl (lv_at hl 0 rfl) ?_
          refine gf_X5_9 S hK hP 0 0 rfl rfl rfl dX5_count_104 ?_
          refine lv_bipush (v := 11) S.1 S.2.1 dX5_count_107 (by decide) ?_
          refine lv_iload_n S.1 S.2.1 dX5_count_109 rfl (lv_at hl 3 rfl) ?_
          refine lv_iadd S.1 S.2.1 dX5_count_110 ?_
          refine lv_eqi (y := nI (11 + i)) (nI_add 11 i) ?_
          refine b_ialdN (i := 11 + i) S hK hP 1 0 rfl rfl (by omega) (by decide) dX5_count_111 ?_
          refine lv_eqi (y := r (11 + i)) (sg_at (by omega)) ?_
          refine lv_if_ge (tgt := 119) S.1 S.2.1 dX5_count_112 (by decide) (fun c_112 => ?_) (fun c_112 => ?_)
          · have n_112 := Int32.not_lt.mpr c_112
            refine lv_iconst (v := 1) S.1 S.2.1 dX5_count_119 (by decide) ?_
            refine lv_iadd S.1 S.2.1 dX5_count_120 ?_
            refine lv_istore_n (lv' := [(2, .int (x + 1)), (0, .ref (am 0)), (1, .int v), (3, .int (nI i))]) S.1 S.2.1 dX5_count_121 rfl hl (by decide) rfl (fun ls hl => ?_)
            refine lv_iinc (v := nI (i + 1)) (lv' := [(3, .int (nI (i + 1))), (2, .int (x + 1)), (0, .ref (am 0)), (1, .int v)]) S.1 S.2.1 dX5_count_122 hl (k := 3) rfl (nI_1 i) (by decide) rfl (fun ls hl => ?_)
            refine lv_goto (tgt := 96) S.1 S.2.1 dX5_count_125 (by decide) ?_
            exact ih_96 (i + 1) (x + 1) (by omega) (by omega) (held_p hx (hsp i hi2) c_112) H locs hP hD hS ls (lv_sub hl [2, 3, 1, 0] rfl)
          · have n_112 := Int32.not_le.mp c_112
            refine lv_iconst (v := 0) S.1 S.2.1 dX5_count_115 (by decide) ?_
            refine lv_goto (tgt := 120) S.1 S.2.1 dX5_count_116 (by decide) ?_
            refine lv_iadd S.1 S.2.1 dX5_count_120 ?_
            refine lv_istore_n (lv' := [(2, .int (x + 0)), (0, .ref (am 0)), (1, .int v), (3, .int (nI i))]) S.1 S.2.1 dX5_count_121 rfl hl (by decide) rfl (fun ls hl => ?_)
            refine lv_iinc (v := nI (i + 1)) (lv' := [(3, .int (nI (i + 1))), (2, .int (x + 0)), (0, .ref (am 0)), (1, .int v)]) S.1 S.2.1 dX5_count_122 hl (k := 3) rfl (nI_1 i) (by decide) rfl (fun ls hl => ?_)
            refine lv_goto (tgt := 96) S.1 S.2.1 dX5_count_125 (by decide) ?_
            exact ih_96 (i + 1) (x + 0) (by omega) (by omega) (held_n hx (hsp i hi2) hn8 c_112) H locs hP hD hS ls (lv_sub hl [2, 3, 1, 0] rfl)
    exact L_96 (10 + 1) 0 0 (by omega) (by omega) rfl H locs hP hD hS ls (lv_sub hl [2, 3, 1, 0] rfl)
  have t_3_0 := ne_toInt (n := 0) (by decide) k_3_0
  have t_3_1 := ne_toInt (n := 1) (by decide) k_3_1
  have t_3_2 := ne_toInt (n := 2) (by decide) k_3_2
  have t_3_3 := ne_toInt (n := 3) (by decide) k_3_3
  have t_3_4 := ne_toInt (n := 4) (by decide) k_3_4
  have t_3_5 := ne_toInt (n := 5) (by decide) k_3_5
  have t_3_6 := ne_toInt (n := 6) (by decide) k_3_6
  have t_3_7 := ne_toInt (n := 7) (by decide) k_3_7
  refine lv_tableOut (tgt := 130) S.1 S.2.1 dX5_count_3 (by omega) (by decide) ?_
  refine lv_aload_n S.1 S.2.1 dX5_count_130 rfl (lv_at hl 1 rfl) ?_
  refine lv_ldc (v := (-1000001)) S.1 S.2.1 S.2.2.2.1 (S.2.2.2.2 _ (List.mem_cons_of_mem _ kk_X5_60)) dX5_count_131 ?_
  refine go_I (run_V (As := [.int (-1000001)]) (rest := []) (n := 1) S hK (bl_P hP [0, 2] rfl) (bl_D hD [0, 2] rfl rfl) (c_X5_finding l E am q f (-1000001) 0 (by decide) (by decide)) gV_X5_66 (by decide +kernel) rfl ⟨rfl, rfl⟩ ⟨Nat.le_of_ble_eq_true rfl, Nat.le_of_ble_eq_true rfl⟩ (ci := 5) (q0 := 0) rfl rfl hl.1 (Nat.le_of_ble_eq_true rfl) dX5_count_133 ⟨Nat.zero_le _, Nat.zero_le _⟩) hP hD hS [0, 2] rfl (had_cons rfl (had_cons cell_ad rfl)) (Bs' := [[mObj am q], [(am 1, .inl (E.2.1, 77, .inl (sg r 77)))], [(am 4, .inl (E.2.1, 8, .inl (sg (findM f 0) 8)))]]) rfl (fun H locs hP hD hS => ?_)
  obtain ⟨r_133, er_133⟩ : ∃ z : Row, z = findM f 0 := ⟨_, rfl⟩
  rw [← er_133] at hP hD
  exact retI S hr hlk (by have e9 : rCount r (q 3) v = .inl 0 := (by unfold rCount; rw [if_neg k_3_0, if_neg k_3_1, if_neg k_3_2, if_neg k_3_3, if_neg k_3_4, if_neg k_3_5, if_neg k_3_6, if_neg k_3_7]); rw [er_133] at hP; rw [e9, fndM_inl]; exact hP) hS (by have e9 : rCount r (q 3) v = .inl 0 := (by unfold rCount; rw [if_neg k_3_0, if_neg k_3_1, if_neg k_3_2, if_neg k_3_3, if_neg k_3_4, if_neg k_3_5, if_neg k_3_6, if_neg k_3_7]); rw [e9]; decide) dX5_count_136
