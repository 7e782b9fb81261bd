theorem tldF_0 {r it : Row} {k i : Nat} (h : it (4 * k) = 10) (e : it (4 * k + 1) = nI i) (hi : i < 2147483648) : tldF r it k = upd r (5 + i) (it (4 * k + 2)) := by
  unfold tldF
  rw [if_pos h, e, tN, nI_clamp hi]
theorem tldF_1 {r it : Row} {k : Nat} (h : ¬ it (4 * k) = 10) (h2 : it (4 * k) = 11) : tldF r it k = upd r 3 (it (4 * k + 1)) := by
  unfold tldF
  rw [if_neg h, if_pos h2]
theorem tldF_2 {r it : Row} {k : Nat} (h : ¬ it (4 * k) = 10) (h2 : ¬ it (4 * k) = 11) : tldF r it k = upd (upd (addF r (it (4 * k)) (it (4 * k + 1))) (21 + 7 * cntN r + 2) (it (4 * k + 2))) (21 + 7 * cntN r + 3) (it (4 * k + 3)) := by
  unfold tldF
  rw [if_neg h, if_neg h2]
set_option maxHeartbeats 800000 in
set_option maxRecDepth 100000 in
theorem c_X5_isToldSo (l : Launch) (E : EV) (am : Nat → Nat) (q r it : Row) (n k9 : Nat) (hn : r 1 = nI n) (hn8 : n ≤ 8) (hk9 : k9 < 120) (ho1 : it (4 * k9) = 10 → le9 (it (4 * k9 + 1)) 5) (ho2 : ¬ it (4 * k9) = 10 → ¬ it (4 * k9) = 11 → n < 8) : Met l yX5_isToldSo (wq yX5_isToldSo cX5_isToldSo 5 none) ({ frames := 2, cells := 0, slots := 0, locals := 45 }) (preB E [.ref (am 0), .int (nI (4 * k9))] [[mObj am q], [(am 1, .inl (E.2.1, 77, .inl (sg r 77)))], [(am 7, .inl (E.2.1, 480, .inl (sg it 480)))]]) (qV E [[mObj am q], [(am 1, .inl (E.2.1, 77, .inl (sg r 77)))], [(am 7, .inl (E.2.1, 480, .inl (sg it 480)))]] [[mObj am q], [(am 1, .inl (E.2.1, 77, .inl (sg (tldF r it k9) 77)))], [(am 7, .inl (E.2.1, 480, .inl (sg it 480)))]]) 0 0 (inB [[mObj am q], [(am 1, .inl (E.2.1, 77, .inl (sg r 77)))], [(am 7, .inl (E.2.1, 480, .inl (sg it 480)))]]) := by
  refine M_mk RX5 (by decide) rfl (Nat.le_of_ble_eq_true rfl) ?_
  intro p e s m below meth c S hr hlk hK hP hD hS ls hl
  have hl : lv_has ls 5 [(0, .ref (am 0)), (1, .int (nI (4 * k9)))] := hl
  obtain ⟨H, hH⟩ : ∃ zz9, zz9 = s.heap := ⟨_, rfl⟩
  obtain ⟨locs, hlocs⟩ : ∃ zz9 : List Loc, zz9 = [] := ⟨_, rfl⟩
  have hP : PE E [[mObj am q], [(am 1, .inl (E.2.1, 77, .inl (sg r 77)))], [(am 7, .inl (E.2.1, 480, .inl (sg it 480)))]] H := by rw [hH]; exact hP
  have hS : va_S (inB [[mObj am q], [(am 1, .inl (E.2.1, 77, .inl (sg r 77)))], [(am 7, .inl (E.2.1, 480, .inl (sg it 480)))]]) s.heap H locs := by rw [hH, hlocs]; exact hS
  show W p l e ({ frames := 2, cells := 0, slots := 0, locals := 45 }) s m ([.ref (am 0), .int (nI (4 * k9))] : List Value).toArray below meth c s.heap [] 0 0 _ _
  suffices hgo : W p l e ({ frames := 2, cells := 0, slots := 0, locals := 45 }) s m ([.ref (am 0), .int (nI (4 * k9))] : List Value).toArray below meth c H locs 0 0 (MQ below (qV E [[mObj am q], [(am 1, .inl (E.2.1, 77, .inl (sg r 77)))], [(am 7, .inl (E.2.1, 480, .inl (sg it 480)))]] [[mObj am q], [(am 1, .inl (E.2.1, 77, .inl (sg (tldF r it k9) 77)))], [(am 7, .inl (E.2.1, 480, .inl (sg it 480)))]]) ([.ref (am 0), .int (nI (4 * k9))] : List Value).toArray s 0 0 (inB [[mObj am q], [(am 1, .inl (E.2.1, 77, .inl (sg r 77)))], [(am 7, .inl (E.2.1, 480, .inl (sg it 480)))]])) (F0 m 0 ls []) by rw [hH, hlocs] at hgo; exact hgo
  clear hH hlocs
  refine lv_aload_n S.1 S.2.1 dX5_isToldSo_0 rfl (lv_at hl 0 rfl) ?_
  refine gf_X5_45 S hK hP 0 0 rfl rfl rfl dX5_isToldSo_1 ?_
  refine lv_iload_n S.1 S.2.1 dX5_isToldSo_4 rfl (lv_at hl 1 rfl) ?_
  refine lv_iconst (v := 1) S.1 S.2.1 dX5_isToldSo_5 (by decide) ?_
  refine lv_iadd S.1 S.2.1 dX5_isToldSo_6 ?_
  refine lv_eqi (y := nI (4 * k9 + 1)) (nI_add (4 * k9) 1) ?_
  refine b_ialdN (i := 4 * k9 + 1) S hK hP 2 0 rfl rfl (by omega) (by decide) dX5_isToldSo_7 ?_
  refine lv_eqi (y := it (4 * k9 + 1)) (sg_at (by omega)) ?_
  refine lv_istore_n (lv' := [(2, .int (it (4 * k9 + 1))), (0, .ref (am 0)), (1, .int (nI (4 * k9)))]) S.1 S.2.1 dX5_isToldSo_8 rfl hl (by decide) rfl (fun ls hl => ?_)
  refine lv_aload_n S.1 S.2.1 dX5_isToldSo_9 rfl (lv_at hl 1 rfl) ?_
  refine gf_X5_45 S hK hP 0 0 rfl rfl rfl dX5_isToldSo_10 ?_
  refine lv_iload_n S.1 S.2.1 dX5_isToldSo_13 rfl (lv_at hl 2 rfl) ?_
  refine lv_iconst (v := 2) S.1 S.2.1 dX5_isToldSo_14 (by decide) ?_
  refine lv_iadd S.1 S.2.1 dX5_isToldSo_15 ?_
  refine lv_eqi (y := nI (4 * k9 + 2)) (nI_add (4 * k9) 2) ?_
  refine b_ialdN (i := 4 * k9 + 2) S hK hP 2 0 rfl rfl (by omega) (by decide) dX5_isToldSo_16 ?_
  refine lv_eqi (y := it (4 * k9 + 2)) (sg_at (by omega)) ?_
  refine lv_istore_n (lv' := [(3, .int (it (4 * k9 + 2))), (2, .int (it (4 * k9 + 1))), (0, .ref (am 0)), (1, .int (nI (4 * k9)))]) S.1 S.2.1 dX5_isToldSo_17 rfl hl (by decide) rfl (fun ls hl => ?_)
  refine lv_aload_n S.1 S.2.1 dX5_isToldSo_18 rfl (lv_at hl 2 rfl) ?_
  refine gf_X5_45 S hK hP 0 0 rfl rfl rfl dX5_isToldSo_19 ?_
  refine lv_iload_n S.1 S.2.1 dX5_isToldSo_22 rfl (lv_at hl 3 rfl) ?_
  refine b_ialdN (i := 4 * k9) S hK hP 2 0 rfl rfl (by omega) (by decide) dX5_isToldSo_23 ?_
  refine lv_eqi (y := it (4 * k9)) (sg_at (by omega)) ?_
  by_cases k_24_10 : it (4 * k9) = 10
  · refine lv_lookup (tgt := 52) (off := 28) S.1 S.2.1 dX5_isToldSo_24 (by decide) (by first | (rw [k_24_10]; done) | (rw [k_24_10]; rfl)) (by decide) ?_
    obtain ⟨i9, hi9, ei9⟩ := ho1 k_24_10
    refine lv_aload_n S.1 S.2.1 dX5_isToldSo_52 rfl (lv_at hl 2 rfl) ?_
    refine gf_X5_9 S hK hP 0 0 rfl rfl rfl dX5_isToldSo_53 ?_
    refine lv_iconst (v := 5) S.1 S.2.1 dX5_isToldSo_56 (by decide) ?_
    refine lv_iload_n S.1 S.2.1 dX5_isToldSo_57 rfl (lv_at hl 1 rfl) ?_
    refine lv_eqi (y := nI i9) ei9 ?_
    refine lv_iadd S.1 S.2.1 dX5_isToldSo_58 ?_
    refine lv_eqi (y := nI (5 + i9)) (nI_add 5 i9) ?_
    refine lv_iload_n S.1 S.2.1 dX5_isToldSo_59 rfl (lv_at hl 0 rfl) ?_
    refine b_iastN (i := 5 + i9) S hK hP hD hS 1 0 rfl rfl (by omega) (by decide) (sgs_upd (by omega)) (Bs1 := [[mObj am q], [(am 1, .inl (E.2.1, 77, .inl (sg (upd r (5 + i9) (it (4 * k9 + 2))) 77)))], [(am 7, .inl (E.2.1, 480, .inl (sg it 480)))]]) rfl dX5_isToldSo_60 (fun H locs hP hD hS => ?_)
    obtain ⟨r_60, er_60⟩ : ∃ zz9, zz9 = upd r (5 + i9) (it (4 * k9 + 2)) := ⟨_, rfl⟩
    rw [← er_60] at hP hD
    have hr_60_1 : r_60 1 = nI n := by rw [er_60]; exact (upd_ne (by omega)).trans hn
    refine lv_goto (tgt := 118) S.1 S.2.1 dX5_isToldSo_61 (by decide) ?_
    exact retV S hr hlk (by rw [tldF_0 k_24_10 ei9 (by omega)]; (try rw [er_60] at hP); exact hP) hS dX5_isToldSo_118
  by_cases k_24_11 : it (4 * k9) = 11
  · refine lv_lookup (tgt := 64) (off := 40) S.1 S.2.1 dX5_isToldSo_24 (by decide) (by first | (rw [k_24_11]; done) | (rw [k_24_11]; rfl)) (by decide) ?_
    refine lv_aload_n S.1 S.2.1 dX5_isToldSo_64 rfl (lv_at hl 2 rfl) ?_
    refine gf_X5_9 S hK hP 0 0 rfl rfl rfl dX5_isToldSo_65 ?_
    refine lv_iconst (v := 3) S.1 S.2.1 dX5_isToldSo_68 (by decide) ?_
    refine lv_iload_n S.1 S.2.1 dX5_isToldSo_69 rfl (lv_at hl 1 rfl) ?_
    refine b_iastN (i := 3) S hK hP hD hS 1 0 rfl rfl (by omega) (by decide) (sgs_upd (by omega)) (Bs1 := [[mObj am q], [(am 1, .inl (E.2.1, 77, .inl (sg (upd r 3 (it (4 * k9 + 1))) 77)))], [(am 7, .inl (E.2.1, 480, .inl (sg it 480)))]]) rfl dX5_isToldSo_70 (fun H locs hP hD hS => ?_)
    obtain ⟨r_70, er_70⟩ : ∃ zz9, zz9 = upd r 3 (it (4 * k9 + 1)) := ⟨_, rfl⟩
    rw [← er_70] at hP hD
    have hr_70_1 : r_70 1 = nI n := by rw [er_70]; exact (upd_ne (by omega)).trans hn
    refine lv_goto (tgt := 118) S.1 S.2.1 dX5_isToldSo_71 (by decide) ?_
    exact retV S hr hlk (by rw [tldF_1 k_24_10 k_24_11]; (try rw [er_70] at hP); (try rw [er_60] at hP); exact hP) hS dX5_isToldSo_118
  have t_24_10 := ne_toInt (n := 10) (by decide) k_24_10
  have t_24_11 := ne_toInt (n := 11) (by decide) k_24_11
  refine lv_lookup (tgt := 74) (off := 50) S.1 S.2.1 dX5_isToldSo_24 (by decide) (by simp [Op.lookupswitch.offset, Ne.symm t_24_10, t_24_10, Ne.symm t_24_11, t_24_11]) (by decide) ?_
  have hn7 : n < 8 := ho2 k_24_10 k_24_11
  have hcn : cntN r = n := cntN_eq hn (by omega)
  refine lv_aload_n S.1 S.2.1 dX5_isToldSo_74 rfl (lv_at hl 2 rfl) ?_
  refine lv_aload_n S.1 S.2.1 dX5_isToldSo_75 rfl (lv_at hl 2 rfl) ?_
  refine gf_X5_45 S hK hP 0 0 rfl rfl rfl dX5_isToldSo_76 ?_
  refine lv_iload_n S.1 S.2.1 dX5_isToldSo_79 rfl (lv_at hl 3 rfl) ?_
  refine b_ialdN (i := 4 * k9) S hK hP 2 0 rfl rfl (by omega) (by decide) dX5_isToldSo_80 ?_
  refine lv_eqi (y := it (4 * k9)) (sg_at (by omega)) ?_
  refine lv_iload_n S.1 S.2.1 dX5_isToldSo_81 rfl (lv_at hl 1 rfl) ?_
  refine go_I (run_V (As := [.int (it (4 * k9)), .int (it (4 * k9 + 1))]) (rest := []) (n := 2) S hK (bl_P hP [0, 1] rfl) (bl_D hD [0, 1] rfl rfl) (c_X5_comes l E am q r (it (4 * k9)) (it (4 * k9 + 1)) n hn hn7) gV_X5_89 (by decide +kernel) rfl ⟨rfl, rfl⟩ ⟨Nat.le_of_ble_eq_true rfl, Nat.le_of_ble_eq_true rfl⟩ (ci := 5) (q0 := 0) rfl rfl hl.1 (Nat.le_of_ble_eq_true rfl) dX5_isToldSo_82 ⟨Nat.zero_le _, Nat.zero_le _⟩) hP hD hS [0, 1] rfl (had_cons rfl (had_cons cell_ad rfl)) (Bs' := [[mObj am q], [(am 1, .inl (E.2.1, 77, .inl (sg (addF r (it (4 * k9)) (it (4 * k9 + 1))) 77)))], [(am 7, .inl (E.2.1, 480, .inl (sg it 480)))]]) rfl (fun H locs hP hD hS => ?_)
  obtain ⟨r_82, er_82⟩ : ∃ zz9 : Row, zz9 = addF r (it (4 * k9)) (it (4 * k9 + 1)) := ⟨_, rfl⟩
  rw [← er_82] at hP hD
  refine lv_istore (lv' := [(4, .int (nI (cntN r))), (3, .int (it (4 * k9 + 2))), (2, .int (it (4 * k9 + 1))), (0, .ref (am 0)), (1, .int (nI (4 * k9)))]) S.1 S.2.1 dX5_isToldSo_85 hl (by decide) rfl (fun ls hl => ?_)
  refine lv_aload_n S.1 S.2.1 dX5_isToldSo_87 rfl (lv_at hl 3 rfl) ?_
  refine gf_X5_9 S hK hP 0 0 rfl rfl rfl dX5_isToldSo_88 ?_
  refine lv_iload S.1 S.2.1 dX5_isToldSo_91 (lv_at hl 0 rfl) ?_
  refine lv_iconst (v := 2) S.1 S.2.1 dX5_isToldSo_93 (by decide) ?_
  refine go_S (run_S (As := [.int (nI (cntN r)), .int 2]) (rest := [.ref (am 1)]) (n := 2) S hK (bl_P hP [] rfl) (bl_D hD [] rfl rfl) (c_X5_potterAt l E (cntN r) 2 ) gS_X5_82 (by decide +kernel) rfl ⟨rfl, rfl⟩ ⟨Nat.le_of_ble_eq_true rfl, Nat.le_of_ble_eq_true rfl⟩ hl.1 (Nat.le_of_ble_eq_true rfl) dX5_isToldSo_94 ⟨Nat.zero_le _, Nat.zero_le _⟩) ?_
  refine lv_iload_n S.1 S.2.1 dX5_isToldSo_97 rfl (lv_at hl 1 rfl) ?_
  refine b_iastN (i := 21 + 7 * (cntN r) + 2) S hK hP hD hS 1 0 rfl rfl (by omega) (by decide) (sgs_upd (by omega)) (Bs1 := [[mObj am q], [(am 1, .inl (E.2.1, 77, .inl (sg (upd r_82 (21 + 7 * (cntN r) + 2) (it (4 * k9 + 2))) 77)))], [(am 7, .inl (E.2.1, 480, .inl (sg it 480)))]]) rfl dX5_isToldSo_98 (fun H locs hP hD hS => ?_)
  obtain ⟨r_98, er_98⟩ : ∃ zz9, zz9 = upd r_82 (21 + 7 * (cntN r) + 2) (it (4 * k9 + 2)) := ⟨_, rfl⟩
  rw [← er_98] at hP hD
  refine lv_aload_n S.1 S.2.1 dX5_isToldSo_99 rfl (lv_at hl 3 rfl) ?_
  refine gf_X5_9 S hK hP 0 0 rfl rfl rfl dX5_isToldSo_100 ?_
  refine lv_iload S.1 S.2.1 dX5_isToldSo_103 (lv_at hl 0 rfl) ?_
  refine lv_iconst (v := 3) S.1 S.2.1 dX5_isToldSo_105 (by decide) ?_
  refine go_S (run_S (As := [.int (nI (cntN r)), .int 3]) (rest := [.ref (am 1)]) (n := 2) S hK (bl_P hP [] rfl) (bl_D hD [] rfl rfl) (c_X5_potterAt l E (cntN r) 3 ) gS_X5_82 (by decide +kernel) rfl ⟨rfl, rfl⟩ ⟨Nat.le_of_ble_eq_true rfl, Nat.le_of_ble_eq_true rfl⟩ hl.1 (Nat.le_of_ble_eq_true rfl) dX5_isToldSo_106 ⟨Nat.zero_le _, Nat.zero_le _⟩) ?_
  refine lv_aload_n S.1 S.2.1 dX5_isToldSo_109 rfl (lv_at hl 3 rfl) ?_
  refine gf_X5_45 S hK hP 0 0 rfl rfl rfl dX5_isToldSo_110 ?_
  refine lv_iload_n S.1 S.2.1 dX5_isToldSo_113 rfl (lv_at hl 4 rfl) ?_
  refine lv_iconst (v := 3) S.1 S.2.1 dX5_isToldSo_114 (by decide) ?_
  refine lv_iadd S.1 S.2.1 dX5_isToldSo_115 ?_
  refine lv_eqi (y := nI (4 * k9 + 3)) (nI_add (4 * k9) 3) ?_
  refine b_ialdN (i := 4 * k9 + 3) S hK hP 2 0 rfl rfl (by omega) (by decide) dX5_isToldSo_116 ?_
  refine lv_eqi (y := it (4 * k9 + 3)) (sg_at (by omega)) ?_
  refine b_iastN (i := 21 + 7 * (cntN r) + 3) S hK hP hD hS 1 0 rfl rfl (by omega) (by decide) (sgs_upd (by omega)) (Bs1 := [[mObj am q], [(am 1, .inl (E.2.1, 77, .inl (sg (upd r_98 (21 + 7 * (cntN r) + 3) (it (4 * k9 + 3))) 77)))], [(am 7, .inl (E.2.1, 480, .inl (sg it 480)))]]) rfl dX5_isToldSo_117 (fun H locs hP hD hS => ?_)
  obtain ⟨r_117, er_117⟩ : ∃ zz9, zz9 = upd r_98 (21 + 7 * (cntN r) + 3) (it (4 * k9 + 3)) := ⟨_, rfl⟩
  rw [← er_117] at hP hD
  exact retV S hr hlk (by rw [tldF_2 k_24_10 k_24_11]; (try rw [er_117] at hP); (try rw [er_98] at hP); (try rw [er_82] at hP); (try rw [er_70] at hP); (try rw [er_60] at hP); exact hP) hS dX5_isToldSo_118
