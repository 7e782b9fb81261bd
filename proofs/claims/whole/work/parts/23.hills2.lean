theorem lt_in {i n : Nat} (h : ¬ nI n ≤ nI i) (hi : i ≤ n) : i < n := Nat.lt_of_le_of_ne hi (fun q => h (by rw [q]; exact Int32.le_refl _))
theorem le_end {i n : Nat} (hi : i ≤ n) (h : nI n ≤ nI i) (hn : n ≤ 8) : i = n := by
  rcases Nat.lt_or_ge i n with q | q
  · exact absurd h (nI_ge q (by omega))
  · omega
set_option maxHeartbeats 4000000 in
set_option maxRecDepth 100000 in
theorem c_X0_isFull (l : Launch) (E : EV) (ad : Nat → Nat) (r : Row)  : Met l yX0_isFull (wq yX0_isFull cX0_isFull 1 (some .boolean)) ({ frames := 0, cells := 0, slots := 0, locals := 0 }) (preB E [.ref (ad 0)] [hillsW E ad r]) (qS (bI (8 ≤ r 1))) 0 0 (fun _ => False) := by
  refine M_mk RX0 (by decide) rfl (Nat.le_of_ble_eq_true rfl) ?_
  intro p e s m below meth c S hr hlk hK hP hD hS ls hl
  have hl : lv_has ls 1 [(0, .ref (ad 0))] := hl
  refine lv_aload_n S.1 S.2.1 dX0_isFull_0 rfl (lv_at hl 0 rfl) ?_
  refine gf_X0_24 S hK hP 0 0 rfl rfl rfl dX0_isFull_1 ?_
  refine lv_bipush (v := 8) S.1 S.2.1 dX0_isFull_4 (by decide) ?_
  refine lv_icmp_lt (tgt := 13) S.1 S.2.1 dX0_isFull_6 (by decide) (fun c_6 => ?_) (fun c_6 => ?_)
  · have n_6 := Int32.not_le.mpr c_6
    refine lv_iconst (v := 0) S.1 S.2.1 dX0_isFull_13 (by decide) ?_
    exact retSZ S hr hlk rfl (by first | (simp only [bI, c_6, n_6, ↓reduceIte]; done) | (simp [bI, c_6, n_6, ↓reduceIte]; done) | (simp [bI, c_6, n_6]; done)) dX0_isFull_14
  · have n_6 := Int32.not_lt.mp c_6
    refine lv_iconst (v := 1) S.1 S.2.1 dX0_isFull_9 (by decide) ?_
    refine lv_goto (tgt := 14) S.1 S.2.1 dX0_isFull_10 (by decide) ?_
    exact retSZ S hr hlk rfl (by first | (simp only [bI, c_6, n_6, ↓reduceIte]; done) | (simp [bI, c_6, n_6, ↓reduceIte]; done) | (simp [bI, c_6, n_6]; done)) dX0_isFull_14
set_option maxHeartbeats 4000000 in
set_option maxRecDepth 100000 in
theorem c_X0_weatherOfDay (l : Launch) (E : EV) (ad : Nat → Nat) (r : Row) (d : Nat) (hd : r 0 = nI d) (hd5 : d ≤ 99999) : Met l yX0_weatherOfDay (wq yX0_weatherOfDay cX0_weatherOfDay 1 (some .int)) ({ frames := 0, cells := 0, slots := 0, locals := 0 }) (preB E [.ref (ad 0)] [hillsW E ad r]) (qS (wthr r)) 0 0 (fun _ => False) := by
  refine M_mk RX0 (by decide) rfl (Nat.le_of_ble_eq_true rfl) ?_
  intro p e s m below meth c S hr hlk hK hP hD hS ls hl
  have hl : lv_has ls 1 [(0, .ref (ad 0))] := hl
  refine lv_aload_n S.1 S.2.1 dX0_weatherOfDay_0 rfl (lv_at hl 0 rfl) ?_
  refine gf_X0_9 S hK hP 0 0 rfl rfl rfl dX0_weatherOfDay_1 ?_
  refine lv_aload_n S.1 S.2.1 dX0_weatherOfDay_4 rfl (lv_at hl 0 rfl) ?_
  refine gf_X0_34 S hK hP 0 0 rfl rfl (congrArg (fun z => some (Value.int z)) hd) dX0_weatherOfDay_5 ?_
  refine lv_bipush (v := 6) S.1 S.2.1 dX0_weatherOfDay_8 (by decide) ?_
  refine lv_irem S.1 S.2.1 dX0_weatherOfDay_10 (by decide) ?_
  refine lv_eqi (y := nI (d % 6)) (pk_rem (a := d) (d := 6) (by omega) (by decide) (by decide)) ?_
  refine b_ialdN (i := d % 6) S hK hP 0 1 rfl rfl (by omega) (by decide) dX0_weatherOfDay_11 ?_
  refine lv_eqi (y := r (5 + (d % 6))) (seg_at (by omega)) ?_
  exact retS S hr hlk (by unfold wthr; rw [dayN_eq hd hd5]) dX0_weatherOfDay_12
set_option maxHeartbeats 4000000 in
set_option maxRecDepth 100000 in
theorem c_X0_gather (l : Launch) (E : EV) (ad : Nat → Nat) (r : Row) (i : Nat) (w : Int32) (hi : i < 8) : Met l yX0_gather (wq yX0_gather cX0_gather 4 none) ({ frames := 1, cells := 0, slots := 0, locals := 24 }) (preB E [.ref (ad 0), .ref (ad (4 + i)), .int w] [hillsW E ad r]) (qV E [hillsW E ad r] [hillsW E ad (gatherF r i w)]) 0 0 (inB [hillsW E ad r]) := by
  refine M_mk RX0 (by decide) rfl (Nat.le_of_ble_eq_true rfl) ?_
  intro p e s m below meth c S hr hlk hK hP hD hS ls hl
  have hl : lv_has ls 4 [(0, .ref (ad 0)), (1, .ref (ad (4 + i))), (2, .int w)] := hl
  obtain ⟨H, hH⟩ : ∃ z, z = s.heap := ⟨_, rfl⟩
  obtain ⟨locs, hlocs⟩ : ∃ z : List Loc, z = [] := ⟨_, rfl⟩
  have hP : PE E [hillsW E ad r] H := by rw [hH]; exact hP
  have hS : va_S (inB [hillsW E ad r]) s.heap H locs := by rw [hH, hlocs]; exact hS
  show W p l e ({ frames := 1, cells := 0, slots := 0, locals := 24 }) s m ([.ref (ad 0), .ref (ad (4 + i)), .int w] : List Value).toArray below meth c s.heap [] 0 0 _ _
  suffices hgo : W p l e ({ frames := 1, cells := 0, slots := 0, locals := 24 }) s m ([.ref (ad 0), .ref (ad (4 + i)), .int w] : List Value).toArray below meth c H locs 0 0 (MQ below (qV E [hillsW E ad r] [hillsW E ad (gatherF r i w)]) ([.ref (ad 0), .ref (ad (4 + i)), .int w] : List Value).toArray s 0 0 (inB [hillsW E ad r])) (F0 m 0 ls []) by rw [hH, hlocs] at hgo; exact hgo
  clear hH hlocs
  refine lv_aload_n S.1 S.2.1 dX0_gather_0 rfl (lv_at hl 1 rfl) ?_
  refine lv_aload_n S.1 S.2.1 dX0_gather_1 rfl (lv_at hl 0 rfl) ?_
  refine gf_X0_28 S hK hP 0 0 rfl rfl rfl dX0_gather_2 ?_
  refine go_S (run_V (As := [.int (r 3)]) (rest := []) (n := 1) S hK (cell_P hP (b := 0) (j := (4 + i)) rfl (hw_pot (by omega))) cell_D (c_X1_cries l E (ad (4 + i)) (r (21 + 7 * i)) (r (21 + 7 * i + 1)) (r (21 + 7 * i + 2)) (r (21 + 7 * i + 3)) (r (21 + 7 * i + 4)) (r (21 + 7 * i + 5)) (r (21 + 7 * i + 6)) (r 3)) gV_X0_76 (by decide +kernel) rfl ⟨rfl, rfl⟩ ⟨Nat.le_of_ble_eq_true rfl, Nat.le_of_ble_eq_true rfl⟩ (ci := 1) (q0 := 0) rfl rfl hl.1 (Nat.le_of_ble_eq_true rfl) dX0_gather_5 ⟨Nat.zero_le _, Nat.zero_le _⟩) ?_
  refine lv_aload_n S.1 S.2.1 dX0_gather_8 rfl (lv_at hl 1 rfl) ?_
  refine lv_iload_n S.1 S.2.1 dX0_gather_9 rfl (lv_at hl 2 rfl) ?_
  refine go_S (run_V (As := [.int w]) (rest := [.int (criesV (r (21 + 7 * i)) (r (21 + 7 * i + 1)) (r (21 + 7 * i + 5)) (r 3))]) (n := 1) S hK (cell_P hP (b := 0) (j := (4 + i)) rfl (hw_pot (by omega))) cell_D (c_X1_weathers l E (ad (4 + i)) (r (21 + 7 * i)) (r (21 + 7 * i + 1)) (r (21 + 7 * i + 2)) (r (21 + 7 * i + 3)) (r (21 + 7 * i + 4)) (r (21 + 7 * i + 5)) (r (21 + 7 * i + 6)) w) gV_X0_80 (by decide +kernel) rfl ⟨rfl, rfl⟩ ⟨Nat.le_of_ble_eq_true rfl, Nat.le_of_ble_eq_true rfl⟩ (ci := 1) (q0 := 0) rfl rfl hl.1 (Nat.le_of_ble_eq_true rfl) dX0_gather_10 ⟨Nat.zero_le _, Nat.zero_le _⟩) ?_
  refine lv_iadd S.1 S.2.1 dX0_gather_13 ?_
  refine lv_istore_n (lv' := [(3, .int ((criesV (r (21 + 7 * i)) (r (21 + 7 * i + 1)) (r (21 + 7 * i + 5)) (r 3)) + (weathersV (r (21 + 7 * i)) (r (21 + 7 * i + 2)) w))), (0, .ref (ad 0)), (1, .ref (ad (4 + i))), (2, .int w)]) S.1 S.2.1 dX0_gather_14 rfl hl (by decide) rfl (fun ls hl => ?_)
  refine lv_aload_n S.1 S.2.1 dX0_gather_15 rfl (lv_at hl 2 rfl) ?_
  refine lv_aload_n S.1 S.2.1 dX0_gather_16 rfl (lv_at hl 2 rfl) ?_
  refine gf_X0_83 S hK hP 0 (4 + i) rfl (hw_pot (by omega)) rfl dX0_gather_17 ?_
  refine lv_iload_n S.1 S.2.1 dX0_gather_20 rfl (lv_at hl 0 rfl) ?_
  refine lv_iadd S.1 S.2.1 dX0_gather_21 ?_
  refine lv_sipush (v := 999) S.1 S.2.1 dX0_gather_22 (by decide) ?_
  refine va_mmin S.1 S.2.1 (S.2.2.1.trans hl.1.symm) S.2.2.2.1 (S.2.2.2.2 _ (List.mem_cons_of_mem _ mk_X0_70)) (S.2.2.2.2 _ (List.mem_cons_of_mem _ sk_JMmin)) (S.2.2.2.2 _ (List.mem_cons_of_mem _ nk_J9)) (S.2.2.2.2 _ (List.mem_cons_of_mem _ ck_JMmin)) (Nat.le_of_ble_eq_true rfl) (Nat.le_of_ble_eq_true rfl) (Nat.zero_le _) (Nat.zero_le _) dX0_gather_25 ?_
  refine pf_X0_83 S hK hP hD hS 0 (4 + i) rfl (hw_pot (by omega)) (Nat.le_of_ble_eq_true rfl) (hs_p3 (by omega)) (Bs1 := [hillsW E ad (upd r (21 + 7 * i + 3) (if 999 < ((r (21 + 7 * i + 3)) + ((criesV (r (21 + 7 * i)) (r (21 + 7 * i + 1)) (r (21 + 7 * i + 5)) (r 3)) + (weathersV (r (21 + 7 * i)) (r (21 + 7 * i + 2)) w))) then 999 else ((r (21 + 7 * i + 3)) + ((criesV (r (21 + 7 * i)) (r (21 + 7 * i + 1)) (r (21 + 7 * i + 5)) (r 3)) + (weathersV (r (21 + 7 * i)) (r (21 + 7 * i + 2)) w)))))]) rfl dX0_gather_28 (fun H locs hP hD hS => ?_)
  obtain ⟨r_28, er_28⟩ : ∃ z, z = upd r (21 + 7 * i + 3) (if 999 < ((r (21 + 7 * i + 3)) + ((criesV (r (21 + 7 * i)) (r (21 + 7 * i + 1)) (r (21 + 7 * i + 5)) (r 3)) + (weathersV (r (21 + 7 * i)) (r (21 + 7 * i + 2)) w))) then 999 else ((r (21 + 7 * i + 3)) + ((criesV (r (21 + 7 * i)) (r (21 + 7 * i + 1)) (r (21 + 7 * i + 5)) (r 3)) + (weathersV (r (21 + 7 * i)) (r (21 + 7 * i + 2)) w)))) := ⟨_, rfl⟩
  rw [← er_28] at hP hD
  refine lv_aload_n S.1 S.2.1 dX0_gather_31 rfl (lv_at hl 2 rfl) ?_
  refine lv_aload_n S.1 S.2.1 dX0_gather_32 rfl (lv_at hl 2 rfl) ?_
  refine gf_X0_86 S hK hP 0 (4 + i) rfl (hw_pot (by omega)) rfl dX0_gather_33 ?_
  refine lv_aload_n S.1 S.2.1 dX0_gather_36 rfl (lv_at hl 2 rfl) ?_
  refine go_S (run_V (As := []) (rest := [.int (r_28 (21 + 7 * i + 1)), .ref (ad (4 + i))]) (n := 0) S hK (cell_P hP (b := 0) (j := (4 + i)) rfl (hw_pot (by omega))) cell_D (c_X1_heals l E (ad (4 + i)) (r_28 (21 + 7 * i)) (r_28 (21 + 7 * i + 1)) (r_28 (21 + 7 * i + 2)) (r_28 (21 + 7 * i + 3)) (r_28 (21 + 7 * i + 4)) (r_28 (21 + 7 * i + 5)) (r_28 (21 + 7 * i + 6))) gV_X0_89 (by decide +kernel) rfl ⟨rfl, rfl⟩ ⟨Nat.le_of_ble_eq_true rfl, Nat.le_of_ble_eq_true rfl⟩ (ci := 1) (q0 := 0) rfl rfl hl.1 (Nat.le_of_ble_eq_true rfl) dX0_gather_37 ⟨Nat.zero_le _, Nat.zero_le _⟩) ?_
  refine lv_isub S.1 S.2.1 dX0_gather_40 ?_
  refine lv_iconst (v := 0) S.1 S.2.1 dX0_gather_41 (by decide) ?_
  refine va_mmax S.1 S.2.1 (S.2.2.1.trans hl.1.symm) S.2.2.2.1 (S.2.2.2.2 _ (List.mem_cons_of_mem _ mk_X0_92)) (S.2.2.2.2 _ (List.mem_cons_of_mem _ sk_JMmax)) (S.2.2.2.2 _ (List.mem_cons_of_mem _ nk_J9)) (S.2.2.2.2 _ (List.mem_cons_of_mem _ ck_JMmax)) (Nat.le_of_ble_eq_true rfl) (Nat.le_of_ble_eq_true rfl) (Nat.zero_le _) (Nat.zero_le _) dX0_gather_42 ?_
  refine pf_X0_86 S hK hP hD hS 0 (4 + i) rfl (hw_pot (by omega)) (Nat.le_of_ble_eq_true rfl) (hs_p1 (by omega)) (Bs1 := [hillsW E ad (upd r_28 (21 + 7 * i + 1) (if ((r_28 (21 + 7 * i + 1)) - (healsV (r_28 (21 + 7 * i)))) < 0 then 0 else ((r_28 (21 + 7 * i + 1)) - (healsV (r_28 (21 + 7 * i))))))]) rfl dX0_gather_45 (fun H locs hP hD hS => ?_)
  obtain ⟨r_45, er_45⟩ : ∃ z, z = upd r_28 (21 + 7 * i + 1) (if ((r_28 (21 + 7 * i + 1)) - (healsV (r_28 (21 + 7 * i)))) < 0 then 0 else ((r_28 (21 + 7 * i + 1)) - (healsV (r_28 (21 + 7 * i))))) := ⟨_, rfl⟩
  rw [← er_45] at hP hD
  refine lv_aload_n S.1 S.2.1 dX0_gather_48 rfl (lv_at hl 2 rfl) ?_
  refine gf_X0_95 S hK hP 0 (4 + i) rfl (hw_pot (by omega)) rfl dX0_gather_49 ?_
  refine lv_iconst (v := 1) S.1 S.2.1 dX0_gather_52 (by decide) ?_
  refine lv_icmp_ne (tgt := 73) S.1 S.2.1 dX0_gather_53 (by decide) (fun c_53 => ?_) (fun c_53 => ?_)
  · exact retV S hr hlk (by have e9 : gatherF r i w = r_45 := (by unfold gatherF gath3 gath2 gath1 healsR criesR weathersR mn mx; subst_vars; first | (simp only [c_53, ↓reduceIte]; done) | (simp only [c_53, ↓reduceIte]; rfl)); rw [e9]; exact hP) hS dX0_gather_73
  · refine lv_aload_n S.1 S.2.1 dX0_gather_56 rfl (lv_at hl 1 rfl) ?_
    refine gf_X0_28 S hK hP 0 0 rfl rfl rfl dX0_gather_57 ?_
    refine lv_if_le (tgt := 73) S.1 S.2.1 dX0_gather_60 (by decide) (fun c_60 => ?_) (fun c_60 => ?_)
    · have n_60 := Int32.not_lt.mpr c_60
      exact retV S hr hlk (by have e9 : gatherF r i w = r_45 := (by unfold gatherF gath3 gath2 gath1 healsR criesR weathersR mn mx; subst_vars; first | (simp only [eq_true c_53, c_60, n_60, ↓reduceIte]; done) | (simp only [eq_true c_53, c_60, n_60, ↓reduceIte]; rfl)); rw [e9]; exact hP) hS dX0_gather_73
    · have n_60 := Int32.not_le.mp c_60
      refine lv_aload_n S.1 S.2.1 dX0_gather_63 rfl (lv_at hl 1 rfl) ?_
      refine lv_dup S.1 S.2.1 dX0_gather_64 rfl ?_
      refine gf_X0_28 S hK hP 0 0 rfl rfl rfl dX0_gather_65 ?_
      refine lv_iconst (v := 1) S.1 S.2.1 dX0_gather_68 (by decide) ?_
      refine lv_isub S.1 S.2.1 dX0_gather_69 ?_
      refine pf_X0_28 S hK hP hD hS 0 0 rfl rfl (Nat.le_of_ble_eq_true rfl) hs_3 (Bs1 := [hillsW E ad (upd r_45 3 ((r_45 3) - 1))]) rfl dX0_gather_70 (fun H locs hP hD hS => ?_)
      obtain ⟨r_70, er_70⟩ : ∃ z, z = upd r_45 3 ((r_45 3) - 1) := ⟨_, rfl⟩
      rw [← er_70] at hP hD
      exact retV S hr hlk (by have e9 : gatherF r i w = r_70 := (by unfold gatherF gath3 gath2 gath1 healsR criesR weathersR mn mx; subst_vars; first | (simp only [eq_true c_53, c_60, n_60, ↓reduceIte]; done) | (simp only [eq_true c_53, c_60, n_60, ↓reduceIte]; rfl)); rw [e9]; exact hP) hS dX0_gather_73
set_option maxHeartbeats 4000000 in
set_option maxRecDepth 100000 in
theorem c_X0_fire (l : Launch) (E : EV) (ad : Nat → Nat) (r : Row) (i : Nat) (hi : i < 8) : Met l yX0_fire (wq yX0_fire cX0_fire 2 none) ({ frames := 2, cells := 0, slots := 0, locals := 40 }) (preB E [.ref (ad 0), .ref (ad (4 + i))] [hillsW E ad r]) (qV E [hillsW E ad r] [hillsW E ad (fireF r i)]) 0 0 (inB [hillsW E ad r]) := by
  refine M_mk RX0 (by decide) rfl (Nat.le_of_ble_eq_true rfl) ?_
  intro p e s m below meth c S hr hlk hK hP hD hS ls hl
  have hl : lv_has ls 2 [(0, .ref (ad 0)), (1, .ref (ad (4 + i)))] := hl
  obtain ⟨H, hH⟩ : ∃ z, z = s.heap := ⟨_, rfl⟩
  obtain ⟨locs, hlocs⟩ : ∃ z : List Loc, z = [] := ⟨_, rfl⟩
  have hP : PE E [hillsW E ad r] H := by rw [hH]; exact hP
  have hS : va_S (inB [hillsW E ad r]) s.heap H locs := by rw [hH, hlocs]; exact hS
  show W p l e ({ frames := 2, cells := 0, slots := 0, locals := 40 }) s m ([.ref (ad 0), .ref (ad (4 + i))] : List Value).toArray below meth c s.heap [] 0 0 _ _
  suffices hgo : W p l e ({ frames := 2, cells := 0, slots := 0, locals := 40 }) s m ([.ref (ad 0), .ref (ad (4 + i))] : List Value).toArray below meth c H locs 0 0 (MQ below (qV E [hillsW E ad r] [hillsW E ad (fireF r i)]) ([.ref (ad 0), .ref (ad (4 + i))] : List Value).toArray s 0 0 (inB [hillsW E ad r])) (F0 m 0 ls []) by rw [hH, hlocs] at hgo; exact hgo
  clear hH hlocs
  refine lv_aload_n S.1 S.2.1 dX0_fire_0 rfl (lv_at hl 1 rfl) ?_
  refine go_S (run_V (As := []) (rest := []) (n := 0) S hK (cell_P hP (b := 0) (j := (4 + i)) rfl (hw_pot (by omega))) cell_D (c_X1_isReady l E (ad (4 + i)) (r (21 + 7 * i)) (r (21 + 7 * i + 1)) (r (21 + 7 * i + 2)) (r (21 + 7 * i + 3)) (r (21 + 7 * i + 4)) (r (21 + 7 * i + 5)) (r (21 + 7 * i + 6))) gV_X0_98 (by decide +kernel) rfl ⟨rfl, rfl⟩ ⟨Nat.le_of_ble_eq_true rfl, Nat.le_of_ble_eq_true rfl⟩ (ci := 1) (q0 := 0) rfl rfl hl.1 (Nat.le_of_ble_eq_true rfl) dX0_fire_1 ⟨Nat.zero_le _, Nat.zero_le _⟩) ?_
  refine b_ifeq (tgt := 52) S.1 S.2.1 dX0_fire_4 (by decide) (fun c_4 => ?_) (fun c_4 => ?_)
  · refine lv_aload_n S.1 S.2.1 dX0_fire_52 rfl (lv_at hl 1 rfl) ?_
    refine lv_aload_n S.1 S.2.1 dX0_fire_53 rfl (lv_at hl 1 rfl) ?_
    refine gf_X0_114 S hK hP 0 (4 + i) rfl (hw_pot (by omega)) rfl dX0_fire_54 ?_
    refine lv_iconst (v := 1) S.1 S.2.1 dX0_fire_57 (by decide) ?_
    refine lv_iadd S.1 S.2.1 dX0_fire_58 ?_
    refine lv_sipush (v := 9999) S.1 S.2.1 dX0_fire_59 (by decide) ?_
    refine va_mmin S.1 S.2.1 (S.2.2.1.trans hl.1.symm) S.2.2.2.1 (S.2.2.2.2 _ (List.mem_cons_of_mem _ mk_X0_70)) (S.2.2.2.2 _ (List.mem_cons_of_mem _ sk_JMmin)) (S.2.2.2.2 _ (List.mem_cons_of_mem _ nk_J9)) (S.2.2.2.2 _ (List.mem_cons_of_mem _ ck_JMmin)) (Nat.le_of_ble_eq_true rfl) (Nat.le_of_ble_eq_true rfl) (Nat.zero_le _) (Nat.zero_le _) dX0_fire_62 ?_
    refine pf_X0_114 S hK hP hD hS 0 (4 + i) rfl (hw_pot (by omega)) (Nat.le_of_ble_eq_true rfl) (hs_p6 (by omega)) (Bs1 := [hillsW E ad (upd r (21 + 7 * i + 6) (if 9999 < ((r (21 + 7 * i + 6)) + 1) then 9999 else ((r (21 + 7 * i + 6)) + 1)))]) rfl dX0_fire_65 (fun H locs hP hD hS => ?_)
    obtain ⟨r_65, er_65⟩ : ∃ z, z = upd r (21 + 7 * i + 6) (if 9999 < ((r (21 + 7 * i + 6)) + 1) then 9999 else ((r (21 + 7 * i + 6)) + 1)) := ⟨_, rfl⟩
    rw [← er_65] at hP hD
    refine lv_aload_n S.1 S.2.1 dX0_fire_68 rfl (lv_at hl 1 rfl) ?_
    refine lv_aload_n S.1 S.2.1 dX0_fire_69 rfl (lv_at hl 1 rfl) ?_
    refine gf_X0_86 S hK hP 0 (4 + i) rfl (hw_pot (by omega)) rfl dX0_fire_70 ?_
    refine lv_bipush (v := 15) S.1 S.2.1 dX0_fire_73 (by decide) ?_
    refine lv_iadd S.1 S.2.1 dX0_fire_75 ?_
    refine lv_bipush (v := 99) S.1 S.2.1 dX0_fire_76 (by decide) ?_
    refine va_mmin S.1 S.2.1 (S.2.2.1.trans hl.1.symm) S.2.2.2.1 (S.2.2.2.2 _ (List.mem_cons_of_mem _ mk_X0_70)) (S.2.2.2.2 _ (List.mem_cons_of_mem _ sk_JMmin)) (S.2.2.2.2 _ (List.mem_cons_of_mem _ nk_J9)) (S.2.2.2.2 _ (List.mem_cons_of_mem _ ck_JMmin)) (Nat.le_of_ble_eq_true rfl) (Nat.le_of_ble_eq_true rfl) (Nat.zero_le _) (Nat.zero_le _) dX0_fire_78 ?_
    refine pf_X0_86 S hK hP hD hS 0 (4 + i) rfl (hw_pot (by omega)) (Nat.le_of_ble_eq_true rfl) (hs_p1 (by omega)) (Bs1 := [hillsW E ad (upd r_65 (21 + 7 * i + 1) (if 99 < ((r_65 (21 + 7 * i + 1)) + 15) then 99 else ((r_65 (21 + 7 * i + 1)) + 15)))]) rfl dX0_fire_81 (fun H locs hP hD hS => ?_)
    obtain ⟨r_81, er_81⟩ : ∃ z, z = upd r_65 (21 + 7 * i + 1) (if 99 < ((r_65 (21 + 7 * i + 1)) + 15) then 99 else ((r_65 (21 + 7 * i + 1)) + 15)) := ⟨_, rfl⟩
    rw [← er_81] at hP hD
    refine lv_aload_n S.1 S.2.1 dX0_fire_84 rfl (lv_at hl 1 rfl) ?_
    refine lv_iconst (v := 0) S.1 S.2.1 dX0_fire_85 (by decide) ?_
    refine pf_X0_83 S hK hP hD hS 0 (4 + i) rfl (hw_pot (by omega)) (Nat.le_of_ble_eq_true rfl) (hs_p3 (by omega)) (Bs1 := [hillsW E ad (upd r_81 (21 + 7 * i + 3) 0)]) rfl dX0_fire_86 (fun H locs hP hD hS => ?_)
    obtain ⟨r_86, er_86⟩ : ∃ z, z = upd r_81 (21 + 7 * i + 3) 0 := ⟨_, rfl⟩
    rw [← er_86] at hP hD
    exact retV S hr hlk (by have e9 : fireF r i = r_86 := (by unfold fireF fireE fireD fireC fireB fireA needsR tintR fetchesR mn; subst_vars; first | (simp only [c_4, ↓reduceIte]; done) | (simp only [c_4, ↓reduceIte]; rfl)); rw [e9]; exact hP) hS dX0_fire_89
  · refine lv_aload_n S.1 S.2.1 dX0_fire_7 rfl (lv_at hl 1 rfl) ?_
    refine lv_aload_n S.1 S.2.1 dX0_fire_8 rfl (lv_at hl 1 rfl) ?_
    refine go_S (run_V (As := []) (rest := [.ref (ad (4 + i))]) (n := 0) S hK (cell_P hP (b := 0) (j := (4 + i)) rfl (hw_pot (by omega))) cell_D (c_X1_tint l E (ad (4 + i)) (r (21 + 7 * i)) (r (21 + 7 * i + 1)) (r (21 + 7 * i + 2)) (r (21 + 7 * i + 3)) (r (21 + 7 * i + 4)) (r (21 + 7 * i + 5)) (r (21 + 7 * i + 6))) gV_X0_102 (by decide +kernel) rfl ⟨rfl, rfl⟩ ⟨Nat.le_of_ble_eq_true rfl, Nat.le_of_ble_eq_true rfl⟩ (ci := 1) (q0 := 0) rfl rfl hl.1 (Nat.le_of_ble_eq_true rfl) dX0_fire_9 ⟨Nat.zero_le _, Nat.zero_le _⟩) ?_
    refine pf_X0_105 S hK hP hD hS 0 (4 + i) rfl (hw_pot (by omega)) (Nat.le_of_ble_eq_true rfl) (hs_p4 (by omega)) (Bs1 := [hillsW E ad (upd r (21 + 7 * i + 4) (tintV (r (21 + 7 * i)) (r (21 + 7 * i + 1)) (r (21 + 7 * i + 3))))]) rfl dX0_fire_12 (fun H locs hP hD hS => ?_)
    obtain ⟨r_12, er_12⟩ : ∃ z, z = upd r (21 + 7 * i + 4) (tintV (r (21 + 7 * i)) (r (21 + 7 * i + 1)) (r (21 + 7 * i + 3))) := ⟨_, rfl⟩
    rw [← er_12] at hP hD
    refine lv_aload_n S.1 S.2.1 dX0_fire_15 rfl (lv_at hl 1 rfl) ?_
    refine lv_aload_n S.1 S.2.1 dX0_fire_16 rfl (lv_at hl 1 rfl) ?_
    refine gf_X0_108 S hK hP 0 (4 + i) rfl (hw_pot (by omega)) rfl dX0_fire_17 ?_
    refine lv_iconst (v := 1) S.1 S.2.1 dX0_fire_20 (by decide) ?_
    refine lv_iadd S.1 S.2.1 dX0_fire_21 ?_
    refine lv_sipush (v := 9999) S.1 S.2.1 dX0_fire_22 (by decide) ?_
    refine va_mmin S.1 S.2.1 (S.2.2.1.trans hl.1.symm) S.2.2.2.1 (S.2.2.2.2 _ (List.mem_cons_of_mem _ mk_X0_70)) (S.2.2.2.2 _ (List.mem_cons_of_mem _ sk_JMmin)) (S.2.2.2.2 _ (List.mem_cons_of_mem _ nk_J9)) (S.2.2.2.2 _ (List.mem_cons_of_mem _ ck_JMmin)) (Nat.le_of_ble_eq_true rfl) (Nat.le_of_ble_eq_true rfl) (Nat.zero_le _) (Nat.zero_le _) dX0_fire_25 ?_
    refine pf_X0_108 S hK hP hD hS 0 (4 + i) rfl (hw_pot (by omega)) (Nat.le_of_ble_eq_true rfl) (hs_p5 (by omega)) (Bs1 := [hillsW E ad (upd r_12 (21 + 7 * i + 5) (if 9999 < ((r_12 (21 + 7 * i + 5)) + 1) then 9999 else ((r_12 (21 + 7 * i + 5)) + 1)))]) rfl dX0_fire_28 (fun H locs hP hD hS => ?_)
    obtain ⟨r_28, er_28⟩ : ∃ z, z = upd r_12 (21 + 7 * i + 5) (if 9999 < ((r_12 (21 + 7 * i + 5)) + 1) then 9999 else ((r_12 (21 + 7 * i + 5)) + 1)) := ⟨_, rfl⟩
    rw [← er_28] at hP hD
    refine lv_aload_n S.1 S.2.1 dX0_fire_31 rfl (lv_at hl 0 rfl) ?_
    refine lv_aload_n S.1 S.2.1 dX0_fire_32 rfl (lv_at hl 0 rfl) ?_
    refine gf_X0_31 S hK hP 0 0 rfl rfl rfl dX0_fire_33 ?_
    refine lv_aload_n S.1 S.2.1 dX0_fire_36 rfl (lv_at hl 1 rfl) ?_
    refine go_S (run_V (As := []) (rest := [.int (r_28 4), .ref (ad 0)]) (n := 0) S hK (cell_P hP (b := 0) (j := (4 + i)) rfl (hw_pot (by omega))) cell_D (c_X1_fetches l E (ad (4 + i)) (r_28 (21 + 7 * i)) (r_28 (21 + 7 * i + 1)) (r_28 (21 + 7 * i + 2)) (r_28 (21 + 7 * i + 3)) (r_28 (21 + 7 * i + 4)) (r_28 (21 + 7 * i + 5)) (r_28 (21 + 7 * i + 6))) gV_X0_111 (by decide +kernel) rfl ⟨rfl, rfl⟩ ⟨Nat.le_of_ble_eq_true rfl, Nat.le_of_ble_eq_true rfl⟩ (ci := 1) (q0 := 0) rfl rfl hl.1 (Nat.le_of_ble_eq_true rfl) dX0_fire_37 ⟨Nat.zero_le _, Nat.zero_le _⟩) ?_
    refine lv_iadd S.1 S.2.1 dX0_fire_40 ?_
    refine lv_ldc (v := 99999) S.1 S.2.1 S.2.2.2.1 (S.2.2.2.2 _ (List.mem_cons_of_mem _ kk_X0_69)) dX0_fire_41 ?_
    refine va_mmin S.1 S.2.1 (S.2.2.1.trans hl.1.symm) S.2.2.2.1 (S.2.2.2.2 _ (List.mem_cons_of_mem _ mk_X0_70)) (S.2.2.2.2 _ (List.mem_cons_of_mem _ sk_JMmin)) (S.2.2.2.2 _ (List.mem_cons_of_mem _ nk_J9)) (S.2.2.2.2 _ (List.mem_cons_of_mem _ ck_JMmin)) (Nat.le_of_ble_eq_true rfl) (Nat.le_of_ble_eq_true rfl) (Nat.zero_le _) (Nat.zero_le _) dX0_fire_43 ?_
    refine pf_X0_31 S hK hP hD hS 0 0 rfl rfl (Nat.le_of_ble_eq_true rfl) hs_4 (Bs1 := [hillsW E ad (upd r_28 4 (if 99999 < ((r_28 4) + (fetchesV (r_28 (21 + 7 * i)) (r_28 (21 + 7 * i + 4)))) then 99999 else ((r_28 4) + (fetchesV (r_28 (21 + 7 * i)) (r_28 (21 + 7 * i + 4))))))]) rfl dX0_fire_46 (fun H locs hP hD hS => ?_)
    obtain ⟨r_46, er_46⟩ : ∃ z, z = upd r_28 4 (if 99999 < ((r_28 4) + (fetchesV (r_28 (21 + 7 * i)) (r_28 (21 + 7 * i + 4)))) then 99999 else ((r_28 4) + (fetchesV (r_28 (21 + 7 * i)) (r_28 (21 + 7 * i + 4))))) := ⟨_, rfl⟩
    rw [← er_46] at hP hD
    refine lv_goto (tgt := 84) S.1 S.2.1 dX0_fire_49 (by decide) ?_
    refine lv_aload_n S.1 S.2.1 dX0_fire_84 rfl (lv_at hl 1 rfl) ?_
    refine lv_iconst (v := 0) S.1 S.2.1 dX0_fire_85 (by decide) ?_
    refine pf_X0_83 S hK hP hD hS 0 (4 + i) rfl (hw_pot (by omega)) (Nat.le_of_ble_eq_true rfl) (hs_p3 (by omega)) (Bs1 := [hillsW E ad (upd r_46 (21 + 7 * i + 3) 0)]) rfl dX0_fire_86 (fun H locs hP hD hS => ?_)
    obtain ⟨r_86_1, er_86_1⟩ : ∃ z, z = upd r_46 (21 + 7 * i + 3) 0 := ⟨_, rfl⟩
    rw [← er_86_1] at hP hD
    exact retV S hr hlk (by have e9 : fireF r i = r_86_1 := (by unfold fireF fireE fireD fireC fireB fireA needsR tintR fetchesR mn; subst_vars; first | (simp only [c_4, ↓reduceIte]; done) | (simp only [c_4, ↓reduceIte]; rfl)); rw [e9]; exact hP) hS dX0_fire_89
set_option maxHeartbeats 4000000 in
set_option maxRecDepth 100000 in
theorem c_X0_passDay (l : Launch) (E : EV) (ad : Nat → Nat) (r : Row) (n : Nat) (d : Nat) (hn : r 1 = nI n) (hn8 : n ≤ 8) (hd : r 0 = nI d) (hd5 : d ≤ 99999) : Met l yX0_passDay (wq yX0_passDay cX0_passDay 3 none) ({ frames := 3, cells := 0, slots := 0, locals := 61 }) (preB E [.ref (ad 0)] [hillsW E ad r]) (qV E [hillsW E ad r] [hillsW E ad (dayF r)]) 0 0 (inB [hillsW E ad r]) := by
  refine M_mk RX0 (by decide) rfl (Nat.le_of_ble_eq_true rfl) ?_
  intro p e s m below meth c S hr hlk hK hP hD hS ls hl
  have hl : lv_has ls 3 [(0, .ref (ad 0))] := hl
  obtain ⟨H, hH⟩ : ∃ z, z = s.heap := ⟨_, rfl⟩
  obtain ⟨locs, hlocs⟩ : ∃ z : List Loc, z = [] := ⟨_, rfl⟩
  have hP : PE E [hillsW E ad r] H := by rw [hH]; exact hP
  have hS : va_S (inB [hillsW E ad r]) s.heap H locs := by rw [hH, hlocs]; exact hS
  show W p l e ({ frames := 3, cells := 0, slots := 0, locals := 61 }) s m ([.ref (ad 0)] : List Value).toArray below meth c s.heap [] 0 0 _ _
  suffices hgo : W p l e ({ frames := 3, cells := 0, slots := 0, locals := 61 }) s m ([.ref (ad 0)] : List Value).toArray below meth c H locs 0 0 (MQ below (qV E [hillsW E ad r] [hillsW E ad (dayF r)]) ([.ref (ad 0)] : List Value).toArray s 0 0 (inB [hillsW E ad r])) (F0 m 0 ls []) by rw [hH, hlocs] at hgo; exact hgo
  clear hH hlocs
  refine lv_aload_n S.1 S.2.1 dX0_passDay_0 rfl (lv_at hl 0 rfl) ?_
  refine go_S (run_V (As := []) (rest := []) (n := 0) S hK (bl_P hP [0] rfl) (bl_D hD [0] rfl rfl) (c_X0_weatherOfDay l E ad r d hd hd5) gV_X0_58 (by decide +kernel) rfl ⟨rfl, rfl⟩ ⟨Nat.le_of_ble_eq_true rfl, Nat.le_of_ble_eq_true rfl⟩ (ci := 0) (q0 := 0) rfl rfl hl.1 (Nat.le_of_ble_eq_true rfl) dX0_passDay_1 ⟨Nat.zero_le _, Nat.zero_le _⟩) ?_
  refine lv_istore_n (lv' := [(1, .int (wthr r)), (0, .ref (ad 0))]) S.1 S.2.1 dX0_passDay_4 rfl hl (by decide) rfl (fun ls hl => ?_)
  refine lv_iconst (v := 0) S.1 S.2.1 dX0_passDay_5 (by decide) ?_
  refine lv_istore_n (lv' := [(2, .int 0), (1, .int (wthr r)), (0, .ref (ad 0))]) S.1 S.2.1 dX0_passDay_6 rfl hl (by decide) rfl (fun ls hl => ?_)
  have L_7 : ∀ (fu : Nat) (i : Nat) (ri : Row), (i ≤ n) → (n < i + fu) → (ri = gathN r (wthr r) i) → (ri 1 = nI n) → (ri 0 = nI d) → ∀ (H : Heap) (locs : List Loc), PE E [hillsW E ad ri] H → DE (inB [hillsW E ad r]) [hillsW E ad ri] → va_S (inB [hillsW E ad r]) s.heap H locs → ∀ (ls : Array Slot), lv_has ls 3 [(0, .ref (ad 0)), (1, .int (wthr r)), (2, .int (nI i))] → W p l e ({ frames := 3, cells := 0, slots := 0, locals := 61 }) s m ([.ref (ad 0)] : List Value).toArray below meth c H locs 0 0 (MQ below (qV E [hillsW E ad r] [hillsW E ad (dayF r)]) ([.ref (ad 0)] : List Value).toArray s 0 0 (inB [hillsW E ad r])) (F0 m 7 ls []) := by
    intro fu
    induction fu with
    | zero =>
      intro i ri hi hf hri hn1 hd1
      omega
    | succ fu ih_7 =>
      intro i ri hi hf hri hn1 hd1 H locs hP hD hS ls hl
      refine lv_iload_n S.1 S.2.1 dX0_passDay_7 rfl (lv_at hl 2 rfl) ?_
      refine lv_aload_n S.1 S.2.1 dX0_passDay_8 rfl (lv_at hl 0 rfl) ?_
      refine gf_X0_24 S hK hP 0 0 rfl rfl (congrArg (fun z => some (Value.int z)) hn1) dX0_passDay_9 ?_
      refine lv_icmp_ge (tgt := 32) S.1 S.2.1 dX0_passDay_12 (by decide) (fun c_12 => ?_) (fun c_12 => ?_)
      · have n_12 := Int32.not_lt.mpr c_12
        have hi9 : i = n := le_end hi c_12 hn8
        refine lv_aload_n S.1 S.2.1 dX0_passDay_32 rfl (lv_at hl 0 rfl) ?_
        refine gf_X0_34 S hK hP 0 0 rfl rfl (congrArg (fun z => some (Value.int z)) hd1) dX0_passDay_33 ?_
        refine lv_bipush (v := 7) S.1 S.2.1 dX0_passDay_36 (by decide) ?_
        refine lv_irem S.1 S.2.1 dX0_passDay_38 (by decide) ?_
        refine lv_eqi (y := nI (d % 7)) (pk_rem (a := d) (d := 7) (by omega) (by decide) (by decide)) ?_
        refine lv_bipush (v := 6) S.1 S.2.1 dX0_passDay_39 (by decide) ?_
        refine lv_icmp_ne (tgt := 70) S.1 S.2.1 dX0_passDay_41 (by decide) (fun c_41 => ?_) (fun c_41 => ?_)
        · have hmod : ¬ d % 7 = 6 := fun q => c_41 (by rw [q]; rfl)
          refine lv_aload_n S.1 S.2.1 dX0_passDay_70 rfl (lv_at hl 0 rfl) ?_
          refine lv_aload_n S.1 S.2.1 dX0_passDay_71 rfl (lv_at hl 0 rfl) ?_
          refine gf_X0_34 S hK hP 0 0 rfl rfl (congrArg (fun z => some (Value.int z)) hd1) dX0_passDay_72 ?_
          refine lv_iconst (v := 1) S.1 S.2.1 dX0_passDay_75 (by decide) ?_
          refine lv_iadd S.1 S.2.1 dX0_passDay_76 ?_
          refine lv_eqi (y := nI (d + 1)) (nI_add d 1) ?_
          refine lv_ldc (v := 99999) S.1 S.2.1 S.2.2.2.1 (S.2.2.2.2 _ (List.mem_cons_of_mem _ kk_X0_69)) dX0_passDay_77 ?_
          refine va_mmin S.1 S.2.1 (S.2.2.1.trans hl.1.symm) S.2.2.2.1 (S.2.2.2.2 _ (List.mem_cons_of_mem _ mk_X0_70)) (S.2.2.2.2 _ (List.mem_cons_of_mem _ sk_JMmin)) (S.2.2.2.2 _ (List.mem_cons_of_mem _ nk_J9)) (S.2.2.2.2 _ (List.mem_cons_of_mem _ ck_JMmin)) (Nat.le_of_ble_eq_true rfl) (Nat.le_of_ble_eq_true rfl) (Nat.zero_le _) (Nat.zero_le _) dX0_passDay_79 ?_
          refine pf_X0_34 S hK hP hD hS 0 0 rfl rfl (Nat.le_of_ble_eq_true rfl) hs_0 (Bs1 := [hillsW E ad (upd ri 0 (if 99999 < (nI (d + 1)) then 99999 else (nI (d + 1))))]) rfl dX0_passDay_82 (fun H locs hP hD hS => ?_)
          obtain ⟨r_82, er_82⟩ : ∃ z, z = upd ri 0 (if 99999 < (nI (d + 1)) then 99999 else (nI (d + 1))) := ⟨_, rfl⟩
          rw [← er_82] at hP hD
          have hr_82_1 : r_82 1 = nI n := by rw [er_82]; exact (upd_ne (by omega)).trans hn1
          exact retV S hr hlk (by have e9 : dayF r = r_82 := (by unfold dayF dayEnd; rw [cntN_eq hn hn8, dayN_eq hd hd5, if_neg hmod, show gathN r (wthr r) n = ri by rw [hri, hi9], hd1, nI_1, er_82]; rfl); rw [e9]; exact hP) hS dX0_passDay_85
        · have hmod : d % 7 = 6 := (nI_eq (by omega) (by omega)).mp c_41
          refine lv_iconst (v := 0) S.1 S.2.1 dX0_passDay_44 (by decide) ?_
          refine lv_istore_n (lv' := [(2, .int 0), (0, .ref (ad 0)), (1, .int (wthr r))]) S.1 S.2.1 dX0_passDay_45 rfl hl (by decide) rfl (fun ls hl => ?_)
          have L_46 : ∀ (fu : Nat) (k : Nat) (rk : Row), (k ≤ n) → (n < k + fu) → (rk = fireN (gathN r (wthr r) n) k) → (rk 1 = nI n) → (rk 0 = nI d) → ∀ (H : Heap) (locs : List Loc), PE E [hillsW E ad rk] H → DE (inB [hillsW E ad r]) [hillsW E ad rk] → va_S (inB [hillsW E ad r]) s.heap H locs → ∀ (ls : Array Slot), lv_has ls 3 [(0, .ref (ad 0)), (1, .int (wthr r)), (2, .int (nI k))] → W p l e ({ frames := 3, cells := 0, slots := 0, locals := 61 }) s m ([.ref (ad 0)] : List Value).toArray below meth c H locs 0 0 (MQ below (qV E [hillsW E ad r] [hillsW E ad (dayF r)]) ([.ref (ad 0)] : List Value).toArray s 0 0 (inB [hillsW E ad r])) (F0 m 46 ls []) := by
            intro fu
            induction fu with
            | zero =>
              intro k rk hk hg hrk hn2 hd2
              omega
            | succ fu ih_46 =>
              intro k rk hk hg hrk hn2 hd2 H locs hP hD hS ls hl
              refine lv_iload_n S.1 S.2.1 dX0_passDay_46 rfl (lv_at hl 2 rfl) ?_
              refine lv_aload_n S.1 S.2.1 dX0_passDay_47 rfl (lv_at hl 0 rfl) ?_
              refine gf_X0_24 S hK hP 0 0 rfl rfl (congrArg (fun z => some (Value.int z)) hn2) dX0_passDay_48 ?_
              refine lv_icmp_ge (tgt := 70) S.1 S.2.1 dX0_passDay_51 (by decide) (fun c_51 => ?_) (fun c_51 => ?_)
              · have n_51 := Int32.not_lt.mpr c_51
                have hk9 : k = n := le_end hk c_51 hn8
                refine lv_aload_n S.1 S.2.1 dX0_passDay_70 rfl (lv_at hl 0 rfl) ?_
                refine lv_aload_n S.1 S.2.1 dX0_passDay_71 rfl (lv_at hl 0 rfl) ?_
                refine gf_X0_34 S hK hP 0 0 rfl rfl (congrArg (fun z => some (Value.int z)) hd2) dX0_passDay_72 ?_
                refine lv_iconst (v := 1) S.1 S.2.1 dX0_passDay_75 (by decide) ?_
                refine lv_iadd S.1 S.2.1 dX0_passDay_76 ?_
                refine lv_eqi (y := nI (d + 1)) (nI_add d 1) ?_
                refine lv_ldc (v := 99999) S.1 S.2.1 S.2.2.2.1 (S.2.2.2.2 _ (List.mem_cons_of_mem _ kk_X0_69)) dX0_passDay_77 ?_
                refine va_mmin S.1 S.2.1 (S.2.2.1.trans hl.1.symm) S.2.2.2.1 (S.2.2.2.2 _ (List.mem_cons_of_mem _ mk_X0_70)) (S.2.2.2.2 _ (List.mem_cons_of_mem _ sk_JMmin)) (S.2.2.2.2 _ (List.mem_cons_of_mem _ nk_J9)) (S.2.2.2.2 _ (List.mem_cons_of_mem _ ck_JMmin)) (Nat.le_of_ble_eq_true rfl) (Nat.le_of_ble_eq_true rfl) (Nat.zero_le _) (Nat.zero_le _) dX0_passDay_79 ?_
                refine pf_X0_34 S hK hP hD hS 0 0 rfl rfl (Nat.le_of_ble_eq_true rfl) hs_0 (Bs1 := [hillsW E ad (upd rk 0 (if 99999 < (nI (d + 1)) then 99999 else (nI (d + 1))))]) rfl dX0_passDay_82 (fun H locs hP hD hS => ?_)
                obtain ⟨r_82_1, er_82_1⟩ : ∃ z, z = upd rk 0 (if 99999 < (nI (d + 1)) then 99999 else (nI (d + 1))) := ⟨_, rfl⟩
                rw [← er_82_1] at hP hD
                have hr_82_1_1 : r_82_1 1 = nI n := by rw [er_82_1]; exact (upd_ne (by omega)).trans hn2
                exact retV S hr hlk (by have e9 : dayF r = r_82_1 := (by unfold dayF dayEnd; rw [cntN_eq hn hn8, dayN_eq hd hd5, if_pos hmod, show fireN (gathN r (wthr r) n) n = rk by rw [hrk, hk9], hd2, nI_1, er_82_1]; rfl); rw [e9]; exact hP) hS dX0_passDay_85
              · have n_51 := Int32.not_le.mp c_51
                have hk2 : k < n := lt_in c_51 hk
                refine lv_aload_n S.1 S.2.1 dX0_passDay_54 rfl (lv_at hl 0 rfl) ?_
                refine lv_aload_n S.1 S.2.1 dX0_passDay_55 rfl (lv_at hl 0 rfl) ?_
                refine gf_X0_17 S hK hP 0 0 rfl rfl rfl dX0_passDay_56 ?_
                refine lv_iload_n S.1 S.2.1 dX0_passDay_59 rfl (lv_at hl 2 rfl) ?_
                refine b_aaldN (i := k) S hK hP 2 0 2 rfl rfl rfl (by omega) (by decide) (v := ad (4 + k)) rfl dX0_passDay_60 ?_
                refine go_V (run_V (As := [.ref (ad (4 + k))]) (rest := []) (n := 1) S hK (bl_P hP [0] rfl) (bl_D hD [0] rfl rfl) (c_X0_fire l E ad rk k  (by omega)) gV_X0_66 (by decide +kernel) rfl ⟨rfl, rfl⟩ ⟨Nat.le_of_ble_eq_true rfl, Nat.le_of_ble_eq_true rfl⟩ (ci := 0) (q0 := 0) rfl rfl hl.1 (Nat.le_of_ble_eq_true rfl) dX0_passDay_61 ⟨Nat.zero_le _, Nat.zero_le _⟩) hP hD hS [0] rfl (had_cons hw_ad rfl) (Bs' := [hillsW E ad (fireF rk k)]) rfl (fun H locs hP hD hS => ?_)
                obtain ⟨r_61, er_61⟩ : ∃ z, z = fireF rk k := ⟨_, rfl⟩
                rw [← er_61] at hP hD
                have hr_61_1 : r_61 1 = nI n := by rw [er_61]; exact (fireF_lo (by decide)).trans hn2
                have hr_61_0 : r_61 0 = nI d := by rw [er_61]; exact (fireF_lo (by decide)).trans hd2
                refine lv_iinc (v := nI (k + 1)) (lv' := [(2, .int (nI (k + 1))), (0, .ref (ad 0)), (1, .int (wthr r))]) S.1 S.2.1 dX0_passDay_64 hl (k := 2) rfl (nI_1 k) (by decide) rfl (fun ls hl => ?_)
                refine lv_goto (tgt := 46) S.1 S.2.1 dX0_passDay_67 (by decide) ?_
                exact ih_46 (k + 1) r_61 (by omega) (by omega) (by rw [er_61, hrk]; rfl) hr_61_1 hr_61_0 H locs hP hD hS ls (lv_sub hl [1, 2, 0] rfl)
          exact L_46 (n + 1) 0 ri (by omega) (by omega) (by rw [hri, show i = n by omega]; rfl) hn1 hd1 H locs hP hD hS ls (lv_sub hl [1, 2, 0] rfl)
      · have n_12 := Int32.not_le.mp c_12
        have hi2 : i < n := lt_in c_12 hi
        refine lv_aload_n S.1 S.2.1 dX0_passDay_15 rfl (lv_at hl 0 rfl) ?_
        refine lv_aload_n S.1 S.2.1 dX0_passDay_16 rfl (lv_at hl 0 rfl) ?_
        refine gf_X0_17 S hK hP 0 0 rfl rfl rfl dX0_passDay_17 ?_
        refine lv_iload_n S.1 S.2.1 dX0_passDay_20 rfl (lv_at hl 2 rfl) ?_
        refine b_aaldN (i := i) S hK hP 2 0 2 rfl rfl rfl (by omega) (by decide) (v := ad (4 + i)) rfl dX0_passDay_21 ?_
        refine lv_iload_n S.1 S.2.1 dX0_passDay_22 rfl (lv_at hl 1 rfl) ?_
        refine go_V (run_V (As := [.ref (ad (4 + i)), .int (wthr r)]) (rest := []) (n := 2) S hK (bl_P hP [0] rfl) (bl_D hD [0] rfl rfl) (c_X0_gather l E ad ri i (wthr r) (by omega)) gV_X0_62 (by decide +kernel) rfl ⟨rfl, rfl⟩ ⟨Nat.le_of_ble_eq_true rfl, Nat.le_of_ble_eq_true rfl⟩ (ci := 0) (q0 := 0) rfl rfl hl.1 (Nat.le_of_ble_eq_true rfl) dX0_passDay_23 ⟨Nat.zero_le _, Nat.zero_le _⟩) hP hD hS [0] rfl (had_cons hw_ad rfl) (Bs' := [hillsW E ad (gatherF ri i (wthr r))]) rfl (fun H locs hP hD hS => ?_)
        obtain ⟨r_23, er_23⟩ : ∃ z, z = gatherF ri i (wthr r) := ⟨_, rfl⟩
        rw [← er_23] at hP hD
        have hr_23_1 : r_23 1 = nI n := by rw [er_23]; exact (gatherF_lo (by decide)).trans hn1
        have hr_23_0 : r_23 0 = nI d := by rw [er_23]; exact (gatherF_lo (by decide)).trans hd1
        refine lv_iinc (v := nI (i + 1)) (lv' := [(2, .int (nI (i + 1))), (0, .ref (ad 0)), (1, .int (wthr r))]) S.1 S.2.1 dX0_passDay_26 hl (k := 2) rfl (nI_1 i) (by decide) rfl (fun ls hl => ?_)
        refine lv_goto (tgt := 7) S.1 S.2.1 dX0_passDay_29 (by decide) ?_
        exact ih_7 (i + 1) r_23 (by omega) (by omega) (by rw [er_23, hri]; rfl) hr_23_1 hr_23_0 H locs hP hD hS ls (lv_sub hl [1, 2, 0] rfl)
  exact L_7 (n + 1) 0 r (by omega) (by omega) rfl hn hd H locs hP hD hS ls (lv_sub hl [2, 1, 0] rfl)
