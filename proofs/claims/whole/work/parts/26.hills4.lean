def addF (r : Row) (v w : Int32) : Row := upd (putP r (cntN r) (beginVs v w)) 1 (nI (cntN r + 1))
theorem c_X0_passDay9 (l : Launch) (E : EV) (ad : Nat → Nat) (r : Row) (h : RI r) : Met l yX0_passDay (wq yX0_passDay cX0_passDay 3 none) ({ frames := 3, cells := 0, slots := 0, locals := 61 }) (preB E [.ref (ad 0)] [hillsW E ad r]) (qV E [hillsW E ad r] [hillsW E ad (dayF r)]) 0 0 (inB [hillsW E ad r]) := by
  obtain ⟨n, d, h1, h2, h3, h4, -⟩ := h
  exact c_X0_passDay l E ad r n d h1 h2 h3 h4
theorem drawV_nat (r : Row) : ∃ z : Nat, z < 16777216 ∧ drawV r = nI z := by
  refine ⟨(drawF r 2).toBitVec.toNat / 2 ^ 8, ?_, ?_⟩
  · have := (drawF r 2).toBitVec.isLt
    omega
  · apply Int32.toBitVec_inj.mp
    apply BitVec.eq_of_toNat_eq
    have hlt : (drawF r 2).toBitVec.toNat / 2 ^ 8 < 2 ^ 32 := by have := (drawF r 2).toBitVec.isLt; omega
    unfold drawV
    rw [pk_ushr _ 8 8 (by decide), pk_tn hlt]
def stormA (r : Row) : Row := upd (drawF r) (5 + dayN r % 6) (drawV r - drawV r / 100 * 100)
def stormP (r : Row) : Row := if (drawV (stormA r)).toNatClampNeg % 8 < cntN r then upd (drawF (stormA r)) (21 + 7 * ((drawV (stormA r)).toNatClampNeg % 8) + 2) 9 else drawF (stormA r)
def stormF (r : Row) : Row := dayF (stormP r)
set_option maxHeartbeats 4000000 in
set_option maxRecDepth 100000 in
theorem c_X0_become (l : Launch) (E : EV) (ad ad2 : Nat → Nat) (r r2 : Row) (n : Nat) (hn : r2 1 = nI n) (hn8 : n ≤ 8) : Met l yX0_become (wq yX0_become cX0_become 3 none) ({ frames := 1, cells := 0, slots := 0, locals := 26 }) (preB E [.ref (ad 0), .ref (ad2 0)] [hillsW E ad r, hillsW E ad2 r2]) (qV E [hillsW E ad r, hillsW E ad2 r2] [hillsW E ad (becF r r2), hillsW E ad2 r2]) 0 0 (inB [hillsW E ad r, hillsW E ad2 r2]) := by
  refine M_mk RX0 (by decide) rfl (Nat.le_of_ble_eq_true rfl) ?_
  intro p e s m below meth c S hr hlk hK hP hD hS ls hl
  have hl : lv_has ls 3 [(0, .ref (ad 0)), (1, .ref (ad2 0))] := hl
  obtain ⟨H, hH⟩ : ∃ z, z = s.heap := ⟨_, rfl⟩
  obtain ⟨locs, hlocs⟩ : ∃ z : List Loc, z = [] := ⟨_, rfl⟩
  have hP : PE E [hillsW E ad r, hillsW E ad2 r2] H := by rw [hH]; exact hP
  have hS : va_S (inB [hillsW E ad r, hillsW E ad2 r2]) s.heap H locs := by rw [hH, hlocs]; exact hS
  show W p l e ({ frames := 1, cells := 0, slots := 0, locals := 26 }) s m ([.ref (ad 0), .ref (ad2 0)] : List Value).toArray below meth c s.heap [] 0 0 _ _
  suffices hgo : W p l e ({ frames := 1, cells := 0, slots := 0, locals := 26 }) s m ([.ref (ad 0), .ref (ad2 0)] : List Value).toArray below meth c H locs 0 0 (MQ below (qV E [hillsW E ad r, hillsW E ad2 r2] [hillsW E ad (becF r r2), hillsW E ad2 r2]) ([.ref (ad 0), .ref (ad2 0)] : List Value).toArray s 0 0 (inB [hillsW E ad r, hillsW E ad2 r2])) (F0 m 0 ls []) by rw [hH, hlocs] at hgo; exact hgo
  clear hH hlocs
  refine lv_aload_n S.1 S.2.1 dX0_become_0 rfl (lv_at hl 1 rfl) ?_
  refine gf_X0_9 S hK hP 1 0 rfl rfl rfl dX0_become_1 ?_
  refine lv_iconst (v := 0) S.1 S.2.1 dX0_become_4 (by decide) ?_
  refine lv_aload_n S.1 S.2.1 dX0_become_5 rfl (lv_at hl 0 rfl) ?_
  refine gf_X0_9 S hK hP 0 0 rfl rfl rfl dX0_become_6 ?_
  refine lv_iconst (v := 0) S.1 S.2.1 dX0_become_9 (by decide) ?_
  refine lv_bipush (v := 6) S.1 S.2.1 dX0_become_10 (by decide) ?_
  refine b_copyi (n := 6) (dp := 0) (sp := 0) S hl.1 hK hP hD hS mk_X0_41 1 1 0 1 rfl rfl rfl rfl (by omega) (by omega) (by decide) (by decide) hs_cpl (Bs1 := [hillsW E ad (cpF r r2 5 6), hillsW E ad2 r2]) rfl (Nat.le_of_ble_eq_true rfl) (Nat.le_of_ble_eq_true rfl) dX0_become_12 (fun H locs hP hD hS => ?_)
  obtain ⟨r_12, er_12⟩ : ∃ z, z = cpF r r2 5 6 := ⟨_, rfl⟩
  rw [← er_12] at hP hD
  refine lv_aload_n S.1 S.2.1 dX0_become_15 rfl (lv_at hl 1 rfl) ?_
  refine gf_X0_21 S hK hP 1 0 rfl rfl rfl dX0_become_16 ?_
  refine lv_iconst (v := 0) S.1 S.2.1 dX0_become_19 (by decide) ?_
  refine lv_aload_n S.1 S.2.1 dX0_become_20 rfl (lv_at hl 0 rfl) ?_
  refine gf_X0_21 S hK hP 0 0 rfl rfl rfl dX0_become_21 ?_
  refine lv_iconst (v := 0) S.1 S.2.1 dX0_become_24 (by decide) ?_
  refine lv_bipush (v := 10) S.1 S.2.1 dX0_become_25 (by decide) ?_
  refine b_copyi (n := 10) (dp := 0) (sp := 0) S hl.1 hK hP hD hS mk_X0_41 1 3 0 3 rfl rfl rfl rfl (by omega) (by omega) (by decide) (by decide) hs_cps (Bs1 := [hillsW E ad (cpF r_12 r2 11 10), hillsW E ad2 r2]) rfl (Nat.le_of_ble_eq_true rfl) (Nat.le_of_ble_eq_true rfl) dX0_become_27 (fun H locs hP hD hS => ?_)
  obtain ⟨r_27, er_27⟩ : ∃ z, z = cpF r_12 r2 11 10 := ⟨_, rfl⟩
  rw [← er_27] at hP hD
  refine lv_aload_n S.1 S.2.1 dX0_become_30 rfl (lv_at hl 0 rfl) ?_
  refine lv_aload_n S.1 S.2.1 dX0_become_31 rfl (lv_at hl 1 rfl) ?_
  refine gf_X0_24 S hK hP 1 0 rfl rfl (congrArg (fun z => some (Value.int z)) hn) dX0_become_32 ?_
  refine pf_X0_24 S hK hP hD hS 0 0 rfl rfl (Nat.le_of_ble_eq_true rfl) hs_1 (Bs1 := [hillsW E ad (upd r_27 1 (nI n)), hillsW E ad2 r2]) rfl dX0_become_35 (fun H locs hP hD hS => ?_)
  obtain ⟨r_35, er_35⟩ : ∃ z, z = upd r_27 1 (nI n) := ⟨_, rfl⟩
  rw [← er_35] at hP hD
  refine lv_iconst (v := 0) S.1 S.2.1 dX0_become_38 (by decide) ?_
  refine lv_istore_n (lv' := [(2, .int 0), (0, .ref (ad 0)), (1, .ref (ad2 0))]) S.1 S.2.1 dX0_become_39 rfl hl (by decide) rfl (fun ls hl => ?_)
  have hc0 : r_35 1 = nI n := by rw [er_35]; exact upd_at.trans rfl
  have L_40 : ∀ (fu : Nat) (i : Nat) (ri : Row), (i ≤ n) → (n < i + fu) → (ri = cpF r_35 r2 21 (7 * i)) → (ri 1 = nI n) → ∀ (H : Heap) (locs : List Loc), PE E [hillsW E ad ri, hillsW E ad2 r2] H → DE (inB [hillsW E ad r, hillsW E ad2 r2]) [hillsW E ad ri, hillsW E ad2 r2] → va_S (inB [hillsW E ad r, hillsW E ad2 r2]) s.heap H locs → ∀ (ls : Array Slot), lv_has ls 3 [(0, .ref (ad 0)), (1, .ref (ad2 0)), (2, .int (nI i))] → W p l e ({ frames := 1, cells := 0, slots := 0, locals := 26 }) s m ([.ref (ad 0), .ref (ad2 0)] : List Value).toArray below meth c H locs 0 0 (MQ below (qV E [hillsW E ad r, hillsW E ad2 r2] [hillsW E ad (becF r r2), hillsW E ad2 r2]) ([.ref (ad 0), .ref (ad2 0)] : List Value).toArray s 0 0 (inB [hillsW E ad r, hillsW E ad2 r2])) (F0 m 40 ls []) := by
    intro fu
    induction fu with
    | zero =>
      intro i ri hi hf hri hn1
      omega
    | succ fu ih_40 =>
      intro i ri hi hf hri hn1 H locs hP hD hS ls hl
      refine lv_iload_n S.1 S.2.1 dX0_become_40 rfl (lv_at hl 2 rfl) ?_
      refine lv_aload_n S.1 S.2.1 dX0_become_41 rfl (lv_at hl 0 rfl) ?_
      refine gf_X0_24 S hK hP 0 0 rfl rfl (congrArg (fun z => some (Value.int z)) hn1) dX0_become_42 ?_
      refine lv_icmp_ge (tgt := 69) S.1 S.2.1 dX0_become_45 (by decide) (fun c_45 => ?_) (fun c_45 => ?_)
      · have n_45 := Int32.not_lt.mpr c_45
        have hi9 : i = n := le_end hi c_45 hn8
        refine lv_aload_n S.1 S.2.1 dX0_become_69 rfl (lv_at hl 0 rfl) ?_
        refine lv_aload_n S.1 S.2.1 dX0_become_70 rfl (lv_at hl 1 rfl) ?_
        refine gf_X0_28 S hK hP 1 0 rfl rfl rfl dX0_become_71 ?_
        refine pf_X0_28 S hK hP hD hS 0 0 rfl rfl (Nat.le_of_ble_eq_true rfl) hs_3 (Bs1 := [hillsW E ad (upd ri 3 (r2 3)), hillsW E ad2 r2]) rfl dX0_become_74 (fun H locs hP hD hS => ?_)
        obtain ⟨r_74, er_74⟩ : ∃ z, z = upd ri 3 (r2 3) := ⟨_, rfl⟩
        rw [← er_74] at hP hD
        have hr_74_1 : r_74 1 = nI n := by rw [er_74]; exact (upd_ne (by omega)).trans hn1
        refine lv_aload_n S.1 S.2.1 dX0_become_77 rfl (lv_at hl 0 rfl) ?_
        refine lv_aload_n S.1 S.2.1 dX0_become_78 rfl (lv_at hl 1 rfl) ?_
        refine gf_X0_31 S hK hP 1 0 rfl rfl rfl dX0_become_79 ?_
        refine pf_X0_31 S hK hP hD hS 0 0 rfl rfl (Nat.le_of_ble_eq_true rfl) hs_4 (Bs1 := [hillsW E ad (upd r_74 4 (r2 4)), hillsW E ad2 r2]) rfl dX0_become_82 (fun H locs hP hD hS => ?_)
        obtain ⟨r_82, er_82⟩ : ∃ z, z = upd r_74 4 (r2 4) := ⟨_, rfl⟩
        rw [← er_82] at hP hD
        have hr_82_1 : r_82 1 = nI n := by rw [er_82]; exact (upd_ne (by omega)).trans hr_74_1
        refine lv_aload_n S.1 S.2.1 dX0_become_85 rfl (lv_at hl 0 rfl) ?_
        refine lv_aload_n S.1 S.2.1 dX0_become_86 rfl (lv_at hl 1 rfl) ?_
        refine gf_X0_34 S hK hP 1 0 rfl rfl rfl dX0_become_87 ?_
        refine pf_X0_34 S hK hP hD hS 0 0 rfl rfl (Nat.le_of_ble_eq_true rfl) hs_0 (Bs1 := [hillsW E ad (upd r_82 0 (r2 0)), hillsW E ad2 r2]) rfl dX0_become_90 (fun H locs hP hD hS => ?_)
        obtain ⟨r_90, er_90⟩ : ∃ z, z = upd r_82 0 (r2 0) := ⟨_, rfl⟩
        rw [← er_90] at hP hD
        have hr_90_1 : r_90 1 = nI n := by rw [er_90]; exact (upd_ne (by omega)).trans hr_82_1
        refine lv_aload_n S.1 S.2.1 dX0_become_93 rfl (lv_at hl 0 rfl) ?_
        refine lv_aload_n S.1 S.2.1 dX0_become_94 rfl (lv_at hl 1 rfl) ?_
        refine gf_X0_37 S hK hP 1 0 rfl rfl rfl dX0_become_95 ?_
        refine pf_X0_37 S hK hP hD hS 0 0 rfl rfl (Nat.le_of_ble_eq_true rfl) hs_2 (Bs1 := [hillsW E ad (upd r_90 2 (r2 2)), hillsW E ad2 r2]) rfl dX0_become_98 (fun H locs hP hD hS => ?_)
        obtain ⟨r_98, er_98⟩ : ∃ z, z = upd r_90 2 (r2 2) := ⟨_, rfl⟩
        rw [← er_98] at hP hD
        have hr_98_1 : r_98 1 = nI n := by rw [er_98]; exact (upd_ne (by omega)).trans hr_90_1
        exact retV S hr hlk (by rw [show becF r r2 = r_98 by rw [← becF_eq (cntN_eq hn hn8), er_98, er_90, er_82, er_74, hri, hi9, er_35, er_27, er_12, hn]]; exact hP) hS dX0_become_101
      · have n_45 := Int32.not_le.mp c_45
        have hi2 : i < n := lt_in c_45 hi
        refine lv_aload_n S.1 S.2.1 dX0_become_48 rfl (lv_at hl 0 rfl) ?_
        refine gf_X0_17 S hK hP 0 0 rfl rfl rfl dX0_become_49 ?_
        refine lv_iload_n S.1 S.2.1 dX0_become_52 rfl (lv_at hl 2 rfl) ?_
        refine b_aaldN (i := i) S hK hP 2 0 2 rfl rfl rfl (by omega) (by decide) (v := ad (4 + i)) rfl dX0_become_53 ?_
        refine lv_aload_n S.1 S.2.1 dX0_become_54 rfl (lv_at hl 1 rfl) ?_
        refine gf_X0_17 S hK hP 1 0 rfl rfl rfl dX0_become_55 ?_
        refine lv_iload_n S.1 S.2.1 dX0_become_58 rfl (lv_at hl 2 rfl) ?_
        refine b_aaldN (i := i) S hK hP 2 1 2 rfl rfl rfl (by omega) (by decide) (v := ad2 (4 + i)) rfl dX0_become_59 ?_
        refine go_Vc2 (run_V (As := [.ref (ad2 (4 + i))]) (rest := []) (n := 1) S hK (cell2_P hP (b := 0) (j := (4 + i)) (b2 := 1) (j2 := (4 + i)) rfl (hw_pot (by omega)) rfl (hw_pot (by omega))) (cell2_D hD (b := 0) (j := (4 + i)) (b2 := 1) (j2 := (4 + i)) rfl (hw_pot (by omega)) rfl (hw_pot (by omega)) (by decide)) (c_X1_become l E (ad (4 + i)) (ri (21 + 7 * i)) (ri (21 + 7 * i + 1)) (ri (21 + 7 * i + 2)) (ri (21 + 7 * i + 3)) (ri (21 + 7 * i + 4)) (ri (21 + 7 * i + 5)) (ri (21 + 7 * i + 6)) (ad2 (4 + i)) (r2 (21 + 7 * i)) (r2 (21 + 7 * i + 1)) (r2 (21 + 7 * i + 2)) (r2 (21 + 7 * i + 3)) (r2 (21 + 7 * i + 4)) (r2 (21 + 7 * i + 5)) (r2 (21 + 7 * i + 6))) gV_X0_47 (by decide +kernel) rfl ⟨rfl, rfl⟩ ⟨Nat.le_of_ble_eq_true rfl, Nat.le_of_ble_eq_true rfl⟩ (ci := 1) (q0 := 0) rfl rfl hl.1 (Nat.le_of_ble_eq_true rfl) dX0_become_60 ⟨Nat.zero_le _, Nat.zero_le _⟩) hP hD hS (b := 0) (j := (4 + i)) (b2 := 1) (j2 := (4 + i)) rfl (hw_pot (by omega)) rfl (hw_pot (by omega)) (hs_all (vs := fun f => r2 (21 + 7 * i + f)) (by omega)) (Bs' := [hillsW E ad (putP ri i (fun f => r2 (21 + 7 * i + f))), hillsW E ad2 r2]) rfl (fun H locs hP hD hS => ?_)
        obtain ⟨r_60, er_60⟩ : ∃ z, z = putP ri i (fun f => r2 (21 + 7 * i + f)) := ⟨_, rfl⟩
        rw [← er_60] at hP hD
        have hr_60_1 : r_60 1 = nI n := by rw [er_60]; exact (putP_ne (by omega)).trans hn1
        refine lv_iinc (v := nI (i + 1)) (lv' := [(2, .int (nI (i + 1))), (0, .ref (ad 0)), (1, .ref (ad2 0))]) S.1 S.2.1 dX0_become_63 hl (k := 2) rfl (nI_1 i) (by decide) rfl (fun ls hl => ?_)
        refine lv_goto (tgt := 40) S.1 S.2.1 dX0_become_66 (by decide) ?_
        exact ih_40 (i + 1) r_60 (by omega) (by omega) (by rw [er_60, hri, cpF_step]) hr_60_1 H locs hP hD hS ls (lv_sub hl [1, 2, 0] rfl)
  exact L_40 (n + 1) 0 r_35 (by omega) (by omega) cpF_0.symm hc0 H locs hP hD hS ls (lv_sub hl [1, 2, 0] rfl)
set_option maxHeartbeats 4000000 in
set_option maxRecDepth 100000 in
theorem c_X0_addPotter (l : Launch) (E : EV) (ad : Nat → Nat) (r : Row) (v w : Int32) (n : Nat) (hn : r 1 = nI n) (hn8 : n < 8) : Met l yX0_addPotter (wq yX0_addPotter cX0_addPotter 4 (some .int)) ({ frames := 1, cells := 0, slots := 0, locals := 22 }) (preB E [.ref (ad 0), .int v, .int w] [hillsW E ad r]) (qI E [hillsW E ad r] [hillsW E ad (addF r v w)] (nI (cntN r))) 0 0 (inB [hillsW E ad r]) := by
  refine M_mk RX0 (by decide) rfl (Nat.le_of_ble_eq_true rfl) ?_
  intro p e s m below meth c S hr hlk hK hP hD hS ls hl
  have hl : lv_has ls 4 [(0, .ref (ad 0)), (1, .int v), (2, .int w)] := hl
  obtain ⟨H, hH⟩ : ∃ z, z = s.heap := ⟨_, rfl⟩
  obtain ⟨locs, hlocs⟩ : ∃ z : List Loc, z = [] := ⟨_, rfl⟩
  have hP : PE E [hillsW E ad r] H := by rw [hH]; exact hP
  have hS : va_S (inB [hillsW E ad r]) s.heap H locs := by rw [hH, hlocs]; exact hS
  show W p l e ({ frames := 1, cells := 0, slots := 0, locals := 22 }) s m ([.ref (ad 0), .int v, .int w] : List Value).toArray below meth c s.heap [] 0 0 _ _
  suffices hgo : W p l e ({ frames := 1, cells := 0, slots := 0, locals := 22 }) s m ([.ref (ad 0), .int v, .int w] : List Value).toArray below meth c H locs 0 0 (MQ below (qI E [hillsW E ad r] [hillsW E ad (addF r v w)] (nI (cntN r))) ([.ref (ad 0), .int v, .int w] : List Value).toArray s 0 0 (inB [hillsW E ad r])) (F0 m 0 ls []) by rw [hH, hlocs] at hgo; exact hgo
  clear hH hlocs
  refine lv_aload_n S.1 S.2.1 dX0_addPotter_0 rfl (lv_at hl 0 rfl) ?_
  refine gf_X0_24 S hK hP 0 0 rfl rfl (congrArg (fun z => some (Value.int z)) hn) dX0_addPotter_1 ?_
  refine lv_istore_n (lv' := [(3, .int (nI n)), (0, .ref (ad 0)), (1, .int v), (2, .int w)]) S.1 S.2.1 dX0_addPotter_4 rfl hl (by decide) rfl (fun ls hl => ?_)
  refine lv_aload_n S.1 S.2.1 dX0_addPotter_5 rfl (lv_at hl 1 rfl) ?_
  refine gf_X0_17 S hK hP 0 0 rfl rfl rfl dX0_addPotter_6 ?_
  refine lv_iload_n S.1 S.2.1 dX0_addPotter_9 rfl (lv_at hl 0 rfl) ?_
  refine b_aaldN (i := n) S hK hP 2 0 2 rfl rfl rfl (by omega) (by decide) (v := ad (4 + n)) rfl dX0_addPotter_10 ?_
  refine lv_iload_n S.1 S.2.1 dX0_addPotter_11 rfl (lv_at hl 2 rfl) ?_
  refine lv_iload_n S.1 S.2.1 dX0_addPotter_12 rfl (lv_at hl 3 rfl) ?_
  refine go_Vc (run_V (As := [.int v, .int w]) (rest := []) (n := 2) S hK (cell_P hP (b := 0) (j := (4 + n)) rfl (hw_pot (by omega))) cell_D (c_X1_begin l E (ad (4 + n)) (r (21 + 7 * n)) (r (21 + 7 * n + 1)) (r (21 + 7 * n + 2)) (r (21 + 7 * n + 3)) (r (21 + 7 * n + 4)) (r (21 + 7 * n + 5)) (r (21 + 7 * n + 6)) v w) gV_X0_51 (by decide +kernel) rfl ⟨rfl, rfl⟩ ⟨Nat.le_of_ble_eq_true rfl, Nat.le_of_ble_eq_true rfl⟩ (ci := 1) (q0 := 0) rfl rfl hl.1 (Nat.le_of_ble_eq_true rfl) dX0_addPotter_13 ⟨Nat.zero_le _, Nat.zero_le _⟩) hP hD hS (b := 0) (j := (4 + n)) rfl (hw_pot (by omega)) (hs_all (vs := beginVs v w) (by omega)) (Bs' := [hillsW E ad (putP r n (beginVs v w))]) rfl (fun H locs hP hD hS => ?_)
  obtain ⟨r_13, er_13⟩ : ∃ z, z = putP r n (beginVs v w) := ⟨_, rfl⟩
  rw [← er_13] at hP hD
  have hr_13_1 : r_13 1 = nI n := by rw [er_13]; exact (putP_ne (by omega)).trans hn
  refine lv_aload_n S.1 S.2.1 dX0_addPotter_16 rfl (lv_at hl 1 rfl) ?_
  refine lv_dup S.1 S.2.1 dX0_addPotter_17 rfl ?_
  refine gf_X0_24 S hK hP 0 0 rfl rfl (congrArg (fun z => some (Value.int z)) hr_13_1) dX0_addPotter_18 ?_
  refine lv_iconst (v := 1) S.1 S.2.1 dX0_addPotter_21 (by decide) ?_
  refine lv_iadd S.1 S.2.1 dX0_addPotter_22 ?_
  refine lv_eqi (y := nI (n + 1)) (nI_add n 1) ?_
  refine pf_X0_24 S hK hP hD hS 0 0 rfl rfl (Nat.le_of_ble_eq_true rfl) hs_1 (Bs1 := [hillsW E ad (upd r_13 1 (nI (n + 1)))]) rfl dX0_addPotter_23 (fun H locs hP hD hS => ?_)
  obtain ⟨r_23, er_23⟩ : ∃ z, z = upd r_13 1 (nI (n + 1)) := ⟨_, rfl⟩
  rw [← er_23] at hP hD
  have hr_23_1 : r_23 1 = nI (n + 1) := by rw [er_23]; exact upd_at
  refine lv_iload_n S.1 S.2.1 dX0_addPotter_26 rfl (lv_at hl 0 rfl) ?_
  exact retI S hr hlk (by rw [show addF r v w = r_23 by (unfold addF; rw [cntN_eq hn (by omega), er_23, er_13])]; exact hP) hS (by rw [cntN_eq hn (by omega)]) dX0_addPotter_27
set_option maxHeartbeats 4000000 in
set_option maxRecDepth 100000 in
theorem c_X0_passDays (l : Launch) (E : EV) (ad : Nat → Nat) (r : Row) (n : Nat) (hn : n < 2147483648) (hR : RI r) : Met l yX0_passDays (wq yX0_passDays cX0_passDays 3 none) ({ frames := 4, cells := 0, slots := 0, locals := 83 }) (preB E [.ref (ad 0), .int (nI n)] [hillsW E ad r]) (qV E [hillsW E ad r] [hillsW E ad (daysF r n)]) 0 0 (inB [hillsW E ad r]) := by
  refine M_mk RX0 (by decide) rfl (Nat.le_of_ble_eq_true rfl) ?_
  intro p e s m below meth c S hr hlk hK hP hD hS ls hl
  have hl : lv_has ls 3 [(0, .ref (ad 0)), (1, .int (nI n))] := hl
  obtain ⟨H, hH⟩ : ∃ z, z = s.heap := ⟨_, rfl⟩
  obtain ⟨locs, hlocs⟩ : ∃ z : List Loc, z = [] := ⟨_, rfl⟩
  have hP : PE E [hillsW E ad r] H := by rw [hH]; exact hP
  have hS : va_S (inB [hillsW E ad r]) s.heap H locs := by rw [hH, hlocs]; exact hS
  show W p l e ({ frames := 4, cells := 0, slots := 0, locals := 83 }) s m ([.ref (ad 0), .int (nI n)] : List Value).toArray below meth c s.heap [] 0 0 _ _
  suffices hgo : W p l e ({ frames := 4, cells := 0, slots := 0, locals := 83 }) s m ([.ref (ad 0), .int (nI n)] : List Value).toArray below meth c H locs 0 0 (MQ below (qV E [hillsW E ad r] [hillsW E ad (daysF r n)]) ([.ref (ad 0), .int (nI n)] : List Value).toArray s 0 0 (inB [hillsW E ad r])) (F0 m 0 ls []) by rw [hH, hlocs] at hgo; exact hgo
  clear hH hlocs
  refine lv_iconst (v := 0) S.1 S.2.1 dX0_passDays_0 (by decide) ?_
  refine lv_istore_n (lv' := [(2, .int 0), (0, .ref (ad 0)), (1, .int (nI n))]) S.1 S.2.1 dX0_passDays_1 rfl hl (by decide) rfl (fun ls hl => ?_)
  have L_2 : ∀ (fu : Nat) (i : Nat) (ri : Row), (i ≤ n) → (n < i + fu) → (ri = daysF r i) → (RI ri) → ∀ (H : Heap) (locs : List Loc), PE E [hillsW E ad ri] H → DE (inB [hillsW E ad r]) [hillsW E ad ri] → va_S (inB [hillsW E ad r]) s.heap H locs → ∀ (ls : Array Slot), lv_has ls 3 [(0, .ref (ad 0)), (1, .int (nI n)), (2, .int (nI i))] → W p l e ({ frames := 4, cells := 0, slots := 0, locals := 83 }) s m ([.ref (ad 0), .int (nI n)] : List Value).toArray below meth c H locs 0 0 (MQ below (qV E [hillsW E ad r] [hillsW E ad (daysF r n)]) ([.ref (ad 0), .int (nI n)] : List Value).toArray s 0 0 (inB [hillsW E ad r])) (F0 m 2 ls []) := by
    intro fu
    induction fu with
    | zero =>
      intro i ri hi hf hri hR1
      omega
    | succ fu ih_2 =>
      intro i ri hi hf hri hR1 H locs hP hD hS ls hl
      refine lv_iload_n S.1 S.2.1 dX0_passDays_2 rfl (lv_at hl 2 rfl) ?_
      refine lv_iload_n S.1 S.2.1 dX0_passDays_3 rfl (lv_at hl 1 rfl) ?_
      refine lv_icmp_ge (tgt := 17) S.1 S.2.1 dX0_passDays_4 (by decide) (fun c_4 => ?_) (fun c_4 => ?_)
      · have n_4 := Int32.not_lt.mpr c_4
        have hi9 : i = n := le_endK hi c_4 hn
        exact retV S hr hlk (by rw [← hi9, ← hri]; exact hP) hS dX0_passDays_17
      · have n_4 := Int32.not_le.mp c_4
        have hi2 : i < n := lt_in c_4 hi
        refine lv_aload_n S.1 S.2.1 dX0_passDays_7 rfl (lv_at hl 0 rfl) ?_
        refine go_V (run_V (As := []) (rest := []) (n := 0) S hK (bl_P hP [0] rfl) (bl_D hD [0] rfl rfl) (c_X0_passDay9 l E ad ri hR1) gV_X0_55 (by decide +kernel) rfl ⟨rfl, rfl⟩ ⟨Nat.le_of_ble_eq_true rfl, Nat.le_of_ble_eq_true rfl⟩ (ci := 0) (q0 := 0) rfl rfl hl.1 (Nat.le_of_ble_eq_true rfl) dX0_passDays_8 ⟨Nat.zero_le _, Nat.zero_le _⟩) hP hD hS [0] rfl (had_cons hw_ad rfl) (Bs' := [hillsW E ad (dayF ri)]) rfl (fun H locs hP hD hS => ?_)
        obtain ⟨r_8, er_8⟩ : ∃ z, z = dayF ri := ⟨_, rfl⟩
        rw [← er_8] at hP hD
        have hr_8 : RI r_8 := by rw [er_8]; exact dayF_RI hR1
        refine lv_iinc (v := nI (i + 1)) (lv' := [(2, .int (nI (i + 1))), (0, .ref (ad 0)), (1, .int (nI n))]) S.1 S.2.1 dX0_passDays_11 hl (k := 2) rfl (nI_1 i) (by decide) rfl (fun ls hl => ?_)
        refine lv_goto (tgt := 2) S.1 S.2.1 dX0_passDays_14 (by decide) ?_
        exact ih_2 (i + 1) r_8 (by omega) (by omega) (by rw [er_8, hri]; rfl) hr_8 H locs hP hD hS ls (lv_sub hl [1, 2, 0] rfl)
  exact L_2 (n + 1) 0 r (by omega) (by omega) rfl hR H locs hP hD hS ls (lv_sub hl [1, 2, 0] rfl)
set_option maxHeartbeats 4000000 in
set_option maxRecDepth 100000 in
theorem c_X0_storm (l : Launch) (E : EV) (ad : Nat → Nat) (r : Row) (hR : RI r) : Met l yX0_storm (wq yX0_storm cX0_storm 2 none) ({ frames := 4, cells := 0, slots := 0, locals := 83 }) (preB E [.ref (ad 0)] [hillsW E ad r]) (qV E [hillsW E ad r] [hillsW E ad (stormF r)]) 0 0 (inB [hillsW E ad r]) := by
  refine M_mk RX0 (by decide) rfl (Nat.le_of_ble_eq_true rfl) ?_
  intro p e s m below meth c S hr hlk hK hP hD hS ls hl
  have hl : lv_has ls 2 [(0, .ref (ad 0))] := hl
  obtain ⟨n, d, hn, hn8, hd, hd5, -⟩ := id hR
  obtain ⟨H, hH⟩ : ∃ z, z = s.heap := ⟨_, rfl⟩
  obtain ⟨locs, hlocs⟩ : ∃ z : List Loc, z = [] := ⟨_, rfl⟩
  have hP : PE E [hillsW E ad r] H := by rw [hH]; exact hP
  have hS : va_S (inB [hillsW E ad r]) s.heap H locs := by rw [hH, hlocs]; exact hS
  show W p l e ({ frames := 4, cells := 0, slots := 0, locals := 83 }) s m ([.ref (ad 0)] : List Value).toArray below meth c s.heap [] 0 0 _ _
  suffices hgo : W p l e ({ frames := 4, cells := 0, slots := 0, locals := 83 }) s m ([.ref (ad 0)] : List Value).toArray below meth c H locs 0 0 (MQ below (qV E [hillsW E ad r] [hillsW E ad (stormF r)]) ([.ref (ad 0)] : List Value).toArray s 0 0 (inB [hillsW E ad r])) (F0 m 0 ls []) by rw [hH, hlocs] at hgo; exact hgo
  clear hH hlocs
  refine lv_aload_n S.1 S.2.1 dX0_storm_0 rfl (lv_at hl 0 rfl) ?_
  refine gf_X0_9 S hK hP 0 0 rfl rfl rfl dX0_storm_1 ?_
  refine lv_aload_n S.1 S.2.1 dX0_storm_4 rfl (lv_at hl 0 rfl) ?_
  refine gf_X0_34 S hK hP 0 0 rfl rfl (congrArg (fun z => some (Value.int z)) hd) dX0_storm_5 ?_
  refine lv_bipush (v := 6) S.1 S.2.1 dX0_storm_8 (by decide) ?_
  refine lv_irem S.1 S.2.1 dX0_storm_10 (by decide) ?_
  refine lv_eqi (y := nI (d % 6)) (pk_rem (a := d) (d := 6) (by omega) (by decide) (by decide)) ?_
  refine lv_aload_n S.1 S.2.1 dX0_storm_11 rfl (lv_at hl 0 rfl) ?_
  refine go_I (run_V (As := []) (rest := [.int (nI (d % 6)), .ref (ad 1)]) (n := 0) S hK (bl_P hP [0] rfl) (bl_D hD [0] rfl rfl) (c_X0_draw l E ad r) gV_X0_117 (by decide +kernel) rfl ⟨rfl, rfl⟩ ⟨Nat.le_of_ble_eq_true rfl, Nat.le_of_ble_eq_true rfl⟩ (ci := 0) (q0 := 0) rfl rfl hl.1 (Nat.le_of_ble_eq_true rfl) dX0_storm_12 ⟨Nat.zero_le _, Nat.zero_le _⟩) hP hD hS [0] rfl (had_cons hw_ad rfl) (Bs' := [hillsW E ad (drawF r)]) rfl (fun H locs hP hD hS => ?_)
  obtain ⟨r_12, er_12⟩ : ∃ z, z = drawF r := ⟨_, rfl⟩
  rw [← er_12] at hP hD
  have hr_12_1 : r_12 1 = nI n := by rw [er_12]; exact (upd_ne (by omega)).trans hn
  have hr_12_0 : r_12 0 = nI d := by rw [er_12]; exact (upd_ne (by omega)).trans hd
  obtain ⟨z_12, hz_12, ez_12⟩ := drawV_nat r
  refine lv_eqi ez_12 ?_
  refine lv_bipush (v := 100) S.1 S.2.1 dX0_storm_15 (by decide) ?_
  refine lv_irem S.1 S.2.1 dX0_storm_17 (by decide) ?_
  refine lv_eqi (y := nI (z_12 % 100)) (pk_rem (a := z_12) (d := 100) (by omega) (by decide) (by decide)) ?_
  refine b_iastN (i := d % 6) S hK hP hD hS 0 1 rfl rfl (by omega) (by decide) (hs_list (by omega)) (Bs1 := [hillsW E ad (upd r_12 (5 + (d % 6)) (nI (z_12 % 100)))]) rfl dX0_storm_18 (fun H locs hP hD hS => ?_)
  obtain ⟨r_18, er_18⟩ : ∃ z, z = upd r_12 (5 + (d % 6)) (nI (z_12 % 100)) := ⟨_, rfl⟩
  rw [← er_18] at hP hD
  have hr_18_1 : r_18 1 = nI n := by rw [er_18]; exact (upd_ne (by omega)).trans hr_12_1
  have hr_18_0 : r_18 0 = nI d := by rw [er_18]; exact (upd_ne (by omega)).trans hr_12_0
  refine lv_aload_n S.1 S.2.1 dX0_storm_19 rfl (lv_at hl 0 rfl) ?_
  refine go_I (run_V (As := []) (rest := []) (n := 0) S hK (bl_P hP [0] rfl) (bl_D hD [0] rfl rfl) (c_X0_draw l E ad r_18) gV_X0_117 (by decide +kernel) rfl ⟨rfl, rfl⟩ ⟨Nat.le_of_ble_eq_true rfl, Nat.le_of_ble_eq_true rfl⟩ (ci := 0) (q0 := 0) rfl rfl hl.1 (Nat.le_of_ble_eq_true rfl) dX0_storm_20 ⟨Nat.zero_le _, Nat.zero_le _⟩) hP hD hS [0] rfl (had_cons hw_ad rfl) (Bs' := [hillsW E ad (drawF r_18)]) rfl (fun H locs hP hD hS => ?_)
  obtain ⟨r_20, er_20⟩ : ∃ z, z = drawF r_18 := ⟨_, rfl⟩
  rw [← er_20] at hP hD
  have hr_20_1 : r_20 1 = nI n := by rw [er_20]; exact (upd_ne (by omega)).trans hr_18_1
  have hr_20_0 : r_20 0 = nI d := by rw [er_20]; exact (upd_ne (by omega)).trans hr_18_0
  obtain ⟨z_20, hz_20, ez_20⟩ := drawV_nat r_18
  refine lv_eqi ez_20 ?_
  refine lv_bipush (v := 8) S.1 S.2.1 dX0_storm_23 (by decide) ?_
  refine lv_irem S.1 S.2.1 dX0_storm_25 (by decide) ?_
  refine lv_eqi (y := nI (z_20 % 8)) (pk_rem (a := z_20) (d := 8) (by omega) (by decide) (by decide)) ?_
  refine lv_istore_n (lv' := [(1, .int (nI (z_20 % 8))), (0, .ref (ad 0))]) S.1 S.2.1 dX0_storm_26 rfl hl (by decide) rfl (fun ls hl => ?_)
  refine lv_iload_n S.1 S.2.1 dX0_storm_27 rfl (lv_at hl 0 rfl) ?_
  refine lv_aload_n S.1 S.2.1 dX0_storm_28 rfl (lv_at hl 1 rfl) ?_
  refine gf_X0_24 S hK hP 0 0 rfl rfl (congrArg (fun z => some (Value.int z)) hr_20_1) dX0_storm_29 ?_
  refine lv_icmp_ge (tgt := 46) S.1 S.2.1 dX0_storm_32 (by decide) (fun c_32 => ?_) (fun c_32 => ?_)
  · have n_32 := Int32.not_lt.mpr c_32
    have hz9 : ¬ z_20 % 8 < n := fun q => nI_ge q (by omega) c_32
    have hq20 : RI r_20 := by (rw [er_20, er_18, er_12]; exact RI_2 (RI_list (RI_2 hR) (Nat.mod_lt _ (by decide)) ⟨_, Nat.le_of_lt_succ (Nat.mod_lt _ (by decide)), rfl⟩))
    have hRs49 : RI r_20 := hq20
    refine lv_aload_n S.1 S.2.1 dX0_storm_46 rfl (lv_at hl 1 rfl) ?_
    refine go_V (run_V (As := []) (rest := []) (n := 0) S hK (bl_P hP [0] rfl) (bl_D hD [0] rfl rfl) (c_X0_passDay9 l E ad r_20 hRs49) gV_X0_55 (by decide +kernel) rfl ⟨rfl, rfl⟩ ⟨Nat.le_of_ble_eq_true rfl, Nat.le_of_ble_eq_true rfl⟩ (ci := 0) (q0 := 0) rfl rfl hl.1 (Nat.le_of_ble_eq_true rfl) dX0_storm_47 ⟨Nat.zero_le _, Nat.zero_le _⟩) hP hD hS [0] rfl (had_cons hw_ad rfl) (Bs' := [hillsW E ad (dayF r_20)]) rfl (fun H locs hP hD hS => ?_)
    obtain ⟨r_47, er_47⟩ : ∃ z, z = dayF r_20 := ⟨_, rfl⟩
    rw [← er_47] at hP hD
    have hr_47 : RI r_47 := by rw [er_47]; exact dayF_RI hRs49
    exact retV S hr hlk (by rw [show stormF r = r_47 by (unfold stormF stormP stormA; rw [dayN_eq hd hd5, cntN_eq hn hn8, ez_12, ← er_12, show nI z_12 - nI z_12 / 100 * 100 = nI (z_12 % 100) from pk_rem (a := z_12) (d := 100) (by omega) (by decide) (by decide), ← er_18, ez_20, ← er_20, nI_clamp (by omega)]; rw [if_neg hz9, er_47])]; exact hP) hS dX0_storm_50
  · have n_32 := Int32.not_le.mp c_32
    have hz9 : z_20 % 8 < n := by (rcases Nat.lt_or_ge (z_20 % 8) n with q | q; exact q; exact absurd (nI_le q (by omega)) c_32)
    refine lv_aload_n S.1 S.2.1 dX0_storm_35 rfl (lv_at hl 1 rfl) ?_
    refine gf_X0_17 S hK hP 0 0 rfl rfl rfl dX0_storm_36 ?_
    refine lv_iload_n S.1 S.2.1 dX0_storm_39 rfl (lv_at hl 0 rfl) ?_
    refine b_aaldN (i := z_20 % 8) S hK hP 2 0 2 rfl rfl rfl (by omega) (by decide) (v := ad (4 + (z_20 % 8))) rfl dX0_storm_40 ?_
    refine lv_bipush (v := 9) S.1 S.2.1 dX0_storm_41 (by decide) ?_
    refine pf_X0_120 S hK hP hD hS 0 (4 + (z_20 % 8)) rfl (hw_pot (by omega)) (Nat.le_of_ble_eq_true rfl) (hs_p2 (by omega)) (Bs1 := [hillsW E ad (upd r_20 (21 + 7 * (z_20 % 8) + 2) 9)]) rfl dX0_storm_43 (fun H locs hP hD hS => ?_)
    obtain ⟨r_43, er_43⟩ : ∃ z, z = upd r_20 (21 + 7 * (z_20 % 8) + 2) 9 := ⟨_, rfl⟩
    rw [← er_43] at hP hD
    have hr_43_1 : r_43 1 = nI n := by rw [er_43]; exact (upd_ne (by omega)).trans hr_20_1
    have hr_43_0 : r_43 0 = nI d := by rw [er_43]; exact (upd_ne (by omega)).trans hr_20_0
    have hq20 : RI r_20 := by (rw [er_20, er_18, er_12]; exact RI_2 (RI_list (RI_2 hR) (Nat.mod_lt _ (by decide)) ⟨_, Nat.le_of_lt_succ (Nat.mod_lt _ (by decide)), rfl⟩))
    have hRs69 : RI r_43 := by (rw [er_43]; exact RI_pf (f := 2) hq20 (by decide) ⟨9, by decide, rfl⟩)
    refine lv_aload_n S.1 S.2.1 dX0_storm_46 rfl (lv_at hl 1 rfl) ?_
    refine go_V (run_V (As := []) (rest := []) (n := 0) S hK (bl_P hP [0] rfl) (bl_D hD [0] rfl rfl) (c_X0_passDay9 l E ad r_43 hRs69) gV_X0_55 (by decide +kernel) rfl ⟨rfl, rfl⟩ ⟨Nat.le_of_ble_eq_true rfl, Nat.le_of_ble_eq_true rfl⟩ (ci := 0) (q0 := 0) rfl rfl hl.1 (Nat.le_of_ble_eq_true rfl) dX0_storm_47 ⟨Nat.zero_le _, Nat.zero_le _⟩) hP hD hS [0] rfl (had_cons hw_ad rfl) (Bs' := [hillsW E ad (dayF r_43)]) rfl (fun H locs hP hD hS => ?_)
    obtain ⟨r_47, er_47⟩ : ∃ z, z = dayF r_43 := ⟨_, rfl⟩
    rw [← er_47] at hP hD
    have hr_47 : RI r_47 := by rw [er_47]; exact dayF_RI hRs69
    exact retV S hr hlk (by rw [show stormF r = r_47 by (unfold stormF stormP stormA; rw [dayN_eq hd hd5, cntN_eq hn hn8, ez_12, ← er_12, show nI z_12 - nI z_12 / 100 * 100 = nI (z_12 % 100) from pk_rem (a := z_12) (d := 100) (by omega) (by decide) (by decide), ← er_18, ez_20, ← er_20, nI_clamp (by omega)]; rw [if_pos hz9, er_47, er_43])]; exact hP) hS dX0_storm_50
set_option maxHeartbeats 4000000 in
set_option maxRecDepth 100000 in
theorem c_X0_keepIn (l : Launch) (E : EV) (ad : Nat → Nat) (r : Row) (v : Int32) (n : Nat) (hn : r 1 = nI n) (hn8 : n ≤ 8) : Met l yX0_keepIn (wq yX0_keepIn cX0_keepIn 3 none) ({ frames := 0, cells := 0, slots := 0, locals := 0 }) (preB E [.ref (ad 0), .int v] [hillsW E ad r]) (qV E [hillsW E ad r] [hillsW E ad (keepR r v (cntN r))]) 0 0 (inB [hillsW E ad r]) := by
  refine M_mk RX0 (by decide) rfl (Nat.le_of_ble_eq_true rfl) ?_
  intro p e s m below meth c S hr hlk hK hP hD hS ls hl
  have hl : lv_has ls 3 [(0, .ref (ad 0)), (1, .int v)] := hl
  obtain ⟨H, hH⟩ : ∃ z, z = s.heap := ⟨_, rfl⟩
  obtain ⟨locs, hlocs⟩ : ∃ z : List Loc, z = [] := ⟨_, rfl⟩
  have hP : PE E [hillsW E ad r] H := by rw [hH]; exact hP
  have hS : va_S (inB [hillsW E ad r]) s.heap H locs := by rw [hH, hlocs]; exact hS
  show W p l e ({ frames := 0, cells := 0, slots := 0, locals := 0 }) s m ([.ref (ad 0), .int v] : List Value).toArray below meth c s.heap [] 0 0 _ _
  suffices hgo : W p l e ({ frames := 0, cells := 0, slots := 0, locals := 0 }) s m ([.ref (ad 0), .int v] : List Value).toArray below meth c H locs 0 0 (MQ below (qV E [hillsW E ad r] [hillsW E ad (keepR r v (cntN r))]) ([.ref (ad 0), .int v] : List Value).toArray s 0 0 (inB [hillsW E ad r])) (F0 m 0 ls []) by rw [hH, hlocs] at hgo; exact hgo
  clear hH hlocs
  refine lv_iconst (v := 0) S.1 S.2.1 dX0_keepIn_0 (by decide) ?_
  refine lv_istore_n (lv' := [(2, .int 0), (0, .ref (ad 0)), (1, .int v)]) S.1 S.2.1 dX0_keepIn_1 rfl hl (by decide) rfl (fun ls hl => ?_)
  have L_2 : ∀ (fu : Nat) (i : Nat) (ri : Row), (i ≤ n) → (n < i + fu) → (ri = keepR r v i) → (ri 1 = nI n) → ∀ (H : Heap) (locs : List Loc), PE E [hillsW E ad ri] H → DE (inB [hillsW E ad r]) [hillsW E ad ri] → va_S (inB [hillsW E ad r]) s.heap H locs → ∀ (ls : Array Slot), lv_has ls 3 [(0, .ref (ad 0)), (1, .int v), (2, .int (nI i))] → W p l e ({ frames := 0, cells := 0, slots := 0, locals := 0 }) s m ([.ref (ad 0), .int v] : List Value).toArray below meth c H locs 0 0 (MQ below (qV E [hillsW E ad r] [hillsW E ad (keepR r v (cntN r))]) ([.ref (ad 0), .int v] : List Value).toArray s 0 0 (inB [hillsW E ad r])) (F0 m 2 ls []) := by
    intro fu
    induction fu with
    | zero =>
      intro i ri hi hf hri hn1
      omega
    | succ fu ih_2 =>
      intro i ri hi hf hri hn1 H locs hP hD hS ls hl
      refine lv_iload_n S.1 S.2.1 dX0_keepIn_2 rfl (lv_at hl 2 rfl) ?_
      refine lv_aload_n S.1 S.2.1 dX0_keepIn_3 rfl (lv_at hl 0 rfl) ?_
      refine gf_X0_24 S hK hP 0 0 rfl rfl (congrArg (fun z => some (Value.int z)) hn1) dX0_keepIn_4 ?_
      refine lv_icmp_ge (tgt := 35) S.1 S.2.1 dX0_keepIn_7 (by decide) (fun c_7 => ?_) (fun c_7 => ?_)
      · have n_7 := Int32.not_lt.mpr c_7
        have hi9 : i = n := le_end hi c_7 hn8
        exact retV S hr hlk (by rw [cntN_eq hn hn8, ← hi9, ← hri]; exact hP) hS dX0_keepIn_35
      · have n_7 := Int32.not_le.mp c_7
        have hi2 : i < n := lt_in c_7 hi
        refine lv_iload_n S.1 S.2.1 dX0_keepIn_10 rfl (lv_at hl 1 rfl) ?_
        refine lv_iload_n S.1 S.2.1 dX0_keepIn_11 rfl (lv_at hl 2 rfl) ?_
        refine lv_ishr S.1 S.2.1 dX0_keepIn_12 ?_
        refine lv_iconst (v := 1) S.1 S.2.1 dX0_keepIn_13 (by decide) ?_
        refine lv_iand S.1 S.2.1 dX0_keepIn_14 ?_
        refine lv_iconst (v := 1) S.1 S.2.1 dX0_keepIn_15 (by decide) ?_
        refine lv_icmp_ne (tgt := 29) S.1 S.2.1 dX0_keepIn_16 (by decide) (fun c_16 => ?_) (fun c_16 => ?_)
        · refine lv_iinc (v := nI (i + 1)) (lv' := [(2, .int (nI (i + 1))), (0, .ref (ad 0)), (1, .int v)]) S.1 S.2.1 dX0_keepIn_29 hl (k := 2) rfl (nI_1 i) (by decide) rfl (fun ls hl => ?_)
          refine lv_goto (tgt := 2) S.1 S.2.1 dX0_keepIn_32 (by decide) ?_
          exact ih_2 (i + 1) ri (by omega) (by omega) (by rw [hri]; simp only [keepR, c_7, n_7, c_16, ↓reduceIte]) hn1 H locs hP hD hS ls (lv_sub hl [1, 2, 0] rfl)
        · refine lv_aload_n S.1 S.2.1 dX0_keepIn_19 rfl (lv_at hl 0 rfl) ?_
          refine gf_X0_17 S hK hP 0 0 rfl rfl rfl dX0_keepIn_20 ?_
          refine lv_iload_n S.1 S.2.1 dX0_keepIn_23 rfl (lv_at hl 2 rfl) ?_
          refine b_aaldN (i := i) S hK hP 2 0 2 rfl rfl rfl (by omega) (by decide) (v := ad (4 + i)) rfl dX0_keepIn_24 ?_
          refine lv_iconst (v := 0) S.1 S.2.1 dX0_keepIn_25 (by decide) ?_
          refine pf_X0_120 S hK hP hD hS 0 (4 + i) rfl (hw_pot (by omega)) (Nat.le_of_ble_eq_true rfl) (hs_p2 (by omega)) (Bs1 := [hillsW E ad (upd ri (21 + 7 * i + 2) 0)]) rfl dX0_keepIn_26 (fun H locs hP hD hS => ?_)
          obtain ⟨r_26, er_26⟩ : ∃ z, z = upd ri (21 + 7 * i + 2) 0 := ⟨_, rfl⟩
          rw [← er_26] at hP hD
          have hr_26_1 : r_26 1 = nI n := by rw [er_26]; exact (upd_ne (by omega)).trans hn1
          refine lv_iinc (v := nI (i + 1)) (lv' := [(2, .int (nI (i + 1))), (0, .ref (ad 0)), (1, .int v)]) S.1 S.2.1 dX0_keepIn_29 hl (k := 2) rfl (nI_1 i) (by decide) rfl (fun ls hl => ?_)
          refine lv_goto (tgt := 2) S.1 S.2.1 dX0_keepIn_32 (by decide) ?_
          exact ih_2 (i + 1) r_26 (by omega) (by omega) (by rw [er_26, hri]; simp only [keepR, c_7, n_7, eq_true c_16, ↓reduceIte]) hr_26_1 H locs hP hD hS ls (lv_sub hl [1, 2, 0] rfl)
  exact L_2 (n + 1) 0 r (by omega) (by omega) rfl hn H locs hP hD hS ls (lv_sub hl [1, 2, 0] rfl)
