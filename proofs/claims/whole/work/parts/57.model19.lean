def cpS (y : Row) (a b n : Nat) : Row := fun j => if b ≤ j ∧ j < b + n then y (a + (j - b)) else y j
theorem cpS_0 {y : Row} {a b : Nat} : cpS y a b 0 = y := funext fun j => if_neg (by omega)
theorem cpS_s {y : Row} {a b k : Nat} : upd (cpS y a b k) (b + k) (y (a + k)) = cpS y a b (k + 1) := funext fun j => by
  unfold upd cpS
  by_cases q : j = b + k
  · rw [if_pos q, if_pos (by omega), q, show b + k - b = k by omega]
  · rw [if_neg q]
    by_cases q2 : b ≤ j ∧ j < b + k
    · rw [if_pos q2, if_pos (by omega)]
    · rw [if_neg q2, if_neg (by omega)]
theorem mv_s {mi y : Row} {a k : Nat} (h : ∀ j, j < k → mi j = y (a + j)) {j : Nat} (hj : j < k + 1) : upd mi k (y (a + k)) j = y (a + j) := by
  unfold upd
  by_cases e : j = k
  · rw [if_pos e, e]
  · rw [if_neg e]; exact h j (by omega)
def cpP (u : Row) (s f t o n : Int32) : Prop := 0 ≤ f ∧ 0 ≤ o ∧ 0 ≤ n ∧ tN f + tN n ≤ tN (u (tN s)) ∧ tN o + tN n ≤ tN (u (tN t))
def rCopy (z u : Row) (s f t o n : Int32) : Res := if 0 ≤ s ∧ s ≤ 3 then (if 0 ≤ t ∧ t ≤ 3 then (if z (tN s) = 0 ∨ z (tN t) = 0 then .inl 5 else if z (tN s) = z (tN t) then (if 0 ≤ f ∧ 0 ≤ o ∧ 0 ≤ n ∧ tN f + tN n ≤ tN (u (tN s)) ∧ tN o + tN n ≤ tN (u (tN t)) then .inr (fun _ => 0, n) else .inl 0) else .inl 2) else .inl 0) else .inl 0
theorem cp_toInt {a : Nat} (h : a < 4294967296) : (lN a).toInt = (a : Int) := lg_ofNat_toInt (by omega)
theorem cp_cmp {a n L : Nat} (ha : a < 2147483648) (hn : n < 2147483648) (hL : L ≤ 40) : ((nI L).toInt64 < (nI a).toInt64 + (nI n).toInt64) ↔ L < a + n := by
  rw [nI_l ha, nI_l hn, nI_l (by omega), lN_add, Int64.lt_iff_toInt_lt, cp_toInt (by omega), cp_toInt (by omega)]
  omega
theorem cp_le {a n L : Nat} {x : Int32} (ha : a < 2147483648) (hn : n < 2147483648) (hL : L ≤ 40) (e : x = nI L) (h : ¬ 0 < lg_cmp ((nI a).toInt64 + (nI n).toInt64) x.toInt64) : a + n ≤ L := by
  subst e
  rw [lg_cmp_gt, cp_cmp ha hn hL] at h
  omega
theorem cp_le2 {a n L : Nat} {x : Int32} (ha : a < 2147483648) (hn : n < 2147483648) (hL : L ≤ 40) (e : x = nI L) (h : lg_cmp ((nI a).toInt64 + (nI n).toInt64) x.toInt64 ≤ 0) : a + n ≤ L := cp_le ha hn hL e (Int32.not_lt.mpr h)
theorem cp_in {u : Row} {s t a b c L1 L2 : Nat} {f o n : Int32} (ef : f = nI a) (eo : o = nI b) (en : n = nI c) (ha : a < 2147483648) (hb : b < 2147483648) (hc : c < 2147483648) (h1 : L1 ≤ 40) (h2 : L2 ≤ 40) (e1 : u s = nI L1) (e2 : u t = nI L2) (g1 : a + c ≤ L1) (g2 : b + c ≤ L2) : 0 ≤ f ∧ 0 ≤ o ∧ 0 ≤ n ∧ tN f + tN n ≤ tN (u s) ∧ tN o + tN n ≤ tN (u t) := by
  subst ef; subst eo; subst en
  rw [e1, e2, tN, tN, tN, tN, tN, nI_clamp ha, nI_clamp hb, nI_clamp hc, nI_clamp (by omega), nI_clamp (by omega)]
  exact ⟨nI_pos' ha, nI_pos' hb, nI_pos' hc, g1, g2⟩
theorem cp_out1 {u : Row} {s t a c L1 : Nat} {f o n : Int32} (ef : f = nI a) (en : n = nI c) (ha : a < 2147483648) (hc : c < 2147483648) (h1 : L1 ≤ 40) (e1 : u s = nI L1) (h : 0 < lg_cmp ((nI a).toInt64 + (nI c).toInt64) (u s).toInt64) : ¬ (0 ≤ f ∧ 0 ≤ o ∧ 0 ≤ n ∧ tN f + tN n ≤ tN (u s) ∧ tN o + tN n ≤ tN (u t)) := by
  subst ef; subst en
  rw [e1, lg_cmp_gt, cp_cmp ha hc h1] at h
  intro z
  have z1 := z.2.2.2.1
  rw [e1, tN, tN, tN, nI_clamp ha, nI_clamp hc, nI_clamp (by omega)] at z1
  omega
theorem cp_out2 {u : Row} {s t b c L2 : Nat} {f o n : Int32} (eo : o = nI b) (en : n = nI c) (hb : b < 2147483648) (hc : c < 2147483648) (h2 : L2 ≤ 40) (e2 : u t = nI L2) (h : ¬ lg_cmp ((nI b).toInt64 + (nI c).toInt64) (u t).toInt64 ≤ 0) : ¬ (0 ≤ f ∧ 0 ≤ o ∧ 0 ≤ n ∧ tN f + tN n ≤ tN (u s) ∧ tN o + tN n ≤ tN (u t)) := by
  subst eo; subst en
  have h := Int32.not_le.mp h
  rw [e2, lg_cmp_gt, cp_cmp hb hc h2] at h
  intro z
  have z1 := z.2.2.2.2
  rw [e2, tN, tN, tN, nI_clamp hb, nI_clamp hc, nI_clamp (by omega)] at z1
  omega
set_option maxHeartbeats 800000 in
set_option maxRecDepth 100000 in
theorem c_X5_copy (l : Launch) (E : EV) (am : Nat → Nat) (q f z u y : Row) (mv : Row) (s9 f9 t9 o9 n9 : Int32) (hU : ∀ j, j < 4 → le9 (u j) 40) : Met l yX5_copy (wq yX5_copy cX5_copy 7 (some .int)) ({ frames := 2, cells := 0, slots := 0, locals := 42 }) (preB E [.ref (am 0), .int s9, .int f9, .int t9, .int o9, .int n9] [[mObj am q], [(am 4, .inl (E.2.1, 8, .inl (sg f 8)))], [(am 8, .inl (E.2.1, 4, .inl (sg z 4)))], [(am 9, .inl (E.2.1, 4, .inl (sg u 4)))], [(am 10, .inl (E.2.1, 160, .inl (sg y 160)))], [(am 11, .inl (E.2.1, 40, .inl (sg mv 40)))]]) (qIx E [[mObj am q], [(am 4, .inl (E.2.1, 8, .inl (sg f 8)))], [(am 8, .inl (E.2.1, 4, .inl (sg z 4)))], [(am 9, .inl (E.2.1, 4, .inl (sg u 4)))], [(am 10, .inl (E.2.1, 160, .inl (sg y 160)))], [(am 11, .inl (E.2.1, 40, .inl (sg mv 40)))]] (fun u9 => [[mObj am q], [(am 4, .inl (E.2.1, 8, .inl (sg (fndM f (rCopy z u s9 f9 t9 o9 n9)) 8)))], [(am 8, .inl (E.2.1, 4, .inl (sg z 4)))], [(am 9, .inl (E.2.1, 4, .inl (sg u 4)))], [(am 10, .inl (E.2.1, 160, .inl (sg (pick (rCopy z u s9 f9 t9 o9 n9) y (cpS y (40 * tN s9 + tN f9) (40 * tN t9 + tN o9) (tN n9))) 160)))], [(am 11, .inl (E.2.1, 40, .inl (sg u9 40)))]]) (ansR (rCopy z u s9 f9 t9 o9 n9))) 0 0 (inB [[mObj am q], [(am 4, .inl (E.2.1, 8, .inl (sg f 8)))], [(am 8, .inl (E.2.1, 4, .inl (sg z 4)))], [(am 9, .inl (E.2.1, 4, .inl (sg u 4)))], [(am 10, .inl (E.2.1, 160, .inl (sg y 160)))], [(am 11, .inl (E.2.1, 40, .inl (sg mv 40)))]]) := by
  refine M_mk RX5 (by decide) rfl (Nat.le_of_ble_eq_true rfl) ?_
  intro p e s m below meth c S hr hlk hK hP hD hS ls hl
  have hl : lv_has ls 7 [(0, .ref (am 0)), (1, .int s9), (2, .int f9), (3, .int t9), (4, .int o9), (5, .int n9)] := hl
  obtain ⟨H, hH⟩ : ∃ zz9, zz9 = s.heap := ⟨_, rfl⟩
  obtain ⟨locs, hlocs⟩ : ∃ zz9 : List Loc, zz9 = [] := ⟨_, rfl⟩
  have hP : PE E [[mObj am q], [(am 4, .inl (E.2.1, 8, .inl (sg f 8)))], [(am 8, .inl (E.2.1, 4, .inl (sg z 4)))], [(am 9, .inl (E.2.1, 4, .inl (sg u 4)))], [(am 10, .inl (E.2.1, 160, .inl (sg y 160)))], [(am 11, .inl (E.2.1, 40, .inl (sg mv 40)))]] H := by rw [hH]; exact hP
  have hS : va_S (inB [[mObj am q], [(am 4, .inl (E.2.1, 8, .inl (sg f 8)))], [(am 8, .inl (E.2.1, 4, .inl (sg z 4)))], [(am 9, .inl (E.2.1, 4, .inl (sg u 4)))], [(am 10, .inl (E.2.1, 160, .inl (sg y 160)))], [(am 11, .inl (E.2.1, 40, .inl (sg mv 40)))]]) s.heap H locs := by rw [hH, hlocs]; exact hS
  show W p l e ({ frames := 2, cells := 0, slots := 0, locals := 42 }) s m ([.ref (am 0), .int s9, .int f9, .int t9, .int o9, .int n9] : List Value).toArray below meth c s.heap [] 0 0 _ _
  suffices hgo : W p l e ({ frames := 2, cells := 0, slots := 0, locals := 42 }) s m ([.ref (am 0), .int s9, .int f9, .int t9, .int o9, .int n9] : List Value).toArray below meth c H locs 0 0 (MQ below (qIx E [[mObj am q], [(am 4, .inl (E.2.1, 8, .inl (sg f 8)))], [(am 8, .inl (E.2.1, 4, .inl (sg z 4)))], [(am 9, .inl (E.2.1, 4, .inl (sg u 4)))], [(am 10, .inl (E.2.1, 160, .inl (sg y 160)))], [(am 11, .inl (E.2.1, 40, .inl (sg mv 40)))]] (fun u9 => [[mObj am q], [(am 4, .inl (E.2.1, 8, .inl (sg (fndM f (rCopy z u s9 f9 t9 o9 n9)) 8)))], [(am 8, .inl (E.2.1, 4, .inl (sg z 4)))], [(am 9, .inl (E.2.1, 4, .inl (sg u 4)))], [(am 10, .inl (E.2.1, 160, .inl (sg (pick (rCopy z u s9 f9 t9 o9 n9) y (cpS y (40 * tN s9 + tN f9) (40 * tN t9 + tN o9) (tN n9))) 160)))], [(am 11, .inl (E.2.1, 40, .inl (sg u9 40)))]]) (ansR (rCopy z u s9 f9 t9 o9 n9))) ([.ref (am 0), .int s9, .int f9, .int t9, .int o9, .int n9] : List Value).toArray s 0 0 (inB [[mObj am q], [(am 4, .inl (E.2.1, 8, .inl (sg f 8)))], [(am 8, .inl (E.2.1, 4, .inl (sg z 4)))], [(am 9, .inl (E.2.1, 4, .inl (sg u 4)))], [(am 10, .inl (E.2.1, 160, .inl (sg y 160)))], [(am 11, .inl (E.2.1, 40, .inl (sg mv 40)))]])) (F0 m 0 ls []) by rw [hH, hlocs] at hgo; exact hgo
  clear hH hlocs
  refine lv_iload_n S.1 S.2.1 dX5_copy_0 rfl (lv_at hl 1 rfl) ?_
  refine go_S (run_S (As := [.int s9]) (rest := []) (n := 1) S hK (bl_P hP [] rfl) (bl_D hD [] rfl rfl) (c_X5_isSheet l E s9 ) gS_X5_196 (by decide +kernel) rfl ⟨rfl, rfl⟩ ⟨Nat.le_of_ble_eq_true rfl, Nat.le_of_ble_eq_true rfl⟩ hl.1 (Nat.le_of_ble_eq_true rfl) dX5_copy_1 ⟨Nat.zero_le _, Nat.zero_le _⟩) ?_
  refine b_ifeq (tgt := 14) S.1 S.2.1 dX5_copy_4 (by decide) (fun c_4 => ?_) (fun c_4 => ?_)
  · refine lv_aload_n S.1 S.2.1 dX5_copy_14 rfl (lv_at hl 0 rfl) ?_
    refine lv_ldc (v := (-1000001)) S.1 S.2.1 S.2.2.2.1 (S.2.2.2.2 _ (List.mem_cons_of_mem _ kk_X5_60)) dX5_copy_15 ?_
    refine go_I (run_V (As := [.int (-1000001)]) (rest := []) (n := 1) S hK (bl_P hP [0, 1] rfl) (bl_D hD [0, 1] rfl rfl) (c_X5_finding l E am q f (-1000001) 0 (by decide) (by decide)) gV_X5_66 (by decide +kernel) rfl ⟨rfl, rfl⟩ ⟨Nat.le_of_ble_eq_true rfl, Nat.le_of_ble_eq_true rfl⟩ (ci := 5) (q0 := 0) rfl rfl hl.1 (Nat.le_of_ble_eq_true rfl) dX5_copy_17 ⟨Nat.zero_le _, Nat.zero_le _⟩) hP hD hS [0, 1] rfl (had_cons rfl (had_cons cell_ad rfl)) (Bs' := [[mObj am q], [(am 4, .inl (E.2.1, 8, .inl (sg (findM f 0) 8)))], [(am 8, .inl (E.2.1, 4, .inl (sg z 4)))], [(am 9, .inl (E.2.1, 4, .inl (sg u 4)))], [(am 10, .inl (E.2.1, 160, .inl (sg y 160)))], [(am 11, .inl (E.2.1, 40, .inl (sg mv 40)))]]) rfl (fun H locs hP hD hS => ?_)
    obtain ⟨r_17, er_17⟩ : ∃ zz9 : Row, zz9 = findM f 0 := ⟨_, rfl⟩
    rw [← er_17] at hP hD
    exact retIx S hr hlk mv (by have e9 : rCopy z u s9 f9 t9 o9 n9 = .inl 0 := (by unfold rCopy; rw [if_neg c_4]); rw [er_17] at hP; rw [e9, fndM_inl, pick_inl]; exact hP) hS (by have e9 : rCopy z u s9 f9 t9 o9 n9 = .inl 0 := (by unfold rCopy; rw [if_neg c_4]); rw [e9]; decide) dX5_copy_20
  · obtain ⟨k_s9, hk_s9, ek_s9⟩ := nI_of2 (n := 3) (by decide) (Int32.not_lt.mpr c_4.1) c_4.2
    refine lv_iload_n S.1 S.2.1 dX5_copy_7 rfl (lv_at hl 3 rfl) ?_
    refine go_S (run_S (As := [.int t9]) (rest := []) (n := 1) S hK (bl_P hP [] rfl) (bl_D hD [] rfl rfl) (c_X5_isSheet l E t9 ) gS_X5_196 (by decide +kernel) rfl ⟨rfl, rfl⟩ ⟨Nat.le_of_ble_eq_true rfl, Nat.le_of_ble_eq_true rfl⟩ hl.1 (Nat.le_of_ble_eq_true rfl) dX5_copy_8 ⟨Nat.zero_le _, Nat.zero_le _⟩) ?_
    refine b_ifne (tgt := 21) S.1 S.2.1 dX5_copy_11 (by decide) (fun c_11 => ?_) (fun c_11 => ?_)
    · obtain ⟨k_t9, hk_t9, ek_t9⟩ := nI_of2 (n := 3) (by decide) (Int32.not_lt.mpr c_11.1) c_11.2
      refine lv_aload_n S.1 S.2.1 dX5_copy_21 rfl (lv_at hl 0 rfl) ?_
      refine gf_X5_48 S hK hP 0 0 rfl rfl rfl dX5_copy_22 ?_
      refine lv_iload_n S.1 S.2.1 dX5_copy_25 rfl (lv_at hl 1 rfl) ?_
      refine lv_eqi (y := nI k_s9) ek_s9 ?_
      refine b_ialdN (i := k_s9) S hK hP 2 0 rfl rfl (by omega) (by decide) dX5_copy_26 ?_
      refine lv_eqi (y := z k_s9) (sg_at (by omega)) ?_
      refine lv_if_eq (tgt := 39) S.1 S.2.1 dX5_copy_27 (by decide) (fun c_27 => ?_) (fun c_27 => ?_)
      · refine lv_aload_n S.1 S.2.1 dX5_copy_39 rfl (lv_at hl 0 rfl) ?_
        refine lv_ldc (v := (-1000006)) S.1 S.2.1 S.2.2.2.1 (S.2.2.2.2 _ (List.mem_cons_of_mem _ kk_X5_199)) dX5_copy_40 ?_
        refine go_I (run_V (As := [.int (-1000006)]) (rest := []) (n := 1) S hK (bl_P hP [0, 1] rfl) (bl_D hD [0, 1] rfl rfl) (c_X5_finding l E am q f (-1000006) 5 (by decide) (by decide)) gV_X5_66 (by decide +kernel) rfl ⟨rfl, rfl⟩ ⟨Nat.le_of_ble_eq_true rfl, Nat.le_of_ble_eq_true rfl⟩ (ci := 5) (q0 := 0) rfl rfl hl.1 (Nat.le_of_ble_eq_true rfl) dX5_copy_42 ⟨Nat.zero_le _, Nat.zero_le _⟩) hP hD hS [0, 1] rfl (had_cons rfl (had_cons cell_ad rfl)) (Bs' := [[mObj am q], [(am 4, .inl (E.2.1, 8, .inl (sg (findM f 5) 8)))], [(am 8, .inl (E.2.1, 4, .inl (sg z 4)))], [(am 9, .inl (E.2.1, 4, .inl (sg u 4)))], [(am 10, .inl (E.2.1, 160, .inl (sg y 160)))], [(am 11, .inl (E.2.1, 40, .inl (sg mv 40)))]]) rfl (fun H locs hP hD hS => ?_)
        obtain ⟨r_42, er_42⟩ : ∃ zz9 : Row, zz9 = findM f 5 := ⟨_, rfl⟩
        rw [← er_42] at hP hD
        exact retIx S hr hlk mv (by have e9 : rCopy z u s9 f9 t9 o9 n9 = .inl 5 := (by unfold rCopy; rw [if_pos c_4, if_pos c_11, ek_s9, ek_t9, tN_nI (by omega), tN_nI (by omega), if_pos (Or.inl c_27)]); rw [er_42] at hP; rw [e9, fndM_inl, pick_inl]; exact hP) hS (by have e9 : rCopy z u s9 f9 t9 o9 n9 = .inl 5 := (by unfold rCopy; rw [if_pos c_4, if_pos c_11, ek_s9, ek_t9, tN_nI (by omega), tN_nI (by omega), if_pos (Or.inl c_27)]); rw [e9]; decide) dX5_copy_45
      · refine lv_aload_n S.1 S.2.1 dX5_copy_30 rfl (lv_at hl 0 rfl) ?_
        refine gf_X5_48 S hK hP 0 0 rfl rfl rfl dX5_copy_31 ?_
        refine lv_iload_n S.1 S.2.1 dX5_copy_34 rfl (lv_at hl 3 rfl) ?_
        refine lv_eqi (y := nI k_t9) ek_t9 ?_
        refine b_ialdN (i := k_t9) S hK hP 2 0 rfl rfl (by omega) (by decide) dX5_copy_35 ?_
        refine lv_eqi (y := z k_t9) (sg_at (by omega)) ?_
        refine lv_if_ne (tgt := 46) S.1 S.2.1 dX5_copy_36 (by decide) (fun c_36 => ?_) (fun c_36 => ?_)
        · refine lv_aload_n S.1 S.2.1 dX5_copy_46 rfl (lv_at hl 0 rfl) ?_
          refine gf_X5_48 S hK hP 0 0 rfl rfl rfl dX5_copy_47 ?_
          refine lv_iload_n S.1 S.2.1 dX5_copy_50 rfl (lv_at hl 1 rfl) ?_
          refine lv_eqi (y := nI k_s9) ek_s9 ?_
          refine b_ialdN (i := k_s9) S hK hP 2 0 rfl rfl (by omega) (by decide) dX5_copy_51 ?_
          refine lv_eqi (y := z k_s9) (sg_at (by omega)) ?_
          refine lv_aload_n S.1 S.2.1 dX5_copy_52 rfl (lv_at hl 0 rfl) ?_
          refine gf_X5_48 S hK hP 0 0 rfl rfl rfl dX5_copy_53 ?_
          refine lv_iload_n S.1 S.2.1 dX5_copy_56 rfl (lv_at hl 3 rfl) ?_
          refine lv_eqi (y := nI k_t9) ek_t9 ?_
          refine b_ialdN (i := k_t9) S hK hP 2 0 rfl rfl (by omega) (by decide) dX5_copy_57 ?_
          refine lv_eqi (y := z k_t9) (sg_at (by omega)) ?_
          refine lv_icmp_eq (tgt := 69) S.1 S.2.1 dX5_copy_58 (by decide) (fun c_58 => ?_) (fun c_58 => ?_)
          · refine lv_iload_n S.1 S.2.1 dX5_copy_69 rfl (lv_at hl 2 rfl) ?_
            refine lv_if_lt (tgt := 118) S.1 S.2.1 dX5_copy_70 (by decide) (fun c_70 => ?_) (fun c_70 => ?_)
            · have n_70 := Int32.not_le.mpr c_70
              refine lv_aload_n S.1 S.2.1 dX5_copy_118 rfl (lv_at hl 0 rfl) ?_
              refine lv_ldc (v := (-1000001)) S.1 S.2.1 S.2.2.2.1 (S.2.2.2.2 _ (List.mem_cons_of_mem _ kk_X5_60)) dX5_copy_119 ?_
              refine go_I (run_V (As := [.int (-1000001)]) (rest := []) (n := 1) S hK (bl_P hP [0, 1] rfl) (bl_D hD [0, 1] rfl rfl) (c_X5_finding l E am q f (-1000001) 0 (by decide) (by decide)) gV_X5_66 (by decide +kernel) rfl ⟨rfl, rfl⟩ ⟨Nat.le_of_ble_eq_true rfl, Nat.le_of_ble_eq_true rfl⟩ (ci := 5) (q0 := 0) rfl rfl hl.1 (Nat.le_of_ble_eq_true rfl) dX5_copy_121 ⟨Nat.zero_le _, Nat.zero_le _⟩) hP hD hS [0, 1] rfl (had_cons rfl (had_cons cell_ad rfl)) (Bs' := [[mObj am q], [(am 4, .inl (E.2.1, 8, .inl (sg (findM f 0) 8)))], [(am 8, .inl (E.2.1, 4, .inl (sg z 4)))], [(am 9, .inl (E.2.1, 4, .inl (sg u 4)))], [(am 10, .inl (E.2.1, 160, .inl (sg y 160)))], [(am 11, .inl (E.2.1, 40, .inl (sg mv 40)))]]) rfl (fun H locs hP hD hS => ?_)
              obtain ⟨r_121, er_121⟩ : ∃ zz9 : Row, zz9 = findM f 0 := ⟨_, rfl⟩
              rw [← er_121] at hP hD
              exact retIx S hr hlk mv (by have e9 : rCopy z u s9 f9 t9 o9 n9 = .inl 0 := (by unfold rCopy; rw [if_pos c_4, if_pos c_11, ek_s9, ek_t9, tN_nI (by omega), tN_nI (by omega), if_neg (fun z9 => z9.elim c_27 c_36), if_pos c_58, if_neg (fun z9 => n_70 z9.1)]); rw [er_121] at hP; rw [e9, fndM_inl, pick_inl]; exact hP) hS (by have e9 : rCopy z u s9 f9 t9 o9 n9 = .inl 0 := (by unfold rCopy; rw [if_pos c_4, if_pos c_11, ek_s9, ek_t9, tN_nI (by omega), tN_nI (by omega), if_neg (fun z9 => z9.elim c_27 c_36), if_pos c_58, if_neg (fun z9 => n_70 z9.1)]); rw [e9]; decide) dX5_copy_124
            · have n_70 := Int32.not_lt.mp c_70
              refine lv_iload S.1 S.2.1 dX5_copy_73 (lv_at hl 4 rfl) ?_
              refine lv_if_lt (tgt := 118) S.1 S.2.1 dX5_copy_75 (by decide) (fun c_75 => ?_) (fun c_75 => ?_)
              · have n_75 := Int32.not_le.mpr c_75
                refine lv_aload_n S.1 S.2.1 dX5_copy_118 rfl (lv_at hl 0 rfl) ?_
                refine lv_ldc (v := (-1000001)) S.1 S.2.1 S.2.2.2.1 (S.2.2.2.2 _ (List.mem_cons_of_mem _ kk_X5_60)) dX5_copy_119 ?_
                refine go_I (run_V (As := [.int (-1000001)]) (rest := []) (n := 1) S hK (bl_P hP [0, 1] rfl) (bl_D hD [0, 1] rfl rfl) (c_X5_finding l E am q f (-1000001) 0 (by decide) (by decide)) gV_X5_66 (by decide +kernel) rfl ⟨rfl, rfl⟩ ⟨Nat.le_of_ble_eq_true rfl, Nat.le_of_ble_eq_true rfl⟩ (ci := 5) (q0 := 0) rfl rfl hl.1 (Nat.le_of_ble_eq_true rfl) dX5_copy_121 ⟨Nat.zero_le _, Nat.zero_le _⟩) hP hD hS [0, 1] rfl (had_cons rfl (had_cons cell_ad rfl)) (Bs' := [[mObj am q], [(am 4, .inl (E.2.1, 8, .inl (sg (findM f 0) 8)))], [(am 8, .inl (E.2.1, 4, .inl (sg z 4)))], [(am 9, .inl (E.2.1, 4, .inl (sg u 4)))], [(am 10, .inl (E.2.1, 160, .inl (sg y 160)))], [(am 11, .inl (E.2.1, 40, .inl (sg mv 40)))]]) rfl (fun H locs hP hD hS => ?_)
                obtain ⟨r_121_1, er_121_1⟩ : ∃ zz9 : Row, zz9 = findM f 0 := ⟨_, rfl⟩
                rw [← er_121_1] at hP hD
                exact retIx S hr hlk mv (by have e9 : rCopy z u s9 f9 t9 o9 n9 = .inl 0 := (by unfold rCopy; rw [if_pos c_4, if_pos c_11, ek_s9, ek_t9, tN_nI (by omega), tN_nI (by omega), if_neg (fun z9 => z9.elim c_27 c_36), if_pos c_58, if_neg (fun z9 => n_75 z9.2.1)]); rw [er_121_1] at hP; rw [e9, fndM_inl, pick_inl]; exact hP) hS (by have e9 : rCopy z u s9 f9 t9 o9 n9 = .inl 0 := (by unfold rCopy; rw [if_pos c_4, if_pos c_11, ek_s9, ek_t9, tN_nI (by omega), tN_nI (by omega), if_neg (fun z9 => z9.elim c_27 c_36), if_pos c_58, if_neg (fun z9 => n_75 z9.2.1)]); rw [e9]; decide) dX5_copy_124
              · have n_75 := Int32.not_lt.mp c_75
                refine lv_iload S.1 S.2.1 dX5_copy_78 (lv_at hl 5 rfl) ?_
                refine lv_if_lt (tgt := 118) S.1 S.2.1 dX5_copy_80 (by decide) (fun c_80 => ?_) (fun c_80 => ?_)
                · have n_80 := Int32.not_le.mpr c_80
                  refine lv_aload_n S.1 S.2.1 dX5_copy_118 rfl (lv_at hl 0 rfl) ?_
                  refine lv_ldc (v := (-1000001)) S.1 S.2.1 S.2.2.2.1 (S.2.2.2.2 _ (List.mem_cons_of_mem _ kk_X5_60)) dX5_copy_119 ?_
                  refine go_I (run_V (As := [.int (-1000001)]) (rest := []) (n := 1) S hK (bl_P hP [0, 1] rfl) (bl_D hD [0, 1] rfl rfl) (c_X5_finding l E am q f (-1000001) 0 (by decide) (by decide)) gV_X5_66 (by decide +kernel) rfl ⟨rfl, rfl⟩ ⟨Nat.le_of_ble_eq_true rfl, Nat.le_of_ble_eq_true rfl⟩ (ci := 5) (q0 := 0) rfl rfl hl.1 (Nat.le_of_ble_eq_true rfl) dX5_copy_121 ⟨Nat.zero_le _, Nat.zero_le _⟩) hP hD hS [0, 1] rfl (had_cons rfl (had_cons cell_ad rfl)) (Bs' := [[mObj am q], [(am 4, .inl (E.2.1, 8, .inl (sg (findM f 0) 8)))], [(am 8, .inl (E.2.1, 4, .inl (sg z 4)))], [(am 9, .inl (E.2.1, 4, .inl (sg u 4)))], [(am 10, .inl (E.2.1, 160, .inl (sg y 160)))], [(am 11, .inl (E.2.1, 40, .inl (sg mv 40)))]]) rfl (fun H locs hP hD hS => ?_)
                  obtain ⟨r_121_2, er_121_2⟩ : ∃ zz9 : Row, zz9 = findM f 0 := ⟨_, rfl⟩
                  rw [← er_121_2] at hP hD
                  exact retIx S hr hlk mv (by have e9 : rCopy z u s9 f9 t9 o9 n9 = .inl 0 := (by unfold rCopy; rw [if_pos c_4, if_pos c_11, ek_s9, ek_t9, tN_nI (by omega), tN_nI (by omega), if_neg (fun z9 => z9.elim c_27 c_36), if_pos c_58, if_neg (fun z9 => n_80 z9.2.2.1)]); rw [er_121_2] at hP; rw [e9, fndM_inl, pick_inl]; exact hP) hS (by have e9 : rCopy z u s9 f9 t9 o9 n9 = .inl 0 := (by unfold rCopy; rw [if_pos c_4, if_pos c_11, ek_s9, ek_t9, tN_nI (by omega), tN_nI (by omega), if_neg (fun z9 => z9.elim c_27 c_36), if_pos c_58, if_neg (fun z9 => n_80 z9.2.2.1)]); rw [e9]; decide) dX5_copy_124
                · have n_80 := Int32.not_lt.mp c_80
                  obtain ⟨k_f9, hk_f9, ek_f9⟩ := nI_of c_70
                  obtain ⟨k_o9, hk_o9, ek_o9⟩ := nI_of c_75
                  obtain ⟨k_n9, hk_n9, ek_n9⟩ := nI_of c_80
                  obtain ⟨L1, hL1, eL1⟩ := hU k_s9 (by omega)
                  obtain ⟨L2, hL2, eL2⟩ := hU k_t9 (by omega)
                  refine lv_iload_n S.1 S.2.1 dX5_copy_83 rfl (lv_at hl 2 rfl) ?_
                  refine lv_eqi (y := nI k_f9) ek_f9 ?_
                  refine lv_i2l S.1 S.2.1 dX5_copy_84 rfl ?_
                  refine lv_iload S.1 S.2.1 dX5_copy_85 (lv_at hl 5 rfl) ?_
                  refine lv_eqi (y := nI k_n9) ek_n9 ?_
                  refine lv_i2l S.1 S.2.1 dX5_copy_87 rfl ?_
                  refine lv_ladd S.1 S.2.1 dX5_copy_88 ?_
                  refine lv_aload_n S.1 S.2.1 dX5_copy_89 rfl (lv_at hl 0 rfl) ?_
                  refine gf_X5_51 S hK hP 0 0 rfl rfl rfl dX5_copy_90 ?_
                  refine lv_iload_n S.1 S.2.1 dX5_copy_93 rfl (lv_at hl 1 rfl) ?_
                  refine lv_eqi (y := nI k_s9) ek_s9 ?_
                  refine b_ialdN (i := k_s9) S hK hP 3 0 rfl rfl (by omega) (by decide) dX5_copy_94 ?_
                  refine lv_eqi (y := u k_s9) (sg_at (by omega)) ?_
                  refine lv_i2l S.1 S.2.1 dX5_copy_95 rfl ?_
                  refine W.lcmp S.1 S.2.1 dX5_copy_96 ?_
                  refine lv_if_gt (tgt := 118) S.1 S.2.1 dX5_copy_97 (by decide) (fun c_97 => ?_) (fun c_97 => ?_)
                  · have n_97 := Int32.not_le.mpr c_97
                    refine lv_aload_n S.1 S.2.1 dX5_copy_118 rfl (lv_at hl 0 rfl) ?_
                    refine lv_ldc (v := (-1000001)) S.1 S.2.1 S.2.2.2.1 (S.2.2.2.2 _ (List.mem_cons_of_mem _ kk_X5_60)) dX5_copy_119 ?_
                    refine go_I (run_V (As := [.int (-1000001)]) (rest := []) (n := 1) S hK (bl_P hP [0, 1] rfl) (bl_D hD [0, 1] rfl rfl) (c_X5_finding l E am q f (-1000001) 0 (by decide) (by decide)) gV_X5_66 (by decide +kernel) rfl ⟨rfl, rfl⟩ ⟨Nat.le_of_ble_eq_true rfl, Nat.le_of_ble_eq_true rfl⟩ (ci := 5) (q0 := 0) rfl rfl hl.1 (Nat.le_of_ble_eq_true rfl) dX5_copy_121 ⟨Nat.zero_le _, Nat.zero_le _⟩) hP hD hS [0, 1] rfl (had_cons rfl (had_cons cell_ad rfl)) (Bs' := [[mObj am q], [(am 4, .inl (E.2.1, 8, .inl (sg (findM f 0) 8)))], [(am 8, .inl (E.2.1, 4, .inl (sg z 4)))], [(am 9, .inl (E.2.1, 4, .inl (sg u 4)))], [(am 10, .inl (E.2.1, 160, .inl (sg y 160)))], [(am 11, .inl (E.2.1, 40, .inl (sg mv 40)))]]) rfl (fun H locs hP hD hS => ?_)
                    obtain ⟨r_121_3, er_121_3⟩ : ∃ zz9 : Row, zz9 = findM f 0 := ⟨_, rfl⟩
                    rw [← er_121_3] at hP hD
                    exact retIx S hr hlk mv (by have e9 : rCopy z u s9 f9 t9 o9 n9 = .inl 0 := (by unfold rCopy; rw [if_pos c_4, if_pos c_11, ek_s9, ek_t9, tN_nI (by omega), tN_nI (by omega), if_neg (fun z9 => z9.elim c_27 c_36), if_pos c_58, if_neg (cp_out1 ek_f9 ek_n9 hk_f9 hk_n9 hL1 eL1 c_97)]); rw [er_121_3] at hP; rw [e9, fndM_inl, pick_inl]; exact hP) hS (by have e9 : rCopy z u s9 f9 t9 o9 n9 = .inl 0 := (by unfold rCopy; rw [if_pos c_4, if_pos c_11, ek_s9, ek_t9, tN_nI (by omega), tN_nI (by omega), if_neg (fun z9 => z9.elim c_27 c_36), if_pos c_58, if_neg (cp_out1 ek_f9 ek_n9 hk_f9 hk_n9 hL1 eL1 c_97)]); rw [e9]; decide) dX5_copy_124
                  · have n_97 := Int32.not_lt.mp c_97
                    refine lv_iload S.1 S.2.1 dX5_copy_100 (lv_at hl 4 rfl) ?_
                    refine lv_eqi (y := nI k_o9) ek_o9 ?_
                    refine lv_i2l S.1 S.2.1 dX5_copy_102 rfl ?_
                    refine lv_iload S.1 S.2.1 dX5_copy_103 (lv_at hl 5 rfl) ?_
                    refine lv_eqi (y := nI k_n9) ek_n9 ?_
                    refine lv_i2l S.1 S.2.1 dX5_copy_105 rfl ?_
                    refine lv_ladd S.1 S.2.1 dX5_copy_106 ?_
                    refine lv_aload_n S.1 S.2.1 dX5_copy_107 rfl (lv_at hl 0 rfl) ?_
                    refine gf_X5_51 S hK hP 0 0 rfl rfl rfl dX5_copy_108 ?_
                    refine lv_iload_n S.1 S.2.1 dX5_copy_111 rfl (lv_at hl 3 rfl) ?_
                    refine lv_eqi (y := nI k_t9) ek_t9 ?_
                    refine b_ialdN (i := k_t9) S hK hP 3 0 rfl rfl (by omega) (by decide) dX5_copy_112 ?_
                    refine lv_eqi (y := u k_t9) (sg_at (by omega)) ?_
                    refine lv_i2l S.1 S.2.1 dX5_copy_113 rfl ?_
                    refine W.lcmp S.1 S.2.1 dX5_copy_114 ?_
                    refine lv_if_le (tgt := 125) S.1 S.2.1 dX5_copy_115 (by decide) (fun c_115 => ?_) (fun c_115 => ?_)
                    · have n_115 := Int32.not_lt.mpr c_115
                      have hf1 : k_f9 + k_n9 ≤ L1 := cp_le hk_f9 hk_n9 hL1 eL1 c_97
                      have hfo : k_o9 + k_n9 ≤ L2 := cp_le2 hk_o9 hk_n9 hL2 eL2 c_115
                      refine lv_iconst (v := 0) S.1 S.2.1 dX5_copy_125 (by decide) ?_
                      refine lv_istore (lv' := [(6, .int 0), (0, .ref (am 0)), (1, .int s9), (2, .int f9), (3, .int t9), (4, .int o9), (5, .int n9)]) S.1 S.2.1 dX5_copy_126 hl (by decide) rfl (fun ls hl => ?_)
                      have L_128 : ∀ (fu : Nat) (k : Nat) (mi : Row), (k ≤ k_n9) → (k_n9 < k + fu) → (∀ j, j < k → mi j = y (40 * k_s9 + k_f9 + j)) → ∀ (H : Heap) (locs : List Loc), PE E [[mObj am q], [(am 4, .inl (E.2.1, 8, .inl (sg f 8)))], [(am 8, .inl (E.2.1, 4, .inl (sg z 4)))], [(am 9, .inl (E.2.1, 4, .inl (sg u 4)))], [(am 10, .inl (E.2.1, 160, .inl (sg y 160)))], [(am 11, .inl (E.2.1, 40, .inl (sg mi 40)))]] H → DE (inB [[mObj am q], [(am 4, .inl (E.2.1, 8, .inl (sg f 8)))], [(am 8, .inl (E.2.1, 4, .inl (sg z 4)))], [(am 9, .inl (E.2.1, 4, .inl (sg u 4)))], [(am 10, .inl (E.2.1, 160, .inl (sg y 160)))], [(am 11, .inl (E.2.1, 40, .inl (sg mv 40)))]]) [[mObj am q], [(am 4, .inl (E.2.1, 8, .inl (sg f 8)))], [(am 8, .inl (E.2.1, 4, .inl (sg z 4)))], [(am 9, .inl (E.2.1, 4, .inl (sg u 4)))], [(am 10, .inl (E.2.1, 160, .inl (sg y 160)))], [(am 11, .inl (E.2.1, 40, .inl (sg mi 40)))]] → va_S (inB [[mObj am q], [(am 4, .inl (E.2.1, 8, .inl (sg f 8)))], [(am 8, .inl (E.2.1, 4, .inl (sg z 4)))], [(am 9, .inl (E.2.1, 4, .inl (sg u 4)))], [(am 10, .inl (E.2.1, 160, .inl (sg y 160)))], [(am 11, .inl (E.2.1, 40, .inl (sg mv 40)))]]) s.heap H locs → ∀ (ls : Array Slot), lv_has ls 7 [(0, .ref (am 0)), (1, .int s9), (2, .int f9), (3, .int t9), (4, .int o9), (5, .int n9), (6, .int (nI k))] → W p l e ({ frames := 2, cells := 0, slots := 0, locals := 42 }) s m ([.ref (am 0), .int s9, .int f9, .int t9, .int o9, .int n9] : List Value).toArray below meth c H locs 0 0 (MQ below (qIx E [[mObj am q], [(am 4, .inl (E.2.1, 8, .inl (sg f 8)))], [(am 8, .inl (E.2.1, 4, .inl (sg z 4)))], [(am 9, .inl (E.2.1, 4, .inl (sg u 4)))], [(am 10, .inl (E.2.1, 160, .inl (sg y 160)))], [(am 11, .inl (E.2.1, 40, .inl (sg mv 40)))]] (fun u9 => [[mObj am q], [(am 4, .inl (E.2.1, 8, .inl (sg (fndM f (rCopy z u s9 f9 t9 o9 n9)) 8)))], [(am 8, .inl (E.2.1, 4, .inl (sg z 4)))], [(am 9, .inl (E.2.1, 4, .inl (sg u 4)))], [(am 10, .inl (E.2.1, 160, .inl (sg (pick (rCopy z u s9 f9 t9 o9 n9) y (cpS y (40 * tN s9 + tN f9) (40 * tN t9 + tN o9) (tN n9))) 160)))], [(am 11, .inl (E.2.1, 40, .inl (sg u9 40)))]]) (ansR (rCopy z u s9 f9 t9 o9 n9))) ([.ref (am 0), .int s9, .int f9, .int t9, .int o9, .int n9] : List Value).toArray s 0 0 (inB [[mObj am q], [(am 4, .inl (E.2.1, 8, .inl (sg f 8)))], [(am 8, .inl (E.2.1, 4, .inl (sg z 4)))], [(am 9, .inl (E.2.1, 4, .inl (sg u 4)))], [(am 10, .inl (E.2.1, 160, .inl (sg y 160)))], [(am 11, .inl (E.2.1, 40, .inl (sg mv 40)))]])) (F0 m 128 ls []) := by
                        intro fu
                        induction fu with
                        | zero =>
                          intro k mi hk hf hmi
                          omega
                        | succ fu ih_128 =>
                          intro k mi hk hf hmi H locs hP hD hS ls hl
                          refine lv_iload S.1 S.2.1 dX5_copy_128 (lv_at hl 6 rfl) ?_
                          refine lv_iload S.1 S.2.1 dX5_copy_130 (lv_at hl 5 rfl) ?_
                          refine lv_eqi (y := nI k_n9) ek_n9 ?_
                          refine lv_icmp_ge (tgt := 162) S.1 S.2.1 dX5_copy_132 (by decide) (fun c_132 => ?_) (fun c_132 => ?_)
                          · have n_132 := Int32.not_lt.mpr c_132
                            have hk9 : k = k_n9 := le_endK hk c_132 (by omega)
                            rw [hk9] at hmi
                            refine lv_iconst (v := 0) S.1 S.2.1 dX5_copy_162 (by decide) ?_
                            refine lv_istore (lv' := [(6, .int 0), (0, .ref (am 0)), (1, .int s9), (2, .int f9), (3, .int t9), (4, .int o9), (5, .int n9)]) S.1 S.2.1 dX5_copy_163 hl (by decide) rfl (fun ls hl => ?_)
                            have L_165 : ∀ (fu : Nat) (k2 : Nat) (yi : Row), (k2 ≤ k_n9) → (k_n9 < k2 + fu) → (yi = cpS y (40 * k_s9 + k_f9) (40 * k_t9 + k_o9) k2) → ∀ (H : Heap) (locs : List Loc), PE E [[mObj am q], [(am 4, .inl (E.2.1, 8, .inl (sg f 8)))], [(am 8, .inl (E.2.1, 4, .inl (sg z 4)))], [(am 9, .inl (E.2.1, 4, .inl (sg u 4)))], [(am 10, .inl (E.2.1, 160, .inl (sg yi 160)))], [(am 11, .inl (E.2.1, 40, .inl (sg mi 40)))]] H → DE (inB [[mObj am q], [(am 4, .inl (E.2.1, 8, .inl (sg f 8)))], [(am 8, .inl (E.2.1, 4, .inl (sg z 4)))], [(am 9, .inl (E.2.1, 4, .inl (sg u 4)))], [(am 10, .inl (E.2.1, 160, .inl (sg y 160)))], [(am 11, .inl (E.2.1, 40, .inl (sg mv 40)))]]) [[mObj am q], [(am 4, .inl (E.2.1, 8, .inl (sg f 8)))], [(am 8, .inl (E.2.1, 4, .inl (sg z 4)))], [(am 9, .inl (E.2.1, 4, .inl (sg u 4)))], [(am 10, .inl (E.2.1, 160, .inl (sg yi 160)))], [(am 11, .inl (E.2.1, 40, .inl (sg mi 40)))]] → va_S (inB [[mObj am q], [(am 4, .inl (E.2.1, 8, .inl (sg f 8)))], [(am 8, .inl (E.2.1, 4, .inl (sg z 4)))], [(am 9, .inl (E.2.1, 4, .inl (sg u 4)))], [(am 10, .inl (E.2.1, 160, .inl (sg y 160)))], [(am 11, .inl (E.2.1, 40, .inl (sg mv 40)))]]) s.heap H locs → ∀ (ls : Array Slot), lv_has ls 7 [(0, .ref (am 0)), (1, .int s9), (2, .int f9), (3, .int t9), (4, .int o9), (5, .int n9), (6, .int (nI k2))] → W p l e ({ frames := 2, cells := 0, slots := 0, locals := 42 }) s m ([.ref (am 0), .int s9, .int f9, .int t9, .int o9, .int n9] : List Value).toArray below meth c H locs 0 0 (MQ below (qIx E [[mObj am q], [(am 4, .inl (E.2.1, 8, .inl (sg f 8)))], [(am 8, .inl (E.2.1, 4, .inl (sg z 4)))], [(am 9, .inl (E.2.1, 4, .inl (sg u 4)))], [(am 10, .inl (E.2.1, 160, .inl (sg y 160)))], [(am 11, .inl (E.2.1, 40, .inl (sg mv 40)))]] (fun u9 => [[mObj am q], [(am 4, .inl (E.2.1, 8, .inl (sg (fndM f (rCopy z u s9 f9 t9 o9 n9)) 8)))], [(am 8, .inl (E.2.1, 4, .inl (sg z 4)))], [(am 9, .inl (E.2.1, 4, .inl (sg u 4)))], [(am 10, .inl (E.2.1, 160, .inl (sg (pick (rCopy z u s9 f9 t9 o9 n9) y (cpS y (40 * tN s9 + tN f9) (40 * tN t9 + tN o9) (tN n9))) 160)))], [(am 11, .inl (E.2.1, 40, .inl (sg u9 40)))]]) (ansR (rCopy z u s9 f9 t9 o9 n9))) ([.ref (am 0), .int s9, .int f9, .int t9, .int o9, .int n9] : List Value).toArray s 0 0 (inB [[mObj am q], [(am 4, .inl (E.2.1, 8, .inl (sg f 8)))], [(am 8, .inl (E.2.1, 4, .inl (sg z 4)))], [(am 9, .inl (E.2.1, 4, .inl (sg u 4)))], [(am 10, .inl (E.2.1, 160, .inl (sg y 160)))], [(am 11, .inl (E.2.1, 40, .inl (sg mv 40)))]])) (F0 m 165 ls []) := by
                              intro fu
                              induction fu with
                              | zero =>
                                intro k2 yi hk2 hf2 hyi
                                omega
                              | succ fu ih_165 =>
                                intro k2 yi hk2 hf2 hyi H locs hP hD hS ls hl
                                refine lv_iload S.1 S.2.1 dX5_copy_165 (lv_at hl 6 rfl) ?_
                                refine lv_iload S.1 S.2.1 dX5_copy_167 (lv_at hl 5 rfl) ?_
                                refine lv_eqi (y := nI k_n9) ek_n9 ?_
                                refine lv_icmp_ge (tgt := 200) S.1 S.2.1 dX5_copy_169 (by decide) (fun c_169 => ?_) (fun c_169 => ?_)
                                · have n_169 := Int32.not_lt.mpr c_169
                                  refine lv_iload S.1 S.2.1 dX5_copy_200 (lv_at hl 5 rfl) ?_
                                  refine lv_eqi (y := nI k_n9) ek_n9 ?_
                                  exact retIx S hr hlk mi (by have e9 : rCopy z u s9 f9 t9 o9 n9 = .inr (fun _ => 0, nI k_n9) := (by unfold rCopy; rw [if_pos c_4, if_pos c_11, ek_s9, ek_t9, tN_nI (by omega), tN_nI (by omega), if_neg (fun z9 => z9.elim c_27 c_36), if_pos c_58, if_pos (cp_in ek_f9 ek_o9 ek_n9 hk_f9 hk_o9 hk_n9 hL1 hL2 eL1 eL2 hf1 hfo), ek_n9]); rw [e9, fndM_inr, pick_inr, ek_s9, ek_f9, ek_t9, ek_o9, ek_n9, tN_nI (k := k_s9) (by omega), tN_nI (k := k_f9) (by omega), tN_nI (k := k_t9) (by omega), tN_nI (k := k_o9) (by omega), tN_nI (k := k_n9) (by omega)]; rw [hyi, le_endK hk2 c_169 (by omega)] at hP; exact hP) hS (by have e9 : rCopy z u s9 f9 t9 o9 n9 = .inr (fun _ => 0, nI k_n9) := (by unfold rCopy; rw [if_pos c_4, if_pos c_11, ek_s9, ek_t9, tN_nI (by omega), tN_nI (by omega), if_neg (fun z9 => z9.elim c_27 c_36), if_pos c_58, if_pos (cp_in ek_f9 ek_o9 ek_n9 hk_f9 hk_o9 hk_n9 hL1 hL2 eL1 eL2 hf1 hfo), ek_n9]); rw [e9, ansR_inr]) dX5_copy_202
                                · have n_169 := Int32.not_le.mp c_169
                                  have hk4 : k2 < k_n9 := lt_in c_169 hk2
                                  refine lv_aload_n S.1 S.2.1 dX5_copy_172 rfl (lv_at hl 0 rfl) ?_
                                  refine gf_X5_54 S hK hP 0 0 rfl rfl rfl dX5_copy_173 ?_
                                  refine lv_bipush (v := 40) S.1 S.2.1 dX5_copy_176 (by decide) ?_
                                  refine lv_iload_n S.1 S.2.1 dX5_copy_178 rfl (lv_at hl 3 rfl) ?_
                                  refine lv_eqi (y := nI k_t9) ek_t9 ?_
                                  refine lv_imul S.1 S.2.1 dX5_copy_179 ?_
                                  refine lv_eqi (y := nI (40 * k_t9)) (pk_mul 40 k_t9) ?_
                                  refine lv_iload S.1 S.2.1 dX5_copy_180 (lv_at hl 4 rfl) ?_
                                  refine lv_eqi (y := nI k_o9) ek_o9 ?_
                                  refine lv_iadd S.1 S.2.1 dX5_copy_182 ?_
                                  refine lv_eqi (y := nI (40 * k_t9 + k_o9)) (nI_add (40 * k_t9) k_o9) ?_
                                  refine lv_iload S.1 S.2.1 dX5_copy_183 (lv_at hl 6 rfl) ?_
                                  refine lv_iadd S.1 S.2.1 dX5_copy_185 ?_
                                  refine lv_eqi (y := nI (40 * k_t9 + k_o9 + k2)) (nI_add (40 * k_t9 + k_o9) k2) ?_
                                  refine lv_aload_n S.1 S.2.1 dX5_copy_186 rfl (lv_at hl 0 rfl) ?_
                                  refine gf_X5_57 S hK hP 0 0 rfl rfl rfl dX5_copy_187 ?_
                                  refine lv_iload S.1 S.2.1 dX5_copy_190 (lv_at hl 6 rfl) ?_
                                  refine b_ialdN (i := k2) S hK hP 5 0 rfl rfl (by omega) (by decide) dX5_copy_192 ?_
                                  refine lv_eqi (y := mi k2) (sg_at (by omega)) ?_
                                  refine b_iastN (i := 40 * k_t9 + k_o9 + k2) S hK hP hD hS 4 0 rfl rfl (by omega) (by decide) (sgs_upd (by omega)) (Bs1 := [[mObj am q], [(am 4, .inl (E.2.1, 8, .inl (sg f 8)))], [(am 8, .inl (E.2.1, 4, .inl (sg z 4)))], [(am 9, .inl (E.2.1, 4, .inl (sg u 4)))], [(am 10, .inl (E.2.1, 160, .inl (sg (upd yi (40 * k_t9 + k_o9 + k2) (mi k2)) 160)))], [(am 11, .inl (E.2.1, 40, .inl (sg mi 40)))]]) rfl dX5_copy_193 (fun H locs hP hD hS => ?_)
                                  obtain ⟨r_193, er_193⟩ : ∃ zz9, zz9 = upd yi (40 * k_t9 + k_o9 + k2) (mi k2) := ⟨_, rfl⟩
                                  rw [← er_193] at hP hD
                                  refine lv_iinc (v := nI (k2 + 1)) (lv' := [(6, .int (nI (k2 + 1))), (0, .ref (am 0)), (1, .int s9), (2, .int f9), (3, .int t9), (4, .int o9), (5, .int n9)]) S.1 S.2.1 dX5_copy_194 hl (k := 6) rfl (nI_1 k2) (by decide) rfl (fun ls hl => ?_)
                                  refine lv_goto (tgt := 165) S.1 S.2.1 dX5_copy_197 (by decide) ?_
                                  exact ih_165 (k2 + 1) r_193 (by omega) (by omega) (by rw [er_193, hyi, hmi k2 (by omega)]; exact cpS_s) H locs hP hD hS ls (lv_sub hl [1, 2, 3, 4, 5, 6, 0] rfl)
                            exact L_165 (k_n9 + 1) 0 y (by omega) (by omega) cpS_0.symm H locs hP hD hS ls (lv_sub hl [1, 2, 3, 4, 5, 6, 0] rfl)
                          · have n_132 := Int32.not_le.mp c_132
                            have hk3 : k < k_n9 := lt_in c_132 hk
                            refine lv_aload_n S.1 S.2.1 dX5_copy_135 rfl (lv_at hl 0 rfl) ?_
                            refine gf_X5_57 S hK hP 0 0 rfl rfl rfl dX5_copy_136 ?_
                            refine lv_iload S.1 S.2.1 dX5_copy_139 (lv_at hl 6 rfl) ?_
                            refine lv_aload_n S.1 S.2.1 dX5_copy_141 rfl (lv_at hl 0 rfl) ?_
                            refine gf_X5_54 S hK hP 0 0 rfl rfl rfl dX5_copy_142 ?_
                            refine lv_bipush (v := 40) S.1 S.2.1 dX5_copy_145 (by decide) ?_
                            refine lv_iload_n S.1 S.2.1 dX5_copy_147 rfl (lv_at hl 1 rfl) ?_
                            refine lv_eqi (y := nI k_s9) ek_s9 ?_
                            refine lv_imul S.1 S.2.1 dX5_copy_148 ?_
                            refine lv_eqi (y := nI (40 * k_s9)) (pk_mul 40 k_s9) ?_
                            refine lv_iload_n S.1 S.2.1 dX5_copy_149 rfl (lv_at hl 2 rfl) ?_
                            refine lv_eqi (y := nI k_f9) ek_f9 ?_
                            refine lv_iadd S.1 S.2.1 dX5_copy_150 ?_
                            refine lv_eqi (y := nI (40 * k_s9 + k_f9)) (nI_add (40 * k_s9) k_f9) ?_
                            refine lv_iload S.1 S.2.1 dX5_copy_151 (lv_at hl 6 rfl) ?_
                            refine lv_iadd S.1 S.2.1 dX5_copy_153 ?_
                            refine lv_eqi (y := nI (40 * k_s9 + k_f9 + k)) (nI_add (40 * k_s9 + k_f9) k) ?_
                            refine b_ialdN (i := 40 * k_s9 + k_f9 + k) S hK hP 4 0 rfl rfl (by omega) (by decide) dX5_copy_154 ?_
                            refine lv_eqi (y := y (40 * k_s9 + k_f9 + k)) (sg_at (by omega)) ?_
                            refine b_iastN (i := k) S hK hP hD hS 5 0 rfl rfl (by omega) (by decide) (sgs_upd (by omega)) (Bs1 := [[mObj am q], [(am 4, .inl (E.2.1, 8, .inl (sg f 8)))], [(am 8, .inl (E.2.1, 4, .inl (sg z 4)))], [(am 9, .inl (E.2.1, 4, .inl (sg u 4)))], [(am 10, .inl (E.2.1, 160, .inl (sg y 160)))], [(am 11, .inl (E.2.1, 40, .inl (sg (upd mi k (y (40 * k_s9 + k_f9 + k))) 40)))]]) rfl dX5_copy_155 (fun H locs hP hD hS => ?_)
                            obtain ⟨r_155, er_155⟩ : ∃ zz9, zz9 = upd mi k (y (40 * k_s9 + k_f9 + k)) := ⟨_, rfl⟩
                            rw [← er_155] at hP hD
                            refine lv_iinc (v := nI (k + 1)) (lv' := [(6, .int (nI (k + 1))), (0, .ref (am 0)), (1, .int s9), (2, .int f9), (3, .int t9), (4, .int o9), (5, .int n9)]) S.1 S.2.1 dX5_copy_156 hl (k := 6) rfl (nI_1 k) (by decide) rfl (fun ls hl => ?_)
                            refine lv_goto (tgt := 128) S.1 S.2.1 dX5_copy_159 (by decide) ?_
                            exact ih_128 (k + 1) r_155 (by omega) (by omega) (fun j hj => by rw [er_155]; exact mv_s hmi hj) H locs hP hD hS ls (lv_sub hl [1, 2, 3, 4, 5, 6, 0] rfl)
                      exact L_128 (k_n9 + 1) 0 mv (by omega) (by omega) (fun j hj => absurd hj (Nat.not_lt_zero _)) H locs hP hD hS ls (lv_sub hl [1, 2, 3, 4, 5, 6, 0] rfl)
                    · have n_115 := Int32.not_le.mp c_115
                      refine lv_aload_n S.1 S.2.1 dX5_copy_118 rfl (lv_at hl 0 rfl) ?_
                      refine lv_ldc (v := (-1000001)) S.1 S.2.1 S.2.2.2.1 (S.2.2.2.2 _ (List.mem_cons_of_mem _ kk_X5_60)) dX5_copy_119 ?_
                      refine go_I (run_V (As := [.int (-1000001)]) (rest := []) (n := 1) S hK (bl_P hP [0, 1] rfl) (bl_D hD [0, 1] rfl rfl) (c_X5_finding l E am q f (-1000001) 0 (by decide) (by decide)) gV_X5_66 (by decide +kernel) rfl ⟨rfl, rfl⟩ ⟨Nat.le_of_ble_eq_true rfl, Nat.le_of_ble_eq_true rfl⟩ (ci := 5) (q0 := 0) rfl rfl hl.1 (Nat.le_of_ble_eq_true rfl) dX5_copy_121 ⟨Nat.zero_le _, Nat.zero_le _⟩) hP hD hS [0, 1] rfl (had_cons rfl (had_cons cell_ad rfl)) (Bs' := [[mObj am q], [(am 4, .inl (E.2.1, 8, .inl (sg (findM f 0) 8)))], [(am 8, .inl (E.2.1, 4, .inl (sg z 4)))], [(am 9, .inl (E.2.1, 4, .inl (sg u 4)))], [(am 10, .inl (E.2.1, 160, .inl (sg y 160)))], [(am 11, .inl (E.2.1, 40, .inl (sg mv 40)))]]) rfl (fun H locs hP hD hS => ?_)
                      obtain ⟨r_121_4, er_121_4⟩ : ∃ zz9 : Row, zz9 = findM f 0 := ⟨_, rfl⟩
                      rw [← er_121_4] at hP hD
                      exact retIx S hr hlk mv (by have e9 : rCopy z u s9 f9 t9 o9 n9 = .inl 0 := (by unfold rCopy; rw [if_pos c_4, if_pos c_11, ek_s9, ek_t9, tN_nI (by omega), tN_nI (by omega), if_neg (fun z9 => z9.elim c_27 c_36), if_pos c_58, if_neg (cp_out2 ek_o9 ek_n9 hk_o9 hk_n9 hL2 eL2 c_115)]); rw [er_121_4] at hP; rw [e9, fndM_inl, pick_inl]; exact hP) hS (by have e9 : rCopy z u s9 f9 t9 o9 n9 = .inl 0 := (by unfold rCopy; rw [if_pos c_4, if_pos c_11, ek_s9, ek_t9, tN_nI (by omega), tN_nI (by omega), if_neg (fun z9 => z9.elim c_27 c_36), if_pos c_58, if_neg (cp_out2 ek_o9 ek_n9 hk_o9 hk_n9 hL2 eL2 c_115)]); rw [e9]; decide) dX5_copy_124
          · refine lv_aload_n S.1 S.2.1 dX5_copy_61 rfl (lv_at hl 0 rfl) ?_
            refine lv_ldcw (v := (-1000003)) S.1 S.2.1 S.2.2.2.1 (S.2.2.2.2 _ (List.mem_cons_of_mem _ kk_X5_306)) dX5_copy_62 ?_
            refine go_I (run_V (As := [.int (-1000003)]) (rest := []) (n := 1) S hK (bl_P hP [0, 1] rfl) (bl_D hD [0, 1] rfl rfl) (c_X5_finding l E am q f (-1000003) 2 (by decide) (by decide)) gV_X5_66 (by decide +kernel) rfl ⟨rfl, rfl⟩ ⟨Nat.le_of_ble_eq_true rfl, Nat.le_of_ble_eq_true rfl⟩ (ci := 5) (q0 := 0) rfl rfl hl.1 (Nat.le_of_ble_eq_true rfl) dX5_copy_65 ⟨Nat.zero_le _, Nat.zero_le _⟩) hP hD hS [0, 1] rfl (had_cons rfl (had_cons cell_ad rfl)) (Bs' := [[mObj am q], [(am 4, .inl (E.2.1, 8, .inl (sg (findM f 2) 8)))], [(am 8, .inl (E.2.1, 4, .inl (sg z 4)))], [(am 9, .inl (E.2.1, 4, .inl (sg u 4)))], [(am 10, .inl (E.2.1, 160, .inl (sg y 160)))], [(am 11, .inl (E.2.1, 40, .inl (sg mv 40)))]]) rfl (fun H locs hP hD hS => ?_)
            obtain ⟨r_65, er_65⟩ : ∃ zz9 : Row, zz9 = findM f 2 := ⟨_, rfl⟩
            rw [← er_65] at hP hD
            exact retIx S hr hlk mv (by have e9 : rCopy z u s9 f9 t9 o9 n9 = .inl 2 := (by unfold rCopy; rw [if_pos c_4, if_pos c_11, ek_s9, ek_t9, tN_nI (by omega), tN_nI (by omega), if_neg (fun z9 => z9.elim c_27 c_36), if_neg c_58]); rw [er_65] at hP; rw [e9, fndM_inl, pick_inl]; exact hP) hS (by have e9 : rCopy z u s9 f9 t9 o9 n9 = .inl 2 := (by unfold rCopy; rw [if_pos c_4, if_pos c_11, ek_s9, ek_t9, tN_nI (by omega), tN_nI (by omega), if_neg (fun z9 => z9.elim c_27 c_36), if_neg c_58]); rw [e9]; decide) dX5_copy_68
        · refine lv_aload_n S.1 S.2.1 dX5_copy_39 rfl (lv_at hl 0 rfl) ?_
          refine lv_ldc (v := (-1000006)) S.1 S.2.1 S.2.2.2.1 (S.2.2.2.2 _ (List.mem_cons_of_mem _ kk_X5_199)) dX5_copy_40 ?_
          refine go_I (run_V (As := [.int (-1000006)]) (rest := []) (n := 1) S hK (bl_P hP [0, 1] rfl) (bl_D hD [0, 1] rfl rfl) (c_X5_finding l E am q f (-1000006) 5 (by decide) (by decide)) gV_X5_66 (by decide +kernel) rfl ⟨rfl, rfl⟩ ⟨Nat.le_of_ble_eq_true rfl, Nat.le_of_ble_eq_true rfl⟩ (ci := 5) (q0 := 0) rfl rfl hl.1 (Nat.le_of_ble_eq_true rfl) dX5_copy_42 ⟨Nat.zero_le _, Nat.zero_le _⟩) hP hD hS [0, 1] rfl (had_cons rfl (had_cons cell_ad rfl)) (Bs' := [[mObj am q], [(am 4, .inl (E.2.1, 8, .inl (sg (findM f 5) 8)))], [(am 8, .inl (E.2.1, 4, .inl (sg z 4)))], [(am 9, .inl (E.2.1, 4, .inl (sg u 4)))], [(am 10, .inl (E.2.1, 160, .inl (sg y 160)))], [(am 11, .inl (E.2.1, 40, .inl (sg mv 40)))]]) rfl (fun H locs hP hD hS => ?_)
          obtain ⟨r_42_5, er_42_5⟩ : ∃ zz9 : Row, zz9 = findM f 5 := ⟨_, rfl⟩
          rw [← er_42_5] at hP hD
          exact retIx S hr hlk mv (by have e9 : rCopy z u s9 f9 t9 o9 n9 = .inl 5 := (by unfold rCopy; rw [if_pos c_4, if_pos c_11, ek_s9, ek_t9, tN_nI (by omega), tN_nI (by omega), if_pos (Or.inr c_36)]); rw [er_42_5] at hP; rw [e9, fndM_inl, pick_inl]; exact hP) hS (by have e9 : rCopy z u s9 f9 t9 o9 n9 = .inl 5 := (by unfold rCopy; rw [if_pos c_4, if_pos c_11, ek_s9, ek_t9, tN_nI (by omega), tN_nI (by omega), if_pos (Or.inr c_36)]); rw [e9]; decide) dX5_copy_45
    · refine lv_aload_n S.1 S.2.1 dX5_copy_14 rfl (lv_at hl 0 rfl) ?_
      refine lv_ldc (v := (-1000001)) S.1 S.2.1 S.2.2.2.1 (S.2.2.2.2 _ (List.mem_cons_of_mem _ kk_X5_60)) dX5_copy_15 ?_
      refine go_I (run_V (As := [.int (-1000001)]) (rest := []) (n := 1) S hK (bl_P hP [0, 1] rfl) (bl_D hD [0, 1] rfl rfl) (c_X5_finding l E am q f (-1000001) 0 (by decide) (by decide)) gV_X5_66 (by decide +kernel) rfl ⟨rfl, rfl⟩ ⟨Nat.le_of_ble_eq_true rfl, Nat.le_of_ble_eq_true rfl⟩ (ci := 5) (q0 := 0) rfl rfl hl.1 (Nat.le_of_ble_eq_true rfl) dX5_copy_17 ⟨Nat.zero_le _, Nat.zero_le _⟩) hP hD hS [0, 1] rfl (had_cons rfl (had_cons cell_ad rfl)) (Bs' := [[mObj am q], [(am 4, .inl (E.2.1, 8, .inl (sg (findM f 0) 8)))], [(am 8, .inl (E.2.1, 4, .inl (sg z 4)))], [(am 9, .inl (E.2.1, 4, .inl (sg u 4)))], [(am 10, .inl (E.2.1, 160, .inl (sg y 160)))], [(am 11, .inl (E.2.1, 40, .inl (sg mv 40)))]]) rfl (fun H locs hP hD hS => ?_)
      obtain ⟨r_17_6, er_17_6⟩ : ∃ zz9 : Row, zz9 = findM f 0 := ⟨_, rfl⟩
      rw [← er_17_6] at hP hD
      exact retIx S hr hlk mv (by have e9 : rCopy z u s9 f9 t9 o9 n9 = .inl 0 := (by unfold rCopy; rw [if_pos c_4, if_neg c_11]); rw [er_17_6] at hP; rw [e9, fndM_inl, pick_inl]; exact hP) hS (by have e9 : rCopy z u s9 f9 t9 o9 n9 = .inl 0 := (by unfold rCopy; rw [if_pos c_4, if_neg c_11]); rw [e9]; decide) dX5_copy_20
