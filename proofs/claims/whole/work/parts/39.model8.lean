def cutV (v b : Int32) : Int32 := if b = 8 then v.toInt8.toInt32 else if b = 16 then v.toInt16.toInt32 else v
def pick (x : Res) (a b : Row) : Row := match x with | .inl _ => a | .inr _ => b
theorem pick_inl {a b : Row} {k : Nat} : pick (.inl k) a b = a := rfl
theorem pick_inr {a b y : Row} {v : Int32} : pick (.inr (y, v)) a b = b := rfl
def rSheet (s b n : Int32) : Res := if 0 ≤ s ∧ s ≤ 3 then (if b = 0 ∨ b = 8 ∨ b = 16 ∨ b = 32 then (if n < 0 then .inl 6 else if 40 < n then .inl 0 else .inr (fun _ => 0, if b = 0 then 0 else n)) else .inl 0) else .inl 0
def clrS (y : Row) (k i : Nat) : Row := fun j => if 40 * k ≤ j ∧ j < 40 * k + i then 0 else y j
theorem clrS_0 {y : Row} {k : Nat} : clrS y k 0 = y := funext fun j => if_neg (by omega)
theorem clrS_s {y : Row} {k i : Nat} : upd (clrS y k i) (40 * k + i) 0 = clrS y k (i + 1) := funext fun j => by
  unfold upd clrS
  by_cases q : j = 40 * k + i
  · rw [if_pos q, if_pos (by omega)]
  · rw [if_neg q]
    by_cases q2 : 40 * k ≤ j ∧ j < 40 * k + i
    · rw [if_pos q2, if_pos (by omega)]
    · rw [if_neg q2, if_neg (by omega)]
def rWrite (y z u : Row) (s i v : Int32) : Res := if 0 ≤ s ∧ s ≤ 3 then (if z (tN s) = 0 then .inl 5 else if 0 ≤ i ∧ i < u (tN s) then .inr (upd y (40 * tN s + tN i) (cutV v (z (tN s))), 1) else .inl 0) else .inl 0
theorem sz_iff {v x : Int32} {n : Nat} (e : x = nI n) (hn : n ≤ 40) : (0 ≤ v ∧ v ≤ x - 1) ↔ (0 ≤ v ∧ v < x) := by
  subst e
  have e : (nI n - 1).toInt = (n : Int) - 1 := pk_sub_toInt (b := 1) (by omega) (by omega)
  have e2 : (nI n).toInt = (n : Int) := nI_toInt (by omega)
  refine and_congr_right (fun _ => ?_)
  rw [Int32.le_iff_toInt_le, Int32.lt_iff_toInt_lt, e, e2]
  omega
theorem sz_nat {v x : Int32} {n : Nat} (e : x = nI n) (hn : n ≤ 40) (h : 0 ≤ v ∧ v < x) : ∃ k : Nat, k < n ∧ v = nI k := by
  obtain ⟨k, hk, rfl⟩ := nI_of (Int32.not_lt.mpr h.1)
  have h2 := h.2
  rw [e] at h2
  exact ⟨k, (nI_ltI hk (by omega)).mp h2, rfl⟩
set_option maxHeartbeats 800000 in
set_option maxRecDepth 100000 in
theorem c_X5_cutTo (l : Launch) (E : EV) (v b : Int32)  : Met l yX5_cutTo (wq yX5_cutTo cX5_cutTo 2 (some .int)) ({ frames := 0, cells := 0, slots := 0, locals := 0 }) (preB E [.int v, .int b] []) (qS (cutV v b)) 0 0 (fun _ => False) := by
  refine M_mk RX5 (by decide) rfl (Nat.le_of_ble_eq_true rfl) ?_
  intro p e s m below meth c S hr hlk hK hP hD hS ls hl
  have hl : lv_has ls 2 [(0, .int v), (1, .int b)] := hl
  refine lv_iload_n S.1 S.2.1 dX5_cutTo_0 rfl (lv_at hl 1 rfl) ?_
  refine lv_bipush (v := 8) S.1 S.2.1 dX5_cutTo_1 (by decide) ?_
  refine lv_icmp_ne (tgt := 11) S.1 S.2.1 dX5_cutTo_3 (by decide) (fun c_3 => ?_) (fun c_3 => ?_)
  · refine lv_iload_n S.1 S.2.1 dX5_cutTo_11 rfl (lv_at hl 1 rfl) ?_
    refine lv_bipush (v := 16) S.1 S.2.1 dX5_cutTo_12 (by decide) ?_
    refine lv_icmp_ne (tgt := 22) S.1 S.2.1 dX5_cutTo_14 (by decide) (fun c_14 => ?_) (fun c_14 => ?_)
    · refine lv_iload_n S.1 S.2.1 dX5_cutTo_22 rfl (lv_at hl 0 rfl) ?_
      exact retS S hr hlk (by unfold cutV; rw [if_neg c_3, if_neg c_14]) dX5_cutTo_23
    · refine lv_iload_n S.1 S.2.1 dX5_cutTo_17 rfl (lv_at hl 0 rfl) ?_
      refine lv_i2s S.1 S.2.1 dX5_cutTo_18 rfl ?_
      refine lv_goto (tgt := 23) S.1 S.2.1 dX5_cutTo_19 (by decide) ?_
      exact retS S hr hlk (by unfold cutV; rw [if_neg c_3, if_pos c_14]) dX5_cutTo_23
  · refine lv_iload_n S.1 S.2.1 dX5_cutTo_6 rfl (lv_at hl 0 rfl) ?_
    refine lv_i2b S.1 S.2.1 dX5_cutTo_7 rfl ?_
    refine lv_goto (tgt := 23) S.1 S.2.1 dX5_cutTo_8 (by decide) ?_
    exact retS S hr hlk (by unfold cutV; rw [if_pos c_3]) dX5_cutTo_23
set_option maxHeartbeats 800000 in
set_option maxRecDepth 100000 in
theorem c_X5_sheet (l : Launch) (E : EV) (am : Nat → Nat) (q f z u y : Row) (s9 b n9 : Int32)  : Met l yX5_sheet (wq yX5_sheet cX5_sheet 5 (some .int)) ({ frames := 2, cells := 0, slots := 0, locals := 42 }) (preB E [.ref (am 0), .int s9, .int b, .int n9] [[mObj am q], [(am 4, .inl (E.2.1, 8, .inl (sg f 8)))], [(am 8, .inl (E.2.1, 4, .inl (sg z 4)))], [(am 9, .inl (E.2.1, 4, .inl (sg u 4)))], [(am 10, .inl (E.2.1, 160, .inl (sg y 160)))]]) (qI E [[mObj am q], [(am 4, .inl (E.2.1, 8, .inl (sg f 8)))], [(am 8, .inl (E.2.1, 4, .inl (sg z 4)))], [(am 9, .inl (E.2.1, 4, .inl (sg u 4)))], [(am 10, .inl (E.2.1, 160, .inl (sg y 160)))]] [[mObj am q], [(am 4, .inl (E.2.1, 8, .inl (sg (fndM f (rSheet s9 b n9)) 8)))], [(am 8, .inl (E.2.1, 4, .inl (sg (pick (rSheet s9 b n9) z (upd z (tN s9) b)) 4)))], [(am 9, .inl (E.2.1, 4, .inl (sg (pick (rSheet s9 b n9) u (upd u (tN s9) (ansR (rSheet s9 b n9)))) 4)))], [(am 10, .inl (E.2.1, 160, .inl (sg (pick (rSheet s9 b n9) y (clrS y (tN s9) 40)) 160)))]] (ansR (rSheet s9 b n9))) 0 0 (inB [[mObj am q], [(am 4, .inl (E.2.1, 8, .inl (sg f 8)))], [(am 8, .inl (E.2.1, 4, .inl (sg z 4)))], [(am 9, .inl (E.2.1, 4, .inl (sg u 4)))], [(am 10, .inl (E.2.1, 160, .inl (sg y 160)))]]) := by
  refine M_mk RX5 (by decide) rfl (Nat.le_of_ble_eq_true rfl) ?_
  intro p e s m below meth c S hr hlk hK hP hD hS ls hl
  have hl : lv_has ls 5 [(0, .ref (am 0)), (1, .int s9), (2, .int b), (3, .int n9)] := hl
  obtain ⟨H, hH⟩ : ∃ zz9, zz9 = s.heap := ⟨_, rfl⟩
  obtain ⟨locs, hlocs⟩ : ∃ zz9 : List Loc, zz9 = [] := ⟨_, rfl⟩
  have hP : PE E [[mObj am q], [(am 4, .inl (E.2.1, 8, .inl (sg f 8)))], [(am 8, .inl (E.2.1, 4, .inl (sg z 4)))], [(am 9, .inl (E.2.1, 4, .inl (sg u 4)))], [(am 10, .inl (E.2.1, 160, .inl (sg y 160)))]] H := by rw [hH]; exact hP
  have hS : va_S (inB [[mObj am q], [(am 4, .inl (E.2.1, 8, .inl (sg f 8)))], [(am 8, .inl (E.2.1, 4, .inl (sg z 4)))], [(am 9, .inl (E.2.1, 4, .inl (sg u 4)))], [(am 10, .inl (E.2.1, 160, .inl (sg y 160)))]]) s.heap H locs := by rw [hH, hlocs]; exact hS
  show W p l e ({ frames := 2, cells := 0, slots := 0, locals := 42 }) s m ([.ref (am 0), .int s9, .int b, .int n9] : List Value).toArray below meth c s.heap [] 0 0 _ _
  suffices hgo : W p l e ({ frames := 2, cells := 0, slots := 0, locals := 42 }) s m ([.ref (am 0), .int s9, .int b, .int n9] : List Value).toArray below meth c H locs 0 0 (MQ below (qI E [[mObj am q], [(am 4, .inl (E.2.1, 8, .inl (sg f 8)))], [(am 8, .inl (E.2.1, 4, .inl (sg z 4)))], [(am 9, .inl (E.2.1, 4, .inl (sg u 4)))], [(am 10, .inl (E.2.1, 160, .inl (sg y 160)))]] [[mObj am q], [(am 4, .inl (E.2.1, 8, .inl (sg (fndM f (rSheet s9 b n9)) 8)))], [(am 8, .inl (E.2.1, 4, .inl (sg (pick (rSheet s9 b n9) z (upd z (tN s9) b)) 4)))], [(am 9, .inl (E.2.1, 4, .inl (sg (pick (rSheet s9 b n9) u (upd u (tN s9) (ansR (rSheet s9 b n9)))) 4)))], [(am 10, .inl (E.2.1, 160, .inl (sg (pick (rSheet s9 b n9) y (clrS y (tN s9) 40)) 160)))]] (ansR (rSheet s9 b n9))) ([.ref (am 0), .int s9, .int b, .int n9] : List Value).toArray s 0 0 (inB [[mObj am q], [(am 4, .inl (E.2.1, 8, .inl (sg f 8)))], [(am 8, .inl (E.2.1, 4, .inl (sg z 4)))], [(am 9, .inl (E.2.1, 4, .inl (sg u 4)))], [(am 10, .inl (E.2.1, 160, .inl (sg y 160)))]])) (F0 m 0 ls []) by rw [hH, hlocs] at hgo; exact hgo
  clear hH hlocs
  refine lv_iload_n S.1 S.2.1 dX5_sheet_0 rfl (lv_at hl 1 rfl) ?_
  refine go_S (run_S (As := [.int s9]) (rest := []) (n := 1) S hK (bl_P hP [] rfl) (bl_D hD [] rfl rfl) (c_X5_isSheet l E s9 ) gS_X5_196 (by decide +kernel) rfl ⟨rfl, rfl⟩ ⟨Nat.le_of_ble_eq_true rfl, Nat.le_of_ble_eq_true rfl⟩ hl.1 (Nat.le_of_ble_eq_true rfl) dX5_sheet_1 ⟨Nat.zero_le _, Nat.zero_le _⟩) ?_
  refine b_ifeq (tgt := 29) S.1 S.2.1 dX5_sheet_4 (by decide) (fun c_4 => ?_) (fun c_4 => ?_)
  · refine lv_aload_n S.1 S.2.1 dX5_sheet_29 rfl (lv_at hl 0 rfl) ?_
    refine lv_ldc (v := (-1000001)) S.1 S.2.1 S.2.2.2.1 (S.2.2.2.2 _ (List.mem_cons_of_mem _ kk_X5_60)) dX5_sheet_30 ?_
    refine go_I (run_V (As := [.int (-1000001)]) (rest := []) (n := 1) S hK (bl_P hP [0, 1] rfl) (bl_D hD [0, 1] rfl rfl) (c_X5_finding l E am q f (-1000001) 0 (by decide) (by decide)) gV_X5_66 (by decide +kernel) rfl ⟨rfl, rfl⟩ ⟨Nat.le_of_ble_eq_true rfl, Nat.le_of_ble_eq_true rfl⟩ (ci := 5) (q0 := 0) rfl rfl hl.1 (Nat.le_of_ble_eq_true rfl) dX5_sheet_32 ⟨Nat.zero_le _, Nat.zero_le _⟩) hP hD hS [0, 1] rfl (had_cons rfl (had_cons cell_ad rfl)) (Bs' := [[mObj am q], [(am 4, .inl (E.2.1, 8, .inl (sg (findM f 0) 8)))], [(am 8, .inl (E.2.1, 4, .inl (sg z 4)))], [(am 9, .inl (E.2.1, 4, .inl (sg u 4)))], [(am 10, .inl (E.2.1, 160, .inl (sg y 160)))]]) rfl (fun H locs hP hD hS => ?_)
    obtain ⟨r_32, er_32⟩ : ∃ zz9 : Row, zz9 = findM f 0 := ⟨_, rfl⟩
    rw [← er_32] at hP hD
    exact retI S hr hlk (by have e9 : rSheet s9 b n9 = .inl 0 := (by unfold rSheet; rw [if_neg c_4]); rw [er_32] at hP; rw [e9, fndM_inl, pick_inl, pick_inl, pick_inl]; exact hP) hS (by have e9 : rSheet s9 b n9 = .inl 0 := (by unfold rSheet; rw [if_neg c_4]); rw [e9]; decide) dX5_sheet_35
  · obtain ⟨k_s9, hk_s9, ek_s9⟩ := nI_of2 (n := 3) (by decide) (Int32.not_lt.mpr c_4.1) c_4.2
    refine lv_iload_n S.1 S.2.1 dX5_sheet_7 rfl (lv_at hl 2 rfl) ?_
    refine lv_if_eq (tgt := 36) S.1 S.2.1 dX5_sheet_8 (by decide) (fun c_8 => ?_) (fun c_8 => ?_)
    · refine lv_iload_n S.1 S.2.1 dX5_sheet_36 rfl (lv_at hl 3 rfl) ?_
      refine lv_if_ge (tgt := 48) S.1 S.2.1 dX5_sheet_37 (by decide) (fun c_37 => ?_) (fun c_37 => ?_)
      · have n_37 := Int32.not_lt.mpr c_37
        refine lv_iload_n S.1 S.2.1 dX5_sheet_48 rfl (lv_at hl 3 rfl) ?_
        refine lv_bipush (v := 40) S.1 S.2.1 dX5_sheet_49 (by decide) ?_
        refine lv_icmp_le (tgt := 61) S.1 S.2.1 dX5_sheet_51 (by decide) (fun c_51 => ?_) (fun c_51 => ?_)
        · have n_51 := Int32.not_lt.mpr c_51
          refine lv_aload_n S.1 S.2.1 dX5_sheet_61 rfl (lv_at hl 0 rfl) ?_
          refine gf_X5_48 S hK hP 0 0 rfl rfl rfl dX5_sheet_62 ?_
          refine lv_iload_n S.1 S.2.1 dX5_sheet_65 rfl (lv_at hl 1 rfl) ?_
          refine lv_eqi (y := nI k_s9) ek_s9 ?_
          refine lv_iload_n S.1 S.2.1 dX5_sheet_66 rfl (lv_at hl 2 rfl) ?_
          refine b_iastN (i := k_s9) S hK hP hD hS 2 0 rfl rfl (by omega) (by decide) (sgs_upd (by omega)) (Bs1 := [[mObj am q], [(am 4, .inl (E.2.1, 8, .inl (sg f 8)))], [(am 8, .inl (E.2.1, 4, .inl (sg (upd z k_s9 b) 4)))], [(am 9, .inl (E.2.1, 4, .inl (sg u 4)))], [(am 10, .inl (E.2.1, 160, .inl (sg y 160)))]]) rfl dX5_sheet_67 (fun H locs hP hD hS => ?_)
          obtain ⟨r_67, er_67⟩ : ∃ zz9, zz9 = upd z k_s9 b := ⟨_, rfl⟩
          rw [← er_67] at hP hD
          refine lv_aload_n S.1 S.2.1 dX5_sheet_68 rfl (lv_at hl 0 rfl) ?_
          refine gf_X5_51 S hK hP 0 0 rfl rfl rfl dX5_sheet_69 ?_
          refine lv_iload_n S.1 S.2.1 dX5_sheet_72 rfl (lv_at hl 1 rfl) ?_
          refine lv_eqi (y := nI k_s9) ek_s9 ?_
          refine lv_iload_n S.1 S.2.1 dX5_sheet_73 rfl (lv_at hl 2 rfl) ?_
          refine lv_if_ne (tgt := 81) S.1 S.2.1 dX5_sheet_74 (by decide) (fun c_74 => ?_) (fun c_74 => ?_)
          · refine lv_iload_n S.1 S.2.1 dX5_sheet_81 rfl (lv_at hl 3 rfl) ?_
            refine b_iastN (i := k_s9) S hK hP hD hS 3 0 rfl rfl (by omega) (by decide) (sgs_upd (by omega)) (Bs1 := [[mObj am q], [(am 4, .inl (E.2.1, 8, .inl (sg f 8)))], [(am 8, .inl (E.2.1, 4, .inl (sg r_67 4)))], [(am 9, .inl (E.2.1, 4, .inl (sg (upd u k_s9 n9) 4)))], [(am 10, .inl (E.2.1, 160, .inl (sg y 160)))]]) rfl dX5_sheet_82 (fun H locs hP hD hS => ?_)
            obtain ⟨r_82, er_82⟩ : ∃ zz9, zz9 = upd u k_s9 n9 := ⟨_, rfl⟩
            rw [← er_82] at hP hD
            refine lv_iconst (v := 0) S.1 S.2.1 dX5_sheet_83 (by decide) ?_
            refine lv_istore (lv' := [(4, .int 0), (0, .ref (am 0)), (1, .int s9), (2, .int b), (3, .int n9)]) S.1 S.2.1 dX5_sheet_84 hl (by decide) rfl (fun ls hl => ?_)
            have L_86 : ∀ (fu : Nat) (i : Nat) (yi : Row), (i ≤ 40) → (40 < i + fu) → (yi = clrS y k_s9 i) → ∀ (H : Heap) (locs : List Loc), PE E [[mObj am q], [(am 4, .inl (E.2.1, 8, .inl (sg f 8)))], [(am 8, .inl (E.2.1, 4, .inl (sg r_67 4)))], [(am 9, .inl (E.2.1, 4, .inl (sg r_82 4)))], [(am 10, .inl (E.2.1, 160, .inl (sg yi 160)))]] H → DE (inB [[mObj am q], [(am 4, .inl (E.2.1, 8, .inl (sg f 8)))], [(am 8, .inl (E.2.1, 4, .inl (sg z 4)))], [(am 9, .inl (E.2.1, 4, .inl (sg u 4)))], [(am 10, .inl (E.2.1, 160, .inl (sg y 160)))]]) [[mObj am q], [(am 4, .inl (E.2.1, 8, .inl (sg f 8)))], [(am 8, .inl (E.2.1, 4, .inl (sg r_67 4)))], [(am 9, .inl (E.2.1, 4, .inl (sg r_82 4)))], [(am 10, .inl (E.2.1, 160, .inl (sg yi 160)))]] → va_S (inB [[mObj am q], [(am 4, .inl (E.2.1, 8, .inl (sg f 8)))], [(am 8, .inl (E.2.1, 4, .inl (sg z 4)))], [(am 9, .inl (E.2.1, 4, .inl (sg u 4)))], [(am 10, .inl (E.2.1, 160, .inl (sg y 160)))]]) s.heap H locs → ∀ (ls : Array Slot), lv_has ls 5 [(0, .ref (am 0)), (1, .int s9), (2, .int b), (3, .int n9), (4, .int (nI i))] → W p l e ({ frames := 2, cells := 0, slots := 0, locals := 42 }) s m ([.ref (am 0), .int s9, .int b, .int n9] : List Value).toArray below meth c H locs 0 0 (MQ below (qI E [[mObj am q], [(am 4, .inl (E.2.1, 8, .inl (sg f 8)))], [(am 8, .inl (E.2.1, 4, .inl (sg z 4)))], [(am 9, .inl (E.2.1, 4, .inl (sg u 4)))], [(am 10, .inl (E.2.1, 160, .inl (sg y 160)))]] [[mObj am q], [(am 4, .inl (E.2.1, 8, .inl (sg (fndM f (rSheet s9 b n9)) 8)))], [(am 8, .inl (E.2.1, 4, .inl (sg (pick (rSheet s9 b n9) z (upd z (tN s9) b)) 4)))], [(am 9, .inl (E.2.1, 4, .inl (sg (pick (rSheet s9 b n9) u (upd u (tN s9) (ansR (rSheet s9 b n9)))) 4)))], [(am 10, .inl (E.2.1, 160, .inl (sg (pick (rSheet s9 b n9) y (clrS y (tN s9) 40)) 160)))]] (ansR (rSheet s9 b n9))) ([.ref (am 0), .int s9, .int b, .int n9] : List Value).toArray s 0 0 (inB [[mObj am q], [(am 4, .inl (E.2.1, 8, .inl (sg f 8)))], [(am 8, .inl (E.2.1, 4, .inl (sg z 4)))], [(am 9, .inl (E.2.1, 4, .inl (sg u 4)))], [(am 10, .inl (E.2.1, 160, .inl (sg y 160)))]])) (F0 m 86 ls []) := by
              intro fu
              induction fu with
              | zero =>
                intro i yi hi hf hyi
                omega
              | succ fu ih_86 =>
                intro i yi hi hf hyi H locs hP hD hS ls hl
                refine lv_iload S.1 S.2.1 dX5_sheet_86 (lv_at hl 4 rfl) ?_
                refine lv_bipush (v := 40) S.1 S.2.1 dX5_sheet_88 (by decide) ?_
                refine lv_icmp_ge (tgt := 112) S.1 S.2.1 dX5_sheet_90 (by decide) (fun c_90 => ?_) (fun c_90 => ?_)
                · have n_90 := Int32.not_lt.mpr c_90
                  have hi9 : i = 40 := le_endK (n := 40) hi c_90 (by decide)
                  refine lv_aload_n S.1 S.2.1 dX5_sheet_112 rfl (lv_at hl 0 rfl) ?_
                  refine gf_X5_51 S hK hP 0 0 rfl rfl rfl dX5_sheet_113 ?_
                  refine lv_iload_n S.1 S.2.1 dX5_sheet_116 rfl (lv_at hl 1 rfl) ?_
                  refine lv_eqi (y := nI k_s9) ek_s9 ?_
                  refine b_ialdN (i := k_s9) S hK hP 3 0 rfl rfl (by omega) (by decide) dX5_sheet_117 ?_
                  refine lv_eqi (y := r_82 k_s9) (sg_at (by omega)) ?_
                  exact retI S hr hlk (by have e9 : rSheet s9 b n9 = .inr (fun _ => 0, n9) := (by unfold rSheet; rw [if_pos c_4, if_pos (Or.inl c_8), if_neg n_37, if_neg n_51, if_neg c_74]); rw [er_82, er_67, hyi, hi9] at hP; rw [e9, fndM_inr, pick_inr, pick_inr, pick_inr, ansR_inr, ek_s9, tN_nI (by omega)]; exact hP) hS (by have e9 : rSheet s9 b n9 = .inr (fun _ => 0, n9) := (by unfold rSheet; rw [if_pos c_4, if_pos (Or.inl c_8), if_neg n_37, if_neg n_51, if_neg c_74]); rw [e9, ansR_inr, er_82]; exact upd_at) dX5_sheet_118
                · have n_90 := Int32.not_le.mp c_90
                  have hi2 : i < 40 := lt_in (n := 40) c_90 hi
                  refine lv_aload_n S.1 S.2.1 dX5_sheet_93 rfl (lv_at hl 0 rfl) ?_
                  refine gf_X5_54 S hK hP 0 0 rfl rfl rfl dX5_sheet_94 ?_
                  refine lv_bipush (v := 40) S.1 S.2.1 dX5_sheet_97 (by decide) ?_
                  refine lv_iload_n S.1 S.2.1 dX5_sheet_99 rfl (lv_at hl 1 rfl) ?_
                  refine lv_eqi (y := nI k_s9) ek_s9 ?_
                  refine lv_imul S.1 S.2.1 dX5_sheet_100 ?_
                  refine lv_eqi (y := nI (40 * k_s9)) (pk_mul 40 k_s9) ?_
                  refine lv_iload S.1 S.2.1 dX5_sheet_101 (lv_at hl 4 rfl) ?_
                  refine lv_iadd S.1 S.2.1 dX5_sheet_103 ?_
                  refine lv_eqi (y := nI (40 * k_s9 + i)) (nI_add (40 * k_s9) i) ?_
                  refine lv_iconst (v := 0) S.1 S.2.1 dX5_sheet_104 (by decide) ?_
                  refine b_iastN (i := 40 * k_s9 + i) S hK hP hD hS 4 0 rfl rfl (by omega) (by decide) (sgs_upd (by omega)) (Bs1 := [[mObj am q], [(am 4, .inl (E.2.1, 8, .inl (sg f 8)))], [(am 8, .inl (E.2.1, 4, .inl (sg r_67 4)))], [(am 9, .inl (E.2.1, 4, .inl (sg r_82 4)))], [(am 10, .inl (E.2.1, 160, .inl (sg (upd yi (40 * k_s9 + i) 0) 160)))]]) rfl dX5_sheet_105 (fun H locs hP hD hS => ?_)
                  obtain ⟨r_105, er_105⟩ : ∃ zz9, zz9 = upd yi (40 * k_s9 + i) 0 := ⟨_, rfl⟩
                  rw [← er_105] at hP hD
                  refine lv_iinc (v := nI (i + 1)) (lv' := [(4, .int (nI (i + 1))), (0, .ref (am 0)), (1, .int s9), (2, .int b), (3, .int n9)]) S.1 S.2.1 dX5_sheet_106 hl (k := 4) rfl (nI_1 i) (by decide) rfl (fun ls hl => ?_)
                  refine lv_goto (tgt := 86) S.1 S.2.1 dX5_sheet_109 (by decide) ?_
                  exact ih_86 (i + 1) r_105 (by omega) (by omega) (by rw [er_105, hyi]; exact clrS_s) H locs hP hD hS ls (lv_sub hl [1, 2, 3, 4, 0] rfl)
            exact L_86 (40 + 1) 0 y (by omega) (by omega) clrS_0.symm H locs hP hD hS ls (lv_sub hl [1, 2, 3, 4, 0] rfl)
          · refine lv_iconst (v := 0) S.1 S.2.1 dX5_sheet_77 (by decide) ?_
            refine lv_goto (tgt := 82) S.1 S.2.1 dX5_sheet_78 (by decide) ?_
            refine b_iastN (i := k_s9) S hK hP hD hS 3 0 rfl rfl (by omega) (by decide) (sgs_upd (by omega)) (Bs1 := [[mObj am q], [(am 4, .inl (E.2.1, 8, .inl (sg f 8)))], [(am 8, .inl (E.2.1, 4, .inl (sg r_67 4)))], [(am 9, .inl (E.2.1, 4, .inl (sg (upd u k_s9 0) 4)))], [(am 10, .inl (E.2.1, 160, .inl (sg y 160)))]]) rfl dX5_sheet_82 (fun H locs hP hD hS => ?_)
            obtain ⟨r_82_1, er_82_1⟩ : ∃ zz9, zz9 = upd u k_s9 0 := ⟨_, rfl⟩
            rw [← er_82_1] at hP hD
            refine lv_iconst (v := 0) S.1 S.2.1 dX5_sheet_83 (by decide) ?_
            refine lv_istore (lv' := [(4, .int 0), (0, .ref (am 0)), (1, .int s9), (2, .int b), (3, .int n9)]) S.1 S.2.1 dX5_sheet_84 hl (by decide) rfl (fun ls hl => ?_)
            have L_86 : ∀ (fu : Nat) (i : Nat) (yi : Row), (i ≤ 40) → (40 < i + fu) → (yi = clrS y k_s9 i) → ∀ (H : Heap) (locs : List Loc), PE E [[mObj am q], [(am 4, .inl (E.2.1, 8, .inl (sg f 8)))], [(am 8, .inl (E.2.1, 4, .inl (sg r_67 4)))], [(am 9, .inl (E.2.1, 4, .inl (sg r_82_1 4)))], [(am 10, .inl (E.2.1, 160, .inl (sg yi 160)))]] H → DE (inB [[mObj am q], [(am 4, .inl (E.2.1, 8, .inl (sg f 8)))], [(am 8, .inl (E.2.1, 4, .inl (sg z 4)))], [(am 9, .inl (E.2.1, 4, .inl (sg u 4)))], [(am 10, .inl (E.2.1, 160, .inl (sg y 160)))]]) [[mObj am q], [(am 4, .inl (E.2.1, 8, .inl (sg f 8)))], [(am 8, .inl (E.2.1, 4, .inl (sg r_67 4)))], [(am 9, .inl (E.2.1, 4, .inl (sg r_82_1 4)))], [(am 10, .inl (E.2.1, 160, .inl (sg yi 160)))]] → va_S (inB [[mObj am q], [(am 4, .inl (E.2.1, 8, .inl (sg f 8)))], [(am 8, .inl (E.2.1, 4, .inl (sg z 4)))], [(am 9, .inl (E.2.1, 4, .inl (sg u 4)))], [(am 10, .inl (E.2.1, 160, .inl (sg y 160)))]]) s.heap H locs → ∀ (ls : Array Slot), lv_has ls 5 [(0, .ref (am 0)), (1, .int s9), (2, .int b), (3, .int n9), (4, .int (nI i))] → W p l e ({ frames := 2, cells := 0, slots := 0, locals := 42 }) s m ([.ref (am 0), .int s9, .int b, .int n9] : List Value).toArray below meth c H locs 0 0 (MQ below (qI E [[mObj am q], [(am 4, .inl (E.2.1, 8, .inl (sg f 8)))], [(am 8, .inl (E.2.1, 4, .inl (sg z 4)))], [(am 9, .inl (E.2.1, 4, .inl (sg u 4)))], [(am 10, .inl (E.2.1, 160, .inl (sg y 160)))]] [[mObj am q], [(am 4, .inl (E.2.1, 8, .inl (sg (fndM f (rSheet s9 b n9)) 8)))], [(am 8, .inl (E.2.1, 4, .inl (sg (pick (rSheet s9 b n9) z (upd z (tN s9) b)) 4)))], [(am 9, .inl (E.2.1, 4, .inl (sg (pick (rSheet s9 b n9) u (upd u (tN s9) (ansR (rSheet s9 b n9)))) 4)))], [(am 10, .inl (E.2.1, 160, .inl (sg (pick (rSheet s9 b n9) y (clrS y (tN s9) 40)) 160)))]] (ansR (rSheet s9 b n9))) ([.ref (am 0), .int s9, .int b, .int n9] : List Value).toArray s 0 0 (inB [[mObj am q], [(am 4, .inl (E.2.1, 8, .inl (sg f 8)))], [(am 8, .inl (E.2.1, 4, .inl (sg z 4)))], [(am 9, .inl (E.2.1, 4, .inl (sg u 4)))], [(am 10, .inl (E.2.1, 160, .inl (sg y 160)))]])) (F0 m 86 ls []) := by
              intro fu
              induction fu with
              | zero =>
                intro i yi hi hf hyi
                omega
              | succ fu ih_86 =>
                intro i yi hi hf hyi H locs hP hD hS ls hl
                refine lv_iload S.1 S.2.1 dX5_sheet_86 (lv_at hl 4 rfl) ?_
                refine lv_bipush (v := 40) S.1 S.2.1 dX5_sheet_88 (by decide) ?_
                refine lv_icmp_ge (tgt := 112) S.1 S.2.1 dX5_sheet_90 (by decide) (fun c_90 => ?_) (fun c_90 => ?_)
                · have n_90 := Int32.not_lt.mpr c_90
                  have hi9 : i = 40 := le_endK (n := 40) hi c_90 (by decide)
                  refine lv_aload_n S.1 S.2.1 dX5_sheet_112 rfl (lv_at hl 0 rfl) ?_
                  refine gf_X5_51 S hK hP 0 0 rfl rfl rfl dX5_sheet_113 ?_
                  refine lv_iload_n S.1 S.2.1 dX5_sheet_116 rfl (lv_at hl 1 rfl) ?_
                  refine lv_eqi (y := nI k_s9) ek_s9 ?_
                  refine b_ialdN (i := k_s9) S hK hP 3 0 rfl rfl (by omega) (by decide) dX5_sheet_117 ?_
                  refine lv_eqi (y := r_82_1 k_s9) (sg_at (by omega)) ?_
                  exact retI S hr hlk (by have e9 : rSheet s9 b n9 = .inr (fun _ => 0, 0) := (by unfold rSheet; rw [if_pos c_4, if_pos (Or.inl c_8), if_neg n_37, if_neg n_51, if_pos c_74]); rw [er_82_1, er_67, hyi, hi9] at hP; rw [e9, fndM_inr, pick_inr, pick_inr, pick_inr, ansR_inr, ek_s9, tN_nI (by omega)]; exact hP) hS (by have e9 : rSheet s9 b n9 = .inr (fun _ => 0, 0) := (by unfold rSheet; rw [if_pos c_4, if_pos (Or.inl c_8), if_neg n_37, if_neg n_51, if_pos c_74]); rw [e9, ansR_inr, er_82_1]; exact upd_at) dX5_sheet_118
                · have n_90 := Int32.not_le.mp c_90
                  have hi2 : i < 40 := lt_in (n := 40) c_90 hi
                  refine lv_aload_n S.1 S.2.1 dX5_sheet_93 rfl (lv_at hl 0 rfl) ?_
                  refine gf_X5_54 S hK hP 0 0 rfl rfl rfl dX5_sheet_94 ?_
                  refine lv_bipush (v := 40) S.1 S.2.1 dX5_sheet_97 (by decide) ?_
                  refine lv_iload_n S.1 S.2.1 dX5_sheet_99 rfl (lv_at hl 1 rfl) ?_
                  refine lv_eqi (y := nI k_s9) ek_s9 ?_
                  refine lv_imul S.1 S.2.1 dX5_sheet_100 ?_
                  refine lv_eqi (y := nI (40 * k_s9)) (pk_mul 40 k_s9) ?_
                  refine lv_iload S.1 S.2.1 dX5_sheet_101 (lv_at hl 4 rfl) ?_
                  refine lv_iadd S.1 S.2.1 dX5_sheet_103 ?_
                  refine lv_eqi (y := nI (40 * k_s9 + i)) (nI_add (40 * k_s9) i) ?_
                  refine lv_iconst (v := 0) S.1 S.2.1 dX5_sheet_104 (by decide) ?_
                  refine b_iastN (i := 40 * k_s9 + i) S hK hP hD hS 4 0 rfl rfl (by omega) (by decide) (sgs_upd (by omega)) (Bs1 := [[mObj am q], [(am 4, .inl (E.2.1, 8, .inl (sg f 8)))], [(am 8, .inl (E.2.1, 4, .inl (sg r_67 4)))], [(am 9, .inl (E.2.1, 4, .inl (sg r_82_1 4)))], [(am 10, .inl (E.2.1, 160, .inl (sg (upd yi (40 * k_s9 + i) 0) 160)))]]) rfl dX5_sheet_105 (fun H locs hP hD hS => ?_)
                  obtain ⟨r_105_2, er_105_2⟩ : ∃ zz9, zz9 = upd yi (40 * k_s9 + i) 0 := ⟨_, rfl⟩
                  rw [← er_105_2] at hP hD
                  refine lv_iinc (v := nI (i + 1)) (lv' := [(4, .int (nI (i + 1))), (0, .ref (am 0)), (1, .int s9), (2, .int b), (3, .int n9)]) S.1 S.2.1 dX5_sheet_106 hl (k := 4) rfl (nI_1 i) (by decide) rfl (fun ls hl => ?_)
                  refine lv_goto (tgt := 86) S.1 S.2.1 dX5_sheet_109 (by decide) ?_
                  exact ih_86 (i + 1) r_105_2 (by omega) (by omega) (by rw [er_105_2, hyi]; exact clrS_s) H locs hP hD hS ls (lv_sub hl [1, 2, 3, 4, 0] rfl)
            exact L_86 (40 + 1) 0 y (by omega) (by omega) clrS_0.symm H locs hP hD hS ls (lv_sub hl [1, 2, 3, 4, 0] rfl)
        · have n_51 := Int32.not_le.mp c_51
          refine lv_aload_n S.1 S.2.1 dX5_sheet_54 rfl (lv_at hl 0 rfl) ?_
          refine lv_ldc (v := (-1000001)) S.1 S.2.1 S.2.2.2.1 (S.2.2.2.2 _ (List.mem_cons_of_mem _ kk_X5_60)) dX5_sheet_55 ?_
          refine go_I (run_V (As := [.int (-1000001)]) (rest := []) (n := 1) S hK (bl_P hP [0, 1] rfl) (bl_D hD [0, 1] rfl rfl) (c_X5_finding l E am q f (-1000001) 0 (by decide) (by decide)) gV_X5_66 (by decide +kernel) rfl ⟨rfl, rfl⟩ ⟨Nat.le_of_ble_eq_true rfl, Nat.le_of_ble_eq_true rfl⟩ (ci := 5) (q0 := 0) rfl rfl hl.1 (Nat.le_of_ble_eq_true rfl) dX5_sheet_57 ⟨Nat.zero_le _, Nat.zero_le _⟩) hP hD hS [0, 1] rfl (had_cons rfl (had_cons cell_ad rfl)) (Bs' := [[mObj am q], [(am 4, .inl (E.2.1, 8, .inl (sg (findM f 0) 8)))], [(am 8, .inl (E.2.1, 4, .inl (sg z 4)))], [(am 9, .inl (E.2.1, 4, .inl (sg u 4)))], [(am 10, .inl (E.2.1, 160, .inl (sg y 160)))]]) rfl (fun H locs hP hD hS => ?_)
          obtain ⟨r_57, er_57⟩ : ∃ zz9 : Row, zz9 = findM f 0 := ⟨_, rfl⟩
          rw [← er_57] at hP hD
          exact retI S hr hlk (by have e9 : rSheet s9 b n9 = .inl 0 := (by unfold rSheet; rw [if_pos c_4, if_pos (Or.inl c_8), if_neg n_37, if_pos n_51]); rw [er_57] at hP; rw [e9, fndM_inl, pick_inl, pick_inl, pick_inl]; exact hP) hS (by have e9 : rSheet s9 b n9 = .inl 0 := (by unfold rSheet; rw [if_pos c_4, if_pos (Or.inl c_8), if_neg n_37, if_pos n_51]); rw [e9]; decide) dX5_sheet_60
      · have n_37 := Int32.not_le.mp c_37
        refine lv_aload_n S.1 S.2.1 dX5_sheet_40 rfl (lv_at hl 0 rfl) ?_
        refine lv_ldcw (v := (-1000007)) S.1 S.2.1 S.2.2.2.1 (S.2.2.2.2 _ (List.mem_cons_of_mem _ kk_X5_307)) dX5_sheet_41 ?_
        refine go_I (run_V (As := [.int (-1000007)]) (rest := []) (n := 1) S hK (bl_P hP [0, 1] rfl) (bl_D hD [0, 1] rfl rfl) (c_X5_finding l E am q f (-1000007) 6 (by decide) (by decide)) gV_X5_66 (by decide +kernel) rfl ⟨rfl, rfl⟩ ⟨Nat.le_of_ble_eq_true rfl, Nat.le_of_ble_eq_true rfl⟩ (ci := 5) (q0 := 0) rfl rfl hl.1 (Nat.le_of_ble_eq_true rfl) dX5_sheet_44 ⟨Nat.zero_le _, Nat.zero_le _⟩) hP hD hS [0, 1] rfl (had_cons rfl (had_cons cell_ad rfl)) (Bs' := [[mObj am q], [(am 4, .inl (E.2.1, 8, .inl (sg (findM f 6) 8)))], [(am 8, .inl (E.2.1, 4, .inl (sg z 4)))], [(am 9, .inl (E.2.1, 4, .inl (sg u 4)))], [(am 10, .inl (E.2.1, 160, .inl (sg y 160)))]]) rfl (fun H locs hP hD hS => ?_)
        obtain ⟨r_44, er_44⟩ : ∃ zz9 : Row, zz9 = findM f 6 := ⟨_, rfl⟩
        rw [← er_44] at hP hD
        exact retI S hr hlk (by have e9 : rSheet s9 b n9 = .inl 6 := (by unfold rSheet; rw [if_pos c_4, if_pos (Or.inl c_8), if_pos n_37]); rw [er_44] at hP; rw [e9, fndM_inl, pick_inl, pick_inl, pick_inl]; exact hP) hS (by have e9 : rSheet s9 b n9 = .inl 6 := (by unfold rSheet; rw [if_pos c_4, if_pos (Or.inl c_8), if_pos n_37]); rw [e9]; decide) dX5_sheet_47
    · refine lv_iload_n S.1 S.2.1 dX5_sheet_11 rfl (lv_at hl 2 rfl) ?_
      refine lv_bipush (v := 8) S.1 S.2.1 dX5_sheet_12 (by decide) ?_
      refine lv_icmp_eq (tgt := 36) S.1 S.2.1 dX5_sheet_14 (by decide) (fun c_14 => ?_) (fun c_14 => ?_)
      · refine lv_iload_n S.1 S.2.1 dX5_sheet_36 rfl (lv_at hl 3 rfl) ?_
        refine lv_if_ge (tgt := 48) S.1 S.2.1 dX5_sheet_37 (by decide) (fun c_37 => ?_) (fun c_37 => ?_)
        · have n_37 := Int32.not_lt.mpr c_37
          refine lv_iload_n S.1 S.2.1 dX5_sheet_48 rfl (lv_at hl 3 rfl) ?_
          refine lv_bipush (v := 40) S.1 S.2.1 dX5_sheet_49 (by decide) ?_
          refine lv_icmp_le (tgt := 61) S.1 S.2.1 dX5_sheet_51 (by decide) (fun c_51 => ?_) (fun c_51 => ?_)
          · have n_51 := Int32.not_lt.mpr c_51
            refine lv_aload_n S.1 S.2.1 dX5_sheet_61 rfl (lv_at hl 0 rfl) ?_
            refine gf_X5_48 S hK hP 0 0 rfl rfl rfl dX5_sheet_62 ?_
            refine lv_iload_n S.1 S.2.1 dX5_sheet_65 rfl (lv_at hl 1 rfl) ?_
            refine lv_eqi (y := nI k_s9) ek_s9 ?_
            refine lv_iload_n S.1 S.2.1 dX5_sheet_66 rfl (lv_at hl 2 rfl) ?_
            refine b_iastN (i := k_s9) S hK hP hD hS 2 0 rfl rfl (by omega) (by decide) (sgs_upd (by omega)) (Bs1 := [[mObj am q], [(am 4, .inl (E.2.1, 8, .inl (sg f 8)))], [(am 8, .inl (E.2.1, 4, .inl (sg (upd z k_s9 b) 4)))], [(am 9, .inl (E.2.1, 4, .inl (sg u 4)))], [(am 10, .inl (E.2.1, 160, .inl (sg y 160)))]]) rfl dX5_sheet_67 (fun H locs hP hD hS => ?_)
            obtain ⟨r_67_3, er_67_3⟩ : ∃ zz9, zz9 = upd z k_s9 b := ⟨_, rfl⟩
            rw [← er_67_3] at hP hD
            refine lv_aload_n S.1 S.2.1 dX5_sheet_68 rfl (lv_at hl 0 rfl) ?_
            refine gf_X5_51 S hK hP 0 0 rfl rfl rfl dX5_sheet_69 ?_
            refine lv_iload_n S.1 S.2.1 dX5_sheet_72 rfl (lv_at hl 1 rfl) ?_
            refine lv_eqi (y := nI k_s9) ek_s9 ?_
            refine lv_iload_n S.1 S.2.1 dX5_sheet_73 rfl (lv_at hl 2 rfl) ?_
            refine lv_if_ne (tgt := 81) S.1 S.2.1 dX5_sheet_74 (by decide) (fun c_74 => ?_) (fun c_74 => ?_)
            · refine lv_iload_n S.1 S.2.1 dX5_sheet_81 rfl (lv_at hl 3 rfl) ?_
              refine b_iastN (i := k_s9) S hK hP hD hS 3 0 rfl rfl (by omega) (by decide) (sgs_upd (by omega)) (Bs1 := [[mObj am q], [(am 4, .inl (E.2.1, 8, .inl (sg f 8)))], [(am 8, .inl (E.2.1, 4, .inl (sg r_67_3 4)))], [(am 9, .inl (E.2.1, 4, .inl (sg (upd u k_s9 n9) 4)))], [(am 10, .inl (E.2.1, 160, .inl (sg y 160)))]]) rfl dX5_sheet_82 (fun H locs hP hD hS => ?_)
              obtain ⟨r_82_4, er_82_4⟩ : ∃ zz9, zz9 = upd u k_s9 n9 := ⟨_, rfl⟩
              rw [← er_82_4] at hP hD
              refine lv_iconst (v := 0) S.1 S.2.1 dX5_sheet_83 (by decide) ?_
              refine lv_istore (lv' := [(4, .int 0), (0, .ref (am 0)), (1, .int s9), (2, .int b), (3, .int n9)]) S.1 S.2.1 dX5_sheet_84 hl (by decide) rfl (fun ls hl => ?_)
              have L_86 : ∀ (fu : Nat) (i : Nat) (yi : Row), (i ≤ 40) → (40 < i + fu) → (yi = clrS y k_s9 i) → ∀ (H : Heap) (locs : List Loc), PE E [[mObj am q], [(am 4, .inl (E.2.1, 8, .inl (sg f 8)))], [(am 8, .inl (E.2.1, 4, .inl (sg r_67_3 4)))], [(am 9, .inl (E.2.1, 4, .inl (sg r_82_4 4)))], [(am 10, .inl (E.2.1, 160, .inl (sg yi 160)))]] H → DE (inB [[mObj am q], [(am 4, .inl (E.2.1, 8, .inl (sg f 8)))], [(am 8, .inl (E.2.1, 4, .inl (sg z 4)))], [(am 9, .inl (E.2.1, 4, .inl (sg u 4)))], [(am 10, .inl (E.2.1, 160, .inl (sg y 160)))]]) [[mObj am q], [(am 4, .inl (E.2.1, 8, .inl (sg f 8)))], [(am 8, .inl (E.2.1, 4, .inl (sg r_67_3 4)))], [(am 9, .inl (E.2.1, 4, .inl (sg r_82_4 4)))], [(am 10, .inl (E.2.1, 160, .inl (sg yi 160)))]] → va_S (inB [[mObj am q], [(am 4, .inl (E.2.1, 8, .inl (sg f 8)))], [(am 8, .inl (E.2.1, 4, .inl (sg z 4)))], [(am 9, .inl (E.2.1, 4, .inl (sg u 4)))], [(am 10, .inl (E.2.1, 160, .inl (sg y 160)))]]) s.heap H locs → ∀ (ls : Array Slot), lv_has ls 5 [(0, .ref (am 0)), (1, .int s9), (2, .int b), (3, .int n9), (4, .int (nI i))] → W p l e ({ frames := 2, cells := 0, slots := 0, locals := 42 }) s m ([.ref (am 0), .int s9, .int b, .int n9] : List Value).toArray below meth c H locs 0 0 (MQ below (qI E [[mObj am q], [(am 4, .inl (E.2.1, 8, .inl (sg f 8)))], [(am 8, .inl (E.2.1, 4, .inl (sg z 4)))], [(am 9, .inl (E.2.1, 4, .inl (sg u 4)))], [(am 10, .inl (E.2.1, 160, .inl (sg y 160)))]] [[mObj am q], [(am 4, .inl (E.2.1, 8, .inl (sg (fndM f (rSheet s9 b n9)) 8)))], [(am 8, .inl (E.2.1, 4, .inl (sg (pick (rSheet s9 b n9) z (upd z (tN s9) b)) 4)))], [(am 9, .inl (E.2.1, 4, .inl (sg (pick (rSheet s9 b n9) u (upd u (tN s9) (ansR (rSheet s9 b n9)))) 4)))], [(am 10, .inl (E.2.1, 160, .inl (sg (pick (rSheet s9 b n9) y (clrS y (tN s9) 40)) 160)))]] (ansR (rSheet s9 b n9))) ([.ref (am 0), .int s9, .int b, .int n9] : List Value).toArray s 0 0 (inB [[mObj am q], [(am 4, .inl (E.2.1, 8, .inl (sg f 8)))], [(am 8, .inl (E.2.1, 4, .inl (sg z 4)))], [(am 9, .inl (E.2.1, 4, .inl (sg u 4)))], [(am 10, .inl (E.2.1, 160, .inl (sg y 160)))]])) (F0 m 86 ls []) := by
                intro fu
                induction fu with
                | zero =>
                  intro i yi hi hf hyi
                  omega
                | succ fu ih_86 =>
                  intro i yi hi hf hyi H locs hP hD hS ls hl
                  refine lv_iload S.1 S.2.1 dX5_sheet_86 (lv_at hl 4 rfl) ?_
                  refine lv_bipush (v := 40) S.1 S.2.1 dX5_sheet_88 (by decide) ?_
                  refine lv_icmp_ge (tgt := 112) S.1 S.2.1 dX5_sheet_90 (by decide) (fun c_90 => ?_) (fun c_90 => ?_)
                  · have n_90 := Int32.not_lt.mpr c_90
                    have hi9 : i = 40 := le_endK (n := 40) hi c_90 (by decide)
                    refine lv_aload_n S.1 S.2.1 dX5_sheet_112 rfl (lv_at hl 0 rfl) ?_
                    refine gf_X5_51 S hK hP 0 0 rfl rfl rfl dX5_sheet_113 ?_
                    refine lv_iload_n S.1 S.2.1 dX5_sheet_116 rfl (lv_at hl 1 rfl) ?_
                    refine lv_eqi (y := nI k_s9) ek_s9 ?_
                    refine b_ialdN (i := k_s9) S hK hP 3 0 rfl rfl (by omega) (by decide) dX5_sheet_117 ?_
                    refine lv_eqi (y := r_82_4 k_s9) (sg_at (by omega)) ?_
                    exact retI S hr hlk (by have e9 : rSheet s9 b n9 = .inr (fun _ => 0, n9) := (by unfold rSheet; rw [if_pos c_4, if_pos (Or.inr (Or.inl c_14)), if_neg n_37, if_neg n_51, if_neg c_74]); rw [er_82_4, er_67_3, hyi, hi9] at hP; rw [e9, fndM_inr, pick_inr, pick_inr, pick_inr, ansR_inr, ek_s9, tN_nI (by omega)]; exact hP) hS (by have e9 : rSheet s9 b n9 = .inr (fun _ => 0, n9) := (by unfold rSheet; rw [if_pos c_4, if_pos (Or.inr (Or.inl c_14)), if_neg n_37, if_neg n_51, if_neg c_74]); rw [e9, ansR_inr, er_82_4]; exact upd_at) dX5_sheet_118
                  · have n_90 := Int32.not_le.mp c_90
                    have hi2 : i < 40 := lt_in (n := 40) c_90 hi
                    refine lv_aload_n S.1 S.2.1 dX5_sheet_93 rfl (lv_at hl 0 rfl) ?_
                    refine gf_X5_54 S hK hP 0 0 rfl rfl rfl dX5_sheet_94 ?_
                    refine lv_bipush (v := 40) S.1 S.2.1 dX5_sheet_97 (by decide) ?_
                    refine lv_iload_n S.1 S.2.1 dX5_sheet_99 rfl (lv_at hl 1 rfl) ?_
                    refine lv_eqi (y := nI k_s9) ek_s9 ?_
                    refine lv_imul S.1 S.2.1 dX5_sheet_100 ?_
                    refine lv_eqi (y := nI (40 * k_s9)) (pk_mul 40 k_s9) ?_
                    refine lv_iload S.1 S.2.1 dX5_sheet_101 (lv_at hl 4 rfl) ?_
                    refine lv_iadd S.1 S.2.1 dX5_sheet_103 ?_
                    refine lv_eqi (y := nI (40 * k_s9 + i)) (nI_add (40 * k_s9) i) ?_
                    refine lv_iconst (v := 0) S.1 S.2.1 dX5_sheet_104 (by decide) ?_
                    refine b_iastN (i := 40 * k_s9 + i) S hK hP hD hS 4 0 rfl rfl (by omega) (by decide) (sgs_upd (by omega)) (Bs1 := [[mObj am q], [(am 4, .inl (E.2.1, 8, .inl (sg f 8)))], [(am 8, .inl (E.2.1, 4, .inl (sg r_67_3 4)))], [(am 9, .inl (E.2.1, 4, .inl (sg r_82_4 4)))], [(am 10, .inl (E.2.1, 160, .inl (sg (upd yi (40 * k_s9 + i) 0) 160)))]]) rfl dX5_sheet_105 (fun H locs hP hD hS => ?_)
                    obtain ⟨r_105_5, er_105_5⟩ : ∃ zz9, zz9 = upd yi (40 * k_s9 + i) 0 := ⟨_, rfl⟩
                    rw [← er_105_5] at hP hD
                    refine lv_iinc (v := nI (i + 1)) (lv' := [(4, .int (nI (i + 1))), (0, .ref (am 0)), (1, .int s9), (2, .int b), (3, .int n9)]) S.1 S.2.1 dX5_sheet_106 hl (k := 4) rfl (nI_1 i) (by decide) rfl (fun ls hl => ?_)
                    refine lv_goto (tgt := 86) S.1 S.2.1 dX5_sheet_109 (by decide) ?_
                    exact ih_86 (i + 1) r_105_5 (by omega) (by omega) (by rw [er_105_5, hyi]; exact clrS_s) H locs hP hD hS ls (lv_sub hl [1, 2, 3, 4, 0] rfl)
              exact L_86 (40 + 1) 0 y (by omega) (by omega) clrS_0.symm H locs hP hD hS ls (lv_sub hl [1, 2, 3, 4, 0] rfl)
            · refine lv_iconst (v := 0) S.1 S.2.1 dX5_sheet_77 (by decide) ?_
              refine lv_goto (tgt := 82) S.1 S.2.1 dX5_sheet_78 (by decide) ?_
              refine b_iastN (i := k_s9) S hK hP hD hS 3 0 rfl rfl (by omega) (by decide) (sgs_upd (by omega)) (Bs1 := [[mObj am q], [(am 4, .inl (E.2.1, 8, .inl (sg f 8)))], [(am 8, .inl (E.2.1, 4, .inl (sg r_67_3 4)))], [(am 9, .inl (E.2.1, 4, .inl (sg (upd u k_s9 0) 4)))], [(am 10, .inl (E.2.1, 160, .inl (sg y 160)))]]) rfl dX5_sheet_82 (fun H locs hP hD hS => ?_)
              obtain ⟨r_82_6, er_82_6⟩ : ∃ zz9, zz9 = upd u k_s9 0 := ⟨_, rfl⟩
              rw [← er_82_6] at hP hD
              refine lv_iconst (v := 0) S.1 S.2.1 dX5_sheet_83 (by decide) ?_
              refine lv_istore (lv' := [(4, .int 0), (0, .ref (am 0)), (1, .int s9), (2, .int b), (3, .int n9)]) S.1 S.2.1 dX5_sheet_84 hl (by decide) rfl (fun ls hl => ?_)
              have L_86 : ∀ (fu : Nat) (i : Nat) (yi : Row), (i ≤ 40) → (40 < i + fu) → (yi = clrS y k_s9 i) → ∀ (H : Heap) (locs : List Loc), PE E [[mObj am q], [(am 4, .inl (E.2.1, 8, .inl (sg f 8)))], [(am 8, .inl (E.2.1, 4, .inl (sg r_67_3 4)))], [(am 9, .inl (E.2.1, 4, .inl (sg r_82_6 4)))], [(am 10, .inl (E.2.1, 160, .inl (sg yi 160)))]] H → DE (inB [[mObj am q], [(am 4, .inl (E.2.1, 8, .inl (sg f 8)))], [(am 8, .inl (E.2.1, 4, .inl (sg z 4)))], [(am 9, .inl (E.2.1, 4, .inl (sg u 4)))], [(am 10, .inl (E.2.1, 160, .inl (sg y 160)))]]) [[mObj am q], [(am 4, .inl (E.2.1, 8, .inl (sg f 8)))], [(am 8, .inl (E.2.1, 4, .inl (sg r_67_3 4)))], [(am 9, .inl (E.2.1, 4, .inl (sg r_82_6 4)))], [(am 10, .inl (E.2.1, 160, .inl (sg yi 160)))]] → va_S (inB [[mObj am q], [(am 4, .inl (E.2.1, 8, .inl (sg f 8)))], [(am 8, .inl (E.2.1, 4, .inl (sg z 4)))], [(am 9, .inl (E.2.1, 4, .inl (sg u 4)))], [(am 10, .inl (E.2.1, 160, .inl (sg y 160)))]]) s.heap H locs → ∀ (ls : Array Slot), lv_has ls 5 [(0, .ref (am 0)), (1, .int s9), (2, .int b), (3, .int n9), (4, .int (nI i))] → W p l e ({ frames := 2, cells := 0, slots := 0, locals := 42 }) s m ([.ref (am 0), .int s9, .int b, .int n9] : List Value).toArray below meth c H locs 0 0 (MQ below (qI E [[mObj am q], [(am 4, .inl (E.2.1, 8, .inl (sg f 8)))], [(am 8, .inl (E.2.1, 4, .inl (sg z 4)))], [(am 9, .inl (E.2.1, 4, .inl (sg u 4)))], [(am 10, .inl (E.2.1, 160, .inl (sg y 160)))]] [[mObj am q], [(am 4, .inl (E.2.1, 8, .inl (sg (fndM f (rSheet s9 b n9)) 8)))], [(am 8, .inl (E.2.1, 4, .inl (sg (pick (rSheet s9 b n9) z (upd z (tN s9) b)) 4)))], [(am 9, .inl (E.2.1, 4, .inl (sg (pick (rSheet s9 b n9) u (upd u (tN s9) (ansR (rSheet s9 b n9)))) 4)))], [(am 10, .inl (E.2.1, 160, .inl (sg (pick (rSheet s9 b n9) y (clrS y (tN s9) 40)) 160)))]] (ansR (rSheet s9 b n9))) ([.ref (am 0), .int s9, .int b, .int n9] : List Value).toArray s 0 0 (inB [[mObj am q], [(am 4, .inl (E.2.1, 8, .inl (sg f 8)))], [(am 8, .inl (E.2.1, 4, .inl (sg z 4)))], [(am 9, .inl (E.2.1, 4, .inl (sg u 4)))], [(am 10, .inl (E.2.1, 160, .inl (sg y 160)))]])) (F0 m 86 ls []) := by
                intro fu
                induction fu with
                | zero =>
                  intro i yi hi hf hyi
                  omega
                | succ fu ih_86 =>
                  intro i yi hi hf hyi H locs hP hD hS ls hl
                  refine lv_iload S.1 S.2.1 dX5_sheet_86 (lv_at hl 4 rfl) ?_
                  refine lv_bipush (v := 40) S.1 S.2.1 dX5_sheet_88 (by decide) ?_
                  refine lv_icmp_ge (tgt := 112) S.1 S.2.1 dX5_sheet_90 (by decide) (fun c_90 => ?_) (fun c_90 => ?_)
                  · have n_90 := Int32.not_lt.mpr c_90
                    have hi9 : i = 40 := le_endK (n := 40) hi c_90 (by decide)
                    refine lv_aload_n S.1 S.2.1 dX5_sheet_112 rfl (lv_at hl 0 rfl) ?_
                    refine gf_X5_51 S hK hP 0 0 rfl rfl rfl dX5_sheet_113 ?_
                    refine lv_iload_n S.1 S.2.1 dX5_sheet_116 rfl (lv_at hl 1 rfl) ?_
                    refine lv_eqi (y := nI k_s9) ek_s9 ?_
                    refine b_ialdN (i := k_s9) S hK hP 3 0 rfl rfl (by omega) (by decide) dX5_sheet_117 ?_
                    refine lv_eqi (y := r_82_6 k_s9) (sg_at (by omega)) ?_
                    exact retI S hr hlk (by have e9 : rSheet s9 b n9 = .inr (fun _ => 0, 0) := (by unfold rSheet; rw [if_pos c_4, if_pos (Or.inr (Or.inl c_14)), if_neg n_37, if_neg n_51, if_pos c_74]); rw [er_82_6, er_67_3, hyi, hi9] at hP; rw [e9, fndM_inr, pick_inr, pick_inr, pick_inr, ansR_inr, ek_s9, tN_nI (by omega)]; exact hP) hS (by have e9 : rSheet s9 b n9 = .inr (fun _ => 0, 0) := (by unfold rSheet; rw [if_pos c_4, if_pos (Or.inr (Or.inl c_14)), if_neg n_37, if_neg n_51, if_pos c_74]); rw [e9, ansR_inr, er_82_6]; exact upd_at) dX5_sheet_118
                  · have n_90 := Int32.not_le.mp c_90
                    have hi2 : i < 40 := lt_in (n := 40) c_90 hi
                    refine lv_aload_n S.1 S.2.1 dX5_sheet_93 rfl (lv_at hl 0 rfl) ?_
                    refine gf_X5_54 S hK hP 0 0 rfl rfl rfl dX5_sheet_94 ?_
                    refine lv_bipush (v := 40) S.1 S.2.1 dX5_sheet_97 (by decide) ?_
                    refine lv_iload_n S.1 S.2.1 dX5_sheet_99 rfl (lv_at hl 1 rfl) ?_
                    refine lv_eqi (y := nI k_s9) ek_s9 ?_
                    refine lv_imul S.1 S.2.1 dX5_sheet_100 ?_
                    refine lv_eqi (y := nI (40 * k_s9)) (pk_mul 40 k_s9) ?_
                    refine lv_iload S.1 S.2.1 dX5_sheet_101 (lv_at hl 4 rfl) ?_
                    refine lv_iadd S.1 S.2.1 dX5_sheet_103 ?_
                    refine lv_eqi (y := nI (40 * k_s9 + i)) (nI_add (40 * k_s9) i) ?_
                    refine lv_iconst (v := 0) S.1 S.2.1 dX5_sheet_104 (by decide) ?_
                    refine b_iastN (i := 40 * k_s9 + i) S hK hP hD hS 4 0 rfl rfl (by omega) (by decide) (sgs_upd (by omega)) (Bs1 := [[mObj am q], [(am 4, .inl (E.2.1, 8, .inl (sg f 8)))], [(am 8, .inl (E.2.1, 4, .inl (sg r_67_3 4)))], [(am 9, .inl (E.2.1, 4, .inl (sg r_82_6 4)))], [(am 10, .inl (E.2.1, 160, .inl (sg (upd yi (40 * k_s9 + i) 0) 160)))]]) rfl dX5_sheet_105 (fun H locs hP hD hS => ?_)
                    obtain ⟨r_105_7, er_105_7⟩ : ∃ zz9, zz9 = upd yi (40 * k_s9 + i) 0 := ⟨_, rfl⟩
                    rw [← er_105_7] at hP hD
                    refine lv_iinc (v := nI (i + 1)) (lv' := [(4, .int (nI (i + 1))), (0, .ref (am 0)), (1, .int s9), (2, .int b), (3, .int n9)]) S.1 S.2.1 dX5_sheet_106 hl (k := 4) rfl (nI_1 i) (by decide) rfl (fun ls hl => ?_)
                    refine lv_goto (tgt := 86) S.1 S.2.1 dX5_sheet_109 (by decide) ?_
                    exact ih_86 (i + 1) r_105_7 (by omega) (by omega) (by rw [er_105_7, hyi]; exact clrS_s) H locs hP hD hS ls (lv_sub hl [1, 2, 3, 4, 0] rfl)
              exact L_86 (40 + 1) 0 y (by omega) (by omega) clrS_0.symm H locs hP hD hS ls (lv_sub hl [1, 2, 3, 4, 0] rfl)
          · have n_51 := Int32.not_le.mp c_51
            refine lv_aload_n S.1 S.2.1 dX5_sheet_54 rfl (lv_at hl 0 rfl) ?_
            refine lv_ldc (v := (-1000001)) S.1 S.2.1 S.2.2.2.1 (S.2.2.2.2 _ (List.mem_cons_of_mem _ kk_X5_60)) dX5_sheet_55 ?_
            refine go_I (run_V (As := [.int (-1000001)]) (rest := []) (n := 1) S hK (bl_P hP [0, 1] rfl) (bl_D hD [0, 1] rfl rfl) (c_X5_finding l E am q f (-1000001) 0 (by decide) (by decide)) gV_X5_66 (by decide +kernel) rfl ⟨rfl, rfl⟩ ⟨Nat.le_of_ble_eq_true rfl, Nat.le_of_ble_eq_true rfl⟩ (ci := 5) (q0 := 0) rfl rfl hl.1 (Nat.le_of_ble_eq_true rfl) dX5_sheet_57 ⟨Nat.zero_le _, Nat.zero_le _⟩) hP hD hS [0, 1] rfl (had_cons rfl (had_cons cell_ad rfl)) (Bs' := [[mObj am q], [(am 4, .inl (E.2.1, 8, .inl (sg (findM f 0) 8)))], [(am 8, .inl (E.2.1, 4, .inl (sg z 4)))], [(am 9, .inl (E.2.1, 4, .inl (sg u 4)))], [(am 10, .inl (E.2.1, 160, .inl (sg y 160)))]]) rfl (fun H locs hP hD hS => ?_)
            obtain ⟨r_57_8, er_57_8⟩ : ∃ zz9 : Row, zz9 = findM f 0 := ⟨_, rfl⟩
            rw [← er_57_8] at hP hD
            exact retI S hr hlk (by have e9 : rSheet s9 b n9 = .inl 0 := (by unfold rSheet; rw [if_pos c_4, if_pos (Or.inr (Or.inl c_14)), if_neg n_37, if_pos n_51]); rw [er_57_8] at hP; rw [e9, fndM_inl, pick_inl, pick_inl, pick_inl]; exact hP) hS (by have e9 : rSheet s9 b n9 = .inl 0 := (by unfold rSheet; rw [if_pos c_4, if_pos (Or.inr (Or.inl c_14)), if_neg n_37, if_pos n_51]); rw [e9]; decide) dX5_sheet_60
        · have n_37 := Int32.not_le.mp c_37
          refine lv_aload_n S.1 S.2.1 dX5_sheet_40 rfl (lv_at hl 0 rfl) ?_
          refine lv_ldcw (v := (-1000007)) S.1 S.2.1 S.2.2.2.1 (S.2.2.2.2 _ (List.mem_cons_of_mem _ kk_X5_307)) dX5_sheet_41 ?_
          refine go_I (run_V (As := [.int (-1000007)]) (rest := []) (n := 1) S hK (bl_P hP [0, 1] rfl) (bl_D hD [0, 1] rfl rfl) (c_X5_finding l E am q f (-1000007) 6 (by decide) (by decide)) gV_X5_66 (by decide +kernel) rfl ⟨rfl, rfl⟩ ⟨Nat.le_of_ble_eq_true rfl, Nat.le_of_ble_eq_true rfl⟩ (ci := 5) (q0 := 0) rfl rfl hl.1 (Nat.le_of_ble_eq_true rfl) dX5_sheet_44 ⟨Nat.zero_le _, Nat.zero_le _⟩) hP hD hS [0, 1] rfl (had_cons rfl (had_cons cell_ad rfl)) (Bs' := [[mObj am q], [(am 4, .inl (E.2.1, 8, .inl (sg (findM f 6) 8)))], [(am 8, .inl (E.2.1, 4, .inl (sg z 4)))], [(am 9, .inl (E.2.1, 4, .inl (sg u 4)))], [(am 10, .inl (E.2.1, 160, .inl (sg y 160)))]]) rfl (fun H locs hP hD hS => ?_)
          obtain ⟨r_44_9, er_44_9⟩ : ∃ zz9 : Row, zz9 = findM f 6 := ⟨_, rfl⟩
          rw [← er_44_9] at hP hD
          exact retI S hr hlk (by have e9 : rSheet s9 b n9 = .inl 6 := (by unfold rSheet; rw [if_pos c_4, if_pos (Or.inr (Or.inl c_14)), if_pos n_37]); rw [er_44_9] at hP; rw [e9, fndM_inl, pick_inl, pick_inl, pick_inl]; exact hP) hS (by have e9 : rSheet s9 b n9 = .inl 6 := (by unfold rSheet; rw [if_pos c_4, if_pos (Or.inr (Or.inl c_14)), if_pos n_37]); rw [e9]; decide) dX5_sheet_47
      · refine lv_iload_n S.1 S.2.1 dX5_sheet_17 rfl (lv_at hl 2 rfl) ?_
        refine lv_bipush (v := 16) S.1 S.2.1 dX5_sheet_18 (by decide) ?_
        refine lv_icmp_eq (tgt := 36) S.1 S.2.1 dX5_sheet_20 (by decide) (fun c_20 => ?_) (fun c_20 => ?_)
        · refine lv_iload_n S.1 S.2.1 dX5_sheet_36 rfl (lv_at hl 3 rfl) ?_
          refine lv_if_ge (tgt := 48) S.1 S.2.1 dX5_sheet_37 (by decide) (fun c_37 => ?_) (fun c_37 => ?_)
          · have n_37 := Int32.not_lt.mpr c_37
            refine lv_iload_n S.1 S.2.1 dX5_sheet_48 rfl (lv_at hl 3 rfl) ?_
            refine lv_bipush (v := 40) S.1 S.2.1 dX5_sheet_49 (by decide) ?_
            refine lv_icmp_le (tgt := 61) S.1 S.2.1 dX5_sheet_51 (by decide) (fun c_51 => ?_) (fun c_51 => ?_)
            · have n_51 := Int32.not_lt.mpr c_51
              refine lv_aload_n S.1 S.2.1 dX5_sheet_61 rfl (lv_at hl 0 rfl) ?_
              refine gf_X5_48 S hK hP 0 0 rfl rfl rfl dX5_sheet_62 ?_
              refine lv_iload_n S.1 S.2.1 dX5_sheet_65 rfl (lv_at hl 1 rfl) ?_
              refine lv_eqi (y := nI k_s9) ek_s9 ?_
              refine lv_iload_n S.1 S.2.1 dX5_sheet_66 rfl (lv_at hl 2 rfl) ?_
              refine b_iastN (i := k_s9) S hK hP hD hS 2 0 rfl rfl (by omega) (by decide) (sgs_upd (by omega)) (Bs1 := [[mObj am q], [(am 4, .inl (E.2.1, 8, .inl (sg f 8)))], [(am 8, .inl (E.2.1, 4, .inl (sg (upd z k_s9 b) 4)))], [(am 9, .inl (E.2.1, 4, .inl (sg u 4)))], [(am 10, .inl (E.2.1, 160, .inl (sg y 160)))]]) rfl dX5_sheet_67 (fun H locs hP hD hS => ?_)
              obtain ⟨r_67_10, er_67_10⟩ : ∃ zz9, zz9 = upd z k_s9 b := ⟨_, rfl⟩
              rw [← er_67_10] at hP hD
              refine lv_aload_n S.1 S.2.1 dX5_sheet_68 rfl (lv_at hl 0 rfl) ?_
              refine gf_X5_51 S hK hP 0 0 rfl rfl rfl dX5_sheet_69 ?_
              refine lv_iload_n S.1 S.2.1 dX5_sheet_72 rfl (lv_at hl 1 rfl) ?_
              refine lv_eqi (y := nI k_s9) ek_s9 ?_
              refine lv_iload_n S.1 S.2.1 dX5_sheet_73 rfl (lv_at hl 2 rfl) ?_
              refine lv_if_ne (tgt := 81) S.1 S.2.1 dX5_sheet_74 (by decide) (fun c_74 => ?_) (fun c_74 => ?_)
              · refine lv_iload_n S.1 S.2.1 dX5_sheet_81 rfl (lv_at hl 3 rfl) ?_
                refine b_iastN (i := k_s9) S hK hP hD hS 3 0 rfl rfl (by omega) (by decide) (sgs_upd (by omega)) (Bs1 := [[mObj am q], [(am 4, .inl (E.2.1, 8, .inl (sg f 8)))], [(am 8, .inl (E.2.1, 4, .inl (sg r_67_10 4)))], [(am 9, .inl (E.2.1, 4, .inl (sg (upd u k_s9 n9) 4)))], [(am 10, .inl (E.2.1, 160, .inl (sg y 160)))]]) rfl dX5_sheet_82 (fun H locs hP hD hS => ?_)
                obtain ⟨r_82_11, er_82_11⟩ : ∃ zz9, zz9 = upd u k_s9 n9 := ⟨_, rfl⟩
                rw [← er_82_11] at hP hD
                refine lv_iconst (v := 0) S.1 S.2.1 dX5_sheet_83 (by decide) ?_
                refine lv_istore (lv' := [(4, .int 0), (0, .ref (am 0)), (1, .int s9), (2, .int b), (3, .int n9)]) S.1 S.2.1 dX5_sheet_84 hl (by decide) rfl (fun ls hl => ?_)
                have L_86 : ∀ (fu : Nat) (i : Nat) (yi : Row), (i ≤ 40) → (40 < i + fu) → (yi = clrS y k_s9 i) → ∀ (H : Heap) (locs : List Loc), PE E [[mObj am q], [(am 4, .inl (E.2.1, 8, .inl (sg f 8)))], [(am 8, .inl (E.2.1, 4, .inl (sg r_67_10 4)))], [(am 9, .inl (E.2.1, 4, .inl (sg r_82_11 4)))], [(am 10, .inl (E.2.1, 160, .inl (sg yi 160)))]] H → DE (inB [[mObj am q], [(am 4, .inl (E.2.1, 8, .inl (sg f 8)))], [(am 8, .inl (E.2.1, 4, .inl (sg z 4)))], [(am 9, .inl (E.2.1, 4, .inl (sg u 4)))], [(am 10, .inl (E.2.1, 160, .inl (sg y 160)))]]) [[mObj am q], [(am 4, .inl (E.2.1, 8, .inl (sg f 8)))], [(am 8, .inl (E.2.1, 4, .inl (sg r_67_10 4)))], [(am 9, .inl (E.2.1, 4, .inl (sg r_82_11 4)))], [(am 10, .inl (E.2.1, 160, .inl (sg yi 160)))]] → va_S (inB [[mObj am q], [(am 4, .inl (E.2.1, 8, .inl (sg f 8)))], [(am 8, .inl (E.2.1, 4, .inl (sg z 4)))], [(am 9, .inl (E.2.1, 4, .inl (sg u 4)))], [(am 10, .inl (E.2.1, 160, .inl (sg y 160)))]]) s.heap H locs → ∀ (ls : Array Slot), lv_has ls 5 [(0, .ref (am 0)), (1, .int s9), (2, .int b), (3, .int n9), (4, .int (nI i))] → W p l e ({ frames := 2, cells := 0, slots := 0, locals := 42 }) s m ([.ref (am 0), .int s9, .int b, .int n9] : List Value).toArray below meth c H locs 0 0 (MQ below (qI E [[mObj am q], [(am 4, .inl (E.2.1, 8, .inl (sg f 8)))], [(am 8, .inl (E.2.1, 4, .inl (sg z 4)))], [(am 9, .inl (E.2.1, 4, .inl (sg u 4)))], [(am 10, .inl (E.2.1, 160, .inl (sg y 160)))]] [[mObj am q], [(am 4, .inl (E.2.1, 8, .inl (sg (fndM f (rSheet s9 b n9)) 8)))], [(am 8, .inl (E.2.1, 4, .inl (sg (pick (rSheet s9 b n9) z (upd z (tN s9) b)) 4)))], [(am 9, .inl (E.2.1, 4, .inl (sg (pick (rSheet s9 b n9) u (upd u (tN s9) (ansR (rSheet s9 b n9)))) 4)))], [(am 10, .inl (E.2.1, 160, .inl (sg (pick (rSheet s9 b n9) y (clrS y (tN s9) 40)) 160)))]] (ansR (rSheet s9 b n9))) ([.ref (am 0), .int s9, .int b, .int n9] : List Value).toArray s 0 0 (inB [[mObj am q], [(am 4, .inl (E.2.1, 8, .inl (sg f 8)))], [(am 8, .inl (E.2.1, 4, .inl (sg z 4)))], [(am 9, .inl (E.2.1, 4, .inl (sg u 4)))], [(am 10, .inl (E.2.1, 160, .inl (sg y 160)))]])) (F0 m 86 ls []) := by
                  intro fu
                  induction fu with
                  | zero =>
                    intro i yi hi hf hyi
                    omega
                  | succ fu ih_86 =>
                    intro i yi hi hf hyi H locs hP hD hS ls hl
                    refine lv_iload S.1 S.2.1 dX5_sheet_86 (lv_at hl 4 rfl) ?_
                    refine lv_bipush (v := 40) S.1 S.2.1 dX5_sheet_88 (by decide) ?_
                    refine lv_icmp_ge (tgt := 112) S.1 S.2.1 dX5_sheet_90 (by decide) (fun c_90 => ?_) (fun c_90 => ?_)
                    · have n_90 := Int32.not_lt.mpr c_90
                      have hi9 : i = 40 := le_endK (n := 40) hi c_90 (by decide)
                      refine lv_aload_n S.1 S.2.1 dX5_sheet_112 rfl (lv_at hl 0 rfl) ?_
                      refine gf_X5_51 S hK hP 0 0 rfl rfl rfl dX5_sheet_113 ?_
                      refine lv_iload_n S.1 S.2.1 dX5_sheet_116 rfl (lv_at hl 1 rfl) ?_
                      refine lv_eqi (y := nI k_s9) ek_s9 ?_
                      refine b_ialdN (i := k_s9) S hK hP 3 0 rfl rfl (by omega) (by decide) dX5_sheet_117 ?_
                      refine lv_eqi (y := r_82_11 k_s9) (sg_at (by omega)) ?_
                      exact retI S hr hlk (by have e9 : rSheet s9 b n9 = .inr (fun _ => 0, n9) := (by unfold rSheet; rw [if_pos c_4, if_pos (Or.inr (Or.inr (Or.inl c_20))), if_neg n_37, if_neg n_51, if_neg c_74]); rw [er_82_11, er_67_10, hyi, hi9] at hP; rw [e9, fndM_inr, pick_inr, pick_inr, pick_inr, ansR_inr, ek_s9, tN_nI (by omega)]; exact hP) hS (by have e9 : rSheet s9 b n9 = .inr (fun _ => 0, n9) := (by unfold rSheet; rw [if_pos c_4, if_pos (Or.inr (Or.inr (Or.inl c_20))), if_neg n_37, if_neg n_51, if_neg c_74]); rw [e9, ansR_inr, er_82_11]; exact upd_at) dX5_sheet_118
                    · have n_90 := Int32.not_le.mp c_90
                      have hi2 : i < 40 := lt_in (n := 40) c_90 hi
                      refine lv_aload_n S.1 S.2.1 dX5_sheet_93 rfl (lv_at hl 0 rfl) ?_
                      refine gf_X5_54 S hK hP 0 0 rfl rfl rfl dX5_sheet_94 ?_
                      refine lv_bipush (v := 40) S.1 S.2.1 dX5_sheet_97 (by decide) ?_
                      refine lv_iload_n S.1 S.2.1 dX5_sheet_99 rfl (lv_at hl 1 rfl) ?_
                      refine lv_eqi (y := nI k_s9) ek_s9 ?_
                      refine lv_imul S.1 S.2.1 dX5_sheet_100 ?_
                      refine lv_eqi (y := nI (40 * k_s9)) (pk_mul 40 k_s9) ?_
                      refine lv_iload S.1 S.2.1 dX5_sheet_101 (lv_at hl 4 rfl) ?_
                      refine lv_iadd S.1 S.2.1 dX5_sheet_103 ?_
                      refine lv_eqi (y := nI (40 * k_s9 + i)) (nI_add (40 * k_s9) i) ?_
                      refine lv_iconst (v := 0) S.1 S.2.1 dX5_sheet_104 (by decide) ?_
                      refine b_iastN (i := 40 * k_s9 + i) S hK hP hD hS 4 0 rfl rfl (by omega) (by decide) (sgs_upd (by omega)) (Bs1 := [[mObj am q], [(am 4, .inl (E.2.1, 8, .inl (sg f 8)))], [(am 8, .inl (E.2.1, 4, .inl (sg r_67_10 4)))], [(am 9, .inl (E.2.1, 4, .inl (sg r_82_11 4)))], [(am 10, .inl (E.2.1, 160, .inl (sg (upd yi (40 * k_s9 + i) 0) 160)))]]) rfl dX5_sheet_105 (fun H locs hP hD hS => ?_)
                      obtain ⟨r_105_12, er_105_12⟩ : ∃ zz9, zz9 = upd yi (40 * k_s9 + i) 0 := ⟨_, rfl⟩
                      rw [← er_105_12] at hP hD
                      refine lv_iinc (v := nI (i + 1)) (lv' := [(4, .int (nI (i + 1))), (0, .ref (am 0)), (1, .int s9), (2, .int b), (3, .int n9)]) S.1 S.2.1 dX5_sheet_106 hl (k := 4) rfl (nI_1 i) (by decide) rfl (fun ls hl => ?_)
                      refine lv_goto (tgt := 86) S.1 S.2.1 dX5_sheet_109 (by decide) ?_
                      exact ih_86 (i + 1) r_105_12 (by omega) (by omega) (by rw [er_105_12, hyi]; exact clrS_s) H locs hP hD hS ls (lv_sub hl [1, 2, 3, 4, 0] rfl)
                exact L_86 (40 + 1) 0 y (by omega) (by omega) clrS_0.symm H locs hP hD hS ls (lv_sub hl [1, 2, 3, 4, 0] rfl)
              · refine lv_iconst (v := 0) S.1 S.2.1 dX5_sheet_77 (by decide) ?_
                refine lv_goto (tgt := 82) S.1 S.2.1 dX5_sheet_78 (by decide) ?_
                refine b_iastN (i := k_s9) S hK hP hD hS 3 0 rfl rfl (by omega) (by decide) (sgs_upd (by omega)) (Bs1 := [[mObj am q], [(am 4, .inl (E.2.1, 8, .inl (sg f 8)))], [(am 8, .inl (E.2.1, 4, .inl (sg r_67_10 4)))], [(am 9, .inl (E.2.1, 4, .inl (sg (upd u k_s9 0) 4)))], [(am 10, .inl (E.2.1, 160, .inl (sg y 160)))]]) rfl dX5_sheet_82 (fun H locs hP hD hS => ?_)
                obtain ⟨r_82_13, er_82_13⟩ : ∃ zz9, zz9 = upd u k_s9 0 := ⟨_, rfl⟩
                rw [← er_82_13] at hP hD
                refine lv_iconst (v := 0) S.1 S.2.1 dX5_sheet_83 (by decide) ?_
                refine lv_istore (lv' := [(4, .int 0), (0, .ref (am 0)), (1, .int s9), (2, .int b), (3, .int n9)]) S.1 S.2.1 dX5_sheet_84 hl (by decide) rfl (fun ls hl => ?_)
                have L_86 : ∀ (fu : Nat) (i : Nat) (yi : Row), (i ≤ 40) → (40 < i + fu) → (yi = clrS y k_s9 i) → ∀ (H : Heap) (locs : List Loc), PE E [[mObj am q], [(am 4, .inl (E.2.1, 8, .inl (sg f 8)))], [(am 8, .inl (E.2.1, 4, .inl (sg r_67_10 4)))], [(am 9, .inl (E.2.1, 4, .inl (sg r_82_13 4)))], [(am 10, .inl (E.2.1, 160, .inl (sg yi 160)))]] H → DE (inB [[mObj am q], [(am 4, .inl (E.2.1, 8, .inl (sg f 8)))], [(am 8, .inl (E.2.1, 4, .inl (sg z 4)))], [(am 9, .inl (E.2.1, 4, .inl (sg u 4)))], [(am 10, .inl (E.2.1, 160, .inl (sg y 160)))]]) [[mObj am q], [(am 4, .inl (E.2.1, 8, .inl (sg f 8)))], [(am 8, .inl (E.2.1, 4, .inl (sg r_67_10 4)))], [(am 9, .inl (E.2.1, 4, .inl (sg r_82_13 4)))], [(am 10, .inl (E.2.1, 160, .inl (sg yi 160)))]] → va_S (inB [[mObj am q], [(am 4, .inl (E.2.1, 8, .inl (sg f 8)))], [(am 8, .inl (E.2.1, 4, .inl (sg z 4)))], [(am 9, .inl (E.2.1, 4, .inl (sg u 4)))], [(am 10, .inl (E.2.1, 160, .inl (sg y 160)))]]) s.heap H locs → ∀ (ls : Array Slot), lv_has ls 5 [(0, .ref (am 0)), (1, .int s9), (2, .int b), (3, .int n9), (4, .int (nI i))] → W p l e ({ frames := 2, cells := 0, slots := 0, locals := 42 }) s m ([.ref (am 0), .int s9, .int b, .int n9] : List Value).toArray below meth c H locs 0 0 (MQ below (qI E [[mObj am q], [(am 4, .inl (E.2.1, 8, .inl (sg f 8)))], [(am 8, .inl (E.2.1, 4, .inl (sg z 4)))], [(am 9, .inl (E.2.1, 4, .inl (sg u 4)))], [(am 10, .inl (E.2.1, 160, .inl (sg y 160)))]] [[mObj am q], [(am 4, .inl (E.2.1, 8, .inl (sg (fndM f (rSheet s9 b n9)) 8)))], [(am 8, .inl (E.2.1, 4, .inl (sg (pick (rSheet s9 b n9) z (upd z (tN s9) b)) 4)))], [(am 9, .inl (E.2.1, 4, .inl (sg (pick (rSheet s9 b n9) u (upd u (tN s9) (ansR (rSheet s9 b n9)))) 4)))], [(am 10, .inl (E.2.1, 160, .inl (sg (pick (rSheet s9 b n9) y (clrS y (tN s9) 40)) 160)))]] (ansR (rSheet s9 b n9))) ([.ref (am 0), .int s9, .int b, .int n9] : List Value).toArray s 0 0 (inB [[mObj am q], [(am 4, .inl (E.2.1, 8, .inl (sg f 8)))], [(am 8, .inl (E.2.1, 4, .inl (sg z 4)))], [(am 9, .inl (E.2.1, 4, .inl (sg u 4)))], [(am 10, .inl (E.2.1, 160, .inl (sg y 160)))]])) (F0 m 86 ls []) := by
                  intro fu
                  induction fu with
                  | zero =>
                    intro i yi hi hf hyi
                    omega
                  | succ fu ih_86 =>
                    intro i yi hi hf hyi H locs hP hD hS ls hl
                    refine lv_iload S.1 S.2.1 dX5_sheet_86 (lv_at hl 4 rfl) ?_
                    refine lv_bipush (v := 40) S.1 S.2.1 dX5_sheet_88 (by decide) ?_
                    refine lv_icmp_ge (tgt := 112) S.1 S.2.1 dX5_sheet_90 (by decide) (fun c_90 => ?_) (fun c_90 => ?_)
                    · have n_90 := Int32.not_lt.mpr c_90
                      have hi9 : i = 40 := le_endK (n := 40) hi c_90 (by decide)
                      refine lv_aload_n S.1 S.2.1 dX5_sheet_112 rfl (lv_at hl 0 rfl) ?_
                      refine gf_X5_51 S hK hP 0 0 rfl rfl rfl dX5_sheet_113 ?_
                      refine lv_iload_n S.1 S.2.1 dX5_sheet_116 rfl (lv_at hl 1 rfl) ?_
                      refine lv_eqi (y := nI k_s9) ek_s9 ?_
                      refine b_ialdN (i := k_s9) S hK hP 3 0 rfl rfl (by omega) (by decide) dX5_sheet_117 ?_
                      refine lv_eqi (y := r_82_13 k_s9) (sg_at (by omega)) ?_
                      exact retI S hr hlk (by have e9 : rSheet s9 b n9 = .inr (fun _ => 0, 0) := (by unfold rSheet; rw [if_pos c_4, if_pos (Or.inr (Or.inr (Or.inl c_20))), if_neg n_37, if_neg n_51, if_pos c_74]); rw [er_82_13, er_67_10, hyi, hi9] at hP; rw [e9, fndM_inr, pick_inr, pick_inr, pick_inr, ansR_inr, ek_s9, tN_nI (by omega)]; exact hP) hS (by have e9 : rSheet s9 b n9 = .inr (fun _ => 0, 0) := (by unfold rSheet; rw [if_pos c_4, if_pos (Or.inr (Or.inr (Or.inl c_20))), if_neg n_37, if_neg n_51, if_pos c_74]); rw [e9, ansR_inr, er_82_13]; exact upd_at) dX5_sheet_118
                    · have n_90 := Int32.not_le.mp c_90
                      have hi2 : i < 40 := lt_in (n := 40) c_90 hi
                      refine lv_aload_n S.1 S.2.1 dX5_sheet_93 rfl (lv_at hl 0 rfl) ?_
                      refine gf_X5_54 S hK hP 0 0 rfl rfl rfl dX5_sheet_94 ?_
                      refine lv_bipush (v := 40) S.1 S.2.1 dX5_sheet_97 (by decide) ?_
                      refine lv_iload_n S.1 S.2.1 dX5_sheet_99 rfl (lv_at hl 1 rfl) ?_
                      refine lv_eqi (y := nI k_s9) ek_s9 ?_
                      refine lv_imul S.1 S.2.1 dX5_sheet_100 ?_
                      refine lv_eqi (y := nI (40 * k_s9)) (pk_mul 40 k_s9) ?_
                      refine lv_iload S.1 S.2.1 dX5_sheet_101 (lv_at hl 4 rfl) ?_
                      refine lv_iadd S.1 S.2.1 dX5_sheet_103 ?_
                      refine lv_eqi (y := nI (40 * k_s9 + i)) (nI_add (40 * k_s9) i) ?_
                      refine lv_iconst (v := 0) S.1 S.2.1 dX5_sheet_104 (by decide) ?_
                      refine b_iastN (i := 40 * k_s9 + i) S hK hP hD hS 4 0 rfl rfl (by omega) (by decide) (sgs_upd (by omega)) (Bs1 := [[mObj am q], [(am 4, .inl (E.2.1, 8, .inl (sg f 8)))], [(am 8, .inl (E.2.1, 4, .inl (sg r_67_10 4)))], [(am 9, .inl (E.2.1, 4, .inl (sg r_82_13 4)))], [(am 10, .inl (E.2.1, 160, .inl (sg (upd yi (40 * k_s9 + i) 0) 160)))]]) rfl dX5_sheet_105 (fun H locs hP hD hS => ?_)
                      obtain ⟨r_105_14, er_105_14⟩ : ∃ zz9, zz9 = upd yi (40 * k_s9 + i) 0 := ⟨_, rfl⟩
                      rw [← er_105_14] at hP hD
                      refine lv_iinc (v := nI (i + 1)) (lv' := [(4, .int (nI (i + 1))), (0, .ref (am 0)), (1, .int s9), (2, .int b), (3, .int n9)]) S.1 S.2.1 dX5_sheet_106 hl (k := 4) rfl (nI_1 i) (by decide) rfl (fun ls hl => ?_)
                      refine lv_goto (tgt := 86) S.1 S.2.1 dX5_sheet_109 (by decide) ?_
                      exact ih_86 (i + 1) r_105_14 (by omega) (by omega) (by rw [er_105_14, hyi]; exact clrS_s) H locs hP hD hS ls (lv_sub hl [1, 2, 3, 4, 0] rfl)
                exact L_86 (40 + 1) 0 y (by omega) (by omega) clrS_0.symm H locs hP hD hS ls (lv_sub hl [1, 2, 3, 4, 0] rfl)
            · have n_51 := Int32.not_le.mp c_51
              refine lv_aload_n S.1 S.2.1 dX5_sheet_54 rfl (lv_at hl 0 rfl) ?_
              refine lv_ldc (v := (-1000001)) S.1 S.2.1 S.2.2.2.1 (S.2.2.2.2 _ (List.mem_cons_of_mem _ kk_X5_60)) dX5_sheet_55 ?_
              refine go_I (run_V (As := [.int (-1000001)]) (rest := []) (n := 1) S hK (bl_P hP [0, 1] rfl) (bl_D hD [0, 1] rfl rfl) (c_X5_finding l E am q f (-1000001) 0 (by decide) (by decide)) gV_X5_66 (by decide +kernel) rfl ⟨rfl, rfl⟩ ⟨Nat.le_of_ble_eq_true rfl, Nat.le_of_ble_eq_true rfl⟩ (ci := 5) (q0 := 0) rfl rfl hl.1 (Nat.le_of_ble_eq_true rfl) dX5_sheet_57 ⟨Nat.zero_le _, Nat.zero_le _⟩) hP hD hS [0, 1] rfl (had_cons rfl (had_cons cell_ad rfl)) (Bs' := [[mObj am q], [(am 4, .inl (E.2.1, 8, .inl (sg (findM f 0) 8)))], [(am 8, .inl (E.2.1, 4, .inl (sg z 4)))], [(am 9, .inl (E.2.1, 4, .inl (sg u 4)))], [(am 10, .inl (E.2.1, 160, .inl (sg y 160)))]]) rfl (fun H locs hP hD hS => ?_)
              obtain ⟨r_57_15, er_57_15⟩ : ∃ zz9 : Row, zz9 = findM f 0 := ⟨_, rfl⟩
              rw [← er_57_15] at hP hD
              exact retI S hr hlk (by have e9 : rSheet s9 b n9 = .inl 0 := (by unfold rSheet; rw [if_pos c_4, if_pos (Or.inr (Or.inr (Or.inl c_20))), if_neg n_37, if_pos n_51]); rw [er_57_15] at hP; rw [e9, fndM_inl, pick_inl, pick_inl, pick_inl]; exact hP) hS (by have e9 : rSheet s9 b n9 = .inl 0 := (by unfold rSheet; rw [if_pos c_4, if_pos (Or.inr (Or.inr (Or.inl c_20))), if_neg n_37, if_pos n_51]); rw [e9]; decide) dX5_sheet_60
          · have n_37 := Int32.not_le.mp c_37
            refine lv_aload_n S.1 S.2.1 dX5_sheet_40 rfl (lv_at hl 0 rfl) ?_
            refine lv_ldcw (v := (-1000007)) S.1 S.2.1 S.2.2.2.1 (S.2.2.2.2 _ (List.mem_cons_of_mem _ kk_X5_307)) dX5_sheet_41 ?_
            refine go_I (run_V (As := [.int (-1000007)]) (rest := []) (n := 1) S hK (bl_P hP [0, 1] rfl) (bl_D hD [0, 1] rfl rfl) (c_X5_finding l E am q f (-1000007) 6 (by decide) (by decide)) gV_X5_66 (by decide +kernel) rfl ⟨rfl, rfl⟩ ⟨Nat.le_of_ble_eq_true rfl, Nat.le_of_ble_eq_true rfl⟩ (ci := 5) (q0 := 0) rfl rfl hl.1 (Nat.le_of_ble_eq_true rfl) dX5_sheet_44 ⟨Nat.zero_le _, Nat.zero_le _⟩) hP hD hS [0, 1] rfl (had_cons rfl (had_cons cell_ad rfl)) (Bs' := [[mObj am q], [(am 4, .inl (E.2.1, 8, .inl (sg (findM f 6) 8)))], [(am 8, .inl (E.2.1, 4, .inl (sg z 4)))], [(am 9, .inl (E.2.1, 4, .inl (sg u 4)))], [(am 10, .inl (E.2.1, 160, .inl (sg y 160)))]]) rfl (fun H locs hP hD hS => ?_)
            obtain ⟨r_44_16, er_44_16⟩ : ∃ zz9 : Row, zz9 = findM f 6 := ⟨_, rfl⟩
            rw [← er_44_16] at hP hD
            exact retI S hr hlk (by have e9 : rSheet s9 b n9 = .inl 6 := (by unfold rSheet; rw [if_pos c_4, if_pos (Or.inr (Or.inr (Or.inl c_20))), if_pos n_37]); rw [er_44_16] at hP; rw [e9, fndM_inl, pick_inl, pick_inl, pick_inl]; exact hP) hS (by have e9 : rSheet s9 b n9 = .inl 6 := (by unfold rSheet; rw [if_pos c_4, if_pos (Or.inr (Or.inr (Or.inl c_20))), if_pos n_37]); rw [e9]; decide) dX5_sheet_47
        · refine lv_iload_n S.1 S.2.1 dX5_sheet_23 rfl (lv_at hl 2 rfl) ?_
          refine lv_bipush (v := 32) S.1 S.2.1 dX5_sheet_24 (by decide) ?_
          refine lv_icmp_eq (tgt := 36) S.1 S.2.1 dX5_sheet_26 (by decide) (fun c_26 => ?_) (fun c_26 => ?_)
          · refine lv_iload_n S.1 S.2.1 dX5_sheet_36 rfl (lv_at hl 3 rfl) ?_
            refine lv_if_ge (tgt := 48) S.1 S.2.1 dX5_sheet_37 (by decide) (fun c_37 => ?_) (fun c_37 => ?_)
            · have n_37 := Int32.not_lt.mpr c_37
              refine lv_iload_n S.1 S.2.1 dX5_sheet_48 rfl (lv_at hl 3 rfl) ?_
              refine lv_bipush (v := 40) S.1 S.2.1 dX5_sheet_49 (by decide) ?_
              refine lv_icmp_le (tgt := 61) S.1 S.2.1 dX5_sheet_51 (by decide) (fun c_51 => ?_) (fun c_51 => ?_)
              · have n_51 := Int32.not_lt.mpr c_51
                refine lv_aload_n S.1 S.2.1 dX5_sheet_61 rfl (lv_at hl 0 rfl) ?_
                refine gf_X5_48 S hK hP 0 0 rfl rfl rfl dX5_sheet_62 ?_
                refine lv_iload_n S.1 S.2.1 dX5_sheet_65 rfl (lv_at hl 1 rfl) ?_
                refine lv_eqi (y := nI k_s9) ek_s9 ?_
                refine lv_iload_n S.1 S.2.1 dX5_sheet_66 rfl (lv_at hl 2 rfl) ?_
                refine b_iastN (i := k_s9) S hK hP hD hS 2 0 rfl rfl (by omega) (by decide) (sgs_upd (by omega)) (Bs1 := [[mObj am q], [(am 4, .inl (E.2.1, 8, .inl (sg f 8)))], [(am 8, .inl (E.2.1, 4, .inl (sg (upd z k_s9 b) 4)))], [(am 9, .inl (E.2.1, 4, .inl (sg u 4)))], [(am 10, .inl (E.2.1, 160, .inl (sg y 160)))]]) rfl dX5_sheet_67 (fun H locs hP hD hS => ?_)
                obtain ⟨r_67_17, er_67_17⟩ : ∃ zz9, zz9 = upd z k_s9 b := ⟨_, rfl⟩
                rw [← er_67_17] at hP hD
                refine lv_aload_n S.1 S.2.1 dX5_sheet_68 rfl (lv_at hl 0 rfl) ?_
                refine gf_X5_51 S hK hP 0 0 rfl rfl rfl dX5_sheet_69 ?_
                refine lv_iload_n S.1 S.2.1 dX5_sheet_72 rfl (lv_at hl 1 rfl) ?_
                refine lv_eqi (y := nI k_s9) ek_s9 ?_
                refine lv_iload_n S.1 S.2.1 dX5_sheet_73 rfl (lv_at hl 2 rfl) ?_
                refine lv_if_ne (tgt := 81) S.1 S.2.1 dX5_sheet_74 (by decide) (fun c_74 => ?_) (fun c_74 => ?_)
                · refine lv_iload_n S.1 S.2.1 dX5_sheet_81 rfl (lv_at hl 3 rfl) ?_
                  refine b_iastN (i := k_s9) S hK hP hD hS 3 0 rfl rfl (by omega) (by decide) (sgs_upd (by omega)) (Bs1 := [[mObj am q], [(am 4, .inl (E.2.1, 8, .inl (sg f 8)))], [(am 8, .inl (E.2.1, 4, .inl (sg r_67_17 4)))], [(am 9, .inl (E.2.1, 4, .inl (sg (upd u k_s9 n9) 4)))], [(am 10, .inl (E.2.1, 160, .inl (sg y 160)))]]) rfl dX5_sheet_82 (fun H locs hP hD hS => ?_)
                  obtain ⟨r_82_18, er_82_18⟩ : ∃ zz9, zz9 = upd u k_s9 n9 := ⟨_, rfl⟩
                  rw [← er_82_18] at hP hD
                  refine lv_iconst (v := 0) S.1 S.2.1 dX5_sheet_83 (by decide) ?_
                  refine lv_istore (lv' := [(4, .int 0), (0, .ref (am 0)), (1, .int s9), (2, .int b), (3, .int n9)]) S.1 S.2.1 dX5_sheet_84 hl (by decide) rfl (fun ls hl => ?_)
                  have L_86 : ∀ (fu : Nat) (i : Nat) (yi : Row), (i ≤ 40) → (40 < i + fu) → (yi = clrS y k_s9 i) → ∀ (H : Heap) (locs : List Loc), PE E [[mObj am q], [(am 4, .inl (E.2.1, 8, .inl (sg f 8)))], [(am 8, .inl (E.2.1, 4, .inl (sg r_67_17 4)))], [(am 9, .inl (E.2.1, 4, .inl (sg r_82_18 4)))], [(am 10, .inl (E.2.1, 160, .inl (sg yi 160)))]] H → DE (inB [[mObj am q], [(am 4, .inl (E.2.1, 8, .inl (sg f 8)))], [(am 8, .inl (E.2.1, 4, .inl (sg z 4)))], [(am 9, .inl (E.2.1, 4, .inl (sg u 4)))], [(am 10, .inl (E.2.1, 160, .inl (sg y 160)))]]) [[mObj am q], [(am 4, .inl (E.2.1, 8, .inl (sg f 8)))], [(am 8, .inl (E.2.1, 4, .inl (sg r_67_17 4)))], [(am 9, .inl (E.2.1, 4, .inl (sg r_82_18 4)))], [(am 10, .inl (E.2.1, 160, .inl (sg yi 160)))]] → va_S (inB [[mObj am q], [(am 4, .inl (E.2.1, 8, .inl (sg f 8)))], [(am 8, .inl (E.2.1, 4, .inl (sg z 4)))], [(am 9, .inl (E.2.1, 4, .inl (sg u 4)))], [(am 10, .inl (E.2.1, 160, .inl (sg y 160)))]]) s.heap H locs → ∀ (ls : Array Slot), lv_has ls 5 [(0, .ref (am 0)), (1, .int s9), (2, .int b), (3, .int n9), (4, .int (nI i))] → W p l e ({ frames := 2, cells := 0, slots := 0, locals := 42 }) s m ([.ref (am 0), .int s9, .int b, .int n9] : List Value).toArray below meth c H locs 0 0 (MQ below (qI E [[mObj am q], [(am 4, .inl (E.2.1, 8, .inl (sg f 8)))], [(am 8, .inl (E.2.1, 4, .inl (sg z 4)))], [(am 9, .inl (E.2.1, 4, .inl (sg u 4)))], [(am 10, .inl (E.2.1, 160, .inl (sg y 160)))]] [[mObj am q], [(am 4, .inl (E.2.1, 8, .inl (sg (fndM f (rSheet s9 b n9)) 8)))], [(am 8, .inl (E.2.1, 4, .inl (sg (pick (rSheet s9 b n9) z (upd z (tN s9) b)) 4)))], [(am 9, .inl (E.2.1, 4, .inl (sg (pick (rSheet s9 b n9) u (upd u (tN s9) (ansR (rSheet s9 b n9)))) 4)))], [(am 10, .inl (E.2.1, 160, .inl (sg (pick (rSheet s9 b n9) y (clrS y (tN s9) 40)) 160)))]] (ansR (rSheet s9 b n9))) ([.ref (am 0), .int s9, .int b, .int n9] : List Value).toArray s 0 0 (inB [[mObj am q], [(am 4, .inl (E.2.1, 8, .inl (sg f 8)))], [(am 8, .inl (E.2.1, 4, .inl (sg z 4)))], [(am 9, .inl (E.2.1, 4, .inl (sg u 4)))], [(am 10, .inl (E.2.1, 160, .inl (sg y 160)))]])) (F0 m 86 ls []) := by
                    intro fu
                    induction fu with
                    | zero =>
                      intro i yi hi hf hyi
                      omega
                    | succ fu ih_86 =>
                      intro i yi hi hf hyi H locs hP hD hS ls hl
                      refine lv_iload S.1 S.2.1 dX5_sheet_86 (lv_at hl 4 rfl) ?_
                      refine lv_bipush (v := 40) S.1 S.2.1 dX5_sheet_88 (by decide) ?_
                      refine lv_icmp_ge (tgt := 112) S.1 S.2.1 dX5_sheet_90 (by decide) (fun c_90 => ?_) (fun c_90 => ?_)
                      · have n_90 := Int32.not_lt.mpr c_90
                        have hi9 : i = 40 := le_endK (n := 40) hi c_90 (by decide)
                        refine lv_aload_n S.1 S.2.1 dX5_sheet_112 rfl (lv_at hl 0 rfl) ?_
                        refine gf_X5_51 S hK hP 0 0 rfl rfl rfl dX5_sheet_113 ?_
                        refine lv_iload_n S.1 S.2.1 dX5_sheet_116 rfl (lv_at hl 1 rfl) ?_
                        refine lv_eqi (y := nI k_s9) ek_s9 ?_
                        refine b_ialdN (i := k_s9) S hK hP 3 0 rfl rfl (by omega) (by decide) dX5_sheet_117 ?_
                        refine lv_eqi (y := r_82_18 k_s9) (sg_at (by omega)) ?_
                        exact retI S hr hlk (by have e9 : rSheet s9 b n9 = .inr (fun _ => 0, n9) := (by unfold rSheet; rw [if_pos c_4, if_pos (Or.inr (Or.inr (Or.inr c_26))), if_neg n_37, if_neg n_51, if_neg c_74]); rw [er_82_18, er_67_17, hyi, hi9] at hP; rw [e9, fndM_inr, pick_inr, pick_inr, pick_inr, ansR_inr, ek_s9, tN_nI (by omega)]; exact hP) hS (by have e9 : rSheet s9 b n9 = .inr (fun _ => 0, n9) := (by unfold rSheet; rw [if_pos c_4, if_pos (Or.inr (Or.inr (Or.inr c_26))), if_neg n_37, if_neg n_51, if_neg c_74]); rw [e9, ansR_inr, er_82_18]; exact upd_at) dX5_sheet_118
                      · have n_90 := Int32.not_le.mp c_90
                        have hi2 : i < 40 := lt_in (n := 40) c_90 hi
                        refine lv_aload_n S.1 S.2.1 dX5_sheet_93 rfl (lv_at hl 0 rfl) ?_
                        refine gf_X5_54 S hK hP 0 0 rfl rfl rfl dX5_sheet_94 ?_
                        refine lv_bipush (v := 40) S.1 S.2.1 dX5_sheet_97 (by decide) ?_
                        refine lv_iload_n S.1 S.2.1 dX5_sheet_99 rfl (lv_at hl 1 rfl) ?_
                        refine lv_eqi (y := nI k_s9) ek_s9 ?_
                        refine lv_imul S.1 S.2.1 dX5_sheet_100 ?_
                        refine lv_eqi (y := nI (40 * k_s9)) (pk_mul 40 k_s9) ?_
                        refine lv_iload S.1 S.2.1 dX5_sheet_101 (lv_at hl 4 rfl) ?_
                        refine lv_iadd S.1 S.2.1 dX5_sheet_103 ?_
                        refine lv_eqi (y := nI (40 * k_s9 + i)) (nI_add (40 * k_s9) i) ?_
                        refine lv_iconst (v := 0) S.1 S.2.1 dX5_sheet_104 (by decide) ?_
                        refine b_iastN (i := 40 * k_s9 + i) S hK hP hD hS 4 0 rfl rfl (by omega) (by decide) (sgs_upd (by omega)) (Bs1 := [[mObj am q], [(am 4, .inl (E.2.1, 8, .inl (sg f 8)))], [(am 8, .inl (E.2.1, 4, .inl (sg r_67_17 4)))], [(am 9, .inl (E.2.1, 4, .inl (sg r_82_18 4)))], [(am 10, .inl (E.2.1, 160, .inl (sg (upd yi (40 * k_s9 + i) 0) 160)))]]) rfl dX5_sheet_105 (fun H locs hP hD hS => ?_)
                        obtain ⟨r_105_19, er_105_19⟩ : ∃ zz9, zz9 = upd yi (40 * k_s9 + i) 0 := ⟨_, rfl⟩
                        rw [← er_105_19] at hP hD
                        refine lv_iinc (v := nI (i + 1)) (lv' := [(4, .int (nI (i + 1))), (0, .ref (am 0)), (1, .int s9), (2, .int b), (3, .int n9)]) S.1 S.2.1 dX5_sheet_106 hl (k := 4) rfl (nI_1 i) (by decide) rfl (fun ls hl => ?_)
                        refine lv_goto (tgt := 86) S.1 S.2.1 dX5_sheet_109 (by decide) ?_
                        exact ih_86 (i + 1) r_105_19 (by omega) (by omega) (by rw [er_105_19, hyi]; exact clrS_s) H locs hP hD hS ls (lv_sub hl [1, 2, 3, 4, 0] rfl)
                  exact L_86 (40 + 1) 0 y (by omega) (by omega) clrS_0.symm H locs hP hD hS ls (lv_sub hl [1, 2, 3, 4, 0] rfl)
                · refine lv_iconst (v := 0) S.1 S.2.1 dX5_sheet_77 (by decide) ?_
                  refine lv_goto (tgt := 82) S.1 S.2.1 dX5_sheet_78 (by decide) ?_
                  refine b_iastN (i := k_s9) S hK hP hD hS 3 0 rfl rfl (by omega) (by decide) (sgs_upd (by omega)) (Bs1 := [[mObj am q], [(am 4, .inl (E.2.1, 8, .inl (sg f 8)))], [(am 8, .inl (E.2.1, 4, .inl (sg r_67_17 4)))], [(am 9, .inl (E.2.1, 4, .inl (sg (upd u k_s9 0) 4)))], [(am 10, .inl (E.2.1, 160, .inl (sg y 160)))]]) rfl dX5_sheet_82 (fun H locs hP hD hS => ?_)
                  obtain ⟨r_82_20, er_82_20⟩ : ∃ zz9, zz9 = upd u k_s9 0 := ⟨_, rfl⟩
                  rw [← er_82_20] at hP hD
                  refine lv_iconst (v := 0) S.1 S.2.1 dX5_sheet_83 (by decide) ?_
                  refine lv_istore (lv' := [(4, .int 0), (0, .ref (am 0)), (1, .int s9), (2, .int b), (3, .int n9)]) S.1 S.2.1 dX5_sheet_84 hl (by decide) rfl (fun ls hl => ?_)
                  have L_86 : ∀ (fu : Nat) (i : Nat) (yi : Row), (i ≤ 40) → (40 < i + fu) → (yi = clrS y k_s9 i) → ∀ (H : Heap) (locs : List Loc), PE E [[mObj am q], [(am 4, .inl (E.2.1, 8, .inl (sg f 8)))], [(am 8, .inl (E.2.1, 4, .inl (sg r_67_17 4)))], [(am 9, .inl (E.2.1, 4, .inl (sg r_82_20 4)))], [(am 10, .inl (E.2.1, 160, .inl (sg yi 160)))]] H → DE (inB [[mObj am q], [(am 4, .inl (E.2.1, 8, .inl (sg f 8)))], [(am 8, .inl (E.2.1, 4, .inl (sg z 4)))], [(am 9, .inl (E.2.1, 4, .inl (sg u 4)))], [(am 10, .inl (E.2.1, 160, .inl (sg y 160)))]]) [[mObj am q], [(am 4, .inl (E.2.1, 8, .inl (sg f 8)))], [(am 8, .inl (E.2.1, 4, .inl (sg r_67_17 4)))], [(am 9, .inl (E.2.1, 4, .inl (sg r_82_20 4)))], [(am 10, .inl (E.2.1, 160, .inl (sg yi 160)))]] → va_S (inB [[mObj am q], [(am 4, .inl (E.2.1, 8, .inl (sg f 8)))], [(am 8, .inl (E.2.1, 4, .inl (sg z 4)))], [(am 9, .inl (E.2.1, 4, .inl (sg u 4)))], [(am 10, .inl (E.2.1, 160, .inl (sg y 160)))]]) s.heap H locs → ∀ (ls : Array Slot), lv_has ls 5 [(0, .ref (am 0)), (1, .int s9), (2, .int b), (3, .int n9), (4, .int (nI i))] → W p l e ({ frames := 2, cells := 0, slots := 0, locals := 42 }) s m ([.ref (am 0), .int s9, .int b, .int n9] : List Value).toArray below meth c H locs 0 0 (MQ below (qI E [[mObj am q], [(am 4, .inl (E.2.1, 8, .inl (sg f 8)))], [(am 8, .inl (E.2.1, 4, .inl (sg z 4)))], [(am 9, .inl (E.2.1, 4, .inl (sg u 4)))], [(am 10, .inl (E.2.1, 160, .inl (sg y 160)))]] [[mObj am q], [(am 4, .inl (E.2.1, 8, .inl (sg (fndM f (rSheet s9 b n9)) 8)))], [(am 8, .inl (E.2.1, 4, .inl (sg (pick (rSheet s9 b n9) z (upd z (tN s9) b)) 4)))], [(am 9, .inl (E.2.1, 4, .inl (sg (pick (rSheet s9 b n9) u (upd u (tN s9) (ansR (rSheet s9 b n9)))) 4)))], [(am 10, .inl (E.2.1, 160, .inl (sg (pick (rSheet s9 b n9) y (clrS y (tN s9) 40)) 160)))]] (ansR (rSheet s9 b n9))) ([.ref (am 0), .int s9, .int b, .int n9] : List Value).toArray s 0 0 (inB [[mObj am q], [(am 4, .inl (E.2.1, 8, .inl (sg f 8)))], [(am 8, .inl (E.2.1, 4, .inl (sg z 4)))], [(am 9, .inl (E.2.1, 4, .inl (sg u 4)))], [(am 10, .inl (E.2.1, 160, .inl (sg y 160)))]])) (F0 m 86 ls []) := by
                    intro fu
                    induction fu with
                    | zero =>
                      intro i yi hi hf hyi
                      omega
                    | succ fu ih_86 =>
                      intro i yi hi hf hyi H locs hP hD hS ls hl
                      refine lv_iload S.1 S.2.1 dX5_sheet_86 (lv_at hl 4 rfl) ?_
                      refine lv_bipush (v := 40) S.1 S.2.1 dX5_sheet_88 (by decide) ?_
                      refine lv_icmp_ge (tgt := 112) S.1 S.2.1 dX5_sheet_90 (by decide) (fun c_90 => ?_) (fun c_90 => ?_)
                      · have n_90 := Int32.not_lt.mpr c_90
                        have hi9 : i = 40 := le_endK (n := 40) hi c_90 (by decide)
                        refine lv_aload_n S.1 S.2.1 dX5_sheet_112 rfl (lv_at hl 0 rfl) ?_
                        refine gf_X5_51 S hK hP 0 0 rfl rfl rfl dX5_sheet_113 ?_
                        refine lv_iload_n S.1 S.2.1 dX5_sheet_116 rfl (lv_at hl 1 rfl) ?_
                        refine lv_eqi (y := nI k_s9) ek_s9 ?_
                        refine b_ialdN (i := k_s9) S hK hP 3 0 rfl rfl (by omega) (by decide) dX5_sheet_117 ?_
                        refine lv_eqi (y := r_82_20 k_s9) (sg_at (by omega)) ?_
                        exact retI S hr hlk (by have e9 : rSheet s9 b n9 = .inr (fun _ => 0, 0) := (by unfold rSheet; rw [if_pos c_4, if_pos (Or.inr (Or.inr (Or.inr c_26))), if_neg n_37, if_neg n_51, if_pos c_74]); rw [er_82_20, er_67_17, hyi, hi9] at hP; rw [e9, fndM_inr, pick_inr, pick_inr, pick_inr, ansR_inr, ek_s9, tN_nI (by omega)]; exact hP) hS (by have e9 : rSheet s9 b n9 = .inr (fun _ => 0, 0) := (by unfold rSheet; rw [if_pos c_4, if_pos (Or.inr (Or.inr (Or.inr c_26))), if_neg n_37, if_neg n_51, if_pos c_74]); rw [e9, ansR_inr, er_82_20]; exact upd_at) dX5_sheet_118
                      · have n_90 := Int32.not_le.mp c_90
                        have hi2 : i < 40 := lt_in (n := 40) c_90 hi
                        refine lv_aload_n S.1 S.2.1 dX5_sheet_93 rfl (lv_at hl 0 rfl) ?_
                        refine gf_X5_54 S hK hP 0 0 rfl rfl rfl dX5_sheet_94 ?_
                        refine lv_bipush (v := 40) S.1 S.2.1 dX5_sheet_97 (by decide) ?_
                        refine lv_iload_n S.1 S.2.1 dX5_sheet_99 rfl (lv_at hl 1 rfl) ?_
                        refine lv_eqi (y := nI k_s9) ek_s9 ?_
                        refine lv_imul S.1 S.2.1 dX5_sheet_100 ?_
                        refine lv_eqi (y := nI (40 * k_s9)) (pk_mul 40 k_s9) ?_
                        refine lv_iload S.1 S.2.1 dX5_sheet_101 (lv_at hl 4 rfl) ?_
                        refine lv_iadd S.1 S.2.1 dX5_sheet_103 ?_
                        refine lv_eqi (y := nI (40 * k_s9 + i)) (nI_add (40 * k_s9) i) ?_
                        refine lv_iconst (v := 0) S.1 S.2.1 dX5_sheet_104 (by decide) ?_
                        refine b_iastN (i := 40 * k_s9 + i) S hK hP hD hS 4 0 rfl rfl (by omega) (by decide) (sgs_upd (by omega)) (Bs1 := [[mObj am q], [(am 4, .inl (E.2.1, 8, .inl (sg f 8)))], [(am 8, .inl (E.2.1, 4, .inl (sg r_67_17 4)))], [(am 9, .inl (E.2.1, 4, .inl (sg r_82_20 4)))], [(am 10, .inl (E.2.1, 160, .inl (sg (upd yi (40 * k_s9 + i) 0) 160)))]]) rfl dX5_sheet_105 (fun H locs hP hD hS => ?_)
                        obtain ⟨r_105_21, er_105_21⟩ : ∃ zz9, zz9 = upd yi (40 * k_s9 + i) 0 := ⟨_, rfl⟩
                        rw [← er_105_21] at hP hD
                        refine lv_iinc (v := nI (i + 1)) (lv' := [(4, .int (nI (i + 1))), (0, .ref (am 0)), (1, .int s9), (2, .int b), (3, .int n9)]) S.1 S.2.1 dX5_sheet_106 hl (k := 4) rfl (nI_1 i) (by decide) rfl (fun ls hl => ?_)
                        refine lv_goto (tgt := 86) S.1 S.2.1 dX5_sheet_109 (by decide) ?_
                        exact ih_86 (i + 1) r_105_21 (by omega) (by omega) (by rw [er_105_21, hyi]; exact clrS_s) H locs hP hD hS ls (lv_sub hl [1, 2, 3, 4, 0] rfl)
                  exact L_86 (40 + 1) 0 y (by omega) (by omega) clrS_0.symm H locs hP hD hS ls (lv_sub hl [1, 2, 3, 4, 0] rfl)
              · have n_51 := Int32.not_le.mp c_51
                refine lv_aload_n S.1 S.2.1 dX5_sheet_54 rfl (lv_at hl 0 rfl) ?_
                refine lv_ldc (v := (-1000001)) S.1 S.2.1 S.2.2.2.1 (S.2.2.2.2 _ (List.mem_cons_of_mem _ kk_X5_60)) dX5_sheet_55 ?_
                refine go_I (run_V (As := [.int (-1000001)]) (rest := []) (n := 1) S hK (bl_P hP [0, 1] rfl) (bl_D hD [0, 1] rfl rfl) (c_X5_finding l E am q f (-1000001) 0 (by decide) (by decide)) gV_X5_66 (by decide +kernel) rfl ⟨rfl, rfl⟩ ⟨Nat.le_of_ble_eq_true rfl, Nat.le_of_ble_eq_true rfl⟩ (ci := 5) (q0 := 0) rfl rfl hl.1 (Nat.le_of_ble_eq_true rfl) dX5_sheet_57 ⟨Nat.zero_le _, Nat.zero_le _⟩) hP hD hS [0, 1] rfl (had_cons rfl (had_cons cell_ad rfl)) (Bs' := [[mObj am q], [(am 4, .inl (E.2.1, 8, .inl (sg (findM f 0) 8)))], [(am 8, .inl (E.2.1, 4, .inl (sg z 4)))], [(am 9, .inl (E.2.1, 4, .inl (sg u 4)))], [(am 10, .inl (E.2.1, 160, .inl (sg y 160)))]]) rfl (fun H locs hP hD hS => ?_)
                obtain ⟨r_57_22, er_57_22⟩ : ∃ zz9 : Row, zz9 = findM f 0 := ⟨_, rfl⟩
                rw [← er_57_22] at hP hD
                exact retI S hr hlk (by have e9 : rSheet s9 b n9 = .inl 0 := (by unfold rSheet; rw [if_pos c_4, if_pos (Or.inr (Or.inr (Or.inr c_26))), if_neg n_37, if_pos n_51]); rw [er_57_22] at hP; rw [e9, fndM_inl, pick_inl, pick_inl, pick_inl]; exact hP) hS (by have e9 : rSheet s9 b n9 = .inl 0 := (by unfold rSheet; rw [if_pos c_4, if_pos (Or.inr (Or.inr (Or.inr c_26))), if_neg n_37, if_pos n_51]); rw [e9]; decide) dX5_sheet_60
            · have n_37 := Int32.not_le.mp c_37
              refine lv_aload_n S.1 S.2.1 dX5_sheet_40 rfl (lv_at hl 0 rfl) ?_
              refine lv_ldcw (v := (-1000007)) S.1 S.2.1 S.2.2.2.1 (S.2.2.2.2 _ (List.mem_cons_of_mem _ kk_X5_307)) dX5_sheet_41 ?_
              refine go_I (run_V (As := [.int (-1000007)]) (rest := []) (n := 1) S hK (bl_P hP [0, 1] rfl) (bl_D hD [0, 1] rfl rfl) (c_X5_finding l E am q f (-1000007) 6 (by decide) (by decide)) gV_X5_66 (by decide +kernel) rfl ⟨rfl, rfl⟩ ⟨Nat.le_of_ble_eq_true rfl, Nat.le_of_ble_eq_true rfl⟩ (ci := 5) (q0 := 0) rfl rfl hl.1 (Nat.le_of_ble_eq_true rfl) dX5_sheet_44 ⟨Nat.zero_le _, Nat.zero_le _⟩) hP hD hS [0, 1] rfl (had_cons rfl (had_cons cell_ad rfl)) (Bs' := [[mObj am q], [(am 4, .inl (E.2.1, 8, .inl (sg (findM f 6) 8)))], [(am 8, .inl (E.2.1, 4, .inl (sg z 4)))], [(am 9, .inl (E.2.1, 4, .inl (sg u 4)))], [(am 10, .inl (E.2.1, 160, .inl (sg y 160)))]]) rfl (fun H locs hP hD hS => ?_)
              obtain ⟨r_44_23, er_44_23⟩ : ∃ zz9 : Row, zz9 = findM f 6 := ⟨_, rfl⟩
              rw [← er_44_23] at hP hD
              exact retI S hr hlk (by have e9 : rSheet s9 b n9 = .inl 6 := (by unfold rSheet; rw [if_pos c_4, if_pos (Or.inr (Or.inr (Or.inr c_26))), if_pos n_37]); rw [er_44_23] at hP; rw [e9, fndM_inl, pick_inl, pick_inl, pick_inl]; exact hP) hS (by have e9 : rSheet s9 b n9 = .inl 6 := (by unfold rSheet; rw [if_pos c_4, if_pos (Or.inr (Or.inr (Or.inr c_26))), if_pos n_37]); rw [e9]; decide) dX5_sheet_47
          · refine lv_aload_n S.1 S.2.1 dX5_sheet_29 rfl (lv_at hl 0 rfl) ?_
            refine lv_ldc (v := (-1000001)) S.1 S.2.1 S.2.2.2.1 (S.2.2.2.2 _ (List.mem_cons_of_mem _ kk_X5_60)) dX5_sheet_30 ?_
            refine go_I (run_V (As := [.int (-1000001)]) (rest := []) (n := 1) S hK (bl_P hP [0, 1] rfl) (bl_D hD [0, 1] rfl rfl) (c_X5_finding l E am q f (-1000001) 0 (by decide) (by decide)) gV_X5_66 (by decide +kernel) rfl ⟨rfl, rfl⟩ ⟨Nat.le_of_ble_eq_true rfl, Nat.le_of_ble_eq_true rfl⟩ (ci := 5) (q0 := 0) rfl rfl hl.1 (Nat.le_of_ble_eq_true rfl) dX5_sheet_32 ⟨Nat.zero_le _, Nat.zero_le _⟩) hP hD hS [0, 1] rfl (had_cons rfl (had_cons cell_ad rfl)) (Bs' := [[mObj am q], [(am 4, .inl (E.2.1, 8, .inl (sg (findM f 0) 8)))], [(am 8, .inl (E.2.1, 4, .inl (sg z 4)))], [(am 9, .inl (E.2.1, 4, .inl (sg u 4)))], [(am 10, .inl (E.2.1, 160, .inl (sg y 160)))]]) rfl (fun H locs hP hD hS => ?_)
            obtain ⟨r_32_24, er_32_24⟩ : ∃ zz9 : Row, zz9 = findM f 0 := ⟨_, rfl⟩
            rw [← er_32_24] at hP hD
            exact retI S hr hlk (by have e9 : rSheet s9 b n9 = .inl 0 := (by unfold rSheet; rw [if_pos c_4, if_neg (fun z9 => z9.elim c_8 (fun z9 => z9.elim c_14 (fun z9 => z9.elim c_20 c_26)))]); rw [er_32_24] at hP; rw [e9, fndM_inl, pick_inl, pick_inl, pick_inl]; exact hP) hS (by have e9 : rSheet s9 b n9 = .inl 0 := (by unfold rSheet; rw [if_pos c_4, if_neg (fun z9 => z9.elim c_8 (fun z9 => z9.elim c_14 (fun z9 => z9.elim c_20 c_26)))]); rw [e9]; decide) dX5_sheet_35
set_option maxHeartbeats 800000 in
set_option maxRecDepth 100000 in
theorem c_X5_write (l : Launch) (E : EV) (am : Nat → Nat) (q f z u y : Row) (s9 i9 v : Int32) (hU : ∀ j, j < 4 → le9 (u j) 40) : Met l yX5_write (wq yX5_write cX5_write 4 (some .int)) ({ frames := 2, cells := 0, slots := 0, locals := 42 }) (preB E [.ref (am 0), .int s9, .int i9, .int v] [[mObj am q], [(am 4, .inl (E.2.1, 8, .inl (sg f 8)))], [(am 8, .inl (E.2.1, 4, .inl (sg z 4)))], [(am 9, .inl (E.2.1, 4, .inl (sg u 4)))], [(am 10, .inl (E.2.1, 160, .inl (sg y 160)))]]) (qI E [[mObj am q], [(am 4, .inl (E.2.1, 8, .inl (sg f 8)))], [(am 8, .inl (E.2.1, 4, .inl (sg z 4)))], [(am 9, .inl (E.2.1, 4, .inl (sg u 4)))], [(am 10, .inl (E.2.1, 160, .inl (sg y 160)))]] [[mObj am q], [(am 4, .inl (E.2.1, 8, .inl (sg (fndM f (rWrite y z u s9 i9 v)) 8)))], [(am 8, .inl (E.2.1, 4, .inl (sg z 4)))], [(am 9, .inl (E.2.1, 4, .inl (sg u 4)))], [(am 10, .inl (E.2.1, 160, .inl (sg (rowR y (rWrite y z u s9 i9 v)) 160)))]] (ansR (rWrite y z u s9 i9 v))) 0 0 (inB [[mObj am q], [(am 4, .inl (E.2.1, 8, .inl (sg f 8)))], [(am 8, .inl (E.2.1, 4, .inl (sg z 4)))], [(am 9, .inl (E.2.1, 4, .inl (sg u 4)))], [(am 10, .inl (E.2.1, 160, .inl (sg y 160)))]]) := by
  refine M_mk RX5 (by decide) rfl (Nat.le_of_ble_eq_true rfl) ?_
  intro p e s m below meth c S hr hlk hK hP hD hS ls hl
  have hl : lv_has ls 4 [(0, .ref (am 0)), (1, .int s9), (2, .int i9), (3, .int v)] := hl
  obtain ⟨H, hH⟩ : ∃ zz9, zz9 = s.heap := ⟨_, rfl⟩
  obtain ⟨locs, hlocs⟩ : ∃ zz9 : List Loc, zz9 = [] := ⟨_, rfl⟩
  have hP : PE E [[mObj am q], [(am 4, .inl (E.2.1, 8, .inl (sg f 8)))], [(am 8, .inl (E.2.1, 4, .inl (sg z 4)))], [(am 9, .inl (E.2.1, 4, .inl (sg u 4)))], [(am 10, .inl (E.2.1, 160, .inl (sg y 160)))]] H := by rw [hH]; exact hP
  have hS : va_S (inB [[mObj am q], [(am 4, .inl (E.2.1, 8, .inl (sg f 8)))], [(am 8, .inl (E.2.1, 4, .inl (sg z 4)))], [(am 9, .inl (E.2.1, 4, .inl (sg u 4)))], [(am 10, .inl (E.2.1, 160, .inl (sg y 160)))]]) s.heap H locs := by rw [hH, hlocs]; exact hS
  show W p l e ({ frames := 2, cells := 0, slots := 0, locals := 42 }) s m ([.ref (am 0), .int s9, .int i9, .int v] : List Value).toArray below meth c s.heap [] 0 0 _ _
  suffices hgo : W p l e ({ frames := 2, cells := 0, slots := 0, locals := 42 }) s m ([.ref (am 0), .int s9, .int i9, .int v] : List Value).toArray below meth c H locs 0 0 (MQ below (qI E [[mObj am q], [(am 4, .inl (E.2.1, 8, .inl (sg f 8)))], [(am 8, .inl (E.2.1, 4, .inl (sg z 4)))], [(am 9, .inl (E.2.1, 4, .inl (sg u 4)))], [(am 10, .inl (E.2.1, 160, .inl (sg y 160)))]] [[mObj am q], [(am 4, .inl (E.2.1, 8, .inl (sg (fndM f (rWrite y z u s9 i9 v)) 8)))], [(am 8, .inl (E.2.1, 4, .inl (sg z 4)))], [(am 9, .inl (E.2.1, 4, .inl (sg u 4)))], [(am 10, .inl (E.2.1, 160, .inl (sg (rowR y (rWrite y z u s9 i9 v)) 160)))]] (ansR (rWrite y z u s9 i9 v))) ([.ref (am 0), .int s9, .int i9, .int v] : List Value).toArray s 0 0 (inB [[mObj am q], [(am 4, .inl (E.2.1, 8, .inl (sg f 8)))], [(am 8, .inl (E.2.1, 4, .inl (sg z 4)))], [(am 9, .inl (E.2.1, 4, .inl (sg u 4)))], [(am 10, .inl (E.2.1, 160, .inl (sg y 160)))]])) (F0 m 0 ls []) by rw [hH, hlocs] at hgo; exact hgo
  clear hH hlocs
  refine lv_iload_n S.1 S.2.1 dX5_write_0 rfl (lv_at hl 1 rfl) ?_
  refine go_S (run_S (As := [.int s9]) (rest := []) (n := 1) S hK (bl_P hP [] rfl) (bl_D hD [] rfl rfl) (c_X5_isSheet l E s9 ) gS_X5_196 (by decide +kernel) rfl ⟨rfl, rfl⟩ ⟨Nat.le_of_ble_eq_true rfl, Nat.le_of_ble_eq_true rfl⟩ hl.1 (Nat.le_of_ble_eq_true rfl) dX5_write_1 ⟨Nat.zero_le _, Nat.zero_le _⟩) ?_
  refine b_ifne (tgt := 14) S.1 S.2.1 dX5_write_4 (by decide) (fun c_4 => ?_) (fun c_4 => ?_)
  · obtain ⟨k_s9, hk_s9, ek_s9⟩ := nI_of2 (n := 3) (by decide) (Int32.not_lt.mpr c_4.1) c_4.2
    refine lv_aload_n S.1 S.2.1 dX5_write_14 rfl (lv_at hl 0 rfl) ?_
    refine gf_X5_48 S hK hP 0 0 rfl rfl rfl dX5_write_15 ?_
    refine lv_iload_n S.1 S.2.1 dX5_write_18 rfl (lv_at hl 1 rfl) ?_
    refine lv_eqi (y := nI k_s9) ek_s9 ?_
    refine b_ialdN (i := k_s9) S hK hP 2 0 rfl rfl (by omega) (by decide) dX5_write_19 ?_
    refine lv_eqi (y := z k_s9) (sg_at (by omega)) ?_
    refine lv_if_ne (tgt := 30) S.1 S.2.1 dX5_write_20 (by decide) (fun c_20 => ?_) (fun c_20 => ?_)
    · obtain ⟨len, hlen, elen⟩ := hU k_s9 (by omega)
      refine lv_iload_n S.1 S.2.1 dX5_write_30 rfl (lv_at hl 2 rfl) ?_
      refine lv_iconst (v := 0) S.1 S.2.1 dX5_write_31 (by decide) ?_
      refine lv_aload_n S.1 S.2.1 dX5_write_32 rfl (lv_at hl 0 rfl) ?_
      refine gf_X5_51 S hK hP 0 0 rfl rfl rfl dX5_write_33 ?_
      refine lv_iload_n S.1 S.2.1 dX5_write_36 rfl (lv_at hl 1 rfl) ?_
      refine lv_eqi (y := nI k_s9) ek_s9 ?_
      refine b_ialdN (i := k_s9) S hK hP 3 0 rfl rfl (by omega) (by decide) dX5_write_37 ?_
      refine lv_eqi (y := u k_s9) (sg_at (by omega)) ?_
      refine lv_iconst (v := 1) S.1 S.2.1 dX5_write_38 (by decide) ?_
      refine lv_isub S.1 S.2.1 dX5_write_39 ?_
      refine go_S (run_S (As := [.int i9, .int 0, .int ((u k_s9) - 1)]) (rest := []) (n := 3) S hK (bl_P hP [] rfl) (bl_D hD [] rfl rfl) (c_X5_within l E i9 0 ((u k_s9) - 1) ) gS_X5_70 (by decide +kernel) rfl ⟨rfl, rfl⟩ ⟨Nat.le_of_ble_eq_true rfl, Nat.le_of_ble_eq_true rfl⟩ hl.1 (Nat.le_of_ble_eq_true rfl) dX5_write_40 ⟨Nat.zero_le _, Nat.zero_le _⟩) ?_
      refine b_ifne (tgt := 53) S.1 S.2.1 dX5_write_43 (by decide) (fun c_43 => ?_) (fun c_43 => ?_)
      · obtain ⟨k_i9, hk_i9, ek_i9⟩ := sz_nat elen hlen ((sz_iff elen hlen).mp c_43)
        refine lv_aload_n S.1 S.2.1 dX5_write_53 rfl (lv_at hl 0 rfl) ?_
        refine gf_X5_54 S hK hP 0 0 rfl rfl rfl dX5_write_54 ?_
        refine lv_bipush (v := 40) S.1 S.2.1 dX5_write_57 (by decide) ?_
        refine lv_iload_n S.1 S.2.1 dX5_write_59 rfl (lv_at hl 1 rfl) ?_
        refine lv_eqi (y := nI k_s9) ek_s9 ?_
        refine lv_imul S.1 S.2.1 dX5_write_60 ?_
        refine lv_eqi (y := nI (40 * k_s9)) (pk_mul 40 k_s9) ?_
        refine lv_iload_n S.1 S.2.1 dX5_write_61 rfl (lv_at hl 2 rfl) ?_
        refine lv_eqi (y := nI k_i9) ek_i9 ?_
        refine lv_iadd S.1 S.2.1 dX5_write_62 ?_
        refine lv_eqi (y := nI (40 * k_s9 + k_i9)) (nI_add (40 * k_s9) k_i9) ?_
        refine lv_iload_n S.1 S.2.1 dX5_write_63 rfl (lv_at hl 3 rfl) ?_
        refine lv_aload_n S.1 S.2.1 dX5_write_64 rfl (lv_at hl 0 rfl) ?_
        refine gf_X5_48 S hK hP 0 0 rfl rfl rfl dX5_write_65 ?_
        refine lv_iload_n S.1 S.2.1 dX5_write_68 rfl (lv_at hl 1 rfl) ?_
        refine lv_eqi (y := nI k_s9) ek_s9 ?_
        refine b_ialdN (i := k_s9) S hK hP 2 0 rfl rfl (by omega) (by decide) dX5_write_69 ?_
        refine lv_eqi (y := z k_s9) (sg_at (by omega)) ?_
        refine go_S (run_S (As := [.int v, .int (z k_s9)]) (rest := [.int (nI (40 * k_s9 + k_i9)), .ref (am 10)]) (n := 2) S hK (bl_P hP [] rfl) (bl_D hD [] rfl rfl) (c_X5_cutTo l E v (z k_s9) ) gS_X5_308 (by decide +kernel) rfl ⟨rfl, rfl⟩ ⟨Nat.le_of_ble_eq_true rfl, Nat.le_of_ble_eq_true rfl⟩ hl.1 (Nat.le_of_ble_eq_true rfl) dX5_write_70 ⟨Nat.zero_le _, Nat.zero_le _⟩) ?_
        refine b_iastN (i := 40 * k_s9 + k_i9) S hK hP hD hS 4 0 rfl rfl (by omega) (by decide) (sgs_upd (by omega)) (Bs1 := [[mObj am q], [(am 4, .inl (E.2.1, 8, .inl (sg f 8)))], [(am 8, .inl (E.2.1, 4, .inl (sg z 4)))], [(am 9, .inl (E.2.1, 4, .inl (sg u 4)))], [(am 10, .inl (E.2.1, 160, .inl (sg (upd y (40 * k_s9 + k_i9) (cutV v (z k_s9))) 160)))]]) rfl dX5_write_73 (fun H locs hP hD hS => ?_)
        obtain ⟨r_73, er_73⟩ : ∃ zz9, zz9 = upd y (40 * k_s9 + k_i9) (cutV v (z k_s9)) := ⟨_, rfl⟩
        rw [← er_73] at hP hD
        refine lv_iconst (v := 1) S.1 S.2.1 dX5_write_74 (by decide) ?_
        exact retI S hr hlk (by have e9 : rWrite y z u s9 i9 v = .inr (r_73, 1) := (by unfold rWrite; rw [if_pos c_4, ek_s9, tN_nI (by omega), if_neg c_20, if_pos ((sz_iff elen hlen).mp c_43), ek_i9, tN_nI (by omega), er_73]); rw [e9, fndM_inr, rowR_inr]; exact hP) hS (by have e9 : rWrite y z u s9 i9 v = .inr (r_73, 1) := (by unfold rWrite; rw [if_pos c_4, ek_s9, tN_nI (by omega), if_neg c_20, if_pos ((sz_iff elen hlen).mp c_43), ek_i9, tN_nI (by omega), er_73]); rw [e9, ansR_inr]) dX5_write_75
      · refine lv_aload_n S.1 S.2.1 dX5_write_46 rfl (lv_at hl 0 rfl) ?_
        refine lv_ldc (v := (-1000001)) S.1 S.2.1 S.2.2.2.1 (S.2.2.2.2 _ (List.mem_cons_of_mem _ kk_X5_60)) dX5_write_47 ?_
        refine go_I (run_V (As := [.int (-1000001)]) (rest := []) (n := 1) S hK (bl_P hP [0, 1] rfl) (bl_D hD [0, 1] rfl rfl) (c_X5_finding l E am q f (-1000001) 0 (by decide) (by decide)) gV_X5_66 (by decide +kernel) rfl ⟨rfl, rfl⟩ ⟨Nat.le_of_ble_eq_true rfl, Nat.le_of_ble_eq_true rfl⟩ (ci := 5) (q0 := 0) rfl rfl hl.1 (Nat.le_of_ble_eq_true rfl) dX5_write_49 ⟨Nat.zero_le _, Nat.zero_le _⟩) hP hD hS [0, 1] rfl (had_cons rfl (had_cons cell_ad rfl)) (Bs' := [[mObj am q], [(am 4, .inl (E.2.1, 8, .inl (sg (findM f 0) 8)))], [(am 8, .inl (E.2.1, 4, .inl (sg z 4)))], [(am 9, .inl (E.2.1, 4, .inl (sg u 4)))], [(am 10, .inl (E.2.1, 160, .inl (sg y 160)))]]) rfl (fun H locs hP hD hS => ?_)
        obtain ⟨r_49, er_49⟩ : ∃ zz9 : Row, zz9 = findM f 0 := ⟨_, rfl⟩
        rw [← er_49] at hP hD
        exact retI S hr hlk (by have e9 : rWrite y z u s9 i9 v = .inl 0 := (by unfold rWrite; rw [if_pos c_4, ek_s9, tN_nI (by omega), if_neg c_20, if_neg (fun z9 => c_43 ((sz_iff elen hlen).mpr z9))]); rw [er_49] at hP; rw [e9, fndM_inl, rowR_inl]; exact hP) hS (by have e9 : rWrite y z u s9 i9 v = .inl 0 := (by unfold rWrite; rw [if_pos c_4, ek_s9, tN_nI (by omega), if_neg c_20, if_neg (fun z9 => c_43 ((sz_iff elen hlen).mpr z9))]); rw [e9]; decide) dX5_write_52
    · refine lv_aload_n S.1 S.2.1 dX5_write_23 rfl (lv_at hl 0 rfl) ?_
      refine lv_ldc (v := (-1000006)) S.1 S.2.1 S.2.2.2.1 (S.2.2.2.2 _ (List.mem_cons_of_mem _ kk_X5_199)) dX5_write_24 ?_
      refine go_I (run_V (As := [.int (-1000006)]) (rest := []) (n := 1) S hK (bl_P hP [0, 1] rfl) (bl_D hD [0, 1] rfl rfl) (c_X5_finding l E am q f (-1000006) 5 (by decide) (by decide)) gV_X5_66 (by decide +kernel) rfl ⟨rfl, rfl⟩ ⟨Nat.le_of_ble_eq_true rfl, Nat.le_of_ble_eq_true rfl⟩ (ci := 5) (q0 := 0) rfl rfl hl.1 (Nat.le_of_ble_eq_true rfl) dX5_write_26 ⟨Nat.zero_le _, Nat.zero_le _⟩) hP hD hS [0, 1] rfl (had_cons rfl (had_cons cell_ad rfl)) (Bs' := [[mObj am q], [(am 4, .inl (E.2.1, 8, .inl (sg (findM f 5) 8)))], [(am 8, .inl (E.2.1, 4, .inl (sg z 4)))], [(am 9, .inl (E.2.1, 4, .inl (sg u 4)))], [(am 10, .inl (E.2.1, 160, .inl (sg y 160)))]]) rfl (fun H locs hP hD hS => ?_)
      obtain ⟨r_26, er_26⟩ : ∃ zz9 : Row, zz9 = findM f 5 := ⟨_, rfl⟩
      rw [← er_26] at hP hD
      exact retI S hr hlk (by have e9 : rWrite y z u s9 i9 v = .inl 5 := (by unfold rWrite; rw [if_pos c_4, ek_s9, tN_nI (by omega), if_pos c_20]); rw [er_26] at hP; rw [e9, fndM_inl, rowR_inl]; exact hP) hS (by have e9 : rWrite y z u s9 i9 v = .inl 5 := (by unfold rWrite; rw [if_pos c_4, ek_s9, tN_nI (by omega), if_pos c_20]); rw [e9]; decide) dX5_write_29
  · refine lv_aload_n S.1 S.2.1 dX5_write_7 rfl (lv_at hl 0 rfl) ?_
    refine lv_ldc (v := (-1000001)) S.1 S.2.1 S.2.2.2.1 (S.2.2.2.2 _ (List.mem_cons_of_mem _ kk_X5_60)) dX5_write_8 ?_
    refine go_I (run_V (As := [.int (-1000001)]) (rest := []) (n := 1) S hK (bl_P hP [0, 1] rfl) (bl_D hD [0, 1] rfl rfl) (c_X5_finding l E am q f (-1000001) 0 (by decide) (by decide)) gV_X5_66 (by decide +kernel) rfl ⟨rfl, rfl⟩ ⟨Nat.le_of_ble_eq_true rfl, Nat.le_of_ble_eq_true rfl⟩ (ci := 5) (q0 := 0) rfl rfl hl.1 (Nat.le_of_ble_eq_true rfl) dX5_write_10 ⟨Nat.zero_le _, Nat.zero_le _⟩) hP hD hS [0, 1] rfl (had_cons rfl (had_cons cell_ad rfl)) (Bs' := [[mObj am q], [(am 4, .inl (E.2.1, 8, .inl (sg (findM f 0) 8)))], [(am 8, .inl (E.2.1, 4, .inl (sg z 4)))], [(am 9, .inl (E.2.1, 4, .inl (sg u 4)))], [(am 10, .inl (E.2.1, 160, .inl (sg y 160)))]]) rfl (fun H locs hP hD hS => ?_)
    obtain ⟨r_10, er_10⟩ : ∃ zz9 : Row, zz9 = findM f 0 := ⟨_, rfl⟩
    rw [← er_10] at hP hD
    exact retI S hr hlk (by have e9 : rWrite y z u s9 i9 v = .inl 0 := (by unfold rWrite; rw [if_neg c_4]); rw [er_10] at hP; rw [e9, fndM_inl, rowR_inl]; exact hP) hS (by have e9 : rWrite y z u s9 i9 v = .inl 0 := (by unfold rWrite; rw [if_neg c_4]); rw [e9]; decide) dX5_write_13
