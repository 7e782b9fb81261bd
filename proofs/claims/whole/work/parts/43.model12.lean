theorem shl_dI {n : Nat} (h : n ≤ 8) : 1 <<< (nI n &&& 31) - 1 = dI (2 ^ n) := by
  match n, h with
  | 0, _ => decide
  | 1, _ => decide
  | 2, _ => decide
  | 3, _ => decide
  | 4, _ => decide
  | 5, _ => decide
  | 6, _ => decide
  | 7, _ => decide
  | 8, _ => decide
def oI (o : Option Nat) : Int32 := match o with | none => -1 | some k => nI k
theorem oI_some {o : Option Nat} (h : ¬ oI o < 0) : ∃ b, o = some b := by
  cases o with
  | none => exact absurd (show (-1 : Int32) < 0 by decide) h
  | some b => exact ⟨b, rfl⟩
theorem oI_s {o : Option Nat} {b : Nat} (h : o = some b) : oI o = nI b := by rw [h]; rfl
theorem le_of_nI {a b : Nat} (h : nI a ≤ nI b) (ha : a < 2147483648) (hb : b < 2147483648) : a ≤ b := (nI_leI ha hb).mp h
theorem bits_le : ∀ (n x : Nat), bitsN n x ≤ n
  | 0, _ => Nat.le_refl _
  | n + 1, x => by
    rw [bitsN]
    split
    · omega
    · have := bits_le n (x &&& (x - 1)); omega
theorem bits_small (x : Nat) : bitsN 256 x < 2147483648 := Nat.lt_of_le_of_lt (bits_le 256 x) (by decide)
/-- the best set so far, from N - 1 downwards: fewest, the least of these -/
def bsN (c : Nat → Bool) (N : Nat) : Nat → Option Nat
  | 0 => none
  | k + 1 => if c (N - 1 - k) = true then (match bsN c N k with | none => some (N - 1 - k) | some b => if bitsN 256 (N - 1 - k) ≤ bitsN 256 b then some (N - 1 - k) else some b) else bsN c N k
theorem bs_no {c : Nat → Bool} {N t m : Nat} {o : Option Nat} (hm : t = m + 1) (ht : t ≤ N) (ho : o = bsN c N (N - t)) (h : ¬ c m = true) : o = bsN c N (N - m) := by
  rw [show N - m = (N - t) + 1 by omega, bsN, show N - 1 - (N - t) = m by omega, if_neg h, ho]
theorem bs_first {c : Nat → Bool} {N t m : Nat} {o : Option Nat} (hm : t = m + 1) (ht : t ≤ N) (ho : o = bsN c N (N - t)) (h : c m = true) (hn : oI o < 0) (hs : ∀ b, o = some b → b < 256) : some m = bsN c N (N - m) := by
  have e : o = none := by
    cases o with
    | none => rfl
    | some b => exact absurd hn (nI_pos (by have := hs b rfl; omega))
  rw [show N - m = (N - t) + 1 by omega, bsN, show N - 1 - (N - t) = m by omega, if_pos h, ← ho, e]
theorem bs_more {c : Nat → Bool} {N t m b : Nat} {o : Option Nat} (hm : t = m + 1) (ht : t ≤ N) (ho : o = bsN c N (N - t)) (e : o = some b) (h : bitsN 256 b < bitsN 256 m) : o = bsN c N (N - m) := by
  rw [show N - m = (N - t) + 1 by omega, bsN, show N - 1 - (N - t) = m by omega, ← ho, e]
  split
  · show some b = if bitsN 256 m ≤ bitsN 256 b then some m else some b
    rw [if_neg (by omega)]
  · rfl
theorem bs_less {c : Nat → Bool} {N t m b : Nat} {o : Option Nat} (hm : t = m + 1) (ht : t ≤ N) (ho : o = bsN c N (N - t)) (e : o = some b) (hc : c m = true) (h : bitsN 256 m ≤ bitsN 256 b) : some m = bsN c N (N - m) := by
  rw [show N - m = (N - t) + 1 by omega, bsN, show N - 1 - (N - t) = m by omega, if_pos hc, ← ho, e]
  show some m = if bitsN 256 m ≤ bitsN 256 b then some m else some b
  rw [if_pos h]
def rStayM (r : Row) (w n : Int32) : Res := if 0 ≤ w ∧ w ≤ 7 then (if 0 ≤ n ∧ n ≤ 20 then orNR (oI (bsN (fun s => decide (noC (daysF (keepR r (nI s) (cntN r)) (tN n)) w)) (2 ^ cntN r) (2 ^ cntN r))) else .inl 0) else .inl 0
set_option maxHeartbeats 800000 in
set_option maxRecDepth 100000 in
theorem c_X5_stayIn (l : Launch) (E : EV) (am : Nat → Nat) (q r f x : Row) (w n9 : Int32) (hR : RI r) : Met l yX5_stayIn (wq yX5_stayIn cX5_stayIn 5 (some .int)) ({ frames := 8, cells := 0, slots := 0, locals := 173 }) (preB E [.ref (am 0), .int w, .int n9] [[mObj am q], [(am 1, .inl (E.2.1, 77, .inl (sg r 77)))], [(am 4, .inl (E.2.1, 8, .inl (sg f 8)))], [(am 3, .inl (E.2.1, 77, .inl (sg x 77)))]]) (qIx E [[mObj am q], [(am 1, .inl (E.2.1, 77, .inl (sg r 77)))], [(am 4, .inl (E.2.1, 8, .inl (sg f 8)))], [(am 3, .inl (E.2.1, 77, .inl (sg x 77)))]] (fun u9 => [[mObj am q], [(am 1, .inl (E.2.1, 77, .inl (sg r 77)))], [(am 4, .inl (E.2.1, 8, .inl (sg (fndM f (rStayM r w n9)) 8)))], [(am 3, .inl (E.2.1, 77, .inl (sg u9 77)))]]) (ansR (rStayM r w n9))) 0 0 (inB [[mObj am q], [(am 1, .inl (E.2.1, 77, .inl (sg r 77)))], [(am 4, .inl (E.2.1, 8, .inl (sg f 8)))], [(am 3, .inl (E.2.1, 77, .inl (sg x 77)))]]) := by
  refine M_mk RX5 (by decide) rfl (Nat.le_of_ble_eq_true rfl) ?_
  intro p e s m below meth c S hr hlk hK hP hD hS ls hl
  have hl : lv_has ls 5 [(0, .ref (am 0)), (1, .int w), (2, .int n9)] := hl
  obtain ⟨n, d, hn, hn8, hd, hd5, ho, hso, hli, hsp, hpt⟩ := id hR
  have hpw : 2 ^ n ≤ 256 := Nat.le_trans (Nat.pow_le_pow_right (by decide) hn8) (by decide)
  obtain ⟨H, hH⟩ : ∃ zz9, zz9 = s.heap := ⟨_, rfl⟩
  obtain ⟨locs, hlocs⟩ : ∃ zz9 : List Loc, zz9 = [] := ⟨_, rfl⟩
  have hP : PE E [[mObj am q], [(am 1, .inl (E.2.1, 77, .inl (sg r 77)))], [(am 4, .inl (E.2.1, 8, .inl (sg f 8)))], [(am 3, .inl (E.2.1, 77, .inl (sg x 77)))]] H := by rw [hH]; exact hP
  have hS : va_S (inB [[mObj am q], [(am 1, .inl (E.2.1, 77, .inl (sg r 77)))], [(am 4, .inl (E.2.1, 8, .inl (sg f 8)))], [(am 3, .inl (E.2.1, 77, .inl (sg x 77)))]]) s.heap H locs := by rw [hH, hlocs]; exact hS
  show W p l e ({ frames := 8, cells := 0, slots := 0, locals := 173 }) s m ([.ref (am 0), .int w, .int n9] : List Value).toArray below meth c s.heap [] 0 0 _ _
  suffices hgo : W p l e ({ frames := 8, cells := 0, slots := 0, locals := 173 }) s m ([.ref (am 0), .int w, .int n9] : List Value).toArray below meth c H locs 0 0 (MQ below (qIx E [[mObj am q], [(am 1, .inl (E.2.1, 77, .inl (sg r 77)))], [(am 4, .inl (E.2.1, 8, .inl (sg f 8)))], [(am 3, .inl (E.2.1, 77, .inl (sg x 77)))]] (fun u9 => [[mObj am q], [(am 1, .inl (E.2.1, 77, .inl (sg r 77)))], [(am 4, .inl (E.2.1, 8, .inl (sg (fndM f (rStayM r w n9)) 8)))], [(am 3, .inl (E.2.1, 77, .inl (sg u9 77)))]]) (ansR (rStayM r w n9))) ([.ref (am 0), .int w, .int n9] : List Value).toArray s 0 0 (inB [[mObj am q], [(am 1, .inl (E.2.1, 77, .inl (sg r 77)))], [(am 4, .inl (E.2.1, 8, .inl (sg f 8)))], [(am 3, .inl (E.2.1, 77, .inl (sg x 77)))]])) (F0 m 0 ls []) by rw [hH, hlocs] at hgo; exact hgo
  clear hH hlocs
  refine lv_iload_n S.1 S.2.1 dX5_stayIn_0 rfl (lv_at hl 1 rfl) ?_
  refine go_S (run_S (As := [.int w]) (rest := []) (n := 1) S hK (bl_P hP [] rfl) (bl_D hD [] rfl rfl) (c_X5_isColour l E w ) gS_X5_177 (by decide +kernel) rfl ⟨rfl, rfl⟩ ⟨Nat.le_of_ble_eq_true rfl, Nat.le_of_ble_eq_true rfl⟩ hl.1 (Nat.le_of_ble_eq_true rfl) dX5_stayIn_1 ⟨Nat.zero_le _, Nat.zero_le _⟩) ?_
  refine b_ifeq (tgt := 17) S.1 S.2.1 dX5_stayIn_4 (by decide) (fun c_4 => ?_) (fun c_4 => ?_)
  · refine lv_aload_n S.1 S.2.1 dX5_stayIn_17 rfl (lv_at hl 0 rfl) ?_
    refine lv_ldc (v := (-1000001)) S.1 S.2.1 S.2.2.2.1 (S.2.2.2.2 _ (List.mem_cons_of_mem _ kk_X5_60)) dX5_stayIn_18 ?_
    refine go_I (run_V (As := [.int (-1000001)]) (rest := []) (n := 1) S hK (bl_P hP [0, 2] rfl) (bl_D hD [0, 2] rfl rfl) (c_X5_finding l E am q f (-1000001) 0 (by decide) (by decide)) gV_X5_66 (by decide +kernel) rfl ⟨rfl, rfl⟩ ⟨Nat.le_of_ble_eq_true rfl, Nat.le_of_ble_eq_true rfl⟩ (ci := 5) (q0 := 0) rfl rfl hl.1 (Nat.le_of_ble_eq_true rfl) dX5_stayIn_20 ⟨Nat.zero_le _, Nat.zero_le _⟩) hP hD hS [0, 2] rfl (had_cons rfl (had_cons cell_ad rfl)) (Bs' := [[mObj am q], [(am 1, .inl (E.2.1, 77, .inl (sg r 77)))], [(am 4, .inl (E.2.1, 8, .inl (sg (findM f 0) 8)))], [(am 3, .inl (E.2.1, 77, .inl (sg x 77)))]]) rfl (fun H locs hP hD hS => ?_)
    obtain ⟨r_20, er_20⟩ : ∃ zz9 : Row, zz9 = findM f 0 := ⟨_, rfl⟩
    rw [← er_20] at hP hD
    exact retIx S hr hlk x (by have e9 : rStayM r w n9 = .inl 0 := (by unfold rStayM; rw [if_neg c_4]); rw [er_20] at hP; rw [e9, fndM_inl]; exact hP) hS (by have e9 : rStayM r w n9 = .inl 0 := (by unfold rStayM; rw [if_neg c_4]); rw [e9]; decide) dX5_stayIn_23
  · obtain ⟨k_w, hk_w, ek_w⟩ := nI_of2 (n := 7) (by decide) (Int32.not_lt.mpr c_4.1) c_4.2
    refine lv_iload_n S.1 S.2.1 dX5_stayIn_7 rfl (lv_at hl 2 rfl) ?_
    refine lv_iconst (v := 0) S.1 S.2.1 dX5_stayIn_8 (by decide) ?_
    refine lv_bipush (v := 20) S.1 S.2.1 dX5_stayIn_9 (by decide) ?_
    refine go_S (run_S (As := [.int n9, .int 0, .int 20]) (rest := []) (n := 3) S hK (bl_P hP [] rfl) (bl_D hD [] rfl rfl) (c_X5_within l E n9 0 20 ) gS_X5_70 (by decide +kernel) rfl ⟨rfl, rfl⟩ ⟨Nat.le_of_ble_eq_true rfl, Nat.le_of_ble_eq_true rfl⟩ hl.1 (Nat.le_of_ble_eq_true rfl) dX5_stayIn_11 ⟨Nat.zero_le _, Nat.zero_le _⟩) ?_
    refine b_ifne (tgt := 24) S.1 S.2.1 dX5_stayIn_14 (by decide) (fun c_14 => ?_) (fun c_14 => ?_)
    · obtain ⟨k_n9, hk_n9, ek_n9⟩ := nI_of2 (n := 20) (by decide) (Int32.not_lt.mpr c_14.1) c_14.2
      refine lv_iconst (v := (-1)) S.1 S.2.1 dX5_stayIn_24 (by decide) ?_
      refine lv_istore_n (lv' := [(3, .int (-1)), (0, .ref (am 0)), (1, .int w), (2, .int n9)]) S.1 S.2.1 dX5_stayIn_25 rfl hl (by decide) rfl (fun ls hl => ?_)
      refine lv_iconst (v := 1) S.1 S.2.1 dX5_stayIn_26 (by decide) ?_
      refine lv_aload_n S.1 S.2.1 dX5_stayIn_27 rfl (lv_at hl 1 rfl) ?_
      refine gf_X5_9 S hK hP 0 0 rfl rfl rfl dX5_stayIn_28 ?_
      refine lv_iconst (v := 1) S.1 S.2.1 dX5_stayIn_31 (by decide) ?_
      refine b_ialdN (i := 1) S hK hP 1 0 rfl rfl (by omega) (by decide) dX5_stayIn_32 ?_
      refine lv_eqi (y := nI n) ((sg_at (by omega)).trans hn) ?_
      refine lv_ishl S.1 S.2.1 dX5_stayIn_33 ?_
      refine lv_iconst (v := 1) S.1 S.2.1 dX5_stayIn_34 (by decide) ?_
      refine lv_isub S.1 S.2.1 dX5_stayIn_35 ?_
      refine lv_eqi (y := dI (2 ^ n)) (shl_dI hn8) ?_
      refine lv_istore (lv' := [(4, .int (dI (2 ^ n))), (3, .int (-1)), (0, .ref (am 0)), (1, .int w), (2, .int n9)]) S.1 S.2.1 dX5_stayIn_36 hl (by decide) rfl (fun ls hl => ?_)
      have L_38 : ∀ (fu : Nat) (t : Nat) (o : Option Nat) (ai : Row), (t ≤ 2 ^ n) → (t < fu) → (o = bsN (fun s9 => decide (noC (daysF (keepR r (nI s9) (cntN r)) k_n9) w)) (2 ^ n) (2 ^ n - t)) → (∀ b, o = some b → b < 256) → ∀ (H : Heap) (locs : List Loc), PE E [[mObj am q], [(am 1, .inl (E.2.1, 77, .inl (sg r 77)))], [(am 4, .inl (E.2.1, 8, .inl (sg f 8)))], [(am 3, .inl (E.2.1, 77, .inl (sg ai 77)))]] H → DE (inB [[mObj am q], [(am 1, .inl (E.2.1, 77, .inl (sg r 77)))], [(am 4, .inl (E.2.1, 8, .inl (sg f 8)))], [(am 3, .inl (E.2.1, 77, .inl (sg x 77)))]]) [[mObj am q], [(am 1, .inl (E.2.1, 77, .inl (sg r 77)))], [(am 4, .inl (E.2.1, 8, .inl (sg f 8)))], [(am 3, .inl (E.2.1, 77, .inl (sg ai 77)))]] → va_S (inB [[mObj am q], [(am 1, .inl (E.2.1, 77, .inl (sg r 77)))], [(am 4, .inl (E.2.1, 8, .inl (sg f 8)))], [(am 3, .inl (E.2.1, 77, .inl (sg x 77)))]]) s.heap H locs → ∀ (ls : Array Slot), lv_has ls 5 [(0, .ref (am 0)), (1, .int w), (2, .int n9), (3, .int (oI o)), (4, .int (dI t))] → W p l e ({ frames := 8, cells := 0, slots := 0, locals := 173 }) s m ([.ref (am 0), .int w, .int n9] : List Value).toArray below meth c H locs 0 0 (MQ below (qIx E [[mObj am q], [(am 1, .inl (E.2.1, 77, .inl (sg r 77)))], [(am 4, .inl (E.2.1, 8, .inl (sg f 8)))], [(am 3, .inl (E.2.1, 77, .inl (sg x 77)))]] (fun u9 => [[mObj am q], [(am 1, .inl (E.2.1, 77, .inl (sg r 77)))], [(am 4, .inl (E.2.1, 8, .inl (sg (fndM f (rStayM r w n9)) 8)))], [(am 3, .inl (E.2.1, 77, .inl (sg u9 77)))]]) (ansR (rStayM r w n9))) ([.ref (am 0), .int w, .int n9] : List Value).toArray s 0 0 (inB [[mObj am q], [(am 1, .inl (E.2.1, 77, .inl (sg r 77)))], [(am 4, .inl (E.2.1, 8, .inl (sg f 8)))], [(am 3, .inl (E.2.1, 77, .inl (sg x 77)))]])) (F0 m 38 ls []) := by
        intro fu
        induction fu with
        | zero =>
          intro t o ai ht hf ho hob
          omega
        | succ fu ih_38 =>
          intro t o ai ht hf ho hob H locs hP hD hS ls hl
          refine lv_iload S.1 S.2.1 dX5_stayIn_38 (lv_at hl 4 rfl) ?_
          refine lv_if_lt (tgt := 83) S.1 S.2.1 dX5_stayIn_40 (by decide) (fun c_40 => ?_) (fun c_40 => ?_)
          · have n_40 := Int32.not_le.mpr c_40
            refine lv_aload_n S.1 S.2.1 dX5_stayIn_83 rfl (lv_at hl 0 rfl) ?_
            refine lv_iload_n S.1 S.2.1 dX5_stayIn_84 rfl (lv_at hl 3 rfl) ?_
            refine go_I (run_V (As := [.int (oI o)]) (rest := []) (n := 1) S hK (bl_P hP [0, 2] rfl) (bl_D hD [0, 2] rfl rfl) (c_X5_orNone l E am q f (oI o) ) gV_X5_174 (by decide +kernel) rfl ⟨rfl, rfl⟩ ⟨Nat.le_of_ble_eq_true rfl, Nat.le_of_ble_eq_true rfl⟩ (ci := 5) (q0 := 0) rfl rfl hl.1 (Nat.le_of_ble_eq_true rfl) dX5_stayIn_85 ⟨Nat.zero_le _, Nat.zero_le _⟩) hP hD hS [0, 2] rfl (had_cons rfl (had_cons cell_ad rfl)) (Bs' := [[mObj am q], [(am 1, .inl (E.2.1, 77, .inl (sg r 77)))], [(am 4, .inl (E.2.1, 8, .inl (sg (orNF f (oI o)) 8)))], [(am 3, .inl (E.2.1, 77, .inl (sg ai 77)))]]) rfl (fun H locs hP hD hS => ?_)
            obtain ⟨r_85, er_85⟩ : ∃ zz9 : Row, zz9 = orNF f (oI o) := ⟨_, rfl⟩
            rw [← er_85] at hP hD
            exact retIx S hr hlk ai (by have e9 : rStayM r w n9 = orNR (oI o) := (by unfold rStayM; rw [if_pos c_4, if_pos c_14, ek_n9, tN_nI (by omega), ho, dI_zero c_40 (by omega), Nat.sub_zero, cntN_eq hn hn8]); rw [er_85] at hP; rw [e9, orNR_f]; exact hP) hS (by have e9 : rStayM r w n9 = orNR (oI o) := (by unfold rStayM; rw [if_pos c_4, if_pos c_14, ek_n9, tN_nI (by omega), ho, dI_zero c_40 (by omega), Nat.sub_zero, cntN_eq hn hn8]); rw [e9]; exact orNR_a) dX5_stayIn_88
          · have n_40 := Int32.not_lt.mp c_40
            obtain ⟨m9, hm9⟩ : ∃ m9, t = m9 + 1 := dI_pos c_40
            refine lv_aload_n S.1 S.2.1 dX5_stayIn_43 rfl (lv_at hl 0 rfl) ?_
            refine lv_iload S.1 S.2.1 dX5_stayIn_44 (lv_at hl 4 rfl) ?_
            refine lv_eqi (y := nI m9) (dI_s hm9) ?_
            refine lv_iload_n S.1 S.2.1 dX5_stayIn_46 rfl (lv_at hl 1 rfl) ?_
            refine lv_eqi (y := nI k_w) ek_w ?_
            refine lv_iload_n S.1 S.2.1 dX5_stayIn_47 rfl (lv_at hl 2 rfl) ?_
            refine lv_eqi (y := nI k_n9) ek_n9 ?_
            refine go_I (run_V (As := [.int (nI m9), .int (nI k_w), .int (nI k_n9)]) (rest := []) (n := 3) S hK (bl_P hP [0, 1, 3] rfl) (bl_D hD [0, 1, 3] rfl rfl) (c_X5_isWithout l E am q r ai (nI m9) (nI k_w) k_n9 (by omega) hR) gV_X5_190 (by decide +kernel) rfl ⟨rfl, rfl⟩ ⟨Nat.le_of_ble_eq_true rfl, Nat.le_of_ble_eq_true rfl⟩ (ci := 5) (q0 := 0) rfl rfl hl.1 (Nat.le_of_ble_eq_true rfl) dX5_stayIn_48 ⟨Nat.zero_le _, Nat.zero_le _⟩) hP hD hS [0, 1, 3] rfl (had_cons rfl (had_cons rfl (had_cons cell_ad rfl))) (Bs' := [[mObj am q], [(am 1, .inl (E.2.1, 77, .inl (sg r 77)))], [(am 4, .inl (E.2.1, 8, .inl (sg f 8)))], [(am 3, .inl (E.2.1, 77, .inl (sg r 77)))]]) rfl (fun H locs hP hD hS => ?_)
            refine b_ifeq (tgt := 75) S.1 S.2.1 dX5_stayIn_51 (by decide) (fun c_51 => ?_) (fun c_51 => ?_)
            · refine lv_iload_n S.1 S.2.1 dX5_stayIn_75 rfl (lv_at hl 3 rfl) ?_
              refine lv_istore_n (lv' := [(3, .int (oI o)), (0, .ref (am 0)), (1, .int w), (2, .int n9), (4, .int (dI t))]) S.1 S.2.1 dX5_stayIn_76 rfl hl (by decide) rfl (fun ls hl => ?_)
              refine lv_iinc (v := dI m9) (lv' := [(4, .int (dI m9)), (3, .int (oI o)), (0, .ref (am 0)), (1, .int w), (2, .int n9)]) S.1 S.2.1 dX5_stayIn_77 hl (k := 4) rfl (dI_step hm9) (by decide) rfl (fun ls hl => ?_)
              refine lv_goto (tgt := 38) S.1 S.2.1 dX5_stayIn_80 (by decide) ?_
              exact ih_38 m9 o r (by omega) (by omega) (bs_no hm9 ht ho (by rw [ek_w, decide_eq_false c_51]; decide)) hob H locs hP hD hS ls (lv_sub hl [2, 3, 4, 1, 0] rfl)
            · refine lv_iload_n S.1 S.2.1 dX5_stayIn_54 rfl (lv_at hl 3 rfl) ?_
              refine lv_if_lt (tgt := 70) S.1 S.2.1 dX5_stayIn_55 (by decide) (fun c_55 => ?_) (fun c_55 => ?_)
              · have n_55 := Int32.not_le.mpr c_55
                refine lv_iload S.1 S.2.1 dX5_stayIn_70 (lv_at hl 4 rfl) ?_
                refine lv_eqi (y := nI m9) (dI_s hm9) ?_
                refine lv_goto (tgt := 76) S.1 S.2.1 dX5_stayIn_72 (by decide) ?_
                refine lv_eqi (y := oI (some m9)) rfl ?_
                refine lv_istore_n (lv' := [(3, .int (oI (some m9))), (0, .ref (am 0)), (1, .int w), (2, .int n9), (4, .int (dI t))]) S.1 S.2.1 dX5_stayIn_76 rfl hl (by decide) rfl (fun ls hl => ?_)
                refine lv_iinc (v := dI m9) (lv' := [(4, .int (dI m9)), (3, .int (oI (some m9))), (0, .ref (am 0)), (1, .int w), (2, .int n9)]) S.1 S.2.1 dX5_stayIn_77 hl (k := 4) rfl (dI_step hm9) (by decide) rfl (fun ls hl => ?_)
                refine lv_goto (tgt := 38) S.1 S.2.1 dX5_stayIn_80 (by decide) ?_
                exact ih_38 m9 (some m9) r (by omega) (by omega) (bs_first hm9 ht ho (by rw [ek_w]; exact decide_eq_true c_51) c_55 hob) (fun b h => by cases h; omega) H locs hP hD hS ls (lv_sub hl [2, 3, 4, 1, 0] rfl)
              · have n_55 := Int32.not_lt.mp c_55
                obtain ⟨b9, eb9⟩ : ∃ b9, o = some b9 := oI_some c_55
                have hb9 : b9 < 256 := hob b9 eb9
                refine lv_iload S.1 S.2.1 dX5_stayIn_58 (lv_at hl 4 rfl) ?_
                refine lv_eqi (y := nI m9) (dI_s hm9) ?_
                refine go_S (run_S (As := [.int (nI m9)]) (rest := []) (n := 1) S hK (bl_P hP [] rfl) (bl_D hD [] rfl rfl) (c_X5_bits l E m9 (by omega)) gS_X5_193 (by decide +kernel) rfl ⟨rfl, rfl⟩ ⟨Nat.le_of_ble_eq_true rfl, Nat.le_of_ble_eq_true rfl⟩ hl.1 (Nat.le_of_ble_eq_true rfl) dX5_stayIn_60 ⟨Nat.zero_le _, Nat.zero_le _⟩) ?_
                refine lv_iload_n S.1 S.2.1 dX5_stayIn_63 rfl (lv_at hl 3 rfl) ?_
                refine lv_eqi (y := nI b9) (oI_s eb9) ?_
                refine go_S (run_S (As := [.int (nI b9)]) (rest := [.int (nI (bitsN 256 m9))]) (n := 1) S hK (bl_P hP [] rfl) (bl_D hD [] rfl rfl) (c_X5_bits l E b9 (by omega)) gS_X5_193 (by decide +kernel) rfl ⟨rfl, rfl⟩ ⟨Nat.le_of_ble_eq_true rfl, Nat.le_of_ble_eq_true rfl⟩ hl.1 (Nat.le_of_ble_eq_true rfl) dX5_stayIn_64 ⟨Nat.zero_le _, Nat.zero_le _⟩) ?_
                refine lv_icmp_gt (tgt := 75) S.1 S.2.1 dX5_stayIn_67 (by decide) (fun c_67 => ?_) (fun c_67 => ?_)
                · have n_67 := Int32.not_le.mpr c_67
                  refine lv_iload_n S.1 S.2.1 dX5_stayIn_75 rfl (lv_at hl 3 rfl) ?_
                  refine lv_eqi (y := nI b9) (oI_s eb9) ?_
                  refine lv_eqi (y := oI o) (oI_s eb9).symm ?_
                  refine lv_istore_n (lv' := [(3, .int (oI o)), (0, .ref (am 0)), (1, .int w), (2, .int n9), (4, .int (dI t))]) S.1 S.2.1 dX5_stayIn_76 rfl hl (by decide) rfl (fun ls hl => ?_)
                  refine lv_iinc (v := dI m9) (lv' := [(4, .int (dI m9)), (3, .int (oI o)), (0, .ref (am 0)), (1, .int w), (2, .int n9)]) S.1 S.2.1 dX5_stayIn_77 hl (k := 4) rfl (dI_step hm9) (by decide) rfl (fun ls hl => ?_)
                  refine lv_goto (tgt := 38) S.1 S.2.1 dX5_stayIn_80 (by decide) ?_
                  exact ih_38 m9 o r (by omega) (by omega) (bs_more hm9 ht ho eb9 (lt_of_nI c_67 (bits_small _) (bits_small _))) hob H locs hP hD hS ls (lv_sub hl [2, 3, 4, 1, 0] rfl)
                · have n_67 := Int32.not_lt.mp c_67
                  refine lv_iload S.1 S.2.1 dX5_stayIn_70 (lv_at hl 4 rfl) ?_
                  refine lv_eqi (y := nI m9) (dI_s hm9) ?_
                  refine lv_goto (tgt := 76) S.1 S.2.1 dX5_stayIn_72 (by decide) ?_
                  refine lv_eqi (y := oI (some m9)) rfl ?_
                  refine lv_istore_n (lv' := [(3, .int (oI (some m9))), (0, .ref (am 0)), (1, .int w), (2, .int n9), (4, .int (dI t))]) S.1 S.2.1 dX5_stayIn_76 rfl hl (by decide) rfl (fun ls hl => ?_)
                  refine lv_iinc (v := dI m9) (lv' := [(4, .int (dI m9)), (3, .int (oI (some m9))), (0, .ref (am 0)), (1, .int w), (2, .int n9)]) S.1 S.2.1 dX5_stayIn_77 hl (k := 4) rfl (dI_step hm9) (by decide) rfl (fun ls hl => ?_)
                  refine lv_goto (tgt := 38) S.1 S.2.1 dX5_stayIn_80 (by decide) ?_
                  exact ih_38 m9 (some m9) r (by omega) (by omega) (bs_less hm9 ht ho eb9 (by rw [ek_w]; exact decide_eq_true c_51) (le_of_nI n_67 (bits_small _) (bits_small _))) (fun b h => by cases h; omega) H locs hP hD hS ls (lv_sub hl [2, 3, 4, 1, 0] rfl)
      exact L_38 (2 ^ n + 1) (2 ^ n) none x (Nat.le_refl _) (Nat.lt_succ_self _) (by rw [Nat.sub_self]; rfl) (fun b h => by cases h) H locs hP hD hS ls (lv_sub hl [2, 3, 4, 1, 0] rfl)
    · refine lv_aload_n S.1 S.2.1 dX5_stayIn_17 rfl (lv_at hl 0 rfl) ?_
      refine lv_ldc (v := (-1000001)) S.1 S.2.1 S.2.2.2.1 (S.2.2.2.2 _ (List.mem_cons_of_mem _ kk_X5_60)) dX5_stayIn_18 ?_
      refine go_I (run_V (As := [.int (-1000001)]) (rest := []) (n := 1) S hK (bl_P hP [0, 2] rfl) (bl_D hD [0, 2] rfl rfl) (c_X5_finding l E am q f (-1000001) 0 (by decide) (by decide)) gV_X5_66 (by decide +kernel) rfl ⟨rfl, rfl⟩ ⟨Nat.le_of_ble_eq_true rfl, Nat.le_of_ble_eq_true rfl⟩ (ci := 5) (q0 := 0) rfl rfl hl.1 (Nat.le_of_ble_eq_true rfl) dX5_stayIn_20 ⟨Nat.zero_le _, Nat.zero_le _⟩) hP hD hS [0, 2] rfl (had_cons rfl (had_cons cell_ad rfl)) (Bs' := [[mObj am q], [(am 1, .inl (E.2.1, 77, .inl (sg r 77)))], [(am 4, .inl (E.2.1, 8, .inl (sg (findM f 0) 8)))], [(am 3, .inl (E.2.1, 77, .inl (sg x 77)))]]) rfl (fun H locs hP hD hS => ?_)
      obtain ⟨r_20_1, er_20_1⟩ : ∃ zz9 : Row, zz9 = findM f 0 := ⟨_, rfl⟩
      rw [← er_20_1] at hP hD
      exact retIx S hr hlk x (by have e9 : rStayM r w n9 = .inl 0 := (by unfold rStayM; rw [if_pos c_4, if_neg c_14]); rw [er_20_1] at hP; rw [e9, fndM_inl]; exact hP) hS (by have e9 : rStayM r w n9 = .inl 0 := (by unfold rStayM; rw [if_pos c_4, if_neg c_14]); rw [e9]; decide) dX5_stayIn_23
