def rwC (tp : Row) (len : Nat) (Y : Ys) (t : Row) : Ys × Bool × Row := if okY (nx tp len Y) 5 then (if okY (nx tp len (nx tp len Y)) 9 then (if okY (nx tp len (nx tp len (nx tp len Y))) 9 then (nx tp len (nx tp len (nx tp len (nx tp len Y))), true, upd t (5 + (nx tp len Y).2.2.2) (nI (10 * (nx tp len (nx tp len Y)).2.2.2 + (nx tp len (nx tp len (nx tp len Y))).2.2.2))) else (nx tp len (nx tp len (nx tp len Y)), false, t)) else (nx tp len (nx tp len Y), false, t)) else (nx tp len Y, false, t)
def roC (tp : Row) (len : Nat) (Y : Ys) (t : Row) : Ys × Bool × Row := if okY (nx tp len Y) 99 then (nx tp len (nx tp len Y), true, upd t 3 (nI (nx tp len Y).2.2.2)) else (nx tp len Y, false, t)
abbrev isY (tp : Row) (Y : Ys) (w : Nat) : Prop := isW tp Y.1 Y.2.1 (nI Y.2.2.1) w
def detF (tp : Row) (len i : Nat) (Z : Ys × Bool × Row) (w : Nat) : Ys × Bool × Row := if Z.2.1 = true then (if isY tp Z.1 (6 + w) then (if okY (nx tp len Z.1) (bnd w) then (nx tp len (nx tp len Z.1), true, upd Z.2.2 (21 + 7 * i + w) (nI (nx tp len Z.1).2.2.2)) else (nx tp len Z.1, false, Z.2.2)) else Z) else Z
def detN (tp : Row) (len i : Nat) (Z : Ys × Bool × Row) : Nat → Ys × Bool × Row
  | 0 => Z
  | k + 1 => detF tp len i (detN tp len i Z k) (k + 1)
theorem det_skip {tp t : Row} {len i w b e s v : Nat} (h : ¬ isW tp b e (nI s) (6 + w)) : detF tp len i ((b, e, s, v), true, t) w = ((b, e, s, v), true, t) := by
  unfold detF
  rw [if_pos rfl, if_neg h]
theorem det_yes {tp t : Row} {len i w b e s v b1 e1 s1 v1 : Nat} {V : Ys} (h : isW tp b e (nI s) (6 + w)) (h1 : tkF tp len e = (b1, e1, s1, v1)) (h2 : okY (b1, e1, s1, v1) (bnd w)) (h3 : nx tp len (b1, e1, s1, v1) = V) : detF tp len i ((b, e, s, v), true, t) w = (V, true, upd t (21 + 7 * i + w) (nI v1)) := by
  have h1 : nx tp len (b, e, s, v) = (b1, e1, s1, v1) := h1
  unfold detF
  rw [if_pos rfl, if_pos h]
  show (if okY (nx tp len (b, e, s, v)) (bnd w) then (nx tp len (nx tp len (b, e, s, v)), true, upd t (21 + 7 * i + w) (nI (nx tp len (b, e, s, v)).2.2.2)) else (nx tp len (b, e, s, v), false, t)) = _
  rw [h1, if_pos h2, h3]
theorem det_no {tp t : Row} {len i w b e s v b1 e1 s1 v1 : Nat} (h : isW tp b e (nI s) (6 + w)) (h1 : tkF tp len e = (b1, e1, s1, v1)) (h2 : ¬ okY (b1, e1, s1, v1) (bnd w)) : detF tp len i ((b, e, s, v), true, t) w = ((b1, e1, s1, v1), false, t) := by
  have h1 : nx tp len (b, e, s, v) = (b1, e1, s1, v1) := h1
  unfold detF
  rw [if_pos rfl, if_pos h]
  show (if okY (nx tp len (b, e, s, v)) (bnd w) then (nx tp len (nx tp len (b, e, s, v)), true, upd t (21 + 7 * i + w) (nI (nx tp len (b, e, s, v)).2.2.2)) else (nx tp len (b, e, s, v), false, t)) = _
  rw [h1, if_neg h2]
theorem det_stop {tp t : Row} {len i k : Nat} {Y : Ys} {Z : Ys × Bool × Row} (hk : k + 1 ≤ 3) (h : detN tp len i Z (k + 1) = (Y, false, t)) : detN tp len i Z 3 = (Y, false, t) := by
  have key : ∀ m, detN tp len i Z (k + 1 + m) = (Y, false, t) := by
    intro m
    induction m with
    | zero => exact h
    | succ m ih =>
      show detF tp len i (detN tp len i Z (k + 1 + m)) (k + 1 + m + 1) = _
      rw [ih]
      exact if_neg (show ¬ (false : Bool) = true by decide)
  have h2 := key (3 - (k + 1))
  rw [show k + 1 + (3 - (k + 1)) = 3 by omega] at h2
  exact h2
theorem most_bnd {k : Nat} (h : k + 1 ≤ 3) : mostV (nI (k + 1)) = nI (bnd (k + 1)) := by
  match k, h with
  | 0, _ => rfl
  | 1, _ => rfl
  | 2, _ => rfl
theorem bnd_le {k : Nat} (h : k + 1 ≤ 3) : bnd (k + 1) ≤ 1000 := by
  match k, h with
  | 0, _ => decide
  | 1, _ => decide
  | 2, _ => decide
def riC (tp : Row) (len : Nat) (Y : Ys) (t : Row) : Ys × Bool × Row := if isY tp Y 10 then rwC tp len Y t else if isY tp Y 11 then roC tp len Y t else if kwC tp Y = -1 ∨ 8 ≤ t 1 then (Y, false, t) else detN tp len (cntN t) (nx tp len Y, true, addF t (kwC tp Y) 10) 3
theorem nx_Y {tp : Row} {len : Nat} {Y : Ys} (h : YI len Y) : YI len (nx tp len Y) := tk_Y h.2.1
theorem rw_Y {tp t : Row} {len : Nat} {Y : Ys} (h : YI len Y) : YI len (rwC tp len Y t).1 := by
  unfold rwC
  split
  · split
    · split
      · exact nx_Y (nx_Y (nx_Y (nx_Y h)))
      · exact nx_Y (nx_Y (nx_Y h))
    · exact nx_Y (nx_Y h)
  · exact nx_Y h
theorem ro_Y {tp t : Row} {len : Nat} {Y : Ys} (h : YI len Y) : YI len (roC tp len Y t).1 := by
  unfold roC
  split
  · exact nx_Y (nx_Y h)
  · exact nx_Y h
theorem det_Y1 {tp : Row} {len i w : Nat} {Z : Ys × Bool × Row} (h : YI len Z.1) : YI len (detF tp len i Z w).1 := by
  unfold detF
  split
  · split
    · split
      · exact nx_Y (nx_Y h)
      · exact nx_Y h
    · exact h
  · exact h
theorem det_Y {tp : Row} {len i : Nat} {Z : Ys × Bool × Row} (h : YI len Z.1) : ∀ k, YI len (detN tp len i Z k).1
  | 0 => h
  | k + 1 => det_Y1 (det_Y h k)
theorem ri_Y {tp t : Row} {len : Nat} {Y : Ys} (h : YI len Y) : YI len (riC tp len Y t).1 := by
  unfold riC
  split
  · exact rw_Y h
  · split
    · exact ro_Y h
    · split
      · exact h
      · exact det_Y (nx_Y h) 3
theorem det_1 {tp : Row} {len i : Nat} {Z : Ys × Bool × Row} : ∀ k, (detN tp len i Z k).2.2 1 = Z.2.2 1
  | 0 => rfl
  | k + 1 => by
    have h := det_1 (tp := tp) (len := len) (i := i) (Z := Z) k
    show (detF tp len i (detN tp len i Z k) (k + 1)).2.2 1 = _
    unfold detF
    split
    · split
      · split
        · show upd _ _ _ 1 = _
          rw [upd_ne (by omega)]
          exact h
        · exact h
      · exact h
    · exact h
theorem ri_t {tp t : Row} {len : Nat} {Y : Ys} (h : le9 (t 1) 8) : le9 ((riC tp len Y t).2.2 1) 8 := by
  unfold riC
  split
  · unfold rwC
    split
    · split
      · split
        · rename_i q _ _
          show le9 (upd t (5 + (nx tp len Y).2.2.2) _ 1) 8
          rw [upd_ne (by omega)]
          exact h
        · exact h
      · exact h
    · exact h
  · split
    · unfold roC
      split
      · show le9 (upd t 3 (nI (nx tp len Y).2.2.2) 1) 8
        rw [upd_ne (by omega)]
        exact h
      · exact h
    · split
      · exact h
      · rename_i q
        rw [det_1]
        show le9 (addF t (kwC tp Y) 10 1) 8
        rw [addF_1]
        obtain ⟨n, hn, e⟩ := h
        refine ⟨cntN t + 1, ?_, rfl⟩
        rw [cntN_eq e hn]
        exact n_lt8b e (fun z => q (Or.inr z)) hn
theorem ri_eta {tp t R : Row} {len : Nat} {Y Z : Ys} (h1 : Z = (riC tp len Y t).1) (h2 : R = (riC tp len Y t).2.2) : riC tp len Y t = (Z, (riC tp len Y t).2.1, R) := by
  rw [h1, h2]
def rlC (tp : Row) (len : Nat) : Nat → Nat → Ys → Row → Int32 × Ys × Row
  | 0, _, Y, t => (-1 - nI Y.1, Y, t)
  | f + 1, k, Y, t => if (riC tp len Y t).2.1 = true then (if (riC tp len Y t).1.2.2.1 = 0 then (nI k, (riC tp len Y t).1, (riC tp len Y t).2.2) else if (riC tp len Y t).1.2.2.1 = 3 then rlC tp len f (k + 1) (nx tp len (riC tp len Y t).1) (riC tp len Y t).2.2 else (-1 - nI (riC tp len Y t).1.1, (riC tp len Y t).1, (riC tp len Y t).2.2)) else (-1 - nI (riC tp len Y t).1.1, (riC tp len Y t).1, (riC tp len Y t).2.2)
theorem rl_s {tp t R : Row} {len k : Nat} {Y Z : Ys} {b : Bool} (hk : k + 1 ≤ 120) (e : riC tp len Y t = (Z, b, R)) : rlC tp len (120 - k) (k + 1) Y t = if b = true then (if Z.2.2.1 = 0 then (nI (k + 1), Z, R) else if Z.2.2.1 = 3 then rlC tp len (120 - (k + 1)) (k + 1 + 1) (nx tp len Z) R else (-1 - nI Z.1, Z, R)) else (-1 - nI Z.1, Z, R) := by
  rw [show 120 - k = (120 - (k + 1)) + 1 by omega, rlC, e]
theorem rl_bad {tp t R : Row} {len k : Nat} {Y : Ys} {b1 e1 s1 v1 : Nat} {b : Bool} (hk : k + 1 ≤ 120) (e : riC tp len Y t = ((b1, e1, s1, v1), b, R)) (h : ¬ b = true) : rlC tp len (120 - k) (k + 1) Y t = (-1 - nI b1, (b1, e1, s1, v1), R) := by rw [rl_s hk e, if_neg h]
theorem rl_end {tp t R : Row} {len k : Nat} {Y : Ys} {b1 e1 s1 v1 : Nat} {b : Bool} (hk : k + 1 ≤ 120) (e : riC tp len Y t = ((b1, e1, s1, v1), b, R)) (h : b = true) (h2 : nI s1 = 0) (h3 : s1 < 2147483648) : rlC tp len (120 - k) (k + 1) Y t = (nI (k + 1), (b1, e1, s1, v1), R) := by rw [rl_s hk e, if_pos h, if_pos ((nI_eq (b := 0) h3 (by decide)).mp h2)]
theorem rl_more {tp t R : Row} {len k : Nat} {Y V : Ys} {b1 e1 s1 v1 : Nat} {b : Bool} (hk : k + 1 ≤ 120) (e : riC tp len Y t = ((b1, e1, s1, v1), b, R)) (h : b = true) (h2 : nI s1 = 3) (h3 : tkF tp len e1 = V) (h4 : s1 ≤ 4) : rlC tp len (120 - k) (k + 1) Y t = rlC tp len (120 - (k + 1)) (k + 1 + 1) V R := by
  have e3 : s1 = 3 := (nI_eq (b := 3) (by omega) (by decide)).mp h2
  rw [rl_s hk e, if_pos h, if_neg (show ¬ s1 = 0 by omega), if_pos e3]
  show rlC tp len _ _ (tkF tp len e1) R = _
  rw [h3]
theorem rl_odd {tp t R : Row} {len k : Nat} {Y : Ys} {b1 e1 s1 v1 : Nat} {b : Bool} (hk : k + 1 ≤ 120) (e : riC tp len Y t = ((b1, e1, s1, v1), b, R)) (h : b = true) (h2 : ¬ nI s1 = 0) (h3 : ¬ nI s1 = 3) : rlC tp len (120 - k) (k + 1) Y t = (-1 - nI b1, (b1, e1, s1, v1), R) := by
  rw [rl_s hk e, if_pos h, if_neg (fun q => h2 (congrArg nI q)), if_neg (fun q => h3 (congrArg nI q))]
theorem rl_t {tp : Row} {len : Nat} : ∀ (f k : Nat) (Y : Ys) (t : Row), le9 (t 1) 8 → le9 ((rlC tp len f k Y t).2.2 1) 8
  | 0, _, _, _, h => h
  | f + 1, k, Y, t, h => by
    have h2 := ri_t (tp := tp) (len := len) (Y := Y) h
    rw [rlC]
    split
    · split
      · exact h2
      · split
        · exact rl_t f _ _ _ h2
        · exact h2
    · exact h2
set_option maxHeartbeats 800000 in
set_option maxRecDepth 100000 in
theorem c_X2_readWeather (l : Launch) (E : EV) (ag az : Nat → Nat) (tp tb t : Row) (len bb ee ss vv : Nat) (hT : TR tp tb len) (hl9 : len ≤ 120) (hY : YI len (bb, ee, ss, vv)) : Met l yX2_readWeather (wq yX2_readWeather cX2_readWeather 5 (some .boolean)) ({ frames := 3, cells := 0, slots := 0, locals := 65 }) (preB E [.ref (ag 2), .ref (az 0)] [[rdY ag len (bb, ee, ss, vv)], [(ag 3, .inl (E.2.2.1, 120, .inl (sg tb 120)))], hillsW E az t]) (qI E [[rdY ag len (bb, ee, ss, vv)], [(ag 3, .inl (E.2.2.1, 120, .inl (sg tb 120)))], hillsW E az t] [[rdY ag len ((rwC tp len (bb, ee, ss, vv) t).1)], [(ag 3, .inl (E.2.2.1, 120, .inl (sg tb 120)))], hillsW E az ((rwC tp len (bb, ee, ss, vv) t).2.2)] (bI ((rwC tp len (bb, ee, ss, vv) t).2.1 = true))) 0 0 (inB [[rdY ag len (bb, ee, ss, vv)], [(ag 3, .inl (E.2.2.1, 120, .inl (sg tb 120)))], hillsW E az t]) := by
  refine M_mk RX2 (by decide) rfl (Nat.le_of_ble_eq_true rfl) ?_
  intro p e s m below meth c S hr hlk hK hP hD hS ls hl
  have hl : lv_has ls 5 [(0, .ref (ag 2)), (1, .ref (az 0))] := hl
  obtain ⟨H, hH⟩ : ∃ zz9, zz9 = s.heap := ⟨_, rfl⟩
  obtain ⟨locs, hlocs⟩ : ∃ zz9 : List Loc, zz9 = [] := ⟨_, rfl⟩
  have hP : PE E [[rdY ag len (bb, ee, ss, vv)], [(ag 3, .inl (E.2.2.1, 120, .inl (sg tb 120)))], hillsW E az t] H := by rw [hH]; exact hP
  have hS : va_S (inB [[rdY ag len (bb, ee, ss, vv)], [(ag 3, .inl (E.2.2.1, 120, .inl (sg tb 120)))], hillsW E az t]) s.heap H locs := by rw [hH, hlocs]; exact hS
  show W p l e ({ frames := 3, cells := 0, slots := 0, locals := 65 }) s m ([.ref (ag 2), .ref (az 0)] : List Value).toArray below meth c s.heap [] 0 0 _ _
  suffices hgo : W p l e ({ frames := 3, cells := 0, slots := 0, locals := 65 }) s m ([.ref (ag 2), .ref (az 0)] : List Value).toArray below meth c H locs 0 0 (MQ below (qI E [[rdY ag len (bb, ee, ss, vv)], [(ag 3, .inl (E.2.2.1, 120, .inl (sg tb 120)))], hillsW E az t] [[rdY ag len ((rwC tp len (bb, ee, ss, vv) t).1)], [(ag 3, .inl (E.2.2.1, 120, .inl (sg tb 120)))], hillsW E az ((rwC tp len (bb, ee, ss, vv) t).2.2)] (bI ((rwC tp len (bb, ee, ss, vv) t).2.1 = true))) ([.ref (ag 2), .ref (az 0)] : List Value).toArray s 0 0 (inB [[rdY ag len (bb, ee, ss, vv)], [(ag 3, .inl (E.2.2.1, 120, .inl (sg tb 120)))], hillsW E az t])) (F0 m 0 ls []) by rw [hH, hlocs] at hgo; exact hgo
  clear hH hlocs
  refine lv_aload_n S.1 S.2.1 dX2_readWeather_0 rfl (lv_at hl 0 rfl) ?_
  refine go_V (run_V (As := []) (rest := []) (n := 0) S hK (bl_P hP [0, 1] rfl) (bl_D hD [0, 1] rfl rfl) (c_X2_step l E ag tp tb len bb ee ss vv hT hl9 hY.2.1) gV_X2_31 (by decide +kernel) rfl ⟨rfl, rfl⟩ ⟨Nat.le_of_ble_eq_true rfl, Nat.le_of_ble_eq_true rfl⟩ (ci := 2) (q0 := 0) rfl rfl hl.1 (Nat.le_of_ble_eq_true rfl) dX2_readWeather_1 ⟨Nat.zero_le _, Nat.zero_le _⟩) hP hD hS [0, 1] rfl (had_cons ry_ad (had_cons rfl rfl)) (Bs' := [[rdY ag len (tkF tp len ee)], [(ag 3, .inl (E.2.2.1, 120, .inl (sg tb 120)))], hillsW E az t]) rfl (fun H locs hP hD hS => ?_)
  obtain ⟨⟨b_1, e_1, s_1, v_1⟩, eY_1⟩ : ∃ zz9 : Ys, zz9 = tkF tp len ee := ⟨_, rfl⟩
  rw [← eY_1] at hP hD
  have hY_1 : YI len (b_1, e_1, s_1, v_1) := by (rw [eY_1]; exact tk_Y hY.2.1)
  refine lv_aload_n S.1 S.2.1 dX2_readWeather_4 rfl (lv_at hl 0 rfl) ?_
  refine lv_iconst (v := 5) S.1 S.2.1 dX2_readWeather_5 (by decide) ?_
  refine go_I (run_V (As := [.int 5]) (rest := []) (n := 1) S hK (bl_P hP [0, 1] rfl) (bl_D hD [0, 1] rfl rfl) (c_X2_takeNumber l E ag tp tb len b_1 e_1 s_1 v_1 5 hT hl9 hY_1 (by decide)) gV_X2_74 (by decide +kernel) rfl ⟨rfl, rfl⟩ ⟨Nat.le_of_ble_eq_true rfl, Nat.le_of_ble_eq_true rfl⟩ (ci := 2) (q0 := 0) rfl rfl hl.1 (Nat.le_of_ble_eq_true rfl) dX2_readWeather_6 ⟨Nat.zero_le _, Nat.zero_le _⟩) hP hD hS [0, 1] rfl (had_cons ry_ad (had_cons rfl rfl)) (Bs' := [[rdY ag len (numC tp len (b_1, e_1, s_1, v_1) 5)], [(ag 3, .inl (E.2.2.1, 120, .inl (sg tb 120)))], hillsW E az t]) rfl (fun H locs hP hD hS => ?_)
  obtain ⟨⟨b_6, e_6, s_6, v_6⟩, eY_6⟩ : ∃ zz9 : Ys, zz9 = numC tp len (b_1, e_1, s_1, v_1) 5 := ⟨_, rfl⟩
  rw [← eY_6] at hP hD
  have hY_6 : YI len (b_6, e_6, s_6, v_6) := by (rw [eY_6]; exact num_Y hY_1)
  refine lv_istore_n (lv' := [(2, .int (numA (b_1, e_1, s_1, v_1) 5)), (0, .ref (ag 2)), (1, .ref (az 0))]) S.1 S.2.1 dX2_readWeather_9 rfl hl (by decide) rfl (fun ls hl => ?_)
  refine lv_iload_n S.1 S.2.1 dX2_readWeather_10 rfl (lv_at hl 0 rfl) ?_
  refine lv_iconst (v := (-1)) S.1 S.2.1 dX2_readWeather_11 (by decide) ?_
  refine lv_icmp_ne (tgt := 17) S.1 S.2.1 dX2_readWeather_12 (by decide) (fun c_12 => ?_) (fun c_12 => ?_)
  · have ok_6 : okY (b_1, e_1, s_1, v_1) 5 := numA_yes c_12
    have en_6 : nx tp len (b_1, e_1, s_1, v_1) = (b_6, e_6, s_6, v_6) := (eY_6.trans (numC_ok ok_6)).symm
    have hv_6 : v_1 ≤ 5 := ok_6.2
    refine lv_aload_n S.1 S.2.1 dX2_readWeather_17 rfl (lv_at hl 1 rfl) ?_
    refine lv_bipush (v := 9) S.1 S.2.1 dX2_readWeather_18 (by decide) ?_
    refine go_I (run_V (As := [.int 9]) (rest := []) (n := 1) S hK (bl_P hP [0, 1] rfl) (bl_D hD [0, 1] rfl rfl) (c_X2_takeNumber l E ag tp tb len b_6 e_6 s_6 v_6 9 hT hl9 hY_6 (by decide)) gV_X2_74 (by decide +kernel) rfl ⟨rfl, rfl⟩ ⟨Nat.le_of_ble_eq_true rfl, Nat.le_of_ble_eq_true rfl⟩ (ci := 2) (q0 := 0) rfl rfl hl.1 (Nat.le_of_ble_eq_true rfl) dX2_readWeather_20 ⟨Nat.zero_le _, Nat.zero_le _⟩) hP hD hS [0, 1] rfl (had_cons ry_ad (had_cons rfl rfl)) (Bs' := [[rdY ag len (numC tp len (b_6, e_6, s_6, v_6) 9)], [(ag 3, .inl (E.2.2.1, 120, .inl (sg tb 120)))], hillsW E az t]) rfl (fun H locs hP hD hS => ?_)
    obtain ⟨⟨b_20, e_20, s_20, v_20⟩, eY_20⟩ : ∃ zz9 : Ys, zz9 = numC tp len (b_6, e_6, s_6, v_6) 9 := ⟨_, rfl⟩
    rw [← eY_20] at hP hD
    have hY_20 : YI len (b_20, e_20, s_20, v_20) := by (rw [eY_20]; exact num_Y hY_6)
    refine lv_istore_n (lv' := [(3, .int (numA (b_6, e_6, s_6, v_6) 9)), (2, .int (numA (b_1, e_1, s_1, v_1) 5)), (0, .ref (ag 2)), (1, .ref (az 0))]) S.1 S.2.1 dX2_readWeather_23 rfl hl (by decide) rfl (fun ls hl => ?_)
    refine lv_iload_n S.1 S.2.1 dX2_readWeather_24 rfl (lv_at hl 0 rfl) ?_
    refine lv_iconst (v := (-1)) S.1 S.2.1 dX2_readWeather_25 (by decide) ?_
    refine lv_icmp_ne (tgt := 31) S.1 S.2.1 dX2_readWeather_26 (by decide) (fun c_26 => ?_) (fun c_26 => ?_)
    · have ok_20 : okY (b_6, e_6, s_6, v_6) 9 := numA_yes c_26
      have en_20 : nx tp len (b_6, e_6, s_6, v_6) = (b_20, e_20, s_20, v_20) := (eY_20.trans (numC_ok ok_20)).symm
      have hv_20 : v_6 ≤ 9 := ok_20.2
      refine lv_aload_n S.1 S.2.1 dX2_readWeather_31 rfl (lv_at hl 2 rfl) ?_
      refine lv_bipush (v := 9) S.1 S.2.1 dX2_readWeather_32 (by decide) ?_
      refine go_I (run_V (As := [.int 9]) (rest := []) (n := 1) S hK (bl_P hP [0, 1] rfl) (bl_D hD [0, 1] rfl rfl) (c_X2_takeNumber l E ag tp tb len b_20 e_20 s_20 v_20 9 hT hl9 hY_20 (by decide)) gV_X2_74 (by decide +kernel) rfl ⟨rfl, rfl⟩ ⟨Nat.le_of_ble_eq_true rfl, Nat.le_of_ble_eq_true rfl⟩ (ci := 2) (q0 := 0) rfl rfl hl.1 (Nat.le_of_ble_eq_true rfl) dX2_readWeather_34 ⟨Nat.zero_le _, Nat.zero_le _⟩) hP hD hS [0, 1] rfl (had_cons ry_ad (had_cons rfl rfl)) (Bs' := [[rdY ag len (numC tp len (b_20, e_20, s_20, v_20) 9)], [(ag 3, .inl (E.2.2.1, 120, .inl (sg tb 120)))], hillsW E az t]) rfl (fun H locs hP hD hS => ?_)
      obtain ⟨⟨b_34, e_34, s_34, v_34⟩, eY_34⟩ : ∃ zz9 : Ys, zz9 = numC tp len (b_20, e_20, s_20, v_20) 9 := ⟨_, rfl⟩
      rw [← eY_34] at hP hD
      have hY_34 : YI len (b_34, e_34, s_34, v_34) := by (rw [eY_34]; exact num_Y hY_20)
      refine lv_istore (lv' := [(4, .int (numA (b_20, e_20, s_20, v_20) 9)), (3, .int (numA (b_6, e_6, s_6, v_6) 9)), (2, .int (numA (b_1, e_1, s_1, v_1) 5)), (0, .ref (ag 2)), (1, .ref (az 0))]) S.1 S.2.1 dX2_readWeather_37 hl (by decide) rfl (fun ls hl => ?_)
      refine lv_iload S.1 S.2.1 dX2_readWeather_39 (lv_at hl 0 rfl) ?_
      refine lv_iconst (v := (-1)) S.1 S.2.1 dX2_readWeather_41 (by decide) ?_
      refine lv_icmp_ne (tgt := 47) S.1 S.2.1 dX2_readWeather_42 (by decide) (fun c_42 => ?_) (fun c_42 => ?_)
      · have ok_34 : okY (b_20, e_20, s_20, v_20) 9 := numA_yes c_42
        have en_34 : nx tp len (b_20, e_20, s_20, v_20) = (b_34, e_34, s_34, v_34) := (eY_34.trans (numC_ok ok_34)).symm
        have hv_34 : v_20 ≤ 9 := ok_34.2
        refine lv_aload_n S.1 S.2.1 dX2_readWeather_47 rfl (lv_at hl 4 rfl) ?_
        refine gf_X2_78 S hK hP 2 0 rfl rfl rfl dX2_readWeather_48 ?_
        refine lv_iload_n S.1 S.2.1 dX2_readWeather_51 rfl (lv_at hl 2 rfl) ?_
        refine lv_eqi (y := nI v_1) (numA_ok ok_6) ?_
        refine lv_bipush (v := 10) S.1 S.2.1 dX2_readWeather_52 (by decide) ?_
        refine lv_iload_n S.1 S.2.1 dX2_readWeather_54 rfl (lv_at hl 1 rfl) ?_
        refine lv_eqi (y := nI v_6) (numA_ok ok_20) ?_
        refine lv_imul S.1 S.2.1 dX2_readWeather_55 ?_
        refine lv_eqi (y := nI (10 * v_6)) (pk_mul 10 v_6) ?_
        refine lv_iload S.1 S.2.1 dX2_readWeather_56 (lv_at hl 0 rfl) ?_
        refine lv_eqi (y := nI v_20) (numA_ok ok_34) ?_
        refine lv_iadd S.1 S.2.1 dX2_readWeather_58 ?_
        refine lv_eqi (y := nI (10 * v_6 + v_20)) (nI_add (10 * v_6) v_20) ?_
        refine b_iastN (i := v_1) S hK hP hD hS 2 1 rfl rfl (by omega) (by decide) (hs_list (by omega)) (Bs1 := [[rdY ag len (b_34, e_34, s_34, v_34)], [(ag 3, .inl (E.2.2.1, 120, .inl (sg tb 120)))], hillsW E az (upd t (5 + v_1) (nI (10 * v_6 + v_20)))]) rfl dX2_readWeather_59 (fun H locs hP hD hS => ?_)
        obtain ⟨r_59, er_59⟩ : ∃ zz9, zz9 = upd t (5 + v_1) (nI (10 * v_6 + v_20)) := ⟨_, rfl⟩
        rw [← er_59] at hP hD
        refine lv_iconst (v := 1) S.1 S.2.1 dX2_readWeather_60 (by decide) ?_
        exact retZ S hr hlk rfl (by have n1 : nx tp len (bb, ee, ss, vv) = (b_1, e_1, s_1, v_1) := eY_1.symm; have e9 : rwC tp len (bb, ee, ss, vv) t = ((b_34, e_34, s_34, v_34), true, r_59) := (by unfold rwC; rw [n1, if_pos ok_6, en_6, if_pos ok_20, en_20, if_pos ok_34, en_34, er_59]); rw [e9]; exact hP) hS (by have n1 : nx tp len (bb, ee, ss, vv) = (b_1, e_1, s_1, v_1) := eY_1.symm; have e9 : rwC tp len (bb, ee, ss, vv) t = ((b_34, e_34, s_34, v_34), true, r_59) := (by unfold rwC; rw [n1, if_pos ok_6, en_6, if_pos ok_20, en_20, if_pos ok_34, en_34, er_59]); rw [e9]; rfl) dX2_readWeather_61
      · have no_34 : ¬ okY (b_20, e_20, s_20, v_20) 9 := numA_not hY_20 c_42
        have en_34 : (b_34, e_34, s_34, v_34) = (b_20, e_20, s_20, v_20) := eY_34.trans (numC_no no_34)
        refine lv_iconst (v := 0) S.1 S.2.1 dX2_readWeather_45 (by decide) ?_
        exact retZ S hr hlk rfl (by have n1 : nx tp len (bb, ee, ss, vv) = (b_1, e_1, s_1, v_1) := eY_1.symm; have e9 : rwC tp len (bb, ee, ss, vv) t = ((b_20, e_20, s_20, v_20), false, t) := (by unfold rwC; rw [n1, if_pos ok_6, en_6, if_pos ok_20, en_20, if_neg no_34]); rw [en_34] at hP; rw [e9]; exact hP) hS (by have n1 : nx tp len (bb, ee, ss, vv) = (b_1, e_1, s_1, v_1) := eY_1.symm; have e9 : rwC tp len (bb, ee, ss, vv) t = ((b_20, e_20, s_20, v_20), false, t) := (by unfold rwC; rw [n1, if_pos ok_6, en_6, if_pos ok_20, en_20, if_neg no_34]); rw [e9]; rfl) dX2_readWeather_46
    · have no_20 : ¬ okY (b_6, e_6, s_6, v_6) 9 := numA_not hY_6 c_26
      have en_20 : (b_20, e_20, s_20, v_20) = (b_6, e_6, s_6, v_6) := eY_20.trans (numC_no no_20)
      refine lv_iconst (v := 0) S.1 S.2.1 dX2_readWeather_29 (by decide) ?_
      exact retZ S hr hlk rfl (by have n1 : nx tp len (bb, ee, ss, vv) = (b_1, e_1, s_1, v_1) := eY_1.symm; have e9 : rwC tp len (bb, ee, ss, vv) t = ((b_6, e_6, s_6, v_6), false, t) := (by unfold rwC; rw [n1, if_pos ok_6, en_6, if_neg no_20]); rw [en_20] at hP; rw [e9]; exact hP) hS (by have n1 : nx tp len (bb, ee, ss, vv) = (b_1, e_1, s_1, v_1) := eY_1.symm; have e9 : rwC tp len (bb, ee, ss, vv) t = ((b_6, e_6, s_6, v_6), false, t) := (by unfold rwC; rw [n1, if_pos ok_6, en_6, if_neg no_20]); rw [e9]; rfl) dX2_readWeather_30
  · have no_6 : ¬ okY (b_1, e_1, s_1, v_1) 5 := numA_not hY_1 c_12
    have en_6 : (b_6, e_6, s_6, v_6) = (b_1, e_1, s_1, v_1) := eY_6.trans (numC_no no_6)
    refine lv_iconst (v := 0) S.1 S.2.1 dX2_readWeather_15 (by decide) ?_
    exact retZ S hr hlk rfl (by have n1 : nx tp len (bb, ee, ss, vv) = (b_1, e_1, s_1, v_1) := eY_1.symm; have e9 : rwC tp len (bb, ee, ss, vv) t = ((b_1, e_1, s_1, v_1), false, t) := (by unfold rwC; rw [n1, if_neg no_6]); rw [en_6] at hP; rw [e9]; exact hP) hS (by have n1 : nx tp len (bb, ee, ss, vv) = (b_1, e_1, s_1, v_1) := eY_1.symm; have e9 : rwC tp len (bb, ee, ss, vv) t = ((b_1, e_1, s_1, v_1), false, t) := (by unfold rwC; rw [n1, if_neg no_6]); rw [e9]; rfl) dX2_readWeather_16
set_option maxHeartbeats 800000 in
set_option maxRecDepth 100000 in
theorem c_X2_readOnions (l : Launch) (E : EV) (ag az : Nat → Nat) (tp tb t : Row) (len bb ee ss vv : Nat) (hT : TR tp tb len) (hl9 : len ≤ 120) (hY : YI len (bb, ee, ss, vv)) : Met l yX2_readOnions (wq yX2_readOnions cX2_readOnions 3 (some .boolean)) ({ frames := 3, cells := 0, slots := 0, locals := 65 }) (preB E [.ref (ag 2), .ref (az 0)] [[rdY ag len (bb, ee, ss, vv)], [(ag 3, .inl (E.2.2.1, 120, .inl (sg tb 120)))], hillsW E az t]) (qI E [[rdY ag len (bb, ee, ss, vv)], [(ag 3, .inl (E.2.2.1, 120, .inl (sg tb 120)))], hillsW E az t] [[rdY ag len ((roC tp len (bb, ee, ss, vv) t).1)], [(ag 3, .inl (E.2.2.1, 120, .inl (sg tb 120)))], hillsW E az ((roC tp len (bb, ee, ss, vv) t).2.2)] (bI ((roC tp len (bb, ee, ss, vv) t).2.1 = true))) 0 0 (inB [[rdY ag len (bb, ee, ss, vv)], [(ag 3, .inl (E.2.2.1, 120, .inl (sg tb 120)))], hillsW E az t]) := by
  refine M_mk RX2 (by decide) rfl (Nat.le_of_ble_eq_true rfl) ?_
  intro p e s m below meth c S hr hlk hK hP hD hS ls hl
  have hl : lv_has ls 3 [(0, .ref (ag 2)), (1, .ref (az 0))] := hl
  obtain ⟨H, hH⟩ : ∃ zz9, zz9 = s.heap := ⟨_, rfl⟩
  obtain ⟨locs, hlocs⟩ : ∃ zz9 : List Loc, zz9 = [] := ⟨_, rfl⟩
  have hP : PE E [[rdY ag len (bb, ee, ss, vv)], [(ag 3, .inl (E.2.2.1, 120, .inl (sg tb 120)))], hillsW E az t] H := by rw [hH]; exact hP
  have hS : va_S (inB [[rdY ag len (bb, ee, ss, vv)], [(ag 3, .inl (E.2.2.1, 120, .inl (sg tb 120)))], hillsW E az t]) s.heap H locs := by rw [hH, hlocs]; exact hS
  show W p l e ({ frames := 3, cells := 0, slots := 0, locals := 65 }) s m ([.ref (ag 2), .ref (az 0)] : List Value).toArray below meth c s.heap [] 0 0 _ _
  suffices hgo : W p l e ({ frames := 3, cells := 0, slots := 0, locals := 65 }) s m ([.ref (ag 2), .ref (az 0)] : List Value).toArray below meth c H locs 0 0 (MQ below (qI E [[rdY ag len (bb, ee, ss, vv)], [(ag 3, .inl (E.2.2.1, 120, .inl (sg tb 120)))], hillsW E az t] [[rdY ag len ((roC tp len (bb, ee, ss, vv) t).1)], [(ag 3, .inl (E.2.2.1, 120, .inl (sg tb 120)))], hillsW E az ((roC tp len (bb, ee, ss, vv) t).2.2)] (bI ((roC tp len (bb, ee, ss, vv) t).2.1 = true))) ([.ref (ag 2), .ref (az 0)] : List Value).toArray s 0 0 (inB [[rdY ag len (bb, ee, ss, vv)], [(ag 3, .inl (E.2.2.1, 120, .inl (sg tb 120)))], hillsW E az t])) (F0 m 0 ls []) by rw [hH, hlocs] at hgo; exact hgo
  clear hH hlocs
  refine lv_aload_n S.1 S.2.1 dX2_readOnions_0 rfl (lv_at hl 0 rfl) ?_
  refine go_V (run_V (As := []) (rest := []) (n := 0) S hK (bl_P hP [0, 1] rfl) (bl_D hD [0, 1] rfl rfl) (c_X2_step l E ag tp tb len bb ee ss vv hT hl9 hY.2.1) gV_X2_31 (by decide +kernel) rfl ⟨rfl, rfl⟩ ⟨Nat.le_of_ble_eq_true rfl, Nat.le_of_ble_eq_true rfl⟩ (ci := 2) (q0 := 0) rfl rfl hl.1 (Nat.le_of_ble_eq_true rfl) dX2_readOnions_1 ⟨Nat.zero_le _, Nat.zero_le _⟩) hP hD hS [0, 1] rfl (had_cons ry_ad (had_cons rfl rfl)) (Bs' := [[rdY ag len (tkF tp len ee)], [(ag 3, .inl (E.2.2.1, 120, .inl (sg tb 120)))], hillsW E az t]) rfl (fun H locs hP hD hS => ?_)
  obtain ⟨⟨b_1, e_1, s_1, v_1⟩, eY_1⟩ : ∃ zz9 : Ys, zz9 = tkF tp len ee := ⟨_, rfl⟩
  rw [← eY_1] at hP hD
  have hY_1 : YI len (b_1, e_1, s_1, v_1) := by (rw [eY_1]; exact tk_Y hY.2.1)
  refine lv_aload_n S.1 S.2.1 dX2_readOnions_4 rfl (lv_at hl 0 rfl) ?_
  refine lv_bipush (v := 99) S.1 S.2.1 dX2_readOnions_5 (by decide) ?_
  refine go_I (run_V (As := [.int 99]) (rest := []) (n := 1) S hK (bl_P hP [0, 1] rfl) (bl_D hD [0, 1] rfl rfl) (c_X2_takeNumber l E ag tp tb len b_1 e_1 s_1 v_1 99 hT hl9 hY_1 (by decide)) gV_X2_74 (by decide +kernel) rfl ⟨rfl, rfl⟩ ⟨Nat.le_of_ble_eq_true rfl, Nat.le_of_ble_eq_true rfl⟩ (ci := 2) (q0 := 0) rfl rfl hl.1 (Nat.le_of_ble_eq_true rfl) dX2_readOnions_7 ⟨Nat.zero_le _, Nat.zero_le _⟩) hP hD hS [0, 1] rfl (had_cons ry_ad (had_cons rfl rfl)) (Bs' := [[rdY ag len (numC tp len (b_1, e_1, s_1, v_1) 99)], [(ag 3, .inl (E.2.2.1, 120, .inl (sg tb 120)))], hillsW E az t]) rfl (fun H locs hP hD hS => ?_)
  obtain ⟨⟨b_7, e_7, s_7, v_7⟩, eY_7⟩ : ∃ zz9 : Ys, zz9 = numC tp len (b_1, e_1, s_1, v_1) 99 := ⟨_, rfl⟩
  rw [← eY_7] at hP hD
  have hY_7 : YI len (b_7, e_7, s_7, v_7) := by (rw [eY_7]; exact num_Y hY_1)
  refine lv_istore_n (lv' := [(2, .int (numA (b_1, e_1, s_1, v_1) 99)), (0, .ref (ag 2)), (1, .ref (az 0))]) S.1 S.2.1 dX2_readOnions_10 rfl hl (by decide) rfl (fun ls hl => ?_)
  refine lv_iload_n S.1 S.2.1 dX2_readOnions_11 rfl (lv_at hl 0 rfl) ?_
  refine lv_iconst (v := (-1)) S.1 S.2.1 dX2_readOnions_12 (by decide) ?_
  refine lv_icmp_ne (tgt := 18) S.1 S.2.1 dX2_readOnions_13 (by decide) (fun c_13 => ?_) (fun c_13 => ?_)
  · have ok_7 : okY (b_1, e_1, s_1, v_1) 99 := numA_yes c_13
    have en_7 : nx tp len (b_1, e_1, s_1, v_1) = (b_7, e_7, s_7, v_7) := (eY_7.trans (numC_ok ok_7)).symm
    have hv_7 : v_1 ≤ 99 := ok_7.2
    refine lv_aload_n S.1 S.2.1 dX2_readOnions_18 rfl (lv_at hl 2 rfl) ?_
    refine lv_iload_n S.1 S.2.1 dX2_readOnions_19 rfl (lv_at hl 0 rfl) ?_
    refine lv_eqi (y := nI v_1) (numA_ok ok_7) ?_
    refine pf_X2_82 S hK hP hD hS 2 0 rfl rfl (Nat.le_of_ble_eq_true rfl) hs_3 (Bs1 := [[rdY ag len (b_7, e_7, s_7, v_7)], [(ag 3, .inl (E.2.2.1, 120, .inl (sg tb 120)))], hillsW E az (upd t 3 (nI v_1))]) rfl dX2_readOnions_20 (fun H locs hP hD hS => ?_)
    obtain ⟨r_20, er_20⟩ : ∃ zz9, zz9 = upd t 3 (nI v_1) := ⟨_, rfl⟩
    rw [← er_20] at hP hD
    refine lv_iconst (v := 1) S.1 S.2.1 dX2_readOnions_23 (by decide) ?_
    exact retZ S hr hlk rfl (by have n1 : nx tp len (bb, ee, ss, vv) = (b_1, e_1, s_1, v_1) := eY_1.symm; have e9 : roC tp len (bb, ee, ss, vv) t = ((b_7, e_7, s_7, v_7), true, r_20) := (by unfold roC; rw [n1, if_pos ok_7, en_7, er_20]); rw [e9]; exact hP) hS (by have n1 : nx tp len (bb, ee, ss, vv) = (b_1, e_1, s_1, v_1) := eY_1.symm; have e9 : roC tp len (bb, ee, ss, vv) t = ((b_7, e_7, s_7, v_7), true, r_20) := (by unfold roC; rw [n1, if_pos ok_7, en_7, er_20]); rw [e9]; rfl) dX2_readOnions_24
  · have no_7 : ¬ okY (b_1, e_1, s_1, v_1) 99 := numA_not hY_1 c_13
    have en_7 : (b_7, e_7, s_7, v_7) = (b_1, e_1, s_1, v_1) := eY_7.trans (numC_no no_7)
    refine lv_iconst (v := 0) S.1 S.2.1 dX2_readOnions_16 (by decide) ?_
    exact retZ S hr hlk rfl (by have n1 : nx tp len (bb, ee, ss, vv) = (b_1, e_1, s_1, v_1) := eY_1.symm; have e9 : roC tp len (bb, ee, ss, vv) t = ((b_1, e_1, s_1, v_1), false, t) := (by unfold roC; rw [n1, if_neg no_7]); rw [en_7] at hP; rw [e9]; exact hP) hS (by have n1 : nx tp len (bb, ee, ss, vv) = (b_1, e_1, s_1, v_1) := eY_1.symm; have e9 : roC tp len (bb, ee, ss, vv) t = ((b_1, e_1, s_1, v_1), false, t) := (by unfold roC; rw [n1, if_neg no_7]); rw [e9]; rfl) dX2_readOnions_17
set_option maxHeartbeats 800000 in
set_option maxRecDepth 100000 in
theorem c_X2_readDetails (l : Launch) (E : EV) (aS : Nat → Nat) (ag az : Nat → Nat) (tp tb t : Row) (len bb ee ss vv : Nat) (i9 : Nat) (hT : TR tp tb len) (hl9 : len ≤ 120) (hY : YI len (bb, ee, ss, vv)) (hi : i9 < 8) : Met l yX2_readDetails (wq yX2_readDetails cX2_readDetails 4 (some .boolean)) ({ frames := 5, cells := 0, slots := 0, locals := 107 }) (preX E aS [.ref (ag 2), .ref (az (4 + i9))] [[rdY ag len (bb, ee, ss, vv)], [(ag 3, .inl (E.2.2.1, 120, .inl (sg tb 120)))], hillsW E az t]) (qI E [[rdY ag len (bb, ee, ss, vv)], [(ag 3, .inl (E.2.2.1, 120, .inl (sg tb 120)))], hillsW E az t] [[rdY ag len ((detN tp len i9 ((bb, ee, ss, vv), true, t) 3).1)], [(ag 3, .inl (E.2.2.1, 120, .inl (sg tb 120)))], hillsW E az ((detN tp len i9 ((bb, ee, ss, vv), true, t) 3).2.2)] (bI ((detN tp len i9 ((bb, ee, ss, vv), true, t) 3).2.1 = true))) 0 0 (inB [[rdY ag len (bb, ee, ss, vv)], [(ag 3, .inl (E.2.2.1, 120, .inl (sg tb 120)))], hillsW E az t]) := by
  refine M_mkX RX2 (by decide) rfl (Nat.le_of_ble_eq_true rfl) ?_
  intro p e s m below meth c S hr hlk hK hP hD hS hX ls hl
  have hl : lv_has ls 4 [(0, .ref (ag 2)), (1, .ref (az (4 + i9)))] := hl
  obtain ⟨H, hH⟩ : ∃ zz9, zz9 = s.heap := ⟨_, rfl⟩
  obtain ⟨locs, hlocs⟩ : ∃ zz9 : List Loc, zz9 = [] := ⟨_, rfl⟩
  have hP : PE E [[rdY ag len (bb, ee, ss, vv)], [(ag 3, .inl (E.2.2.1, 120, .inl (sg tb 120)))], hillsW E az t] H := by rw [hH]; exact hP
  have hS : va_S (inB [[rdY ag len (bb, ee, ss, vv)], [(ag 3, .inl (E.2.2.1, 120, .inl (sg tb 120)))], hillsW E az t]) s.heap H locs := by rw [hH, hlocs]; exact hS
  show W p l e ({ frames := 5, cells := 0, slots := 0, locals := 107 }) s m ([.ref (ag 2), .ref (az (4 + i9))] : List Value).toArray below meth c s.heap [] 0 0 _ _
  suffices hgo : W p l e ({ frames := 5, cells := 0, slots := 0, locals := 107 }) s m ([.ref (ag 2), .ref (az (4 + i9))] : List Value).toArray below meth c H locs 0 0 (MQ below (qI E [[rdY ag len (bb, ee, ss, vv)], [(ag 3, .inl (E.2.2.1, 120, .inl (sg tb 120)))], hillsW E az t] [[rdY ag len ((detN tp len i9 ((bb, ee, ss, vv), true, t) 3).1)], [(ag 3, .inl (E.2.2.1, 120, .inl (sg tb 120)))], hillsW E az ((detN tp len i9 ((bb, ee, ss, vv), true, t) 3).2.2)] (bI ((detN tp len i9 ((bb, ee, ss, vv), true, t) 3).2.1 = true))) ([.ref (ag 2), .ref (az (4 + i9))] : List Value).toArray s 0 0 (inB [[rdY ag len (bb, ee, ss, vv)], [(ag 3, .inl (E.2.2.1, 120, .inl (sg tb 120)))], hillsW E az t])) (F0 m 0 ls []) by rw [hH, hlocs] at hgo; exact hgo
  clear hH hlocs
  refine lv_iconst (v := 1) S.1 S.2.1 dX2_readDetails_0 (by decide) ?_
  refine lv_istore_n (lv' := [(2, .int 1), (0, .ref (ag 2)), (1, .ref (az (4 + i9)))]) S.1 S.2.1 dX2_readDetails_1 rfl hl (by decide) rfl (fun ls hl => ?_)
  have L_2 : ∀ (fu : Nat) (k : Nat) (b3 : Nat) (e3 : Nat) (s3 : Nat) (v3 : Nat) (tk : Row), (k ≤ 3) → (3 < k + fu) → (YI len (b3, e3, s3, v3)) → (detN tp len i9 ((bb, ee, ss, vv), true, t) k = ((b3, e3, s3, v3), true, tk)) → ∀ (H : Heap) (locs : List Loc), PE E [[rdY ag len (b3, e3, s3, v3)], [(ag 3, .inl (E.2.2.1, 120, .inl (sg tb 120)))], hillsW E az tk] H → DE (inB [[rdY ag len (bb, ee, ss, vv)], [(ag 3, .inl (E.2.2.1, 120, .inl (sg tb 120)))], hillsW E az t]) [[rdY ag len (b3, e3, s3, v3)], [(ag 3, .inl (E.2.2.1, 120, .inl (sg tb 120)))], hillsW E az tk] → va_S (inB [[rdY ag len (bb, ee, ss, vv)], [(ag 3, .inl (E.2.2.1, 120, .inl (sg tb 120)))], hillsW E az t]) s.heap H locs → ∀ (ls : Array Slot), lv_has ls 4 [(0, .ref (ag 2)), (1, .ref (az (4 + i9))), (2, .int (nI (k + 1)))] → W p l e ({ frames := 5, cells := 0, slots := 0, locals := 107 }) s m ([.ref (ag 2), .ref (az (4 + i9))] : List Value).toArray below meth c H locs 0 0 (MQ below (qI E [[rdY ag len (bb, ee, ss, vv)], [(ag 3, .inl (E.2.2.1, 120, .inl (sg tb 120)))], hillsW E az t] [[rdY ag len ((detN tp len i9 ((bb, ee, ss, vv), true, t) 3).1)], [(ag 3, .inl (E.2.2.1, 120, .inl (sg tb 120)))], hillsW E az ((detN tp len i9 ((bb, ee, ss, vv), true, t) 3).2.2)] (bI ((detN tp len i9 ((bb, ee, ss, vv), true, t) 3).2.1 = true))) ([.ref (ag 2), .ref (az (4 + i9))] : List Value).toArray s 0 0 (inB [[rdY ag len (bb, ee, ss, vv)], [(ag 3, .inl (E.2.2.1, 120, .inl (sg tb 120)))], hillsW E az t])) (F0 m 2 ls []) := by
    intro fu
    induction fu with
    | zero =>
      intro k b3 e3 s3 v3 tk hk hf hY_k hZ
      omega
    | succ fu ih_2 =>
      intro k b3 e3 s3 v3 tk hk hf hY_k hZ H locs hP hD hS ls hl
      refine lv_iload_n S.1 S.2.1 dX2_readDetails_2 rfl (lv_at hl 2 rfl) ?_
      refine lv_iconst (v := 3) S.1 S.2.1 dX2_readDetails_3 (by decide) ?_
      refine lv_icmp_gt (tgt := 50) S.1 S.2.1 dX2_readDetails_4 (by decide) (fun c_4 => ?_) (fun c_4 => ?_)
      · have n_4 := Int32.not_le.mpr c_4
        refine lv_iconst (v := 1) S.1 S.2.1 dX2_readDetails_50 (by decide) ?_
        exact retZ S hr hlk rfl (by have e9 : detN tp len i9 ((bb, ee, ss, vv), true, t) 3 = ((b3, e3, s3, v3), true, tk) := (by rw [← hZ, show k = 3 by (have z9 : 3 < k + 1 := lt_of_nI (a := 3) c_4 (by decide) (by omega); omega)]); rw [e9]; exact hP) hS (by have e9 : detN tp len i9 ((bb, ee, ss, vv), true, t) 3 = ((b3, e3, s3, v3), true, tk) := (by rw [← hZ, show k = 3 by (have z9 : 3 < k + 1 := lt_of_nI (a := 3) c_4 (by decide) (by omega); omega)]); rw [e9]; rfl) dX2_readDetails_51
      · have n_4 := Int32.not_lt.mp c_4
        have hk2 : k + 1 ≤ 3 := le_of_nI (b := 3) (Int32.not_lt.mp c_4) (by omega) (by decide)
        refine lv_aload_n S.1 S.2.1 dX2_readDetails_7 rfl (lv_at hl 0 rfl) ?_
        refine lv_iload_n S.1 S.2.1 dX2_readDetails_8 rfl (lv_at hl 2 rfl) ?_
        refine go_Pr (run_SX (As := [.int (nI (k + 1))]) (rest := [.ref (ag 2)]) (n := 1) S hK (bl_P hP [] rfl) (bl_D hD [] rfl rfl) (EX_c hX hS hD [] rfl) (c_X2_wordOfDetail l E aS (k + 1) (by omega)) gS_X2_85 (by decide +kernel) rfl ⟨rfl, rfl⟩ ⟨Nat.le_of_ble_eq_true rfl, Nat.le_of_ble_eq_true rfl⟩ hl.1 (Nat.le_of_ble_eq_true rfl) dX2_readDetails_9 ⟨Nat.zero_le _, Nat.zero_le _⟩) ?_
        refine go_S (run_VX (As := [.ref (aS (6 + (k + 1)))]) (rest := []) (n := 1) S hK (bl_P hP [0, 1] rfl) (bl_D hD [0, 1] rfl rfl) (EX_c hX hS hD [0, 1] rfl) (c_X2_isWord l E aS ag tp tb len b3 e3 s3 v3 (6 + (k + 1)) hT hl9 hY_k (by omega)) gV_X2_40 (by decide +kernel) rfl ⟨rfl, rfl⟩ ⟨Nat.le_of_ble_eq_true rfl, Nat.le_of_ble_eq_true rfl⟩ (ci := 2) (q0 := 0) rfl rfl hl.1 (Nat.le_of_ble_eq_true rfl) dX2_readDetails_12 ⟨Nat.zero_le _, Nat.zero_le _⟩) ?_
        refine b_ifeq (tgt := 44) S.1 S.2.1 dX2_readDetails_15 (by decide) (fun c_15 => ?_) (fun c_15 => ?_)
        · refine lv_iinc (v := nI (k + 1 + 1)) (lv' := [(2, .int (nI (k + 1 + 1))), (0, .ref (ag 2)), (1, .ref (az (4 + i9)))]) S.1 S.2.1 dX2_readDetails_44 hl (k := 2) rfl (nI_1 (k + 1)) (by decide) rfl (fun ls hl => ?_)
          refine lv_goto (tgt := 2) S.1 S.2.1 dX2_readDetails_47 (by decide) ?_
          exact ih_2 (k + 1) b3 e3 s3 v3 tk (by omega) (by omega) hY_k (by rw [detN, hZ]; exact det_skip c_15) H locs hP hD hS ls (lv_sub hl [1, 2, 0] rfl)
        · refine lv_aload_n S.1 S.2.1 dX2_readDetails_18 rfl (lv_at hl 0 rfl) ?_
          refine go_V (run_V (As := []) (rest := []) (n := 0) S hK (bl_P hP [0, 1] rfl) (bl_D hD [0, 1] rfl rfl) (c_X2_step l E ag tp tb len b3 e3 s3 v3 hT hl9 hY_k.2.1) gV_X2_31 (by decide +kernel) rfl ⟨rfl, rfl⟩ ⟨Nat.le_of_ble_eq_true rfl, Nat.le_of_ble_eq_true rfl⟩ (ci := 2) (q0 := 0) rfl rfl hl.1 (Nat.le_of_ble_eq_true rfl) dX2_readDetails_19 ⟨Nat.zero_le _, Nat.zero_le _⟩) hP hD hS [0, 1] rfl (had_cons ry_ad (had_cons rfl rfl)) (Bs' := [[rdY ag len (tkF tp len e3)], [(ag 3, .inl (E.2.2.1, 120, .inl (sg tb 120)))], hillsW E az tk]) rfl (fun H locs hP hD hS => ?_)
          obtain ⟨⟨b_19, e_19, s_19, v_19⟩, eY_19⟩ : ∃ zz9 : Ys, zz9 = tkF tp len e3 := ⟨_, rfl⟩
          rw [← eY_19] at hP hD
          have hY_19 : YI len (b_19, e_19, s_19, v_19) := by (rw [eY_19]; exact tk_Y hY_k.2.1)
          refine lv_aload_n S.1 S.2.1 dX2_readDetails_22 rfl (lv_at hl 0 rfl) ?_
          refine lv_iload_n S.1 S.2.1 dX2_readDetails_23 rfl (lv_at hl 2 rfl) ?_
          refine go_S (run_SN (As := [.int (nI (k + 1))]) (rest := [.ref (ag 2)]) (n := 1) S hX.2.2.2 hK (c_X4_mostOf l E (nI (k + 1))) ck_yX4_mostOf nk_X4 sk_yX4_mostOf (by decide +kernel) rfl ⟨rfl, rfl⟩ ⟨Nat.le_of_ble_eq_true rfl, Nat.le_of_ble_eq_true rfl⟩ hl.1 (Nat.le_of_ble_eq_true rfl) dX2_readDetails_24 ⟨Nat.zero_le _, Nat.zero_le _⟩) ?_
          refine lv_eqi (y := nI (bnd (k + 1))) (most_bnd (by omega)) ?_
          refine go_I (run_V (As := [.int (nI (bnd (k + 1)))]) (rest := []) (n := 1) S hK (bl_P hP [0, 1] rfl) (bl_D hD [0, 1] rfl rfl) (c_X2_takeNumber l E ag tp tb len b_19 e_19 s_19 v_19 (bnd (k + 1)) hT hl9 hY_19 (bnd_le (by omega))) gV_X2_74 (by decide +kernel) rfl ⟨rfl, rfl⟩ ⟨Nat.le_of_ble_eq_true rfl, Nat.le_of_ble_eq_true rfl⟩ (ci := 2) (q0 := 0) rfl rfl hl.1 (Nat.le_of_ble_eq_true rfl) dX2_readDetails_27 ⟨Nat.zero_le _, Nat.zero_le _⟩) hP hD hS [0, 1] rfl (had_cons ry_ad (had_cons rfl rfl)) (Bs' := [[rdY ag len (numC tp len (b_19, e_19, s_19, v_19) (bnd (k + 1)))], [(ag 3, .inl (E.2.2.1, 120, .inl (sg tb 120)))], hillsW E az tk]) rfl (fun H locs hP hD hS => ?_)
          obtain ⟨⟨b_27, e_27, s_27, v_27⟩, eY_27⟩ : ∃ zz9 : Ys, zz9 = numC tp len (b_19, e_19, s_19, v_19) (bnd (k + 1)) := ⟨_, rfl⟩
          rw [← eY_27] at hP hD
          have hY_27 : YI len (b_27, e_27, s_27, v_27) := by (rw [eY_27]; exact num_Y hY_19)
          refine lv_istore_n (lv' := [(3, .int (numA (b_19, e_19, s_19, v_19) (bnd (k + 1)))), (0, .ref (ag 2)), (1, .ref (az (4 + i9))), (2, .int (nI (k + 1)))]) S.1 S.2.1 dX2_readDetails_30 rfl hl (by decide) rfl (fun ls hl => ?_)
          refine lv_iload_n S.1 S.2.1 dX2_readDetails_31 rfl (lv_at hl 0 rfl) ?_
          refine lv_iconst (v := (-1)) S.1 S.2.1 dX2_readDetails_32 (by decide) ?_
          refine lv_icmp_ne (tgt := 38) S.1 S.2.1 dX2_readDetails_33 (by decide) (fun c_33 => ?_) (fun c_33 => ?_)
          · have ok_27 : okY (b_19, e_19, s_19, v_19) (bnd (k + 1)) := numA_yes c_33
            have en_27 : nx tp len (b_19, e_19, s_19, v_19) = (b_27, e_27, s_27, v_27) := (eY_27.trans (numC_ok ok_27)).symm
            refine lv_aload_n S.1 S.2.1 dX2_readDetails_38 rfl (lv_at hl 2 rfl) ?_
            refine lv_iload_n S.1 S.2.1 dX2_readDetails_39 rfl (lv_at hl 3 rfl) ?_
            refine lv_iload_n S.1 S.2.1 dX2_readDetails_40 rfl (lv_at hl 0 rfl) ?_
            refine lv_eqi (y := nI v_19) (numA_ok ok_27) ?_
            refine go_Vc (run_V (As := [.int (nI (k + 1)), .int (nI v_19)]) (rest := []) (n := 2) S hK (cell_P hP (b := 2) (j := (4 + i9)) rfl (hw_pot (by omega))) cell_D (c_X1_put l E (az (4 + i9)) (tk (21 + 7 * i9)) (tk (21 + 7 * i9 + 1)) (tk (21 + 7 * i9 + 2)) (tk (21 + 7 * i9 + 3)) (tk (21 + 7 * i9 + 4)) (tk (21 + 7 * i9 + 5)) (tk (21 + 7 * i9 + 6)) (nI (k + 1)) (nI v_19)) gV_X2_92 (by decide +kernel) rfl ⟨rfl, rfl⟩ ⟨Nat.le_of_ble_eq_true rfl, Nat.le_of_ble_eq_true rfl⟩ (ci := 1) (q0 := 0) rfl rfl hl.1 (Nat.le_of_ble_eq_true rfl) dX2_readDetails_41 ⟨Nat.zero_le _, Nat.zero_le _⟩) hP hD hS (b := 2) (j := (4 + i9)) rfl (hw_pot (by omega)) (hs_all (vs := pvs tk i9 (nI (k + 1)) (nI v_19)) (by omega)) (Bs' := [[rdY ag len (b_27, e_27, s_27, v_27)], [(ag 3, .inl (E.2.2.1, 120, .inl (sg tb 120)))], hillsW E az (putP tk i9 (pvs tk i9 (nI (k + 1)) (nI v_19)))]) rfl (fun H locs hP hD hS => ?_)
            rw [pvs_eq (k := k + 1) (by omega)] at hP hD
            obtain ⟨r_41, er_41⟩ : ∃ zz9 : Row, zz9 = upd tk (21 + 7 * i9 + (k + 1)) (nI v_19) := ⟨_, rfl⟩
            rw [← er_41] at hP hD
            refine lv_iinc (v := nI (k + 1 + 1)) (lv' := [(2, .int (nI (k + 1 + 1))), (3, .int (numA (b_19, e_19, s_19, v_19) (bnd (k + 1)))), (0, .ref (ag 2)), (1, .ref (az (4 + i9)))]) S.1 S.2.1 dX2_readDetails_44 hl (k := 3) rfl (nI_1 (k + 1)) (by decide) rfl (fun ls hl => ?_)
            refine lv_goto (tgt := 2) S.1 S.2.1 dX2_readDetails_47 (by decide) ?_
            exact ih_2 (k + 1) b_27 e_27 s_27 v_27 r_41 (by omega) (by omega) hY_27 (by rw [detN, hZ, er_41]; exact det_yes c_15 eY_19.symm ok_27 en_27) H locs hP hD hS ls (lv_sub hl [2, 3, 0] rfl)
          · have no_27 : ¬ okY (b_19, e_19, s_19, v_19) (bnd (k + 1)) := numA_not hY_19 c_33
            have en_27 : (b_27, e_27, s_27, v_27) = (b_19, e_19, s_19, v_19) := eY_27.trans (numC_no no_27)
            have hZ3 : detN tp len i9 ((bb, ee, ss, vv), true, t) 3 = ((b_19, e_19, s_19, v_19), false, tk) := det_stop (by omega) (by rw [detN, hZ]; exact det_no c_15 eY_19.symm no_27)
            refine lv_iconst (v := 0) S.1 S.2.1 dX2_readDetails_36 (by decide) ?_
            exact retZ S hr hlk rfl (by rw [en_27] at hP; rw [hZ3]; exact hP) hS (by rw [hZ3]; rfl) dX2_readDetails_37
  exact L_2 4 0 bb ee ss vv t (by omega) (by omega) hY rfl H locs hP hD hS ls (lv_sub hl [1, 2, 0] rfl)
set_option maxHeartbeats 800000 in
set_option maxRecDepth 100000 in
theorem c_X2_readItem (l : Launch) (E : EV) (aS : Nat → Nat) (ag az : Nat → Nat) (tp tb t : Row) (len bb ee ss vv : Nat) (hT : TR tp tb len) (hl9 : len ≤ 120) (hY : YI len (bb, ee, ss, vv)) (ht : le9 (t 1) 8) : Met l yX2_readItem (wq yX2_readItem cX2_readItem 3 (some .boolean)) ({ frames := 6, cells := 0, slots := 0, locals := 130 }) (preX E aS [.ref (ag 2), .ref (az 0)] [[rdY ag len (bb, ee, ss, vv)], [(ag 3, .inl (E.2.2.1, 120, .inl (sg tb 120)))], hillsW E az t]) (qI E [[rdY ag len (bb, ee, ss, vv)], [(ag 3, .inl (E.2.2.1, 120, .inl (sg tb 120)))], hillsW E az t] [[rdY ag len ((riC tp len (bb, ee, ss, vv) t).1)], [(ag 3, .inl (E.2.2.1, 120, .inl (sg tb 120)))], hillsW E az ((riC tp len (bb, ee, ss, vv) t).2.2)] (bI ((riC tp len (bb, ee, ss, vv) t).2.1 = true))) 0 0 (inB [[rdY ag len (bb, ee, ss, vv)], [(ag 3, .inl (E.2.2.1, 120, .inl (sg tb 120)))], hillsW E az t]) := by
  refine M_mkX RX2 (by decide) rfl (Nat.le_of_ble_eq_true rfl) ?_
  intro p e s m below meth c S hr hlk hK hP hD hS hX ls hl
  have hl : lv_has ls 3 [(0, .ref (ag 2)), (1, .ref (az 0))] := hl
  obtain ⟨n, hn8, hn⟩ := ht
  obtain ⟨H, hH⟩ : ∃ zz9, zz9 = s.heap := ⟨_, rfl⟩
  obtain ⟨locs, hlocs⟩ : ∃ zz9 : List Loc, zz9 = [] := ⟨_, rfl⟩
  have hP : PE E [[rdY ag len (bb, ee, ss, vv)], [(ag 3, .inl (E.2.2.1, 120, .inl (sg tb 120)))], hillsW E az t] H := by rw [hH]; exact hP
  have hS : va_S (inB [[rdY ag len (bb, ee, ss, vv)], [(ag 3, .inl (E.2.2.1, 120, .inl (sg tb 120)))], hillsW E az t]) s.heap H locs := by rw [hH, hlocs]; exact hS
  show W p l e ({ frames := 6, cells := 0, slots := 0, locals := 130 }) s m ([.ref (ag 2), .ref (az 0)] : List Value).toArray below meth c s.heap [] 0 0 _ _
  suffices hgo : W p l e ({ frames := 6, cells := 0, slots := 0, locals := 130 }) s m ([.ref (ag 2), .ref (az 0)] : List Value).toArray below meth c H locs 0 0 (MQ below (qI E [[rdY ag len (bb, ee, ss, vv)], [(ag 3, .inl (E.2.2.1, 120, .inl (sg tb 120)))], hillsW E az t] [[rdY ag len ((riC tp len (bb, ee, ss, vv) t).1)], [(ag 3, .inl (E.2.2.1, 120, .inl (sg tb 120)))], hillsW E az ((riC tp len (bb, ee, ss, vv) t).2.2)] (bI ((riC tp len (bb, ee, ss, vv) t).2.1 = true))) ([.ref (ag 2), .ref (az 0)] : List Value).toArray s 0 0 (inB [[rdY ag len (bb, ee, ss, vv)], [(ag 3, .inl (E.2.2.1, 120, .inl (sg tb 120)))], hillsW E az t])) (F0 m 0 ls []) by rw [hH, hlocs] at hgo; exact hgo
  clear hH hlocs
  refine lv_aload_n S.1 S.2.1 dX2_readItem_0 rfl (lv_at hl 0 rfl) ?_
  refine va_ldcS (q := aS 10) (tx := "weather") S.1 S.2.1 S.2.2.2.1 (hX.2.2.1 (RX2, 38, "weather", 10) (List.mem_of_getElem? (i := 10) rfl)) dX2_readItem_1 ?_
  refine go_S (run_VX (As := [.ref (aS 10)]) (rest := []) (n := 1) S hK (bl_P hP [0, 1] rfl) (bl_D hD [0, 1] rfl rfl) (EX_c hX hS hD [0, 1] rfl) (c_X2_isWord l E aS ag tp tb len bb ee ss vv 10 hT hl9 hY (by decide)) gV_X2_40 (by decide +kernel) rfl ⟨rfl, rfl⟩ ⟨Nat.le_of_ble_eq_true rfl, Nat.le_of_ble_eq_true rfl⟩ (ci := 2) (q0 := 0) rfl rfl hl.1 (Nat.le_of_ble_eq_true rfl) dX2_readItem_3 ⟨Nat.zero_le _, Nat.zero_le _⟩) ?_
  refine b_ifeq (tgt := 15) S.1 S.2.1 dX2_readItem_6 (by decide) (fun c_6 => ?_) (fun c_6 => ?_)
  · refine lv_aload_n S.1 S.2.1 dX2_readItem_15 rfl (lv_at hl 0 rfl) ?_
    refine va_ldcS (q := aS 11) (tx := "onions") S.1 S.2.1 S.2.2.2.1 (hX.2.2.1 (RX2, 47, "onions", 11) (List.mem_of_getElem? (i := 11) rfl)) dX2_readItem_16 ?_
    refine go_S (run_VX (As := [.ref (aS 11)]) (rest := []) (n := 1) S hK (bl_P hP [0, 1] rfl) (bl_D hD [0, 1] rfl rfl) (EX_c hX hS hD [0, 1] rfl) (c_X2_isWord l E aS ag tp tb len bb ee ss vv 11 hT hl9 hY (by decide)) gV_X2_40 (by decide +kernel) rfl ⟨rfl, rfl⟩ ⟨Nat.le_of_ble_eq_true rfl, Nat.le_of_ble_eq_true rfl⟩ (ci := 2) (q0 := 0) rfl rfl hl.1 (Nat.le_of_ble_eq_true rfl) dX2_readItem_18 ⟨Nat.zero_le _, Nat.zero_le _⟩) ?_
    refine b_ifeq (tgt := 30) S.1 S.2.1 dX2_readItem_21 (by decide) (fun c_21 => ?_) (fun c_21 => ?_)
    · refine lv_aload_n S.1 S.2.1 dX2_readItem_30 rfl (lv_at hl 0 rfl) ?_
      refine go_S (run_VX (As := []) (rest := []) (n := 0) S hK (bl_P hP [0, 1] rfl) (bl_D hD [0, 1] rfl rfl) (EX_c hX hS hD [0, 1] rfl) (c_X2_kindOfWord l E aS ag tp tb len bb ee ss vv hT hl9 hY) gV_X2_52 (by decide +kernel) rfl ⟨rfl, rfl⟩ ⟨Nat.le_of_ble_eq_true rfl, Nat.le_of_ble_eq_true rfl⟩ (ci := 2) (q0 := 0) rfl rfl hl.1 (Nat.le_of_ble_eq_true rfl) dX2_readItem_31 ⟨Nat.zero_le _, Nat.zero_le _⟩) ?_
      refine lv_istore_n (lv' := [(2, .int (kwC tp (bb, ee, ss, vv))), (0, .ref (ag 2)), (1, .ref (az 0))]) S.1 S.2.1 dX2_readItem_34 rfl hl (by decide) rfl (fun ls hl => ?_)
      refine lv_iload_n S.1 S.2.1 dX2_readItem_35 rfl (lv_at hl 0 rfl) ?_
      refine lv_iconst (v := (-1)) S.1 S.2.1 dX2_readItem_36 (by decide) ?_
      refine lv_icmp_eq (tgt := 47) S.1 S.2.1 dX2_readItem_37 (by decide) (fun c_37 => ?_) (fun c_37 => ?_)
      · refine lv_iconst (v := 0) S.1 S.2.1 dX2_readItem_47 (by decide) ?_
        exact retZ S hr hlk rfl (by have e9 : riC tp len (bb, ee, ss, vv) t = ((bb, ee, ss, vv), false, t) := (by unfold riC; rw [if_neg c_6, if_neg c_21, if_pos (Or.inl c_37)]); rw [e9]; exact hP) hS (by have e9 : riC tp len (bb, ee, ss, vv) t = ((bb, ee, ss, vv), false, t) := (by unfold riC; rw [if_neg c_6, if_neg c_21, if_pos (Or.inl c_37)]); rw [e9]; rfl) dX2_readItem_48
      · refine lv_aload_n S.1 S.2.1 dX2_readItem_40 rfl (lv_at hl 2 rfl) ?_
        refine go_S (run_V (As := []) (rest := []) (n := 0) S hK (bl_P hP [2] rfl) (bl_D hD [2] rfl rfl) (c_X0_isFull l E az t ) gV_X2_56 (by decide +kernel) rfl ⟨rfl, rfl⟩ ⟨Nat.le_of_ble_eq_true rfl, Nat.le_of_ble_eq_true rfl⟩ (ci := 0) (q0 := 0) rfl rfl hl.1 (Nat.le_of_ble_eq_true rfl) dX2_readItem_41 ⟨Nat.zero_le _, Nat.zero_le _⟩) ?_
        refine b_ifeq (tgt := 49) S.1 S.2.1 dX2_readItem_44 (by decide) (fun c_44 => ?_) (fun c_44 => ?_)
        · have hc8 : n < 8 := n_lt8b hn c_44
          have hcn : cntN t < 8 := by rw [cntN_eq hn hn8]; exact hc8
          refine lv_aload_n S.1 S.2.1 dX2_readItem_49 rfl (lv_at hl 1 rfl) ?_
          refine go_V (run_V (As := []) (rest := []) (n := 0) S hK (bl_P hP [0, 1] rfl) (bl_D hD [0, 1] rfl rfl) (c_X2_step l E ag tp tb len bb ee ss vv hT hl9 hY.2.1) gV_X2_31 (by decide +kernel) rfl ⟨rfl, rfl⟩ ⟨Nat.le_of_ble_eq_true rfl, Nat.le_of_ble_eq_true rfl⟩ (ci := 2) (q0 := 0) rfl rfl hl.1 (Nat.le_of_ble_eq_true rfl) dX2_readItem_50 ⟨Nat.zero_le _, Nat.zero_le _⟩) hP hD hS [0, 1] rfl (had_cons ry_ad (had_cons rfl rfl)) (Bs' := [[rdY ag len (tkF tp len ee)], [(ag 3, .inl (E.2.2.1, 120, .inl (sg tb 120)))], hillsW E az t]) rfl (fun H locs hP hD hS => ?_)
          obtain ⟨⟨b_50, e_50, s_50, v_50⟩, eY_50⟩ : ∃ zz9 : Ys, zz9 = tkF tp len ee := ⟨_, rfl⟩
          rw [← eY_50] at hP hD
          have hY_50 : YI len (b_50, e_50, s_50, v_50) := by (rw [eY_50]; exact tk_Y hY.2.1)
          refine lv_aload_n S.1 S.2.1 dX2_readItem_53 rfl (lv_at hl 1 rfl) ?_
          refine lv_aload_n S.1 S.2.1 dX2_readItem_54 rfl (lv_at hl 2 rfl) ?_
          refine gf_X2_62 S hK hP 2 0 rfl rfl rfl dX2_readItem_55 ?_
          refine lv_aload_n S.1 S.2.1 dX2_readItem_58 rfl (lv_at hl 2 rfl) ?_
          refine lv_iload_n S.1 S.2.1 dX2_readItem_59 rfl (lv_at hl 0 rfl) ?_
          refine lv_bipush (v := 10) S.1 S.2.1 dX2_readItem_60 (by decide) ?_
          refine go_I (run_V (As := [.int (kwC tp (bb, ee, ss, vv)), .int 10]) (rest := [.ref (az 2), .ref (ag 2)]) (n := 2) S hK (bl_P hP [2] rfl) (bl_D hD [2] rfl rfl) (c_X0_addPotter l E az t (kwC tp (bb, ee, ss, vv)) 10 n hn hc8) gV_X2_66 (by decide +kernel) rfl ⟨rfl, rfl⟩ ⟨Nat.le_of_ble_eq_true rfl, Nat.le_of_ble_eq_true rfl⟩ (ci := 0) (q0 := 0) rfl rfl hl.1 (Nat.le_of_ble_eq_true rfl) dX2_readItem_62 ⟨Nat.zero_le _, Nat.zero_le _⟩) hP hD hS [2] rfl (had_cons hw_ad rfl) (Bs' := [[rdY ag len (b_50, e_50, s_50, v_50)], [(ag 3, .inl (E.2.2.1, 120, .inl (sg tb 120)))], hillsW E az (addF t (kwC tp (bb, ee, ss, vv)) 10)]) rfl (fun H locs hP hD hS => ?_)
          obtain ⟨r_62, er_62⟩ : ∃ zz9 : Row, zz9 = addF t (kwC tp (bb, ee, ss, vv)) 10 := ⟨_, rfl⟩
          rw [← er_62] at hP hD
          refine b_aaldN (i := cntN t) S hK hP 2 2 2 rfl rfl rfl (by omega) (by decide) (v := az (4 + (cntN t))) rfl dX2_readItem_65 ?_
          refine go_I (run_VX (As := [.ref (az (4 + (cntN t)))]) (rest := []) (n := 1) S hK (bl_P hP [0, 1, 2] rfl) (bl_D hD [0, 1, 2] rfl rfl) (EX_c hX hS hD [0, 1, 2] rfl) (c_X2_readDetails l E aS ag az tp tb r_62 len b_50 e_50 s_50 v_50 (cntN t) hT hl9 hY_50 (by omega)) gV_X2_70 (by decide +kernel) rfl ⟨rfl, rfl⟩ ⟨Nat.le_of_ble_eq_true rfl, Nat.le_of_ble_eq_true rfl⟩ (ci := 2) (q0 := 0) rfl rfl hl.1 (Nat.le_of_ble_eq_true rfl) dX2_readItem_66 ⟨Nat.zero_le _, Nat.zero_le _⟩) hP hD hS [0, 1, 2] rfl (had_cons ry_ad (had_cons rfl (had_cons hw_ad rfl))) (Bs' := [[rdY ag len ((detN tp len (cntN t) ((b_50, e_50, s_50, v_50), true, r_62) 3).1)], [(ag 3, .inl (E.2.2.1, 120, .inl (sg tb 120)))], hillsW E az ((detN tp len (cntN t) ((b_50, e_50, s_50, v_50), true, r_62) 3).2.2)]) rfl (fun H locs hP hD hS => ?_)
          obtain ⟨r_66_2, er_66_2⟩ : ∃ zz9 : Row, zz9 = (detN tp len (cntN t) ((b_50, e_50, s_50, v_50), true, r_62) 3).2.2 := ⟨_, rfl⟩
          rw [← er_66_2] at hP hD
          obtain ⟨⟨b_66, e_66, s_66, v_66⟩, eY_66⟩ : ∃ zz9 : Ys, zz9 = (detN tp len (cntN t) ((b_50, e_50, s_50, v_50), true, r_62) 3).1 := ⟨_, rfl⟩
          rw [← eY_66] at hP hD
          exact retZ S hr hlk bI_nar (by have e9 : riC tp len (bb, ee, ss, vv) t = detN tp len (cntN t) ((b_50, e_50, s_50, v_50), true, r_62) 3 := (by unfold riC; rw [if_neg c_6, if_neg c_21, if_neg (fun z9 => z9.elim c_37 c_44), show nx tp len (bb, ee, ss, vv) = (b_50, e_50, s_50, v_50) from eY_50.symm, er_62]); rw [eY_66, er_66_2] at hP; rw [e9]; exact hP) hS (by have e9 : riC tp len (bb, ee, ss, vv) t = detN tp len (cntN t) ((b_50, e_50, s_50, v_50), true, r_62) 3 := (by unfold riC; rw [if_neg c_6, if_neg c_21, if_neg (fun z9 => z9.elim c_37 c_44), show nx tp len (bb, ee, ss, vv) = (b_50, e_50, s_50, v_50) from eY_50.symm, er_62]); rw [e9]) dX2_readItem_69
        · refine lv_iconst (v := 0) S.1 S.2.1 dX2_readItem_47 (by decide) ?_
          exact retZ S hr hlk rfl (by have e9 : riC tp len (bb, ee, ss, vv) t = ((bb, ee, ss, vv), false, t) := (by unfold riC; rw [if_neg c_6, if_neg c_21, if_pos (Or.inr c_44)]); rw [e9]; exact hP) hS (by have e9 : riC tp len (bb, ee, ss, vv) t = ((bb, ee, ss, vv), false, t) := (by unfold riC; rw [if_neg c_6, if_neg c_21, if_pos (Or.inr c_44)]); rw [e9]; rfl) dX2_readItem_48
    · refine lv_aload_n S.1 S.2.1 dX2_readItem_24 rfl (lv_at hl 0 rfl) ?_
      refine lv_aload_n S.1 S.2.1 dX2_readItem_25 rfl (lv_at hl 1 rfl) ?_
      refine go_I (run_V (As := [.ref (az 0)]) (rest := []) (n := 1) S hK (bl_P hP [0, 1, 2] rfl) (bl_D hD [0, 1, 2] rfl rfl) (c_X2_readOnions l E ag az tp tb t len bb ee ss vv hT hl9 hY) gV_X2_49 (by decide +kernel) rfl ⟨rfl, rfl⟩ ⟨Nat.le_of_ble_eq_true rfl, Nat.le_of_ble_eq_true rfl⟩ (ci := 2) (q0 := 0) rfl rfl hl.1 (Nat.le_of_ble_eq_true rfl) dX2_readItem_26 ⟨Nat.zero_le _, Nat.zero_le _⟩) hP hD hS [0, 1, 2] rfl (had_cons ry_ad (had_cons rfl (had_cons hw_ad rfl))) (Bs' := [[rdY ag len ((roC tp len (bb, ee, ss, vv) t).1)], [(ag 3, .inl (E.2.2.1, 120, .inl (sg tb 120)))], hillsW E az ((roC tp len (bb, ee, ss, vv) t).2.2)]) rfl (fun H locs hP hD hS => ?_)
      obtain ⟨r_26_2, er_26_2⟩ : ∃ zz9 : Row, zz9 = (roC tp len (bb, ee, ss, vv) t).2.2 := ⟨_, rfl⟩
      rw [← er_26_2] at hP hD
      obtain ⟨⟨b_26, e_26, s_26, v_26⟩, eY_26⟩ : ∃ zz9 : Ys, zz9 = (roC tp len (bb, ee, ss, vv) t).1 := ⟨_, rfl⟩
      rw [← eY_26] at hP hD
      exact retZ S hr hlk bI_nar (by have e9 : riC tp len (bb, ee, ss, vv) t = roC tp len (bb, ee, ss, vv) t := (by unfold riC; rw [if_neg c_6, if_pos c_21]); rw [eY_26, er_26_2] at hP; rw [e9]; exact hP) hS (by have e9 : riC tp len (bb, ee, ss, vv) t = roC tp len (bb, ee, ss, vv) t := (by unfold riC; rw [if_neg c_6, if_pos c_21]); rw [e9]) dX2_readItem_29
  · refine lv_aload_n S.1 S.2.1 dX2_readItem_9 rfl (lv_at hl 0 rfl) ?_
    refine lv_aload_n S.1 S.2.1 dX2_readItem_10 rfl (lv_at hl 1 rfl) ?_
    refine go_I (run_V (As := [.ref (az 0)]) (rest := []) (n := 1) S hK (bl_P hP [0, 1, 2] rfl) (bl_D hD [0, 1, 2] rfl rfl) (c_X2_readWeather l E ag az tp tb t len bb ee ss vv hT hl9 hY) gV_X2_44 (by decide +kernel) rfl ⟨rfl, rfl⟩ ⟨Nat.le_of_ble_eq_true rfl, Nat.le_of_ble_eq_true rfl⟩ (ci := 2) (q0 := 0) rfl rfl hl.1 (Nat.le_of_ble_eq_true rfl) dX2_readItem_11 ⟨Nat.zero_le _, Nat.zero_le _⟩) hP hD hS [0, 1, 2] rfl (had_cons ry_ad (had_cons rfl (had_cons hw_ad rfl))) (Bs' := [[rdY ag len ((rwC tp len (bb, ee, ss, vv) t).1)], [(ag 3, .inl (E.2.2.1, 120, .inl (sg tb 120)))], hillsW E az ((rwC tp len (bb, ee, ss, vv) t).2.2)]) rfl (fun H locs hP hD hS => ?_)
    obtain ⟨r_11_2, er_11_2⟩ : ∃ zz9 : Row, zz9 = (rwC tp len (bb, ee, ss, vv) t).2.2 := ⟨_, rfl⟩
    rw [← er_11_2] at hP hD
    obtain ⟨⟨b_11, e_11, s_11, v_11⟩, eY_11⟩ : ∃ zz9 : Ys, zz9 = (rwC tp len (bb, ee, ss, vv) t).1 := ⟨_, rfl⟩
    rw [← eY_11] at hP hD
    exact retZ S hr hlk bI_nar (by have e9 : riC tp len (bb, ee, ss, vv) t = rwC tp len (bb, ee, ss, vv) t := if_pos c_6; rw [eY_11, er_11_2] at hP; rw [e9]; exact hP) hS (by have e9 : riC tp len (bb, ee, ss, vv) t = rwC tp len (bb, ee, ss, vv) t := if_pos c_6; rw [e9]) dX2_readItem_14
set_option maxHeartbeats 800000 in
set_option maxRecDepth 100000 in
theorem c_X2_readInto (l : Launch) (E : EV) (aS : Nat → Nat) (ag az : Nat → Nat) (tp tb t : Row) (len bb ee ss vv : Nat) (hT : TR tp tb len) (hl9 : len ≤ 120) (ht : le9 (t 1) 8) : Met l yX2_readInto (wq yX2_readInto cX2_readInto 3 (some .int)) ({ frames := 7, cells := 0, slots := 0, locals := 152 }) (preX E aS [.ref (ag 2), .ref (az 0)] [[rdY ag len (bb, ee, ss, vv)], [(ag 3, .inl (E.2.2.1, 120, .inl (sg tb 120)))], hillsW E az t]) (qI E [[rdY ag len (bb, ee, ss, vv)], [(ag 3, .inl (E.2.2.1, 120, .inl (sg tb 120)))], hillsW E az t] [[rdY ag len ((rlC tp len 120 1 (tkF tp len 0) t).2.1)], [(ag 3, .inl (E.2.2.1, 120, .inl (sg tb 120)))], hillsW E az ((rlC tp len 120 1 (tkF tp len 0) t).2.2)] ((rlC tp len 120 1 (tkF tp len 0) t).1)) 0 0 (inB [[rdY ag len (bb, ee, ss, vv)], [(ag 3, .inl (E.2.2.1, 120, .inl (sg tb 120)))], hillsW E az t]) := by
  refine M_mkX RX2 (by decide) rfl (Nat.le_of_ble_eq_true rfl) ?_
  intro p e s m below meth c S hr hlk hK hP hD hS hX ls hl
  have hl : lv_has ls 3 [(0, .ref (ag 2)), (1, .ref (az 0))] := hl
  obtain ⟨H, hH⟩ : ∃ zz9, zz9 = s.heap := ⟨_, rfl⟩
  obtain ⟨locs, hlocs⟩ : ∃ zz9 : List Loc, zz9 = [] := ⟨_, rfl⟩
  have hP : PE E [[rdY ag len (bb, ee, ss, vv)], [(ag 3, .inl (E.2.2.1, 120, .inl (sg tb 120)))], hillsW E az t] H := by rw [hH]; exact hP
  have hS : va_S (inB [[rdY ag len (bb, ee, ss, vv)], [(ag 3, .inl (E.2.2.1, 120, .inl (sg tb 120)))], hillsW E az t]) s.heap H locs := by rw [hH, hlocs]; exact hS
  show W p l e ({ frames := 7, cells := 0, slots := 0, locals := 152 }) s m ([.ref (ag 2), .ref (az 0)] : List Value).toArray below meth c s.heap [] 0 0 _ _
  suffices hgo : W p l e ({ frames := 7, cells := 0, slots := 0, locals := 152 }) s m ([.ref (ag 2), .ref (az 0)] : List Value).toArray below meth c H locs 0 0 (MQ below (qI E [[rdY ag len (bb, ee, ss, vv)], [(ag 3, .inl (E.2.2.1, 120, .inl (sg tb 120)))], hillsW E az t] [[rdY ag len ((rlC tp len 120 1 (tkF tp len 0) t).2.1)], [(ag 3, .inl (E.2.2.1, 120, .inl (sg tb 120)))], hillsW E az ((rlC tp len 120 1 (tkF tp len 0) t).2.2)] ((rlC tp len 120 1 (tkF tp len 0) t).1)) ([.ref (ag 2), .ref (az 0)] : List Value).toArray s 0 0 (inB [[rdY ag len (bb, ee, ss, vv)], [(ag 3, .inl (E.2.2.1, 120, .inl (sg tb 120)))], hillsW E az t])) (F0 m 0 ls []) by rw [hH, hlocs] at hgo; exact hgo
  clear hH hlocs
  refine lv_aload_n S.1 S.2.1 dX2_readInto_0 rfl (lv_at hl 0 rfl) ?_
  refine lv_iconst (v := 0) S.1 S.2.1 dX2_readInto_1 (by decide) ?_
  refine pf_X2_25 S hK hP hD hS 0 0 rfl rfl (Nat.le_of_ble_eq_true rfl) rfl (Bs1 := [[rdY ag len (bb, 0, ss, vv)], [(ag 3, .inl (E.2.2.1, 120, .inl (sg tb 120)))], hillsW E az t]) rfl dX2_readInto_2 (fun H locs hP hD hS => ?_)
  refine lv_aload_n S.1 S.2.1 dX2_readInto_5 rfl (lv_at hl 0 rfl) ?_
  refine go_V (run_V (As := []) (rest := []) (n := 0) S hK (bl_P hP [0, 1] rfl) (bl_D hD [0, 1] rfl rfl) (c_X2_step l E ag tp tb len bb 0 ss vv hT hl9 (Nat.zero_le _)) gV_X2_31 (by decide +kernel) rfl ⟨rfl, rfl⟩ ⟨Nat.le_of_ble_eq_true rfl, Nat.le_of_ble_eq_true rfl⟩ (ci := 2) (q0 := 0) rfl rfl hl.1 (Nat.le_of_ble_eq_true rfl) dX2_readInto_6 ⟨Nat.zero_le _, Nat.zero_le _⟩) hP hD hS [0, 1] rfl (had_cons ry_ad (had_cons rfl rfl)) (Bs' := [[rdY ag len (tkF tp len 0)], [(ag 3, .inl (E.2.2.1, 120, .inl (sg tb 120)))], hillsW E az t]) rfl (fun H locs hP hD hS => ?_)
  obtain ⟨⟨b_6, e_6, s_6, v_6⟩, eY_6⟩ : ∃ zz9 : Ys, zz9 = tkF tp len 0 := ⟨_, rfl⟩
  rw [← eY_6] at hP hD
  have hY_6 : YI len (b_6, e_6, s_6, v_6) := by (rw [eY_6]; exact tk_Y (Nat.zero_le _))
  refine lv_iconst (v := 1) S.1 S.2.1 dX2_readInto_9 (by decide) ?_
  refine lv_istore_n (lv' := [(2, .int 1), (0, .ref (ag 2)), (1, .ref (az 0))]) S.1 S.2.1 dX2_readInto_10 rfl hl (by decide) rfl (fun ls hl => ?_)
  have L_11 : ∀ (fu : Nat) (k : Nat) (b3 : Nat) (e3 : Nat) (s3 : Nat) (v3 : Nat) (tk : Row), (k ≤ 120) → (120 < k + fu) → (YI len (b3, e3, s3, v3)) → (le9 (tk 1) 8) → (rlC tp len 120 1 (tkF tp len 0) t = rlC tp len (120 - k) (k + 1) (b3, e3, s3, v3) tk) → ∀ (H : Heap) (locs : List Loc), PE E [[rdY ag len (b3, e3, s3, v3)], [(ag 3, .inl (E.2.2.1, 120, .inl (sg tb 120)))], hillsW E az tk] H → DE (inB [[rdY ag len (bb, ee, ss, vv)], [(ag 3, .inl (E.2.2.1, 120, .inl (sg tb 120)))], hillsW E az t]) [[rdY ag len (b3, e3, s3, v3)], [(ag 3, .inl (E.2.2.1, 120, .inl (sg tb 120)))], hillsW E az tk] → va_S (inB [[rdY ag len (bb, ee, ss, vv)], [(ag 3, .inl (E.2.2.1, 120, .inl (sg tb 120)))], hillsW E az t]) s.heap H locs → ∀ (ls : Array Slot), lv_has ls 3 [(0, .ref (ag 2)), (1, .ref (az 0)), (2, .int (nI (k + 1)))] → W p l e ({ frames := 7, cells := 0, slots := 0, locals := 152 }) s m ([.ref (ag 2), .ref (az 0)] : List Value).toArray below meth c H locs 0 0 (MQ below (qI E [[rdY ag len (bb, ee, ss, vv)], [(ag 3, .inl (E.2.2.1, 120, .inl (sg tb 120)))], hillsW E az t] [[rdY ag len ((rlC tp len 120 1 (tkF tp len 0) t).2.1)], [(ag 3, .inl (E.2.2.1, 120, .inl (sg tb 120)))], hillsW E az ((rlC tp len 120 1 (tkF tp len 0) t).2.2)] ((rlC tp len 120 1 (tkF tp len 0) t).1)) ([.ref (ag 2), .ref (az 0)] : List Value).toArray s 0 0 (inB [[rdY ag len (bb, ee, ss, vv)], [(ag 3, .inl (E.2.2.1, 120, .inl (sg tb 120)))], hillsW E az t])) (F0 m 11 ls []) := by
    intro fu
    induction fu with
    | zero =>
      intro k b3 e3 s3 v3 tk hk hf hY_k htk hL
      omega
    | succ fu ih_11 =>
      intro k b3 e3 s3 v3 tk hk hf hY_k htk hL H locs hP hD hS ls hl
      refine lv_iload_n S.1 S.2.1 dX2_readInto_11 rfl (lv_at hl 2 rfl) ?_
      refine lv_bipush (v := 120) S.1 S.2.1 dX2_readInto_12 (by decide) ?_
      refine lv_icmp_gt (tgt := 58) S.1 S.2.1 dX2_readInto_14 (by decide) (fun c_14 => ?_) (fun c_14 => ?_)
      · have n_14 := Int32.not_le.mpr c_14
        refine lv_iconst (v := (-1)) S.1 S.2.1 dX2_readInto_58 (by decide) ?_
        refine lv_aload_n S.1 S.2.1 dX2_readInto_59 rfl (lv_at hl 0 rfl) ?_
        refine gf_X2_22 S hK hP 0 0 rfl rfl (show _ = some (Value.int (nI b3)) from rfl) dX2_readInto_60 ?_
        refine lv_isub S.1 S.2.1 dX2_readInto_63 ?_
        exact retI S hr hlk (by have e9 : rlC tp len 120 1 (tkF tp len 0) t = (-1 - nI b3, (b3, e3, s3, v3), tk) := (by rw [hL, show 120 - k = 0 by (have z9 : 120 < k + 1 := lt_of_nI (a := 120) c_14 (by decide) (by omega); omega)]; rfl); rw [e9]; exact hP) hS (by have e9 : rlC tp len 120 1 (tkF tp len 0) t = (-1 - nI b3, (b3, e3, s3, v3), tk) := (by rw [hL, show 120 - k = 0 by (have z9 : 120 < k + 1 := lt_of_nI (a := 120) c_14 (by decide) (by omega); omega)]; rfl); rw [e9]) dX2_readInto_64
      · have n_14 := Int32.not_lt.mp c_14
        have hk2 : k + 1 ≤ 120 := le_of_nI (b := 120) (Int32.not_lt.mp c_14) (by omega) (by decide)
        refine lv_aload_n S.1 S.2.1 dX2_readInto_17 rfl (lv_at hl 0 rfl) ?_
        refine lv_aload_n S.1 S.2.1 dX2_readInto_18 rfl (lv_at hl 1 rfl) ?_
        refine go_I (run_VX (As := [.ref (az 0)]) (rest := []) (n := 1) S hK (bl_P hP [0, 1, 2] rfl) (bl_D hD [0, 1, 2] rfl rfl) (EX_c hX hS hD [0, 1, 2] rfl) (c_X2_readItem l E aS ag az tp tb tk len b3 e3 s3 v3 hT hl9 hY_k htk) gV_X2_34 (by decide +kernel) rfl ⟨rfl, rfl⟩ ⟨Nat.le_of_ble_eq_true rfl, Nat.le_of_ble_eq_true rfl⟩ (ci := 2) (q0 := 0) rfl rfl hl.1 (Nat.le_of_ble_eq_true rfl) dX2_readInto_19 ⟨Nat.zero_le _, Nat.zero_le _⟩) hP hD hS [0, 1, 2] rfl (had_cons ry_ad (had_cons rfl (had_cons hw_ad rfl))) (Bs' := [[rdY ag len ((riC tp len (b3, e3, s3, v3) tk).1)], [(ag 3, .inl (E.2.2.1, 120, .inl (sg tb 120)))], hillsW E az ((riC tp len (b3, e3, s3, v3) tk).2.2)]) rfl (fun H locs hP hD hS => ?_)
        obtain ⟨r_19_2, er_19_2⟩ : ∃ zz9 : Row, zz9 = (riC tp len (b3, e3, s3, v3) tk).2.2 := ⟨_, rfl⟩
        rw [← er_19_2] at hP hD
        obtain ⟨⟨b_19, e_19, s_19, v_19⟩, eY_19⟩ : ∃ zz9 : Ys, zz9 = (riC tp len (b3, e3, s3, v3) tk).1 := ⟨_, rfl⟩
        rw [← eY_19] at hP hD
        have eI : riC tp len (b3, e3, s3, v3) tk = ((b_19, e_19, s_19, v_19), (riC tp len (b3, e3, s3, v3) tk).2.1, r_19_2) := ri_eta eY_19 er_19_2
        have hY_19 : YI len (b_19, e_19, s_19, v_19) := by (rw [eY_19]; exact ri_Y hY_k)
        have ht_r_19_2 : le9 (r_19_2 1) 8 := by (rw [er_19_2]; exact ri_t htk)
        refine b_ifne (tgt := 28) S.1 S.2.1 dX2_readInto_22 (by decide) (fun c_22 => ?_) (fun c_22 => ?_)
        · refine lv_aload_n S.1 S.2.1 dX2_readInto_28 rfl (lv_at hl 0 rfl) ?_
          refine gf_X2_19 S hK hP 0 0 rfl rfl (show _ = some (Value.int (nI s_19)) from rfl) dX2_readInto_29 ?_
          refine lv_if_ne (tgt := 37) S.1 S.2.1 dX2_readInto_32 (by decide) (fun c_32 => ?_) (fun c_32 => ?_)
          · refine lv_aload_n S.1 S.2.1 dX2_readInto_37 rfl (lv_at hl 0 rfl) ?_
            refine gf_X2_19 S hK hP 0 0 rfl rfl (show _ = some (Value.int (nI s_19)) from rfl) dX2_readInto_38 ?_
            refine lv_iconst (v := 3) S.1 S.2.1 dX2_readInto_41 (by decide) ?_
            refine lv_icmp_eq (tgt := 48) S.1 S.2.1 dX2_readInto_42 (by decide) (fun c_42 => ?_) (fun c_42 => ?_)
            · refine lv_aload_n S.1 S.2.1 dX2_readInto_48 rfl (lv_at hl 0 rfl) ?_
              refine go_V (run_V (As := []) (rest := []) (n := 0) S hK (bl_P hP [0, 1] rfl) (bl_D hD [0, 1] rfl rfl) (c_X2_step l E ag tp tb len b_19 e_19 s_19 v_19 hT hl9 hY_19.2.1) gV_X2_31 (by decide +kernel) rfl ⟨rfl, rfl⟩ ⟨Nat.le_of_ble_eq_true rfl, Nat.le_of_ble_eq_true rfl⟩ (ci := 2) (q0 := 0) rfl rfl hl.1 (Nat.le_of_ble_eq_true rfl) dX2_readInto_49 ⟨Nat.zero_le _, Nat.zero_le _⟩) hP hD hS [0, 1] rfl (had_cons ry_ad (had_cons rfl rfl)) (Bs' := [[rdY ag len (tkF tp len e_19)], [(ag 3, .inl (E.2.2.1, 120, .inl (sg tb 120)))], hillsW E az r_19_2]) rfl (fun H locs hP hD hS => ?_)
              obtain ⟨⟨b_49, e_49, s_49, v_49⟩, eY_49⟩ : ∃ zz9 : Ys, zz9 = tkF tp len e_19 := ⟨_, rfl⟩
              rw [← eY_49] at hP hD
              have hY_49 : YI len (b_49, e_49, s_49, v_49) := by (rw [eY_49]; exact tk_Y hY_19.2.1)
              refine lv_iinc (v := nI (k + 1 + 1)) (lv' := [(2, .int (nI (k + 1 + 1))), (0, .ref (ag 2)), (1, .ref (az 0))]) S.1 S.2.1 dX2_readInto_52 hl (k := 2) rfl (nI_1 (k + 1)) (by decide) rfl (fun ls hl => ?_)
              refine lv_goto (tgt := 11) S.1 S.2.1 dX2_readInto_55 (by decide) ?_
              exact ih_11 (k + 1) b_49 e_49 s_49 v_49 r_19_2 (by omega) (by omega) hY_49 ht_r_19_2 (hL.trans (rl_more (by omega) eI c_22 c_42 eY_49.symm hY_19.2.2.2)) H locs hP hD hS ls (lv_sub hl [1, 2, 0] rfl)
            · refine lv_goto (tgt := 58) S.1 S.2.1 dX2_readInto_45 (by decide) ?_
              refine lv_iconst (v := (-1)) S.1 S.2.1 dX2_readInto_58 (by decide) ?_
              refine lv_aload_n S.1 S.2.1 dX2_readInto_59 rfl (lv_at hl 0 rfl) ?_
              refine gf_X2_22 S hK hP 0 0 rfl rfl (show _ = some (Value.int (nI b_19)) from rfl) dX2_readInto_60 ?_
              refine lv_isub S.1 S.2.1 dX2_readInto_63 ?_
              exact retI S hr hlk (by have e9 : rlC tp len 120 1 (tkF tp len 0) t = (-1 - nI b_19, (b_19, e_19, s_19, v_19), r_19_2) := hL.trans (rl_odd (by omega) eI c_22 c_32 c_42); rw [e9]; exact hP) hS (by have e9 : rlC tp len 120 1 (tkF tp len 0) t = (-1 - nI b_19, (b_19, e_19, s_19, v_19), r_19_2) := hL.trans (rl_odd (by omega) eI c_22 c_32 c_42); rw [e9]) dX2_readInto_64
          · refine lv_iload_n S.1 S.2.1 dX2_readInto_35 rfl (lv_at hl 2 rfl) ?_
            exact retI S hr hlk (by have e9 : rlC tp len 120 1 (tkF tp len 0) t = (nI (k + 1), (b_19, e_19, s_19, v_19), r_19_2) := hL.trans (rl_end (by omega) eI c_22 c_32 (by have z9 := hY_19.2.2.2; exact Nat.lt_of_le_of_lt z9 (by decide))); rw [e9]; exact hP) hS (by have e9 : rlC tp len 120 1 (tkF tp len 0) t = (nI (k + 1), (b_19, e_19, s_19, v_19), r_19_2) := hL.trans (rl_end (by omega) eI c_22 c_32 (by have z9 := hY_19.2.2.2; exact Nat.lt_of_le_of_lt z9 (by decide))); rw [e9]) dX2_readInto_36
        · refine lv_goto (tgt := 58) S.1 S.2.1 dX2_readInto_25 (by decide) ?_
          refine lv_iconst (v := (-1)) S.1 S.2.1 dX2_readInto_58 (by decide) ?_
          refine lv_aload_n S.1 S.2.1 dX2_readInto_59 rfl (lv_at hl 0 rfl) ?_
          refine gf_X2_22 S hK hP 0 0 rfl rfl (show _ = some (Value.int (nI b_19)) from rfl) dX2_readInto_60 ?_
          refine lv_isub S.1 S.2.1 dX2_readInto_63 ?_
          exact retI S hr hlk (by have e9 : rlC tp len 120 1 (tkF tp len 0) t = (-1 - nI b_19, (b_19, e_19, s_19, v_19), r_19_2) := hL.trans (rl_bad (by omega) eI c_22); rw [e9]; exact hP) hS (by have e9 : rlC tp len 120 1 (tkF tp len 0) t = (-1 - nI b_19, (b_19, e_19, s_19, v_19), r_19_2) := hL.trans (rl_bad (by omega) eI c_22); rw [e9]) dX2_readInto_64
  exact L_11 121 0 b_6 e_6 s_6 v_6 t (by omega) (by omega) hY_6 ht (by rw [← eY_6]) H locs hP hD hS ls (lv_sub hl [1, 2, 0] rfl)
set_option maxHeartbeats 800000 in
set_option maxRecDepth 100000 in
theorem c_X4_text (l : Launch) (E : EV) (aS : Nat → Nat) (ag ah az ak : Nat → Nat) (i0 : Int32) (r x tp tb : Row) (len bb ee ss vv : Nat) (hT : TR tp tb len) (hl9 : len ≤ 120) (hR : RI r) : Met l yX4_text (wq yX4_text cX4_text 2 (some .int)) ({ frames := 8, cells := 0, slots := 0, locals := 174 }) (preX E aS [.ref (ag 0)] [[gObj ag ah az ak i0], hillsW E ah r, hillsW E az x, [rdY ag len (bb, ee, ss, vv)], [(ag 3, .inl (E.2.2.1, 120, .inl (sg tb 120)))]]) (qI E [[gObj ag ah az ak i0], hillsW E ah r, hillsW E az x, [rdY ag len (bb, ee, ss, vv)], [(ag 3, .inl (E.2.2.1, 120, .inl (sg tb 120)))]] [[gObj ag ah az ak i0], hillsW E ah (if 0 ≤ (rlC tp len 120 1 (tkF tp len 0) (becF x r)).1 then becF r (rlC tp len 120 1 (tkF tp len 0) (becF x r)).2.2 else r), hillsW E az ((rlC tp len 120 1 (tkF tp len 0) (becF x r)).2.2), [rdY ag 0 ((rlC tp len 120 1 (tkF tp len 0) (becF x r)).2.1)], [(ag 3, .inl (E.2.2.1, 120, .inl (sg tb 120)))]] ((rlC tp len 120 1 (tkF tp len 0) (becF x r)).1)) 0 0 (inB [[gObj ag ah az ak i0], hillsW E ah r, hillsW E az x, [rdY ag len (bb, ee, ss, vv)], [(ag 3, .inl (E.2.2.1, 120, .inl (sg tb 120)))]]) := by
  refine M_mkX RX4 (by decide) rfl (Nat.le_of_ble_eq_true rfl) ?_
  intro p e s m below meth c S hr hlk hK hP hD hS hX ls hl
  have hl : lv_has ls 2 [(0, .ref (ag 0))] := hl
  obtain ⟨n, d, hn, hn8, hd, hd5, ho, hso, hli, hsp, hpt⟩ := id hR
  obtain ⟨H, hH⟩ : ∃ zz9, zz9 = s.heap := ⟨_, rfl⟩
  obtain ⟨locs, hlocs⟩ : ∃ zz9 : List Loc, zz9 = [] := ⟨_, rfl⟩
  have hP : PE E [[gObj ag ah az ak i0], hillsW E ah r, hillsW E az x, [rdY ag len (bb, ee, ss, vv)], [(ag 3, .inl (E.2.2.1, 120, .inl (sg tb 120)))]] H := by rw [hH]; exact hP
  have hS : va_S (inB [[gObj ag ah az ak i0], hillsW E ah r, hillsW E az x, [rdY ag len (bb, ee, ss, vv)], [(ag 3, .inl (E.2.2.1, 120, .inl (sg tb 120)))]]) s.heap H locs := by rw [hH, hlocs]; exact hS
  show W p l e ({ frames := 8, cells := 0, slots := 0, locals := 174 }) s m ([.ref (ag 0)] : List Value).toArray below meth c s.heap [] 0 0 _ _
  suffices hgo : W p l e ({ frames := 8, cells := 0, slots := 0, locals := 174 }) s m ([.ref (ag 0)] : List Value).toArray below meth c H locs 0 0 (MQ below (qI E [[gObj ag ah az ak i0], hillsW E ah r, hillsW E az x, [rdY ag len (bb, ee, ss, vv)], [(ag 3, .inl (E.2.2.1, 120, .inl (sg tb 120)))]] [[gObj ag ah az ak i0], hillsW E ah (if 0 ≤ (rlC tp len 120 1 (tkF tp len 0) (becF x r)).1 then becF r (rlC tp len 120 1 (tkF tp len 0) (becF x r)).2.2 else r), hillsW E az ((rlC tp len 120 1 (tkF tp len 0) (becF x r)).2.2), [rdY ag 0 ((rlC tp len 120 1 (tkF tp len 0) (becF x r)).2.1)], [(ag 3, .inl (E.2.2.1, 120, .inl (sg tb 120)))]] ((rlC tp len 120 1 (tkF tp len 0) (becF x r)).1)) ([.ref (ag 0)] : List Value).toArray s 0 0 (inB [[gObj ag ah az ak i0], hillsW E ah r, hillsW E az x, [rdY ag len (bb, ee, ss, vv)], [(ag 3, .inl (E.2.2.1, 120, .inl (sg tb 120)))]])) (F0 m 0 ls []) by rw [hH, hlocs] at hgo; exact hgo
  clear hH hlocs
  refine lv_aload_n S.1 S.2.1 dX4_text_0 rfl (lv_at hl 0 rfl) ?_
  refine gf_X4_16 S hK hP 0 0 rfl rfl rfl dX4_text_1 ?_
  refine lv_aload_n S.1 S.2.1 dX4_text_4 rfl (lv_at hl 0 rfl) ?_
  refine gf_X4_10 S hK hP 0 0 rfl rfl rfl dX4_text_5 ?_
  refine go_V (run_V (As := [.ref (ah 0)]) (rest := []) (n := 1) S hK (bl_P hP [2, 1] rfl) (bl_D hD [2, 1] rfl rfl) (c_X0_become l E az ah x r n hn hn8) gV_X4_135 (by decide +kernel) rfl ⟨rfl, rfl⟩ ⟨Nat.le_of_ble_eq_true rfl, Nat.le_of_ble_eq_true rfl⟩ (ci := 0) (q0 := 0) rfl rfl hl.1 (Nat.le_of_ble_eq_true rfl) dX4_text_8 ⟨Nat.zero_le _, Nat.zero_le _⟩) hP hD hS [2, 1] rfl (had_cons hw_ad (had_cons rfl rfl)) (Bs' := [[gObj ag ah az ak i0], hillsW E ah r, hillsW E az (becF x r), [rdY ag len (bb, ee, ss, vv)], [(ag 3, .inl (E.2.2.1, 120, .inl (sg tb 120)))]]) rfl (fun H locs hP hD hS => ?_)
  obtain ⟨r_8, er_8⟩ : ∃ zz9 : Row, zz9 = becF x r := ⟨_, rfl⟩
  rw [← er_8] at hP hD
  have hev_r_8 : Ev r_8 r := by rw [er_8]; exact Ev.bec
  have hRI_r_8 : RI r_8 := RI_ev hev_r_8.sy hR
  have hr_8_1 : r_8 1 = nI n := (hev_r_8.lo (by decide)).trans hn
  have hr_8_0 : r_8 0 = nI d := (hev_r_8.lo (by decide)).trans hd
  refine lv_aload_n S.1 S.2.1 dX4_text_11 rfl (lv_at hl 0 rfl) ?_
  refine gf_X4_35 S hK hP 0 0 rfl rfl rfl dX4_text_12 ?_
  refine lv_aload_n S.1 S.2.1 dX4_text_15 rfl (lv_at hl 0 rfl) ?_
  refine gf_X4_16 S hK hP 0 0 rfl rfl rfl dX4_text_16 ?_
  refine go_I (run_VX (As := [.ref (az 0)]) (rest := []) (n := 1) S hK (bl_P hP [3, 4, 2] rfl) (bl_D hD [3, 4, 2] rfl rfl) (EX_c hX hS hD [3, 4, 2] rfl) (c_X2_readInto l E aS ag az tp tb r_8 len bb ee ss vv hT hl9 ⟨n, hn8, hr_8_1⟩) gV_X4_215 (by decide +kernel) rfl ⟨rfl, rfl⟩ ⟨Nat.le_of_ble_eq_true rfl, Nat.le_of_ble_eq_true rfl⟩ (ci := 2) (q0 := 0) rfl rfl hl.1 (Nat.le_of_ble_eq_true rfl) dX4_text_19 ⟨Nat.zero_le _, Nat.zero_le _⟩) hP hD hS [3, 4, 2] rfl (had_cons ry_ad (had_cons rfl (had_cons hw_ad rfl))) (Bs' := [[gObj ag ah az ak i0], hillsW E ah r, hillsW E az ((rlC tp len 120 1 (tkF tp len 0) r_8).2.2), [rdY ag len ((rlC tp len 120 1 (tkF tp len 0) r_8).2.1)], [(ag 3, .inl (E.2.2.1, 120, .inl (sg tb 120)))]]) rfl (fun H locs hP hD hS => ?_)
  obtain ⟨r_19_2, er_19_2⟩ : ∃ zz9 : Row, zz9 = (rlC tp len 120 1 (tkF tp len 0) r_8).2.2 := ⟨_, rfl⟩
  rw [← er_19_2] at hP hD
  obtain ⟨⟨b_19, e_19, s_19, v_19⟩, eY_19⟩ : ∃ zz9 : Ys, zz9 = (rlC tp len 120 1 (tkF tp len 0) r_8).2.1 := ⟨_, rfl⟩
  rw [← eY_19] at hP hD
  obtain ⟨m, hm8, hm⟩ : le9 (r_19_2 1) 8 := by (rw [er_19_2]; exact rl_t _ _ _ _ ⟨n, hn8, hr_8_1⟩)
  refine lv_istore_n (lv' := [(1, .int ((rlC tp len 120 1 (tkF tp len 0) r_8).1)), (0, .ref (ag 0))]) S.1 S.2.1 dX4_text_22 rfl hl (by decide) rfl (fun ls hl => ?_)
  refine lv_aload_n S.1 S.2.1 dX4_text_23 rfl (lv_at hl 1 rfl) ?_
  refine gf_X4_35 S hK hP 0 0 rfl rfl rfl dX4_text_24 ?_
  refine lv_iconst (v := 0) S.1 S.2.1 dX4_text_27 (by decide) ?_
  refine pf_X4_212 S hK hP hD hS 3 0 rfl rfl (Nat.le_of_ble_eq_true rfl) rfl (Bs1 := [[gObj ag ah az ak i0], hillsW E ah r, hillsW E az r_19_2, [rdY ag 0 (b_19, e_19, s_19, v_19)], [(ag 3, .inl (E.2.2.1, 120, .inl (sg tb 120)))]]) rfl dX4_text_28 (fun H locs hP hD hS => ?_)
  refine lv_iload_n S.1 S.2.1 dX4_text_31 rfl (lv_at hl 0 rfl) ?_
  refine lv_if_lt (tgt := 46) S.1 S.2.1 dX4_text_32 (by decide) (fun c_32 => ?_) (fun c_32 => ?_)
  · have n_32 := Int32.not_le.mpr c_32
    refine lv_iload_n S.1 S.2.1 dX4_text_46 rfl (lv_at hl 0 rfl) ?_
    exact retI S hr hlk (by have hP9 := hP; have c9 := c_32; rw [eY_19, er_19_2, er_8] at hP9; rw [er_8] at c9; rw [if_neg (Int32.not_le.mpr c9)]; exact hP9) hS (by rw [er_8]) dX4_text_47
  · have n_32 := Int32.not_lt.mp c_32
    refine lv_aload_n S.1 S.2.1 dX4_text_35 rfl (lv_at hl 1 rfl) ?_
    refine gf_X4_10 S hK hP 0 0 rfl rfl rfl dX4_text_36 ?_
    refine lv_aload_n S.1 S.2.1 dX4_text_39 rfl (lv_at hl 1 rfl) ?_
    refine gf_X4_16 S hK hP 0 0 rfl rfl rfl dX4_text_40 ?_
    refine go_V (run_V (As := [.ref (az 0)]) (rest := []) (n := 1) S hK (bl_P hP [1, 2] rfl) (bl_D hD [1, 2] rfl rfl) (c_X0_become l E ah az r r_19_2 m hm hm8) gV_X4_135 (by decide +kernel) rfl ⟨rfl, rfl⟩ ⟨Nat.le_of_ble_eq_true rfl, Nat.le_of_ble_eq_true rfl⟩ (ci := 0) (q0 := 0) rfl rfl hl.1 (Nat.le_of_ble_eq_true rfl) dX4_text_43 ⟨Nat.zero_le _, Nat.zero_le _⟩) hP hD hS [1, 2] rfl (had_cons hw_ad (had_cons rfl rfl)) (Bs' := [[gObj ag ah az ak i0], hillsW E ah (becF r r_19_2), hillsW E az r_19_2, [rdY ag 0 (b_19, e_19, s_19, v_19)], [(ag 3, .inl (E.2.2.1, 120, .inl (sg tb 120)))]]) rfl (fun H locs hP hD hS => ?_)
    obtain ⟨r_43, er_43⟩ : ∃ zz9 : Row, zz9 = becF r r_19_2 := ⟨_, rfl⟩
    rw [← er_43] at hP hD
    have hev_r_43 : Ev r_43 r_19_2 := by rw [er_43]; exact Ev.bec
    have hr_43_1 : r_43 1 = nI m := (hev_r_43.lo (by decide)).trans hm
    refine lv_iload_n S.1 S.2.1 dX4_text_46 rfl (lv_at hl 0 rfl) ?_
    exact retI S hr hlk (by have hP9 := hP; have c9 := c_32; rw [eY_19, er_43, er_19_2, er_8] at hP9; rw [er_8] at c9; rw [if_pos (Int32.not_lt.mp c9)]; exact hP9) hS (by rw [er_8]) dX4_text_47
