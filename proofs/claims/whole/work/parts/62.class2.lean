theorem n_lt8b {r : Row} {n : Nat} (hn : r 1 = nI n) (h : ¬ 8 ≤ r 1) (hn8' : n ≤ 8 := by omega) : n < 8 := Nat.lt_of_not_le (fun z => h (by rw [hn]; exact (nI_leI (a := 8) (by decide) (by have := hn8'; omega)).mpr z))
theorem tm_7 {r : Row} {i k : Nat} (h : k = 7) : toldM r i k = criesR r i := by subst h; rfl
theorem tm_8 {r : Row} {i k : Nat} (h : k = 8) : toldM r i k = weathersR r i (wthr r) := by subst h; rfl
theorem tm_9 {r : Row} {i k : Nat} (h : k = 9) : toldM r i k = needsR r i := by subst h; rfl
theorem tm_10 {r : Row} {i k : Nat} (h : k = 10) : toldM r i k = tintR r i := by subst h; rfl
theorem tm_11 {r : Row} {i k : Nat} (h : k = 11) : toldM r i k = fetchesR r i := by subst h; rfl
theorem tm_12 {r : Row} {i k : Nat} (h : k = 12) : toldM r i k = healsR r i := by subst h; rfl
theorem told_eq {r : Row} {i k : Nat} (h : k < 7) : toldV (r (21 + 7 * i)) (r (21 + 7 * i + 1)) (r (21 + 7 * i + 2)) (r (21 + 7 * i + 3)) (r (21 + 7 * i + 4)) (r (21 + 7 * i + 5)) (r (21 + 7 * i + 6)) (nI k) = r (21 + 7 * i + k) := by
  match k, h with
  | 0, _ => rfl
  | 1, _ => rfl
  | 2, _ => rfl
  | 3, _ => rfl
  | 4, _ => rfl
  | 5, _ => rfl
  | 6, _ => rfl
theorem tm_d {r : Row} {i k : Nat} (h : k < 7) : toldM r i k = toldV (r (21 + 7 * i)) (r (21 + 7 * i + 1)) (r (21 + 7 * i + 2)) (r (21 + 7 * i + 3)) (r (21 + 7 * i + 4)) (r (21 + 7 * i + 5)) (r (21 + 7 * i + 6)) (nI k) := by
  rw [told_eq h]
  unfold toldM
  rw [if_neg (by omega), if_neg (by omega), if_neg (by omega), if_neg (by omega), if_neg (by omega), if_neg (by omega)]
def pvs (r : Row) (i : Nat) (w v : Int32) : Row := fun j => match j with | 0 => putV0 (r (21 + 7 * i)) w v | 1 => putV1 (r (21 + 7 * i + 1)) w v | 2 => putV2 (r (21 + 7 * i + 2)) w v | 3 => putV3 (r (21 + 7 * i + 3)) w v | 4 => putV4 (r (21 + 7 * i + 4)) w v | 5 => putV5 (r (21 + 7 * i + 5)) w v | _ => putV6 (r (21 + 7 * i + 6)) w v
theorem pvs_eq {r : Row} {i k : Nat} {v : Int32} (h : k < 7) : putP r i (pvs r i (nI k) v) = upd r (21 + 7 * i + k) v := funext fun j => by
  unfold putP upd
  by_cases c : 21 + 7 * i ≤ j ∧ j < 21 + 7 * i + 7
  · rw [if_pos c]
    obtain ⟨f, hf, rfl⟩ : ∃ f, f < 7 ∧ j = 21 + 7 * i + f := ⟨j - (21 + 7 * i), by omega, by omega⟩
    rw [show 21 + 7 * i + f - (21 + 7 * i) = f by omega]
    by_cases e : f = k
    · subst e
      rw [if_pos rfl]
      match f, hf with
      | 0, _ => rfl
      | 1, _ => rfl
      | 2, _ => rfl
      | 3, _ => rfl
      | 4, _ => rfl
      | 5, _ => rfl
      | 6, _ => rfl
    · rw [if_neg (by omega)]
      match f, hf with
      | 0, _ => exact if_neg (fun z => e (((nI_eq (b := 0) (by omega) (by decide)).mp z).symm))
      | 1, _ => exact if_neg (fun z => e (((nI_eq (b := 1) (by omega) (by decide)).mp z).symm))
      | 2, _ => exact if_neg (fun z => e (((nI_eq (b := 2) (by omega) (by decide)).mp z).symm))
      | 3, _ => exact if_neg (fun z => e (((nI_eq (b := 3) (by omega) (by decide)).mp z).symm))
      | 4, _ => exact if_neg (fun z => e (((nI_eq (b := 4) (by omega) (by decide)).mp z).symm))
      | 5, _ => exact if_neg (fun z => e (((nI_eq (b := 5) (by omega) (by decide)).mp z).symm))
      | 6, _ =>
        show putV6 _ _ _ = _
        match k, h with
        | 0, _ => rfl
        | 1, _ => rfl
        | 2, _ => rfl
        | 3, _ => rfl
        | 4, _ => rfl
        | 5, _ => rfl
        | 6, _ => exact absurd rfl e
  · rw [if_neg c, if_neg (by omega)]
theorem fld_no1 {w v : Int32} (h : ¬ (0 ≤ w ∧ w ≤ 6)) : fldB w v = 0 := by
  unfold fldB
  rw [if_neg (fun z => h (by rw [z]; decide)), if_neg (fun z => h (by rw [z]; decide)), if_neg (fun z => h (by rw [z]; decide)), if_neg (fun z => h (by rw [z]; decide)), if_neg (fun z => h (by rw [z]; decide)), if_neg (fun z => h (by rw [z]; decide)), if_neg (fun z => h (by rw [z]; decide))]
theorem fld_eq {k : Nat} {v : Int32} (hk : k ≤ 6) : fldB (nI k) v = bI (0 ≤ v ∧ v ≤ mostV (nI k)) := by
  match k, hk with
  | 0, _ => rfl
  | 1, _ => rfl
  | 2, _ => rfl
  | 3, _ => rfl
  | 4, _ => rfl
  | 5, _ => rfl
  | 6, _ => rfl
theorem fld_no2 {k : Nat} {v : Int32} (hk : k ≤ 6) (h : ¬ (0 ≤ v ∧ v ≤ mostV (nI k))) : fldB (nI k) v = 0 := by rw [fld_eq hk, bI, if_neg h]
theorem fld_yes {k : Nat} {v : Int32} (hk : k ≤ 6) (h : 0 ≤ v ∧ v ≤ mostV (nI k)) : ¬ fldB (nI k) v = 0 := by rw [fld_eq hk, bI, if_pos h]; decide
theorem go_sub {k : Nat} (hk : k ≤ 99999) : (99999 : Int32) - nI k = nI (99999 - k) := nI_sub (a := 99999) hk
theorem go_no {r : Row} {d k : Nat} {n : Int32} (hd : r 0 = nI d) (hd5 : d ≤ 99999) (en : n = nI k) (hk : k ≤ 99999) (h : nI d ≤ 99999 - nI k) : ¬ 99999 < r 0 + n := by
  rw [go_sub hk] at h
  have h1 := le_of_nI h (by omega) (by omega)
  rw [hd, en, nI_add]
  exact Int32.not_lt.mpr (nI_le (b := 99999) (by omega) (by decide))
theorem go_yes {r : Row} {d k : Nat} {n : Int32} (hd : r 0 = nI d) (hd5 : d ≤ 99999) (en : n = nI k) (hk : k ≤ 99999) (h : ¬ nI d ≤ 99999 - nI k) : 99999 < r 0 + n := by
  rw [go_sub hk] at h
  have h1 : 99999 - k < d := Nat.lt_of_not_le (fun z => h (nI_le z (by omega)))
  rw [hd, en, nI_add]
  exact nI_lt (a := 99999) (by omega) (by omega)
theorem as_neg {r : Row} {n k : Nat} (h : r (11 + k) = -1 ∨ ∃ j : Nat, j < n ∧ r (11 + k) = nI j) (hn : r 1 = nI n) (hn8 : n ≤ 8) (hc : ¬ (0 ≤ r (11 + k) ∧ r (11 + k) < r 1)) : r (11 + k) < 0 := by
  rcases h with h | ⟨j, hj, e⟩
  · rw [h]; decide
  · exact absurd ⟨by rw [e]; exact nI_pos' (by omega), by rw [e, hn]; exact nI_lt hj (by omega)⟩ hc
def sm9 (f : Row) : Nat → Int32
  | 0 => 0
  | i + 1 => sm9 f i + f i
def rStatC (f : Row) (v : Int32) : Res := if v = -1 then .inr (f, sm9 f 7) else if 0 ≤ v ∧ v ≤ 6 then .inr (f, f (tN v)) else .inl 0
theorem st_m {f : Row} {v : Int32} (h : v = -1) : rStatC f v = .inr (f, sm9 f 7) := if_pos h
theorem st_y {f : Row} {v : Int32} (h : ¬ v = -1) (h2 : 0 ≤ v ∧ v ≤ 6) : rStatC f v = .inr (f, f (tN v)) := by rw [rStatC, if_neg h, if_pos h2]
theorem st_n {f : Row} {v : Int32} (h : ¬ v = -1) (h2 : ¬ (0 ≤ v ∧ v ≤ 6)) : rStatC f v = .inl 0 := by rw [rStatC, if_neg h, if_neg h2]
theorem stormF_RI {r : Row} (h : RI r) : RI (stormF r) := by
  have hA : RI (stormA r) := by
    unfold stormA
    obtain ⟨z, hz, ez⟩ := drawV_nat r
    rw [ez, show nI z - nI z / 100 * 100 = nI (z % 100) from pk_rem (a := z) (d := 100) (by omega) (by decide) (by decide)]
    exact RI_list (RI_2 h) (Nat.mod_lt _ (by decide)) ⟨z % 100, by have := Nat.mod_lt z (show 0 < 100 by decide); omega, rfl⟩
  have hP : RI (stormP r) := by
    unfold stormP
    split
    · exact RI_pf (f := 2) (RI_2 hA) (by decide) ⟨9, by decide, rfl⟩
    · exact RI_2 hA
  exact dayF_RI hP
set_option maxHeartbeats 800000 in
set_option maxRecDepth 100000 in
theorem c_X4_weather (l : Launch) (E : EV) (ag ah az ak : Nat → Nat) (i0 : Int32) (r f : Row) (i v : Int32) (hR : RI r) : Met l yX4_weather (wq yX4_weather cX4_weather 4 (some .int)) ({ frames := 1, cells := 0, slots := 0, locals := 21 }) (preB E [.ref (ag 0), .int i, .int v] [[gObj ag ah az ak i0], hillsW E ah r, [(ag 4, .inl (E.2.1, 7, .inl (sg f 7)))]]) (qI E [[gObj ag ah az ak i0], hillsW E ah r, [(ag 4, .inl (E.2.1, 7, .inl (sg f 7)))]] [[gObj ag ah az ak i0], hillsW E ah (rowR r (rWeather r i v)), [(ag 4, .inl (E.2.1, 7, .inl (sg (fndC f (rWeather r i v)) 7)))]] (ansR (rWeather r i v))) 0 0 (inB [[gObj ag ah az ak i0], hillsW E ah r, [(ag 4, .inl (E.2.1, 7, .inl (sg f 7)))]]) := by
  refine M_mk RX4 (by decide) rfl (Nat.le_of_ble_eq_true rfl) ?_
  intro p e s m below meth c S hr hlk hK hP hD hS ls hl
  have hl : lv_has ls 4 [(0, .ref (ag 0)), (1, .int i), (2, .int v)] := hl
  obtain ⟨n, d, hn, hn8, hd, hd5, ho, hso, hli, hsp, hpt⟩ := id hR
  obtain ⟨H, hH⟩ : ∃ zz9, zz9 = s.heap := ⟨_, rfl⟩
  obtain ⟨locs, hlocs⟩ : ∃ zz9 : List Loc, zz9 = [] := ⟨_, rfl⟩
  have hP : PE E [[gObj ag ah az ak i0], hillsW E ah r, [(ag 4, .inl (E.2.1, 7, .inl (sg f 7)))]] H := by rw [hH]; exact hP
  have hS : va_S (inB [[gObj ag ah az ak i0], hillsW E ah r, [(ag 4, .inl (E.2.1, 7, .inl (sg f 7)))]]) s.heap H locs := by rw [hH, hlocs]; exact hS
  show W p l e ({ frames := 1, cells := 0, slots := 0, locals := 21 }) s m ([.ref (ag 0), .int i, .int v] : List Value).toArray below meth c s.heap [] 0 0 _ _
  suffices hgo : W p l e ({ frames := 1, cells := 0, slots := 0, locals := 21 }) s m ([.ref (ag 0), .int i, .int v] : List Value).toArray below meth c H locs 0 0 (MQ below (qI E [[gObj ag ah az ak i0], hillsW E ah r, [(ag 4, .inl (E.2.1, 7, .inl (sg f 7)))]] [[gObj ag ah az ak i0], hillsW E ah (rowR r (rWeather r i v)), [(ag 4, .inl (E.2.1, 7, .inl (sg (fndC f (rWeather r i v)) 7)))]] (ansR (rWeather r i v))) ([.ref (ag 0), .int i, .int v] : List Value).toArray s 0 0 (inB [[gObj ag ah az ak i0], hillsW E ah r, [(ag 4, .inl (E.2.1, 7, .inl (sg f 7)))]])) (F0 m 0 ls []) by rw [hH, hlocs] at hgo; exact hgo
  clear hH hlocs
  refine lv_iload_n S.1 S.2.1 dX4_weather_0 rfl (lv_at hl 1 rfl) ?_
  refine lv_iconst (v := 5) S.1 S.2.1 dX4_weather_1 (by decide) ?_
  refine go_S (run_S (As := [.int i, .int 5]) (rest := []) (n := 2) S hK (bl_P hP [] rfl) (bl_D hD [] rfl rfl) (c_X4_isWithin l E i 5 ) gS_X4_44 (by decide +kernel) rfl ⟨rfl, rfl⟩ ⟨Nat.le_of_ble_eq_true rfl, Nat.le_of_ble_eq_true rfl⟩ hl.1 (Nat.le_of_ble_eq_true rfl) dX4_weather_2 ⟨Nat.zero_le _, Nat.zero_le _⟩) ?_
  refine b_ifeq (tgt := 17) S.1 S.2.1 dX4_weather_5 (by decide) (fun c_5 => ?_) (fun c_5 => ?_)
  · refine lv_aload_n S.1 S.2.1 dX4_weather_17 rfl (lv_at hl 0 rfl) ?_
    refine lv_iconst (v := 0) S.1 S.2.1 dX4_weather_18 (by decide) ?_
    refine go_I (run_V (As := [.int 0]) (rest := []) (n := 1) S hK (bl_P hP [0, 2] rfl) (bl_D hD [0, 2] rfl rfl) (c_X4_finding l E ag ah az ak i0 f 0 (by decide)) gV_X4_48 (by decide +kernel) rfl ⟨rfl, rfl⟩ ⟨Nat.le_of_ble_eq_true rfl, Nat.le_of_ble_eq_true rfl⟩ (ci := 4) (q0 := 0) rfl rfl hl.1 (Nat.le_of_ble_eq_true rfl) dX4_weather_19 ⟨Nat.zero_le _, Nat.zero_le _⟩) hP hD hS [0, 2] rfl (had_cons rfl (had_cons cell_ad rfl)) (Bs' := [[gObj ag ah az ak i0], hillsW E ah r, [(ag 4, .inl (E.2.1, 7, .inl (sg (upd f 0 (f 0 + 1)) 7)))]]) rfl (fun H locs hP hD hS => ?_)
    obtain ⟨r_19, er_19⟩ : ∃ zz9 : Row, zz9 = upd f 0 (f 0 + 1) := ⟨_, rfl⟩
    rw [← er_19] at hP hD
    exact retI S hr hlk (by have e9 : rWeather r i v = .inl 0 := (by unfold rWeather; rw [if_neg c_5]); rw [er_19] at hP; rw [e9, rowR_inl, fndC_inl]; exact hP) hS (by have e9 : rWeather r i v = .inl 0 := (by unfold rWeather; rw [if_neg c_5]); rw [e9]; decide) dX4_weather_22
  · obtain ⟨k_i, hk_i, ek_i⟩ := nI_of2 (n := 5) (by decide) (Int32.not_lt.mpr c_5.1) c_5.2
    refine lv_iload_n S.1 S.2.1 dX4_weather_8 rfl (lv_at hl 2 rfl) ?_
    refine lv_bipush (v := 99) S.1 S.2.1 dX4_weather_9 (by decide) ?_
    refine go_S (run_S (As := [.int v, .int 99]) (rest := []) (n := 2) S hK (bl_P hP [] rfl) (bl_D hD [] rfl rfl) (c_X4_isWithin l E v 99 ) gS_X4_44 (by decide +kernel) rfl ⟨rfl, rfl⟩ ⟨Nat.le_of_ble_eq_true rfl, Nat.le_of_ble_eq_true rfl⟩ hl.1 (Nat.le_of_ble_eq_true rfl) dX4_weather_11 ⟨Nat.zero_le _, Nat.zero_le _⟩) ?_
    refine b_ifne (tgt := 23) S.1 S.2.1 dX4_weather_14 (by decide) (fun c_14 => ?_) (fun c_14 => ?_)
    · obtain ⟨k_v, hk_v, ek_v⟩ := nI_of2 (n := 99) (by decide) (Int32.not_lt.mpr c_14.1) c_14.2
      refine lv_aload_n S.1 S.2.1 dX4_weather_23 rfl (lv_at hl 0 rfl) ?_
      refine gf_X4_10 S hK hP 0 0 rfl rfl rfl dX4_weather_24 ?_
      refine gf_X4_52 S hK hP 1 0 rfl rfl rfl dX4_weather_27 ?_
      refine lv_iload_n S.1 S.2.1 dX4_weather_30 rfl (lv_at hl 1 rfl) ?_
      refine lv_eqi (y := nI k_i) ek_i ?_
      refine b_ialdN (i := k_i) S hK hP 1 1 rfl rfl (by omega) (by decide) dX4_weather_31 ?_
      refine lv_eqi (y := r (5 + k_i)) (seg_at (by omega)) ?_
      refine lv_istore_n (lv' := [(3, .int (r (5 + k_i))), (0, .ref (ag 0)), (1, .int i), (2, .int v)]) S.1 S.2.1 dX4_weather_32 rfl hl (by decide) rfl (fun ls hl => ?_)
      refine lv_aload_n S.1 S.2.1 dX4_weather_33 rfl (lv_at hl 1 rfl) ?_
      refine gf_X4_10 S hK hP 0 0 rfl rfl rfl dX4_weather_34 ?_
      refine gf_X4_52 S hK hP 1 0 rfl rfl rfl dX4_weather_37 ?_
      refine lv_iload_n S.1 S.2.1 dX4_weather_40 rfl (lv_at hl 2 rfl) ?_
      refine lv_eqi (y := nI k_i) ek_i ?_
      refine lv_iload_n S.1 S.2.1 dX4_weather_41 rfl (lv_at hl 3 rfl) ?_
      refine lv_eqi (y := nI k_v) ek_v ?_
      refine b_iastN (i := k_i) S hK hP hD hS 1 1 rfl rfl (by omega) (by decide) (hs_list (by omega)) (Bs1 := [[gObj ag ah az ak i0], hillsW E ah (upd r (5 + k_i) (nI k_v)), [(ag 4, .inl (E.2.1, 7, .inl (sg f 7)))]]) rfl dX4_weather_42 (fun H locs hP hD hS => ?_)
      obtain ⟨r_42, er_42⟩ : ∃ zz9, zz9 = upd r (5 + k_i) (nI k_v) := ⟨_, rfl⟩
      rw [← er_42] at hP hD
      have hr_42_1 : r_42 1 = nI n := by rw [er_42]; exact (upd_ne (by omega)).trans hn
      have hr_42_0 : r_42 0 = nI d := by rw [er_42]; exact (upd_ne (by omega)).trans hd
      refine lv_iload_n S.1 S.2.1 dX4_weather_43 rfl (lv_at hl 0 rfl) ?_
      exact retI S hr hlk (by have e9 : rWeather r i v = .inr (r_42, r (5 + k_i)) := (by unfold rWeather; rw [if_pos c_5, if_pos c_14]; (try rw [ek_i]); (try rw [ek_v]); (try rw [tN_nI (k := k_i) (by omega)]); (try rw [tN_nI (k := k_v) (by omega)]); (try rw [er_42]); try with_reducible rfl); rw [e9, rowR_inr, fndC_inr]; exact hP) hS (by have e9 : rWeather r i v = .inr (r_42, r (5 + k_i)) := (by unfold rWeather; rw [if_pos c_5, if_pos c_14]; (try rw [ek_i]); (try rw [ek_v]); (try rw [tN_nI (k := k_i) (by omega)]); (try rw [tN_nI (k := k_v) (by omega)]); (try rw [er_42]); try with_reducible rfl); rw [e9, ansR_inr]) dX4_weather_44
    · refine lv_aload_n S.1 S.2.1 dX4_weather_17 rfl (lv_at hl 0 rfl) ?_
      refine lv_iconst (v := 0) S.1 S.2.1 dX4_weather_18 (by decide) ?_
      refine go_I (run_V (As := [.int 0]) (rest := []) (n := 1) S hK (bl_P hP [0, 2] rfl) (bl_D hD [0, 2] rfl rfl) (c_X4_finding l E ag ah az ak i0 f 0 (by decide)) gV_X4_48 (by decide +kernel) rfl ⟨rfl, rfl⟩ ⟨Nat.le_of_ble_eq_true rfl, Nat.le_of_ble_eq_true rfl⟩ (ci := 4) (q0 := 0) rfl rfl hl.1 (Nat.le_of_ble_eq_true rfl) dX4_weather_19 ⟨Nat.zero_le _, Nat.zero_le _⟩) hP hD hS [0, 2] rfl (had_cons rfl (had_cons cell_ad rfl)) (Bs' := [[gObj ag ah az ak i0], hillsW E ah r, [(ag 4, .inl (E.2.1, 7, .inl (sg (upd f 0 (f 0 + 1)) 7)))]]) rfl (fun H locs hP hD hS => ?_)
      obtain ⟨r_19_1, er_19_1⟩ : ∃ zz9 : Row, zz9 = upd f 0 (f 0 + 1) := ⟨_, rfl⟩
      rw [← er_19_1] at hP hD
      exact retI S hr hlk (by have e9 : rWeather r i v = .inl 0 := (by unfold rWeather; rw [if_pos c_5, if_neg c_14]); rw [er_19_1] at hP; rw [e9, rowR_inl, fndC_inl]; exact hP) hS (by have e9 : rWeather r i v = .inl 0 := (by unfold rWeather; rw [if_pos c_5, if_neg c_14]); rw [e9]; decide) dX4_weather_22
set_option maxHeartbeats 800000 in
set_option maxRecDepth 100000 in
theorem c_X4_listed (l : Launch) (E : EV) (ag ah az ak : Nat → Nat) (i0 : Int32) (r f : Row) (i : Int32) (hR : RI r) : Met l yX4_listed (wq yX4_listed cX4_listed 2 (some .int)) ({ frames := 1, cells := 0, slots := 0, locals := 21 }) (preB E [.ref (ag 0), .int i] [[gObj ag ah az ak i0], hillsW E ah r, [(ag 4, .inl (E.2.1, 7, .inl (sg f 7)))]]) (qI E [[gObj ag ah az ak i0], hillsW E ah r, [(ag 4, .inl (E.2.1, 7, .inl (sg f 7)))]] [[gObj ag ah az ak i0], hillsW E ah (rowR r (rListed r i)), [(ag 4, .inl (E.2.1, 7, .inl (sg (fndC f (rListed r i)) 7)))]] (ansR (rListed r i))) 0 0 (inB [[gObj ag ah az ak i0], hillsW E ah r, [(ag 4, .inl (E.2.1, 7, .inl (sg f 7)))]]) := by
  refine M_mk RX4 (by decide) rfl (Nat.le_of_ble_eq_true rfl) ?_
  intro p e s m below meth c S hr hlk hK hP hD hS ls hl
  have hl : lv_has ls 2 [(0, .ref (ag 0)), (1, .int i)] := hl
  obtain ⟨n, d, hn, hn8, hd, hd5, ho, hso, hli, hsp, hpt⟩ := id hR
  obtain ⟨H, hH⟩ : ∃ zz9, zz9 = s.heap := ⟨_, rfl⟩
  obtain ⟨locs, hlocs⟩ : ∃ zz9 : List Loc, zz9 = [] := ⟨_, rfl⟩
  have hP : PE E [[gObj ag ah az ak i0], hillsW E ah r, [(ag 4, .inl (E.2.1, 7, .inl (sg f 7)))]] H := by rw [hH]; exact hP
  have hS : va_S (inB [[gObj ag ah az ak i0], hillsW E ah r, [(ag 4, .inl (E.2.1, 7, .inl (sg f 7)))]]) s.heap H locs := by rw [hH, hlocs]; exact hS
  show W p l e ({ frames := 1, cells := 0, slots := 0, locals := 21 }) s m ([.ref (ag 0), .int i] : List Value).toArray below meth c s.heap [] 0 0 _ _
  suffices hgo : W p l e ({ frames := 1, cells := 0, slots := 0, locals := 21 }) s m ([.ref (ag 0), .int i] : List Value).toArray below meth c H locs 0 0 (MQ below (qI E [[gObj ag ah az ak i0], hillsW E ah r, [(ag 4, .inl (E.2.1, 7, .inl (sg f 7)))]] [[gObj ag ah az ak i0], hillsW E ah (rowR r (rListed r i)), [(ag 4, .inl (E.2.1, 7, .inl (sg (fndC f (rListed r i)) 7)))]] (ansR (rListed r i))) ([.ref (ag 0), .int i] : List Value).toArray s 0 0 (inB [[gObj ag ah az ak i0], hillsW E ah r, [(ag 4, .inl (E.2.1, 7, .inl (sg f 7)))]])) (F0 m 0 ls []) by rw [hH, hlocs] at hgo; exact hgo
  clear hH hlocs
  refine lv_iload_n S.1 S.2.1 dX4_listed_0 rfl (lv_at hl 1 rfl) ?_
  refine lv_iconst (v := 5) S.1 S.2.1 dX4_listed_1 (by decide) ?_
  refine go_S (run_S (As := [.int i, .int 5]) (rest := []) (n := 2) S hK (bl_P hP [] rfl) (bl_D hD [] rfl rfl) (c_X4_isWithin l E i 5 ) gS_X4_44 (by decide +kernel) rfl ⟨rfl, rfl⟩ ⟨Nat.le_of_ble_eq_true rfl, Nat.le_of_ble_eq_true rfl⟩ hl.1 (Nat.le_of_ble_eq_true rfl) dX4_listed_2 ⟨Nat.zero_le _, Nat.zero_le _⟩) ?_
  refine b_ifne (tgt := 14) S.1 S.2.1 dX4_listed_5 (by decide) (fun c_5 => ?_) (fun c_5 => ?_)
  · obtain ⟨k_i, hk_i, ek_i⟩ := nI_of2 (n := 5) (by decide) (Int32.not_lt.mpr c_5.1) c_5.2
    refine lv_aload_n S.1 S.2.1 dX4_listed_14 rfl (lv_at hl 0 rfl) ?_
    refine gf_X4_10 S hK hP 0 0 rfl rfl rfl dX4_listed_15 ?_
    refine gf_X4_52 S hK hP 1 0 rfl rfl rfl dX4_listed_18 ?_
    refine lv_iload_n S.1 S.2.1 dX4_listed_21 rfl (lv_at hl 1 rfl) ?_
    refine lv_eqi (y := nI k_i) ek_i ?_
    refine b_ialdN (i := k_i) S hK hP 1 1 rfl rfl (by omega) (by decide) dX4_listed_22 ?_
    refine lv_eqi (y := r (5 + k_i)) (seg_at (by omega)) ?_
    exact retI S hr hlk (by have e9 : rListed r i = .inr (r, r (5 + k_i)) := (by unfold rListed; rw [if_pos c_5]; (try rw [ek_i]); (try rw [tN_nI (k := k_i) (by omega)]); try with_reducible rfl); rw [e9, rowR_inr, fndC_inr]; exact hP) hS (by have e9 : rListed r i = .inr (r, r (5 + k_i)) := (by unfold rListed; rw [if_pos c_5]; (try rw [ek_i]); (try rw [tN_nI (k := k_i) (by omega)]); try with_reducible rfl); rw [e9, ansR_inr]) dX4_listed_23
  · refine lv_aload_n S.1 S.2.1 dX4_listed_8 rfl (lv_at hl 0 rfl) ?_
    refine lv_iconst (v := 0) S.1 S.2.1 dX4_listed_9 (by decide) ?_
    refine go_I (run_V (As := [.int 0]) (rest := []) (n := 1) S hK (bl_P hP [0, 2] rfl) (bl_D hD [0, 2] rfl rfl) (c_X4_finding l E ag ah az ak i0 f 0 (by decide)) gV_X4_48 (by decide +kernel) rfl ⟨rfl, rfl⟩ ⟨Nat.le_of_ble_eq_true rfl, Nat.le_of_ble_eq_true rfl⟩ (ci := 4) (q0 := 0) rfl rfl hl.1 (Nat.le_of_ble_eq_true rfl) dX4_listed_10 ⟨Nat.zero_le _, Nat.zero_le _⟩) hP hD hS [0, 2] rfl (had_cons rfl (had_cons cell_ad rfl)) (Bs' := [[gObj ag ah az ak i0], hillsW E ah r, [(ag 4, .inl (E.2.1, 7, .inl (sg (upd f 0 (f 0 + 1)) 7)))]]) rfl (fun H locs hP hD hS => ?_)
    obtain ⟨r_10, er_10⟩ : ∃ zz9 : Row, zz9 = upd f 0 (f 0 + 1) := ⟨_, rfl⟩
    rw [← er_10] at hP hD
    exact retI S hr hlk (by have e9 : rListed r i = .inl 0 := (by unfold rListed; rw [if_neg c_5]); rw [er_10] at hP; rw [e9, rowR_inl, fndC_inl]; exact hP) hS (by have e9 : rListed r i = .inl 0 := (by unfold rListed; rw [if_neg c_5]); rw [e9]; decide) dX4_listed_13
set_option maxHeartbeats 800000 in
set_option maxRecDepth 100000 in
theorem c_X4_onions (l : Launch) (E : EV) (ag ah az ak : Nat → Nat) (i0 : Int32) (r f : Row) (v : Int32) (hR : RI r) : Met l yX4_onions (wq yX4_onions cX4_onions 3 (some .int)) ({ frames := 1, cells := 0, slots := 0, locals := 21 }) (preB E [.ref (ag 0), .int v] [[gObj ag ah az ak i0], hillsW E ah r, [(ag 4, .inl (E.2.1, 7, .inl (sg f 7)))]]) (qI E [[gObj ag ah az ak i0], hillsW E ah r, [(ag 4, .inl (E.2.1, 7, .inl (sg f 7)))]] [[gObj ag ah az ak i0], hillsW E ah (rowR r (rOnions r v)), [(ag 4, .inl (E.2.1, 7, .inl (sg (fndC f (rOnions r v)) 7)))]] (ansR (rOnions r v))) 0 0 (inB [[gObj ag ah az ak i0], hillsW E ah r, [(ag 4, .inl (E.2.1, 7, .inl (sg f 7)))]]) := by
  refine M_mk RX4 (by decide) rfl (Nat.le_of_ble_eq_true rfl) ?_
  intro p e s m below meth c S hr hlk hK hP hD hS ls hl
  have hl : lv_has ls 3 [(0, .ref (ag 0)), (1, .int v)] := hl
  obtain ⟨n, d, hn, hn8, hd, hd5, ho, hso, hli, hsp, hpt⟩ := id hR
  obtain ⟨H, hH⟩ : ∃ zz9, zz9 = s.heap := ⟨_, rfl⟩
  obtain ⟨locs, hlocs⟩ : ∃ zz9 : List Loc, zz9 = [] := ⟨_, rfl⟩
  have hP : PE E [[gObj ag ah az ak i0], hillsW E ah r, [(ag 4, .inl (E.2.1, 7, .inl (sg f 7)))]] H := by rw [hH]; exact hP
  have hS : va_S (inB [[gObj ag ah az ak i0], hillsW E ah r, [(ag 4, .inl (E.2.1, 7, .inl (sg f 7)))]]) s.heap H locs := by rw [hH, hlocs]; exact hS
  show W p l e ({ frames := 1, cells := 0, slots := 0, locals := 21 }) s m ([.ref (ag 0), .int v] : List Value).toArray below meth c s.heap [] 0 0 _ _
  suffices hgo : W p l e ({ frames := 1, cells := 0, slots := 0, locals := 21 }) s m ([.ref (ag 0), .int v] : List Value).toArray below meth c H locs 0 0 (MQ below (qI E [[gObj ag ah az ak i0], hillsW E ah r, [(ag 4, .inl (E.2.1, 7, .inl (sg f 7)))]] [[gObj ag ah az ak i0], hillsW E ah (rowR r (rOnions r v)), [(ag 4, .inl (E.2.1, 7, .inl (sg (fndC f (rOnions r v)) 7)))]] (ansR (rOnions r v))) ([.ref (ag 0), .int v] : List Value).toArray s 0 0 (inB [[gObj ag ah az ak i0], hillsW E ah r, [(ag 4, .inl (E.2.1, 7, .inl (sg f 7)))]])) (F0 m 0 ls []) by rw [hH, hlocs] at hgo; exact hgo
  clear hH hlocs
  refine lv_iload_n S.1 S.2.1 dX4_onions_0 rfl (lv_at hl 1 rfl) ?_
  refine lv_bipush (v := 99) S.1 S.2.1 dX4_onions_1 (by decide) ?_
  refine go_S (run_S (As := [.int v, .int 99]) (rest := []) (n := 2) S hK (bl_P hP [] rfl) (bl_D hD [] rfl rfl) (c_X4_isWithin l E v 99 ) gS_X4_44 (by decide +kernel) rfl ⟨rfl, rfl⟩ ⟨Nat.le_of_ble_eq_true rfl, Nat.le_of_ble_eq_true rfl⟩ hl.1 (Nat.le_of_ble_eq_true rfl) dX4_onions_3 ⟨Nat.zero_le _, Nat.zero_le _⟩) ?_
  refine b_ifne (tgt := 15) S.1 S.2.1 dX4_onions_6 (by decide) (fun c_6 => ?_) (fun c_6 => ?_)
  · obtain ⟨k_v, hk_v, ek_v⟩ := nI_of2 (n := 99) (by decide) (Int32.not_lt.mpr c_6.1) c_6.2
    refine lv_aload_n S.1 S.2.1 dX4_onions_15 rfl (lv_at hl 0 rfl) ?_
    refine gf_X4_10 S hK hP 0 0 rfl rfl rfl dX4_onions_16 ?_
    refine gf_X4_55 S hK hP 1 0 rfl rfl rfl dX4_onions_19 ?_
    refine lv_istore_n (lv' := [(2, .int (r 3)), (0, .ref (ag 0)), (1, .int v)]) S.1 S.2.1 dX4_onions_22 rfl hl (by decide) rfl (fun ls hl => ?_)
    refine lv_aload_n S.1 S.2.1 dX4_onions_23 rfl (lv_at hl 1 rfl) ?_
    refine gf_X4_10 S hK hP 0 0 rfl rfl rfl dX4_onions_24 ?_
    refine lv_iload_n S.1 S.2.1 dX4_onions_27 rfl (lv_at hl 2 rfl) ?_
    refine lv_eqi (y := nI k_v) ek_v ?_
    refine pf_X4_55 S hK hP hD hS 1 0 rfl rfl (Nat.le_of_ble_eq_true rfl) hs_3 (Bs1 := [[gObj ag ah az ak i0], hillsW E ah (upd r 3 (nI k_v)), [(ag 4, .inl (E.2.1, 7, .inl (sg f 7)))]]) rfl dX4_onions_28 (fun H locs hP hD hS => ?_)
    obtain ⟨r_28, er_28⟩ : ∃ zz9, zz9 = upd r 3 (nI k_v) := ⟨_, rfl⟩
    rw [← er_28] at hP hD
    have hr_28_1 : r_28 1 = nI n := by rw [er_28]; exact (upd_ne (by omega)).trans hn
    have hr_28_0 : r_28 0 = nI d := by rw [er_28]; exact (upd_ne (by omega)).trans hd
    refine lv_iload_n S.1 S.2.1 dX4_onions_31 rfl (lv_at hl 0 rfl) ?_
    exact retI S hr hlk (by have e9 : rOnions r v = .inr (r_28, r 3) := (by unfold rOnions; rw [if_pos c_6]; (try rw [ek_v]); (try rw [tN_nI (k := k_v) (by omega)]); (try rw [er_28]); try with_reducible rfl); rw [e9, rowR_inr, fndC_inr]; exact hP) hS (by have e9 : rOnions r v = .inr (r_28, r 3) := (by unfold rOnions; rw [if_pos c_6]; (try rw [ek_v]); (try rw [tN_nI (k := k_v) (by omega)]); (try rw [er_28]); try with_reducible rfl); rw [e9, ansR_inr]) dX4_onions_32
  · refine lv_aload_n S.1 S.2.1 dX4_onions_9 rfl (lv_at hl 0 rfl) ?_
    refine lv_iconst (v := 0) S.1 S.2.1 dX4_onions_10 (by decide) ?_
    refine go_I (run_V (As := [.int 0]) (rest := []) (n := 1) S hK (bl_P hP [0, 2] rfl) (bl_D hD [0, 2] rfl rfl) (c_X4_finding l E ag ah az ak i0 f 0 (by decide)) gV_X4_48 (by decide +kernel) rfl ⟨rfl, rfl⟩ ⟨Nat.le_of_ble_eq_true rfl, Nat.le_of_ble_eq_true rfl⟩ (ci := 4) (q0 := 0) rfl rfl hl.1 (Nat.le_of_ble_eq_true rfl) dX4_onions_11 ⟨Nat.zero_le _, Nat.zero_le _⟩) hP hD hS [0, 2] rfl (had_cons rfl (had_cons cell_ad rfl)) (Bs' := [[gObj ag ah az ak i0], hillsW E ah r, [(ag 4, .inl (E.2.1, 7, .inl (sg (upd f 0 (f 0 + 1)) 7)))]]) rfl (fun H locs hP hD hS => ?_)
    obtain ⟨r_11, er_11⟩ : ∃ zz9 : Row, zz9 = upd f 0 (f 0 + 1) := ⟨_, rfl⟩
    rw [← er_11] at hP hD
    exact retI S hr hlk (by have e9 : rOnions r v = .inl 0 := (by unfold rOnions; rw [if_neg c_6]); rw [er_11] at hP; rw [e9, rowR_inl, fndC_inl]; exact hP) hS (by have e9 : rOnions r v = .inl 0 := (by unfold rOnions; rw [if_neg c_6]); rw [e9]; decide) dX4_onions_14
set_option maxHeartbeats 800000 in
set_option maxRecDepth 100000 in
theorem c_X4_potter (l : Launch) (E : EV) (ag ah az ak : Nat → Nat) (i0 : Int32) (r f : Row) (k g : Int32) (hR : RI r) : Met l yX4_potter (wq yX4_potter cX4_potter 3 (some .int)) ({ frames := 2, cells := 0, slots := 0, locals := 45 }) (preB E [.ref (ag 0), .int k, .int g] [[gObj ag ah az ak i0], hillsW E ah r, [(ag 4, .inl (E.2.1, 7, .inl (sg f 7)))]]) (qI E [[gObj ag ah az ak i0], hillsW E ah r, [(ag 4, .inl (E.2.1, 7, .inl (sg f 7)))]] [[gObj ag ah az ak i0], hillsW E ah (rowR r (rPotter r k g)), [(ag 4, .inl (E.2.1, 7, .inl (sg (fndC f (rPotter r k g)) 7)))]] (ansR (rPotter r k g))) 0 0 (inB [[gObj ag ah az ak i0], hillsW E ah r, [(ag 4, .inl (E.2.1, 7, .inl (sg f 7)))]]) := by
  refine M_mk RX4 (by decide) rfl (Nat.le_of_ble_eq_true rfl) ?_
  intro p e s m below meth c S hr hlk hK hP hD hS ls hl
  have hl : lv_has ls 3 [(0, .ref (ag 0)), (1, .int k), (2, .int g)] := hl
  obtain ⟨n, d, hn, hn8, hd, hd5, ho, hso, hli, hsp, hpt⟩ := id hR
  obtain ⟨H, hH⟩ : ∃ zz9, zz9 = s.heap := ⟨_, rfl⟩
  obtain ⟨locs, hlocs⟩ : ∃ zz9 : List Loc, zz9 = [] := ⟨_, rfl⟩
  have hP : PE E [[gObj ag ah az ak i0], hillsW E ah r, [(ag 4, .inl (E.2.1, 7, .inl (sg f 7)))]] H := by rw [hH]; exact hP
  have hS : va_S (inB [[gObj ag ah az ak i0], hillsW E ah r, [(ag 4, .inl (E.2.1, 7, .inl (sg f 7)))]]) s.heap H locs := by rw [hH, hlocs]; exact hS
  show W p l e ({ frames := 2, cells := 0, slots := 0, locals := 45 }) s m ([.ref (ag 0), .int k, .int g] : List Value).toArray below meth c s.heap [] 0 0 _ _
  suffices hgo : W p l e ({ frames := 2, cells := 0, slots := 0, locals := 45 }) s m ([.ref (ag 0), .int k, .int g] : List Value).toArray below meth c H locs 0 0 (MQ below (qI E [[gObj ag ah az ak i0], hillsW E ah r, [(ag 4, .inl (E.2.1, 7, .inl (sg f 7)))]] [[gObj ag ah az ak i0], hillsW E ah (rowR r (rPotter r k g)), [(ag 4, .inl (E.2.1, 7, .inl (sg (fndC f (rPotter r k g)) 7)))]] (ansR (rPotter r k g))) ([.ref (ag 0), .int k, .int g] : List Value).toArray s 0 0 (inB [[gObj ag ah az ak i0], hillsW E ah r, [(ag 4, .inl (E.2.1, 7, .inl (sg f 7)))]])) (F0 m 0 ls []) by rw [hH, hlocs] at hgo; exact hgo
  clear hH hlocs
  refine lv_iload_n S.1 S.2.1 dX4_potter_0 rfl (lv_at hl 1 rfl) ?_
  refine lv_bipush (v := 6) S.1 S.2.1 dX4_potter_1 (by decide) ?_
  refine go_S (run_S (As := [.int k, .int 6]) (rest := []) (n := 2) S hK (bl_P hP [] rfl) (bl_D hD [] rfl rfl) (c_X4_isWithin l E k 6 ) gS_X4_44 (by decide +kernel) rfl ⟨rfl, rfl⟩ ⟨Nat.le_of_ble_eq_true rfl, Nat.le_of_ble_eq_true rfl⟩ hl.1 (Nat.le_of_ble_eq_true rfl) dX4_potter_3 ⟨Nat.zero_le _, Nat.zero_le _⟩) ?_
  refine b_ifeq (tgt := 18) S.1 S.2.1 dX4_potter_6 (by decide) (fun c_6 => ?_) (fun c_6 => ?_)
  · refine lv_aload_n S.1 S.2.1 dX4_potter_18 rfl (lv_at hl 0 rfl) ?_
    refine lv_iconst (v := 0) S.1 S.2.1 dX4_potter_19 (by decide) ?_
    refine go_I (run_V (As := [.int 0]) (rest := []) (n := 1) S hK (bl_P hP [0, 2] rfl) (bl_D hD [0, 2] rfl rfl) (c_X4_finding l E ag ah az ak i0 f 0 (by decide)) gV_X4_48 (by decide +kernel) rfl ⟨rfl, rfl⟩ ⟨Nat.le_of_ble_eq_true rfl, Nat.le_of_ble_eq_true rfl⟩ (ci := 4) (q0 := 0) rfl rfl hl.1 (Nat.le_of_ble_eq_true rfl) dX4_potter_20 ⟨Nat.zero_le _, Nat.zero_le _⟩) hP hD hS [0, 2] rfl (had_cons rfl (had_cons cell_ad rfl)) (Bs' := [[gObj ag ah az ak i0], hillsW E ah r, [(ag 4, .inl (E.2.1, 7, .inl (sg (upd f 0 (f 0 + 1)) 7)))]]) rfl (fun H locs hP hD hS => ?_)
    obtain ⟨r_20, er_20⟩ : ∃ zz9 : Row, zz9 = upd f 0 (f 0 + 1) := ⟨_, rfl⟩
    rw [← er_20] at hP hD
    exact retI S hr hlk (by have e9 : rPotter r k g = .inl 0 := (by unfold rPotter; rw [if_neg c_6]); rw [er_20] at hP; rw [e9, rowR_inl, fndC_inl]; exact hP) hS (by have e9 : rPotter r k g = .inl 0 := (by unfold rPotter; rw [if_neg c_6]); rw [e9]; decide) dX4_potter_23
  · obtain ⟨k_k, hk_k, ek_k⟩ := nI_of2 (n := 6) (by decide) (Int32.not_lt.mpr c_6.1) c_6.2
    refine lv_iload_n S.1 S.2.1 dX4_potter_9 rfl (lv_at hl 2 rfl) ?_
    refine lv_bipush (v := 99) S.1 S.2.1 dX4_potter_10 (by decide) ?_
    refine go_S (run_S (As := [.int g, .int 99]) (rest := []) (n := 2) S hK (bl_P hP [] rfl) (bl_D hD [] rfl rfl) (c_X4_isWithin l E g 99 ) gS_X4_44 (by decide +kernel) rfl ⟨rfl, rfl⟩ ⟨Nat.le_of_ble_eq_true rfl, Nat.le_of_ble_eq_true rfl⟩ hl.1 (Nat.le_of_ble_eq_true rfl) dX4_potter_12 ⟨Nat.zero_le _, Nat.zero_le _⟩) ?_
    refine b_ifne (tgt := 24) S.1 S.2.1 dX4_potter_15 (by decide) (fun c_15 => ?_) (fun c_15 => ?_)
    · obtain ⟨k_g, hk_g, ek_g⟩ := nI_of2 (n := 99) (by decide) (Int32.not_lt.mpr c_15.1) c_15.2
      refine lv_aload_n S.1 S.2.1 dX4_potter_24 rfl (lv_at hl 0 rfl) ?_
      refine gf_X4_10 S hK hP 0 0 rfl rfl rfl dX4_potter_25 ?_
      refine go_S (run_V (As := []) (rest := []) (n := 0) S hK (bl_P hP [1] rfl) (bl_D hD [1] rfl rfl) (c_X0_isFull l E ah r ) gV_X4_59 (by decide +kernel) rfl ⟨rfl, rfl⟩ ⟨Nat.le_of_ble_eq_true rfl, Nat.le_of_ble_eq_true rfl⟩ (ci := 0) (q0 := 0) rfl rfl hl.1 (Nat.le_of_ble_eq_true rfl) dX4_potter_28 ⟨Nat.zero_le _, Nat.zero_le _⟩) ?_
      refine b_ifeq (tgt := 40) S.1 S.2.1 dX4_potter_31 (by decide) (fun c_31 => ?_) (fun c_31 => ?_)
      · refine lv_aload_n S.1 S.2.1 dX4_potter_40 rfl (lv_at hl 0 rfl) ?_
        refine gf_X4_10 S hK hP 0 0 rfl rfl rfl dX4_potter_41 ?_
        refine lv_iload_n S.1 S.2.1 dX4_potter_44 rfl (lv_at hl 1 rfl) ?_
        refine lv_eqi (y := nI k_k) ek_k ?_
        refine lv_iload_n S.1 S.2.1 dX4_potter_45 rfl (lv_at hl 2 rfl) ?_
        refine lv_eqi (y := nI k_g) ek_g ?_
        refine go_I (run_V (As := [.int (nI k_k), .int (nI k_g)]) (rest := []) (n := 2) S hK (bl_P hP [1] rfl) (bl_D hD [1] rfl rfl) (c_X0_addPotter l E ah r (nI k_k) (nI k_g) n hn (n_lt8b hn c_31)) gV_X4_63 (by decide +kernel) rfl ⟨rfl, rfl⟩ ⟨Nat.le_of_ble_eq_true rfl, Nat.le_of_ble_eq_true rfl⟩ (ci := 0) (q0 := 0) rfl rfl hl.1 (Nat.le_of_ble_eq_true rfl) dX4_potter_46 ⟨Nat.zero_le _, Nat.zero_le _⟩) hP hD hS [1] rfl (had_cons hw_ad rfl) (Bs' := [[gObj ag ah az ak i0], hillsW E ah (addF r (nI k_k) (nI k_g)), [(ag 4, .inl (E.2.1, 7, .inl (sg f 7)))]]) rfl (fun H locs hP hD hS => ?_)
        obtain ⟨r_46, er_46⟩ : ∃ zz9 : Row, zz9 = addF r (nI k_k) (nI k_g) := ⟨_, rfl⟩
        rw [← er_46] at hP hD
        exact retI S hr hlk (by have e9 : rPotter r k g = .inr (r_46, nI (cntN r)) := (by unfold rPotter; rw [if_pos c_6, if_pos c_15, if_neg c_31]; (try rw [ek_k]); (try rw [ek_g]); (try rw [tN_nI (k := k_k) (by omega)]); (try rw [tN_nI (k := k_g) (by omega)]); (try rw [er_46]); try with_reducible rfl); rw [e9, rowR_inr, fndC_inr]; exact hP) hS (by have e9 : rPotter r k g = .inr (r_46, nI (cntN r)) := (by unfold rPotter; rw [if_pos c_6, if_pos c_15, if_neg c_31]; (try rw [ek_k]); (try rw [ek_g]); (try rw [tN_nI (k := k_k) (by omega)]); (try rw [tN_nI (k := k_g) (by omega)]); (try rw [er_46]); try with_reducible rfl); rw [e9, ansR_inr]) dX4_potter_49
      · refine lv_aload_n S.1 S.2.1 dX4_potter_34 rfl (lv_at hl 0 rfl) ?_
        refine lv_iconst (v := 1) S.1 S.2.1 dX4_potter_35 (by decide) ?_
        refine go_I (run_V (As := [.int 1]) (rest := []) (n := 1) S hK (bl_P hP [0, 2] rfl) (bl_D hD [0, 2] rfl rfl) (c_X4_finding l E ag ah az ak i0 f 1 (by decide)) gV_X4_48 (by decide +kernel) rfl ⟨rfl, rfl⟩ ⟨Nat.le_of_ble_eq_true rfl, Nat.le_of_ble_eq_true rfl⟩ (ci := 4) (q0 := 0) rfl rfl hl.1 (Nat.le_of_ble_eq_true rfl) dX4_potter_36 ⟨Nat.zero_le _, Nat.zero_le _⟩) hP hD hS [0, 2] rfl (had_cons rfl (had_cons cell_ad rfl)) (Bs' := [[gObj ag ah az ak i0], hillsW E ah r, [(ag 4, .inl (E.2.1, 7, .inl (sg (upd f 1 (f 1 + 1)) 7)))]]) rfl (fun H locs hP hD hS => ?_)
        obtain ⟨r_36, er_36⟩ : ∃ zz9 : Row, zz9 = upd f 1 (f 1 + 1) := ⟨_, rfl⟩
        rw [← er_36] at hP hD
        exact retI S hr hlk (by have e9 : rPotter r k g = .inl 1 := (by unfold rPotter; rw [if_pos c_6, if_pos c_15, if_pos c_31]); rw [er_36] at hP; rw [e9, rowR_inl, fndC_inl]; exact hP) hS (by have e9 : rPotter r k g = .inl 1 := (by unfold rPotter; rw [if_pos c_6, if_pos c_15, if_pos c_31]); rw [e9]; decide) dX4_potter_39
    · refine lv_aload_n S.1 S.2.1 dX4_potter_18 rfl (lv_at hl 0 rfl) ?_
      refine lv_iconst (v := 0) S.1 S.2.1 dX4_potter_19 (by decide) ?_
      refine go_I (run_V (As := [.int 0]) (rest := []) (n := 1) S hK (bl_P hP [0, 2] rfl) (bl_D hD [0, 2] rfl rfl) (c_X4_finding l E ag ah az ak i0 f 0 (by decide)) gV_X4_48 (by decide +kernel) rfl ⟨rfl, rfl⟩ ⟨Nat.le_of_ble_eq_true rfl, Nat.le_of_ble_eq_true rfl⟩ (ci := 4) (q0 := 0) rfl rfl hl.1 (Nat.le_of_ble_eq_true rfl) dX4_potter_20 ⟨Nat.zero_le _, Nat.zero_le _⟩) hP hD hS [0, 2] rfl (had_cons rfl (had_cons cell_ad rfl)) (Bs' := [[gObj ag ah az ak i0], hillsW E ah r, [(ag 4, .inl (E.2.1, 7, .inl (sg (upd f 0 (f 0 + 1)) 7)))]]) rfl (fun H locs hP hD hS => ?_)
      obtain ⟨r_20_1, er_20_1⟩ : ∃ zz9 : Row, zz9 = upd f 0 (f 0 + 1) := ⟨_, rfl⟩
      rw [← er_20_1] at hP hD
      exact retI S hr hlk (by have e9 : rPotter r k g = .inl 0 := (by unfold rPotter; rw [if_pos c_6, if_neg c_15]); rw [er_20_1] at hP; rw [e9, rowR_inl, fndC_inl]; exact hP) hS (by have e9 : rPotter r k g = .inl 0 := (by unfold rPotter; rw [if_pos c_6, if_neg c_15]); rw [e9]; decide) dX4_potter_23
set_option maxHeartbeats 800000 in
set_option maxRecDepth 100000 in
theorem c_X4_of (l : Launch) (E : EV) (ag ah az ak : Nat → Nat) (i0 : Int32) (r f : Row) (pp w : Int32) (hR : RI r) : Met l yX4_of (wq yX4_of cX4_of 4 (some .int)) ({ frames := 1, cells := 0, slots := 0, locals := 24 }) (preB E [.ref (ag 0), .int pp, .int w] [[gObj ag ah az ak i0], hillsW E ah r, [(ag 4, .inl (E.2.1, 7, .inl (sg f 7)))]]) (qI E [[gObj ag ah az ak i0], hillsW E ah r, [(ag 4, .inl (E.2.1, 7, .inl (sg f 7)))]] [[gObj ag ah az ak i0], hillsW E ah (rowR r (rOf r pp w)), [(ag 4, .inl (E.2.1, 7, .inl (sg (fndC f (rOf r pp w)) 7)))]] (ansR (rOf r pp w))) 0 0 (inB [[gObj ag ah az ak i0], hillsW E ah r, [(ag 4, .inl (E.2.1, 7, .inl (sg f 7)))]]) := by
  refine M_mk RX4 (by decide) rfl (Nat.le_of_ble_eq_true rfl) ?_
  intro p e s m below meth c S hr hlk hK hP hD hS ls hl
  have hl : lv_has ls 4 [(0, .ref (ag 0)), (1, .int pp), (2, .int w)] := hl
  obtain ⟨n, d, hn, hn8, hd, hd5, ho, hso, hli, hsp, hpt⟩ := id hR
  obtain ⟨H, hH⟩ : ∃ zz9, zz9 = s.heap := ⟨_, rfl⟩
  obtain ⟨locs, hlocs⟩ : ∃ zz9 : List Loc, zz9 = [] := ⟨_, rfl⟩
  have hP : PE E [[gObj ag ah az ak i0], hillsW E ah r, [(ag 4, .inl (E.2.1, 7, .inl (sg f 7)))]] H := by rw [hH]; exact hP
  have hS : va_S (inB [[gObj ag ah az ak i0], hillsW E ah r, [(ag 4, .inl (E.2.1, 7, .inl (sg f 7)))]]) s.heap H locs := by rw [hH, hlocs]; exact hS
  show W p l e ({ frames := 1, cells := 0, slots := 0, locals := 24 }) s m ([.ref (ag 0), .int pp, .int w] : List Value).toArray below meth c s.heap [] 0 0 _ _
  suffices hgo : W p l e ({ frames := 1, cells := 0, slots := 0, locals := 24 }) s m ([.ref (ag 0), .int pp, .int w] : List Value).toArray below meth c H locs 0 0 (MQ below (qI E [[gObj ag ah az ak i0], hillsW E ah r, [(ag 4, .inl (E.2.1, 7, .inl (sg f 7)))]] [[gObj ag ah az ak i0], hillsW E ah (rowR r (rOf r pp w)), [(ag 4, .inl (E.2.1, 7, .inl (sg (fndC f (rOf r pp w)) 7)))]] (ansR (rOf r pp w))) ([.ref (ag 0), .int pp, .int w] : List Value).toArray s 0 0 (inB [[gObj ag ah az ak i0], hillsW E ah r, [(ag 4, .inl (E.2.1, 7, .inl (sg f 7)))]])) (F0 m 0 ls []) by rw [hH, hlocs] at hgo; exact hgo
  clear hH hlocs
  refine lv_aload_n S.1 S.2.1 dX4_of_0 rfl (lv_at hl 0 rfl) ?_
  refine lv_iload_n S.1 S.2.1 dX4_of_1 rfl (lv_at hl 1 rfl) ?_
  refine go_S (run_V (As := [.int pp]) (rest := []) (n := 1) S hK (bl_P hP [0, 1] rfl) (bl_D hD [0, 1] rfl rfl) (c_X4_isPotter l E ag ah az ak i0 r pp ) gV_X4_67 (by decide +kernel) rfl ⟨rfl, rfl⟩ ⟨Nat.le_of_ble_eq_true rfl, Nat.le_of_ble_eq_true rfl⟩ (ci := 4) (q0 := 0) rfl rfl hl.1 (Nat.le_of_ble_eq_true rfl) dX4_of_2 ⟨Nat.zero_le _, Nat.zero_le _⟩) ?_
  refine b_ifeq (tgt := 17) S.1 S.2.1 dX4_of_5 (by decide) (fun c_5 => ?_) (fun c_5 => ?_)
  · refine lv_aload_n S.1 S.2.1 dX4_of_17 rfl (lv_at hl 0 rfl) ?_
    refine lv_iconst (v := 0) S.1 S.2.1 dX4_of_18 (by decide) ?_
    refine go_I (run_V (As := [.int 0]) (rest := []) (n := 1) S hK (bl_P hP [0, 2] rfl) (bl_D hD [0, 2] rfl rfl) (c_X4_finding l E ag ah az ak i0 f 0 (by decide)) gV_X4_48 (by decide +kernel) rfl ⟨rfl, rfl⟩ ⟨Nat.le_of_ble_eq_true rfl, Nat.le_of_ble_eq_true rfl⟩ (ci := 4) (q0 := 0) rfl rfl hl.1 (Nat.le_of_ble_eq_true rfl) dX4_of_19 ⟨Nat.zero_le _, Nat.zero_le _⟩) hP hD hS [0, 2] rfl (had_cons rfl (had_cons cell_ad rfl)) (Bs' := [[gObj ag ah az ak i0], hillsW E ah r, [(ag 4, .inl (E.2.1, 7, .inl (sg (upd f 0 (f 0 + 1)) 7)))]]) rfl (fun H locs hP hD hS => ?_)
    obtain ⟨r_19, er_19⟩ : ∃ zz9 : Row, zz9 = upd f 0 (f 0 + 1) := ⟨_, rfl⟩
    rw [← er_19] at hP hD
    exact retI S hr hlk (by have e9 : rOf r pp w = .inl 0 := (by unfold rOf; rw [if_neg c_5]); rw [er_19] at hP; rw [e9, rowR_inl, fndC_inl]; exact hP) hS (by have e9 : rOf r pp w = .inl 0 := (by unfold rOf; rw [if_neg c_5]); rw [e9]; decide) dX4_of_22
  · obtain ⟨k_pp, hk_pp, ek_pp⟩ := pot_nat c_5 hn (by omega)
    refine lv_iload_n S.1 S.2.1 dX4_of_8 rfl (lv_at hl 2 rfl) ?_
    refine lv_bipush (v := 12) S.1 S.2.1 dX4_of_9 (by decide) ?_
    refine go_S (run_S (As := [.int w, .int 12]) (rest := []) (n := 2) S hK (bl_P hP [] rfl) (bl_D hD [] rfl rfl) (c_X4_isWithin l E w 12 ) gS_X4_44 (by decide +kernel) rfl ⟨rfl, rfl⟩ ⟨Nat.le_of_ble_eq_true rfl, Nat.le_of_ble_eq_true rfl⟩ hl.1 (Nat.le_of_ble_eq_true rfl) dX4_of_11 ⟨Nat.zero_le _, Nat.zero_le _⟩) ?_
    refine b_ifne (tgt := 23) S.1 S.2.1 dX4_of_14 (by decide) (fun c_14 => ?_) (fun c_14 => ?_)
    · obtain ⟨k_w, hk_w, ek_w⟩ := nI_of2 (n := 12) (by decide) (Int32.not_lt.mpr c_14.1) c_14.2
      refine lv_aload_n S.1 S.2.1 dX4_of_23 rfl (lv_at hl 0 rfl) ?_
      refine gf_X4_10 S hK hP 0 0 rfl rfl rfl dX4_of_24 ?_
      refine gf_X4_71 S hK hP 1 0 rfl rfl rfl dX4_of_27 ?_
      refine lv_iload_n S.1 S.2.1 dX4_of_30 rfl (lv_at hl 1 rfl) ?_
      refine lv_eqi (y := nI k_pp) ek_pp ?_
      refine b_aaldN (i := k_pp) S hK hP 2 1 2 rfl rfl rfl (by omega) (by decide) (v := ah (4 + k_pp)) rfl dX4_of_31 ?_
      refine lv_astore_n (lv' := [(3, .ref (ah (4 + k_pp))), (0, .ref (ag 0)), (1, .int pp), (2, .int w)]) S.1 S.2.1 dX4_of_32 rfl hl (by decide) rfl (fun ls hl => ?_)
      refine lv_iload_n S.1 S.2.1 dX4_of_33 rfl (lv_at hl 3 rfl) ?_
      refine lv_eqi (y := nI k_w) ek_w ?_
      by_cases k_34_7 : nI k_w = 7
      · refine lv_tableIn (tgt := 72) S.1 S.2.1 dX4_of_34 (by rw [k_34_7]; decide) (by rw [k_34_7]; decide) (by rw [k_34_7]; rfl) (by decide) ?_
        refine lv_aload_n S.1 S.2.1 dX4_of_72 rfl (lv_at hl 0 rfl) ?_
        refine lv_aload_n S.1 S.2.1 dX4_of_73 rfl (lv_at hl 1 rfl) ?_
        refine gf_X4_10 S hK hP 0 0 rfl rfl rfl dX4_of_74 ?_
        refine gf_X4_55 S hK hP 1 0 rfl rfl rfl dX4_of_77 ?_
        refine go_S (run_V (As := [.int (r 3)]) (rest := []) (n := 1) S hK (cell_P hP (b := 1) (j := (4 + k_pp)) rfl (hw_pot (by omega))) cell_D (c_X1_cries l E (ah (4 + k_pp)) (r (21 + 7 * k_pp)) (r (21 + 7 * k_pp + 1)) (r (21 + 7 * k_pp + 2)) (r (21 + 7 * k_pp + 3)) (r (21 + 7 * k_pp + 4)) (r (21 + 7 * k_pp + 5)) (r (21 + 7 * k_pp + 6)) (r 3)) gV_X4_75 (by decide +kernel) rfl ⟨rfl, rfl⟩ ⟨Nat.le_of_ble_eq_true rfl, Nat.le_of_ble_eq_true rfl⟩ (ci := 1) (q0 := 0) rfl rfl hl.1 (Nat.le_of_ble_eq_true rfl) dX4_of_80 ⟨Nat.zero_le _, Nat.zero_le _⟩) ?_
        exact retI S hr hlk (by have e9 : rOf r pp w = .inr (r, criesV (r (21 + 7 * k_pp)) (r (21 + 7 * k_pp + 1)) (r (21 + 7 * k_pp + 5)) (r 3)) := (by unfold rOf; rw [if_pos c_5, if_pos c_14, ek_pp, ek_w, tN_nI (k := k_pp) (by omega), tN_nI (k := k_w) (by omega)]; exact congrArg (fun z9 => (Sum.inr (r, z9) : Res)) (tm_7 (k := k_w) ((nI_eq (b := 7) (by omega) (by decide)).mp k_34_7))); rw [e9, rowR_inr, fndC_inr]; exact hP) hS (by have e9 : rOf r pp w = .inr (r, criesV (r (21 + 7 * k_pp)) (r (21 + 7 * k_pp + 1)) (r (21 + 7 * k_pp + 5)) (r 3)) := (by unfold rOf; rw [if_pos c_5, if_pos c_14, ek_pp, ek_w, tN_nI (k := k_pp) (by omega), tN_nI (k := k_w) (by omega)]; exact congrArg (fun z9 => (Sum.inr (r, z9) : Res)) (tm_7 (k := k_w) ((nI_eq (b := 7) (by omega) (by decide)).mp k_34_7))); rw [e9, ansR_inr]) dX4_of_83
      by_cases k_34_8 : nI k_w = 8
      · refine lv_tableIn (tgt := 84) S.1 S.2.1 dX4_of_34 (by rw [k_34_8]; decide) (by rw [k_34_8]; decide) (by rw [k_34_8]; rfl) (by decide) ?_
        refine lv_aload_n S.1 S.2.1 dX4_of_84 rfl (lv_at hl 0 rfl) ?_
        refine lv_aload_n S.1 S.2.1 dX4_of_85 rfl (lv_at hl 1 rfl) ?_
        refine gf_X4_10 S hK hP 0 0 rfl rfl rfl dX4_of_86 ?_
        refine go_S (run_V (As := []) (rest := [.ref (ah (4 + k_pp))]) (n := 0) S hK (bl_P hP [1] rfl) (bl_D hD [1] rfl rfl) (c_X0_weatherOfDay l E ah r d hd hd5) gV_X4_80 (by decide +kernel) rfl ⟨rfl, rfl⟩ ⟨Nat.le_of_ble_eq_true rfl, Nat.le_of_ble_eq_true rfl⟩ (ci := 0) (q0 := 0) rfl rfl hl.1 (Nat.le_of_ble_eq_true rfl) dX4_of_89 ⟨Nat.zero_le _, Nat.zero_le _⟩) ?_
        refine go_S (run_V (As := [.int (wthr r)]) (rest := []) (n := 1) S hK (cell_P hP (b := 1) (j := (4 + k_pp)) rfl (hw_pot (by omega))) cell_D (c_X1_weathers l E (ah (4 + k_pp)) (r (21 + 7 * k_pp)) (r (21 + 7 * k_pp + 1)) (r (21 + 7 * k_pp + 2)) (r (21 + 7 * k_pp + 3)) (r (21 + 7 * k_pp + 4)) (r (21 + 7 * k_pp + 5)) (r (21 + 7 * k_pp + 6)) (wthr r)) gV_X4_84 (by decide +kernel) rfl ⟨rfl, rfl⟩ ⟨Nat.le_of_ble_eq_true rfl, Nat.le_of_ble_eq_true rfl⟩ (ci := 1) (q0 := 0) rfl rfl hl.1 (Nat.le_of_ble_eq_true rfl) dX4_of_92 ⟨Nat.zero_le _, Nat.zero_le _⟩) ?_
        exact retI S hr hlk (by have e9 : rOf r pp w = .inr (r, weathersV (r (21 + 7 * k_pp)) (r (21 + 7 * k_pp + 2)) (wthr r)) := (by unfold rOf; rw [if_pos c_5, if_pos c_14, ek_pp, ek_w, tN_nI (k := k_pp) (by omega), tN_nI (k := k_w) (by omega)]; exact congrArg (fun z9 => (Sum.inr (r, z9) : Res)) (tm_8 (k := k_w) ((nI_eq (b := 8) (by omega) (by decide)).mp k_34_8))); rw [e9, rowR_inr, fndC_inr]; exact hP) hS (by have e9 : rOf r pp w = .inr (r, weathersV (r (21 + 7 * k_pp)) (r (21 + 7 * k_pp + 2)) (wthr r)) := (by unfold rOf; rw [if_pos c_5, if_pos c_14, ek_pp, ek_w, tN_nI (k := k_pp) (by omega), tN_nI (k := k_w) (by omega)]; exact congrArg (fun z9 => (Sum.inr (r, z9) : Res)) (tm_8 (k := k_w) ((nI_eq (b := 8) (by omega) (by decide)).mp k_34_8))); rw [e9, ansR_inr]) dX4_of_95
      by_cases k_34_9 : nI k_w = 9
      · refine lv_tableIn (tgt := 96) S.1 S.2.1 dX4_of_34 (by rw [k_34_9]; decide) (by rw [k_34_9]; decide) (by rw [k_34_9]; rfl) (by decide) ?_
        refine lv_aload_n S.1 S.2.1 dX4_of_96 rfl (lv_at hl 0 rfl) ?_
        refine go_S (run_V (As := []) (rest := []) (n := 0) S hK (cell_P hP (b := 1) (j := (4 + k_pp)) rfl (hw_pot (by omega))) cell_D (c_X1_needs l E (ah (4 + k_pp)) (r (21 + 7 * k_pp)) (r (21 + 7 * k_pp + 1)) (r (21 + 7 * k_pp + 2)) (r (21 + 7 * k_pp + 3)) (r (21 + 7 * k_pp + 4)) (r (21 + 7 * k_pp + 5)) (r (21 + 7 * k_pp + 6))) gV_X4_87 (by decide +kernel) rfl ⟨rfl, rfl⟩ ⟨Nat.le_of_ble_eq_true rfl, Nat.le_of_ble_eq_true rfl⟩ (ci := 1) (q0 := 0) rfl rfl hl.1 (Nat.le_of_ble_eq_true rfl) dX4_of_97 ⟨Nat.zero_le _, Nat.zero_le _⟩) ?_
        exact retI S hr hlk (by have e9 : rOf r pp w = .inr (r, needsV (r (21 + 7 * k_pp))) := (by unfold rOf; rw [if_pos c_5, if_pos c_14, ek_pp, ek_w, tN_nI (k := k_pp) (by omega), tN_nI (k := k_w) (by omega)]; exact congrArg (fun z9 => (Sum.inr (r, z9) : Res)) (tm_9 (k := k_w) ((nI_eq (b := 9) (by omega) (by decide)).mp k_34_9))); rw [e9, rowR_inr, fndC_inr]; exact hP) hS (by have e9 : rOf r pp w = .inr (r, needsV (r (21 + 7 * k_pp))) := (by unfold rOf; rw [if_pos c_5, if_pos c_14, ek_pp, ek_w, tN_nI (k := k_pp) (by omega), tN_nI (k := k_w) (by omega)]; exact congrArg (fun z9 => (Sum.inr (r, z9) : Res)) (tm_9 (k := k_w) ((nI_eq (b := 9) (by omega) (by decide)).mp k_34_9))); rw [e9, ansR_inr]) dX4_of_100
      by_cases k_34_10 : nI k_w = 10
      · refine lv_tableIn (tgt := 101) S.1 S.2.1 dX4_of_34 (by rw [k_34_10]; decide) (by rw [k_34_10]; decide) (by rw [k_34_10]; rfl) (by decide) ?_
        refine lv_aload_n S.1 S.2.1 dX4_of_101 rfl (lv_at hl 0 rfl) ?_
        refine go_S (run_V (As := []) (rest := []) (n := 0) S hK (cell_P hP (b := 1) (j := (4 + k_pp)) rfl (hw_pot (by omega))) cell_D (c_X1_tint l E (ah (4 + k_pp)) (r (21 + 7 * k_pp)) (r (21 + 7 * k_pp + 1)) (r (21 + 7 * k_pp + 2)) (r (21 + 7 * k_pp + 3)) (r (21 + 7 * k_pp + 4)) (r (21 + 7 * k_pp + 5)) (r (21 + 7 * k_pp + 6))) gV_X4_90 (by decide +kernel) rfl ⟨rfl, rfl⟩ ⟨Nat.le_of_ble_eq_true rfl, Nat.le_of_ble_eq_true rfl⟩ (ci := 1) (q0 := 0) rfl rfl hl.1 (Nat.le_of_ble_eq_true rfl) dX4_of_102 ⟨Nat.zero_le _, Nat.zero_le _⟩) ?_
        exact retI S hr hlk (by have e9 : rOf r pp w = .inr (r, tintV (r (21 + 7 * k_pp)) (r (21 + 7 * k_pp + 1)) (r (21 + 7 * k_pp + 3))) := (by unfold rOf; rw [if_pos c_5, if_pos c_14, ek_pp, ek_w, tN_nI (k := k_pp) (by omega), tN_nI (k := k_w) (by omega)]; exact congrArg (fun z9 => (Sum.inr (r, z9) : Res)) (tm_10 (k := k_w) ((nI_eq (b := 10) (by omega) (by decide)).mp k_34_10))); rw [e9, rowR_inr, fndC_inr]; exact hP) hS (by have e9 : rOf r pp w = .inr (r, tintV (r (21 + 7 * k_pp)) (r (21 + 7 * k_pp + 1)) (r (21 + 7 * k_pp + 3))) := (by unfold rOf; rw [if_pos c_5, if_pos c_14, ek_pp, ek_w, tN_nI (k := k_pp) (by omega), tN_nI (k := k_w) (by omega)]; exact congrArg (fun z9 => (Sum.inr (r, z9) : Res)) (tm_10 (k := k_w) ((nI_eq (b := 10) (by omega) (by decide)).mp k_34_10))); rw [e9, ansR_inr]) dX4_of_105
      by_cases k_34_11 : nI k_w = 11
      · refine lv_tableIn (tgt := 106) S.1 S.2.1 dX4_of_34 (by rw [k_34_11]; decide) (by rw [k_34_11]; decide) (by rw [k_34_11]; rfl) (by decide) ?_
        refine lv_aload_n S.1 S.2.1 dX4_of_106 rfl (lv_at hl 0 rfl) ?_
        refine go_S (run_V (As := []) (rest := []) (n := 0) S hK (cell_P hP (b := 1) (j := (4 + k_pp)) rfl (hw_pot (by omega))) cell_D (c_X1_fetches l E (ah (4 + k_pp)) (r (21 + 7 * k_pp)) (r (21 + 7 * k_pp + 1)) (r (21 + 7 * k_pp + 2)) (r (21 + 7 * k_pp + 3)) (r (21 + 7 * k_pp + 4)) (r (21 + 7 * k_pp + 5)) (r (21 + 7 * k_pp + 6))) gV_X4_93 (by decide +kernel) rfl ⟨rfl, rfl⟩ ⟨Nat.le_of_ble_eq_true rfl, Nat.le_of_ble_eq_true rfl⟩ (ci := 1) (q0 := 0) rfl rfl hl.1 (Nat.le_of_ble_eq_true rfl) dX4_of_107 ⟨Nat.zero_le _, Nat.zero_le _⟩) ?_
        exact retI S hr hlk (by have e9 : rOf r pp w = .inr (r, fetchesV (r (21 + 7 * k_pp)) (r (21 + 7 * k_pp + 4))) := (by unfold rOf; rw [if_pos c_5, if_pos c_14, ek_pp, ek_w, tN_nI (k := k_pp) (by omega), tN_nI (k := k_w) (by omega)]; exact congrArg (fun z9 => (Sum.inr (r, z9) : Res)) (tm_11 (k := k_w) ((nI_eq (b := 11) (by omega) (by decide)).mp k_34_11))); rw [e9, rowR_inr, fndC_inr]; exact hP) hS (by have e9 : rOf r pp w = .inr (r, fetchesV (r (21 + 7 * k_pp)) (r (21 + 7 * k_pp + 4))) := (by unfold rOf; rw [if_pos c_5, if_pos c_14, ek_pp, ek_w, tN_nI (k := k_pp) (by omega), tN_nI (k := k_w) (by omega)]; exact congrArg (fun z9 => (Sum.inr (r, z9) : Res)) (tm_11 (k := k_w) ((nI_eq (b := 11) (by omega) (by decide)).mp k_34_11))); rw [e9, ansR_inr]) dX4_of_110
      by_cases k_34_12 : nI k_w = 12
      · refine lv_tableIn (tgt := 111) S.1 S.2.1 dX4_of_34 (by rw [k_34_12]; decide) (by rw [k_34_12]; decide) (by rw [k_34_12]; rfl) (by decide) ?_
        refine lv_aload_n S.1 S.2.1 dX4_of_111 rfl (lv_at hl 0 rfl) ?_
        refine go_S (run_V (As := []) (rest := []) (n := 0) S hK (cell_P hP (b := 1) (j := (4 + k_pp)) rfl (hw_pot (by omega))) cell_D (c_X1_heals l E (ah (4 + k_pp)) (r (21 + 7 * k_pp)) (r (21 + 7 * k_pp + 1)) (r (21 + 7 * k_pp + 2)) (r (21 + 7 * k_pp + 3)) (r (21 + 7 * k_pp + 4)) (r (21 + 7 * k_pp + 5)) (r (21 + 7 * k_pp + 6))) gV_X4_96 (by decide +kernel) rfl ⟨rfl, rfl⟩ ⟨Nat.le_of_ble_eq_true rfl, Nat.le_of_ble_eq_true rfl⟩ (ci := 1) (q0 := 0) rfl rfl hl.1 (Nat.le_of_ble_eq_true rfl) dX4_of_112 ⟨Nat.zero_le _, Nat.zero_le _⟩) ?_
        exact retI S hr hlk (by have e9 : rOf r pp w = .inr (r, healsV (r (21 + 7 * k_pp))) := (by unfold rOf; rw [if_pos c_5, if_pos c_14, ek_pp, ek_w, tN_nI (k := k_pp) (by omega), tN_nI (k := k_w) (by omega)]; exact congrArg (fun z9 => (Sum.inr (r, z9) : Res)) (tm_12 (k := k_w) ((nI_eq (b := 12) (by omega) (by decide)).mp k_34_12))); rw [e9, rowR_inr, fndC_inr]; exact hP) hS (by have e9 : rOf r pp w = .inr (r, healsV (r (21 + 7 * k_pp))) := (by unfold rOf; rw [if_pos c_5, if_pos c_14, ek_pp, ek_w, tN_nI (k := k_pp) (by omega), tN_nI (k := k_w) (by omega)]; exact congrArg (fun z9 => (Sum.inr (r, z9) : Res)) (tm_12 (k := k_w) ((nI_eq (b := 12) (by omega) (by decide)).mp k_34_12))); rw [e9, ansR_inr]) dX4_of_115
      have t_34_7 := ne_toInt (n := 7) (by decide) k_34_7
      have t_34_8 := ne_toInt (n := 8) (by decide) k_34_8
      have t_34_9 := ne_toInt (n := 9) (by decide) k_34_9
      have t_34_10 := ne_toInt (n := 10) (by decide) k_34_10
      have t_34_11 := ne_toInt (n := 11) (by decide) k_34_11
      have t_34_12 := ne_toInt (n := 12) (by decide) k_34_12
      refine lv_tableOut (tgt := 116) S.1 S.2.1 dX4_of_34 (by omega) (by decide) ?_
      have hk7 : k_w < 7 := Nat.lt_of_not_le (fun z9 => by rcases (show k_w = 7 ∨ k_w = 8 ∨ k_w = 9 ∨ k_w = 10 ∨ k_w = 11 ∨ k_w = 12 by omega) with y9 | y9 | y9 | y9 | y9 | y9 <;> subst y9 <;> contradiction)
      refine lv_aload_n S.1 S.2.1 dX4_of_116 rfl (lv_at hl 0 rfl) ?_
      refine lv_iload_n S.1 S.2.1 dX4_of_117 rfl (lv_at hl 3 rfl) ?_
      refine lv_eqi (y := nI k_w) ek_w ?_
      refine go_S (run_V (As := [.int (nI k_w)]) (rest := []) (n := 1) S hK (cell_P hP (b := 1) (j := (4 + k_pp)) rfl (hw_pot (by omega))) cell_D (c_X1_told l E (ah (4 + k_pp)) (r (21 + 7 * k_pp)) (r (21 + 7 * k_pp + 1)) (r (21 + 7 * k_pp + 2)) (r (21 + 7 * k_pp + 3)) (r (21 + 7 * k_pp + 4)) (r (21 + 7 * k_pp + 5)) (r (21 + 7 * k_pp + 6)) (nI k_w)) gV_X4_99 (by decide +kernel) rfl ⟨rfl, rfl⟩ ⟨Nat.le_of_ble_eq_true rfl, Nat.le_of_ble_eq_true rfl⟩ (ci := 1) (q0 := 0) rfl rfl hl.1 (Nat.le_of_ble_eq_true rfl) dX4_of_118 ⟨Nat.zero_le _, Nat.zero_le _⟩) ?_
      exact retI S hr hlk (by have e9 : rOf r pp w = .inr (r, toldV (r (21 + 7 * k_pp)) (r (21 + 7 * k_pp + 1)) (r (21 + 7 * k_pp + 2)) (r (21 + 7 * k_pp + 3)) (r (21 + 7 * k_pp + 4)) (r (21 + 7 * k_pp + 5)) (r (21 + 7 * k_pp + 6)) (nI k_w)) := (by unfold rOf; rw [if_pos c_5, if_pos c_14, ek_pp, ek_w, tN_nI (k := k_pp) (by omega), tN_nI (k := k_w) (by omega)]; exact congrArg (fun z9 => (Sum.inr (r, z9) : Res)) (tm_d (k := k_w) hk7)); rw [e9, rowR_inr, fndC_inr]; exact hP) hS (by have e9 : rOf r pp w = .inr (r, toldV (r (21 + 7 * k_pp)) (r (21 + 7 * k_pp + 1)) (r (21 + 7 * k_pp + 2)) (r (21 + 7 * k_pp + 3)) (r (21 + 7 * k_pp + 4)) (r (21 + 7 * k_pp + 5)) (r (21 + 7 * k_pp + 6)) (nI k_w)) := (by unfold rOf; rw [if_pos c_5, if_pos c_14, ek_pp, ek_w, tN_nI (k := k_pp) (by omega), tN_nI (k := k_w) (by omega)]; exact congrArg (fun z9 => (Sum.inr (r, z9) : Res)) (tm_d (k := k_w) hk7)); rw [e9, ansR_inr]) dX4_of_121
    · refine lv_aload_n S.1 S.2.1 dX4_of_17 rfl (lv_at hl 0 rfl) ?_
      refine lv_iconst (v := 0) S.1 S.2.1 dX4_of_18 (by decide) ?_
      refine go_I (run_V (As := [.int 0]) (rest := []) (n := 1) S hK (bl_P hP [0, 2] rfl) (bl_D hD [0, 2] rfl rfl) (c_X4_finding l E ag ah az ak i0 f 0 (by decide)) gV_X4_48 (by decide +kernel) rfl ⟨rfl, rfl⟩ ⟨Nat.le_of_ble_eq_true rfl, Nat.le_of_ble_eq_true rfl⟩ (ci := 4) (q0 := 0) rfl rfl hl.1 (Nat.le_of_ble_eq_true rfl) dX4_of_19 ⟨Nat.zero_le _, Nat.zero_le _⟩) hP hD hS [0, 2] rfl (had_cons rfl (had_cons cell_ad rfl)) (Bs' := [[gObj ag ah az ak i0], hillsW E ah r, [(ag 4, .inl (E.2.1, 7, .inl (sg (upd f 0 (f 0 + 1)) 7)))]]) rfl (fun H locs hP hD hS => ?_)
      obtain ⟨r_19_1, er_19_1⟩ : ∃ zz9 : Row, zz9 = upd f 0 (f 0 + 1) := ⟨_, rfl⟩
      rw [← er_19_1] at hP hD
      exact retI S hr hlk (by have e9 : rOf r pp w = .inl 0 := (by unfold rOf; rw [if_pos c_5, if_neg c_14]); rw [er_19_1] at hP; rw [e9, rowR_inl, fndC_inl]; exact hP) hS (by have e9 : rOf r pp w = .inl 0 := (by unfold rOf; rw [if_pos c_5, if_neg c_14]); rw [e9]; decide) dX4_of_22
set_option maxHeartbeats 800000 in
set_option maxRecDepth 100000 in
theorem c_X4_change (l : Launch) (E : EV) (ag ah az ak : Nat → Nat) (i0 : Int32) (r f : Row) (pp w v : Int32) (hR : RI r) : Met l yX4_change (wq yX4_change cX4_change 6 (some .int)) ({ frames := 1, cells := 0, slots := 0, locals := 22 }) (preB E [.ref (ag 0), .int pp, .int w, .int v] [[gObj ag ah az ak i0], hillsW E ah r, [(ag 4, .inl (E.2.1, 7, .inl (sg f 7)))]]) (qI E [[gObj ag ah az ak i0], hillsW E ah r, [(ag 4, .inl (E.2.1, 7, .inl (sg f 7)))]] [[gObj ag ah az ak i0], hillsW E ah (rowR r (rChange r pp w v)), [(ag 4, .inl (E.2.1, 7, .inl (sg (fndC f (rChange r pp w v)) 7)))]] (ansR (rChange r pp w v))) 0 0 (inB [[gObj ag ah az ak i0], hillsW E ah r, [(ag 4, .inl (E.2.1, 7, .inl (sg f 7)))]]) := by
  refine M_mk RX4 (by decide) rfl (Nat.le_of_ble_eq_true rfl) ?_
  intro p e s m below meth c S hr hlk hK hP hD hS ls hl
  have hl : lv_has ls 6 [(0, .ref (ag 0)), (1, .int pp), (2, .int w), (3, .int v)] := hl
  obtain ⟨n, d, hn, hn8, hd, hd5, ho, hso, hli, hsp, hpt⟩ := id hR
  obtain ⟨H, hH⟩ : ∃ zz9, zz9 = s.heap := ⟨_, rfl⟩
  obtain ⟨locs, hlocs⟩ : ∃ zz9 : List Loc, zz9 = [] := ⟨_, rfl⟩
  have hP : PE E [[gObj ag ah az ak i0], hillsW E ah r, [(ag 4, .inl (E.2.1, 7, .inl (sg f 7)))]] H := by rw [hH]; exact hP
  have hS : va_S (inB [[gObj ag ah az ak i0], hillsW E ah r, [(ag 4, .inl (E.2.1, 7, .inl (sg f 7)))]]) s.heap H locs := by rw [hH, hlocs]; exact hS
  show W p l e ({ frames := 1, cells := 0, slots := 0, locals := 22 }) s m ([.ref (ag 0), .int pp, .int w, .int v] : List Value).toArray below meth c s.heap [] 0 0 _ _
  suffices hgo : W p l e ({ frames := 1, cells := 0, slots := 0, locals := 22 }) s m ([.ref (ag 0), .int pp, .int w, .int v] : List Value).toArray below meth c H locs 0 0 (MQ below (qI E [[gObj ag ah az ak i0], hillsW E ah r, [(ag 4, .inl (E.2.1, 7, .inl (sg f 7)))]] [[gObj ag ah az ak i0], hillsW E ah (rowR r (rChange r pp w v)), [(ag 4, .inl (E.2.1, 7, .inl (sg (fndC f (rChange r pp w v)) 7)))]] (ansR (rChange r pp w v))) ([.ref (ag 0), .int pp, .int w, .int v] : List Value).toArray s 0 0 (inB [[gObj ag ah az ak i0], hillsW E ah r, [(ag 4, .inl (E.2.1, 7, .inl (sg f 7)))]])) (F0 m 0 ls []) by rw [hH, hlocs] at hgo; exact hgo
  clear hH hlocs
  refine lv_aload_n S.1 S.2.1 dX4_change_0 rfl (lv_at hl 0 rfl) ?_
  refine lv_iload_n S.1 S.2.1 dX4_change_1 rfl (lv_at hl 1 rfl) ?_
  refine go_S (run_V (As := [.int pp]) (rest := []) (n := 1) S hK (bl_P hP [0, 1] rfl) (bl_D hD [0, 1] rfl rfl) (c_X4_isPotter l E ag ah az ak i0 r pp ) gV_X4_67 (by decide +kernel) rfl ⟨rfl, rfl⟩ ⟨Nat.le_of_ble_eq_true rfl, Nat.le_of_ble_eq_true rfl⟩ (ci := 4) (q0 := 0) rfl rfl hl.1 (Nat.le_of_ble_eq_true rfl) dX4_change_2 ⟨Nat.zero_le _, Nat.zero_le _⟩) ?_
  refine b_ifeq (tgt := 28) S.1 S.2.1 dX4_change_5 (by decide) (fun c_5 => ?_) (fun c_5 => ?_)
  · refine lv_aload_n S.1 S.2.1 dX4_change_28 rfl (lv_at hl 0 rfl) ?_
    refine lv_iconst (v := 0) S.1 S.2.1 dX4_change_29 (by decide) ?_
    refine go_I (run_V (As := [.int 0]) (rest := []) (n := 1) S hK (bl_P hP [0, 2] rfl) (bl_D hD [0, 2] rfl rfl) (c_X4_finding l E ag ah az ak i0 f 0 (by decide)) gV_X4_48 (by decide +kernel) rfl ⟨rfl, rfl⟩ ⟨Nat.le_of_ble_eq_true rfl, Nat.le_of_ble_eq_true rfl⟩ (ci := 4) (q0 := 0) rfl rfl hl.1 (Nat.le_of_ble_eq_true rfl) dX4_change_30 ⟨Nat.zero_le _, Nat.zero_le _⟩) hP hD hS [0, 2] rfl (had_cons rfl (had_cons cell_ad rfl)) (Bs' := [[gObj ag ah az ak i0], hillsW E ah r, [(ag 4, .inl (E.2.1, 7, .inl (sg (upd f 0 (f 0 + 1)) 7)))]]) rfl (fun H locs hP hD hS => ?_)
    obtain ⟨r_30, er_30⟩ : ∃ zz9 : Row, zz9 = upd f 0 (f 0 + 1) := ⟨_, rfl⟩
    rw [← er_30] at hP hD
    exact retI S hr hlk (by have e9 : rChange r pp w v = .inl 0 := (by unfold rChange; rw [if_neg c_5]); rw [er_30] at hP; rw [e9, rowR_inl, fndC_inl]; exact hP) hS (by have e9 : rChange r pp w v = .inl 0 := (by unfold rChange; rw [if_neg c_5]); rw [e9]; decide) dX4_change_33
  · obtain ⟨k_pp, hk_pp, ek_pp⟩ := pot_nat c_5 hn (by omega)
    refine lv_iload_n S.1 S.2.1 dX4_change_8 rfl (lv_at hl 2 rfl) ?_
    refine lv_bipush (v := 6) S.1 S.2.1 dX4_change_9 (by decide) ?_
    refine go_S (run_S (As := [.int w, .int 6]) (rest := []) (n := 2) S hK (bl_P hP [] rfl) (bl_D hD [] rfl rfl) (c_X4_isWithin l E w 6 ) gS_X4_44 (by decide +kernel) rfl ⟨rfl, rfl⟩ ⟨Nat.le_of_ble_eq_true rfl, Nat.le_of_ble_eq_true rfl⟩ hl.1 (Nat.le_of_ble_eq_true rfl) dX4_change_11 ⟨Nat.zero_le _, Nat.zero_le _⟩) ?_
    refine b_ifeq (tgt := 28) S.1 S.2.1 dX4_change_14 (by decide) (fun c_14 => ?_) (fun c_14 => ?_)
    · refine lv_aload_n S.1 S.2.1 dX4_change_28 rfl (lv_at hl 0 rfl) ?_
      refine lv_iconst (v := 0) S.1 S.2.1 dX4_change_29 (by decide) ?_
      refine go_I (run_V (As := [.int 0]) (rest := []) (n := 1) S hK (bl_P hP [0, 2] rfl) (bl_D hD [0, 2] rfl rfl) (c_X4_finding l E ag ah az ak i0 f 0 (by decide)) gV_X4_48 (by decide +kernel) rfl ⟨rfl, rfl⟩ ⟨Nat.le_of_ble_eq_true rfl, Nat.le_of_ble_eq_true rfl⟩ (ci := 4) (q0 := 0) rfl rfl hl.1 (Nat.le_of_ble_eq_true rfl) dX4_change_30 ⟨Nat.zero_le _, Nat.zero_le _⟩) hP hD hS [0, 2] rfl (had_cons rfl (had_cons cell_ad rfl)) (Bs' := [[gObj ag ah az ak i0], hillsW E ah r, [(ag 4, .inl (E.2.1, 7, .inl (sg (upd f 0 (f 0 + 1)) 7)))]]) rfl (fun H locs hP hD hS => ?_)
      obtain ⟨r_30_1, er_30_1⟩ : ∃ zz9 : Row, zz9 = upd f 0 (f 0 + 1) := ⟨_, rfl⟩
      rw [← er_30_1] at hP hD
      exact retI S hr hlk (by have e9 : rChange r pp w v = .inl 0 := (by unfold rChange; rw [if_pos c_5, if_pos (fld_no1 c_14)]); rw [er_30_1] at hP; rw [e9, rowR_inl, fndC_inl]; exact hP) hS (by have e9 : rChange r pp w v = .inl 0 := (by unfold rChange; rw [if_pos c_5, if_pos (fld_no1 c_14)]); rw [e9]; decide) dX4_change_33
    · obtain ⟨k_w, hk_w, ek_w⟩ := nI_of2 (n := 6) (by decide) (Int32.not_lt.mpr c_14.1) c_14.2
      refine lv_iload_n S.1 S.2.1 dX4_change_17 rfl (lv_at hl 3 rfl) ?_
      refine lv_iload_n S.1 S.2.1 dX4_change_18 rfl (lv_at hl 2 rfl) ?_
      refine lv_eqi (y := nI k_w) ek_w ?_
      refine go_S (run_S (As := [.int (nI k_w)]) (rest := [.int v]) (n := 1) S hK (bl_P hP [] rfl) (bl_D hD [] rfl rfl) (c_X4_mostOf l E (nI k_w) ) gS_X4_102 (by decide +kernel) rfl ⟨rfl, rfl⟩ ⟨Nat.le_of_ble_eq_true rfl, Nat.le_of_ble_eq_true rfl⟩ hl.1 (Nat.le_of_ble_eq_true rfl) dX4_change_19 ⟨Nat.zero_le _, Nat.zero_le _⟩) ?_
      refine go_S (run_S (As := [.int v, .int (mostV (nI k_w))]) (rest := []) (n := 2) S hK (bl_P hP [] rfl) (bl_D hD [] rfl rfl) (c_X4_isWithin l E v (mostV (nI k_w)) ) gS_X4_44 (by decide +kernel) rfl ⟨rfl, rfl⟩ ⟨Nat.le_of_ble_eq_true rfl, Nat.le_of_ble_eq_true rfl⟩ hl.1 (Nat.le_of_ble_eq_true rfl) dX4_change_22 ⟨Nat.zero_le _, Nat.zero_le _⟩) ?_
      refine b_ifne (tgt := 34) S.1 S.2.1 dX4_change_25 (by decide) (fun c_25 => ?_) (fun c_25 => ?_)
      · refine lv_aload_n S.1 S.2.1 dX4_change_34 rfl (lv_at hl 0 rfl) ?_
        refine gf_X4_10 S hK hP 0 0 rfl rfl rfl dX4_change_35 ?_
        refine gf_X4_71 S hK hP 1 0 rfl rfl rfl dX4_change_38 ?_
        refine lv_iload_n S.1 S.2.1 dX4_change_41 rfl (lv_at hl 1 rfl) ?_
        refine lv_eqi (y := nI k_pp) ek_pp ?_
        refine b_aaldN (i := k_pp) S hK hP 2 1 2 rfl rfl rfl (by omega) (by decide) (v := ah (4 + k_pp)) rfl dX4_change_42 ?_
        refine lv_astore (lv' := [(4, .ref (ah (4 + k_pp))), (0, .ref (ag 0)), (1, .int pp), (2, .int w), (3, .int v)]) S.1 S.2.1 dX4_change_43 hl (by decide) rfl (fun ls hl => ?_)
        refine lv_aload S.1 S.2.1 dX4_change_45 (lv_at hl 0 rfl) ?_
        refine lv_iload_n S.1 S.2.1 dX4_change_47 rfl (lv_at hl 3 rfl) ?_
        refine lv_eqi (y := nI k_w) ek_w ?_
        refine go_S (run_V (As := [.int (nI k_w)]) (rest := []) (n := 1) S hK (cell_P hP (b := 1) (j := (4 + k_pp)) rfl (hw_pot (by omega))) cell_D (c_X1_told l E (ah (4 + k_pp)) (r (21 + 7 * k_pp)) (r (21 + 7 * k_pp + 1)) (r (21 + 7 * k_pp + 2)) (r (21 + 7 * k_pp + 3)) (r (21 + 7 * k_pp + 4)) (r (21 + 7 * k_pp + 5)) (r (21 + 7 * k_pp + 6)) (nI k_w)) gV_X4_99 (by decide +kernel) rfl ⟨rfl, rfl⟩ ⟨Nat.le_of_ble_eq_true rfl, Nat.le_of_ble_eq_true rfl⟩ (ci := 1) (q0 := 0) rfl rfl hl.1 (Nat.le_of_ble_eq_true rfl) dX4_change_48 ⟨Nat.zero_le _, Nat.zero_le _⟩) ?_
        refine lv_istore (lv' := [(5, .int (toldV (r (21 + 7 * k_pp)) (r (21 + 7 * k_pp + 1)) (r (21 + 7 * k_pp + 2)) (r (21 + 7 * k_pp + 3)) (r (21 + 7 * k_pp + 4)) (r (21 + 7 * k_pp + 5)) (r (21 + 7 * k_pp + 6)) (nI k_w))), (4, .ref (ah (4 + k_pp))), (0, .ref (ag 0)), (1, .int pp), (2, .int w), (3, .int v)]) S.1 S.2.1 dX4_change_51 hl (by decide) rfl (fun ls hl => ?_)
        refine lv_aload S.1 S.2.1 dX4_change_53 (lv_at hl 1 rfl) ?_
        refine lv_iload_n S.1 S.2.1 dX4_change_55 rfl (lv_at hl 4 rfl) ?_
        refine lv_eqi (y := nI k_w) ek_w ?_
        refine lv_iload_n S.1 S.2.1 dX4_change_56 rfl (lv_at hl 5 rfl) ?_
        refine go_Vc (run_V (As := [.int (nI k_w), .int v]) (rest := []) (n := 2) S hK (cell_P hP (b := 1) (j := (4 + k_pp)) rfl (hw_pot (by omega))) cell_D (c_X1_put l E (ah (4 + k_pp)) (r (21 + 7 * k_pp)) (r (21 + 7 * k_pp + 1)) (r (21 + 7 * k_pp + 2)) (r (21 + 7 * k_pp + 3)) (r (21 + 7 * k_pp + 4)) (r (21 + 7 * k_pp + 5)) (r (21 + 7 * k_pp + 6)) (nI k_w) v) gV_X4_105 (by decide +kernel) rfl ⟨rfl, rfl⟩ ⟨Nat.le_of_ble_eq_true rfl, Nat.le_of_ble_eq_true rfl⟩ (ci := 1) (q0 := 0) rfl rfl hl.1 (Nat.le_of_ble_eq_true rfl) dX4_change_57 ⟨Nat.zero_le _, Nat.zero_le _⟩) hP hD hS (b := 1) (j := (4 + k_pp)) rfl (hw_pot (by omega)) (hs_all (vs := pvs r k_pp (nI k_w) v) (by omega)) (Bs' := [[gObj ag ah az ak i0], hillsW E ah (putP r k_pp (pvs r k_pp (nI k_w) v)), [(ag 4, .inl (E.2.1, 7, .inl (sg f 7)))]]) rfl (fun H locs hP hD hS => ?_)
        rw [pvs_eq (k := k_w) (by omega)] at hP hD
        obtain ⟨r_57, er_57⟩ : ∃ zz9 : Row, zz9 = upd r (21 + 7 * k_pp + k_w) v := ⟨_, rfl⟩
        rw [← er_57] at hP hD
        have hr_57_1 : r_57 1 = nI n := by rw [er_57]; exact (upd_ne (by omega)).trans hn
        have hr_57_0 : r_57 0 = nI d := by rw [er_57]; exact (upd_ne (by omega)).trans hd
        refine lv_iload S.1 S.2.1 dX4_change_60 (lv_at hl 0 rfl) ?_
        exact retI S hr hlk (by have e9 : rChange r pp w v = .inr (r_57, toldV (r (21 + 7 * k_pp)) (r (21 + 7 * k_pp + 1)) (r (21 + 7 * k_pp + 2)) (r (21 + 7 * k_pp + 3)) (r (21 + 7 * k_pp + 4)) (r (21 + 7 * k_pp + 5)) (r (21 + 7 * k_pp + 6)) (nI k_w)) := (by unfold rChange; rw [if_pos c_5, if_neg (by rw [ek_w]; exact fld_yes hk_w c_25), ek_pp, ek_w, tN_nI (k := k_pp) (by omega), tN_nI (k := k_w) (by omega), told_eq (k := k_w) (by omega), er_57]); rw [e9, rowR_inr, fndC_inr]; exact hP) hS (by have e9 : rChange r pp w v = .inr (r_57, toldV (r (21 + 7 * k_pp)) (r (21 + 7 * k_pp + 1)) (r (21 + 7 * k_pp + 2)) (r (21 + 7 * k_pp + 3)) (r (21 + 7 * k_pp + 4)) (r (21 + 7 * k_pp + 5)) (r (21 + 7 * k_pp + 6)) (nI k_w)) := (by unfold rChange; rw [if_pos c_5, if_neg (by rw [ek_w]; exact fld_yes hk_w c_25), ek_pp, ek_w, tN_nI (k := k_pp) (by omega), tN_nI (k := k_w) (by omega), told_eq (k := k_w) (by omega), er_57]); rw [e9, ansR_inr]) dX4_change_62
      · refine lv_aload_n S.1 S.2.1 dX4_change_28 rfl (lv_at hl 0 rfl) ?_
        refine lv_iconst (v := 0) S.1 S.2.1 dX4_change_29 (by decide) ?_
        refine go_I (run_V (As := [.int 0]) (rest := []) (n := 1) S hK (bl_P hP [0, 2] rfl) (bl_D hD [0, 2] rfl rfl) (c_X4_finding l E ag ah az ak i0 f 0 (by decide)) gV_X4_48 (by decide +kernel) rfl ⟨rfl, rfl⟩ ⟨Nat.le_of_ble_eq_true rfl, Nat.le_of_ble_eq_true rfl⟩ (ci := 4) (q0 := 0) rfl rfl hl.1 (Nat.le_of_ble_eq_true rfl) dX4_change_30 ⟨Nat.zero_le _, Nat.zero_le _⟩) hP hD hS [0, 2] rfl (had_cons rfl (had_cons cell_ad rfl)) (Bs' := [[gObj ag ah az ak i0], hillsW E ah r, [(ag 4, .inl (E.2.1, 7, .inl (sg (upd f 0 (f 0 + 1)) 7)))]]) rfl (fun H locs hP hD hS => ?_)
        obtain ⟨r_30_2, er_30_2⟩ : ∃ zz9 : Row, zz9 = upd f 0 (f 0 + 1) := ⟨_, rfl⟩
        rw [← er_30_2] at hP hD
        exact retI S hr hlk (by have e9 : rChange r pp w v = .inl 0 := (by unfold rChange; rw [if_pos c_5, if_pos (by rw [ek_w]; exact fld_no2 hk_w c_25)]); rw [er_30_2] at hP; rw [e9, rowR_inl, fndC_inl]; exact hP) hS (by have e9 : rChange r pp w v = .inl 0 := (by unfold rChange; rw [if_pos c_5, if_pos (by rw [ek_w]; exact fld_no2 hk_w c_25)]); rw [e9]; decide) dX4_change_33
set_option maxHeartbeats 800000 in
set_option maxRecDepth 100000 in
theorem c_X4_go (l : Launch) (E : EV) (ag ah az ak : Nat → Nat) (i0 : Int32) (r f : Row) (n9 : Int32) (hR : RI r) : Met l yX4_go (wq yX4_go cX4_go 2 (some .int)) ({ frames := 5, cells := 0, slots := 0, locals := 105 }) (preB E [.ref (ag 0), .int n9] [[gObj ag ah az ak i0], hillsW E ah r, [(ag 4, .inl (E.2.1, 7, .inl (sg f 7)))]]) (qI E [[gObj ag ah az ak i0], hillsW E ah r, [(ag 4, .inl (E.2.1, 7, .inl (sg f 7)))]] [[gObj ag ah az ak i0], hillsW E ah (rowR r (rGo r n9)), [(ag 4, .inl (E.2.1, 7, .inl (sg (fndC f (rGo r n9)) 7)))]] (ansR (rGo r n9))) 0 0 (inB [[gObj ag ah az ak i0], hillsW E ah r, [(ag 4, .inl (E.2.1, 7, .inl (sg f 7)))]]) := by
  refine M_mk RX4 (by decide) rfl (Nat.le_of_ble_eq_true rfl) ?_
  intro p e s m below meth c S hr hlk hK hP hD hS ls hl
  have hl : lv_has ls 2 [(0, .ref (ag 0)), (1, .int n9)] := hl
  obtain ⟨n, d, hn, hn8, hd, hd5, ho, hso, hli, hsp, hpt⟩ := id hR
  obtain ⟨H, hH⟩ : ∃ zz9, zz9 = s.heap := ⟨_, rfl⟩
  obtain ⟨locs, hlocs⟩ : ∃ zz9 : List Loc, zz9 = [] := ⟨_, rfl⟩
  have hP : PE E [[gObj ag ah az ak i0], hillsW E ah r, [(ag 4, .inl (E.2.1, 7, .inl (sg f 7)))]] H := by rw [hH]; exact hP
  have hS : va_S (inB [[gObj ag ah az ak i0], hillsW E ah r, [(ag 4, .inl (E.2.1, 7, .inl (sg f 7)))]]) s.heap H locs := by rw [hH, hlocs]; exact hS
  show W p l e ({ frames := 5, cells := 0, slots := 0, locals := 105 }) s m ([.ref (ag 0), .int n9] : List Value).toArray below meth c s.heap [] 0 0 _ _
  suffices hgo : W p l e ({ frames := 5, cells := 0, slots := 0, locals := 105 }) s m ([.ref (ag 0), .int n9] : List Value).toArray below meth c H locs 0 0 (MQ below (qI E [[gObj ag ah az ak i0], hillsW E ah r, [(ag 4, .inl (E.2.1, 7, .inl (sg f 7)))]] [[gObj ag ah az ak i0], hillsW E ah (rowR r (rGo r n9)), [(ag 4, .inl (E.2.1, 7, .inl (sg (fndC f (rGo r n9)) 7)))]] (ansR (rGo r n9))) ([.ref (ag 0), .int n9] : List Value).toArray s 0 0 (inB [[gObj ag ah az ak i0], hillsW E ah r, [(ag 4, .inl (E.2.1, 7, .inl (sg f 7)))]])) (F0 m 0 ls []) by rw [hH, hlocs] at hgo; exact hgo
  clear hH hlocs
  refine lv_iload_n S.1 S.2.1 dX4_go_0 rfl (lv_at hl 1 rfl) ?_
  refine lv_iconst (v := 1) S.1 S.2.1 dX4_go_1 (by decide) ?_
  refine lv_icmp_lt (tgt := 11) S.1 S.2.1 dX4_go_2 (by decide) (fun c_2 => ?_) (fun c_2 => ?_)
  · have n_2 := Int32.not_le.mpr c_2
    refine lv_aload_n S.1 S.2.1 dX4_go_11 rfl (lv_at hl 0 rfl) ?_
    refine lv_iconst (v := 0) S.1 S.2.1 dX4_go_12 (by decide) ?_
    refine go_I (run_V (As := [.int 0]) (rest := []) (n := 1) S hK (bl_P hP [0, 2] rfl) (bl_D hD [0, 2] rfl rfl) (c_X4_finding l E ag ah az ak i0 f 0 (by decide)) gV_X4_48 (by decide +kernel) rfl ⟨rfl, rfl⟩ ⟨Nat.le_of_ble_eq_true rfl, Nat.le_of_ble_eq_true rfl⟩ (ci := 4) (q0 := 0) rfl rfl hl.1 (Nat.le_of_ble_eq_true rfl) dX4_go_13 ⟨Nat.zero_le _, Nat.zero_le _⟩) hP hD hS [0, 2] rfl (had_cons rfl (had_cons cell_ad rfl)) (Bs' := [[gObj ag ah az ak i0], hillsW E ah r, [(ag 4, .inl (E.2.1, 7, .inl (sg (upd f 0 (f 0 + 1)) 7)))]]) rfl (fun H locs hP hD hS => ?_)
    obtain ⟨r_13, er_13⟩ : ∃ zz9 : Row, zz9 = upd f 0 (f 0 + 1) := ⟨_, rfl⟩
    rw [← er_13] at hP hD
    exact retI S hr hlk (by have e9 : rGo r n9 = .inl 0 := (by unfold rGo; rw [if_neg (fun z9 => Int32.not_le.mpr c_2 z9.1)]); rw [er_13] at hP; rw [e9, rowR_inl, fndC_inl]; exact hP) hS (by have e9 : rGo r n9 = .inl 0 := (by unfold rGo; rw [if_neg (fun z9 => Int32.not_le.mpr c_2 z9.1)]); rw [e9]; decide) dX4_go_16
  · have n_2 := Int32.not_lt.mp c_2
    refine lv_iload_n S.1 S.2.1 dX4_go_5 rfl (lv_at hl 1 rfl) ?_
    refine lv_bipush (v := 60) S.1 S.2.1 dX4_go_6 (by decide) ?_
    refine lv_icmp_le (tgt := 17) S.1 S.2.1 dX4_go_8 (by decide) (fun c_8 => ?_) (fun c_8 => ?_)
    · have n_8 := Int32.not_lt.mpr c_8
      obtain ⟨k_n9, hj_n9, hk_n9, ek_n9⟩ := of_rng (lo := 1) (hi := 60) (by decide) (by decide) ⟨Int32.not_lt.mp c_2, c_8⟩
      refine lv_aload_n S.1 S.2.1 dX4_go_17 rfl (lv_at hl 0 rfl) ?_
      refine gf_X4_10 S hK hP 0 0 rfl rfl rfl dX4_go_18 ?_
      refine gf_X4_109 S hK hP 1 0 rfl rfl (congrArg (fun z => some (Value.int z)) hd) dX4_go_21 ?_
      refine lv_ldc (v := 99999) S.1 S.2.1 S.2.2.2.1 (S.2.2.2.2 _ (List.mem_cons_of_mem _ kk_X4_112)) dX4_go_24 ?_
      refine lv_iload_n S.1 S.2.1 dX4_go_26 rfl (lv_at hl 1 rfl) ?_
      refine lv_eqi (y := nI k_n9) ek_n9 ?_
      refine lv_isub S.1 S.2.1 dX4_go_27 ?_
      refine lv_icmp_le (tgt := 37) S.1 S.2.1 dX4_go_28 (by decide) (fun c_28 => ?_) (fun c_28 => ?_)
      · have n_28 := Int32.not_lt.mpr c_28
        refine lv_aload_n S.1 S.2.1 dX4_go_37 rfl (lv_at hl 0 rfl) ?_
        refine gf_X4_10 S hK hP 0 0 rfl rfl rfl dX4_go_38 ?_
        refine lv_iload_n S.1 S.2.1 dX4_go_41 rfl (lv_at hl 1 rfl) ?_
        refine lv_eqi (y := nI k_n9) ek_n9 ?_
        refine go_V (run_V (As := [.int (nI k_n9)]) (rest := []) (n := 1) S hK (bl_P hP [1] rfl) (bl_D hD [1] rfl rfl) (c_X0_passDays l E ah r k_n9 (by omega) hR) gV_X4_113 (by decide +kernel) rfl ⟨rfl, rfl⟩ ⟨Nat.le_of_ble_eq_true rfl, Nat.le_of_ble_eq_true rfl⟩ (ci := 0) (q0 := 0) rfl rfl hl.1 (Nat.le_of_ble_eq_true rfl) dX4_go_42 ⟨Nat.zero_le _, Nat.zero_le _⟩) hP hD hS [1] rfl (had_cons hw_ad rfl) (Bs' := [[gObj ag ah az ak i0], hillsW E ah (daysF r k_n9), [(ag 4, .inl (E.2.1, 7, .inl (sg f 7)))]]) rfl (fun H locs hP hD hS => ?_)
        obtain ⟨r_42, er_42⟩ : ∃ zz9 : Row, zz9 = daysF r k_n9 := ⟨_, rfl⟩
        rw [← er_42] at hP hD
        have hr_42_1 : r_42 1 = nI n := by rw [er_42]; exact (daysF_1 _ _).trans hn
        have hRI_r_42 : RI r_42 := by rw [er_42]; exact daysF_RI hR _
        refine lv_aload_n S.1 S.2.1 dX4_go_45 rfl (lv_at hl 0 rfl) ?_
        refine gf_X4_10 S hK hP 0 0 rfl rfl rfl dX4_go_46 ?_
        refine gf_X4_117 S hK hP 1 0 rfl rfl rfl dX4_go_49 ?_
        exact retI S hr hlk (by have e9 : rGo r n9 = .inr (r_42, r_42 4) := (by unfold rGo; rw [if_pos ⟨Int32.not_lt.mp c_2, c_8⟩, if_neg (go_no hd hd5 ek_n9 (by omega) c_28)]; (try rw [ek_n9]); (try rw [tN_nI (k := k_n9) (by omega)]); (try rw [er_42]); (try rw [ek_n9]); try with_reducible rfl); rw [e9, rowR_inr, fndC_inr]; exact hP) hS (by have e9 : rGo r n9 = .inr (r_42, r_42 4) := (by unfold rGo; rw [if_pos ⟨Int32.not_lt.mp c_2, c_8⟩, if_neg (go_no hd hd5 ek_n9 (by omega) c_28)]; (try rw [ek_n9]); (try rw [tN_nI (k := k_n9) (by omega)]); (try rw [er_42]); (try rw [ek_n9]); try with_reducible rfl); rw [e9, ansR_inr]) dX4_go_52
      · have n_28 := Int32.not_le.mp c_28
        refine lv_aload_n S.1 S.2.1 dX4_go_31 rfl (lv_at hl 0 rfl) ?_
        refine lv_iconst (v := 4) S.1 S.2.1 dX4_go_32 (by decide) ?_
        refine go_I (run_V (As := [.int 4]) (rest := []) (n := 1) S hK (bl_P hP [0, 2] rfl) (bl_D hD [0, 2] rfl rfl) (c_X4_finding l E ag ah az ak i0 f 4 (by decide)) gV_X4_48 (by decide +kernel) rfl ⟨rfl, rfl⟩ ⟨Nat.le_of_ble_eq_true rfl, Nat.le_of_ble_eq_true rfl⟩ (ci := 4) (q0 := 0) rfl rfl hl.1 (Nat.le_of_ble_eq_true rfl) dX4_go_33 ⟨Nat.zero_le _, Nat.zero_le _⟩) hP hD hS [0, 2] rfl (had_cons rfl (had_cons cell_ad rfl)) (Bs' := [[gObj ag ah az ak i0], hillsW E ah r, [(ag 4, .inl (E.2.1, 7, .inl (sg (upd f 4 (f 4 + 1)) 7)))]]) rfl (fun H locs hP hD hS => ?_)
        obtain ⟨r_33, er_33⟩ : ∃ zz9 : Row, zz9 = upd f 4 (f 4 + 1) := ⟨_, rfl⟩
        rw [← er_33] at hP hD
        exact retI S hr hlk (by have e9 : rGo r n9 = .inl 4 := (by unfold rGo; rw [if_pos ⟨Int32.not_lt.mp c_2, c_8⟩, if_pos (go_yes hd hd5 ek_n9 (by omega) c_28)]); rw [er_33] at hP; rw [e9, rowR_inl, fndC_inl]; exact hP) hS (by have e9 : rGo r n9 = .inl 4 := (by unfold rGo; rw [if_pos ⟨Int32.not_lt.mp c_2, c_8⟩, if_pos (go_yes hd hd5 ek_n9 (by omega) c_28)]); rw [e9]; decide) dX4_go_36
    · have n_8 := Int32.not_le.mp c_8
      refine lv_aload_n S.1 S.2.1 dX4_go_11 rfl (lv_at hl 0 rfl) ?_
      refine lv_iconst (v := 0) S.1 S.2.1 dX4_go_12 (by decide) ?_
      refine go_I (run_V (As := [.int 0]) (rest := []) (n := 1) S hK (bl_P hP [0, 2] rfl) (bl_D hD [0, 2] rfl rfl) (c_X4_finding l E ag ah az ak i0 f 0 (by decide)) gV_X4_48 (by decide +kernel) rfl ⟨rfl, rfl⟩ ⟨Nat.le_of_ble_eq_true rfl, Nat.le_of_ble_eq_true rfl⟩ (ci := 4) (q0 := 0) rfl rfl hl.1 (Nat.le_of_ble_eq_true rfl) dX4_go_13 ⟨Nat.zero_le _, Nat.zero_le _⟩) hP hD hS [0, 2] rfl (had_cons rfl (had_cons cell_ad rfl)) (Bs' := [[gObj ag ah az ak i0], hillsW E ah r, [(ag 4, .inl (E.2.1, 7, .inl (sg (upd f 0 (f 0 + 1)) 7)))]]) rfl (fun H locs hP hD hS => ?_)
      obtain ⟨r_13_1, er_13_1⟩ : ∃ zz9 : Row, zz9 = upd f 0 (f 0 + 1) := ⟨_, rfl⟩
      rw [← er_13_1] at hP hD
      exact retI S hr hlk (by have e9 : rGo r n9 = .inl 0 := (by unfold rGo; rw [if_neg (fun z9 => c_8 z9.2)]); rw [er_13_1] at hP; rw [e9, rowR_inl, fndC_inl]; exact hP) hS (by have e9 : rGo r n9 = .inl 0 := (by unfold rGo; rw [if_neg (fun z9 => c_8 z9.2)]); rw [e9]; decide) dX4_go_16
set_option maxHeartbeats 800000 in
set_option maxRecDepth 100000 in
theorem c_X4_now (l : Launch) (E : EV) (ag ah az ak : Nat → Nat) (i0 : Int32) (r f : Row) (w : Int32) (hR : RI r) : Met l yX4_now (wq yX4_now cX4_now 2 (some .int)) ({ frames := 3, cells := 0, slots := 0, locals := 62 }) (preB E [.ref (ag 0), .int w] [[gObj ag ah az ak i0], hillsW E ah r, [(ag 4, .inl (E.2.1, 7, .inl (sg f 7)))]]) (qI E [[gObj ag ah az ak i0], hillsW E ah r, [(ag 4, .inl (E.2.1, 7, .inl (sg f 7)))]] [[gObj ag ah az ak i0], hillsW E ah (rowR r (rNow r w)), [(ag 4, .inl (E.2.1, 7, .inl (sg (fndC f (rNow r w)) 7)))]] (ansR (rNow r w))) 0 0 (inB [[gObj ag ah az ak i0], hillsW E ah r, [(ag 4, .inl (E.2.1, 7, .inl (sg f 7)))]]) := by
  refine M_mk RX4 (by decide) rfl (Nat.le_of_ble_eq_true rfl) ?_
  intro p e s m below meth c S hr hlk hK hP hD hS ls hl
  have hl : lv_has ls 2 [(0, .ref (ag 0)), (1, .int w)] := hl
  obtain ⟨n, d, hn, hn8, hd, hd5, ho, hso, hli, hsp, hpt⟩ := id hR
  obtain ⟨H, hH⟩ : ∃ zz9, zz9 = s.heap := ⟨_, rfl⟩
  obtain ⟨locs, hlocs⟩ : ∃ zz9 : List Loc, zz9 = [] := ⟨_, rfl⟩
  have hP : PE E [[gObj ag ah az ak i0], hillsW E ah r, [(ag 4, .inl (E.2.1, 7, .inl (sg f 7)))]] H := by rw [hH]; exact hP
  have hS : va_S (inB [[gObj ag ah az ak i0], hillsW E ah r, [(ag 4, .inl (E.2.1, 7, .inl (sg f 7)))]]) s.heap H locs := by rw [hH, hlocs]; exact hS
  show W p l e ({ frames := 3, cells := 0, slots := 0, locals := 62 }) s m ([.ref (ag 0), .int w] : List Value).toArray below meth c s.heap [] 0 0 _ _
  suffices hgo : W p l e ({ frames := 3, cells := 0, slots := 0, locals := 62 }) s m ([.ref (ag 0), .int w] : List Value).toArray below meth c H locs 0 0 (MQ below (qI E [[gObj ag ah az ak i0], hillsW E ah r, [(ag 4, .inl (E.2.1, 7, .inl (sg f 7)))]] [[gObj ag ah az ak i0], hillsW E ah (rowR r (rNow r w)), [(ag 4, .inl (E.2.1, 7, .inl (sg (fndC f (rNow r w)) 7)))]] (ansR (rNow r w))) ([.ref (ag 0), .int w] : List Value).toArray s 0 0 (inB [[gObj ag ah az ak i0], hillsW E ah r, [(ag 4, .inl (E.2.1, 7, .inl (sg f 7)))]])) (F0 m 0 ls []) by rw [hH, hlocs] at hgo; exact hgo
  clear hH hlocs
  refine lv_iload_n S.1 S.2.1 dX4_now_0 rfl (lv_at hl 1 rfl) ?_
  by_cases k_1_0 : w = 0
  · refine lv_tableIn (tgt := 48) S.1 S.2.1 dX4_now_1 (by rw [k_1_0]; decide) (by rw [k_1_0]; decide) (by rw [k_1_0]; rfl) (by decide) ?_
    refine lv_aload_n S.1 S.2.1 dX4_now_48 rfl (lv_at hl 0 rfl) ?_
    refine gf_X4_10 S hK hP 0 0 rfl rfl rfl dX4_now_49 ?_
    refine gf_X4_109 S hK hP 1 0 rfl rfl (congrArg (fun z => some (Value.int z)) hd) dX4_now_52 ?_
    exact retI S hr hlk (by have e9 : rNow r w = .inr (r, nI d) := (by unfold rNow; rw [if_pos k_1_0]; (try rw [hd]); (try rw [hn]); try with_reducible rfl); rw [e9, rowR_inr, fndC_inr]; exact hP) hS (by have e9 : rNow r w = .inr (r, nI d) := (by unfold rNow; rw [if_pos k_1_0]; (try rw [hd]); (try rw [hn]); try with_reducible rfl); rw [e9, ansR_inr]) dX4_now_55
  by_cases k_1_1 : w = 1
  · refine lv_tableIn (tgt := 56) S.1 S.2.1 dX4_now_1 (by rw [k_1_1]; decide) (by rw [k_1_1]; decide) (by rw [k_1_1]; rfl) (by decide) ?_
    refine lv_aload_n S.1 S.2.1 dX4_now_56 rfl (lv_at hl 0 rfl) ?_
    refine gf_X4_10 S hK hP 0 0 rfl rfl rfl dX4_now_57 ?_
    refine gf_X4_117 S hK hP 1 0 rfl rfl rfl dX4_now_60 ?_
    exact retI S hr hlk (by have e9 : rNow r w = .inr (r, r 4) := (by unfold rNow; rw [if_neg k_1_0, if_pos k_1_1]; (try rw [hd]); (try rw [hn]); try with_reducible rfl); rw [e9, rowR_inr, fndC_inr]; exact hP) hS (by have e9 : rNow r w = .inr (r, r 4) := (by unfold rNow; rw [if_neg k_1_0, if_pos k_1_1]; (try rw [hd]); (try rw [hn]); try with_reducible rfl); rw [e9, ansR_inr]) dX4_now_63
  by_cases k_1_2 : w = 2
  · refine lv_tableIn (tgt := 64) S.1 S.2.1 dX4_now_1 (by rw [k_1_2]; decide) (by rw [k_1_2]; decide) (by rw [k_1_2]; rfl) (by decide) ?_
    refine lv_aload_n S.1 S.2.1 dX4_now_64 rfl (lv_at hl 0 rfl) ?_
    refine gf_X4_10 S hK hP 0 0 rfl rfl rfl dX4_now_65 ?_
    refine gf_X4_55 S hK hP 1 0 rfl rfl rfl dX4_now_68 ?_
    exact retI S hr hlk (by have e9 : rNow r w = .inr (r, r 3) := (by unfold rNow; rw [if_neg k_1_0, if_neg k_1_1, if_pos k_1_2]; (try rw [hd]); (try rw [hn]); try with_reducible rfl); rw [e9, rowR_inr, fndC_inr]; exact hP) hS (by have e9 : rNow r w = .inr (r, r 3) := (by unfold rNow; rw [if_neg k_1_0, if_neg k_1_1, if_pos k_1_2]; (try rw [hd]); (try rw [hn]); try with_reducible rfl); rw [e9, ansR_inr]) dX4_now_71
  by_cases k_1_3 : w = 3
  · refine lv_tableIn (tgt := 72) S.1 S.2.1 dX4_now_1 (by rw [k_1_3]; decide) (by rw [k_1_3]; decide) (by rw [k_1_3]; rfl) (by decide) ?_
    refine lv_aload_n S.1 S.2.1 dX4_now_72 rfl (lv_at hl 0 rfl) ?_
    refine gf_X4_10 S hK hP 0 0 rfl rfl rfl dX4_now_73 ?_
    refine go_S (run_V (As := []) (rest := []) (n := 0) S hK (bl_P hP [1] rfl) (bl_D hD [1] rfl rfl) (c_X0_allPots l E ah r n hn hn8) gV_X4_120 (by decide +kernel) rfl ⟨rfl, rfl⟩ ⟨Nat.le_of_ble_eq_true rfl, Nat.le_of_ble_eq_true rfl⟩ (ci := 0) (q0 := 0) rfl rfl hl.1 (Nat.le_of_ble_eq_true rfl) dX4_now_76 ⟨Nat.zero_le _, Nat.zero_le _⟩) ?_
    exact retI S hr hlk (by have e9 : rNow r w = .inr (r, sumR r 5 (cntN r)) := (by unfold rNow; rw [if_neg k_1_0, if_neg k_1_1, if_neg k_1_2, if_pos k_1_3]; (try rw [hd]); (try rw [hn]); try with_reducible rfl); rw [e9, rowR_inr, fndC_inr]; exact hP) hS (by have e9 : rNow r w = .inr (r, sumR r 5 (cntN r)) := (by unfold rNow; rw [if_neg k_1_0, if_neg k_1_1, if_neg k_1_2, if_pos k_1_3]; (try rw [hd]); (try rw [hn]); try with_reducible rfl); rw [e9, ansR_inr]) dX4_now_79
  by_cases k_1_4 : w = 4
  · refine lv_tableIn (tgt := 80) S.1 S.2.1 dX4_now_1 (by rw [k_1_4]; decide) (by rw [k_1_4]; decide) (by rw [k_1_4]; rfl) (by decide) ?_
    refine lv_aload_n S.1 S.2.1 dX4_now_80 rfl (lv_at hl 0 rfl) ?_
    refine gf_X4_10 S hK hP 0 0 rfl rfl rfl dX4_now_81 ?_
    refine go_S (run_V (As := []) (rest := []) (n := 0) S hK (bl_P hP [1] rfl) (bl_D hD [1] rfl rfl) (c_X0_allCracked l E ah r n hn hn8) gV_X4_123 (by decide +kernel) rfl ⟨rfl, rfl⟩ ⟨Nat.le_of_ble_eq_true rfl, Nat.le_of_ble_eq_true rfl⟩ (ci := 0) (q0 := 0) rfl rfl hl.1 (Nat.le_of_ble_eq_true rfl) dX4_now_84 ⟨Nat.zero_le _, Nat.zero_le _⟩) ?_
    exact retI S hr hlk (by have e9 : rNow r w = .inr (r, sumR r 6 (cntN r)) := (by unfold rNow; rw [if_neg k_1_0, if_neg k_1_1, if_neg k_1_2, if_neg k_1_3, if_pos k_1_4]; (try rw [hd]); (try rw [hn]); try with_reducible rfl); rw [e9, rowR_inr, fndC_inr]; exact hP) hS (by have e9 : rNow r w = .inr (r, sumR r 6 (cntN r)) := (by unfold rNow; rw [if_neg k_1_0, if_neg k_1_1, if_neg k_1_2, if_neg k_1_3, if_pos k_1_4]; (try rw [hd]); (try rw [hn]); try with_reducible rfl); rw [e9, ansR_inr]) dX4_now_87
  by_cases k_1_5 : w = 5
  · refine lv_tableIn (tgt := 88) S.1 S.2.1 dX4_now_1 (by rw [k_1_5]; decide) (by rw [k_1_5]; decide) (by rw [k_1_5]; rfl) (by decide) ?_
    refine lv_aload_n S.1 S.2.1 dX4_now_88 rfl (lv_at hl 0 rfl) ?_
    refine gf_X4_10 S hK hP 0 0 rfl rfl rfl dX4_now_89 ?_
    refine go_S (run_V (As := []) (rest := []) (n := 0) S hK (bl_P hP [1] rfl) (bl_D hD [1] rfl rfl) (c_X0_coloursOfPots l E ah r n hn hn8) gV_X4_126 (by decide +kernel) rfl ⟨rfl, rfl⟩ ⟨Nat.le_of_ble_eq_true rfl, Nat.le_of_ble_eq_true rfl⟩ (ci := 0) (q0 := 0) rfl rfl hl.1 (Nat.le_of_ble_eq_true rfl) dX4_now_92 ⟨Nat.zero_le _, Nat.zero_le _⟩) ?_
    exact retI S hr hlk (by have e9 : rNow r w = .inr (r, colR r (cntN r)) := (by unfold rNow; rw [if_neg k_1_0, if_neg k_1_1, if_neg k_1_2, if_neg k_1_3, if_neg k_1_4, if_pos k_1_5]; (try rw [hd]); (try rw [hn]); try with_reducible rfl); rw [e9, rowR_inr, fndC_inr]; exact hP) hS (by have e9 : rNow r w = .inr (r, colR r (cntN r)) := (by unfold rNow; rw [if_neg k_1_0, if_neg k_1_1, if_neg k_1_2, if_neg k_1_3, if_neg k_1_4, if_pos k_1_5]; (try rw [hd]); (try rw [hn]); try with_reducible rfl); rw [e9, ansR_inr]) dX4_now_95
  by_cases k_1_6 : w = 6
  · refine lv_tableIn (tgt := 96) S.1 S.2.1 dX4_now_1 (by rw [k_1_6]; decide) (by rw [k_1_6]; decide) (by rw [k_1_6]; rfl) (by decide) ?_
    refine lv_aload_n S.1 S.2.1 dX4_now_96 rfl (lv_at hl 0 rfl) ?_
    refine gf_X4_10 S hK hP 0 0 rfl rfl rfl dX4_now_97 ?_
    refine go_S (run_V (As := []) (rest := []) (n := 0) S hK (bl_P hP [1] rfl) (bl_D hD [1] rfl rfl) (c_X0_readyPotters l E ah r n hn hn8) gV_X4_129 (by decide +kernel) rfl ⟨rfl, rfl⟩ ⟨Nat.le_of_ble_eq_true rfl, Nat.le_of_ble_eq_true rfl⟩ (ci := 0) (q0 := 0) rfl rfl hl.1 (Nat.le_of_ble_eq_true rfl) dX4_now_100 ⟨Nat.zero_le _, Nat.zero_le _⟩) ?_
    exact retI S hr hlk (by have e9 : rNow r w = .inr (r, rdyR r (cntN r)) := (by unfold rNow; rw [if_neg k_1_0, if_neg k_1_1, if_neg k_1_2, if_neg k_1_3, if_neg k_1_4, if_neg k_1_5, if_pos k_1_6]; (try rw [hd]); (try rw [hn]); try with_reducible rfl); rw [e9, rowR_inr, fndC_inr]; exact hP) hS (by have e9 : rNow r w = .inr (r, rdyR r (cntN r)) := (by unfold rNow; rw [if_neg k_1_0, if_neg k_1_1, if_neg k_1_2, if_neg k_1_3, if_neg k_1_4, if_neg k_1_5, if_pos k_1_6]; (try rw [hd]); (try rw [hn]); try with_reducible rfl); rw [e9, ansR_inr]) dX4_now_103
  by_cases k_1_7 : w = 7
  · refine lv_tableIn (tgt := 104) S.1 S.2.1 dX4_now_1 (by rw [k_1_7]; decide) (by rw [k_1_7]; decide) (by rw [k_1_7]; rfl) (by decide) ?_
    refine lv_aload_n S.1 S.2.1 dX4_now_104 rfl (lv_at hl 0 rfl) ?_
    refine gf_X4_10 S hK hP 0 0 rfl rfl rfl dX4_now_105 ?_
    refine go_S (run_V (As := []) (rest := []) (n := 0) S hK (bl_P hP [1] rfl) (bl_D hD [1] rfl rfl) (c_X0_wettestPotter l E ah r n hn hn8) gV_X4_132 (by decide +kernel) rfl ⟨rfl, rfl⟩ ⟨Nat.le_of_ble_eq_true rfl, Nat.le_of_ble_eq_true rfl⟩ (ci := 0) (q0 := 0) rfl rfl hl.1 (Nat.le_of_ble_eq_true rfl) dX4_now_108 ⟨Nat.zero_le _, Nat.zero_le _⟩) ?_
    exact retI S hr hlk (by have e9 : rNow r w = .inr (r, (wetR r (cntN r)).1) := (by unfold rNow; rw [if_neg k_1_0, if_neg k_1_1, if_neg k_1_2, if_neg k_1_3, if_neg k_1_4, if_neg k_1_5, if_neg k_1_6, if_pos k_1_7]; (try rw [hd]); (try rw [hn]); try with_reducible rfl); rw [e9, rowR_inr, fndC_inr]; exact hP) hS (by have e9 : rNow r w = .inr (r, (wetR r (cntN r)).1) := (by unfold rNow; rw [if_neg k_1_0, if_neg k_1_1, if_neg k_1_2, if_neg k_1_3, if_neg k_1_4, if_neg k_1_5, if_neg k_1_6, if_pos k_1_7]; (try rw [hd]); (try rw [hn]); try with_reducible rfl); rw [e9, ansR_inr]) dX4_now_111
  have t_1_0 := ne_toInt (n := 0) (by decide) k_1_0
  have t_1_1 := ne_toInt (n := 1) (by decide) k_1_1
  have t_1_2 := ne_toInt (n := 2) (by decide) k_1_2
  have t_1_3 := ne_toInt (n := 3) (by decide) k_1_3
  have t_1_4 := ne_toInt (n := 4) (by decide) k_1_4
  have t_1_5 := ne_toInt (n := 5) (by decide) k_1_5
  have t_1_6 := ne_toInt (n := 6) (by decide) k_1_6
  have t_1_7 := ne_toInt (n := 7) (by decide) k_1_7
  refine lv_tableOut (tgt := 112) S.1 S.2.1 dX4_now_1 (by omega) (by decide) ?_
  refine lv_aload_n S.1 S.2.1 dX4_now_112 rfl (lv_at hl 0 rfl) ?_
  refine lv_iconst (v := 0) S.1 S.2.1 dX4_now_113 (by decide) ?_
  refine go_I (run_V (As := [.int 0]) (rest := []) (n := 1) S hK (bl_P hP [0, 2] rfl) (bl_D hD [0, 2] rfl rfl) (c_X4_finding l E ag ah az ak i0 f 0 (by decide)) gV_X4_48 (by decide +kernel) rfl ⟨rfl, rfl⟩ ⟨Nat.le_of_ble_eq_true rfl, Nat.le_of_ble_eq_true rfl⟩ (ci := 4) (q0 := 0) rfl rfl hl.1 (Nat.le_of_ble_eq_true rfl) dX4_now_114 ⟨Nat.zero_le _, Nat.zero_le _⟩) hP hD hS [0, 2] rfl (had_cons rfl (had_cons cell_ad rfl)) (Bs' := [[gObj ag ah az ak i0], hillsW E ah r, [(ag 4, .inl (E.2.1, 7, .inl (sg (upd f 0 (f 0 + 1)) 7)))]]) rfl (fun H locs hP hD hS => ?_)
  obtain ⟨r_114, er_114⟩ : ∃ zz9 : Row, zz9 = upd f 0 (f 0 + 1) := ⟨_, rfl⟩
  rw [← er_114] at hP hD
  exact retI S hr hlk (by have e9 : rNow r w = .inl 0 := (by unfold rNow; rw [if_neg k_1_0, if_neg k_1_1, if_neg k_1_2, if_neg k_1_3, if_neg k_1_4, if_neg k_1_5, if_neg k_1_6, if_neg k_1_7]); rw [er_114] at hP; rw [e9, rowR_inl, fndC_inl]; exact hP) hS (by have e9 : rNow r w = .inl 0 := (by unfold rNow; rw [if_neg k_1_0, if_neg k_1_1, if_neg k_1_2, if_neg k_1_3, if_neg k_1_4, if_neg k_1_5, if_neg k_1_6, if_neg k_1_7]); rw [e9]; decide) dX4_now_117
set_option maxHeartbeats 800000 in
set_option maxRecDepth 100000 in
theorem c_X4_seed (l : Launch) (E : EV) (ag ah az ak : Nat → Nat) (i0 : Int32) (r : Row) (v : Int32)  : Met l yX4_seed (wq yX4_seed cX4_seed 3 (some .int)) ({ frames := 0, cells := 0, slots := 0, locals := 0 }) (preB E [.ref (ag 0), .int v] [[gObj ag ah az ak i0], hillsW E ah r]) (qI E [[gObj ag ah az ak i0], hillsW E ah r] [[gObj ag ah az ak i0], hillsW E ah (upd r 2 v)] (r 2)) 0 0 (inB [[gObj ag ah az ak i0], hillsW E ah r]) := by
  refine M_mk RX4 (by decide) rfl (Nat.le_of_ble_eq_true rfl) ?_
  intro p e s m below meth c S hr hlk hK hP hD hS ls hl
  have hl : lv_has ls 3 [(0, .ref (ag 0)), (1, .int v)] := hl
  obtain ⟨H, hH⟩ : ∃ zz9, zz9 = s.heap := ⟨_, rfl⟩
  obtain ⟨locs, hlocs⟩ : ∃ zz9 : List Loc, zz9 = [] := ⟨_, rfl⟩
  have hP : PE E [[gObj ag ah az ak i0], hillsW E ah r] H := by rw [hH]; exact hP
  have hS : va_S (inB [[gObj ag ah az ak i0], hillsW E ah r]) s.heap H locs := by rw [hH, hlocs]; exact hS
  show W p l e ({ frames := 0, cells := 0, slots := 0, locals := 0 }) s m ([.ref (ag 0), .int v] : List Value).toArray below meth c s.heap [] 0 0 _ _
  suffices hgo : W p l e ({ frames := 0, cells := 0, slots := 0, locals := 0 }) s m ([.ref (ag 0), .int v] : List Value).toArray below meth c H locs 0 0 (MQ below (qI E [[gObj ag ah az ak i0], hillsW E ah r] [[gObj ag ah az ak i0], hillsW E ah (upd r 2 v)] (r 2)) ([.ref (ag 0), .int v] : List Value).toArray s 0 0 (inB [[gObj ag ah az ak i0], hillsW E ah r])) (F0 m 0 ls []) by rw [hH, hlocs] at hgo; exact hgo
  clear hH hlocs
  refine lv_aload_n S.1 S.2.1 dX4_seed_0 rfl (lv_at hl 0 rfl) ?_
  refine gf_X4_10 S hK hP 0 0 rfl rfl rfl dX4_seed_1 ?_
  refine gf_X4_209 S hK hP 1 0 rfl rfl rfl dX4_seed_4 ?_
  refine lv_istore_n (lv' := [(2, .int (r 2)), (0, .ref (ag 0)), (1, .int v)]) S.1 S.2.1 dX4_seed_7 rfl hl (by decide) rfl (fun ls hl => ?_)
  refine lv_aload_n S.1 S.2.1 dX4_seed_8 rfl (lv_at hl 1 rfl) ?_
  refine gf_X4_10 S hK hP 0 0 rfl rfl rfl dX4_seed_9 ?_
  refine lv_iload_n S.1 S.2.1 dX4_seed_12 rfl (lv_at hl 2 rfl) ?_
  refine pf_X4_209 S hK hP hD hS 1 0 rfl rfl (Nat.le_of_ble_eq_true rfl) hs_2 (Bs1 := [[gObj ag ah az ak i0], hillsW E ah (upd r 2 v)]) rfl dX4_seed_13 (fun H locs hP hD hS => ?_)
  obtain ⟨r_13, er_13⟩ : ∃ zz9, zz9 = upd r 2 v := ⟨_, rfl⟩
  rw [← er_13] at hP hD
  refine lv_iload_n S.1 S.2.1 dX4_seed_16 rfl (lv_at hl 0 rfl) ?_
  exact retI S hr hlk (by rw [← er_13]; exact hP) hS rfl dX4_seed_17
set_option maxHeartbeats 800000 in
set_option maxRecDepth 100000 in
theorem c_X4_hold (l : Launch) (E : EV) (ag ah az ak : Nat → Nat) (i0 : Int32) (r f : Row) (s9 pp : Int32) (hR : RI r) : Met l yX4_hold (wq yX4_hold cX4_hold 3 (some .int)) ({ frames := 1, cells := 0, slots := 0, locals := 21 }) (preB E [.ref (ag 0), .int s9, .int pp] [[gObj ag ah az ak i0], hillsW E ah r, [(ag 4, .inl (E.2.1, 7, .inl (sg f 7)))]]) (qI E [[gObj ag ah az ak i0], hillsW E ah r, [(ag 4, .inl (E.2.1, 7, .inl (sg f 7)))]] [[gObj ag ah az ak i0], hillsW E ah (rowR r (rHold r s9 pp)), [(ag 4, .inl (E.2.1, 7, .inl (sg (fndC f (rHold r s9 pp)) 7)))]] (ansR (rHold r s9 pp))) 0 0 (inB [[gObj ag ah az ak i0], hillsW E ah r, [(ag 4, .inl (E.2.1, 7, .inl (sg f 7)))]]) := by
  refine M_mk RX4 (by decide) rfl (Nat.le_of_ble_eq_true rfl) ?_
  intro p e s m below meth c S hr hlk hK hP hD hS ls hl
  have hl : lv_has ls 3 [(0, .ref (ag 0)), (1, .int s9), (2, .int pp)] := hl
  obtain ⟨n, d, hn, hn8, hd, hd5, ho, hso, hli, hsp, hpt⟩ := id hR
  obtain ⟨H, hH⟩ : ∃ zz9, zz9 = s.heap := ⟨_, rfl⟩
  obtain ⟨locs, hlocs⟩ : ∃ zz9 : List Loc, zz9 = [] := ⟨_, rfl⟩
  have hP : PE E [[gObj ag ah az ak i0], hillsW E ah r, [(ag 4, .inl (E.2.1, 7, .inl (sg f 7)))]] H := by rw [hH]; exact hP
  have hS : va_S (inB [[gObj ag ah az ak i0], hillsW E ah r, [(ag 4, .inl (E.2.1, 7, .inl (sg f 7)))]]) s.heap H locs := by rw [hH, hlocs]; exact hS
  show W p l e ({ frames := 1, cells := 0, slots := 0, locals := 21 }) s m ([.ref (ag 0), .int s9, .int pp] : List Value).toArray below meth c s.heap [] 0 0 _ _
  suffices hgo : W p l e ({ frames := 1, cells := 0, slots := 0, locals := 21 }) s m ([.ref (ag 0), .int s9, .int pp] : List Value).toArray below meth c H locs 0 0 (MQ below (qI E [[gObj ag ah az ak i0], hillsW E ah r, [(ag 4, .inl (E.2.1, 7, .inl (sg f 7)))]] [[gObj ag ah az ak i0], hillsW E ah (rowR r (rHold r s9 pp)), [(ag 4, .inl (E.2.1, 7, .inl (sg (fndC f (rHold r s9 pp)) 7)))]] (ansR (rHold r s9 pp))) ([.ref (ag 0), .int s9, .int pp] : List Value).toArray s 0 0 (inB [[gObj ag ah az ak i0], hillsW E ah r, [(ag 4, .inl (E.2.1, 7, .inl (sg f 7)))]])) (F0 m 0 ls []) by rw [hH, hlocs] at hgo; exact hgo
  clear hH hlocs
  refine lv_iload_n S.1 S.2.1 dX4_hold_0 rfl (lv_at hl 1 rfl) ?_
  refine lv_bipush (v := 9) S.1 S.2.1 dX4_hold_1 (by decide) ?_
  refine go_S (run_S (As := [.int s9, .int 9]) (rest := []) (n := 2) S hK (bl_P hP [] rfl) (bl_D hD [] rfl rfl) (c_X4_isWithin l E s9 9 ) gS_X4_44 (by decide +kernel) rfl ⟨rfl, rfl⟩ ⟨Nat.le_of_ble_eq_true rfl, Nat.le_of_ble_eq_true rfl⟩ hl.1 (Nat.le_of_ble_eq_true rfl) dX4_hold_3 ⟨Nat.zero_le _, Nat.zero_le _⟩) ?_
  refine b_ifeq (tgt := 22) S.1 S.2.1 dX4_hold_6 (by decide) (fun c_6 => ?_) (fun c_6 => ?_)
  · refine lv_aload_n S.1 S.2.1 dX4_hold_22 rfl (lv_at hl 0 rfl) ?_
    refine lv_iconst (v := 0) S.1 S.2.1 dX4_hold_23 (by decide) ?_
    refine go_I (run_V (As := [.int 0]) (rest := []) (n := 1) S hK (bl_P hP [0, 2] rfl) (bl_D hD [0, 2] rfl rfl) (c_X4_finding l E ag ah az ak i0 f 0 (by decide)) gV_X4_48 (by decide +kernel) rfl ⟨rfl, rfl⟩ ⟨Nat.le_of_ble_eq_true rfl, Nat.le_of_ble_eq_true rfl⟩ (ci := 4) (q0 := 0) rfl rfl hl.1 (Nat.le_of_ble_eq_true rfl) dX4_hold_24 ⟨Nat.zero_le _, Nat.zero_le _⟩) hP hD hS [0, 2] rfl (had_cons rfl (had_cons cell_ad rfl)) (Bs' := [[gObj ag ah az ak i0], hillsW E ah r, [(ag 4, .inl (E.2.1, 7, .inl (sg (upd f 0 (f 0 + 1)) 7)))]]) rfl (fun H locs hP hD hS => ?_)
    obtain ⟨r_24, er_24⟩ : ∃ zz9 : Row, zz9 = upd f 0 (f 0 + 1) := ⟨_, rfl⟩
    rw [← er_24] at hP hD
    exact retI S hr hlk (by have e9 : rHold r s9 pp = .inl 0 := (by unfold rHold; rw [if_neg c_6]); rw [er_24] at hP; rw [e9, rowR_inl, fndC_inl]; exact hP) hS (by have e9 : rHold r s9 pp = .inl 0 := (by unfold rHold; rw [if_neg c_6]); rw [e9]; decide) dX4_hold_27
  · obtain ⟨k_s9, hk_s9, ek_s9⟩ := nI_of2 (n := 9) (by decide) (Int32.not_lt.mpr c_6.1) c_6.2
    refine lv_iload_n S.1 S.2.1 dX4_hold_9 rfl (lv_at hl 2 rfl) ?_
    refine lv_iconst (v := (-1)) S.1 S.2.1 dX4_hold_10 (by decide) ?_
    refine lv_icmp_eq (tgt := 28) S.1 S.2.1 dX4_hold_11 (by decide) (fun c_11 => ?_) (fun c_11 => ?_)
    · refine lv_aload_n S.1 S.2.1 dX4_hold_28 rfl (lv_at hl 0 rfl) ?_
      refine gf_X4_10 S hK hP 0 0 rfl rfl rfl dX4_hold_29 ?_
      refine gf_X4_219 S hK hP 1 0 rfl rfl rfl dX4_hold_32 ?_
      refine lv_iload_n S.1 S.2.1 dX4_hold_35 rfl (lv_at hl 1 rfl) ?_
      refine lv_eqi (y := nI k_s9) ek_s9 ?_
      refine lv_iload_n S.1 S.2.1 dX4_hold_36 rfl (lv_at hl 2 rfl) ?_
      refine b_iastN (i := k_s9) S hK hP hD hS 1 3 rfl rfl (by omega) (by decide) (hs_spot (by omega)) (Bs1 := [[gObj ag ah az ak i0], hillsW E ah (upd r (11 + k_s9) pp), [(ag 4, .inl (E.2.1, 7, .inl (sg f 7)))]]) rfl dX4_hold_37 (fun H locs hP hD hS => ?_)
      obtain ⟨r_37, er_37⟩ : ∃ zz9, zz9 = upd r (11 + k_s9) pp := ⟨_, rfl⟩
      rw [← er_37] at hP hD
      have hr_37_1 : r_37 1 = nI n := by rw [er_37]; exact (upd_ne (by omega)).trans hn
      have hr_37_0 : r_37 0 = nI d := by rw [er_37]; exact (upd_ne (by omega)).trans hd
      refine lv_iconst (v := 1) S.1 S.2.1 dX4_hold_38 (by decide) ?_
      exact retI S hr hlk (by have e9 : rHold r s9 pp = .inr (r_37, 1) := (by unfold rHold; rw [if_pos c_6, if_pos (Or.inl c_11)]; (try rw [ek_s9]); (try rw [tN_nI (k := k_s9) (by omega)]); (try rw [er_37]); try with_reducible rfl); rw [e9, rowR_inr, fndC_inr]; exact hP) hS (by have e9 : rHold r s9 pp = .inr (r_37, 1) := (by unfold rHold; rw [if_pos c_6, if_pos (Or.inl c_11)]; (try rw [ek_s9]); (try rw [tN_nI (k := k_s9) (by omega)]); (try rw [er_37]); try with_reducible rfl); rw [e9, ansR_inr]) dX4_hold_39
    · refine lv_aload_n S.1 S.2.1 dX4_hold_14 rfl (lv_at hl 0 rfl) ?_
      refine lv_iload_n S.1 S.2.1 dX4_hold_15 rfl (lv_at hl 2 rfl) ?_
      refine go_S (run_V (As := [.int pp]) (rest := []) (n := 1) S hK (bl_P hP [0, 1] rfl) (bl_D hD [0, 1] rfl rfl) (c_X4_isPotter l E ag ah az ak i0 r pp ) gV_X4_67 (by decide +kernel) rfl ⟨rfl, rfl⟩ ⟨Nat.le_of_ble_eq_true rfl, Nat.le_of_ble_eq_true rfl⟩ (ci := 4) (q0 := 0) rfl rfl hl.1 (Nat.le_of_ble_eq_true rfl) dX4_hold_16 ⟨Nat.zero_le _, Nat.zero_le _⟩) ?_
      refine b_ifne (tgt := 28) S.1 S.2.1 dX4_hold_19 (by decide) (fun c_19 => ?_) (fun c_19 => ?_)
      · obtain ⟨k_pp, hk_pp, ek_pp⟩ := pot_nat c_19 hn (by omega)
        refine lv_aload_n S.1 S.2.1 dX4_hold_28 rfl (lv_at hl 0 rfl) ?_
        refine gf_X4_10 S hK hP 0 0 rfl rfl rfl dX4_hold_29 ?_
        refine gf_X4_219 S hK hP 1 0 rfl rfl rfl dX4_hold_32 ?_
        refine lv_iload_n S.1 S.2.1 dX4_hold_35 rfl (lv_at hl 1 rfl) ?_
        refine lv_eqi (y := nI k_s9) ek_s9 ?_
        refine lv_iload_n S.1 S.2.1 dX4_hold_36 rfl (lv_at hl 2 rfl) ?_
        refine lv_eqi (y := nI k_pp) ek_pp ?_
        refine b_iastN (i := k_s9) S hK hP hD hS 1 3 rfl rfl (by omega) (by decide) (hs_spot (by omega)) (Bs1 := [[gObj ag ah az ak i0], hillsW E ah (upd r (11 + k_s9) (nI k_pp)), [(ag 4, .inl (E.2.1, 7, .inl (sg f 7)))]]) rfl dX4_hold_37 (fun H locs hP hD hS => ?_)
        obtain ⟨r_37_1, er_37_1⟩ : ∃ zz9, zz9 = upd r (11 + k_s9) (nI k_pp) := ⟨_, rfl⟩
        rw [← er_37_1] at hP hD
        have hr_37_1_1 : r_37_1 1 = nI n := by rw [er_37_1]; exact (upd_ne (by omega)).trans hn
        have hr_37_1_0 : r_37_1 0 = nI d := by rw [er_37_1]; exact (upd_ne (by omega)).trans hd
        refine lv_iconst (v := 1) S.1 S.2.1 dX4_hold_38 (by decide) ?_
        exact retI S hr hlk (by have e9 : rHold r s9 pp = .inr (r_37_1, 1) := (by unfold rHold; rw [if_pos c_6, if_pos (Or.inr c_19)]; (try rw [ek_s9]); (try rw [ek_pp]); (try rw [tN_nI (k := k_s9) (by omega)]); (try rw [tN_nI (k := k_pp) (by omega)]); (try rw [er_37_1]); try with_reducible rfl); rw [e9, rowR_inr, fndC_inr]; exact hP) hS (by have e9 : rHold r s9 pp = .inr (r_37_1, 1) := (by unfold rHold; rw [if_pos c_6, if_pos (Or.inr c_19)]; (try rw [ek_s9]); (try rw [ek_pp]); (try rw [tN_nI (k := k_s9) (by omega)]); (try rw [tN_nI (k := k_pp) (by omega)]); (try rw [er_37_1]); try with_reducible rfl); rw [e9, ansR_inr]) dX4_hold_39
      · refine lv_aload_n S.1 S.2.1 dX4_hold_22 rfl (lv_at hl 0 rfl) ?_
        refine lv_iconst (v := 0) S.1 S.2.1 dX4_hold_23 (by decide) ?_
        refine go_I (run_V (As := [.int 0]) (rest := []) (n := 1) S hK (bl_P hP [0, 2] rfl) (bl_D hD [0, 2] rfl rfl) (c_X4_finding l E ag ah az ak i0 f 0 (by decide)) gV_X4_48 (by decide +kernel) rfl ⟨rfl, rfl⟩ ⟨Nat.le_of_ble_eq_true rfl, Nat.le_of_ble_eq_true rfl⟩ (ci := 4) (q0 := 0) rfl rfl hl.1 (Nat.le_of_ble_eq_true rfl) dX4_hold_24 ⟨Nat.zero_le _, Nat.zero_le _⟩) hP hD hS [0, 2] rfl (had_cons rfl (had_cons cell_ad rfl)) (Bs' := [[gObj ag ah az ak i0], hillsW E ah r, [(ag 4, .inl (E.2.1, 7, .inl (sg (upd f 0 (f 0 + 1)) 7)))]]) rfl (fun H locs hP hD hS => ?_)
        obtain ⟨r_24_2, er_24_2⟩ : ∃ zz9 : Row, zz9 = upd f 0 (f 0 + 1) := ⟨_, rfl⟩
        rw [← er_24_2] at hP hD
        exact retI S hr hlk (by have e9 : rHold r s9 pp = .inl 0 := (by unfold rHold; rw [if_pos c_6, if_neg (fun z9 => z9.elim c_11 c_19)]); rw [er_24_2] at hP; rw [e9, rowR_inl, fndC_inl]; exact hP) hS (by have e9 : rHold r s9 pp = .inl 0 := (by unfold rHold; rw [if_pos c_6, if_neg (fun z9 => z9.elim c_11 c_19)]); rw [e9]; decide) dX4_hold_27
set_option maxHeartbeats 800000 in
set_option maxRecDepth 100000 in
theorem c_X4_as (l : Launch) (E : EV) (ag ah az ak : Nat → Nat) (i0 : Int32) (r f : Row) (s9 w : Int32) (hR : RI r) : Met l yX4_as (wq yX4_as cX4_as 4 (some .int)) ({ frames := 2, cells := 0, slots := 0, locals := 43 }) (preB E [.ref (ag 0), .int s9, .int w] [[gObj ag ah az ak i0], hillsW E ah r, [(ag 4, .inl (E.2.1, 7, .inl (sg f 7)))]]) (qI E [[gObj ag ah az ak i0], hillsW E ah r, [(ag 4, .inl (E.2.1, 7, .inl (sg f 7)))]] [[gObj ag ah az ak i0], hillsW E ah (rowR r (rAs r s9 w)), [(ag 4, .inl (E.2.1, 7, .inl (sg (fndC f (rAs r s9 w)) 7)))]] (ansR (rAs r s9 w))) 0 0 (inB [[gObj ag ah az ak i0], hillsW E ah r, [(ag 4, .inl (E.2.1, 7, .inl (sg f 7)))]]) := by
  refine M_mk RX4 (by decide) rfl (Nat.le_of_ble_eq_true rfl) ?_
  intro p e s m below meth c S hr hlk hK hP hD hS ls hl
  have hl : lv_has ls 4 [(0, .ref (ag 0)), (1, .int s9), (2, .int w)] := hl
  obtain ⟨n, d, hn, hn8, hd, hd5, ho, hso, hli, hsp, hpt⟩ := id hR
  obtain ⟨H, hH⟩ : ∃ zz9, zz9 = s.heap := ⟨_, rfl⟩
  obtain ⟨locs, hlocs⟩ : ∃ zz9 : List Loc, zz9 = [] := ⟨_, rfl⟩
  have hP : PE E [[gObj ag ah az ak i0], hillsW E ah r, [(ag 4, .inl (E.2.1, 7, .inl (sg f 7)))]] H := by rw [hH]; exact hP
  have hS : va_S (inB [[gObj ag ah az ak i0], hillsW E ah r, [(ag 4, .inl (E.2.1, 7, .inl (sg f 7)))]]) s.heap H locs := by rw [hH, hlocs]; exact hS
  show W p l e ({ frames := 2, cells := 0, slots := 0, locals := 43 }) s m ([.ref (ag 0), .int s9, .int w] : List Value).toArray below meth c s.heap [] 0 0 _ _
  suffices hgo : W p l e ({ frames := 2, cells := 0, slots := 0, locals := 43 }) s m ([.ref (ag 0), .int s9, .int w] : List Value).toArray below meth c H locs 0 0 (MQ below (qI E [[gObj ag ah az ak i0], hillsW E ah r, [(ag 4, .inl (E.2.1, 7, .inl (sg f 7)))]] [[gObj ag ah az ak i0], hillsW E ah (rowR r (rAs r s9 w)), [(ag 4, .inl (E.2.1, 7, .inl (sg (fndC f (rAs r s9 w)) 7)))]] (ansR (rAs r s9 w))) ([.ref (ag 0), .int s9, .int w] : List Value).toArray s 0 0 (inB [[gObj ag ah az ak i0], hillsW E ah r, [(ag 4, .inl (E.2.1, 7, .inl (sg f 7)))]])) (F0 m 0 ls []) by rw [hH, hlocs] at hgo; exact hgo
  clear hH hlocs
  refine lv_iload_n S.1 S.2.1 dX4_as_0 rfl (lv_at hl 1 rfl) ?_
  refine lv_bipush (v := 9) S.1 S.2.1 dX4_as_1 (by decide) ?_
  refine go_S (run_S (As := [.int s9, .int 9]) (rest := []) (n := 2) S hK (bl_P hP [] rfl) (bl_D hD [] rfl rfl) (c_X4_isWithin l E s9 9 ) gS_X4_44 (by decide +kernel) rfl ⟨rfl, rfl⟩ ⟨Nat.le_of_ble_eq_true rfl, Nat.le_of_ble_eq_true rfl⟩ hl.1 (Nat.le_of_ble_eq_true rfl) dX4_as_3 ⟨Nat.zero_le _, Nat.zero_le _⟩) ?_
  refine b_ifeq (tgt := 18) S.1 S.2.1 dX4_as_6 (by decide) (fun c_6 => ?_) (fun c_6 => ?_)
  · refine lv_aload_n S.1 S.2.1 dX4_as_18 rfl (lv_at hl 0 rfl) ?_
    refine lv_iconst (v := 0) S.1 S.2.1 dX4_as_19 (by decide) ?_
    refine go_I (run_V (As := [.int 0]) (rest := []) (n := 1) S hK (bl_P hP [0, 2] rfl) (bl_D hD [0, 2] rfl rfl) (c_X4_finding l E ag ah az ak i0 f 0 (by decide)) gV_X4_48 (by decide +kernel) rfl ⟨rfl, rfl⟩ ⟨Nat.le_of_ble_eq_true rfl, Nat.le_of_ble_eq_true rfl⟩ (ci := 4) (q0 := 0) rfl rfl hl.1 (Nat.le_of_ble_eq_true rfl) dX4_as_20 ⟨Nat.zero_le _, Nat.zero_le _⟩) hP hD hS [0, 2] rfl (had_cons rfl (had_cons cell_ad rfl)) (Bs' := [[gObj ag ah az ak i0], hillsW E ah r, [(ag 4, .inl (E.2.1, 7, .inl (sg (upd f 0 (f 0 + 1)) 7)))]]) rfl (fun H locs hP hD hS => ?_)
    obtain ⟨r_20, er_20⟩ : ∃ zz9 : Row, zz9 = upd f 0 (f 0 + 1) := ⟨_, rfl⟩
    rw [← er_20] at hP hD
    exact retI S hr hlk (by have e9 : rAs r s9 w = .inl 0 := (by unfold rAs; rw [if_neg c_6]); rw [er_20] at hP; rw [e9, rowR_inl, fndC_inl]; exact hP) hS (by have e9 : rAs r s9 w = .inl 0 := (by unfold rAs; rw [if_neg c_6]); rw [e9]; decide) dX4_as_23
  · obtain ⟨k_s9, hk_s9, ek_s9⟩ := nI_of2 (n := 9) (by decide) (Int32.not_lt.mpr c_6.1) c_6.2
    refine lv_iload_n S.1 S.2.1 dX4_as_9 rfl (lv_at hl 2 rfl) ?_
    refine lv_bipush (v := 6) S.1 S.2.1 dX4_as_10 (by decide) ?_
    refine go_S (run_S (As := [.int w, .int 6]) (rest := []) (n := 2) S hK (bl_P hP [] rfl) (bl_D hD [] rfl rfl) (c_X4_isWithin l E w 6 ) gS_X4_44 (by decide +kernel) rfl ⟨rfl, rfl⟩ ⟨Nat.le_of_ble_eq_true rfl, Nat.le_of_ble_eq_true rfl⟩ hl.1 (Nat.le_of_ble_eq_true rfl) dX4_as_12 ⟨Nat.zero_le _, Nat.zero_le _⟩) ?_
    refine b_ifne (tgt := 24) S.1 S.2.1 dX4_as_15 (by decide) (fun c_15 => ?_) (fun c_15 => ?_)
    · obtain ⟨k_w, hk_w, ek_w⟩ := nI_of2 (n := 6) (by decide) (Int32.not_lt.mpr c_15.1) c_15.2
      refine lv_aload_n S.1 S.2.1 dX4_as_24 rfl (lv_at hl 0 rfl) ?_
      refine gf_X4_10 S hK hP 0 0 rfl rfl rfl dX4_as_25 ?_
      refine gf_X4_219 S hK hP 1 0 rfl rfl rfl dX4_as_28 ?_
      refine lv_iload_n S.1 S.2.1 dX4_as_31 rfl (lv_at hl 1 rfl) ?_
      refine lv_eqi (y := nI k_s9) ek_s9 ?_
      refine b_ialdN (i := k_s9) S hK hP 1 3 rfl rfl (by omega) (by decide) dX4_as_32 ?_
      refine lv_eqi (y := r (11 + k_s9)) (seg_at (by omega)) ?_
      have hsp9 := hsp k_s9 (by omega)
      refine lv_istore_n (lv' := [(3, .int (r (11 + k_s9))), (0, .ref (ag 0)), (1, .int s9), (2, .int w)]) S.1 S.2.1 dX4_as_33 rfl hl (by decide) rfl (fun ls hl => ?_)
      refine lv_aload_n S.1 S.2.1 dX4_as_34 rfl (lv_at hl 1 rfl) ?_
      refine lv_iload_n S.1 S.2.1 dX4_as_35 rfl (lv_at hl 0 rfl) ?_
      refine go_S (run_V (As := [.int (r (11 + k_s9))]) (rest := []) (n := 1) S hK (bl_P hP [0, 1] rfl) (bl_D hD [0, 1] rfl rfl) (c_X4_isPotter l E ag ah az ak i0 r (r (11 + k_s9)) ) gV_X4_67 (by decide +kernel) rfl ⟨rfl, rfl⟩ ⟨Nat.le_of_ble_eq_true rfl, Nat.le_of_ble_eq_true rfl⟩ (ci := 4) (q0 := 0) rfl rfl hl.1 (Nat.le_of_ble_eq_true rfl) dX4_as_36 ⟨Nat.zero_le _, Nat.zero_le _⟩) ?_
      refine b_ifne (tgt := 48) S.1 S.2.1 dX4_as_39 (by decide) (fun c_39 => ?_) (fun c_39 => ?_)
      · obtain ⟨k_c, hk_c, ek_c⟩ := pot_nat c_39 hn (by omega)
        refine lv_aload_n S.1 S.2.1 dX4_as_48 rfl (lv_at hl 1 rfl) ?_
        refine gf_X4_10 S hK hP 0 0 rfl rfl rfl dX4_as_49 ?_
        refine gf_X4_71 S hK hP 1 0 rfl rfl rfl dX4_as_52 ?_
        refine lv_iload_n S.1 S.2.1 dX4_as_55 rfl (lv_at hl 0 rfl) ?_
        refine lv_eqi (y := nI k_c) ek_c ?_
        refine b_aaldN (i := k_c) S hK hP 2 1 2 rfl rfl rfl (by omega) (by decide) (v := ah (4 + k_c)) rfl dX4_as_56 ?_
        refine lv_iload_n S.1 S.2.1 dX4_as_57 rfl (lv_at hl 3 rfl) ?_
        refine lv_eqi (y := nI k_w) ek_w ?_
        refine go_S (run_V (As := [.int (nI k_w)]) (rest := []) (n := 1) S hK (cell_P hP (b := 1) (j := (4 + k_c)) rfl (hw_pot (by omega))) cell_D (c_X1_isUnder l E (ah (4 + k_c)) (r (21 + 7 * k_c)) (r (21 + 7 * k_c + 1)) (r (21 + 7 * k_c + 2)) (r (21 + 7 * k_c + 3)) (r (21 + 7 * k_c + 4)) (r (21 + 7 * k_c + 5)) (r (21 + 7 * k_c + 6)) (nI k_w)) gV_X4_222 (by decide +kernel) rfl ⟨rfl, rfl⟩ ⟨Nat.le_of_ble_eq_true rfl, Nat.le_of_ble_eq_true rfl⟩ (ci := 1) (q0 := 0) rfl rfl hl.1 (Nat.le_of_ble_eq_true rfl) dX4_as_58 ⟨Nat.zero_le _, Nat.zero_le _⟩) ?_
        refine b_ifne (tgt := 70) S.1 S.2.1 dX4_as_61 (by decide) (fun c_61 => ?_) (fun c_61 => ?_)
        · refine lv_iload_n S.1 S.2.1 dX4_as_70 rfl (lv_at hl 0 rfl) ?_
          refine lv_eqi (y := nI k_c) ek_c ?_
          exact retI S hr hlk (by have e9 : rAs r s9 w = .inr (r, nI k_c) := (by have c52 : undN 5 (r (21 + 7 * k_c)) w = true := (by rw [ek_w, ← uN_und _ (show le9 (r (21 + 7 * k_c)) 6 from hpt k_c hk_c 0 (by decide))]; exact c_61); unfold rAs; rw [if_pos c_6, if_pos c_15, ek_s9, tN_nI (by omega), if_neg (by rw [ek_c]; exact nI_pos (by omega)), ek_c, tN_nI (by omega), if_pos c52]); rw [e9, rowR_inr, fndC_inr]; exact hP) hS (by have e9 : rAs r s9 w = .inr (r, nI k_c) := (by have c52 : undN 5 (r (21 + 7 * k_c)) w = true := (by rw [ek_w, ← uN_und _ (show le9 (r (21 + 7 * k_c)) 6 from hpt k_c hk_c 0 (by decide))]; exact c_61); unfold rAs; rw [if_pos c_6, if_pos c_15, ek_s9, tN_nI (by omega), if_neg (by rw [ek_c]; exact nI_pos (by omega)), ek_c, tN_nI (by omega), if_pos c52]); rw [e9, ansR_inr]) dX4_as_71
        · refine lv_aload_n S.1 S.2.1 dX4_as_64 rfl (lv_at hl 1 rfl) ?_
          refine lv_iconst (v := 2) S.1 S.2.1 dX4_as_65 (by decide) ?_
          refine go_I (run_V (As := [.int 2]) (rest := []) (n := 1) S hK (bl_P hP [0, 2] rfl) (bl_D hD [0, 2] rfl rfl) (c_X4_finding l E ag ah az ak i0 f 2 (by decide)) gV_X4_48 (by decide +kernel) rfl ⟨rfl, rfl⟩ ⟨Nat.le_of_ble_eq_true rfl, Nat.le_of_ble_eq_true rfl⟩ (ci := 4) (q0 := 0) rfl rfl hl.1 (Nat.le_of_ble_eq_true rfl) dX4_as_66 ⟨Nat.zero_le _, Nat.zero_le _⟩) hP hD hS [0, 2] rfl (had_cons rfl (had_cons cell_ad rfl)) (Bs' := [[gObj ag ah az ak i0], hillsW E ah r, [(ag 4, .inl (E.2.1, 7, .inl (sg (upd f 2 (f 2 + 1)) 7)))]]) rfl (fun H locs hP hD hS => ?_)
          obtain ⟨r_66, er_66⟩ : ∃ zz9 : Row, zz9 = upd f 2 (f 2 + 1) := ⟨_, rfl⟩
          rw [← er_66] at hP hD
          exact retI S hr hlk (by have e9 : rAs r s9 w = .inl 2 := (by have c52 : ¬ undN 5 (r (21 + 7 * k_c)) w = true := (by rw [ek_w, ← uN_und _ (show le9 (r (21 + 7 * k_c)) 6 from hpt k_c hk_c 0 (by decide))]; exact c_61); unfold rAs; rw [if_pos c_6, if_pos c_15, ek_s9, tN_nI (by omega), if_neg (by rw [ek_c]; exact nI_pos (by omega)), ek_c, tN_nI (by omega), if_neg c52]); rw [er_66] at hP; rw [e9, rowR_inl, fndC_inl]; exact hP) hS (by have e9 : rAs r s9 w = .inl 2 := (by have c52 : ¬ undN 5 (r (21 + 7 * k_c)) w = true := (by rw [ek_w, ← uN_und _ (show le9 (r (21 + 7 * k_c)) 6 from hpt k_c hk_c 0 (by decide))]; exact c_61); unfold rAs; rw [if_pos c_6, if_pos c_15, ek_s9, tN_nI (by omega), if_neg (by rw [ek_c]; exact nI_pos (by omega)), ek_c, tN_nI (by omega), if_neg c52]); rw [e9]; decide) dX4_as_69
      · refine lv_aload_n S.1 S.2.1 dX4_as_42 rfl (lv_at hl 1 rfl) ?_
        refine lv_iconst (v := 5) S.1 S.2.1 dX4_as_43 (by decide) ?_
        refine go_I (run_V (As := [.int 5]) (rest := []) (n := 1) S hK (bl_P hP [0, 2] rfl) (bl_D hD [0, 2] rfl rfl) (c_X4_finding l E ag ah az ak i0 f 5 (by decide)) gV_X4_48 (by decide +kernel) rfl ⟨rfl, rfl⟩ ⟨Nat.le_of_ble_eq_true rfl, Nat.le_of_ble_eq_true rfl⟩ (ci := 4) (q0 := 0) rfl rfl hl.1 (Nat.le_of_ble_eq_true rfl) dX4_as_44 ⟨Nat.zero_le _, Nat.zero_le _⟩) hP hD hS [0, 2] rfl (had_cons rfl (had_cons cell_ad rfl)) (Bs' := [[gObj ag ah az ak i0], hillsW E ah r, [(ag 4, .inl (E.2.1, 7, .inl (sg (upd f 5 (f 5 + 1)) 7)))]]) rfl (fun H locs hP hD hS => ?_)
        obtain ⟨r_44, er_44⟩ : ∃ zz9 : Row, zz9 = upd f 5 (f 5 + 1) := ⟨_, rfl⟩
        rw [← er_44] at hP hD
        exact retI S hr hlk (by have e9 : rAs r s9 w = .inl 5 := (by unfold rAs; rw [if_pos c_6, if_pos c_15, ek_s9, tN_nI (by omega), if_pos (as_neg hsp9 hn hn8 c_39)]); rw [er_44] at hP; rw [e9, rowR_inl, fndC_inl]; exact hP) hS (by have e9 : rAs r s9 w = .inl 5 := (by unfold rAs; rw [if_pos c_6, if_pos c_15, ek_s9, tN_nI (by omega), if_pos (as_neg hsp9 hn hn8 c_39)]); rw [e9]; decide) dX4_as_47
    · refine lv_aload_n S.1 S.2.1 dX4_as_18 rfl (lv_at hl 0 rfl) ?_
      refine lv_iconst (v := 0) S.1 S.2.1 dX4_as_19 (by decide) ?_
      refine go_I (run_V (As := [.int 0]) (rest := []) (n := 1) S hK (bl_P hP [0, 2] rfl) (bl_D hD [0, 2] rfl rfl) (c_X4_finding l E ag ah az ak i0 f 0 (by decide)) gV_X4_48 (by decide +kernel) rfl ⟨rfl, rfl⟩ ⟨Nat.le_of_ble_eq_true rfl, Nat.le_of_ble_eq_true rfl⟩ (ci := 4) (q0 := 0) rfl rfl hl.1 (Nat.le_of_ble_eq_true rfl) dX4_as_20 ⟨Nat.zero_le _, Nat.zero_le _⟩) hP hD hS [0, 2] rfl (had_cons rfl (had_cons cell_ad rfl)) (Bs' := [[gObj ag ah az ak i0], hillsW E ah r, [(ag 4, .inl (E.2.1, 7, .inl (sg (upd f 0 (f 0 + 1)) 7)))]]) rfl (fun H locs hP hD hS => ?_)
      obtain ⟨r_20_1, er_20_1⟩ : ∃ zz9 : Row, zz9 = upd f 0 (f 0 + 1) := ⟨_, rfl⟩
      rw [← er_20_1] at hP hD
      exact retI S hr hlk (by have e9 : rAs r s9 w = .inl 0 := (by unfold rAs; rw [if_pos c_6, if_neg c_15]); rw [er_20_1] at hP; rw [e9, rowR_inl, fndC_inl]; exact hP) hS (by have e9 : rAs r s9 w = .inl 0 := (by unfold rAs; rw [if_pos c_6, if_neg c_15]); rw [e9]; decide) dX4_as_23
set_option maxHeartbeats 800000 in
set_option maxRecDepth 100000 in
theorem c_X4_image (l : Launch) (E : EV) (ag ah az ak : Nat → Nat) (i0 : Int32) (r y : Row) (hR : RI r) : Met l yX4_image (wq yX4_image cX4_image 1 (some .int)) ({ frames := 2, cells := 0, slots := 0, locals := 48 }) (preB E [.ref (ag 0)] [[gObj ag ah az ak i0], hillsW E ah r, hillsW E ak y]) (qI E [[gObj ag ah az ak i0], hillsW E ah r, hillsW E ak y] [[gObj ag ah az ak 1], hillsW E ah r, hillsW E ak (becF y r)] 1) 0 0 (inB [[gObj ag ah az ak i0], hillsW E ah r, hillsW E ak y]) := by
  refine M_mk RX4 (by decide) rfl (Nat.le_of_ble_eq_true rfl) ?_
  intro p e s m below meth c S hr hlk hK hP hD hS ls hl
  have hl : lv_has ls 1 [(0, .ref (ag 0))] := hl
  obtain ⟨n, d, hn, hn8, hd, hd5, ho, hso, hli, hsp, hpt⟩ := id hR
  obtain ⟨H, hH⟩ : ∃ zz9, zz9 = s.heap := ⟨_, rfl⟩
  obtain ⟨locs, hlocs⟩ : ∃ zz9 : List Loc, zz9 = [] := ⟨_, rfl⟩
  have hP : PE E [[gObj ag ah az ak i0], hillsW E ah r, hillsW E ak y] H := by rw [hH]; exact hP
  have hS : va_S (inB [[gObj ag ah az ak i0], hillsW E ah r, hillsW E ak y]) s.heap H locs := by rw [hH, hlocs]; exact hS
  show W p l e ({ frames := 2, cells := 0, slots := 0, locals := 48 }) s m ([.ref (ag 0)] : List Value).toArray below meth c s.heap [] 0 0 _ _
  suffices hgo : W p l e ({ frames := 2, cells := 0, slots := 0, locals := 48 }) s m ([.ref (ag 0)] : List Value).toArray below meth c H locs 0 0 (MQ below (qI E [[gObj ag ah az ak i0], hillsW E ah r, hillsW E ak y] [[gObj ag ah az ak 1], hillsW E ah r, hillsW E ak (becF y r)] 1) ([.ref (ag 0)] : List Value).toArray s 0 0 (inB [[gObj ag ah az ak i0], hillsW E ah r, hillsW E ak y])) (F0 m 0 ls []) by rw [hH, hlocs] at hgo; exact hgo
  clear hH hlocs
  refine lv_aload_n S.1 S.2.1 dX4_image_0 rfl (lv_at hl 0 rfl) ?_
  refine gf_X4_19 S hK hP 0 0 rfl rfl rfl dX4_image_1 ?_
  refine lv_aload_n S.1 S.2.1 dX4_image_4 rfl (lv_at hl 0 rfl) ?_
  refine gf_X4_10 S hK hP 0 0 rfl rfl rfl dX4_image_5 ?_
  refine go_V (run_V (As := [.ref (ah 0)]) (rest := []) (n := 1) S hK (bl_P hP [2, 1] rfl) (bl_D hD [2, 1] rfl rfl) (c_X0_become l E ak ah y r n hn hn8) gV_X4_135 (by decide +kernel) rfl ⟨rfl, rfl⟩ ⟨Nat.le_of_ble_eq_true rfl, Nat.le_of_ble_eq_true rfl⟩ (ci := 0) (q0 := 0) rfl rfl hl.1 (Nat.le_of_ble_eq_true rfl) dX4_image_8 ⟨Nat.zero_le _, Nat.zero_le _⟩) hP hD hS [2, 1] rfl (had_cons hw_ad (had_cons rfl rfl)) (Bs' := [[gObj ag ah az ak i0], hillsW E ah r, hillsW E ak (becF y r)]) rfl (fun H locs hP hD hS => ?_)
  obtain ⟨r_8, er_8⟩ : ∃ zz9 : Row, zz9 = becF y r := ⟨_, rfl⟩
  rw [← er_8] at hP hD
  have hev_r_8 : Ev r_8 r := by rw [er_8]; exact Ev.bec
  have hRI_r_8 : RI r_8 := RI_ev hev_r_8.sy hR
  have hr_8_1 : r_8 1 = nI n := (hev_r_8.lo (by decide)).trans hn
  have hr_8_0 : r_8 0 = nI d := (hev_r_8.lo (by decide)).trans hd
  refine lv_aload_n S.1 S.2.1 dX4_image_11 rfl (lv_at hl 0 rfl) ?_
  refine lv_iconst (v := 1) S.1 S.2.1 dX4_image_12 (by decide) ?_
  refine pf_X4_22 S hK hP hD hS 0 0 rfl rfl rfl rfl (Nat.le_of_ble_eq_true rfl) rfl (Bs1 := [[gObj ag ah az ak 1], hillsW E ah r, hillsW E ak r_8]) rfl dX4_image_13 (fun H locs hP hD hS => ?_)
  refine lv_iconst (v := 1) S.1 S.2.1 dX4_image_16 (by decide) ?_
  exact retI S hr hlk (by rw [← er_8]; exact hP) hS rfl dX4_image_17
set_option maxHeartbeats 800000 in
set_option maxRecDepth 100000 in
theorem c_X4_undo (l : Launch) (E : EV) (ag ah az ak : Nat → Nat) (i0 : Int32) (r y f : Row) (hR : RI y) : Met l yX4_undo (wq yX4_undo cX4_undo 1 (some .int)) ({ frames := 2, cells := 0, slots := 0, locals := 48 }) (preB E [.ref (ag 0)] [[gObj ag ah az ak i0], hillsW E ah r, [(ag 4, .inl (E.2.1, 7, .inl (sg f 7)))], hillsW E ak y]) (qI E [[gObj ag ah az ak i0], hillsW E ah r, [(ag 4, .inl (E.2.1, 7, .inl (sg f 7)))], hillsW E ak y] [[gObj ag ah az ak i0], hillsW E ah (pick (rUndo y i0) r (becF r y)), [(ag 4, .inl (E.2.1, 7, .inl (sg (fndC f (rUndo y i0)) 7)))], hillsW E ak y] (ansR (rUndo y i0))) 0 0 (inB [[gObj ag ah az ak i0], hillsW E ah r, [(ag 4, .inl (E.2.1, 7, .inl (sg f 7)))], hillsW E ak y]) := by
  refine M_mk RX4 (by decide) rfl (Nat.le_of_ble_eq_true rfl) ?_
  intro p e s m below meth c S hr hlk hK hP hD hS ls hl
  have hl : lv_has ls 1 [(0, .ref (ag 0))] := hl
  obtain ⟨n, d, hn, hn8, hd, hd5, ho, hso, hli, hsp, hpt⟩ := id hR
  obtain ⟨H, hH⟩ : ∃ zz9, zz9 = s.heap := ⟨_, rfl⟩
  obtain ⟨locs, hlocs⟩ : ∃ zz9 : List Loc, zz9 = [] := ⟨_, rfl⟩
  have hP : PE E [[gObj ag ah az ak i0], hillsW E ah r, [(ag 4, .inl (E.2.1, 7, .inl (sg f 7)))], hillsW E ak y] H := by rw [hH]; exact hP
  have hS : va_S (inB [[gObj ag ah az ak i0], hillsW E ah r, [(ag 4, .inl (E.2.1, 7, .inl (sg f 7)))], hillsW E ak y]) s.heap H locs := by rw [hH, hlocs]; exact hS
  show W p l e ({ frames := 2, cells := 0, slots := 0, locals := 48 }) s m ([.ref (ag 0)] : List Value).toArray below meth c s.heap [] 0 0 _ _
  suffices hgo : W p l e ({ frames := 2, cells := 0, slots := 0, locals := 48 }) s m ([.ref (ag 0)] : List Value).toArray below meth c H locs 0 0 (MQ below (qI E [[gObj ag ah az ak i0], hillsW E ah r, [(ag 4, .inl (E.2.1, 7, .inl (sg f 7)))], hillsW E ak y] [[gObj ag ah az ak i0], hillsW E ah (pick (rUndo y i0) r (becF r y)), [(ag 4, .inl (E.2.1, 7, .inl (sg (fndC f (rUndo y i0)) 7)))], hillsW E ak y] (ansR (rUndo y i0))) ([.ref (ag 0)] : List Value).toArray s 0 0 (inB [[gObj ag ah az ak i0], hillsW E ah r, [(ag 4, .inl (E.2.1, 7, .inl (sg f 7)))], hillsW E ak y])) (F0 m 0 ls []) by rw [hH, hlocs] at hgo; exact hgo
  clear hH hlocs
  refine lv_aload_n S.1 S.2.1 dX4_undo_0 rfl (lv_at hl 0 rfl) ?_
  refine gf_X4_22 S hK hP 0 0 rfl rfl rfl dX4_undo_1 ?_
  refine lv_if_ne (tgt := 13) S.1 S.2.1 dX4_undo_4 (by decide) (fun c_4 => ?_) (fun c_4 => ?_)
  · refine lv_aload_n S.1 S.2.1 dX4_undo_13 rfl (lv_at hl 0 rfl) ?_
    refine gf_X4_10 S hK hP 0 0 rfl rfl rfl dX4_undo_14 ?_
    refine lv_aload_n S.1 S.2.1 dX4_undo_17 rfl (lv_at hl 0 rfl) ?_
    refine gf_X4_19 S hK hP 0 0 rfl rfl rfl dX4_undo_18 ?_
    refine go_V (run_V (As := [.ref (ak 0)]) (rest := []) (n := 1) S hK (bl_P hP [1, 3] rfl) (bl_D hD [1, 3] rfl rfl) (c_X0_become l E ah ak r y n hn hn8) gV_X4_135 (by decide +kernel) rfl ⟨rfl, rfl⟩ ⟨Nat.le_of_ble_eq_true rfl, Nat.le_of_ble_eq_true rfl⟩ (ci := 0) (q0 := 0) rfl rfl hl.1 (Nat.le_of_ble_eq_true rfl) dX4_undo_21 ⟨Nat.zero_le _, Nat.zero_le _⟩) hP hD hS [1, 3] rfl (had_cons hw_ad (had_cons rfl rfl)) (Bs' := [[gObj ag ah az ak i0], hillsW E ah (becF r y), [(ag 4, .inl (E.2.1, 7, .inl (sg f 7)))], hillsW E ak y]) rfl (fun H locs hP hD hS => ?_)
    obtain ⟨r_21, er_21⟩ : ∃ zz9 : Row, zz9 = becF r y := ⟨_, rfl⟩
    rw [← er_21] at hP hD
    have hev_r_21 : Ev r_21 y := by rw [er_21]; exact Ev.bec
    have hRI_r_21 : RI r_21 := RI_ev hev_r_21.sy hR
    have hr_21_1 : r_21 1 = nI n := (hev_r_21.lo (by decide)).trans hn
    have hr_21_0 : r_21 0 = nI d := (hev_r_21.lo (by decide)).trans hd
    refine lv_aload_n S.1 S.2.1 dX4_undo_24 rfl (lv_at hl 0 rfl) ?_
    refine gf_X4_10 S hK hP 0 0 rfl rfl rfl dX4_undo_25 ?_
    refine gf_X4_109 S hK hP 1 0 rfl rfl (congrArg (fun z => some (Value.int z)) hr_21_0) dX4_undo_28 ?_
    exact retI S hr hlk (by have e9 : rUndo y i0 = .inr (y, y 0) := (by unfold rUndo; rw [if_neg c_4]); rw [e9, pick_inr, fndC_inr, ← er_21]; exact hP) hS (by have e9 : rUndo y i0 = .inr (y, y 0) := (by unfold rUndo; rw [if_neg c_4]); rw [e9, ansR_inr, hd]) dX4_undo_31
  · refine lv_aload_n S.1 S.2.1 dX4_undo_7 rfl (lv_at hl 0 rfl) ?_
    refine lv_iconst (v := 3) S.1 S.2.1 dX4_undo_8 (by decide) ?_
    refine go_I (run_V (As := [.int 3]) (rest := []) (n := 1) S hK (bl_P hP [0, 2] rfl) (bl_D hD [0, 2] rfl rfl) (c_X4_finding l E ag ah az ak i0 f 3 (by decide)) gV_X4_48 (by decide +kernel) rfl ⟨rfl, rfl⟩ ⟨Nat.le_of_ble_eq_true rfl, Nat.le_of_ble_eq_true rfl⟩ (ci := 4) (q0 := 0) rfl rfl hl.1 (Nat.le_of_ble_eq_true rfl) dX4_undo_9 ⟨Nat.zero_le _, Nat.zero_le _⟩) hP hD hS [0, 2] rfl (had_cons rfl (had_cons cell_ad rfl)) (Bs' := [[gObj ag ah az ak i0], hillsW E ah r, [(ag 4, .inl (E.2.1, 7, .inl (sg (upd f 3 (f 3 + 1)) 7)))], hillsW E ak y]) rfl (fun H locs hP hD hS => ?_)
    obtain ⟨r_9, er_9⟩ : ∃ zz9 : Row, zz9 = upd f 3 (f 3 + 1) := ⟨_, rfl⟩
    rw [← er_9] at hP hD
    exact retI S hr hlk (by have e9 : rUndo y i0 = .inl 3 := (by unfold rUndo; rw [if_pos c_4]); rw [er_9] at hP; rw [e9, pick_inl, fndC_inl]; exact hP) hS (by have e9 : rUndo y i0 = .inl 3 := (by unfold rUndo; rw [if_pos c_4]); rw [e9]; decide) dX4_undo_12
set_option maxHeartbeats 800000 in
set_option maxRecDepth 100000 in
theorem c_X4_tear (l : Launch) (E : EV) (ag ah az ak : Nat → Nat) (i0 : Int32)  : Met l yX4_tear (wq yX4_tear cX4_tear 2 (some .int)) ({ frames := 0, cells := 0, slots := 0, locals := 0 }) (preB E [.ref (ag 0)] [[gObj ag ah az ak i0]]) (qI E [[gObj ag ah az ak i0]] [[gObj ag ah az ak 0]] (bI (¬ i0 = 0))) 0 0 (inB [[gObj ag ah az ak i0]]) := by
  refine M_mk RX4 (by decide) rfl (Nat.le_of_ble_eq_true rfl) ?_
  intro p e s m below meth c S hr hlk hK hP hD hS ls hl
  have hl : lv_has ls 2 [(0, .ref (ag 0))] := hl
  obtain ⟨H, hH⟩ : ∃ zz9, zz9 = s.heap := ⟨_, rfl⟩
  obtain ⟨locs, hlocs⟩ : ∃ zz9 : List Loc, zz9 = [] := ⟨_, rfl⟩
  have hP : PE E [[gObj ag ah az ak i0]] H := by rw [hH]; exact hP
  have hS : va_S (inB [[gObj ag ah az ak i0]]) s.heap H locs := by rw [hH, hlocs]; exact hS
  show W p l e ({ frames := 0, cells := 0, slots := 0, locals := 0 }) s m ([.ref (ag 0)] : List Value).toArray below meth c s.heap [] 0 0 _ _
  suffices hgo : W p l e ({ frames := 0, cells := 0, slots := 0, locals := 0 }) s m ([.ref (ag 0)] : List Value).toArray below meth c H locs 0 0 (MQ below (qI E [[gObj ag ah az ak i0]] [[gObj ag ah az ak 0]] (bI (¬ i0 = 0))) ([.ref (ag 0)] : List Value).toArray s 0 0 (inB [[gObj ag ah az ak i0]])) (F0 m 0 ls []) by rw [hH, hlocs] at hgo; exact hgo
  clear hH hlocs
  refine lv_aload_n S.1 S.2.1 dX4_tear_0 rfl (lv_at hl 0 rfl) ?_
  refine gf_X4_22 S hK hP 0 0 rfl rfl rfl dX4_tear_1 ?_
  refine lv_if_eq (tgt := 11) S.1 S.2.1 dX4_tear_4 (by decide) (fun c_4 => ?_) (fun c_4 => ?_)
  · refine lv_iconst (v := 0) S.1 S.2.1 dX4_tear_11 (by decide) ?_
    refine lv_istore_n (lv' := [(1, .int 0), (0, .ref (ag 0))]) S.1 S.2.1 dX4_tear_12 rfl hl (by decide) rfl (fun ls hl => ?_)
    refine lv_aload_n S.1 S.2.1 dX4_tear_13 rfl (lv_at hl 1 rfl) ?_
    refine lv_iconst (v := 0) S.1 S.2.1 dX4_tear_14 (by decide) ?_
    refine pf_X4_22 S hK hP hD hS 0 0 rfl rfl rfl rfl (Nat.le_of_ble_eq_true rfl) rfl (Bs1 := [[gObj ag ah az ak 0]]) rfl dX4_tear_15 (fun H locs hP hD hS => ?_)
    refine lv_iload_n S.1 S.2.1 dX4_tear_18 rfl (lv_at hl 0 rfl) ?_
    exact retI S hr hlk hP hS (if_neg (fun z9 => z9 c_4)).symm dX4_tear_19
  · refine lv_iconst (v := 1) S.1 S.2.1 dX4_tear_7 (by decide) ?_
    refine lv_goto (tgt := 12) S.1 S.2.1 dX4_tear_8 (by decide) ?_
    refine lv_istore_n (lv' := [(1, .int 1), (0, .ref (ag 0))]) S.1 S.2.1 dX4_tear_12 rfl hl (by decide) rfl (fun ls hl => ?_)
    refine lv_aload_n S.1 S.2.1 dX4_tear_13 rfl (lv_at hl 1 rfl) ?_
    refine lv_iconst (v := 0) S.1 S.2.1 dX4_tear_14 (by decide) ?_
    refine pf_X4_22 S hK hP hD hS 0 0 rfl rfl rfl rfl (Nat.le_of_ble_eq_true rfl) rfl (Bs1 := [[gObj ag ah az ak 0]]) rfl dX4_tear_15 (fun H locs hP hD hS => ?_)
    refine lv_iload_n S.1 S.2.1 dX4_tear_18 rfl (lv_at hl 0 rfl) ?_
    exact retI S hr hlk hP hS (if_pos c_4).symm dX4_tear_19
set_option maxHeartbeats 800000 in
set_option maxRecDepth 100000 in
theorem c_X4_count (l : Launch) (E : EV) (ag ah az ak : Nat → Nat) (i0 : Int32) (r f : Row) (len : Nat) (s9 b9 e9 v9 : Int32) (w : Int32) (hR : RI r) : Met l yX4_count (wq yX4_count cX4_count 2 (some .int)) ({ frames := 1, cells := 0, slots := 0, locals := 22 }) (preB E [.ref (ag 0), .int w] [[gObj ag ah az ak i0], hillsW E ah r, [(ag 4, .inl (E.2.1, 7, .inl (sg f 7)))], [rdO ag (nI len) s9 b9 e9 v9]]) (qI E [[gObj ag ah az ak i0], hillsW E ah r, [(ag 4, .inl (E.2.1, 7, .inl (sg f 7)))], [rdO ag (nI len) s9 b9 e9 v9]] [[gObj ag ah az ak i0], hillsW E ah (rowR r (rCount r (nI len) w)), [(ag 4, .inl (E.2.1, 7, .inl (sg (fndC f (rCount r (nI len) w)) 7)))], [rdO ag (nI len) s9 b9 e9 v9]] (ansR (rCount r (nI len) w))) 0 0 (inB [[gObj ag ah az ak i0], hillsW E ah r, [(ag 4, .inl (E.2.1, 7, .inl (sg f 7)))], [rdO ag (nI len) s9 b9 e9 v9]]) := by
  refine M_mk RX4 (by decide) rfl (Nat.le_of_ble_eq_true rfl) ?_
  intro p e s m below meth c S hr hlk hK hP hD hS ls hl
  have hl : lv_has ls 2 [(0, .ref (ag 0)), (1, .int w)] := hl
  obtain ⟨n, d, hn, hn8, hd, hd5, ho, hso, hli, hsp, hpt⟩ := id hR
  obtain ⟨H, hH⟩ : ∃ zz9, zz9 = s.heap := ⟨_, rfl⟩
  obtain ⟨locs, hlocs⟩ : ∃ zz9 : List Loc, zz9 = [] := ⟨_, rfl⟩
  have hP : PE E [[gObj ag ah az ak i0], hillsW E ah r, [(ag 4, .inl (E.2.1, 7, .inl (sg f 7)))], [rdO ag (nI len) s9 b9 e9 v9]] H := by rw [hH]; exact hP
  have hS : va_S (inB [[gObj ag ah az ak i0], hillsW E ah r, [(ag 4, .inl (E.2.1, 7, .inl (sg f 7)))], [rdO ag (nI len) s9 b9 e9 v9]]) s.heap H locs := by rw [hH, hlocs]; exact hS
  show W p l e ({ frames := 1, cells := 0, slots := 0, locals := 22 }) s m ([.ref (ag 0), .int w] : List Value).toArray below meth c s.heap [] 0 0 _ _
  suffices hgo : W p l e ({ frames := 1, cells := 0, slots := 0, locals := 22 }) s m ([.ref (ag 0), .int w] : List Value).toArray below meth c H locs 0 0 (MQ below (qI E [[gObj ag ah az ak i0], hillsW E ah r, [(ag 4, .inl (E.2.1, 7, .inl (sg f 7)))], [rdO ag (nI len) s9 b9 e9 v9]] [[gObj ag ah az ak i0], hillsW E ah (rowR r (rCount r (nI len) w)), [(ag 4, .inl (E.2.1, 7, .inl (sg (fndC f (rCount r (nI len) w)) 7)))], [rdO ag (nI len) s9 b9 e9 v9]] (ansR (rCount r (nI len) w))) ([.ref (ag 0), .int w] : List Value).toArray s 0 0 (inB [[gObj ag ah az ak i0], hillsW E ah r, [(ag 4, .inl (E.2.1, 7, .inl (sg f 7)))], [rdO ag (nI len) s9 b9 e9 v9]])) (F0 m 0 ls []) by rw [hH, hlocs] at hgo; exact hgo
  clear hH hlocs
  refine lv_iload_n S.1 S.2.1 dX4_count_0 rfl (lv_at hl 1 rfl) ?_
  by_cases k_1_0 : w = 0
  · refine lv_tableIn (tgt := 48) S.1 S.2.1 dX4_count_1 (by rw [k_1_0]; decide) (by rw [k_1_0]; decide) (by rw [k_1_0]; rfl) (by decide) ?_
    refine lv_aload_n S.1 S.2.1 dX4_count_48 rfl (lv_at hl 0 rfl) ?_
    refine gf_X4_10 S hK hP 0 0 rfl rfl rfl dX4_count_49 ?_
    refine gf_X4_109 S hK hP 1 0 rfl rfl (congrArg (fun z => some (Value.int z)) hd) dX4_count_52 ?_
    exact retI S hr hlk (by have e9 : rCount r (nI len) w = .inr (r, nI d) := (by unfold rCount; rw [if_pos k_1_0]; (try rw [hd]); (try rw [hn]); try with_reducible rfl); rw [e9, rowR_inr, fndC_inr]; exact hP) hS (by have e9 : rCount r (nI len) w = .inr (r, nI d) := (by unfold rCount; rw [if_pos k_1_0]; (try rw [hd]); (try rw [hn]); try with_reducible rfl); rw [e9, ansR_inr]) dX4_count_55
  by_cases k_1_1 : w = 1
  · refine lv_tableIn (tgt := 56) S.1 S.2.1 dX4_count_1 (by rw [k_1_1]; decide) (by rw [k_1_1]; decide) (by rw [k_1_1]; rfl) (by decide) ?_
    refine lv_aload_n S.1 S.2.1 dX4_count_56 rfl (lv_at hl 0 rfl) ?_
    refine gf_X4_10 S hK hP 0 0 rfl rfl rfl dX4_count_57 ?_
    refine gf_X4_160 S hK hP 1 0 rfl rfl (congrArg (fun z => some (Value.int z)) hn) dX4_count_60 ?_
    exact retI S hr hlk (by have e9 : rCount r (nI len) w = .inr (r, nI n) := (by unfold rCount; rw [if_neg k_1_0, if_pos k_1_1]; (try rw [hd]); (try rw [hn]); try with_reducible rfl); rw [e9, rowR_inr, fndC_inr]; exact hP) hS (by have e9 : rCount r (nI len) w = .inr (r, nI n) := (by unfold rCount; rw [if_neg k_1_0, if_pos k_1_1]; (try rw [hd]); (try rw [hn]); try with_reducible rfl); rw [e9, ansR_inr]) dX4_count_63
  by_cases k_1_2 : w = 2
  · refine lv_tableIn (tgt := 64) S.1 S.2.1 dX4_count_1 (by rw [k_1_2]; decide) (by rw [k_1_2]; decide) (by rw [k_1_2]; rfl) (by decide) ?_
    refine lv_aload_n S.1 S.2.1 dX4_count_64 rfl (lv_at hl 0 rfl) ?_
    refine gf_X4_10 S hK hP 0 0 rfl rfl rfl dX4_count_65 ?_
    refine gf_X4_117 S hK hP 1 0 rfl rfl rfl dX4_count_68 ?_
    exact retI S hr hlk (by have e9 : rCount r (nI len) w = .inr (r, r 4) := (by unfold rCount; rw [if_neg k_1_0, if_neg k_1_1, if_pos k_1_2]; (try rw [hd]); (try rw [hn]); try with_reducible rfl); rw [e9, rowR_inr, fndC_inr]; exact hP) hS (by have e9 : rCount r (nI len) w = .inr (r, r 4) := (by unfold rCount; rw [if_neg k_1_0, if_neg k_1_1, if_pos k_1_2]; (try rw [hd]); (try rw [hn]); try with_reducible rfl); rw [e9, ansR_inr]) dX4_count_71
  by_cases k_1_3 : w = 3
  · refine lv_tableIn (tgt := 72) S.1 S.2.1 dX4_count_1 (by rw [k_1_3]; decide) (by rw [k_1_3]; decide) (by rw [k_1_3]; rfl) (by decide) ?_
    refine lv_aload_n S.1 S.2.1 dX4_count_72 rfl (lv_at hl 0 rfl) ?_
    refine gf_X4_10 S hK hP 0 0 rfl rfl rfl dX4_count_73 ?_
    refine go_S (run_V (As := []) (rest := []) (n := 0) S hK (bl_P hP [1] rfl) (bl_D hD [1] rfl rfl) (c_X0_allPots l E ah r n hn hn8) gV_X4_120 (by decide +kernel) rfl ⟨rfl, rfl⟩ ⟨Nat.le_of_ble_eq_true rfl, Nat.le_of_ble_eq_true rfl⟩ (ci := 0) (q0 := 0) rfl rfl hl.1 (Nat.le_of_ble_eq_true rfl) dX4_count_76 ⟨Nat.zero_le _, Nat.zero_le _⟩) ?_
    exact retI S hr hlk (by have e9 : rCount r (nI len) w = .inr (r, sumR r 5 (cntN r)) := (by unfold rCount; rw [if_neg k_1_0, if_neg k_1_1, if_neg k_1_2, if_pos k_1_3]; (try rw [hd]); (try rw [hn]); try with_reducible rfl); rw [e9, rowR_inr, fndC_inr]; exact hP) hS (by have e9 : rCount r (nI len) w = .inr (r, sumR r 5 (cntN r)) := (by unfold rCount; rw [if_neg k_1_0, if_neg k_1_1, if_neg k_1_2, if_pos k_1_3]; (try rw [hd]); (try rw [hn]); try with_reducible rfl); rw [e9, ansR_inr]) dX4_count_79
  by_cases k_1_4 : w = 4
  · refine lv_tableIn (tgt := 80) S.1 S.2.1 dX4_count_1 (by rw [k_1_4]; decide) (by rw [k_1_4]; decide) (by rw [k_1_4]; rfl) (by decide) ?_
    refine lv_aload_n S.1 S.2.1 dX4_count_80 rfl (lv_at hl 0 rfl) ?_
    refine gf_X4_10 S hK hP 0 0 rfl rfl rfl dX4_count_81 ?_
    refine go_S (run_V (As := []) (rest := []) (n := 0) S hK (bl_P hP [1] rfl) (bl_D hD [1] rfl rfl) (c_X0_allCracked l E ah r n hn hn8) gV_X4_123 (by decide +kernel) rfl ⟨rfl, rfl⟩ ⟨Nat.le_of_ble_eq_true rfl, Nat.le_of_ble_eq_true rfl⟩ (ci := 0) (q0 := 0) rfl rfl hl.1 (Nat.le_of_ble_eq_true rfl) dX4_count_84 ⟨Nat.zero_le _, Nat.zero_le _⟩) ?_
    exact retI S hr hlk (by have e9 : rCount r (nI len) w = .inr (r, sumR r 6 (cntN r)) := (by unfold rCount; rw [if_neg k_1_0, if_neg k_1_1, if_neg k_1_2, if_neg k_1_3, if_pos k_1_4]; (try rw [hd]); (try rw [hn]); try with_reducible rfl); rw [e9, rowR_inr, fndC_inr]; exact hP) hS (by have e9 : rCount r (nI len) w = .inr (r, sumR r 6 (cntN r)) := (by unfold rCount; rw [if_neg k_1_0, if_neg k_1_1, if_neg k_1_2, if_neg k_1_3, if_pos k_1_4]; (try rw [hd]); (try rw [hn]); try with_reducible rfl); rw [e9, ansR_inr]) dX4_count_87
  by_cases k_1_5 : w = 5
  · refine lv_tableIn (tgt := 88) S.1 S.2.1 dX4_count_1 (by rw [k_1_5]; decide) (by rw [k_1_5]; decide) (by rw [k_1_5]; rfl) (by decide) ?_
    refine lv_aload_n S.1 S.2.1 dX4_count_88 rfl (lv_at hl 0 rfl) ?_
    refine gf_X4_35 S hK hP 0 0 rfl rfl rfl dX4_count_89 ?_
    refine gf_X4_212 S hK hP 3 0 rfl rfl rfl dX4_count_92 ?_
    exact retI S hr hlk (by have e9 : rCount r (nI len) w = .inr (r, nI len) := (by unfold rCount; rw [if_neg k_1_0, if_neg k_1_1, if_neg k_1_2, if_neg k_1_3, if_neg k_1_4, if_pos k_1_5]; (try rw [hd]); (try rw [hn]); try with_reducible rfl); rw [e9, rowR_inr, fndC_inr]; exact hP) hS (by have e9 : rCount r (nI len) w = .inr (r, nI len) := (by unfold rCount; rw [if_neg k_1_0, if_neg k_1_1, if_neg k_1_2, if_neg k_1_3, if_neg k_1_4, if_pos k_1_5]; (try rw [hd]); (try rw [hn]); try with_reducible rfl); rw [e9, ansR_inr]) dX4_count_95
  by_cases k_1_6 : w = 6
  · refine lv_tableIn (tgt := 96) S.1 S.2.1 dX4_count_1 (by rw [k_1_6]; decide) (by rw [k_1_6]; decide) (by rw [k_1_6]; rfl) (by decide) ?_
    refine lv_aload_n S.1 S.2.1 dX4_count_96 rfl (lv_at hl 0 rfl) ?_
    refine gf_X4_10 S hK hP 0 0 rfl rfl rfl dX4_count_97 ?_
    refine gf_X4_209 S hK hP 1 0 rfl rfl rfl dX4_count_100 ?_
    exact retI S hr hlk (by have e9 : rCount r (nI len) w = .inr (r, r 2) := (by unfold rCount; rw [if_neg k_1_0, if_neg k_1_1, if_neg k_1_2, if_neg k_1_3, if_neg k_1_4, if_neg k_1_5, if_pos k_1_6]; (try rw [hd]); (try rw [hn]); try with_reducible rfl); rw [e9, rowR_inr, fndC_inr]; exact hP) hS (by have e9 : rCount r (nI len) w = .inr (r, r 2) := (by unfold rCount; rw [if_neg k_1_0, if_neg k_1_1, if_neg k_1_2, if_neg k_1_3, if_neg k_1_4, if_neg k_1_5, if_pos k_1_6]; (try rw [hd]); (try rw [hn]); try with_reducible rfl); rw [e9, ansR_inr]) dX4_count_103
  by_cases k_1_7 : w = 7
  · refine lv_tableIn (tgt := 104) S.1 S.2.1 dX4_count_1 (by rw [k_1_7]; decide) (by rw [k_1_7]; decide) (by rw [k_1_7]; rfl) (by decide) ?_
    refine lv_aload_n S.1 S.2.1 dX4_count_104 rfl (lv_at hl 0 rfl) ?_
    refine gf_X4_10 S hK hP 0 0 rfl rfl rfl dX4_count_105 ?_
    refine go_S (run_V (As := []) (rest := []) (n := 0) S hK (bl_P hP [1] rfl) (bl_D hD [1] rfl rfl) (c_X0_heldSpots l E ah r ) gV_X4_241 (by decide +kernel) rfl ⟨rfl, rfl⟩ ⟨Nat.le_of_ble_eq_true rfl, Nat.le_of_ble_eq_true rfl⟩ (ci := 0) (q0 := 0) rfl rfl hl.1 (Nat.le_of_ble_eq_true rfl) dX4_count_108 ⟨Nat.zero_le _, Nat.zero_le _⟩) ?_
    exact retI S hr hlk (by have e9 : rCount r (nI len) w = .inr (r, heldR r 10) := (by unfold rCount; rw [if_neg k_1_0, if_neg k_1_1, if_neg k_1_2, if_neg k_1_3, if_neg k_1_4, if_neg k_1_5, if_neg k_1_6, if_pos k_1_7]; (try rw [hd]); (try rw [hn]); try with_reducible rfl); rw [e9, rowR_inr, fndC_inr]; exact hP) hS (by have e9 : rCount r (nI len) w = .inr (r, heldR r 10) := (by unfold rCount; rw [if_neg k_1_0, if_neg k_1_1, if_neg k_1_2, if_neg k_1_3, if_neg k_1_4, if_neg k_1_5, if_neg k_1_6, if_pos k_1_7]; (try rw [hd]); (try rw [hn]); try with_reducible rfl); rw [e9, ansR_inr]) dX4_count_111
  have t_1_0 := ne_toInt (n := 0) (by decide) k_1_0
  have t_1_1 := ne_toInt (n := 1) (by decide) k_1_1
  have t_1_2 := ne_toInt (n := 2) (by decide) k_1_2
  have t_1_3 := ne_toInt (n := 3) (by decide) k_1_3
  have t_1_4 := ne_toInt (n := 4) (by decide) k_1_4
  have t_1_5 := ne_toInt (n := 5) (by decide) k_1_5
  have t_1_6 := ne_toInt (n := 6) (by decide) k_1_6
  have t_1_7 := ne_toInt (n := 7) (by decide) k_1_7
  refine lv_tableOut (tgt := 112) S.1 S.2.1 dX4_count_1 (by omega) (by decide) ?_
  refine lv_aload_n S.1 S.2.1 dX4_count_112 rfl (lv_at hl 0 rfl) ?_
  refine lv_iconst (v := 0) S.1 S.2.1 dX4_count_113 (by decide) ?_
  refine go_I (run_V (As := [.int 0]) (rest := []) (n := 1) S hK (bl_P hP [0, 2] rfl) (bl_D hD [0, 2] rfl rfl) (c_X4_finding l E ag ah az ak i0 f 0 (by decide)) gV_X4_48 (by decide +kernel) rfl ⟨rfl, rfl⟩ ⟨Nat.le_of_ble_eq_true rfl, Nat.le_of_ble_eq_true rfl⟩ (ci := 4) (q0 := 0) rfl rfl hl.1 (Nat.le_of_ble_eq_true rfl) dX4_count_114 ⟨Nat.zero_le _, Nat.zero_le _⟩) hP hD hS [0, 2] rfl (had_cons rfl (had_cons cell_ad rfl)) (Bs' := [[gObj ag ah az ak i0], hillsW E ah r, [(ag 4, .inl (E.2.1, 7, .inl (sg (upd f 0 (f 0 + 1)) 7)))], [rdO ag (nI len) s9 b9 e9 v9]]) rfl (fun H locs hP hD hS => ?_)
  obtain ⟨r_114, er_114⟩ : ∃ zz9 : Row, zz9 = upd f 0 (f 0 + 1) := ⟨_, rfl⟩
  rw [← er_114] at hP hD
  exact retI S hr hlk (by have e9 : rCount r (nI len) w = .inl 0 := (by unfold rCount; rw [if_neg k_1_0, if_neg k_1_1, if_neg k_1_2, if_neg k_1_3, if_neg k_1_4, if_neg k_1_5, if_neg k_1_6, if_neg k_1_7]); rw [er_114] at hP; rw [e9, rowR_inl, fndC_inl]; exact hP) hS (by have e9 : rCount r (nI len) w = .inl 0 := (by unfold rCount; rw [if_neg k_1_0, if_neg k_1_1, if_neg k_1_2, if_neg k_1_3, if_neg k_1_4, if_neg k_1_5, if_neg k_1_6, if_neg k_1_7]); rw [e9]; decide) dX4_count_117
set_option maxHeartbeats 800000 in
set_option maxRecDepth 100000 in
theorem c_X4_status (l : Launch) (E : EV) (ag ah az ak : Nat → Nat) (i0 : Int32) (f : Row) (v : Int32)  : Met l yX4_status (wq yX4_status cX4_status 4 (some .int)) ({ frames := 1, cells := 0, slots := 0, locals := 21 }) (preB E [.ref (ag 0), .int v] [[gObj ag ah az ak i0], [(ag 4, .inl (E.2.1, 7, .inl (sg f 7)))]]) (qI E [[gObj ag ah az ak i0], [(ag 4, .inl (E.2.1, 7, .inl (sg f 7)))]] [[gObj ag ah az ak i0], [(ag 4, .inl (E.2.1, 7, .inl (sg (fndC f (rStatC f v)) 7)))]] (ansR (rStatC f v))) 0 0 (inB [[gObj ag ah az ak i0], [(ag 4, .inl (E.2.1, 7, .inl (sg f 7)))]]) := by
  refine M_mk RX4 (by decide) rfl (Nat.le_of_ble_eq_true rfl) ?_
  intro p e s m below meth c S hr hlk hK hP hD hS ls hl
  have hl : lv_has ls 4 [(0, .ref (ag 0)), (1, .int v)] := hl
  obtain ⟨H, hH⟩ : ∃ zz9, zz9 = s.heap := ⟨_, rfl⟩
  obtain ⟨locs, hlocs⟩ : ∃ zz9 : List Loc, zz9 = [] := ⟨_, rfl⟩
  have hP : PE E [[gObj ag ah az ak i0], [(ag 4, .inl (E.2.1, 7, .inl (sg f 7)))]] H := by rw [hH]; exact hP
  have hS : va_S (inB [[gObj ag ah az ak i0], [(ag 4, .inl (E.2.1, 7, .inl (sg f 7)))]]) s.heap H locs := by rw [hH, hlocs]; exact hS
  show W p l e ({ frames := 1, cells := 0, slots := 0, locals := 21 }) s m ([.ref (ag 0), .int v] : List Value).toArray below meth c s.heap [] 0 0 _ _
  suffices hgo : W p l e ({ frames := 1, cells := 0, slots := 0, locals := 21 }) s m ([.ref (ag 0), .int v] : List Value).toArray below meth c H locs 0 0 (MQ below (qI E [[gObj ag ah az ak i0], [(ag 4, .inl (E.2.1, 7, .inl (sg f 7)))]] [[gObj ag ah az ak i0], [(ag 4, .inl (E.2.1, 7, .inl (sg (fndC f (rStatC f v)) 7)))]] (ansR (rStatC f v))) ([.ref (ag 0), .int v] : List Value).toArray s 0 0 (inB [[gObj ag ah az ak i0], [(ag 4, .inl (E.2.1, 7, .inl (sg f 7)))]])) (F0 m 0 ls []) by rw [hH, hlocs] at hgo; exact hgo
  clear hH hlocs
  refine lv_iload_n S.1 S.2.1 dX4_status_0 rfl (lv_at hl 1 rfl) ?_
  refine lv_iconst (v := (-1)) S.1 S.2.1 dX4_status_1 (by decide) ?_
  refine lv_icmp_ne (tgt := 32) S.1 S.2.1 dX4_status_2 (by decide) (fun c_2 => ?_) (fun c_2 => ?_)
  · refine lv_iload_n S.1 S.2.1 dX4_status_32 rfl (lv_at hl 1 rfl) ?_
    refine lv_bipush (v := 6) S.1 S.2.1 dX4_status_33 (by decide) ?_
    refine go_S (run_S (As := [.int v, .int 6]) (rest := []) (n := 2) S hK (bl_P hP [] rfl) (bl_D hD [] rfl rfl) (c_X4_isWithin l E v 6 ) gS_X4_44 (by decide +kernel) rfl ⟨rfl, rfl⟩ ⟨Nat.le_of_ble_eq_true rfl, Nat.le_of_ble_eq_true rfl⟩ hl.1 (Nat.le_of_ble_eq_true rfl) dX4_status_35 ⟨Nat.zero_le _, Nat.zero_le _⟩) ?_
    refine b_ifne (tgt := 47) S.1 S.2.1 dX4_status_38 (by decide) (fun c_38 => ?_) (fun c_38 => ?_)
    · obtain ⟨k_v, hk_v, ek_v⟩ := nI_of2 (n := 6) (by decide) (Int32.not_lt.mpr c_38.1) c_38.2
      refine lv_aload_n S.1 S.2.1 dX4_status_47 rfl (lv_at hl 0 rfl) ?_
      refine gf_X4_39 S hK hP 0 0 rfl rfl rfl dX4_status_48 ?_
      refine lv_iload_n S.1 S.2.1 dX4_status_51 rfl (lv_at hl 1 rfl) ?_
      refine lv_eqi (y := nI k_v) ek_v ?_
      refine b_ialdN (i := k_v) S hK hP 1 0 rfl rfl (by omega) (by decide) dX4_status_52 ?_
      refine lv_eqi (y := f k_v) (sg_at (by omega)) ?_
      exact retI S hr hlk (by rw [st_y c_2 c_38]; exact hP) hS (by rw [st_y c_2 c_38, ansR_inr, ek_v, tN_nI (by omega)]) dX4_status_53
    · refine lv_aload_n S.1 S.2.1 dX4_status_41 rfl (lv_at hl 0 rfl) ?_
      refine lv_iconst (v := 0) S.1 S.2.1 dX4_status_42 (by decide) ?_
      refine go_I (run_V (As := [.int 0]) (rest := []) (n := 1) S hK (bl_P hP [0, 1] rfl) (bl_D hD [0, 1] rfl rfl) (c_X4_finding l E ag ah az ak i0 f 0 (by decide)) gV_X4_48 (by decide +kernel) rfl ⟨rfl, rfl⟩ ⟨Nat.le_of_ble_eq_true rfl, Nat.le_of_ble_eq_true rfl⟩ (ci := 4) (q0 := 0) rfl rfl hl.1 (Nat.le_of_ble_eq_true rfl) dX4_status_43 ⟨Nat.zero_le _, Nat.zero_le _⟩) hP hD hS [0, 1] rfl (had_cons rfl (had_cons cell_ad rfl)) (Bs' := [[gObj ag ah az ak i0], [(ag 4, .inl (E.2.1, 7, .inl (sg (upd f 0 (f 0 + 1)) 7)))]]) rfl (fun H locs hP hD hS => ?_)
      obtain ⟨r_43, er_43⟩ : ∃ zz9 : Row, zz9 = upd f 0 (f 0 + 1) := ⟨_, rfl⟩
      rw [← er_43] at hP hD
      exact retI S hr hlk (by rw [er_43] at hP; rw [st_n c_2 c_38]; exact hP) hS (by rw [st_n c_2 c_38]; decide) dX4_status_46
  · refine lv_iconst (v := 0) S.1 S.2.1 dX4_status_5 (by decide) ?_
    refine lv_istore_n (lv' := [(2, .int 0), (0, .ref (ag 0)), (1, .int v)]) S.1 S.2.1 dX4_status_6 rfl hl (by decide) rfl (fun ls hl => ?_)
    refine lv_iconst (v := 0) S.1 S.2.1 dX4_status_7 (by decide) ?_
    refine lv_istore_n (lv' := [(3, .int 0), (2, .int 0), (0, .ref (ag 0)), (1, .int v)]) S.1 S.2.1 dX4_status_8 rfl hl (by decide) rfl (fun ls hl => ?_)
    have hl : lv_has ls 4 [(3, .int 0), (2, .int (sm9 f 0)), (0, .ref (ag 0)), (1, .int v)] := hl
    have L_9 : ∀ (fu : Nat) (i : Nat), (i ≤ 7) → (7 < i + fu) → ∀ (H : Heap) (locs : List Loc), PE E [[gObj ag ah az ak i0], [(ag 4, .inl (E.2.1, 7, .inl (sg f 7)))]] H → DE (inB [[gObj ag ah az ak i0], [(ag 4, .inl (E.2.1, 7, .inl (sg f 7)))]]) [[gObj ag ah az ak i0], [(ag 4, .inl (E.2.1, 7, .inl (sg f 7)))]] → va_S (inB [[gObj ag ah az ak i0], [(ag 4, .inl (E.2.1, 7, .inl (sg f 7)))]]) s.heap H locs → ∀ (ls : Array Slot), lv_has ls 4 [(0, .ref (ag 0)), (1, .int v), (2, .int (sm9 f i)), (3, .int (nI i))] → W p l e ({ frames := 1, cells := 0, slots := 0, locals := 21 }) s m ([.ref (ag 0), .int v] : List Value).toArray below meth c H locs 0 0 (MQ below (qI E [[gObj ag ah az ak i0], [(ag 4, .inl (E.2.1, 7, .inl (sg f 7)))]] [[gObj ag ah az ak i0], [(ag 4, .inl (E.2.1, 7, .inl (sg (fndC f (rStatC f v)) 7)))]] (ansR (rStatC f v))) ([.ref (ag 0), .int v] : List Value).toArray s 0 0 (inB [[gObj ag ah az ak i0], [(ag 4, .inl (E.2.1, 7, .inl (sg f 7)))]])) (F0 m 9 ls []) := by
      intro fu
      induction fu with
      | zero =>
        intro i hi hf
        omega
      | succ fu ih_9 =>
        intro i hi hf H locs hP hD hS ls hl
        refine lv_iload_n S.1 S.2.1 dX4_status_9 rfl (lv_at hl 3 rfl) ?_
        refine lv_bipush (v := 7) S.1 S.2.1 dX4_status_10 (by decide) ?_
        refine lv_icmp_ge (tgt := 30) S.1 S.2.1 dX4_status_12 (by decide) (fun c_12 => ?_) (fun c_12 => ?_)
        · have n_12 := Int32.not_lt.mpr c_12
          refine lv_iload_n S.1 S.2.1 dX4_status_30 rfl (lv_at hl 2 rfl) ?_
          exact retI S hr hlk (by rw [st_m c_2]; exact hP) hS (by rw [st_m c_2, ansR_inr, show i = 7 by (have z9 : 7 ≤ i := le_of_nI (a := 7) c_12 (by omega) (by omega); omega)]) dX4_status_31
        · have n_12 := Int32.not_le.mp c_12
          have hi2 : i < 7 := Nat.lt_of_not_le (fun z9 => c_12 (show nI 7 ≤ nI i from nI_le z9 (by omega)))
          refine lv_iload_n S.1 S.2.1 dX4_status_15 rfl (lv_at hl 2 rfl) ?_
          refine lv_aload_n S.1 S.2.1 dX4_status_16 rfl (lv_at hl 0 rfl) ?_
          refine gf_X4_39 S hK hP 0 0 rfl rfl rfl dX4_status_17 ?_
          refine lv_iload_n S.1 S.2.1 dX4_status_20 rfl (lv_at hl 3 rfl) ?_
          refine b_ialdN (i := i) S hK hP 1 0 rfl rfl (by omega) (by decide) dX4_status_21 ?_
          refine lv_eqi (y := f i) (sg_at (by omega)) ?_
          refine lv_iadd S.1 S.2.1 dX4_status_22 ?_
          refine lv_eqi (y := sm9 f (i + 1)) rfl ?_
          refine lv_istore_n (lv' := [(2, .int (sm9 f (i + 1))), (0, .ref (ag 0)), (1, .int v), (3, .int (nI i))]) S.1 S.2.1 dX4_status_23 rfl hl (by decide) rfl (fun ls hl => ?_)
          refine lv_iinc (v := nI (i + 1)) (lv' := [(3, .int (nI (i + 1))), (2, .int (sm9 f (i + 1))), (0, .ref (ag 0)), (1, .int v)]) S.1 S.2.1 dX4_status_24 hl (k := 3) rfl (nI_1 i) (by decide) rfl (fun ls hl => ?_)
          refine lv_goto (tgt := 9) S.1 S.2.1 dX4_status_27 (by decide) ?_
          exact ih_9 (i + 1) (by omega) (by omega) H locs hP hD hS ls (lv_sub hl [2, 3, 1, 0] rfl)
    exact L_9 8 0 (by omega) (by omega) H locs hP hD hS ls (lv_sub hl [2, 3, 1, 0] rfl)
set_option maxHeartbeats 800000 in
set_option maxRecDepth 100000 in
theorem c_X4_storms (l : Launch) (E : EV) (ag ah az ak : Nat → Nat) (i0 : Int32) (r f : Row) (n9 : Int32) (hR : RI r) : Met l yX4_storms (wq yX4_storms cX4_storms 3 (some .int)) ({ frames := 5, cells := 0, slots := 0, locals := 104 }) (preB E [.ref (ag 0), .int n9] [[gObj ag ah az ak i0], hillsW E ah r, [(ag 4, .inl (E.2.1, 7, .inl (sg f 7)))]]) (qI E [[gObj ag ah az ak i0], hillsW E ah r, [(ag 4, .inl (E.2.1, 7, .inl (sg f 7)))]] [[gObj ag ah az ak i0], hillsW E ah (rowR r (rStorms r n9)), [(ag 4, .inl (E.2.1, 7, .inl (sg (fndC f (rStorms r n9)) 7)))]] (ansR (rStorms r n9))) 0 0 (inB [[gObj ag ah az ak i0], hillsW E ah r, [(ag 4, .inl (E.2.1, 7, .inl (sg f 7)))]]) := by
  refine M_mk RX4 (by decide) rfl (Nat.le_of_ble_eq_true rfl) ?_
  intro p e s m below meth c S hr hlk hK hP hD hS ls hl
  have hl : lv_has ls 3 [(0, .ref (ag 0)), (1, .int n9)] := hl
  obtain ⟨n, d, hn, hn8, hd, hd5, ho, hso, hli, hsp, hpt⟩ := id hR
  obtain ⟨H, hH⟩ : ∃ zz9, zz9 = s.heap := ⟨_, rfl⟩
  obtain ⟨locs, hlocs⟩ : ∃ zz9 : List Loc, zz9 = [] := ⟨_, rfl⟩
  have hP : PE E [[gObj ag ah az ak i0], hillsW E ah r, [(ag 4, .inl (E.2.1, 7, .inl (sg f 7)))]] H := by rw [hH]; exact hP
  have hS : va_S (inB [[gObj ag ah az ak i0], hillsW E ah r, [(ag 4, .inl (E.2.1, 7, .inl (sg f 7)))]]) s.heap H locs := by rw [hH, hlocs]; exact hS
  show W p l e ({ frames := 5, cells := 0, slots := 0, locals := 104 }) s m ([.ref (ag 0), .int n9] : List Value).toArray below meth c s.heap [] 0 0 _ _
  suffices hgo : W p l e ({ frames := 5, cells := 0, slots := 0, locals := 104 }) s m ([.ref (ag 0), .int n9] : List Value).toArray below meth c H locs 0 0 (MQ below (qI E [[gObj ag ah az ak i0], hillsW E ah r, [(ag 4, .inl (E.2.1, 7, .inl (sg f 7)))]] [[gObj ag ah az ak i0], hillsW E ah (rowR r (rStorms r n9)), [(ag 4, .inl (E.2.1, 7, .inl (sg (fndC f (rStorms r n9)) 7)))]] (ansR (rStorms r n9))) ([.ref (ag 0), .int n9] : List Value).toArray s 0 0 (inB [[gObj ag ah az ak i0], hillsW E ah r, [(ag 4, .inl (E.2.1, 7, .inl (sg f 7)))]])) (F0 m 0 ls []) by rw [hH, hlocs] at hgo; exact hgo
  clear hH hlocs
  refine lv_iload_n S.1 S.2.1 dX4_storms_0 rfl (lv_at hl 1 rfl) ?_
  refine lv_iconst (v := 1) S.1 S.2.1 dX4_storms_1 (by decide) ?_
  refine lv_icmp_lt (tgt := 11) S.1 S.2.1 dX4_storms_2 (by decide) (fun c_2 => ?_) (fun c_2 => ?_)
  · have n_2 := Int32.not_le.mpr c_2
    refine lv_aload_n S.1 S.2.1 dX4_storms_11 rfl (lv_at hl 0 rfl) ?_
    refine lv_iconst (v := 0) S.1 S.2.1 dX4_storms_12 (by decide) ?_
    refine go_I (run_V (As := [.int 0]) (rest := []) (n := 1) S hK (bl_P hP [0, 2] rfl) (bl_D hD [0, 2] rfl rfl) (c_X4_finding l E ag ah az ak i0 f 0 (by decide)) gV_X4_48 (by decide +kernel) rfl ⟨rfl, rfl⟩ ⟨Nat.le_of_ble_eq_true rfl, Nat.le_of_ble_eq_true rfl⟩ (ci := 4) (q0 := 0) rfl rfl hl.1 (Nat.le_of_ble_eq_true rfl) dX4_storms_13 ⟨Nat.zero_le _, Nat.zero_le _⟩) hP hD hS [0, 2] rfl (had_cons rfl (had_cons cell_ad rfl)) (Bs' := [[gObj ag ah az ak i0], hillsW E ah r, [(ag 4, .inl (E.2.1, 7, .inl (sg (upd f 0 (f 0 + 1)) 7)))]]) rfl (fun H locs hP hD hS => ?_)
    obtain ⟨r_13, er_13⟩ : ∃ zz9 : Row, zz9 = upd f 0 (f 0 + 1) := ⟨_, rfl⟩
    rw [← er_13] at hP hD
    exact retI S hr hlk (by have e9 : rStorms r n9 = .inl 0 := (by unfold rStorms; rw [if_neg (fun z9 => Int32.not_le.mpr c_2 z9.1)]); rw [er_13] at hP; rw [e9, rowR_inl, fndC_inl]; exact hP) hS (by have e9 : rStorms r n9 = .inl 0 := (by unfold rStorms; rw [if_neg (fun z9 => Int32.not_le.mpr c_2 z9.1)]); rw [e9]; decide) dX4_storms_16
  · have n_2 := Int32.not_lt.mp c_2
    refine lv_iload_n S.1 S.2.1 dX4_storms_5 rfl (lv_at hl 1 rfl) ?_
    refine lv_bipush (v := 20) S.1 S.2.1 dX4_storms_6 (by decide) ?_
    refine lv_icmp_le (tgt := 17) S.1 S.2.1 dX4_storms_8 (by decide) (fun c_8 => ?_) (fun c_8 => ?_)
    · have n_8 := Int32.not_lt.mpr c_8
      obtain ⟨k_n9, hj_n9, hk_n9, ek_n9⟩ := of_rng (lo := 1) (hi := 20) (by decide) (by decide) ⟨Int32.not_lt.mp c_2, c_8⟩
      refine lv_aload_n S.1 S.2.1 dX4_storms_17 rfl (lv_at hl 0 rfl) ?_
      refine gf_X4_10 S hK hP 0 0 rfl rfl rfl dX4_storms_18 ?_
      refine gf_X4_109 S hK hP 1 0 rfl rfl (congrArg (fun z => some (Value.int z)) hd) dX4_storms_21 ?_
      refine lv_ldc (v := 99999) S.1 S.2.1 S.2.2.2.1 (S.2.2.2.2 _ (List.mem_cons_of_mem _ kk_X4_112)) dX4_storms_24 ?_
      refine lv_iload_n S.1 S.2.1 dX4_storms_26 rfl (lv_at hl 1 rfl) ?_
      refine lv_eqi (y := nI k_n9) ek_n9 ?_
      refine lv_isub S.1 S.2.1 dX4_storms_27 ?_
      refine lv_icmp_le (tgt := 37) S.1 S.2.1 dX4_storms_28 (by decide) (fun c_28 => ?_) (fun c_28 => ?_)
      · have n_28 := Int32.not_lt.mpr c_28
        refine lv_iconst (v := 0) S.1 S.2.1 dX4_storms_37 (by decide) ?_
        refine lv_istore_n (lv' := [(2, .int 0), (0, .ref (ag 0)), (1, .int n9)]) S.1 S.2.1 dX4_storms_38 rfl hl (by decide) rfl (fun ls hl => ?_)
        have L_39 : ∀ (fu : Nat) (i : Nat) (ri : Row), (i ≤ k_n9) → (k_n9 < i + fu) → (ri = stormN r i) → (RI ri) → ∀ (H : Heap) (locs : List Loc), PE E [[gObj ag ah az ak i0], hillsW E ah ri, [(ag 4, .inl (E.2.1, 7, .inl (sg f 7)))]] H → DE (inB [[gObj ag ah az ak i0], hillsW E ah r, [(ag 4, .inl (E.2.1, 7, .inl (sg f 7)))]]) [[gObj ag ah az ak i0], hillsW E ah ri, [(ag 4, .inl (E.2.1, 7, .inl (sg f 7)))]] → va_S (inB [[gObj ag ah az ak i0], hillsW E ah r, [(ag 4, .inl (E.2.1, 7, .inl (sg f 7)))]]) s.heap H locs → ∀ (ls : Array Slot), lv_has ls 3 [(0, .ref (ag 0)), (1, .int n9), (2, .int (nI i))] → W p l e ({ frames := 5, cells := 0, slots := 0, locals := 104 }) s m ([.ref (ag 0), .int n9] : List Value).toArray below meth c H locs 0 0 (MQ below (qI E [[gObj ag ah az ak i0], hillsW E ah r, [(ag 4, .inl (E.2.1, 7, .inl (sg f 7)))]] [[gObj ag ah az ak i0], hillsW E ah (rowR r (rStorms r n9)), [(ag 4, .inl (E.2.1, 7, .inl (sg (fndC f (rStorms r n9)) 7)))]] (ansR (rStorms r n9))) ([.ref (ag 0), .int n9] : List Value).toArray s 0 0 (inB [[gObj ag ah az ak i0], hillsW E ah r, [(ag 4, .inl (E.2.1, 7, .inl (sg f 7)))]])) (F0 m 39 ls []) := by
          intro fu
          induction fu with
          | zero =>
            intro i ri hi hf hri hR1
            omega
          | succ fu ih_39 =>
            intro i ri hi hf hri hR1 H locs hP hD hS ls hl
            refine lv_iload_n S.1 S.2.1 dX4_storms_39 rfl (lv_at hl 2 rfl) ?_
            refine lv_iload_n S.1 S.2.1 dX4_storms_40 rfl (lv_at hl 1 rfl) ?_
            refine lv_eqi (y := nI k_n9) ek_n9 ?_
            refine lv_icmp_ge (tgt := 57) S.1 S.2.1 dX4_storms_41 (by decide) (fun c_41 => ?_) (fun c_41 => ?_)
            · have n_41 := Int32.not_lt.mpr c_41
              have hi9 : i = k_n9 := le_endK hi c_41 (by omega)
              refine lv_aload_n S.1 S.2.1 dX4_storms_57 rfl (lv_at hl 0 rfl) ?_
              refine gf_X4_10 S hK hP 0 0 rfl rfl rfl dX4_storms_58 ?_
              refine gf_X4_117 S hK hP 1 0 rfl rfl rfl dX4_storms_61 ?_
              exact retI S hr hlk (by have e9 : rStorms r n9 = .inr (ri, ri 4) := (by unfold rStorms; rw [if_pos ⟨Int32.not_lt.mp c_2, c_8⟩, if_neg (go_no hd hd5 ek_n9 (by omega) c_28), ek_n9, tN_nI (by omega), ← hi9, ← hri]); rw [e9, rowR_inr, fndC_inr]; exact hP) hS (by have e9 : rStorms r n9 = .inr (ri, ri 4) := (by unfold rStorms; rw [if_pos ⟨Int32.not_lt.mp c_2, c_8⟩, if_neg (go_no hd hd5 ek_n9 (by omega) c_28), ek_n9, tN_nI (by omega), ← hi9, ← hri]); rw [e9, ansR_inr]) dX4_storms_64
            · have n_41 := Int32.not_le.mp c_41
              have hi2 : i < k_n9 := lt_in c_41 hi
              refine lv_aload_n S.1 S.2.1 dX4_storms_44 rfl (lv_at hl 0 rfl) ?_
              refine gf_X4_10 S hK hP 0 0 rfl rfl rfl dX4_storms_45 ?_
              refine go_V (run_V (As := []) (rest := []) (n := 0) S hK (bl_P hP [1] rfl) (bl_D hD [1] rfl rfl) (c_X0_storm l E ah ri hR1) gV_X4_199 (by decide +kernel) rfl ⟨rfl, rfl⟩ ⟨Nat.le_of_ble_eq_true rfl, Nat.le_of_ble_eq_true rfl⟩ (ci := 0) (q0 := 0) rfl rfl hl.1 (Nat.le_of_ble_eq_true rfl) dX4_storms_48 ⟨Nat.zero_le _, Nat.zero_le _⟩) hP hD hS [1] rfl (had_cons hw_ad rfl) (Bs' := [[gObj ag ah az ak i0], hillsW E ah (stormF ri), [(ag 4, .inl (E.2.1, 7, .inl (sg f 7)))]]) rfl (fun H locs hP hD hS => ?_)
              obtain ⟨r_48, er_48⟩ : ∃ zz9 : Row, zz9 = stormF ri := ⟨_, rfl⟩
              rw [← er_48] at hP hD
              have hRI_r_48 : RI r_48 := by rw [er_48]; exact stormF_RI hR1
              refine lv_iinc (v := nI (i + 1)) (lv' := [(2, .int (nI (i + 1))), (0, .ref (ag 0)), (1, .int n9)]) S.1 S.2.1 dX4_storms_51 hl (k := 2) rfl (nI_1 i) (by decide) rfl (fun ls hl => ?_)
              refine lv_goto (tgt := 39) S.1 S.2.1 dX4_storms_54 (by decide) ?_
              exact ih_39 (i + 1) r_48 (by omega) (by omega) (by rw [er_48, hri]; rfl) hRI_r_48 H locs hP hD hS ls (lv_sub hl [1, 2, 0] rfl)
        exact L_39 (k_n9 + 1) 0 r (by omega) (by omega) rfl hR H locs hP hD hS ls (lv_sub hl [1, 2, 0] rfl)
      · have n_28 := Int32.not_le.mp c_28
        refine lv_aload_n S.1 S.2.1 dX4_storms_31 rfl (lv_at hl 0 rfl) ?_
        refine lv_iconst (v := 4) S.1 S.2.1 dX4_storms_32 (by decide) ?_
        refine go_I (run_V (As := [.int 4]) (rest := []) (n := 1) S hK (bl_P hP [0, 2] rfl) (bl_D hD [0, 2] rfl rfl) (c_X4_finding l E ag ah az ak i0 f 4 (by decide)) gV_X4_48 (by decide +kernel) rfl ⟨rfl, rfl⟩ ⟨Nat.le_of_ble_eq_true rfl, Nat.le_of_ble_eq_true rfl⟩ (ci := 4) (q0 := 0) rfl rfl hl.1 (Nat.le_of_ble_eq_true rfl) dX4_storms_33 ⟨Nat.zero_le _, Nat.zero_le _⟩) hP hD hS [0, 2] rfl (had_cons rfl (had_cons cell_ad rfl)) (Bs' := [[gObj ag ah az ak i0], hillsW E ah r, [(ag 4, .inl (E.2.1, 7, .inl (sg (upd f 4 (f 4 + 1)) 7)))]]) rfl (fun H locs hP hD hS => ?_)
        obtain ⟨r_33, er_33⟩ : ∃ zz9 : Row, zz9 = upd f 4 (f 4 + 1) := ⟨_, rfl⟩
        rw [← er_33] at hP hD
        exact retI S hr hlk (by have e9 : rStorms r n9 = .inl 4 := (by unfold rStorms; rw [if_pos ⟨Int32.not_lt.mp c_2, c_8⟩, if_pos (go_yes hd hd5 ek_n9 (by omega) c_28)]); rw [er_33] at hP; rw [e9, rowR_inl, fndC_inl]; exact hP) hS (by have e9 : rStorms r n9 = .inl 4 := (by unfold rStorms; rw [if_pos ⟨Int32.not_lt.mp c_2, c_8⟩, if_pos (go_yes hd hd5 ek_n9 (by omega) c_28)]); rw [e9]; decide) dX4_storms_36
    · have n_8 := Int32.not_le.mp c_8
      refine lv_aload_n S.1 S.2.1 dX4_storms_11 rfl (lv_at hl 0 rfl) ?_
      refine lv_iconst (v := 0) S.1 S.2.1 dX4_storms_12 (by decide) ?_
      refine go_I (run_V (As := [.int 0]) (rest := []) (n := 1) S hK (bl_P hP [0, 2] rfl) (bl_D hD [0, 2] rfl rfl) (c_X4_finding l E ag ah az ak i0 f 0 (by decide)) gV_X4_48 (by decide +kernel) rfl ⟨rfl, rfl⟩ ⟨Nat.le_of_ble_eq_true rfl, Nat.le_of_ble_eq_true rfl⟩ (ci := 4) (q0 := 0) rfl rfl hl.1 (Nat.le_of_ble_eq_true rfl) dX4_storms_13 ⟨Nat.zero_le _, Nat.zero_le _⟩) hP hD hS [0, 2] rfl (had_cons rfl (had_cons cell_ad rfl)) (Bs' := [[gObj ag ah az ak i0], hillsW E ah r, [(ag 4, .inl (E.2.1, 7, .inl (sg (upd f 0 (f 0 + 1)) 7)))]]) rfl (fun H locs hP hD hS => ?_)
      obtain ⟨r_13_1, er_13_1⟩ : ∃ zz9 : Row, zz9 = upd f 0 (f 0 + 1) := ⟨_, rfl⟩
      rw [← er_13_1] at hP hD
      exact retI S hr hlk (by have e9 : rStorms r n9 = .inl 0 := (by unfold rStorms; rw [if_neg (fun z9 => c_8 z9.2)]); rw [er_13_1] at hP; rw [e9, rowR_inl, fndC_inl]; exact hP) hS (by have e9 : rStorms r n9 = .inl 0 := (by unfold rStorms; rw [if_neg (fun z9 => c_8 z9.2)]); rw [e9]; decide) dX4_storms_16
set_option maxHeartbeats 800000 in
set_option maxRecDepth 100000 in
theorem c_X4_wipe (l : Launch) (E : EV) (ag ah az ak : Nat → Nat) (i0 : Int32) (len : Nat) (s9 b9 e9 v9 : Int32)  : Met l yX4_wipe (wq yX4_wipe cX4_wipe 2 (some .int)) ({ frames := 0, cells := 0, slots := 0, locals := 0 }) (preB E [.ref (ag 0)] [[gObj ag ah az ak i0], [rdO ag (nI len) s9 b9 e9 v9]]) (qI E [[gObj ag ah az ak i0], [rdO ag (nI len) s9 b9 e9 v9]] [[gObj ag ah az ak i0], [rdO ag 0 s9 b9 e9 v9]] (nI len)) 0 0 (inB [[gObj ag ah az ak i0], [rdO ag (nI len) s9 b9 e9 v9]]) := by
  refine M_mk RX4 (by decide) rfl (Nat.le_of_ble_eq_true rfl) ?_
  intro p e s m below meth c S hr hlk hK hP hD hS ls hl
  have hl : lv_has ls 2 [(0, .ref (ag 0))] := hl
  obtain ⟨H, hH⟩ : ∃ zz9, zz9 = s.heap := ⟨_, rfl⟩
  obtain ⟨locs, hlocs⟩ : ∃ zz9 : List Loc, zz9 = [] := ⟨_, rfl⟩
  have hP : PE E [[gObj ag ah az ak i0], [rdO ag (nI len) s9 b9 e9 v9]] H := by rw [hH]; exact hP
  have hS : va_S (inB [[gObj ag ah az ak i0], [rdO ag (nI len) s9 b9 e9 v9]]) s.heap H locs := by rw [hH, hlocs]; exact hS
  show W p l e ({ frames := 0, cells := 0, slots := 0, locals := 0 }) s m ([.ref (ag 0)] : List Value).toArray below meth c s.heap [] 0 0 _ _
  suffices hgo : W p l e ({ frames := 0, cells := 0, slots := 0, locals := 0 }) s m ([.ref (ag 0)] : List Value).toArray below meth c H locs 0 0 (MQ below (qI E [[gObj ag ah az ak i0], [rdO ag (nI len) s9 b9 e9 v9]] [[gObj ag ah az ak i0], [rdO ag 0 s9 b9 e9 v9]] (nI len)) ([.ref (ag 0)] : List Value).toArray s 0 0 (inB [[gObj ag ah az ak i0], [rdO ag (nI len) s9 b9 e9 v9]])) (F0 m 0 ls []) by rw [hH, hlocs] at hgo; exact hgo
  clear hH hlocs
  refine lv_aload_n S.1 S.2.1 dX4_wipe_0 rfl (lv_at hl 0 rfl) ?_
  refine gf_X4_35 S hK hP 0 0 rfl rfl rfl dX4_wipe_1 ?_
  refine gf_X4_212 S hK hP 1 0 rfl rfl rfl dX4_wipe_4 ?_
  refine lv_istore_n (lv' := [(1, .int (nI len)), (0, .ref (ag 0))]) S.1 S.2.1 dX4_wipe_7 rfl hl (by decide) rfl (fun ls hl => ?_)
  refine lv_aload_n S.1 S.2.1 dX4_wipe_8 rfl (lv_at hl 1 rfl) ?_
  refine gf_X4_35 S hK hP 0 0 rfl rfl rfl dX4_wipe_9 ?_
  refine lv_iconst (v := 0) S.1 S.2.1 dX4_wipe_12 (by decide) ?_
  refine pf_X4_212 S hK hP hD hS 1 0 rfl rfl (Nat.le_of_ble_eq_true rfl) rfl (Bs1 := [[gObj ag ah az ak i0], [rdO ag 0 s9 b9 e9 v9]]) rfl dX4_wipe_13 (fun H locs hP hD hS => ?_)
  refine lv_iload_n S.1 S.2.1 dX4_wipe_16 rfl (lv_at hl 0 rfl) ?_
  exact retI S hr hlk hP hS rfl dX4_wipe_17
