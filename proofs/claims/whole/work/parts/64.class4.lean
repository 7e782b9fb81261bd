def fltV (z : Row) (v : Int32) (G : Prop) [Decidable G] : Int32 := if lackV z v G = 0 then -1 else nI (lackK z v G)
theorem flt_1 {z : Row} {v : Int32} (h : ¬ (0 ≤ v ∧ v ≤ 3)) : 0 = fltV z v True := by
  unfold fltV lackV lackK
  rw [if_neg h, if_neg h, if_neg (by decide)]
  rfl
theorem lackV_in {z : Row} {k : Nat} {G : Prop} [Decidable G] (hk : k ≤ 3) : lackV z (nI k) G = if z k = 0 then -1000006 else if G then 0 else -1000001 := by
  unfold lackV
  rw [if_pos ⟨nI_pos' (by omega), nI_le (b := 3) hk (by decide)⟩, nI_clamp (by omega)]
theorem lackK_in {z : Row} {k : Nat} {G : Prop} [Decidable G] (hk : k ≤ 3) : lackK z (nI k) G = if z k = 0 then 5 else 0 := by
  unfold lackK
  rw [if_pos ⟨nI_pos' (by omega), nI_le (b := 3) hk (by decide)⟩, tN_nI (by omega)]
theorem flt_2 {z : Row} {v : Int32} {k : Nat} (hk : k ≤ 3) (e : v = nI k) (h : z k = 0) : 5 = fltV z v True := by
  subst e
  unfold fltV
  rw [lackV_in hk, lackK_in hk, if_pos h, if_pos h, if_neg (by decide)]
  rfl
theorem flt_3 {z : Row} {v : Int32} {k : Nat} (hk : k ≤ 3) (e : v = nI k) (h : ¬ z k = 0) : -1 = fltV z v True := by
  subst e
  unfold fltV
  rw [lackV_in hk, if_neg h, if_pos trivial, if_pos rfl]
theorem flt_ok {z : Row} {v : Int32} {G : Prop} [Decidable G] (h : fltV z v G = -1) : lackV z v G = 0 := by
  unfold fltV at h
  split at h
  · rename_i c
    exact c
  · have hl := lackK_lt (z := z) (v := v) (G := G)
    exact absurd h (fun q => absurd (show nI (lackK z v G) < 0 by rw [q]; decide) (nI_pos (by omega)))
theorem flt_bad {z : Row} {v : Int32} {G : Prop} [Decidable G] (h : ¬ fltV z v G = -1) : ¬ lackV z v G = 0 := fun q => h (if_pos q)
theorem flt_eq {z : Row} {v : Int32} {G : Prop} [Decidable G] (h : ¬ fltV z v G = -1) : fltV z v G = nI (lackK z v G) := if_neg (flt_bad h)
theorem lack_G {z : Row} {v : Int32} {G : Prop} [Decidable G] (h : ¬ lackV z v True = 0) : lackV z v G = lackV z v True := by
  unfold lackV at *
  by_cases c : 0 ≤ v ∧ v ≤ 3
  · rw [if_pos c] at h ⊢
    rw [if_pos c]
    by_cases c2 : z v.toNatClampNeg = 0
    · rw [if_pos c2, if_pos c2]
    · rw [if_neg c2, if_pos trivial] at h
      exact absurd rfl h
  · rw [if_neg c, if_neg c]
theorem flt_no1 {z : Row} {v : Int32} {G : Prop} [Decidable G] (h : ¬ fltV z v True = -1) : fltV z v True = fltV z v G := by
  have h1 := flt_bad h
  unfold fltV
  rw [lack_G (G := G) h1]
  rfl
theorem flt_y {z : Row} {v : Int32} {G : Prop} [Decidable G] (h : fltV z v True = -1) (g : G) : -1 = fltV z v G := by
  obtain ⟨k, hk, rfl, hz, _⟩ := lack_ok (flt_ok h)
  unfold fltV
  rw [lackV_in (by omega), if_neg hz, if_pos g, if_pos rfl]
theorem flt_n {z : Row} {v : Int32} {G : Prop} [Decidable G] (h : fltV z v True = -1) (g : ¬ G) : 0 = fltV z v G := by
  obtain ⟨k, hk, rfl, hz, _⟩ := lack_ok (flt_ok h)
  unfold fltV
  rw [lackV_in (by omega), lackK_in (by omega), if_neg hz, if_neg g, if_neg hz, if_neg (by decide)]
  rfl
theorem min_10 {len : Nat} (h : len ≤ 40) : (if (10 : Int32) < nI len then (10 : Int32) else nI len) = nI (min len 10) := by
  show (if nI 10 < nI len then nI 10 else nI len) = nI (min len 10)
  by_cases c : 10 < len
  · rw [if_pos (nI_lt (a := 10) c (by omega)), show min len 10 = 10 by omega]
  · rw [if_neg (Int32.not_lt.mpr (nI_le (a := len) (b := 10) (by omega) (by decide))), show min len 10 = len by omega]
theorem days_k {t : Row} {k : Nat} (h : 0 < k) : daysF (daysF t (7 * (k - 1))) 7 = daysF t (7 * k) := by
  rw [daysF_add, show 7 * (k - 1) + 7 = 7 * k by omega]
theorem okN_y {y : Row} {o : Nat} {r : Row} {i k : Nat} (h : okN y o r i k = true) (h2 : y (o + k) = -1 ∨ y (o + k) = daysF r (7 * k) (21 + 7 * i + 4)) : okN y o r i (k + 1) = true := by
  rw [okN, h, decide_eq_true h2]
  rfl
theorem okN_stop {y : Row} {o : Nat} {r : Row} {i k m : Nat} (h1 : ¬ y (o + k) = -1) (h2 : ¬ y (o + k) = daysF r (7 * k) (21 + 7 * i + 4)) (hk : k < m) : okN y o r i m = false := by
  have h : okN y o r i (k + 1) = false := by
    rw [okN, decide_eq_false (fun q => q.elim h1 h2), Bool.and_false]
  have h3 := okN_mono h (m - (k + 1))
  rw [show k + 1 + (m - (k + 1)) = m by omega] at h3
  exact h3
def cuN (c : Nat → Bool) : Nat → Int32
  | 0 => 0
  | k + 1 => if c k = true then cuN c k + 1 else cuN c k
theorem gP_cu1 {c : Nat → Bool} : ∀ k, k ≤ 100 → (gP c k).1 + cuN c (100 - k) = cuN c 100
  | 0, _ => by
    show (0 : Int32) + _ = _
    rw [Int32.zero_add]
  | k + 1, hk => by
    have ih := gP_cu1 (c := c) k (by omega)
    rw [show 100 - k = (99 - k) + 1 by omega, cuN] at ih
    rw [show 100 - (k + 1) = 99 - k by omega, gP]
    by_cases h : c (99 - k) = true
    · rw [if_pos h] at ih
      rw [if_pos h, ← ih]
      show (gP c k).1 + 1 + cuN c (99 - k) = _
      rw [Int32.add_assoc, Int32.add_comm 1]
    · rw [if_neg h] at ih
      rw [if_neg h]
      exact ih
theorem gP_cu {c : Nat → Bool} : (gP c 100).1 = cuN c 100 := by
  have h := gP_cu1 (c := c) 100 (Nat.le_refl _)
  rw [← h]
  show _ = (gP c 100).1 + (0 : Int32)
  rw [Int32.add_zero]
theorem gP_none' {c : Nat → Bool} (h : ∀ j, j < 100 → c j = false) : ∀ k, k ≤ 100 → gP c k = (0, -1)
  | 0, _ => rfl
  | k + 1, hk => by
    rw [gP, if_neg (by rw [h (99 - k) (by omega)]; decide)]
    exact gP_none' h k (by omega)
theorem gP_none {c : Nat → Bool} (h : ∀ j, j < 100 → c j = false) : orNR (gP c 100).2 = .inl 3 := by
  rw [gP_none' h 100 (Nat.le_refl _)]
  rfl
theorem gP_some {c : Nat → Bool} {g : Nat} (hg : g < 100) (hno : ∀ j, j < g → c j = false) (h : c g = true) : (gP c 100).2 = nI g := by
  have key : ∀ m, m ≤ g → (gP c (100 - g + m)).2 = nI g := by
    intro m
    induction m with
    | zero =>
      intro _
      rw [Nat.add_zero, show 100 - g = (99 - g) + 1 by omega, gP, show 99 - (99 - g) = g by omega, if_pos h]
    | succ m ih =>
      intro hm
      rw [show 100 - g + (m + 1) = (100 - g + m) + 1 by omega, gP, if_neg (by rw [hno (99 - (100 - g + m)) (by omega)]; decide)]
      exact ih (by omega)
  have h2 := key g (Nat.le_refl _)
  rw [show 100 - g + g = 100 by omega] at h2
  exact h2
theorem orNR_n {g : Nat} (h : g < 100) : orNR (nI g) = .inr (fun _ => 0, nI g) := if_pos (nI_pos' (by omega))
theorem kdN_nn {c : Nat → Bool} {k : Nat} {b : Int32} (hb : b = kdN c k) (h : ¬ c k = true) : b = kdN c (k + 1) := by
  rw [kdN, if_neg h, ← hb, Int32.or_zero]
set_option maxHeartbeats 800000 in
set_option maxRecDepth 100000 in
theorem c_X4_sheetFault (l : Launch) (E : EV) (ag ah az ak : Nat → Nat) (i0 : Int32) (z u : Row) (v : Int32)  : Met l yX4_sheetFault (wq yX4_sheetFault cX4_sheetFault 2 (some .int)) ({ frames := 1, cells := 0, slots := 0, locals := 21 }) (preB E [.ref (ag 0), .int v] [[gObj ag ah az ak i0], shO E ag z u]) (qS (fltV z v True)) 0 0 (fun _ => False) := by
  refine M_mk RX4 (by decide) rfl (Nat.le_of_ble_eq_true rfl) ?_
  intro p e s m below meth c S hr hlk hK hP hD hS ls hl
  have hl : lv_has ls 2 [(0, .ref (ag 0)), (1, .int v)] := hl
  refine lv_iload_n S.1 S.2.1 dX4_sheetFault_0 rfl (lv_at hl 1 rfl) ?_
  refine lv_iconst (v := 3) S.1 S.2.1 dX4_sheetFault_1 (by decide) ?_
  refine go_S (run_S (As := [.int v, .int 3]) (rest := []) (n := 2) S hK (bl_P hP [] rfl) (bl_D hD [] rfl rfl) (c_X4_isWithin l E v 3 ) gS_X4_44 (by decide +kernel) rfl ⟨rfl, rfl⟩ ⟨Nat.le_of_ble_eq_true rfl, Nat.le_of_ble_eq_true rfl⟩ hl.1 (Nat.le_of_ble_eq_true rfl) dX4_sheetFault_2 ⟨Nat.zero_le _, Nat.zero_le _⟩) ?_
  refine b_ifne (tgt := 10) S.1 S.2.1 dX4_sheetFault_5 (by decide) (fun c_5 => ?_) (fun c_5 => ?_)
  · obtain ⟨k_v, hk_v, ek_v⟩ := nI_of2 (n := 3) (by decide) (Int32.not_lt.mpr c_5.1) c_5.2
    refine lv_aload_n S.1 S.2.1 dX4_sheetFault_10 rfl (lv_at hl 0 rfl) ?_
    refine gf_X4_28 S hK hP 0 0 rfl rfl rfl dX4_sheetFault_11 ?_
    refine lv_iload_n S.1 S.2.1 dX4_sheetFault_14 rfl (lv_at hl 1 rfl) ?_
    refine lv_eqi (y := nI k_v) ek_v ?_
    refine b_aaldN (i := k_v) S hK hP 3 1 0 rfl rfl rfl (by omega) (by decide) (v := ag (5 + k_v)) rfl dX4_sheetFault_15 ?_
    refine gf_X4_229 S hK hP 1 (1 + k_v) rfl (sO_at (by omega)) rfl dX4_sheetFault_16 ?_
    refine lv_if_ne (tgt := 26) S.1 S.2.1 dX4_sheetFault_19 (by decide) (fun c_19 => ?_) (fun c_19 => ?_)
    · refine lv_iconst (v := (-1)) S.1 S.2.1 dX4_sheetFault_26 (by decide) ?_
      exact retS S hr hlk (flt_3 hk_v ek_v c_19) dX4_sheetFault_27
    · refine lv_iconst (v := 5) S.1 S.2.1 dX4_sheetFault_22 (by decide) ?_
      refine lv_goto (tgt := 27) S.1 S.2.1 dX4_sheetFault_23 (by decide) ?_
      exact retS S hr hlk (flt_2 hk_v ek_v c_19) dX4_sheetFault_27
  · refine lv_iconst (v := 0) S.1 S.2.1 dX4_sheetFault_8 (by decide) ?_
    exact retS S hr hlk (flt_1 c_5) dX4_sheetFault_9
set_option maxHeartbeats 800000 in
set_option maxRecDepth 100000 in
theorem c_X4_toldFault (l : Launch) (E : EV) (ag ah az ak : Nat → Nat) (i0 : Int32) (r z u : Row) (v pp : Int32)  : Met l yX4_toldFault (wq yX4_toldFault cX4_toldFault 4 (some .int)) ({ frames := 2, cells := 0, slots := 0, locals := 42 }) (preB E [.ref (ag 0), .int v, .int pp] [[gObj ag ah az ak i0], hillsW E ah r, shO E ag z u]) (qS (fltV z v (0 ≤ pp ∧ pp < r 1))) 0 0 (fun _ => False) := by
  refine M_mk RX4 (by decide) rfl (Nat.le_of_ble_eq_true rfl) ?_
  intro p e s m below meth c S hr hlk hK hP hD hS ls hl
  have hl : lv_has ls 4 [(0, .ref (ag 0)), (1, .int v), (2, .int pp)] := hl
  refine lv_aload_n S.1 S.2.1 dX4_toldFault_0 rfl (lv_at hl 0 rfl) ?_
  refine lv_iload_n S.1 S.2.1 dX4_toldFault_1 rfl (lv_at hl 1 rfl) ?_
  refine go_S (run_V (As := [.int v]) (rest := []) (n := 1) S hK (bl_P hP [0, 2] rfl) (bl_D hD [0, 2] rfl rfl) (c_X4_sheetFault l E ag ah az ak i0 z u v ) gV_X4_182 (by decide +kernel) rfl ⟨rfl, rfl⟩ ⟨Nat.le_of_ble_eq_true rfl, Nat.le_of_ble_eq_true rfl⟩ (ci := 4) (q0 := 0) rfl rfl hl.1 (Nat.le_of_ble_eq_true rfl) dX4_toldFault_2 ⟨Nat.zero_le _, Nat.zero_le _⟩) ?_
  refine lv_istore_n (lv' := [(3, .int (fltV z v True)), (0, .ref (ag 0)), (1, .int v), (2, .int pp)]) S.1 S.2.1 dX4_toldFault_5 rfl hl (by decide) rfl (fun ls hl => ?_)
  refine lv_iload_n S.1 S.2.1 dX4_toldFault_6 rfl (lv_at hl 0 rfl) ?_
  refine lv_iconst (v := (-1)) S.1 S.2.1 dX4_toldFault_7 (by decide) ?_
  refine lv_icmp_eq (tgt := 13) S.1 S.2.1 dX4_toldFault_8 (by decide) (fun c_8 => ?_) (fun c_8 => ?_)
  · refine lv_aload_n S.1 S.2.1 dX4_toldFault_13 rfl (lv_at hl 1 rfl) ?_
    refine lv_iload_n S.1 S.2.1 dX4_toldFault_14 rfl (lv_at hl 3 rfl) ?_
    refine go_S (run_V (As := [.int pp]) (rest := []) (n := 1) S hK (bl_P hP [0, 1] rfl) (bl_D hD [0, 1] rfl rfl) (c_X4_isPotter l E ag ah az ak i0 r pp ) gV_X4_67 (by decide +kernel) rfl ⟨rfl, rfl⟩ ⟨Nat.le_of_ble_eq_true rfl, Nat.le_of_ble_eq_true rfl⟩ (ci := 4) (q0 := 0) rfl rfl hl.1 (Nat.le_of_ble_eq_true rfl) dX4_toldFault_15 ⟨Nat.zero_le _, Nat.zero_le _⟩) ?_
    refine b_ifeq (tgt := 25) S.1 S.2.1 dX4_toldFault_18 (by decide) (fun c_18 => ?_) (fun c_18 => ?_)
    · refine lv_iconst (v := 0) S.1 S.2.1 dX4_toldFault_25 (by decide) ?_
      exact retS S hr hlk (flt_n c_8 c_18) dX4_toldFault_26
    · refine lv_iconst (v := (-1)) S.1 S.2.1 dX4_toldFault_21 (by decide) ?_
      refine lv_goto (tgt := 26) S.1 S.2.1 dX4_toldFault_22 (by decide) ?_
      exact retS S hr hlk (flt_y c_8 c_18) dX4_toldFault_26
  · refine lv_iload_n S.1 S.2.1 dX4_toldFault_11 rfl (lv_at hl 0 rfl) ?_
    exact retS S hr hlk (flt_no1 c_8) dX4_toldFault_12
set_option maxHeartbeats 800000 in
set_option maxRecDepth 100000 in
theorem c_X4_isAsTold (l : Launch) (E : EV) (ag ah az ak : Nat → Nat) (i0 : Int32) (r x z u y : Row) (s9 i9 w9 v9 len : Nat) (hR : RI r) (hs : s9 < 4) (elen : u s9 = nI len) (hlen : len ≤ 40) (hi : i9 < cntN r) (hw : w9 < 7) (hv : v9 ≤ bnd w9) : Met l yX4_isAsTold (wq yX4_isAsTold cX4_isAsTold 8 (some .boolean)) ({ frames := 5, cells := 0, slots := 0, locals := 105 }) (preB E [.ref (ag 0), .ref (ag (5 + s9)), .int (nI i9), .int (nI w9), .int (nI v9)] [[gObj ag ah az ak i0], hillsW E ah r, hillsW E az x, shO E ag z u, shN E ag y]) (qIx E [[gObj ag ah az ak i0], hillsW E ah r, hillsW E az x, shO E ag z u, shN E ag y] (fun u9 => [[gObj ag ah az ak i0], hillsW E ah r, hillsW E az u9, shO E ag z u, shN E ag y]) (bI (okN y (40 * s9) (upd r (21 + 7 * i9 + w9) (nI v9)) i9 (min len 10) = true))) 0 0 (inB [[gObj ag ah az ak i0], hillsW E ah r, hillsW E az x, shO E ag z u, shN E ag y]) := by
  refine M_mk RX4 (by decide) rfl (Nat.le_of_ble_eq_true rfl) ?_
  intro p e s m below meth c S hr hlk hK hP hD hS ls hl
  have hl : lv_has ls 8 [(0, .ref (ag 0)), (1, .ref (ag (5 + s9))), (2, .int (nI i9)), (3, .int (nI w9)), (4, .int (nI v9))] := hl
  obtain ⟨n, d, hn, hn8, hd, hd5, ho, hso, hli, hsp, hpt⟩ := id hR
  have hi8 : i9 < n := by rw [cntN_eq hn hn8] at hi; exact hi
  obtain ⟨H, hH⟩ : ∃ zz9, zz9 = s.heap := ⟨_, rfl⟩
  obtain ⟨locs, hlocs⟩ : ∃ zz9 : List Loc, zz9 = [] := ⟨_, rfl⟩
  have hP : PE E [[gObj ag ah az ak i0], hillsW E ah r, hillsW E az x, shO E ag z u, shN E ag y] H := by rw [hH]; exact hP
  have hS : va_S (inB [[gObj ag ah az ak i0], hillsW E ah r, hillsW E az x, shO E ag z u, shN E ag y]) s.heap H locs := by rw [hH, hlocs]; exact hS
  show W p l e ({ frames := 5, cells := 0, slots := 0, locals := 105 }) s m ([.ref (ag 0), .ref (ag (5 + s9)), .int (nI i9), .int (nI w9), .int (nI v9)] : List Value).toArray below meth c s.heap [] 0 0 _ _
  suffices hgo : W p l e ({ frames := 5, cells := 0, slots := 0, locals := 105 }) s m ([.ref (ag 0), .ref (ag (5 + s9)), .int (nI i9), .int (nI w9), .int (nI v9)] : List Value).toArray below meth c H locs 0 0 (MQ below (qIx E [[gObj ag ah az ak i0], hillsW E ah r, hillsW E az x, shO E ag z u, shN E ag y] (fun u9 => [[gObj ag ah az ak i0], hillsW E ah r, hillsW E az u9, shO E ag z u, shN E ag y]) (bI (okN y (40 * s9) (upd r (21 + 7 * i9 + w9) (nI v9)) i9 (min len 10) = true))) ([.ref (ag 0), .ref (ag (5 + s9)), .int (nI i9), .int (nI w9), .int (nI v9)] : List Value).toArray s 0 0 (inB [[gObj ag ah az ak i0], hillsW E ah r, hillsW E az x, shO E ag z u, shN E ag y])) (F0 m 0 ls []) by rw [hH, hlocs] at hgo; exact hgo
  clear hH hlocs
  refine lv_aload_n S.1 S.2.1 dX4_isAsTold_0 rfl (lv_at hl 0 rfl) ?_
  refine gf_X4_16 S hK hP 0 0 rfl rfl rfl dX4_isAsTold_1 ?_
  refine lv_aload_n S.1 S.2.1 dX4_isAsTold_4 rfl (lv_at hl 0 rfl) ?_
  refine gf_X4_10 S hK hP 0 0 rfl rfl rfl dX4_isAsTold_5 ?_
  refine go_V (run_V (As := [.ref (ah 0)]) (rest := []) (n := 1) S hK (bl_P hP [2, 1] rfl) (bl_D hD [2, 1] rfl rfl) (c_X0_become l E az ah x r n hn hn8) gV_X4_135 (by decide +kernel) rfl ⟨rfl, rfl⟩ ⟨Nat.le_of_ble_eq_true rfl, Nat.le_of_ble_eq_true rfl⟩ (ci := 0) (q0 := 0) rfl rfl hl.1 (Nat.le_of_ble_eq_true rfl) dX4_isAsTold_8 ⟨Nat.zero_le _, Nat.zero_le _⟩) hP hD hS [2, 1] rfl (had_cons hw_ad (had_cons rfl rfl)) (Bs' := [[gObj ag ah az ak i0], hillsW E ah r, hillsW E az (becF x r), shO E ag z u, shN E ag y]) rfl (fun H locs hP hD hS => ?_)
  obtain ⟨r_8, er_8⟩ : ∃ zz9 : Row, zz9 = becF x r := ⟨_, rfl⟩
  rw [← er_8] at hP hD
  have hev_r_8 : Ev r_8 r := by rw [er_8]; exact Ev.bec
  have hRI_r_8 : RI r_8 := RI_ev hev_r_8.sy hR
  have hr_8_1 : r_8 1 = nI n := (hev_r_8.lo (by decide)).trans hn
  have hr_8_0 : r_8 0 = nI d := (hev_r_8.lo (by decide)).trans hd
  refine lv_aload_n S.1 S.2.1 dX4_isAsTold_11 rfl (lv_at hl 0 rfl) ?_
  refine gf_X4_16 S hK hP 0 0 rfl rfl rfl dX4_isAsTold_12 ?_
  refine gf_X4_71 S hK hP 2 0 rfl rfl rfl dX4_isAsTold_15 ?_
  refine lv_iload_n S.1 S.2.1 dX4_isAsTold_18 rfl (lv_at hl 2 rfl) ?_
  refine b_aaldN (i := i9) S hK hP 2 2 2 rfl rfl rfl (by omega) (by decide) (v := az (4 + i9)) rfl dX4_isAsTold_19 ?_
  refine lv_iload_n S.1 S.2.1 dX4_isAsTold_20 rfl (lv_at hl 3 rfl) ?_
  refine lv_iload S.1 S.2.1 dX4_isAsTold_21 (lv_at hl 4 rfl) ?_
  refine go_Vc (run_V (As := [.int (nI w9), .int (nI v9)]) (rest := []) (n := 2) S hK (cell_P hP (b := 2) (j := (4 + i9)) rfl (hw_pot (by omega))) cell_D (c_X1_put l E (az (4 + i9)) (r_8 (21 + 7 * i9)) (r_8 (21 + 7 * i9 + 1)) (r_8 (21 + 7 * i9 + 2)) (r_8 (21 + 7 * i9 + 3)) (r_8 (21 + 7 * i9 + 4)) (r_8 (21 + 7 * i9 + 5)) (r_8 (21 + 7 * i9 + 6)) (nI w9) (nI v9)) gV_X4_105 (by decide +kernel) rfl ⟨rfl, rfl⟩ ⟨Nat.le_of_ble_eq_true rfl, Nat.le_of_ble_eq_true rfl⟩ (ci := 1) (q0 := 0) rfl rfl hl.1 (Nat.le_of_ble_eq_true rfl) dX4_isAsTold_23 ⟨Nat.zero_le _, Nat.zero_le _⟩) hP hD hS (b := 2) (j := (4 + i9)) rfl (hw_pot (by omega)) (hs_all (vs := pvs r_8 i9 (nI w9) (nI v9)) (by omega)) (Bs' := [[gObj ag ah az ak i0], hillsW E ah r, hillsW E az (putP r_8 i9 (pvs r_8 i9 (nI w9) (nI v9))), shO E ag z u, shN E ag y]) rfl (fun H locs hP hD hS => ?_)
  rw [pvs_eq (k := w9) (by omega)] at hP hD
  obtain ⟨r_23, er_23⟩ : ∃ zz9 : Row, zz9 = upd r_8 (21 + 7 * i9 + w9) (nI v9) := ⟨_, rfl⟩
  rw [← er_23] at hP hD
  have hr_23_1 : r_23 1 = nI n := by rw [er_23]; exact (upd_ne (by omega)).trans hr_8_1
  have hr_23_0 : r_23 0 = nI d := by rw [er_23]; exact (upd_ne (by omega)).trans hr_8_0
  have hRI_r_23 : RI r_23 := by rw [er_23]; exact RI_pf (f := w9) hRI_r_8 hw ⟨v9, hv, rfl⟩
  have hev_r_23 : Ev r_23 (upd r (21 + 7 * i9 + w9) (nI v9)) := by rw [er_23]; exact (hev_r_8).up (by omega) rfl
  refine lv_aload_n S.1 S.2.1 dX4_isAsTold_26 rfl (lv_at hl 1 rfl) ?_
  refine gf_X4_185 S hK hP 3 (1 + s9) rfl (sO_at (by omega)) rfl dX4_isAsTold_27 ?_
  refine lv_eqi (y := nI len) elen ?_
  refine lv_bipush (v := 10) S.1 S.2.1 dX4_isAsTold_30 (by decide) ?_
  refine va_mmin S.1 S.2.1 (S.2.2.1.trans hl.1.symm) S.2.2.2.1 (S.2.2.2.2 _ (List.mem_cons_of_mem _ mk_X4_188)) (S.2.2.2.2 _ (List.mem_cons_of_mem _ sk_JMmin)) (S.2.2.2.2 _ (List.mem_cons_of_mem _ nk_J9)) (S.2.2.2.2 _ (List.mem_cons_of_mem _ ck_JMmin)) (Nat.le_of_ble_eq_true rfl) (Nat.le_of_ble_eq_true rfl) (Nat.zero_le _) (Nat.zero_le _) dX4_isAsTold_32 ?_
  refine lv_eqi (y := nI (min len 10)) (min_10 hlen) ?_
  refine lv_istore (lv' := [(5, .int (nI (min len 10))), (0, .ref (ag 0)), (1, .ref (ag (5 + s9))), (2, .int (nI i9)), (3, .int (nI w9)), (4, .int (nI v9))]) S.1 S.2.1 dX4_isAsTold_35 hl (by decide) rfl (fun ls hl => ?_)
  refine lv_iconst (v := 0) S.1 S.2.1 dX4_isAsTold_37 (by decide) ?_
  refine lv_istore (lv' := [(6, .int 0), (5, .int (nI (min len 10))), (0, .ref (ag 0)), (1, .ref (ag (5 + s9))), (2, .int (nI i9)), (3, .int (nI w9)), (4, .int (nI v9))]) S.1 S.2.1 dX4_isAsTold_38 hl (by decide) rfl (fun ls hl => ?_)
  have L_40 : ∀ (fu : Nat) (k : Nat) (tk : Row), (k ≤ min len 10) → (min len 10 < k + fu) → (tk = daysF r_23 (7 * (k - 1))) → (RI tk) → (okN y (40 * s9) r_23 i9 k = true) → ∀ (H : Heap) (locs : List Loc), PE E [[gObj ag ah az ak i0], hillsW E ah r, hillsW E az tk, shO E ag z u, shN E ag y] H → DE (inB [[gObj ag ah az ak i0], hillsW E ah r, hillsW E az x, shO E ag z u, shN E ag y]) [[gObj ag ah az ak i0], hillsW E ah r, hillsW E az tk, shO E ag z u, shN E ag y] → va_S (inB [[gObj ag ah az ak i0], hillsW E ah r, hillsW E az x, shO E ag z u, shN E ag y]) s.heap H locs → ∀ (ls : Array Slot), lv_has ls 8 [(0, .ref (ag 0)), (1, .ref (ag (5 + s9))), (2, .int (nI i9)), (5, .int (nI (min len 10))), (6, .int (nI k))] → W p l e ({ frames := 5, cells := 0, slots := 0, locals := 105 }) s m ([.ref (ag 0), .ref (ag (5 + s9)), .int (nI i9), .int (nI w9), .int (nI v9)] : List Value).toArray below meth c H locs 0 0 (MQ below (qIx E [[gObj ag ah az ak i0], hillsW E ah r, hillsW E az x, shO E ag z u, shN E ag y] (fun u9 => [[gObj ag ah az ak i0], hillsW E ah r, hillsW E az u9, shO E ag z u, shN E ag y]) (bI (okN y (40 * s9) (upd r (21 + 7 * i9 + w9) (nI v9)) i9 (min len 10) = true))) ([.ref (ag 0), .ref (ag (5 + s9)), .int (nI i9), .int (nI w9), .int (nI v9)] : List Value).toArray s 0 0 (inB [[gObj ag ah az ak i0], hillsW E ah r, hillsW E az x, shO E ag z u, shN E ag y])) (F0 m 40 ls []) := by
    intro fu
    induction fu with
    | zero =>
      intro k tk hk hf htk hRk hok
      omega
    | succ fu ih_40 =>
      intro k tk hk hf htk hRk hok H locs hP hD hS ls hl
      refine lv_iload S.1 S.2.1 dX4_isAsTold_40 (lv_at hl 4 rfl) ?_
      refine lv_iload S.1 S.2.1 dX4_isAsTold_42 (lv_at hl 3 rfl) ?_
      refine lv_icmp_ge (tgt := 101) S.1 S.2.1 dX4_isAsTold_44 (by decide) (fun c_44 => ?_) (fun c_44 => ?_)
      · have n_44 := Int32.not_lt.mpr c_44
        refine lv_iconst (v := 1) S.1 S.2.1 dX4_isAsTold_101 (by decide) ?_
        exact retZx S hr hlk rfl tk hP hS (by rw [← ev_ok hev_r_23 (by rw [cntN_eq hr_23_1 hn8]; exact hi8), show min len 10 = k by (have z9 := le_endK hk c_44 (by omega); omega), hok]; rfl) dX4_isAsTold_102
      · have n_44 := Int32.not_le.mp c_44
        have hk2 : k < min len 10 := lt_in c_44 hk
        refine lv_iload S.1 S.2.1 dX4_isAsTold_47 (lv_at hl 4 rfl) ?_
        refine lv_if_le (tgt := 61) S.1 S.2.1 dX4_isAsTold_49 (by decide) (fun c_49 => ?_) (fun c_49 => ?_)
        · have n_49 := Int32.not_lt.mpr c_49
          have e33 : tk = daysF r_23 (7 * k) := by (rw [htk, show k = 0 from Nat.le_zero.mp (le_of_nI (b := 0) c_49 (by omega) (by decide))])
          refine lv_aload_n S.1 S.2.1 dX4_isAsTold_61 rfl (lv_at hl 1 rfl) ?_
          refine gf_X4_193 S hK hP 3 (1 + s9) rfl (sO_at (by omega)) rfl dX4_isAsTold_62 ?_
          refine lv_iload S.1 S.2.1 dX4_isAsTold_65 (lv_at hl 4 rfl) ?_
          refine b_ialdN (i := k) S hK hP 4 s9 rfl (sN_at (by omega)) (by omega) (by decide) dX4_isAsTold_67 ?_
          refine lv_eqi (y := y (40 * s9 + k)) (seg_at (by omega)) ?_
          refine lv_istore (lv' := [(7, .int (y (40 * s9 + k))), (0, .ref (ag 0)), (1, .ref (ag (5 + s9))), (2, .int (nI i9)), (5, .int (nI (min len 10))), (6, .int (nI k))]) S.1 S.2.1 dX4_isAsTold_68 hl (by decide) rfl (fun ls hl => ?_)
          refine lv_iload S.1 S.2.1 dX4_isAsTold_70 (lv_at hl 0 rfl) ?_
          refine lv_iconst (v := (-1)) S.1 S.2.1 dX4_isAsTold_72 (by decide) ?_
          refine lv_icmp_eq (tgt := 95) S.1 S.2.1 dX4_isAsTold_73 (by decide) (fun c_73 => ?_) (fun c_73 => ?_)
          · refine lv_iinc (v := nI (k + 1)) (lv' := [(6, .int (nI (k + 1))), (7, .int (y (40 * s9 + k))), (0, .ref (ag 0)), (1, .ref (ag (5 + s9))), (2, .int (nI i9)), (5, .int (nI (min len 10)))]) S.1 S.2.1 dX4_isAsTold_95 hl (k := 5) rfl (nI_1 k) (by decide) rfl (fun ls hl => ?_)
            refine lv_goto (tgt := 40) S.1 S.2.1 dX4_isAsTold_98 (by decide) ?_
            exact ih_40 (k + 1) tk (by omega) (by omega) (show tk = daysF r_23 (7 * (k + 1 - 1)) by (rw [e33, Nat.add_sub_cancel])) hRk (okN_y hok (Or.inl c_73)) H locs hP hD hS ls (lv_sub hl [2, 3, 4, 5, 0] rfl)
          · refine lv_iload S.1 S.2.1 dX4_isAsTold_76 (lv_at hl 0 rfl) ?_
            refine lv_aload_n S.1 S.2.1 dX4_isAsTold_78 rfl (lv_at hl 1 rfl) ?_
            refine gf_X4_16 S hK hP 0 0 rfl rfl rfl dX4_isAsTold_79 ?_
            refine gf_X4_71 S hK hP 2 0 rfl rfl rfl dX4_isAsTold_82 ?_
            refine lv_iload_n S.1 S.2.1 dX4_isAsTold_85 rfl (lv_at hl 3 rfl) ?_
            refine b_aaldN (i := i9) S hK hP 2 2 2 rfl rfl rfl (by omega) (by decide) (v := az (4 + i9)) rfl dX4_isAsTold_86 ?_
            refine gf_X4_196 S hK hP 2 (4 + i9) rfl (hw_pot (by omega)) rfl dX4_isAsTold_87 ?_
            refine lv_icmp_eq (tgt := 95) S.1 S.2.1 dX4_isAsTold_90 (by decide) (fun c_90 => ?_) (fun c_90 => ?_)
            · refine lv_iinc (v := nI (k + 1)) (lv' := [(6, .int (nI (k + 1))), (7, .int (y (40 * s9 + k))), (0, .ref (ag 0)), (1, .ref (ag (5 + s9))), (2, .int (nI i9)), (5, .int (nI (min len 10)))]) S.1 S.2.1 dX4_isAsTold_95 hl (k := 5) rfl (nI_1 k) (by decide) rfl (fun ls hl => ?_)
              refine lv_goto (tgt := 40) S.1 S.2.1 dX4_isAsTold_98 (by decide) ?_
              exact ih_40 (k + 1) tk (by omega) (by omega) (show tk = daysF r_23 (7 * (k + 1 - 1)) by (rw [e33, Nat.add_sub_cancel])) hRk (okN_y hok (Or.inr (by rw [← e33]; exact c_90))) H locs hP hD hS ls (lv_sub hl [2, 3, 4, 5, 0] rfl)
            · refine lv_iconst (v := 0) S.1 S.2.1 dX4_isAsTold_93 (by decide) ?_
              exact retZx S hr hlk rfl tk hP hS (by rw [← ev_ok hev_r_23 (by rw [cntN_eq hr_23_1 hn8]; exact hi8), okN_stop c_73 (by rw [← e33]; exact c_90) hk2]; rfl) dX4_isAsTold_94
        · have n_49 := Int32.not_le.mp c_49
          refine lv_aload_n S.1 S.2.1 dX4_isAsTold_52 rfl (lv_at hl 0 rfl) ?_
          refine gf_X4_16 S hK hP 0 0 rfl rfl rfl dX4_isAsTold_53 ?_
          refine lv_bipush (v := 7) S.1 S.2.1 dX4_isAsTold_56 (by decide) ?_
          refine go_V (run_V (As := [.int 7]) (rest := []) (n := 1) S hK (bl_P hP [2] rfl) (bl_D hD [2] rfl rfl) (c_X0_passDays l E az tk 7 (by omega) hRk) gV_X4_113 (by decide +kernel) rfl ⟨rfl, rfl⟩ ⟨Nat.le_of_ble_eq_true rfl, Nat.le_of_ble_eq_true rfl⟩ (ci := 0) (q0 := 0) rfl rfl hl.1 (Nat.le_of_ble_eq_true rfl) dX4_isAsTold_58 ⟨Nat.zero_le _, Nat.zero_le _⟩) hP hD hS [2] rfl (had_cons hw_ad rfl) (Bs' := [[gObj ag ah az ak i0], hillsW E ah r, hillsW E az (daysF tk 7), shO E ag z u, shN E ag y]) rfl (fun H locs hP hD hS => ?_)
          obtain ⟨r_58, er_58⟩ : ∃ zz9 : Row, zz9 = daysF tk 7 := ⟨_, rfl⟩
          rw [← er_58] at hP hD
          have hRI_r_58 : RI r_58 := by rw [er_58]; exact daysF_RI hRk _
          have e33 : r_58 = daysF r_23 (7 * k) := by (rw [er_58, htk]; exact days_k (Nat.pos_of_ne_zero (fun z9 => c_49 (by rw [z9]; decide))))
          refine lv_aload_n S.1 S.2.1 dX4_isAsTold_61 rfl (lv_at hl 1 rfl) ?_
          refine gf_X4_193 S hK hP 3 (1 + s9) rfl (sO_at (by omega)) rfl dX4_isAsTold_62 ?_
          refine lv_iload S.1 S.2.1 dX4_isAsTold_65 (lv_at hl 4 rfl) ?_
          refine b_ialdN (i := k) S hK hP 4 s9 rfl (sN_at (by omega)) (by omega) (by decide) dX4_isAsTold_67 ?_
          refine lv_eqi (y := y (40 * s9 + k)) (seg_at (by omega)) ?_
          refine lv_istore (lv' := [(7, .int (y (40 * s9 + k))), (0, .ref (ag 0)), (1, .ref (ag (5 + s9))), (2, .int (nI i9)), (5, .int (nI (min len 10))), (6, .int (nI k))]) S.1 S.2.1 dX4_isAsTold_68 hl (by decide) rfl (fun ls hl => ?_)
          refine lv_iload S.1 S.2.1 dX4_isAsTold_70 (lv_at hl 0 rfl) ?_
          refine lv_iconst (v := (-1)) S.1 S.2.1 dX4_isAsTold_72 (by decide) ?_
          refine lv_icmp_eq (tgt := 95) S.1 S.2.1 dX4_isAsTold_73 (by decide) (fun c_73 => ?_) (fun c_73 => ?_)
          · refine lv_iinc (v := nI (k + 1)) (lv' := [(6, .int (nI (k + 1))), (7, .int (y (40 * s9 + k))), (0, .ref (ag 0)), (1, .ref (ag (5 + s9))), (2, .int (nI i9)), (5, .int (nI (min len 10)))]) S.1 S.2.1 dX4_isAsTold_95 hl (k := 5) rfl (nI_1 k) (by decide) rfl (fun ls hl => ?_)
            refine lv_goto (tgt := 40) S.1 S.2.1 dX4_isAsTold_98 (by decide) ?_
            exact ih_40 (k + 1) r_58 (by omega) (by omega) (show r_58 = daysF r_23 (7 * (k + 1 - 1)) by (rw [e33, Nat.add_sub_cancel])) hRI_r_58 (okN_y hok (Or.inl c_73)) H locs hP hD hS ls (lv_sub hl [2, 3, 4, 5, 0] rfl)
          · refine lv_iload S.1 S.2.1 dX4_isAsTold_76 (lv_at hl 0 rfl) ?_
            refine lv_aload_n S.1 S.2.1 dX4_isAsTold_78 rfl (lv_at hl 1 rfl) ?_
            refine gf_X4_16 S hK hP 0 0 rfl rfl rfl dX4_isAsTold_79 ?_
            refine gf_X4_71 S hK hP 2 0 rfl rfl rfl dX4_isAsTold_82 ?_
            refine lv_iload_n S.1 S.2.1 dX4_isAsTold_85 rfl (lv_at hl 3 rfl) ?_
            refine b_aaldN (i := i9) S hK hP 2 2 2 rfl rfl rfl (by omega) (by decide) (v := az (4 + i9)) rfl dX4_isAsTold_86 ?_
            refine gf_X4_196 S hK hP 2 (4 + i9) rfl (hw_pot (by omega)) rfl dX4_isAsTold_87 ?_
            refine lv_icmp_eq (tgt := 95) S.1 S.2.1 dX4_isAsTold_90 (by decide) (fun c_90 => ?_) (fun c_90 => ?_)
            · refine lv_iinc (v := nI (k + 1)) (lv' := [(6, .int (nI (k + 1))), (7, .int (y (40 * s9 + k))), (0, .ref (ag 0)), (1, .ref (ag (5 + s9))), (2, .int (nI i9)), (5, .int (nI (min len 10)))]) S.1 S.2.1 dX4_isAsTold_95 hl (k := 5) rfl (nI_1 k) (by decide) rfl (fun ls hl => ?_)
              refine lv_goto (tgt := 40) S.1 S.2.1 dX4_isAsTold_98 (by decide) ?_
              exact ih_40 (k + 1) r_58 (by omega) (by omega) (show r_58 = daysF r_23 (7 * (k + 1 - 1)) by (rw [e33, Nat.add_sub_cancel])) hRI_r_58 (okN_y hok (Or.inr (by rw [← e33]; exact c_90))) H locs hP hD hS ls (lv_sub hl [2, 3, 4, 5, 0] rfl)
            · refine lv_iconst (v := 0) S.1 S.2.1 dX4_isAsTold_93 (by decide) ?_
              exact retZx S hr hlk rfl r_58 hP hS (by rw [← ev_ok hev_r_23 (by rw [cntN_eq hr_23_1 hn8]; exact hi8), okN_stop c_73 (by rw [← e33]; exact c_90) hk2]; rfl) dX4_isAsTold_94
  exact L_40 (min len 10 + 1) 0 r_23 (by omega) (by omega) rfl hRI_r_23 rfl H locs hP hD hS ls (lv_sub hl [2, 3, 4, 1, 0] rfl)
set_option maxHeartbeats 800000 in
set_option maxRecDepth 100000 in
theorem c_X4_fits (l : Launch) (E : EV) (ag ah az ak : Nat → Nat) (i0 : Int32) (r f x z u y : Row) (s9 pp : Int32) (hR : RI r) (hU : ∀ j, j < 4 → le9 (u j) 40) : Met l yX4_fits (wq yX4_fits cX4_fits 6 (some .int)) ({ frames := 6, cells := 0, slots := 0, locals := 132 }) (preB E [.ref (ag 0), .int s9, .int pp] [[gObj ag ah az ak i0], hillsW E ah r, [(ag 4, .inl (E.2.1, 7, .inl (sg f 7)))], hillsW E az x, shO E ag z u, shN E ag y]) (qIx E [[gObj ag ah az ak i0], hillsW E ah r, [(ag 4, .inl (E.2.1, 7, .inl (sg f 7)))], hillsW E az x, shO E ag z u, shN E ag y] (fun u9 => [[gObj ag ah az ak i0], hillsW E ah r, [(ag 4, .inl (E.2.1, 7, .inl (sg (fndC f (rFits r y z u s9 pp)) 7)))], hillsW E az u9, shO E ag z u, shN E ag y]) (ansR (rFits r y z u s9 pp))) 0 0 (inB [[gObj ag ah az ak i0], hillsW E ah r, [(ag 4, .inl (E.2.1, 7, .inl (sg f 7)))], hillsW E az x, shO E ag z u, shN E ag y]) := by
  refine M_mk RX4 (by decide) rfl (Nat.le_of_ble_eq_true rfl) ?_
  intro p e s m below meth c S hr hlk hK hP hD hS ls hl
  have hl : lv_has ls 6 [(0, .ref (ag 0)), (1, .int s9), (2, .int pp)] := hl
  obtain ⟨n, d, hn, hn8, hd, hd5, ho, hso, hli, hsp, hpt⟩ := id hR
  obtain ⟨H, hH⟩ : ∃ zz9, zz9 = s.heap := ⟨_, rfl⟩
  obtain ⟨locs, hlocs⟩ : ∃ zz9 : List Loc, zz9 = [] := ⟨_, rfl⟩
  have hP : PE E [[gObj ag ah az ak i0], hillsW E ah r, [(ag 4, .inl (E.2.1, 7, .inl (sg f 7)))], hillsW E az x, shO E ag z u, shN E ag y] H := by rw [hH]; exact hP
  have hS : va_S (inB [[gObj ag ah az ak i0], hillsW E ah r, [(ag 4, .inl (E.2.1, 7, .inl (sg f 7)))], hillsW E az x, shO E ag z u, shN E ag y]) s.heap H locs := by rw [hH, hlocs]; exact hS
  show W p l e ({ frames := 6, cells := 0, slots := 0, locals := 132 }) s m ([.ref (ag 0), .int s9, .int pp] : List Value).toArray below meth c s.heap [] 0 0 _ _
  suffices hgo : W p l e ({ frames := 6, cells := 0, slots := 0, locals := 132 }) s m ([.ref (ag 0), .int s9, .int pp] : List Value).toArray below meth c H locs 0 0 (MQ below (qIx E [[gObj ag ah az ak i0], hillsW E ah r, [(ag 4, .inl (E.2.1, 7, .inl (sg f 7)))], hillsW E az x, shO E ag z u, shN E ag y] (fun u9 => [[gObj ag ah az ak i0], hillsW E ah r, [(ag 4, .inl (E.2.1, 7, .inl (sg (fndC f (rFits r y z u s9 pp)) 7)))], hillsW E az u9, shO E ag z u, shN E ag y]) (ansR (rFits r y z u s9 pp))) ([.ref (ag 0), .int s9, .int pp] : List Value).toArray s 0 0 (inB [[gObj ag ah az ak i0], hillsW E ah r, [(ag 4, .inl (E.2.1, 7, .inl (sg f 7)))], hillsW E az x, shO E ag z u, shN E ag y])) (F0 m 0 ls []) by rw [hH, hlocs] at hgo; exact hgo
  clear hH hlocs
  refine lv_aload_n S.1 S.2.1 dX4_fits_0 rfl (lv_at hl 0 rfl) ?_
  refine lv_iload_n S.1 S.2.1 dX4_fits_1 rfl (lv_at hl 1 rfl) ?_
  refine lv_iload_n S.1 S.2.1 dX4_fits_2 rfl (lv_at hl 2 rfl) ?_
  refine go_S (run_V (As := [.int s9, .int pp]) (rest := []) (n := 2) S hK (bl_P hP [0, 1, 4] rfl) (bl_D hD [0, 1, 4] rfl rfl) (c_X4_toldFault l E ag ah az ak i0 r z u s9 pp ) gV_X4_175 (by decide +kernel) rfl ⟨rfl, rfl⟩ ⟨Nat.le_of_ble_eq_true rfl, Nat.le_of_ble_eq_true rfl⟩ (ci := 4) (q0 := 0) rfl rfl hl.1 (Nat.le_of_ble_eq_true rfl) dX4_fits_3 ⟨Nat.zero_le _, Nat.zero_le _⟩) ?_
  refine lv_istore_n (lv' := [(3, .int (fltV z s9 (0 ≤ pp ∧ pp < r 1))), (0, .ref (ag 0)), (1, .int s9), (2, .int pp)]) S.1 S.2.1 dX4_fits_6 rfl hl (by decide) rfl (fun ls hl => ?_)
  refine lv_iload_n S.1 S.2.1 dX4_fits_7 rfl (lv_at hl 0 rfl) ?_
  refine lv_iconst (v := (-1)) S.1 S.2.1 dX4_fits_8 (by decide) ?_
  refine lv_icmp_eq (tgt := 18) S.1 S.2.1 dX4_fits_9 (by decide) (fun c_9 => ?_) (fun c_9 => ?_)
  · have hc9 := flt_ok c_9
    obtain ⟨k_s9, hk_s9, ek_s9, hz_s9, hG9⟩ := lack_ok hc9
    obtain ⟨len, hlen, elen⟩ := hU k_s9 (by omega)
    obtain ⟨k_pp, hk_pp, ek_pp⟩ := pot_nat hG9 hn (by omega)
    refine lv_iconst (v := 0) S.1 S.2.1 dX4_fits_18 (by decide) ?_
    refine lv_istore (lv' := [(4, .int 0), (3, .int (fltV z s9 (0 ≤ pp ∧ pp < r 1))), (0, .ref (ag 0)), (1, .int s9), (2, .int pp)]) S.1 S.2.1 dX4_fits_19 hl (by decide) rfl (fun ls hl => ?_)
    refine lv_iconst (v := 0) S.1 S.2.1 dX4_fits_21 (by decide) ?_
    refine lv_istore (lv' := [(5, .int 0), (4, .int 0), (3, .int (fltV z s9 (0 ≤ pp ∧ pp < r 1))), (0, .ref (ag 0)), (1, .int s9), (2, .int pp)]) S.1 S.2.1 dX4_fits_22 hl (by decide) rfl (fun ls hl => ?_)
    have hl : lv_has ls 6 [(5, .int 0), (4, .int (cuN (fun v => okN y (40 * k_s9) (upd r (21 + 7 * k_pp + 1) (nI v)) k_pp (min len 10)) 0)), (3, .int (fltV z s9 (0 ≤ pp ∧ pp < r 1))), (0, .ref (ag 0)), (1, .int s9), (2, .int pp)] := hl
    have L_24 : ∀ (fu : Nat) (i : Nat) (ti : Row), (i ≤ 100) → (100 < i + fu) → ∀ (H : Heap) (locs : List Loc), PE E [[gObj ag ah az ak i0], hillsW E ah r, [(ag 4, .inl (E.2.1, 7, .inl (sg f 7)))], hillsW E az ti, shO E ag z u, shN E ag y] H → DE (inB [[gObj ag ah az ak i0], hillsW E ah r, [(ag 4, .inl (E.2.1, 7, .inl (sg f 7)))], hillsW E az x, shO E ag z u, shN E ag y]) [[gObj ag ah az ak i0], hillsW E ah r, [(ag 4, .inl (E.2.1, 7, .inl (sg f 7)))], hillsW E az ti, shO E ag z u, shN E ag y] → va_S (inB [[gObj ag ah az ak i0], hillsW E ah r, [(ag 4, .inl (E.2.1, 7, .inl (sg f 7)))], hillsW E az x, shO E ag z u, shN E ag y]) s.heap H locs → ∀ (ls : Array Slot), lv_has ls 6 [(0, .ref (ag 0)), (1, .int s9), (2, .int pp), (4, .int (cuN (fun v => okN y (40 * k_s9) (upd r (21 + 7 * k_pp + 1) (nI v)) k_pp (min len 10)) i)), (5, .int (nI i))] → W p l e ({ frames := 6, cells := 0, slots := 0, locals := 132 }) s m ([.ref (ag 0), .int s9, .int pp] : List Value).toArray below meth c H locs 0 0 (MQ below (qIx E [[gObj ag ah az ak i0], hillsW E ah r, [(ag 4, .inl (E.2.1, 7, .inl (sg f 7)))], hillsW E az x, shO E ag z u, shN E ag y] (fun u9 => [[gObj ag ah az ak i0], hillsW E ah r, [(ag 4, .inl (E.2.1, 7, .inl (sg (fndC f (rFits r y z u s9 pp)) 7)))], hillsW E az u9, shO E ag z u, shN E ag y]) (ansR (rFits r y z u s9 pp))) ([.ref (ag 0), .int s9, .int pp] : List Value).toArray s 0 0 (inB [[gObj ag ah az ak i0], hillsW E ah r, [(ag 4, .inl (E.2.1, 7, .inl (sg f 7)))], hillsW E az x, shO E ag z u, shN E ag y])) (F0 m 24 ls []) := by
      intro fu
      induction fu with
      | zero =>
        intro i ti hi hf
        omega
      | succ fu ih_24 =>
        intro i ti hi hf H locs hP hD hS ls hl
        refine lv_iload S.1 S.2.1 dX4_fits_24 (lv_at hl 4 rfl) ?_
        refine lv_bipush (v := 99) S.1 S.2.1 dX4_fits_26 (by decide) ?_
        refine lv_icmp_gt (tgt := 57) S.1 S.2.1 dX4_fits_28 (by decide) (fun c_28 => ?_) (fun c_28 => ?_)
        · have n_28 := Int32.not_le.mpr c_28
          have hi9 : i = 99 + 1 := by (have z9 : 99 < i := lt_of_nI (a := 99) c_28 (by decide) (by omega); omega)
          refine lv_iload S.1 S.2.1 dX4_fits_57 (lv_at hl 3 rfl) ?_
          exact retIx S hr hlk ti (by have e9 : rFits r y z u s9 pp = .inr (fun _ => 0, cuN (fun v => okN y (40 * k_s9) (upd r (21 + 7 * k_pp + 1) (nI v)) k_pp (min len 10)) i) := (by unfold rFits; rw [if_pos hc9, ek_s9, ek_pp, tN_nI (k := k_s9) (by omega), tN_nI (k := k_pp) (by omega), elen, tN_nI (k := len) (by omega), gP_cu, hi9]); rw [e9, fndC_inr]; exact hP) hS (by have e9 : rFits r y z u s9 pp = .inr (fun _ => 0, cuN (fun v => okN y (40 * k_s9) (upd r (21 + 7 * k_pp + 1) (nI v)) k_pp (min len 10)) i) := (by unfold rFits; rw [if_pos hc9, ek_s9, ek_pp, tN_nI (k := k_s9) (by omega), tN_nI (k := k_pp) (by omega), elen, tN_nI (k := len) (by omega), gP_cu, hi9]); rw [e9, ansR_inr]) dX4_fits_59
        · have n_28 := Int32.not_lt.mp c_28
          have hi2 : i ≤ 99 := le_of_nI (b := 99) (Int32.not_lt.mp c_28) (by omega) (by decide)
          refine lv_aload_n S.1 S.2.1 dX4_fits_31 rfl (lv_at hl 0 rfl) ?_
          refine lv_aload_n S.1 S.2.1 dX4_fits_32 rfl (lv_at hl 0 rfl) ?_
          refine gf_X4_28 S hK hP 0 0 rfl rfl rfl dX4_fits_33 ?_
          refine lv_iload_n S.1 S.2.1 dX4_fits_36 rfl (lv_at hl 1 rfl) ?_
          refine lv_eqi (y := nI k_s9) ek_s9 ?_
          refine b_aaldN (i := k_s9) S hK hP 3 4 0 rfl rfl rfl (by omega) (by decide) (v := ag (5 + k_s9)) rfl dX4_fits_37 ?_
          refine lv_iload_n S.1 S.2.1 dX4_fits_38 rfl (lv_at hl 2 rfl) ?_
          refine lv_eqi (y := nI k_pp) ek_pp ?_
          refine lv_iconst (v := 1) S.1 S.2.1 dX4_fits_39 (by decide) ?_
          refine lv_iload S.1 S.2.1 dX4_fits_40 (lv_at hl 4 rfl) ?_
          refine go_Ix (run_V (As := [.ref (ag (5 + k_s9)), .int (nI k_pp), .int 1, .int (nI i)]) (rest := []) (n := 4) S hK (bl_P hP [0, 1, 3, 4, 5] rfl) (bl_D hD [0, 1, 3, 4, 5] rfl rfl) (c_X4_isAsTold l E ag ah az ak i0 r ti z u y k_s9 k_pp 1 i len hR (by omega) elen hlen (by rw [cntN_eq hn hn8]; exact hk_pp) (by decide) (show i ≤ 99 by omega)) gV_X4_178 (by decide +kernel) rfl ⟨rfl, rfl⟩ ⟨Nat.le_of_ble_eq_true rfl, Nat.le_of_ble_eq_true rfl⟩ (ci := 4) (q0 := 0) rfl rfl hl.1 (Nat.le_of_ble_eq_true rfl) dX4_fits_42 ⟨Nat.zero_le _, Nat.zero_le _⟩) hP hD hS [0, 1, 3, 4, 5] rfl (fun _ => (had_cons rfl (had_cons rfl (had_cons hw_ad (had_cons rfl (had_cons rfl rfl)))))) (Bs' := fun u9 => [[gObj ag ah az ak i0], hillsW E ah r, [(ag 4, .inl (E.2.1, 7, .inl (sg f 7)))], hillsW E az u9, shO E ag z u, shN E ag y]) (fun _ => rfl) (fun u_1 H locs hP hD hS => ?_)
          refine b_ifeq (tgt := 51) S.1 S.2.1 dX4_fits_45 (by decide) (fun c_45 => ?_) (fun c_45 => ?_)
          · have ecu : cuN (fun v => okN y (40 * k_s9) (upd r (21 + 7 * k_pp + 1) (nI v)) k_pp (min len 10)) (i + 1) = cuN (fun v => okN y (40 * k_s9) (upd r (21 + 7 * k_pp + 1) (nI v)) k_pp (min len 10)) i := (by rw [cuN, if_neg c_45])
            rw [← ecu] at hl
            refine lv_iinc (v := nI (i + 1)) (lv' := [(5, .int (nI (i + 1))), (0, .ref (ag 0)), (1, .int s9), (2, .int pp), (4, .int (cuN (fun v => okN y (40 * k_s9) (upd r (21 + 7 * k_pp + 1) (nI v)) k_pp (min len 10)) (i + 1)))]) S.1 S.2.1 dX4_fits_51 hl (k := 4) rfl (nI_1 i) (by decide) rfl (fun ls hl => ?_)
            refine lv_goto (tgt := 24) S.1 S.2.1 dX4_fits_54 (by decide) ?_
            exact ih_24 (i + 1) u_1 (by omega) (by omega) H locs hP hD hS ls (lv_sub hl [1, 2, 3, 4, 0] rfl)
          · refine lv_iinc (v := (cuN (fun v => okN y (40 * k_s9) (upd r (21 + 7 * k_pp + 1) (nI v)) k_pp (min len 10)) i) + 1) (lv' := [(4, .int ((cuN (fun v => okN y (40 * k_s9) (upd r (21 + 7 * k_pp + 1) (nI v)) k_pp (min len 10)) i) + 1)), (0, .ref (ag 0)), (1, .int s9), (2, .int pp), (5, .int (nI i))]) S.1 S.2.1 dX4_fits_48 hl (k := 3) rfl rfl (by decide) rfl (fun ls hl => ?_)
            have ecu : cuN (fun v => okN y (40 * k_s9) (upd r (21 + 7 * k_pp + 1) (nI v)) k_pp (min len 10)) (i + 1) = cuN (fun v => okN y (40 * k_s9) (upd r (21 + 7 * k_pp + 1) (nI v)) k_pp (min len 10)) i + 1 := (by rw [cuN, if_pos c_45])
            rw [← ecu] at hl
            refine lv_iinc (v := nI (i + 1)) (lv' := [(5, .int (nI (i + 1))), (4, .int (cuN (fun v => okN y (40 * k_s9) (upd r (21 + 7 * k_pp + 1) (nI v)) k_pp (min len 10)) (i + 1))), (0, .ref (ag 0)), (1, .int s9), (2, .int pp)]) S.1 S.2.1 dX4_fits_51 hl (k := 4) rfl (nI_1 i) (by decide) rfl (fun ls hl => ?_)
            refine lv_goto (tgt := 24) S.1 S.2.1 dX4_fits_54 (by decide) ?_
            exact ih_24 (i + 1) u_1 (by omega) (by omega) H locs hP hD hS ls (lv_sub hl [2, 3, 4, 1, 0] rfl)
    exact L_24 101 0 x (by omega) (by omega) H locs hP hD hS ls (lv_sub hl [3, 4, 5, 1, 0] rfl)
  · refine lv_aload_n S.1 S.2.1 dX4_fits_12 rfl (lv_at hl 1 rfl) ?_
    refine lv_iload_n S.1 S.2.1 dX4_fits_13 rfl (lv_at hl 0 rfl) ?_
    refine lv_eqi (y := nI (lackK z s9 (0 ≤ pp ∧ pp < r 1))) (flt_eq c_9) ?_
    refine go_I (run_V (As := [.int (nI (lackK z s9 (0 ≤ pp ∧ pp < r 1)))]) (rest := []) (n := 1) S hK (bl_P hP [0, 2] rfl) (bl_D hD [0, 2] rfl rfl) (c_X4_finding l E ag ah az ak i0 f (lackK z s9 (0 ≤ pp ∧ pp < r 1)) lackK_lt) gV_X4_48 (by decide +kernel) rfl ⟨rfl, rfl⟩ ⟨Nat.le_of_ble_eq_true rfl, Nat.le_of_ble_eq_true rfl⟩ (ci := 4) (q0 := 0) rfl rfl hl.1 (Nat.le_of_ble_eq_true rfl) dX4_fits_14 ⟨Nat.zero_le _, Nat.zero_le _⟩) hP hD hS [0, 2] rfl (had_cons rfl (had_cons cell_ad rfl)) (Bs' := [[gObj ag ah az ak i0], hillsW E ah r, [(ag 4, .inl (E.2.1, 7, .inl (sg (upd f (lackK z s9 (0 ≤ pp ∧ pp < r 1)) (f (lackK z s9 (0 ≤ pp ∧ pp < r 1)) + 1)) 7)))], hillsW E az x, shO E ag z u, shN E ag y]) rfl (fun H locs hP hD hS => ?_)
    obtain ⟨r_14, er_14⟩ : ∃ zz9 : Row, zz9 = upd f (lackK z s9 (0 ≤ pp ∧ pp < r 1)) (f (lackK z s9 (0 ≤ pp ∧ pp < r 1)) + 1) := ⟨_, rfl⟩
    rw [← er_14] at hP hD
    exact retIx S hr hlk x (by have e9 : rFits r y z u s9 pp = .inl (lackK z s9 (0 ≤ pp ∧ pp < r 1)) := if_neg (flt_bad c_9); rw [er_14] at hP; rw [e9, fndC_inl]; exact hP) hS (by have e9 : rFits r y z u s9 pp = .inl (lackK z s9 (0 ≤ pp ∧ pp < r 1)) := if_neg (flt_bad c_9); rw [e9]; rfl) dX4_fits_17
set_option maxHeartbeats 800000 in
set_option maxRecDepth 100000 in
theorem c_X4_grief (l : Launch) (E : EV) (ag ah az ak : Nat → Nat) (i0 : Int32) (r f x z u y : Row) (s9 pp : Int32) (hR : RI r) (hU : ∀ j, j < 4 → le9 (u j) 40) : Met l yX4_grief (wq yX4_grief cX4_grief 5 (some .int)) ({ frames := 6, cells := 0, slots := 0, locals := 132 }) (preB E [.ref (ag 0), .int s9, .int pp] [[gObj ag ah az ak i0], hillsW E ah r, [(ag 4, .inl (E.2.1, 7, .inl (sg f 7)))], hillsW E az x, shO E ag z u, shN E ag y]) (qIx E [[gObj ag ah az ak i0], hillsW E ah r, [(ag 4, .inl (E.2.1, 7, .inl (sg f 7)))], hillsW E az x, shO E ag z u, shN E ag y] (fun u9 => [[gObj ag ah az ak i0], hillsW E ah r, [(ag 4, .inl (E.2.1, 7, .inl (sg (fndC f (rGrief r y z u s9 pp)) 7)))], hillsW E az u9, shO E ag z u, shN E ag y]) (ansR (rGrief r y z u s9 pp))) 0 0 (inB [[gObj ag ah az ak i0], hillsW E ah r, [(ag 4, .inl (E.2.1, 7, .inl (sg f 7)))], hillsW E az x, shO E ag z u, shN E ag y]) := by
  refine M_mk RX4 (by decide) rfl (Nat.le_of_ble_eq_true rfl) ?_
  intro p e s m below meth c S hr hlk hK hP hD hS ls hl
  have hl : lv_has ls 5 [(0, .ref (ag 0)), (1, .int s9), (2, .int pp)] := hl
  obtain ⟨n, d, hn, hn8, hd, hd5, ho, hso, hli, hsp, hpt⟩ := id hR
  obtain ⟨H, hH⟩ : ∃ zz9, zz9 = s.heap := ⟨_, rfl⟩
  obtain ⟨locs, hlocs⟩ : ∃ zz9 : List Loc, zz9 = [] := ⟨_, rfl⟩
  have hP : PE E [[gObj ag ah az ak i0], hillsW E ah r, [(ag 4, .inl (E.2.1, 7, .inl (sg f 7)))], hillsW E az x, shO E ag z u, shN E ag y] H := by rw [hH]; exact hP
  have hS : va_S (inB [[gObj ag ah az ak i0], hillsW E ah r, [(ag 4, .inl (E.2.1, 7, .inl (sg f 7)))], hillsW E az x, shO E ag z u, shN E ag y]) s.heap H locs := by rw [hH, hlocs]; exact hS
  show W p l e ({ frames := 6, cells := 0, slots := 0, locals := 132 }) s m ([.ref (ag 0), .int s9, .int pp] : List Value).toArray below meth c s.heap [] 0 0 _ _
  suffices hgo : W p l e ({ frames := 6, cells := 0, slots := 0, locals := 132 }) s m ([.ref (ag 0), .int s9, .int pp] : List Value).toArray below meth c H locs 0 0 (MQ below (qIx E [[gObj ag ah az ak i0], hillsW E ah r, [(ag 4, .inl (E.2.1, 7, .inl (sg f 7)))], hillsW E az x, shO E ag z u, shN E ag y] (fun u9 => [[gObj ag ah az ak i0], hillsW E ah r, [(ag 4, .inl (E.2.1, 7, .inl (sg (fndC f (rGrief r y z u s9 pp)) 7)))], hillsW E az u9, shO E ag z u, shN E ag y]) (ansR (rGrief r y z u s9 pp))) ([.ref (ag 0), .int s9, .int pp] : List Value).toArray s 0 0 (inB [[gObj ag ah az ak i0], hillsW E ah r, [(ag 4, .inl (E.2.1, 7, .inl (sg f 7)))], hillsW E az x, shO E ag z u, shN E ag y])) (F0 m 0 ls []) by rw [hH, hlocs] at hgo; exact hgo
  clear hH hlocs
  refine lv_aload_n S.1 S.2.1 dX4_grief_0 rfl (lv_at hl 0 rfl) ?_
  refine lv_iload_n S.1 S.2.1 dX4_grief_1 rfl (lv_at hl 1 rfl) ?_
  refine lv_iload_n S.1 S.2.1 dX4_grief_2 rfl (lv_at hl 2 rfl) ?_
  refine go_S (run_V (As := [.int s9, .int pp]) (rest := []) (n := 2) S hK (bl_P hP [0, 1, 4] rfl) (bl_D hD [0, 1, 4] rfl rfl) (c_X4_toldFault l E ag ah az ak i0 r z u s9 pp ) gV_X4_175 (by decide +kernel) rfl ⟨rfl, rfl⟩ ⟨Nat.le_of_ble_eq_true rfl, Nat.le_of_ble_eq_true rfl⟩ (ci := 4) (q0 := 0) rfl rfl hl.1 (Nat.le_of_ble_eq_true rfl) dX4_grief_3 ⟨Nat.zero_le _, Nat.zero_le _⟩) ?_
  refine lv_istore_n (lv' := [(3, .int (fltV z s9 (0 ≤ pp ∧ pp < r 1))), (0, .ref (ag 0)), (1, .int s9), (2, .int pp)]) S.1 S.2.1 dX4_grief_6 rfl hl (by decide) rfl (fun ls hl => ?_)
  refine lv_iload_n S.1 S.2.1 dX4_grief_7 rfl (lv_at hl 0 rfl) ?_
  refine lv_iconst (v := (-1)) S.1 S.2.1 dX4_grief_8 (by decide) ?_
  refine lv_icmp_eq (tgt := 18) S.1 S.2.1 dX4_grief_9 (by decide) (fun c_9 => ?_) (fun c_9 => ?_)
  · have hc9 := flt_ok c_9
    obtain ⟨k_s9, hk_s9, ek_s9, hz_s9, hG9⟩ := lack_ok hc9
    obtain ⟨len, hlen, elen⟩ := hU k_s9 (by omega)
    obtain ⟨k_pp, hk_pp, ek_pp⟩ := pot_nat hG9 hn (by omega)
    refine lv_iconst (v := 0) S.1 S.2.1 dX4_grief_18 (by decide) ?_
    refine lv_istore (lv' := [(4, .int 0), (3, .int (fltV z s9 (0 ≤ pp ∧ pp < r 1))), (0, .ref (ag 0)), (1, .int s9), (2, .int pp)]) S.1 S.2.1 dX4_grief_19 hl (by decide) rfl (fun ls hl => ?_)
    have L_21 : ∀ (fu : Nat) (i : Nat) (ti : Row), (i ≤ 100) → (100 < i + fu) → (∀ j, j < i → (fun v => okN y (40 * k_s9) (upd r (21 + 7 * k_pp + 1) (nI v)) k_pp (min len 10)) j = false) → ∀ (H : Heap) (locs : List Loc), PE E [[gObj ag ah az ak i0], hillsW E ah r, [(ag 4, .inl (E.2.1, 7, .inl (sg f 7)))], hillsW E az ti, shO E ag z u, shN E ag y] H → DE (inB [[gObj ag ah az ak i0], hillsW E ah r, [(ag 4, .inl (E.2.1, 7, .inl (sg f 7)))], hillsW E az x, shO E ag z u, shN E ag y]) [[gObj ag ah az ak i0], hillsW E ah r, [(ag 4, .inl (E.2.1, 7, .inl (sg f 7)))], hillsW E az ti, shO E ag z u, shN E ag y] → va_S (inB [[gObj ag ah az ak i0], hillsW E ah r, [(ag 4, .inl (E.2.1, 7, .inl (sg f 7)))], hillsW E az x, shO E ag z u, shN E ag y]) s.heap H locs → ∀ (ls : Array Slot), lv_has ls 5 [(0, .ref (ag 0)), (1, .int s9), (2, .int pp), (4, .int (nI i))] → W p l e ({ frames := 6, cells := 0, slots := 0, locals := 132 }) s m ([.ref (ag 0), .int s9, .int pp] : List Value).toArray below meth c H locs 0 0 (MQ below (qIx E [[gObj ag ah az ak i0], hillsW E ah r, [(ag 4, .inl (E.2.1, 7, .inl (sg f 7)))], hillsW E az x, shO E ag z u, shN E ag y] (fun u9 => [[gObj ag ah az ak i0], hillsW E ah r, [(ag 4, .inl (E.2.1, 7, .inl (sg (fndC f (rGrief r y z u s9 pp)) 7)))], hillsW E az u9, shO E ag z u, shN E ag y]) (ansR (rGrief r y z u s9 pp))) ([.ref (ag 0), .int s9, .int pp] : List Value).toArray s 0 0 (inB [[gObj ag ah az ak i0], hillsW E ah r, [(ag 4, .inl (E.2.1, 7, .inl (sg f 7)))], hillsW E az x, shO E ag z u, shN E ag y])) (F0 m 21 ls []) := by
      intro fu
      induction fu with
      | zero =>
        intro i ti hi hf hno
        omega
      | succ fu ih_21 =>
        intro i ti hi hf hno H locs hP hD hS ls hl
        refine lv_iload S.1 S.2.1 dX4_grief_21 (lv_at hl 3 rfl) ?_
        refine lv_bipush (v := 99) S.1 S.2.1 dX4_grief_23 (by decide) ?_
        refine lv_icmp_gt (tgt := 54) S.1 S.2.1 dX4_grief_25 (by decide) (fun c_25 => ?_) (fun c_25 => ?_)
        · have n_25 := Int32.not_le.mpr c_25
          have hi9 : i = 99 + 1 := by (have z9 : 99 < i := lt_of_nI (a := 99) c_25 (by decide) (by omega); omega)
          refine lv_aload_n S.1 S.2.1 dX4_grief_54 rfl (lv_at hl 0 rfl) ?_
          refine lv_iconst (v := 3) S.1 S.2.1 dX4_grief_55 (by decide) ?_
          refine go_I (run_V (As := [.int 3]) (rest := []) (n := 1) S hK (bl_P hP [0, 2] rfl) (bl_D hD [0, 2] rfl rfl) (c_X4_finding l E ag ah az ak i0 f 3 (by decide)) gV_X4_48 (by decide +kernel) rfl ⟨rfl, rfl⟩ ⟨Nat.le_of_ble_eq_true rfl, Nat.le_of_ble_eq_true rfl⟩ (ci := 4) (q0 := 0) rfl rfl hl.1 (Nat.le_of_ble_eq_true rfl) dX4_grief_56 ⟨Nat.zero_le _, Nat.zero_le _⟩) hP hD hS [0, 2] rfl (had_cons rfl (had_cons cell_ad rfl)) (Bs' := [[gObj ag ah az ak i0], hillsW E ah r, [(ag 4, .inl (E.2.1, 7, .inl (sg (upd f 3 (f 3 + 1)) 7)))], hillsW E az ti, shO E ag z u, shN E ag y]) rfl (fun H locs hP hD hS => ?_)
          obtain ⟨r_56, er_56⟩ : ∃ zz9 : Row, zz9 = upd f 3 (f 3 + 1) := ⟨_, rfl⟩
          rw [← er_56] at hP hD
          exact retIx S hr hlk ti (by have e9 : rGrief r y z u s9 pp = .inl 3 := (by unfold rGrief; rw [if_pos hc9, ek_s9, ek_pp, tN_nI (k := k_s9) (by omega), tN_nI (k := k_pp) (by omega), elen, tN_nI (k := len) (by omega), gP_none (fun j hj => hno j (by omega))]); rw [er_56] at hP; rw [e9, fndC_inl]; exact hP) hS (by have e9 : rGrief r y z u s9 pp = .inl 3 := (by unfold rGrief; rw [if_pos hc9, ek_s9, ek_pp, tN_nI (k := k_s9) (by omega), tN_nI (k := k_pp) (by omega), elen, tN_nI (k := len) (by omega), gP_none (fun j hj => hno j (by omega))]); rw [e9]; decide) dX4_grief_59
        · have n_25 := Int32.not_lt.mp c_25
          have hi2 : i ≤ 99 := le_of_nI (b := 99) (Int32.not_lt.mp c_25) (by omega) (by decide)
          refine lv_aload_n S.1 S.2.1 dX4_grief_28 rfl (lv_at hl 0 rfl) ?_
          refine lv_aload_n S.1 S.2.1 dX4_grief_29 rfl (lv_at hl 0 rfl) ?_
          refine gf_X4_28 S hK hP 0 0 rfl rfl rfl dX4_grief_30 ?_
          refine lv_iload_n S.1 S.2.1 dX4_grief_33 rfl (lv_at hl 1 rfl) ?_
          refine lv_eqi (y := nI k_s9) ek_s9 ?_
          refine b_aaldN (i := k_s9) S hK hP 3 4 0 rfl rfl rfl (by omega) (by decide) (v := ag (5 + k_s9)) rfl dX4_grief_34 ?_
          refine lv_iload_n S.1 S.2.1 dX4_grief_35 rfl (lv_at hl 2 rfl) ?_
          refine lv_eqi (y := nI k_pp) ek_pp ?_
          refine lv_iconst (v := 1) S.1 S.2.1 dX4_grief_36 (by decide) ?_
          refine lv_iload S.1 S.2.1 dX4_grief_37 (lv_at hl 3 rfl) ?_
          refine go_Ix (run_V (As := [.ref (ag (5 + k_s9)), .int (nI k_pp), .int 1, .int (nI i)]) (rest := []) (n := 4) S hK (bl_P hP [0, 1, 3, 4, 5] rfl) (bl_D hD [0, 1, 3, 4, 5] rfl rfl) (c_X4_isAsTold l E ag ah az ak i0 r ti z u y k_s9 k_pp 1 i len hR (by omega) elen hlen (by rw [cntN_eq hn hn8]; exact hk_pp) (by decide) (show i ≤ 99 by omega)) gV_X4_178 (by decide +kernel) rfl ⟨rfl, rfl⟩ ⟨Nat.le_of_ble_eq_true rfl, Nat.le_of_ble_eq_true rfl⟩ (ci := 4) (q0 := 0) rfl rfl hl.1 (Nat.le_of_ble_eq_true rfl) dX4_grief_39 ⟨Nat.zero_le _, Nat.zero_le _⟩) hP hD hS [0, 1, 3, 4, 5] rfl (fun _ => (had_cons rfl (had_cons rfl (had_cons hw_ad (had_cons rfl (had_cons rfl rfl)))))) (Bs' := fun u9 => [[gObj ag ah az ak i0], hillsW E ah r, [(ag 4, .inl (E.2.1, 7, .inl (sg f 7)))], hillsW E az u9, shO E ag z u, shN E ag y]) (fun _ => rfl) (fun u_1 H locs hP hD hS => ?_)
          refine b_ifeq (tgt := 48) S.1 S.2.1 dX4_grief_42 (by decide) (fun c_42 => ?_) (fun c_42 => ?_)
          · refine lv_iinc (v := nI (i + 1)) (lv' := [(4, .int (nI (i + 1))), (0, .ref (ag 0)), (1, .int s9), (2, .int pp)]) S.1 S.2.1 dX4_grief_48 hl (k := 3) rfl (nI_1 i) (by decide) rfl (fun ls hl => ?_)
            refine lv_goto (tgt := 21) S.1 S.2.1 dX4_grief_51 (by decide) ?_
            exact ih_21 (i + 1) u_1 (by omega) (by omega) (lt_s hno (Bool.eq_false_iff.mpr c_42)) H locs hP hD hS ls (lv_sub hl [1, 2, 3, 0] rfl)
          · refine lv_iload S.1 S.2.1 dX4_grief_45 (lv_at hl 3 rfl) ?_
            exact retIx S hr hlk u_1 (by have e9 : rGrief r y z u s9 pp = .inr (fun _ => 0, nI i) := (by unfold rGrief; rw [if_pos hc9, ek_s9, ek_pp, tN_nI (k := k_s9) (by omega), tN_nI (k := k_pp) (by omega), elen, tN_nI (k := len) (by omega), gP_some (show i < 100 by omega) hno c_42, orNR_n (show i < 100 by omega)]); rw [e9, fndC_inr]; exact hP) hS (by have e9 : rGrief r y z u s9 pp = .inr (fun _ => 0, nI i) := (by unfold rGrief; rw [if_pos hc9, ek_s9, ek_pp, tN_nI (k := k_s9) (by omega), tN_nI (k := k_pp) (by omega), elen, tN_nI (k := len) (by omega), gP_some (show i < 100 by omega) hno c_42, orNR_n (show i < 100 by omega)]); rw [e9, ansR_inr]) dX4_grief_47
    exact L_21 101 0 x (by omega) (by omega) (fun j hj => absurd hj (by omega)) H locs hP hD hS ls (lv_sub hl [2, 3, 4, 0] rfl)
  · refine lv_aload_n S.1 S.2.1 dX4_grief_12 rfl (lv_at hl 1 rfl) ?_
    refine lv_iload_n S.1 S.2.1 dX4_grief_13 rfl (lv_at hl 0 rfl) ?_
    refine lv_eqi (y := nI (lackK z s9 (0 ≤ pp ∧ pp < r 1))) (flt_eq c_9) ?_
    refine go_I (run_V (As := [.int (nI (lackK z s9 (0 ≤ pp ∧ pp < r 1)))]) (rest := []) (n := 1) S hK (bl_P hP [0, 2] rfl) (bl_D hD [0, 2] rfl rfl) (c_X4_finding l E ag ah az ak i0 f (lackK z s9 (0 ≤ pp ∧ pp < r 1)) lackK_lt) gV_X4_48 (by decide +kernel) rfl ⟨rfl, rfl⟩ ⟨Nat.le_of_ble_eq_true rfl, Nat.le_of_ble_eq_true rfl⟩ (ci := 4) (q0 := 0) rfl rfl hl.1 (Nat.le_of_ble_eq_true rfl) dX4_grief_14 ⟨Nat.zero_le _, Nat.zero_le _⟩) hP hD hS [0, 2] rfl (had_cons rfl (had_cons cell_ad rfl)) (Bs' := [[gObj ag ah az ak i0], hillsW E ah r, [(ag 4, .inl (E.2.1, 7, .inl (sg (upd f (lackK z s9 (0 ≤ pp ∧ pp < r 1)) (f (lackK z s9 (0 ≤ pp ∧ pp < r 1)) + 1)) 7)))], hillsW E az x, shO E ag z u, shN E ag y]) rfl (fun H locs hP hD hS => ?_)
    obtain ⟨r_14, er_14⟩ : ∃ zz9 : Row, zz9 = upd f (lackK z s9 (0 ≤ pp ∧ pp < r 1)) (f (lackK z s9 (0 ≤ pp ∧ pp < r 1)) + 1) := ⟨_, rfl⟩
    rw [← er_14] at hP hD
    exact retIx S hr hlk x (by have e9 : rGrief r y z u s9 pp = .inl (lackK z s9 (0 ≤ pp ∧ pp < r 1)) := if_neg (flt_bad c_9); rw [er_14] at hP; rw [e9, fndC_inl]; exact hP) hS (by have e9 : rGrief r y z u s9 pp = .inl (lackK z s9 (0 ≤ pp ∧ pp < r 1)) := if_neg (flt_bad c_9); rw [e9]; rfl) dX4_grief_17
set_option maxHeartbeats 800000 in
set_option maxRecDepth 100000 in
theorem c_X4_kinds (l : Launch) (E : EV) (ag ah az ak : Nat → Nat) (i0 : Int32) (r f x z u y : Row) (s9 pp : Int32) (hR : RI r) (hU : ∀ j, j < 4 → le9 (u j) 40) : Met l yX4_kinds (wq yX4_kinds cX4_kinds 6 (some .int)) ({ frames := 6, cells := 0, slots := 0, locals := 132 }) (preB E [.ref (ag 0), .int s9, .int pp] [[gObj ag ah az ak i0], hillsW E ah r, [(ag 4, .inl (E.2.1, 7, .inl (sg f 7)))], hillsW E az x, shO E ag z u, shN E ag y]) (qIx E [[gObj ag ah az ak i0], hillsW E ah r, [(ag 4, .inl (E.2.1, 7, .inl (sg f 7)))], hillsW E az x, shO E ag z u, shN E ag y] (fun u9 => [[gObj ag ah az ak i0], hillsW E ah r, [(ag 4, .inl (E.2.1, 7, .inl (sg (fndC f (rKinds r y z u s9 pp)) 7)))], hillsW E az u9, shO E ag z u, shN E ag y]) (ansR (rKinds r y z u s9 pp))) 0 0 (inB [[gObj ag ah az ak i0], hillsW E ah r, [(ag 4, .inl (E.2.1, 7, .inl (sg f 7)))], hillsW E az x, shO E ag z u, shN E ag y]) := by
  refine M_mk RX4 (by decide) rfl (Nat.le_of_ble_eq_true rfl) ?_
  intro p e s m below meth c S hr hlk hK hP hD hS ls hl
  have hl : lv_has ls 6 [(0, .ref (ag 0)), (1, .int s9), (2, .int pp)] := hl
  obtain ⟨n, d, hn, hn8, hd, hd5, ho, hso, hli, hsp, hpt⟩ := id hR
  obtain ⟨H, hH⟩ : ∃ zz9, zz9 = s.heap := ⟨_, rfl⟩
  obtain ⟨locs, hlocs⟩ : ∃ zz9 : List Loc, zz9 = [] := ⟨_, rfl⟩
  have hP : PE E [[gObj ag ah az ak i0], hillsW E ah r, [(ag 4, .inl (E.2.1, 7, .inl (sg f 7)))], hillsW E az x, shO E ag z u, shN E ag y] H := by rw [hH]; exact hP
  have hS : va_S (inB [[gObj ag ah az ak i0], hillsW E ah r, [(ag 4, .inl (E.2.1, 7, .inl (sg f 7)))], hillsW E az x, shO E ag z u, shN E ag y]) s.heap H locs := by rw [hH, hlocs]; exact hS
  show W p l e ({ frames := 6, cells := 0, slots := 0, locals := 132 }) s m ([.ref (ag 0), .int s9, .int pp] : List Value).toArray below meth c s.heap [] 0 0 _ _
  suffices hgo : W p l e ({ frames := 6, cells := 0, slots := 0, locals := 132 }) s m ([.ref (ag 0), .int s9, .int pp] : List Value).toArray below meth c H locs 0 0 (MQ below (qIx E [[gObj ag ah az ak i0], hillsW E ah r, [(ag 4, .inl (E.2.1, 7, .inl (sg f 7)))], hillsW E az x, shO E ag z u, shN E ag y] (fun u9 => [[gObj ag ah az ak i0], hillsW E ah r, [(ag 4, .inl (E.2.1, 7, .inl (sg (fndC f (rKinds r y z u s9 pp)) 7)))], hillsW E az u9, shO E ag z u, shN E ag y]) (ansR (rKinds r y z u s9 pp))) ([.ref (ag 0), .int s9, .int pp] : List Value).toArray s 0 0 (inB [[gObj ag ah az ak i0], hillsW E ah r, [(ag 4, .inl (E.2.1, 7, .inl (sg f 7)))], hillsW E az x, shO E ag z u, shN E ag y])) (F0 m 0 ls []) by rw [hH, hlocs] at hgo; exact hgo
  clear hH hlocs
  refine lv_aload_n S.1 S.2.1 dX4_kinds_0 rfl (lv_at hl 0 rfl) ?_
  refine lv_iload_n S.1 S.2.1 dX4_kinds_1 rfl (lv_at hl 1 rfl) ?_
  refine lv_iload_n S.1 S.2.1 dX4_kinds_2 rfl (lv_at hl 2 rfl) ?_
  refine go_S (run_V (As := [.int s9, .int pp]) (rest := []) (n := 2) S hK (bl_P hP [0, 1, 4] rfl) (bl_D hD [0, 1, 4] rfl rfl) (c_X4_toldFault l E ag ah az ak i0 r z u s9 pp ) gV_X4_175 (by decide +kernel) rfl ⟨rfl, rfl⟩ ⟨Nat.le_of_ble_eq_true rfl, Nat.le_of_ble_eq_true rfl⟩ (ci := 4) (q0 := 0) rfl rfl hl.1 (Nat.le_of_ble_eq_true rfl) dX4_kinds_3 ⟨Nat.zero_le _, Nat.zero_le _⟩) ?_
  refine lv_istore_n (lv' := [(3, .int (fltV z s9 (0 ≤ pp ∧ pp < r 1))), (0, .ref (ag 0)), (1, .int s9), (2, .int pp)]) S.1 S.2.1 dX4_kinds_6 rfl hl (by decide) rfl (fun ls hl => ?_)
  refine lv_iload_n S.1 S.2.1 dX4_kinds_7 rfl (lv_at hl 0 rfl) ?_
  refine lv_iconst (v := (-1)) S.1 S.2.1 dX4_kinds_8 (by decide) ?_
  refine lv_icmp_eq (tgt := 18) S.1 S.2.1 dX4_kinds_9 (by decide) (fun c_9 => ?_) (fun c_9 => ?_)
  · have hc9 := flt_ok c_9
    obtain ⟨k_s9, hk_s9, ek_s9, hz_s9, hG9⟩ := lack_ok hc9
    obtain ⟨len, hlen, elen⟩ := hU k_s9 (by omega)
    obtain ⟨k_pp, hk_pp, ek_pp⟩ := pot_nat hG9 hn (by omega)
    refine lv_iconst (v := 0) S.1 S.2.1 dX4_kinds_18 (by decide) ?_
    refine lv_istore (lv' := [(4, .int 0), (3, .int (fltV z s9 (0 ≤ pp ∧ pp < r 1))), (0, .ref (ag 0)), (1, .int s9), (2, .int pp)]) S.1 S.2.1 dX4_kinds_19 hl (by decide) rfl (fun ls hl => ?_)
    refine lv_iconst (v := 0) S.1 S.2.1 dX4_kinds_21 (by decide) ?_
    refine lv_istore (lv' := [(5, .int 0), (4, .int 0), (3, .int (fltV z s9 (0 ≤ pp ∧ pp < r 1))), (0, .ref (ag 0)), (1, .int s9), (2, .int pp)]) S.1 S.2.1 dX4_kinds_22 hl (by decide) rfl (fun ls hl => ?_)
    have L_24 : ∀ (fu : Nat) (i : Nat) (b : Int32) (ti : Row), (i ≤ 7) → (7 < i + fu) → (b = kdN (fun v => okN y (40 * k_s9) (upd r (21 + 7 * k_pp) (nI v)) k_pp (min len 10)) i) → ∀ (H : Heap) (locs : List Loc), PE E [[gObj ag ah az ak i0], hillsW E ah r, [(ag 4, .inl (E.2.1, 7, .inl (sg f 7)))], hillsW E az ti, shO E ag z u, shN E ag y] H → DE (inB [[gObj ag ah az ak i0], hillsW E ah r, [(ag 4, .inl (E.2.1, 7, .inl (sg f 7)))], hillsW E az x, shO E ag z u, shN E ag y]) [[gObj ag ah az ak i0], hillsW E ah r, [(ag 4, .inl (E.2.1, 7, .inl (sg f 7)))], hillsW E az ti, shO E ag z u, shN E ag y] → va_S (inB [[gObj ag ah az ak i0], hillsW E ah r, [(ag 4, .inl (E.2.1, 7, .inl (sg f 7)))], hillsW E az x, shO E ag z u, shN E ag y]) s.heap H locs → ∀ (ls : Array Slot), lv_has ls 6 [(0, .ref (ag 0)), (1, .int s9), (2, .int pp), (4, .int b), (5, .int (nI i))] → W p l e ({ frames := 6, cells := 0, slots := 0, locals := 132 }) s m ([.ref (ag 0), .int s9, .int pp] : List Value).toArray below meth c H locs 0 0 (MQ below (qIx E [[gObj ag ah az ak i0], hillsW E ah r, [(ag 4, .inl (E.2.1, 7, .inl (sg f 7)))], hillsW E az x, shO E ag z u, shN E ag y] (fun u9 => [[gObj ag ah az ak i0], hillsW E ah r, [(ag 4, .inl (E.2.1, 7, .inl (sg (fndC f (rKinds r y z u s9 pp)) 7)))], hillsW E az u9, shO E ag z u, shN E ag y]) (ansR (rKinds r y z u s9 pp))) ([.ref (ag 0), .int s9, .int pp] : List Value).toArray s 0 0 (inB [[gObj ag ah az ak i0], hillsW E ah r, [(ag 4, .inl (E.2.1, 7, .inl (sg f 7)))], hillsW E az x, shO E ag z u, shN E ag y])) (F0 m 24 ls []) := by
      intro fu
      induction fu with
      | zero =>
        intro i b ti hi hf hb
        omega
      | succ fu ih_24 =>
        intro i b ti hi hf hb H locs hP hD hS ls hl
        refine lv_iload S.1 S.2.1 dX4_kinds_24 (lv_at hl 4 rfl) ?_
        refine lv_bipush (v := 7) S.1 S.2.1 dX4_kinds_26 (by decide) ?_
        refine lv_icmp_ge (tgt := 63) S.1 S.2.1 dX4_kinds_28 (by decide) (fun c_28 => ?_) (fun c_28 => ?_)
        · have n_28 := Int32.not_lt.mpr c_28
          have hi9 : i = 7 := le_endK (n := 7) hi c_28 (by decide)
          refine lv_iload S.1 S.2.1 dX4_kinds_63 (lv_at hl 3 rfl) ?_
          exact retIx S hr hlk ti (by have e9 : rKinds r y z u s9 pp = .inr (fun _ => 0, b) := (by unfold rKinds; rw [if_pos hc9, ek_s9, ek_pp, tN_nI (k := k_s9) (by omega), tN_nI (k := k_pp) (by omega), elen, tN_nI (k := len) (by omega), hb, hi9]); rw [e9, fndC_inr]; exact hP) hS (by have e9 : rKinds r y z u s9 pp = .inr (fun _ => 0, b) := (by unfold rKinds; rw [if_pos hc9, ek_s9, ek_pp, tN_nI (k := k_s9) (by omega), tN_nI (k := k_pp) (by omega), elen, tN_nI (k := len) (by omega), hb, hi9]); rw [e9, ansR_inr]) dX4_kinds_65
        · have n_28 := Int32.not_le.mp c_28
          have hi2 : i < 7 := lt_in (n := 7) c_28 hi
          refine lv_aload_n S.1 S.2.1 dX4_kinds_31 rfl (lv_at hl 0 rfl) ?_
          refine lv_aload_n S.1 S.2.1 dX4_kinds_32 rfl (lv_at hl 0 rfl) ?_
          refine gf_X4_28 S hK hP 0 0 rfl rfl rfl dX4_kinds_33 ?_
          refine lv_iload_n S.1 S.2.1 dX4_kinds_36 rfl (lv_at hl 1 rfl) ?_
          refine lv_eqi (y := nI k_s9) ek_s9 ?_
          refine b_aaldN (i := k_s9) S hK hP 3 4 0 rfl rfl rfl (by omega) (by decide) (v := ag (5 + k_s9)) rfl dX4_kinds_37 ?_
          refine lv_iload_n S.1 S.2.1 dX4_kinds_38 rfl (lv_at hl 2 rfl) ?_
          refine lv_eqi (y := nI k_pp) ek_pp ?_
          refine lv_iconst (v := 0) S.1 S.2.1 dX4_kinds_39 (by decide) ?_
          refine lv_iload S.1 S.2.1 dX4_kinds_40 (lv_at hl 4 rfl) ?_
          refine go_Ix (run_V (As := [.ref (ag (5 + k_s9)), .int (nI k_pp), .int 0, .int (nI i)]) (rest := []) (n := 4) S hK (bl_P hP [0, 1, 3, 4, 5] rfl) (bl_D hD [0, 1, 3, 4, 5] rfl rfl) (c_X4_isAsTold l E ag ah az ak i0 r ti z u y k_s9 k_pp 0 i len hR (by omega) elen hlen (by rw [cntN_eq hn hn8]; exact hk_pp) (by decide) (show i ≤ 6 by omega)) gV_X4_178 (by decide +kernel) rfl ⟨rfl, rfl⟩ ⟨Nat.le_of_ble_eq_true rfl, Nat.le_of_ble_eq_true rfl⟩ (ci := 4) (q0 := 0) rfl rfl hl.1 (Nat.le_of_ble_eq_true rfl) dX4_kinds_42 ⟨Nat.zero_le _, Nat.zero_le _⟩) hP hD hS [0, 1, 3, 4, 5] rfl (fun _ => (had_cons rfl (had_cons rfl (had_cons hw_ad (had_cons rfl (had_cons rfl rfl)))))) (Bs' := fun u9 => [[gObj ag ah az ak i0], hillsW E ah r, [(ag 4, .inl (E.2.1, 7, .inl (sg f 7)))], hillsW E az u9, shO E ag z u, shN E ag y]) (fun _ => rfl) (fun u_1 H locs hP hD hS => ?_)
          refine lv_eqi (y := bI (okN y (40 * k_s9) (upd r (21 + 7 * k_pp) (nI i)) k_pp (min len 10) = true)) rfl ?_
          refine b_ifeq (tgt := 57) S.1 S.2.1 dX4_kinds_45 (by decide) (fun c_45 => ?_) (fun c_45 => ?_)
          · refine lv_iinc (v := nI (i + 1)) (lv' := [(5, .int (nI (i + 1))), (0, .ref (ag 0)), (1, .int s9), (2, .int pp), (4, .int b)]) S.1 S.2.1 dX4_kinds_57 hl (k := 4) rfl (nI_1 i) (by decide) rfl (fun ls hl => ?_)
            refine lv_goto (tgt := 24) S.1 S.2.1 dX4_kinds_60 (by decide) ?_
            exact ih_24 (i + 1) b u_1 (by omega) (by omega) (kdN_nn hb c_45) H locs hP hD hS ls (lv_sub hl [1, 2, 3, 4, 0] rfl)
          · refine lv_iload S.1 S.2.1 dX4_kinds_48 (lv_at hl 3 rfl) ?_
            refine lv_iconst (v := 1) S.1 S.2.1 dX4_kinds_50 (by decide) ?_
            refine lv_iload S.1 S.2.1 dX4_kinds_51 (lv_at hl 4 rfl) ?_
            refine lv_ishl S.1 S.2.1 dX4_kinds_53 ?_
            refine lv_ior S.1 S.2.1 dX4_kinds_54 ?_
            refine lv_istore (lv' := [(4, .int (b ||| (1 <<< ((nI i) &&& 31)))), (0, .ref (ag 0)), (1, .int s9), (2, .int pp), (5, .int (nI i))]) S.1 S.2.1 dX4_kinds_55 hl (by decide) rfl (fun ls hl => ?_)
            refine lv_iinc (v := nI (i + 1)) (lv' := [(5, .int (nI (i + 1))), (4, .int (b ||| (1 <<< ((nI i) &&& 31)))), (0, .ref (ag 0)), (1, .int s9), (2, .int pp)]) S.1 S.2.1 dX4_kinds_57 hl (k := 4) rfl (nI_1 i) (by decide) rfl (fun ls hl => ?_)
            refine lv_goto (tgt := 24) S.1 S.2.1 dX4_kinds_60 (by decide) ?_
            exact ih_24 (i + 1) (b ||| (1 <<< ((nI i) &&& 31))) u_1 (by omega) (by omega) (kdN_s hb c_45) H locs hP hD hS ls (lv_sub hl [2, 3, 4, 1, 0] rfl)
    exact L_24 8 0 0 x (by omega) (by omega) rfl H locs hP hD hS ls (lv_sub hl [3, 4, 5, 1, 0] rfl)
  · refine lv_aload_n S.1 S.2.1 dX4_kinds_12 rfl (lv_at hl 1 rfl) ?_
    refine lv_iload_n S.1 S.2.1 dX4_kinds_13 rfl (lv_at hl 0 rfl) ?_
    refine lv_eqi (y := nI (lackK z s9 (0 ≤ pp ∧ pp < r 1))) (flt_eq c_9) ?_
    refine go_I (run_V (As := [.int (nI (lackK z s9 (0 ≤ pp ∧ pp < r 1)))]) (rest := []) (n := 1) S hK (bl_P hP [0, 2] rfl) (bl_D hD [0, 2] rfl rfl) (c_X4_finding l E ag ah az ak i0 f (lackK z s9 (0 ≤ pp ∧ pp < r 1)) lackK_lt) gV_X4_48 (by decide +kernel) rfl ⟨rfl, rfl⟩ ⟨Nat.le_of_ble_eq_true rfl, Nat.le_of_ble_eq_true rfl⟩ (ci := 4) (q0 := 0) rfl rfl hl.1 (Nat.le_of_ble_eq_true rfl) dX4_kinds_14 ⟨Nat.zero_le _, Nat.zero_le _⟩) hP hD hS [0, 2] rfl (had_cons rfl (had_cons cell_ad rfl)) (Bs' := [[gObj ag ah az ak i0], hillsW E ah r, [(ag 4, .inl (E.2.1, 7, .inl (sg (upd f (lackK z s9 (0 ≤ pp ∧ pp < r 1)) (f (lackK z s9 (0 ≤ pp ∧ pp < r 1)) + 1)) 7)))], hillsW E az x, shO E ag z u, shN E ag y]) rfl (fun H locs hP hD hS => ?_)
    obtain ⟨r_14, er_14⟩ : ∃ zz9 : Row, zz9 = upd f (lackK z s9 (0 ≤ pp ∧ pp < r 1)) (f (lackK z s9 (0 ≤ pp ∧ pp < r 1)) + 1) := ⟨_, rfl⟩
    rw [← er_14] at hP hD
    exact retIx S hr hlk x (by have e9 : rKinds r y z u s9 pp = .inl (lackK z s9 (0 ≤ pp ∧ pp < r 1)) := if_neg (flt_bad c_9); rw [er_14] at hP; rw [e9, fndC_inl]; exact hP) hS (by have e9 : rKinds r y z u s9 pp = .inl (lackK z s9 (0 ≤ pp ∧ pp < r 1)) := if_neg (flt_bad c_9); rw [e9]; rfl) dX4_kinds_17
set_option maxHeartbeats 800000 in
set_option maxRecDepth 100000 in
theorem c_X4_load (l : Launch) (E : EV) (ag ah az ak : Nat → Nat) (i0 : Int32) (r f z u y : Row) (s9 : Int32) (hR : RI r) (hU : ∀ j, j < 4 → le9 (u j) 40) : Met l yX4_load (wq yX4_load cX4_load 5 (some .int)) ({ frames := 2, cells := 0, slots := 0, locals := 42 }) (preB E [.ref (ag 0), .int s9] [[gObj ag ah az ak i0], hillsW E ah r, [(ag 4, .inl (E.2.1, 7, .inl (sg f 7)))], shO E ag z u, shN E ag y]) (qI E [[gObj ag ah az ak i0], hillsW E ah r, [(ag 4, .inl (E.2.1, 7, .inl (sg f 7)))], shO E ag z u, shN E ag y] [[gObj ag ah az ak i0], hillsW E ah (rowR r (rLoad r y z u s9)), [(ag 4, .inl (E.2.1, 7, .inl (sg (fndC f (rLoad r y z u s9)) 7)))], shO E ag z u, shN E ag y] (ansR (rLoad r y z u s9))) 0 0 (inB [[gObj ag ah az ak i0], hillsW E ah r, [(ag 4, .inl (E.2.1, 7, .inl (sg f 7)))], shO E ag z u, shN E ag y]) := by
  refine M_mk RX4 (by decide) rfl (Nat.le_of_ble_eq_true rfl) ?_
  intro p e s m below meth c S hr hlk hK hP hD hS ls hl
  have hl : lv_has ls 5 [(0, .ref (ag 0)), (1, .int s9)] := hl
  obtain ⟨n, d, hn, hn8, hd, hd5, ho, hso, hli, hsp, hpt⟩ := id hR
  obtain ⟨H, hH⟩ : ∃ zz9, zz9 = s.heap := ⟨_, rfl⟩
  obtain ⟨locs, hlocs⟩ : ∃ zz9 : List Loc, zz9 = [] := ⟨_, rfl⟩
  have hP : PE E [[gObj ag ah az ak i0], hillsW E ah r, [(ag 4, .inl (E.2.1, 7, .inl (sg f 7)))], shO E ag z u, shN E ag y] H := by rw [hH]; exact hP
  have hS : va_S (inB [[gObj ag ah az ak i0], hillsW E ah r, [(ag 4, .inl (E.2.1, 7, .inl (sg f 7)))], shO E ag z u, shN E ag y]) s.heap H locs := by rw [hH, hlocs]; exact hS
  show W p l e ({ frames := 2, cells := 0, slots := 0, locals := 42 }) s m ([.ref (ag 0), .int s9] : List Value).toArray below meth c s.heap [] 0 0 _ _
  suffices hgo : W p l e ({ frames := 2, cells := 0, slots := 0, locals := 42 }) s m ([.ref (ag 0), .int s9] : List Value).toArray below meth c H locs 0 0 (MQ below (qI E [[gObj ag ah az ak i0], hillsW E ah r, [(ag 4, .inl (E.2.1, 7, .inl (sg f 7)))], shO E ag z u, shN E ag y] [[gObj ag ah az ak i0], hillsW E ah (rowR r (rLoad r y z u s9)), [(ag 4, .inl (E.2.1, 7, .inl (sg (fndC f (rLoad r y z u s9)) 7)))], shO E ag z u, shN E ag y] (ansR (rLoad r y z u s9))) ([.ref (ag 0), .int s9] : List Value).toArray s 0 0 (inB [[gObj ag ah az ak i0], hillsW E ah r, [(ag 4, .inl (E.2.1, 7, .inl (sg f 7)))], shO E ag z u, shN E ag y])) (F0 m 0 ls []) by rw [hH, hlocs] at hgo; exact hgo
  clear hH hlocs
  refine lv_aload_n S.1 S.2.1 dX4_load_0 rfl (lv_at hl 0 rfl) ?_
  refine lv_iload_n S.1 S.2.1 dX4_load_1 rfl (lv_at hl 1 rfl) ?_
  refine go_S (run_V (As := [.int s9]) (rest := []) (n := 1) S hK (bl_P hP [0, 3] rfl) (bl_D hD [0, 3] rfl rfl) (c_X4_sheetFault l E ag ah az ak i0 z u s9 ) gV_X4_182 (by decide +kernel) rfl ⟨rfl, rfl⟩ ⟨Nat.le_of_ble_eq_true rfl, Nat.le_of_ble_eq_true rfl⟩ (ci := 4) (q0 := 0) rfl rfl hl.1 (Nat.le_of_ble_eq_true rfl) dX4_load_2 ⟨Nat.zero_le _, Nat.zero_le _⟩) ?_
  refine lv_istore_n (lv' := [(2, .int (fltV z s9 True)), (0, .ref (ag 0)), (1, .int s9)]) S.1 S.2.1 dX4_load_5 rfl hl (by decide) rfl (fun ls hl => ?_)
  refine lv_iload_n S.1 S.2.1 dX4_load_6 rfl (lv_at hl 0 rfl) ?_
  refine lv_iconst (v := (-1)) S.1 S.2.1 dX4_load_7 (by decide) ?_
  refine lv_icmp_eq (tgt := 17) S.1 S.2.1 dX4_load_8 (by decide) (fun c_8 => ?_) (fun c_8 => ?_)
  · have hc9 := flt_ok c_8
    obtain ⟨k_s9, hk_s9, ek_s9, hz_s9, hG9⟩ := lack_ok hc9
    obtain ⟨len, hlen, elen⟩ := hU k_s9 (by omega)
    refine lv_aload_n S.1 S.2.1 dX4_load_17 rfl (lv_at hl 1 rfl) ?_
    refine gf_X4_28 S hK hP 0 0 rfl rfl rfl dX4_load_18 ?_
    refine lv_iload_n S.1 S.2.1 dX4_load_21 rfl (lv_at hl 2 rfl) ?_
    refine lv_eqi (y := nI k_s9) ek_s9 ?_
    refine b_aaldN (i := k_s9) S hK hP 3 3 0 rfl rfl rfl (by omega) (by decide) (v := ag (5 + k_s9)) rfl dX4_load_22 ?_
    refine lv_astore_n (lv' := [(3, .ref (ag (5 + k_s9))), (2, .int (fltV z s9 True)), (0, .ref (ag 0)), (1, .int s9)]) S.1 S.2.1 dX4_load_23 rfl hl (by decide) rfl (fun ls hl => ?_)
    refine lv_iconst (v := 0) S.1 S.2.1 dX4_load_24 (by decide) ?_
    refine lv_istore (lv' := [(4, .int 0), (3, .ref (ag (5 + k_s9))), (2, .int (fltV z s9 True)), (0, .ref (ag 0)), (1, .int s9)]) S.1 S.2.1 dX4_load_25 hl (by decide) rfl (fun ls hl => ?_)
    have L_27 : ∀ (fu : Nat) (i : Nat) (ri : Row), (i ≤ min len 6) → (min len 6 < i + fu) → (ri = loadR r y (40 * k_s9) i) → (∀ j, j < i → badW y (40 * k_s9) j = false) → ∀ (H : Heap) (locs : List Loc), PE E [[gObj ag ah az ak i0], hillsW E ah ri, [(ag 4, .inl (E.2.1, 7, .inl (sg f 7)))], shO E ag z u, shN E ag y] H → DE (inB [[gObj ag ah az ak i0], hillsW E ah r, [(ag 4, .inl (E.2.1, 7, .inl (sg f 7)))], shO E ag z u, shN E ag y]) [[gObj ag ah az ak i0], hillsW E ah ri, [(ag 4, .inl (E.2.1, 7, .inl (sg f 7)))], shO E ag z u, shN E ag y] → va_S (inB [[gObj ag ah az ak i0], hillsW E ah r, [(ag 4, .inl (E.2.1, 7, .inl (sg f 7)))], shO E ag z u, shN E ag y]) s.heap H locs → ∀ (ls : Array Slot), lv_has ls 5 [(0, .ref (ag 0)), (3, .ref (ag (5 + k_s9))), (4, .int (nI i))] → W p l e ({ frames := 2, cells := 0, slots := 0, locals := 42 }) s m ([.ref (ag 0), .int s9] : List Value).toArray below meth c H locs 0 0 (MQ below (qI E [[gObj ag ah az ak i0], hillsW E ah r, [(ag 4, .inl (E.2.1, 7, .inl (sg f 7)))], shO E ag z u, shN E ag y] [[gObj ag ah az ak i0], hillsW E ah (rowR r (rLoad r y z u s9)), [(ag 4, .inl (E.2.1, 7, .inl (sg (fndC f (rLoad r y z u s9)) 7)))], shO E ag z u, shN E ag y] (ansR (rLoad r y z u s9))) ([.ref (ag 0), .int s9] : List Value).toArray s 0 0 (inB [[gObj ag ah az ak i0], hillsW E ah r, [(ag 4, .inl (E.2.1, 7, .inl (sg f 7)))], shO E ag z u, shN E ag y])) (F0 m 27 ls []) := by
      intro fu
      induction fu with
      | zero =>
        intro i ri hi hf hri hno
        omega
      | succ fu ih_27 =>
        intro i ri hi hf hri hno H locs hP hD hS ls hl
        refine lv_iload S.1 S.2.1 dX4_load_27 (lv_at hl 2 rfl) ?_
        refine lv_bipush (v := 6) S.1 S.2.1 dX4_load_29 (by decide) ?_
        refine lv_icmp_ge (tgt := 81) S.1 S.2.1 dX4_load_31 (by decide) (fun c_31 => ?_) (fun c_31 => ?_)
        · have n_31 := Int32.not_lt.mpr c_31
          refine lv_iload S.1 S.2.1 dX4_load_81 (lv_at hl 2 rfl) ?_
          exact retI S hr hlk (by have e9 : rLoad r y z u s9 = .inr (ri, nI i) := (by have e8 : fstN (badW y (40 * k_s9)) (min len 6) = i := (by rw [fst_no (fun j hj => hno j (by have z9 : 6 ≤ i := le_of_nI (a := 6) c_31 (by decide) (by omega); omega))]; have z9 : 6 ≤ i := le_of_nI (a := 6) c_31 (by decide) (by omega); omega); unfold rLoad; rw [if_pos hc9, ek_s9, tN_nI (by omega), elen, tN_nI (by omega), e8, hri]); rw [e9, fndC_inr, rowR_inr]; exact hP) hS (by have e9 : rLoad r y z u s9 = .inr (ri, nI i) := (by have e8 : fstN (badW y (40 * k_s9)) (min len 6) = i := (by rw [fst_no (fun j hj => hno j (by have z9 : 6 ≤ i := le_of_nI (a := 6) c_31 (by decide) (by omega); omega))]; have z9 : 6 ≤ i := le_of_nI (a := 6) c_31 (by decide) (by omega); omega); unfold rLoad; rw [if_pos hc9, ek_s9, tN_nI (by omega), elen, tN_nI (by omega), e8, hri]); rw [e9, ansR_inr]) dX4_load_83
        · have n_31 := Int32.not_le.mp c_31
          have hi3 : i < 6 := lt_of_nI (b := 6) n_31 (by omega) (by decide)
          refine lv_iload S.1 S.2.1 dX4_load_34 (lv_at hl 2 rfl) ?_
          refine lv_aload_n S.1 S.2.1 dX4_load_36 rfl (lv_at hl 1 rfl) ?_
          refine gf_X4_185 S hK hP 3 (1 + k_s9) rfl (sO_at (by omega)) rfl dX4_load_37 ?_
          refine lv_eqi (y := nI len) elen ?_
          refine lv_icmp_ge (tgt := 81) S.1 S.2.1 dX4_load_40 (by decide) (fun c_40 => ?_) (fun c_40 => ?_)
          · have n_40 := Int32.not_lt.mpr c_40
            refine lv_iload S.1 S.2.1 dX4_load_81 (lv_at hl 2 rfl) ?_
            exact retI S hr hlk (by have e9 : rLoad r y z u s9 = .inr (ri, nI i) := (by have e8 : fstN (badW y (40 * k_s9)) (min len 6) = i := (by rw [fst_no (fun j hj => hno j (by have z9 : len ≤ i := le_of_nI c_40 (by omega) (by omega); omega))]; have z9 : len ≤ i := le_of_nI c_40 (by omega) (by omega); omega); unfold rLoad; rw [if_pos hc9, ek_s9, tN_nI (by omega), elen, tN_nI (by omega), e8, hri]); rw [e9, fndC_inr, rowR_inr]; exact hP) hS (by have e9 : rLoad r y z u s9 = .inr (ri, nI i) := (by have e8 : fstN (badW y (40 * k_s9)) (min len 6) = i := (by rw [fst_no (fun j hj => hno j (by have z9 : len ≤ i := le_of_nI c_40 (by omega) (by omega); omega))]; have z9 : len ≤ i := le_of_nI c_40 (by omega) (by omega); omega); unfold rLoad; rw [if_pos hc9, ek_s9, tN_nI (by omega), elen, tN_nI (by omega), e8, hri]); rw [e9, ansR_inr]) dX4_load_83
          · have n_40 := Int32.not_le.mp c_40
            have hi2 : i < len := lt_of_nI n_40 (by omega) (by omega)
            refine lv_aload_n S.1 S.2.1 dX4_load_43 rfl (lv_at hl 1 rfl) ?_
            refine gf_X4_193 S hK hP 3 (1 + k_s9) rfl (sO_at (by omega)) rfl dX4_load_44 ?_
            refine lv_iload S.1 S.2.1 dX4_load_47 (lv_at hl 2 rfl) ?_
            refine b_ialdN (i := i) S hK hP 4 k_s9 rfl (sN_at (by omega)) (by omega) (by decide) dX4_load_49 ?_
            refine lv_eqi (y := y (40 * k_s9 + i)) (seg_at (by omega)) ?_
            refine lv_bipush (v := 99) S.1 S.2.1 dX4_load_50 (by decide) ?_
            refine go_S (run_S (As := [.int (y (40 * k_s9 + i)), .int 99]) (rest := []) (n := 2) S hK (bl_P hP [] rfl) (bl_D hD [] rfl rfl) (c_X4_isWithin l E (y (40 * k_s9 + i)) 99 ) gS_X4_44 (by decide +kernel) rfl ⟨rfl, rfl⟩ ⟨Nat.le_of_ble_eq_true rfl, Nat.le_of_ble_eq_true rfl⟩ hl.1 (Nat.le_of_ble_eq_true rfl) dX4_load_52 ⟨Nat.zero_le _, Nat.zero_le _⟩) ?_
            refine b_ifeq (tgt := 81) S.1 S.2.1 dX4_load_55 (by decide) (fun c_55 => ?_) (fun c_55 => ?_)
            · refine lv_iload S.1 S.2.1 dX4_load_81 (lv_at hl 2 rfl) ?_
              exact retI S hr hlk (by have e9 : rLoad r y z u s9 = .inr (ri, nI i) := (by have e8 : fstN (badW y (40 * k_s9)) (min len 6) = i := fst_yes (fun j hj => hno j hj) (decide_eq_true c_55) (by omega); unfold rLoad; rw [if_pos hc9, ek_s9, tN_nI (by omega), elen, tN_nI (by omega), e8, hri]); rw [e9, fndC_inr, rowR_inr]; exact hP) hS (by have e9 : rLoad r y z u s9 = .inr (ri, nI i) := (by have e8 : fstN (badW y (40 * k_s9)) (min len 6) = i := fst_yes (fun j hj => hno j hj) (decide_eq_true c_55) (by omega); unfold rLoad; rw [if_pos hc9, ek_s9, tN_nI (by omega), elen, tN_nI (by omega), e8, hri]); rw [e9, ansR_inr]) dX4_load_83
            · refine lv_aload_n S.1 S.2.1 dX4_load_58 rfl (lv_at hl 0 rfl) ?_
              refine gf_X4_10 S hK hP 0 0 rfl rfl rfl dX4_load_59 ?_
              refine gf_X4_52 S hK hP 1 0 rfl rfl rfl dX4_load_62 ?_
              refine lv_iload S.1 S.2.1 dX4_load_65 (lv_at hl 2 rfl) ?_
              refine lv_aload_n S.1 S.2.1 dX4_load_67 rfl (lv_at hl 1 rfl) ?_
              refine gf_X4_193 S hK hP 3 (1 + k_s9) rfl (sO_at (by omega)) rfl dX4_load_68 ?_
              refine lv_iload S.1 S.2.1 dX4_load_71 (lv_at hl 2 rfl) ?_
              refine b_ialdN (i := i) S hK hP 4 k_s9 rfl (sN_at (by omega)) (by omega) (by decide) dX4_load_73 ?_
              refine lv_eqi (y := y (40 * k_s9 + i)) (seg_at (by omega)) ?_
              refine b_iastN (i := i) S hK hP hD hS 1 1 rfl rfl (by omega) (by decide) (hs_list (by omega)) (Bs1 := [[gObj ag ah az ak i0], hillsW E ah (upd ri (5 + i) (y (40 * k_s9 + i))), [(ag 4, .inl (E.2.1, 7, .inl (sg f 7)))], shO E ag z u, shN E ag y]) rfl dX4_load_74 (fun H locs hP hD hS => ?_)
              obtain ⟨r_74, er_74⟩ : ∃ zz9, zz9 = upd ri (5 + i) (y (40 * k_s9 + i)) := ⟨_, rfl⟩
              rw [← er_74] at hP hD
              refine lv_iinc (v := nI (i + 1)) (lv' := [(4, .int (nI (i + 1))), (0, .ref (ag 0)), (3, .ref (ag (5 + k_s9)))]) S.1 S.2.1 dX4_load_75 hl (k := 2) rfl (nI_1 i) (by decide) rfl (fun ls hl => ?_)
              refine lv_goto (tgt := 27) S.1 S.2.1 dX4_load_78 (by decide) ?_
              exact ih_27 (i + 1) r_74 (by omega) (by omega) (by rw [er_74, hri]; exact loadR_s) (lt_s hno (decide_eq_false (fun z9 => z9 c_55))) H locs hP hD hS ls (lv_sub hl [1, 2, 0] rfl)
    exact L_27 (min len 6 + 1) 0 r (by omega) (by omega) loadR_0.symm (fun j hj => absurd hj (by omega)) H locs hP hD hS ls (lv_sub hl [3, 1, 0] rfl)
  · refine lv_aload_n S.1 S.2.1 dX4_load_11 rfl (lv_at hl 1 rfl) ?_
    refine lv_iload_n S.1 S.2.1 dX4_load_12 rfl (lv_at hl 0 rfl) ?_
    refine lv_eqi (y := nI (lackK z s9 True)) (flt_eq c_8) ?_
    refine go_I (run_V (As := [.int (nI (lackK z s9 True))]) (rest := []) (n := 1) S hK (bl_P hP [0, 2] rfl) (bl_D hD [0, 2] rfl rfl) (c_X4_finding l E ag ah az ak i0 f (lackK z s9 True) lackK_lt) gV_X4_48 (by decide +kernel) rfl ⟨rfl, rfl⟩ ⟨Nat.le_of_ble_eq_true rfl, Nat.le_of_ble_eq_true rfl⟩ (ci := 4) (q0 := 0) rfl rfl hl.1 (Nat.le_of_ble_eq_true rfl) dX4_load_13 ⟨Nat.zero_le _, Nat.zero_le _⟩) hP hD hS [0, 2] rfl (had_cons rfl (had_cons cell_ad rfl)) (Bs' := [[gObj ag ah az ak i0], hillsW E ah r, [(ag 4, .inl (E.2.1, 7, .inl (sg (upd f (lackK z s9 True) (f (lackK z s9 True) + 1)) 7)))], shO E ag z u, shN E ag y]) rfl (fun H locs hP hD hS => ?_)
    obtain ⟨r_13, er_13⟩ : ∃ zz9 : Row, zz9 = upd f (lackK z s9 True) (f (lackK z s9 True) + 1) := ⟨_, rfl⟩
    rw [← er_13] at hP hD
    exact retI S hr hlk (by have e9 : rLoad r y z u s9 = .inl (lackK z s9 (True)) := if_neg (flt_bad c_8); rw [er_13] at hP; rw [e9, fndC_inl, rowR_inl]; exact hP) hS (by have e9 : rLoad r y z u s9 = .inl (lackK z s9 (True)) := if_neg (flt_bad c_8); rw [e9]; rfl) dX4_load_16
set_option maxHeartbeats 800000 in
set_option maxRecDepth 100000 in
theorem c_X4_judge (l : Launch) (E : EV) (ag ah az ak : Nat → Nat) (i0 : Int32) (r f z u y : Row) (s9 : Int32) (hR : RI r) (hU : ∀ j, j < 4 → le9 (u j) 40) : Met l yX4_judge (wq yX4_judge cX4_judge 5 (some .int)) ({ frames := 2, cells := 0, slots := 0, locals := 42 }) (preB E [.ref (ag 0), .int s9] [[gObj ag ah az ak i0], hillsW E ah r, [(ag 4, .inl (E.2.1, 7, .inl (sg f 7)))], shO E ag z u, shN E ag y]) (qI E [[gObj ag ah az ak i0], hillsW E ah r, [(ag 4, .inl (E.2.1, 7, .inl (sg f 7)))], shO E ag z u, shN E ag y] [[gObj ag ah az ak i0], hillsW E ah r, [(ag 4, .inl (E.2.1, 7, .inl (sg (fndC f (rJudge r y z u s9)) 7)))], shO E ag z u, shN E ag y] (ansR (rJudge r y z u s9))) 0 0 (inB [[gObj ag ah az ak i0], hillsW E ah r, [(ag 4, .inl (E.2.1, 7, .inl (sg f 7)))], shO E ag z u, shN E ag y]) := by
  refine M_mk RX4 (by decide) rfl (Nat.le_of_ble_eq_true rfl) ?_
  intro p e s m below meth c S hr hlk hK hP hD hS ls hl
  have hl : lv_has ls 5 [(0, .ref (ag 0)), (1, .int s9)] := hl
  obtain ⟨n, d, hn, hn8, hd, hd5, ho, hso, hli, hsp, hpt⟩ := id hR
  obtain ⟨H, hH⟩ : ∃ zz9, zz9 = s.heap := ⟨_, rfl⟩
  obtain ⟨locs, hlocs⟩ : ∃ zz9 : List Loc, zz9 = [] := ⟨_, rfl⟩
  have hP : PE E [[gObj ag ah az ak i0], hillsW E ah r, [(ag 4, .inl (E.2.1, 7, .inl (sg f 7)))], shO E ag z u, shN E ag y] H := by rw [hH]; exact hP
  have hS : va_S (inB [[gObj ag ah az ak i0], hillsW E ah r, [(ag 4, .inl (E.2.1, 7, .inl (sg f 7)))], shO E ag z u, shN E ag y]) s.heap H locs := by rw [hH, hlocs]; exact hS
  show W p l e ({ frames := 2, cells := 0, slots := 0, locals := 42 }) s m ([.ref (ag 0), .int s9] : List Value).toArray below meth c s.heap [] 0 0 _ _
  suffices hgo : W p l e ({ frames := 2, cells := 0, slots := 0, locals := 42 }) s m ([.ref (ag 0), .int s9] : List Value).toArray below meth c H locs 0 0 (MQ below (qI E [[gObj ag ah az ak i0], hillsW E ah r, [(ag 4, .inl (E.2.1, 7, .inl (sg f 7)))], shO E ag z u, shN E ag y] [[gObj ag ah az ak i0], hillsW E ah r, [(ag 4, .inl (E.2.1, 7, .inl (sg (fndC f (rJudge r y z u s9)) 7)))], shO E ag z u, shN E ag y] (ansR (rJudge r y z u s9))) ([.ref (ag 0), .int s9] : List Value).toArray s 0 0 (inB [[gObj ag ah az ak i0], hillsW E ah r, [(ag 4, .inl (E.2.1, 7, .inl (sg f 7)))], shO E ag z u, shN E ag y])) (F0 m 0 ls []) by rw [hH, hlocs] at hgo; exact hgo
  clear hH hlocs
  refine lv_aload_n S.1 S.2.1 dX4_judge_0 rfl (lv_at hl 0 rfl) ?_
  refine lv_iload_n S.1 S.2.1 dX4_judge_1 rfl (lv_at hl 1 rfl) ?_
  refine go_S (run_V (As := [.int s9]) (rest := []) (n := 1) S hK (bl_P hP [0, 3] rfl) (bl_D hD [0, 3] rfl rfl) (c_X4_sheetFault l E ag ah az ak i0 z u s9 ) gV_X4_182 (by decide +kernel) rfl ⟨rfl, rfl⟩ ⟨Nat.le_of_ble_eq_true rfl, Nat.le_of_ble_eq_true rfl⟩ (ci := 4) (q0 := 0) rfl rfl hl.1 (Nat.le_of_ble_eq_true rfl) dX4_judge_2 ⟨Nat.zero_le _, Nat.zero_le _⟩) ?_
  refine lv_istore_n (lv' := [(2, .int (fltV z s9 True)), (0, .ref (ag 0)), (1, .int s9)]) S.1 S.2.1 dX4_judge_5 rfl hl (by decide) rfl (fun ls hl => ?_)
  refine lv_iload_n S.1 S.2.1 dX4_judge_6 rfl (lv_at hl 0 rfl) ?_
  refine lv_iconst (v := (-1)) S.1 S.2.1 dX4_judge_7 (by decide) ?_
  refine lv_icmp_eq (tgt := 17) S.1 S.2.1 dX4_judge_8 (by decide) (fun c_8 => ?_) (fun c_8 => ?_)
  · have hc9 := flt_ok c_8
    obtain ⟨k_s9, hk_s9, ek_s9, hz_s9, hG9⟩ := lack_ok hc9
    obtain ⟨len, hlen, elen⟩ := hU k_s9 (by omega)
    refine lv_aload_n S.1 S.2.1 dX4_judge_17 rfl (lv_at hl 1 rfl) ?_
    refine gf_X4_28 S hK hP 0 0 rfl rfl rfl dX4_judge_18 ?_
    refine lv_iload_n S.1 S.2.1 dX4_judge_21 rfl (lv_at hl 2 rfl) ?_
    refine lv_eqi (y := nI k_s9) ek_s9 ?_
    refine b_aaldN (i := k_s9) S hK hP 3 3 0 rfl rfl rfl (by omega) (by decide) (v := ag (5 + k_s9)) rfl dX4_judge_22 ?_
    refine lv_astore_n (lv' := [(3, .ref (ag (5 + k_s9))), (2, .int (fltV z s9 True)), (0, .ref (ag 0)), (1, .int s9)]) S.1 S.2.1 dX4_judge_23 rfl hl (by decide) rfl (fun ls hl => ?_)
    refine lv_iconst (v := 0) S.1 S.2.1 dX4_judge_24 (by decide) ?_
    refine lv_istore (lv' := [(4, .int 0), (3, .ref (ag (5 + k_s9))), (2, .int (fltV z s9 True)), (0, .ref (ag 0)), (1, .int s9)]) S.1 S.2.1 dX4_judge_25 hl (by decide) rfl (fun ls hl => ?_)
    have L_27 : ∀ (fu : Nat) (i : Nat), (i ≤ len) → (len < i + fu) → (∀ j, j < i → badJ r y (40 * k_s9) j = false) → ∀ (H : Heap) (locs : List Loc), PE E [[gObj ag ah az ak i0], hillsW E ah r, [(ag 4, .inl (E.2.1, 7, .inl (sg f 7)))], shO E ag z u, shN E ag y] H → DE (inB [[gObj ag ah az ak i0], hillsW E ah r, [(ag 4, .inl (E.2.1, 7, .inl (sg f 7)))], shO E ag z u, shN E ag y]) [[gObj ag ah az ak i0], hillsW E ah r, [(ag 4, .inl (E.2.1, 7, .inl (sg f 7)))], shO E ag z u, shN E ag y] → va_S (inB [[gObj ag ah az ak i0], hillsW E ah r, [(ag 4, .inl (E.2.1, 7, .inl (sg f 7)))], shO E ag z u, shN E ag y]) s.heap H locs → ∀ (ls : Array Slot), lv_has ls 5 [(0, .ref (ag 0)), (3, .ref (ag (5 + k_s9))), (4, .int (nI i))] → W p l e ({ frames := 2, cells := 0, slots := 0, locals := 42 }) s m ([.ref (ag 0), .int s9] : List Value).toArray below meth c H locs 0 0 (MQ below (qI E [[gObj ag ah az ak i0], hillsW E ah r, [(ag 4, .inl (E.2.1, 7, .inl (sg f 7)))], shO E ag z u, shN E ag y] [[gObj ag ah az ak i0], hillsW E ah r, [(ag 4, .inl (E.2.1, 7, .inl (sg (fndC f (rJudge r y z u s9)) 7)))], shO E ag z u, shN E ag y] (ansR (rJudge r y z u s9))) ([.ref (ag 0), .int s9] : List Value).toArray s 0 0 (inB [[gObj ag ah az ak i0], hillsW E ah r, [(ag 4, .inl (E.2.1, 7, .inl (sg f 7)))], shO E ag z u, shN E ag y])) (F0 m 27 ls []) := by
      intro fu
      induction fu with
      | zero =>
        intro i hi hf hno
        omega
      | succ fu ih_27 =>
        intro i hi hf hno H locs hP hD hS ls hl
        refine lv_iload S.1 S.2.1 dX4_judge_27 (lv_at hl 2 rfl) ?_
        refine lv_aload_n S.1 S.2.1 dX4_judge_29 rfl (lv_at hl 1 rfl) ?_
        refine gf_X4_185 S hK hP 3 (1 + k_s9) rfl (sO_at (by omega)) rfl dX4_judge_30 ?_
        refine lv_eqi (y := nI len) elen ?_
        refine lv_icmp_ge (tgt := 79) S.1 S.2.1 dX4_judge_33 (by decide) (fun c_33 => ?_) (fun c_33 => ?_)
        · have n_33 := Int32.not_lt.mpr c_33
          have hi9 : i = len := le_endK hi c_33 (by omega)
          refine lv_iconst (v := 0) S.1 S.2.1 dX4_judge_79 (by decide) ?_
          exact retI S hr hlk (by have e9 : rJudge r y z u s9 = .inr (r, 0) := (by have e8 : fstN (badJ r y (40 * k_s9)) len = i := (by rw [fst_no (fun j hj => hno j (by omega))]; omega); have z8 : i = len := hi9; unfold rJudge; rw [if_pos hc9, ek_s9, tN_nI (by omega), elen, tN_nI (by omega), e8, if_pos z8]); rw [e9, fndC_inr]; exact hP) hS (by have e9 : rJudge r y z u s9 = .inr (r, 0) := (by have e8 : fstN (badJ r y (40 * k_s9)) len = i := (by rw [fst_no (fun j hj => hno j (by omega))]; omega); have z8 : i = len := hi9; unfold rJudge; rw [if_pos hc9, ek_s9, tN_nI (by omega), elen, tN_nI (by omega), e8, if_pos z8]); rw [e9, ansR_inr]) dX4_judge_80
        · have n_33 := Int32.not_le.mp c_33
          have hi2 : i < len := lt_of_nI n_33 (by omega) (by omega)
          refine lv_aload_n S.1 S.2.1 dX4_judge_36 rfl (lv_at hl 0 rfl) ?_
          refine lv_iload S.1 S.2.1 dX4_judge_37 (lv_at hl 2 rfl) ?_
          refine go_S (run_V (As := [.int (nI i)]) (rest := []) (n := 1) S hK (bl_P hP [0, 1] rfl) (bl_D hD [0, 1] rfl rfl) (c_X4_isPotter l E ag ah az ak i0 r (nI i) ) gV_X4_67 (by decide +kernel) rfl ⟨rfl, rfl⟩ ⟨Nat.le_of_ble_eq_true rfl, Nat.le_of_ble_eq_true rfl⟩ (ci := 4) (q0 := 0) rfl rfl hl.1 (Nat.le_of_ble_eq_true rfl) dX4_judge_39 ⟨Nat.zero_le _, Nat.zero_le _⟩) ?_
          refine b_ifeq (tgt := 68) S.1 S.2.1 dX4_judge_42 (by decide) (fun c_42 => ?_) (fun c_42 => ?_)
          · refine lv_iconst (v := 1) S.1 S.2.1 dX4_judge_68 (by decide) ?_
            refine lv_iload S.1 S.2.1 dX4_judge_69 (lv_at hl 2 rfl) ?_
            refine lv_iadd S.1 S.2.1 dX4_judge_71 ?_
            refine lv_eqi (y := nI (1 + i)) (nI_add 1 i) ?_
            exact retI S hr hlk (by have e9 : rJudge r y z u s9 = .inr (r, nI (1 + i)) := (by have e8 : fstN (badJ r y (40 * k_s9)) len = i := fst_yes (fun j hj => hno j hj) (decide_eq_true (fun z9 => c_42 ⟨nI_pos' (by omega), by rw [hn]; exact nI_lt (by rw [cntN_eq hn hn8] at z9; exact z9.1) (by omega)⟩)) hi2; have z8 : ¬ i = len := Nat.ne_of_lt hi2; unfold rJudge; rw [if_pos hc9, ek_s9, tN_nI (by omega), elen, tN_nI (by omega), e8, if_neg z8]); rw [e9, fndC_inr]; exact hP) hS (by have e9 : rJudge r y z u s9 = .inr (r, nI (1 + i)) := (by have e8 : fstN (badJ r y (40 * k_s9)) len = i := fst_yes (fun j hj => hno j hj) (decide_eq_true (fun z9 => c_42 ⟨nI_pos' (by omega), by rw [hn]; exact nI_lt (by rw [cntN_eq hn hn8] at z9; exact z9.1) (by omega)⟩)) hi2; have z8 : ¬ i = len := Nat.ne_of_lt hi2; unfold rJudge; rw [if_pos hc9, ek_s9, tN_nI (by omega), elen, tN_nI (by omega), e8, if_neg z8]); rw [e9, ansR_inr]) dX4_judge_72
          · have hi3 : i < n := (nI_ltI (by omega) (by omega)).mp (by rw [← hn]; exact c_42.2)
            refine lv_aload_n S.1 S.2.1 dX4_judge_45 rfl (lv_at hl 0 rfl) ?_
            refine gf_X4_10 S hK hP 0 0 rfl rfl rfl dX4_judge_46 ?_
            refine gf_X4_71 S hK hP 1 0 rfl rfl rfl dX4_judge_49 ?_
            refine lv_iload S.1 S.2.1 dX4_judge_52 (lv_at hl 2 rfl) ?_
            refine b_aaldN (i := i) S hK hP 2 1 2 rfl rfl rfl (by omega) (by decide) (v := ah (4 + i)) rfl dX4_judge_54 ?_
            refine gf_X4_196 S hK hP 1 (4 + i) rfl (hw_pot (by omega)) rfl dX4_judge_55 ?_
            refine lv_aload_n S.1 S.2.1 dX4_judge_58 rfl (lv_at hl 1 rfl) ?_
            refine gf_X4_193 S hK hP 3 (1 + k_s9) rfl (sO_at (by omega)) rfl dX4_judge_59 ?_
            refine lv_iload S.1 S.2.1 dX4_judge_62 (lv_at hl 2 rfl) ?_
            refine b_ialdN (i := i) S hK hP 4 k_s9 rfl (sN_at (by omega)) (by omega) (by decide) dX4_judge_64 ?_
            refine lv_eqi (y := y (40 * k_s9 + i)) (seg_at (by omega)) ?_
            refine lv_icmp_eq (tgt := 73) S.1 S.2.1 dX4_judge_65 (by decide) (fun c_65 => ?_) (fun c_65 => ?_)
            · refine lv_iinc (v := nI (i + 1)) (lv' := [(4, .int (nI (i + 1))), (0, .ref (ag 0)), (3, .ref (ag (5 + k_s9)))]) S.1 S.2.1 dX4_judge_73 hl (k := 2) rfl (nI_1 i) (by decide) rfl (fun ls hl => ?_)
              refine lv_goto (tgt := 27) S.1 S.2.1 dX4_judge_76 (by decide) ?_
              exact ih_27 (i + 1) (by omega) (by omega) (lt_s hno (decide_eq_false (fun z9 => z9 ⟨by rw [cntN_eq hn hn8]; exact hi3, c_65.symm⟩))) H locs hP hD hS ls (lv_sub hl [1, 2, 0] rfl)
            · refine lv_iconst (v := 1) S.1 S.2.1 dX4_judge_68 (by decide) ?_
              refine lv_iload S.1 S.2.1 dX4_judge_69 (lv_at hl 2 rfl) ?_
              refine lv_iadd S.1 S.2.1 dX4_judge_71 ?_
              refine lv_eqi (y := nI (1 + i)) (nI_add 1 i) ?_
              exact retI S hr hlk (by have e9 : rJudge r y z u s9 = .inr (r, nI (1 + i)) := (by have e8 : fstN (badJ r y (40 * k_s9)) len = i := fst_yes (fun j hj => hno j hj) (decide_eq_true (fun z9 => c_65 z9.2.symm)) hi2; have z8 : ¬ i = len := Nat.ne_of_lt hi2; unfold rJudge; rw [if_pos hc9, ek_s9, tN_nI (by omega), elen, tN_nI (by omega), e8, if_neg z8]); rw [e9, fndC_inr]; exact hP) hS (by have e9 : rJudge r y z u s9 = .inr (r, nI (1 + i)) := (by have e8 : fstN (badJ r y (40 * k_s9)) len = i := fst_yes (fun j hj => hno j hj) (decide_eq_true (fun z9 => c_65 z9.2.symm)) hi2; have z8 : ¬ i = len := Nat.ne_of_lt hi2; unfold rJudge; rw [if_pos hc9, ek_s9, tN_nI (by omega), elen, tN_nI (by omega), e8, if_neg z8]); rw [e9, ansR_inr]) dX4_judge_72
    exact L_27 (len + 1) 0 (by omega) (by omega) (fun j hj => absurd hj (by omega)) H locs hP hD hS ls (lv_sub hl [3, 1, 0] rfl)
  · refine lv_aload_n S.1 S.2.1 dX4_judge_11 rfl (lv_at hl 1 rfl) ?_
    refine lv_iload_n S.1 S.2.1 dX4_judge_12 rfl (lv_at hl 0 rfl) ?_
    refine lv_eqi (y := nI (lackK z s9 True)) (flt_eq c_8) ?_
    refine go_I (run_V (As := [.int (nI (lackK z s9 True))]) (rest := []) (n := 1) S hK (bl_P hP [0, 2] rfl) (bl_D hD [0, 2] rfl rfl) (c_X4_finding l E ag ah az ak i0 f (lackK z s9 True) lackK_lt) gV_X4_48 (by decide +kernel) rfl ⟨rfl, rfl⟩ ⟨Nat.le_of_ble_eq_true rfl, Nat.le_of_ble_eq_true rfl⟩ (ci := 4) (q0 := 0) rfl rfl hl.1 (Nat.le_of_ble_eq_true rfl) dX4_judge_13 ⟨Nat.zero_le _, Nat.zero_le _⟩) hP hD hS [0, 2] rfl (had_cons rfl (had_cons cell_ad rfl)) (Bs' := [[gObj ag ah az ak i0], hillsW E ah r, [(ag 4, .inl (E.2.1, 7, .inl (sg (upd f (lackK z s9 True) (f (lackK z s9 True) + 1)) 7)))], shO E ag z u, shN E ag y]) rfl (fun H locs hP hD hS => ?_)
    obtain ⟨r_13, er_13⟩ : ∃ zz9 : Row, zz9 = upd f (lackK z s9 True) (f (lackK z s9 True) + 1) := ⟨_, rfl⟩
    rw [← er_13] at hP hD
    exact retI S hr hlk (by have e9 : rJudge r y z u s9 = .inl (lackK z s9 (True)) := if_neg (flt_bad c_8); rw [er_13] at hP; rw [e9, fndC_inl]; exact hP) hS (by have e9 : rJudge r y z u s9 = .inl (lackK z s9 (True)) := if_neg (flt_bad c_8); rw [e9]; rfl) dX4_judge_16
