theorem orNR_f {f : Row} {v : Int32} : fndM f (orNR v) = orNF f v := by
  unfold orNR orNF
  by_cases h : 0 ≤ v
  · rw [if_pos h, if_pos h]; rfl
  · rw [if_neg h, if_neg h]; rfl
theorem orNR_a {v : Int32} : orNV v = ansR (orNR v) := by
  unfold orNR orNV
  by_cases h : 0 ≤ v
  · rw [if_pos h, if_pos h]; rfl
  · rw [if_neg h, if_neg h]; decide
def kdN (c : Nat → Bool) : Nat → Int32
  | 0 => 0
  | k + 1 => kdN c k ||| (if c k = true then 1 <<< (nI k &&& 31) else 0)
theorem kdN_s {c : Nat → Bool} {k : Nat} {b : Int32} (hb : b = kdN c k) (h : c k = true) : b ||| 1 <<< (nI k &&& 31) = kdN c (k + 1) := by rw [kdN, if_pos h, hb]
theorem kdN_n {c : Nat → Bool} {k : Nat} {b : Int32} (hb : b = kdN c k) (h : ¬ c k = true) : b ||| 0 = kdN c (k + 1) := by rw [kdN, if_neg h, hb]
def rKinds (r y z u : Row) (s p : Int32) : Res := if lackV z s (0 ≤ p ∧ p < r 1) = 0 then .inr (fun _ => 0, kdN (fun v => okN y (40 * tN s) (upd r (21 + 7 * tN p) (nI v)) (tN p) (min (tN (u (tN s))) 10)) 7) else .inl (lackK z s (0 ≤ p ∧ p < r 1))
def bitsN : Nat → Nat → Nat
  | 0, _ => 0
  | n + 1, x => if x = 0 then 0 else bitsN n (x &&& (x - 1)) + 1
theorem bits_lt {x : Nat} (h : 0 < x) : x &&& (x - 1) < x := Nat.lt_of_le_of_lt Nat.and_le_right (by omega)
theorem bits_fuel : ∀ (n m x : Nat), x < n → x < m → bitsN n x = bitsN m x
  | 0, _, x, h, _ => absurd h (by omega)
  | n + 1, 0, x, _, h => absurd h (by omega)
  | n + 1, m + 1, x, h1, h2 => by
    rw [bitsN, bitsN]
    by_cases h : x = 0
    · rw [if_pos h, if_pos h]
    · rw [if_neg h, if_neg h, bits_fuel n m _ (by have := bits_lt (x := x) (by omega); omega) (by have := bits_lt (x := x) (by omega); omega)]
theorem bits_s {a x : Nat} (h : 0 < x) (hx : x < 256) : a + 1 + bitsN 256 (x &&& (x - 1)) = a + bitsN 256 x := by
  have e : bitsN 256 x = bitsN 255 (x &&& (x - 1)) + 1 := by
    show (if x = 0 then 0 else bitsN 255 (x &&& (x - 1)) + 1) = _
    rw [if_neg (by omega)]
  have hl := bits_lt h
  rw [e, bits_fuel 255 256 _ (by omega) (by omega)]
  omega
theorem nI_and (a b : Nat) : nI a &&& nI b = nI (a &&& b) := by
  apply Int32.toBitVec_inj.mp
  show BitVec.ofNat 32 a &&& BitVec.ofNat 32 b = BitVec.ofNat 32 (a &&& b)
  exact (BitVec.ofNat_and ..).symm
theorem bits_and {x : Nat} (h : 0 < x) : nI x &&& (nI x - 1) = nI (x &&& (x - 1)) := by
  rw [show nI x - 1 = nI (x - 1) from pk_sub (b := 1) h, nI_and]
set_option maxHeartbeats 800000 in
set_option maxRecDepth 100000 in
theorem c_X5_grief (l : Launch) (E : EV) (am : Nat → Nat) (q r f x z u y : Row) (s9 pp : Int32) (hR : RI r) (hU : ∀ j, j < 4 → le9 (u j) 40) : Met l yX5_grief (wq yX5_grief cX5_grief 4 (some .int)) ({ frames := 9, cells := 0, slots := 0, locals := 199 }) (preB E [.ref (am 0), .int s9, .int pp] [[mObj am q], [(am 1, .inl (E.2.1, 77, .inl (sg r 77)))], [(am 4, .inl (E.2.1, 8, .inl (sg f 8)))], [(am 3, .inl (E.2.1, 77, .inl (sg x 77)))], [(am 8, .inl (E.2.1, 4, .inl (sg z 4)))], [(am 9, .inl (E.2.1, 4, .inl (sg u 4)))], [(am 10, .inl (E.2.1, 160, .inl (sg y 160)))]]) (qIx E [[mObj am q], [(am 1, .inl (E.2.1, 77, .inl (sg r 77)))], [(am 4, .inl (E.2.1, 8, .inl (sg f 8)))], [(am 3, .inl (E.2.1, 77, .inl (sg x 77)))], [(am 8, .inl (E.2.1, 4, .inl (sg z 4)))], [(am 9, .inl (E.2.1, 4, .inl (sg u 4)))], [(am 10, .inl (E.2.1, 160, .inl (sg y 160)))]] (fun u9 => [[mObj am (if lackV z s9 (0 ≤ pp ∧ pp < r 1) = 0 then griefQ q (fun v => okN y (40 * tN s9) (upd r (21 + 7 * tN pp + 1) (nI v)) (tN pp) (min (tN (u (tN s9))) 10)) else q)], [(am 1, .inl (E.2.1, 77, .inl (sg r 77)))], [(am 4, .inl (E.2.1, 8, .inl (sg (fndM f (rGrief r y z u s9 pp)) 8)))], [(am 3, .inl (E.2.1, 77, .inl (sg u9 77)))], [(am 8, .inl (E.2.1, 4, .inl (sg z 4)))], [(am 9, .inl (E.2.1, 4, .inl (sg u 4)))], [(am 10, .inl (E.2.1, 160, .inl (sg y 160)))]]) (ansR (rGrief r y z u s9 pp))) 0 0 (inB [[mObj am q], [(am 1, .inl (E.2.1, 77, .inl (sg r 77)))], [(am 4, .inl (E.2.1, 8, .inl (sg f 8)))], [(am 3, .inl (E.2.1, 77, .inl (sg x 77)))], [(am 8, .inl (E.2.1, 4, .inl (sg z 4)))], [(am 9, .inl (E.2.1, 4, .inl (sg u 4)))], [(am 10, .inl (E.2.1, 160, .inl (sg y 160)))]]) := by
  refine M_mk RX5 (by decide) rfl (Nat.le_of_ble_eq_true rfl) ?_
  intro p e s m below meth c S hr hlk hK hP hD hS ls hl
  have hl : lv_has ls 4 [(0, .ref (am 0)), (1, .int s9), (2, .int pp)] := hl
  obtain ⟨n, d, hn, hn8, hd, hd5, ho, hso, hli, hsp, hpt⟩ := id hR
  obtain ⟨H, hH⟩ : ∃ zz9, zz9 = s.heap := ⟨_, rfl⟩
  obtain ⟨locs, hlocs⟩ : ∃ zz9 : List Loc, zz9 = [] := ⟨_, rfl⟩
  have hP : PE E [[mObj am q], [(am 1, .inl (E.2.1, 77, .inl (sg r 77)))], [(am 4, .inl (E.2.1, 8, .inl (sg f 8)))], [(am 3, .inl (E.2.1, 77, .inl (sg x 77)))], [(am 8, .inl (E.2.1, 4, .inl (sg z 4)))], [(am 9, .inl (E.2.1, 4, .inl (sg u 4)))], [(am 10, .inl (E.2.1, 160, .inl (sg y 160)))]] H := by rw [hH]; exact hP
  have hS : va_S (inB [[mObj am q], [(am 1, .inl (E.2.1, 77, .inl (sg r 77)))], [(am 4, .inl (E.2.1, 8, .inl (sg f 8)))], [(am 3, .inl (E.2.1, 77, .inl (sg x 77)))], [(am 8, .inl (E.2.1, 4, .inl (sg z 4)))], [(am 9, .inl (E.2.1, 4, .inl (sg u 4)))], [(am 10, .inl (E.2.1, 160, .inl (sg y 160)))]]) s.heap H locs := by rw [hH, hlocs]; exact hS
  show W p l e ({ frames := 9, cells := 0, slots := 0, locals := 199 }) s m ([.ref (am 0), .int s9, .int pp] : List Value).toArray below meth c s.heap [] 0 0 _ _
  suffices hgo : W p l e ({ frames := 9, cells := 0, slots := 0, locals := 199 }) s m ([.ref (am 0), .int s9, .int pp] : List Value).toArray below meth c H locs 0 0 (MQ below (qIx E [[mObj am q], [(am 1, .inl (E.2.1, 77, .inl (sg r 77)))], [(am 4, .inl (E.2.1, 8, .inl (sg f 8)))], [(am 3, .inl (E.2.1, 77, .inl (sg x 77)))], [(am 8, .inl (E.2.1, 4, .inl (sg z 4)))], [(am 9, .inl (E.2.1, 4, .inl (sg u 4)))], [(am 10, .inl (E.2.1, 160, .inl (sg y 160)))]] (fun u9 => [[mObj am (if lackV z s9 (0 ≤ pp ∧ pp < r 1) = 0 then griefQ q (fun v => okN y (40 * tN s9) (upd r (21 + 7 * tN pp + 1) (nI v)) (tN pp) (min (tN (u (tN s9))) 10)) else q)], [(am 1, .inl (E.2.1, 77, .inl (sg r 77)))], [(am 4, .inl (E.2.1, 8, .inl (sg (fndM f (rGrief r y z u s9 pp)) 8)))], [(am 3, .inl (E.2.1, 77, .inl (sg u9 77)))], [(am 8, .inl (E.2.1, 4, .inl (sg z 4)))], [(am 9, .inl (E.2.1, 4, .inl (sg u 4)))], [(am 10, .inl (E.2.1, 160, .inl (sg y 160)))]]) (ansR (rGrief r y z u s9 pp))) ([.ref (am 0), .int s9, .int pp] : List Value).toArray s 0 0 (inB [[mObj am q], [(am 1, .inl (E.2.1, 77, .inl (sg r 77)))], [(am 4, .inl (E.2.1, 8, .inl (sg f 8)))], [(am 3, .inl (E.2.1, 77, .inl (sg x 77)))], [(am 8, .inl (E.2.1, 4, .inl (sg z 4)))], [(am 9, .inl (E.2.1, 4, .inl (sg u 4)))], [(am 10, .inl (E.2.1, 160, .inl (sg y 160)))]])) (F0 m 0 ls []) by rw [hH, hlocs] at hgo; exact hgo
  clear hH hlocs
  refine lv_aload_n S.1 S.2.1 dX5_grief_0 rfl (lv_at hl 0 rfl) ?_
  refine lv_iload_n S.1 S.2.1 dX5_grief_1 rfl (lv_at hl 1 rfl) ?_
  refine lv_aload_n S.1 S.2.1 dX5_grief_2 rfl (lv_at hl 0 rfl) ?_
  refine lv_iload_n S.1 S.2.1 dX5_grief_3 rfl (lv_at hl 2 rfl) ?_
  refine go_S (run_V (As := [.int pp]) (rest := [.int s9, .ref (am 0)]) (n := 1) S hK (bl_P hP [0, 1] rfl) (bl_D hD [0, 1] rfl rfl) (c_X5_isPotter l E am q r pp n hn hn8) gV_X5_122 (by decide +kernel) rfl ⟨rfl, rfl⟩ ⟨Nat.le_of_ble_eq_true rfl, Nat.le_of_ble_eq_true rfl⟩ (ci := 5) (q0 := 0) rfl rfl hl.1 (Nat.le_of_ble_eq_true rfl) dX5_grief_4 ⟨Nat.zero_le _, Nat.zero_le _⟩) ?_
  refine go_S (run_V (As := [.int s9, .int (bI (0 ≤ pp ∧ pp < r 1))]) (rest := []) (n := 2) S hK (bl_P hP [0, 4] rfl) (bl_D hD [0, 4] rfl rfl) (c_X5_lacks l E am q z s9 (0 ≤ pp ∧ pp < r 1)) gV_X5_210 (by decide +kernel) rfl ⟨rfl, rfl⟩ ⟨Nat.le_of_ble_eq_true rfl, Nat.le_of_ble_eq_true rfl⟩ (ci := 5) (q0 := 0) rfl rfl hl.1 (Nat.le_of_ble_eq_true rfl) dX5_grief_7 ⟨Nat.zero_le _, Nat.zero_le _⟩) ?_
  refine lv_istore_n (lv' := [(3, .int (lackV z s9 (0 ≤ pp ∧ pp < r 1))), (0, .ref (am 0)), (1, .int s9), (2, .int pp)]) S.1 S.2.1 dX5_grief_10 rfl hl (by decide) rfl (fun ls hl => ?_)
  refine lv_iload_n S.1 S.2.1 dX5_grief_11 rfl (lv_at hl 0 rfl) ?_
  refine lv_if_eq (tgt := 21) S.1 S.2.1 dX5_grief_12 (by decide) (fun c_12 => ?_) (fun c_12 => ?_)
  · have hc12 := c_12
    obtain ⟨k_s9, hk_s9, ek_s9, hz_s9, hG9⟩ := lack_ok c_12
    obtain ⟨len, hlen, elen⟩ := hU k_s9 (by omega)
    obtain ⟨k_pp, hk_pp, ek_pp⟩ := pot_nat hG9 hn (by omega)
    refine lv_aload_n S.1 S.2.1 dX5_grief_21 rfl (lv_at hl 1 rfl) ?_
    refine lv_iload_n S.1 S.2.1 dX5_grief_22 rfl (lv_at hl 2 rfl) ?_
    refine lv_eqi (y := nI k_s9) ek_s9 ?_
    refine lv_iload_n S.1 S.2.1 dX5_grief_23 rfl (lv_at hl 3 rfl) ?_
    refine lv_eqi (y := nI k_pp) ek_pp ?_
    refine go_V (run_V (As := [.int (nI k_s9), .int (nI k_pp)]) (rest := []) (n := 2) S hK (bl_P hP [0, 1, 3, 5, 6] rfl) (bl_D hD [0, 1, 3, 5, 6] rfl rfl) (c_X5_findGriefs l E am q r x u y k_s9 k_pp len hR (by omega) (by omega) elen hlen) gV_X5_214 (by decide +kernel) rfl ⟨rfl, rfl⟩ ⟨Nat.le_of_ble_eq_true rfl, Nat.le_of_ble_eq_true rfl⟩ (ci := 5) (q0 := 0) rfl rfl hl.1 (Nat.le_of_ble_eq_true rfl) dX5_grief_24 ⟨Nat.zero_le _, Nat.zero_le _⟩) hP hD hS [0, 1, 3, 5, 6] rfl (had_cons mo_ad (had_cons rfl (had_cons cell_ad (had_cons rfl (had_cons rfl rfl))))) (Bs' := [[mObj am (griefQ q (fun v => okN y (40 * k_s9) (upd r (21 + 7 * k_pp + 1) (nI v)) k_pp (min len 10)))], [(am 1, .inl (E.2.1, 77, .inl (sg r 77)))], [(am 4, .inl (E.2.1, 8, .inl (sg f 8)))], [(am 3, .inl (E.2.1, 77, .inl (sg (upd r (21 + 7 * k_pp + 1) (nI 0)) 77)))], [(am 8, .inl (E.2.1, 4, .inl (sg z 4)))], [(am 9, .inl (E.2.1, 4, .inl (sg u 4)))], [(am 10, .inl (E.2.1, 160, .inl (sg y 160)))]]) rfl (fun H locs hP hD hS => ?_)
    obtain ⟨r_24_0, er_24_0⟩ : ∃ zz9 : Row, zz9 = griefQ q (fun v => okN y (40 * k_s9) (upd r (21 + 7 * k_pp + 1) (nI v)) k_pp (min len 10)) := ⟨_, rfl⟩
    rw [← er_24_0] at hP hD
    obtain ⟨r_24_3, er_24_3⟩ : ∃ zz9 : Row, zz9 = upd r (21 + 7 * k_pp + 1) (nI 0) := ⟨_, rfl⟩
    rw [← er_24_3] at hP hD
    refine lv_aload_n S.1 S.2.1 dX5_grief_27 rfl (lv_at hl 1 rfl) ?_
    refine lv_aload_n S.1 S.2.1 dX5_grief_28 rfl (lv_at hl 1 rfl) ?_
    refine gf_X5_204 S hK hP 0 0 rfl rfl rfl dX5_grief_29 ?_
    refine go_I (run_V (As := [.int (r_24_0 2)]) (rest := []) (n := 1) S hK (bl_P hP [0, 2] rfl) (bl_D hD [0, 2] rfl rfl) (c_X5_orNone l E am r_24_0 f (r_24_0 2) ) gV_X5_174 (by decide +kernel) rfl ⟨rfl, rfl⟩ ⟨Nat.le_of_ble_eq_true rfl, Nat.le_of_ble_eq_true rfl⟩ (ci := 5) (q0 := 0) rfl rfl hl.1 (Nat.le_of_ble_eq_true rfl) dX5_grief_32 ⟨Nat.zero_le _, Nat.zero_le _⟩) hP hD hS [0, 2] rfl (had_cons rfl (had_cons cell_ad rfl)) (Bs' := [[mObj am r_24_0], [(am 1, .inl (E.2.1, 77, .inl (sg r 77)))], [(am 4, .inl (E.2.1, 8, .inl (sg (orNF f (r_24_0 2)) 8)))], [(am 3, .inl (E.2.1, 77, .inl (sg r_24_3 77)))], [(am 8, .inl (E.2.1, 4, .inl (sg z 4)))], [(am 9, .inl (E.2.1, 4, .inl (sg u 4)))], [(am 10, .inl (E.2.1, 160, .inl (sg y 160)))]]) rfl (fun H locs hP hD hS => ?_)
    obtain ⟨r_32, er_32⟩ : ∃ zz9 : Row, zz9 = orNF f (r_24_0 2) := ⟨_, rfl⟩
    rw [← er_32] at hP hD
    exact retIx S hr hlk r_24_3 (by have e9 : rGrief r y z u s9 pp = orNR (gP (fun v => okN y (40 * k_s9) (upd r (21 + 7 * k_pp + 1) (nI v)) k_pp (min len 10)) 100).2 := (by unfold rGrief; rw [if_pos hc12, ek_s9, ek_pp, tN_nI (k := k_s9) (by omega), tN_nI (k := k_pp) (by omega), elen, tN_nI (k := len) (by omega)]); rw [er_32, er_24_0, griefQ_2] at hP; rw [e9, orNR_f, if_pos hc12, ek_s9, ek_pp, tN_nI (k := k_s9) (by omega), tN_nI (k := k_pp) (by omega), elen, tN_nI (k := len) (by omega)]; exact hP) hS (by have e9 : rGrief r y z u s9 pp = orNR (gP (fun v => okN y (40 * k_s9) (upd r (21 + 7 * k_pp + 1) (nI v)) k_pp (min len 10)) 100).2 := (by unfold rGrief; rw [if_pos hc12, ek_s9, ek_pp, tN_nI (k := k_s9) (by omega), tN_nI (k := k_pp) (by omega), elen, tN_nI (k := len) (by omega)]); rw [e9, er_24_0, griefQ_2]; exact orNR_a) dX5_grief_35
  · refine lv_aload_n S.1 S.2.1 dX5_grief_15 rfl (lv_at hl 1 rfl) ?_
    refine lv_iload_n S.1 S.2.1 dX5_grief_16 rfl (lv_at hl 0 rfl) ?_
    refine go_I (run_V (As := [.int (lackV z s9 (0 ≤ pp ∧ pp < r 1))]) (rest := []) (n := 1) S hK (bl_P hP [0, 2] rfl) (bl_D hD [0, 2] rfl rfl) (c_X5_finding l E am q f (lackV z s9 (0 ≤ pp ∧ pp < r 1)) (lackK z s9 (0 ≤ pp ∧ pp < r 1)) (lack_hv c_12) lackK_lt) gV_X5_66 (by decide +kernel) rfl ⟨rfl, rfl⟩ ⟨Nat.le_of_ble_eq_true rfl, Nat.le_of_ble_eq_true rfl⟩ (ci := 5) (q0 := 0) rfl rfl hl.1 (Nat.le_of_ble_eq_true rfl) dX5_grief_17 ⟨Nat.zero_le _, Nat.zero_le _⟩) hP hD hS [0, 2] rfl (had_cons rfl (had_cons cell_ad rfl)) (Bs' := [[mObj am q], [(am 1, .inl (E.2.1, 77, .inl (sg r 77)))], [(am 4, .inl (E.2.1, 8, .inl (sg (findM f (lackK z s9 (0 ≤ pp ∧ pp < r 1))) 8)))], [(am 3, .inl (E.2.1, 77, .inl (sg x 77)))], [(am 8, .inl (E.2.1, 4, .inl (sg z 4)))], [(am 9, .inl (E.2.1, 4, .inl (sg u 4)))], [(am 10, .inl (E.2.1, 160, .inl (sg y 160)))]]) rfl (fun H locs hP hD hS => ?_)
    obtain ⟨r_17, er_17⟩ : ∃ zz9 : Row, zz9 = findM f (lackK z s9 (0 ≤ pp ∧ pp < r 1)) := ⟨_, rfl⟩
    rw [← er_17] at hP hD
    exact retIx S hr hlk x (by have e9 : rGrief r y z u s9 pp = .inl (lackK z s9 (0 ≤ pp ∧ pp < r 1)) := if_neg c_12; rw [er_17] at hP; rw [e9, fndM_inl, if_neg c_12]; exact hP) hS (by have e9 : rGrief r y z u s9 pp = .inl (lackK z s9 (0 ≤ pp ∧ pp < r 1)) := if_neg c_12; rw [e9]; exact lack_ans c_12) dX5_grief_20
set_option maxHeartbeats 800000 in
set_option maxRecDepth 100000 in
theorem c_X5_kinds (l : Launch) (E : EV) (am : Nat → Nat) (q r f x z u y : Row) (s9 pp : Int32) (hR : RI r) (hU : ∀ j, j < 4 → le9 (u j) 40) : Met l yX5_kinds (wq yX5_kinds cX5_kinds 8 (some .int)) ({ frames := 8, cells := 0, slots := 0, locals := 174 }) (preB E [.ref (am 0), .int s9, .int pp] [[mObj am q], [(am 1, .inl (E.2.1, 77, .inl (sg r 77)))], [(am 4, .inl (E.2.1, 8, .inl (sg f 8)))], [(am 3, .inl (E.2.1, 77, .inl (sg x 77)))], [(am 8, .inl (E.2.1, 4, .inl (sg z 4)))], [(am 9, .inl (E.2.1, 4, .inl (sg u 4)))], [(am 10, .inl (E.2.1, 160, .inl (sg y 160)))]]) (qIx E [[mObj am q], [(am 1, .inl (E.2.1, 77, .inl (sg r 77)))], [(am 4, .inl (E.2.1, 8, .inl (sg f 8)))], [(am 3, .inl (E.2.1, 77, .inl (sg x 77)))], [(am 8, .inl (E.2.1, 4, .inl (sg z 4)))], [(am 9, .inl (E.2.1, 4, .inl (sg u 4)))], [(am 10, .inl (E.2.1, 160, .inl (sg y 160)))]] (fun u9 => [[mObj am q], [(am 1, .inl (E.2.1, 77, .inl (sg r 77)))], [(am 4, .inl (E.2.1, 8, .inl (sg (fndM f (rKinds r y z u s9 pp)) 8)))], [(am 3, .inl (E.2.1, 77, .inl (sg u9 77)))], [(am 8, .inl (E.2.1, 4, .inl (sg z 4)))], [(am 9, .inl (E.2.1, 4, .inl (sg u 4)))], [(am 10, .inl (E.2.1, 160, .inl (sg y 160)))]]) (ansR (rKinds r y z u s9 pp))) 0 0 (inB [[mObj am q], [(am 1, .inl (E.2.1, 77, .inl (sg r 77)))], [(am 4, .inl (E.2.1, 8, .inl (sg f 8)))], [(am 3, .inl (E.2.1, 77, .inl (sg x 77)))], [(am 8, .inl (E.2.1, 4, .inl (sg z 4)))], [(am 9, .inl (E.2.1, 4, .inl (sg u 4)))], [(am 10, .inl (E.2.1, 160, .inl (sg y 160)))]]) := by
  refine M_mk RX5 (by decide) rfl (Nat.le_of_ble_eq_true rfl) ?_
  intro p e s m below meth c S hr hlk hK hP hD hS ls hl
  have hl : lv_has ls 8 [(0, .ref (am 0)), (1, .int s9), (2, .int pp)] := hl
  obtain ⟨n, d, hn, hn8, hd, hd5, ho, hso, hli, hsp, hpt⟩ := id hR
  obtain ⟨H, hH⟩ : ∃ zz9, zz9 = s.heap := ⟨_, rfl⟩
  obtain ⟨locs, hlocs⟩ : ∃ zz9 : List Loc, zz9 = [] := ⟨_, rfl⟩
  have hP : PE E [[mObj am q], [(am 1, .inl (E.2.1, 77, .inl (sg r 77)))], [(am 4, .inl (E.2.1, 8, .inl (sg f 8)))], [(am 3, .inl (E.2.1, 77, .inl (sg x 77)))], [(am 8, .inl (E.2.1, 4, .inl (sg z 4)))], [(am 9, .inl (E.2.1, 4, .inl (sg u 4)))], [(am 10, .inl (E.2.1, 160, .inl (sg y 160)))]] H := by rw [hH]; exact hP
  have hS : va_S (inB [[mObj am q], [(am 1, .inl (E.2.1, 77, .inl (sg r 77)))], [(am 4, .inl (E.2.1, 8, .inl (sg f 8)))], [(am 3, .inl (E.2.1, 77, .inl (sg x 77)))], [(am 8, .inl (E.2.1, 4, .inl (sg z 4)))], [(am 9, .inl (E.2.1, 4, .inl (sg u 4)))], [(am 10, .inl (E.2.1, 160, .inl (sg y 160)))]]) s.heap H locs := by rw [hH, hlocs]; exact hS
  show W p l e ({ frames := 8, cells := 0, slots := 0, locals := 174 }) s m ([.ref (am 0), .int s9, .int pp] : List Value).toArray below meth c s.heap [] 0 0 _ _
  suffices hgo : W p l e ({ frames := 8, cells := 0, slots := 0, locals := 174 }) s m ([.ref (am 0), .int s9, .int pp] : List Value).toArray below meth c H locs 0 0 (MQ below (qIx E [[mObj am q], [(am 1, .inl (E.2.1, 77, .inl (sg r 77)))], [(am 4, .inl (E.2.1, 8, .inl (sg f 8)))], [(am 3, .inl (E.2.1, 77, .inl (sg x 77)))], [(am 8, .inl (E.2.1, 4, .inl (sg z 4)))], [(am 9, .inl (E.2.1, 4, .inl (sg u 4)))], [(am 10, .inl (E.2.1, 160, .inl (sg y 160)))]] (fun u9 => [[mObj am q], [(am 1, .inl (E.2.1, 77, .inl (sg r 77)))], [(am 4, .inl (E.2.1, 8, .inl (sg (fndM f (rKinds r y z u s9 pp)) 8)))], [(am 3, .inl (E.2.1, 77, .inl (sg u9 77)))], [(am 8, .inl (E.2.1, 4, .inl (sg z 4)))], [(am 9, .inl (E.2.1, 4, .inl (sg u 4)))], [(am 10, .inl (E.2.1, 160, .inl (sg y 160)))]]) (ansR (rKinds r y z u s9 pp))) ([.ref (am 0), .int s9, .int pp] : List Value).toArray s 0 0 (inB [[mObj am q], [(am 1, .inl (E.2.1, 77, .inl (sg r 77)))], [(am 4, .inl (E.2.1, 8, .inl (sg f 8)))], [(am 3, .inl (E.2.1, 77, .inl (sg x 77)))], [(am 8, .inl (E.2.1, 4, .inl (sg z 4)))], [(am 9, .inl (E.2.1, 4, .inl (sg u 4)))], [(am 10, .inl (E.2.1, 160, .inl (sg y 160)))]])) (F0 m 0 ls []) by rw [hH, hlocs] at hgo; exact hgo
  clear hH hlocs
  refine lv_aload_n S.1 S.2.1 dX5_kinds_0 rfl (lv_at hl 0 rfl) ?_
  refine lv_iload_n S.1 S.2.1 dX5_kinds_1 rfl (lv_at hl 1 rfl) ?_
  refine lv_aload_n S.1 S.2.1 dX5_kinds_2 rfl (lv_at hl 0 rfl) ?_
  refine lv_iload_n S.1 S.2.1 dX5_kinds_3 rfl (lv_at hl 2 rfl) ?_
  refine go_S (run_V (As := [.int pp]) (rest := [.int s9, .ref (am 0)]) (n := 1) S hK (bl_P hP [0, 1] rfl) (bl_D hD [0, 1] rfl rfl) (c_X5_isPotter l E am q r pp n hn hn8) gV_X5_122 (by decide +kernel) rfl ⟨rfl, rfl⟩ ⟨Nat.le_of_ble_eq_true rfl, Nat.le_of_ble_eq_true rfl⟩ (ci := 5) (q0 := 0) rfl rfl hl.1 (Nat.le_of_ble_eq_true rfl) dX5_kinds_4 ⟨Nat.zero_le _, Nat.zero_le _⟩) ?_
  refine go_S (run_V (As := [.int s9, .int (bI (0 ≤ pp ∧ pp < r 1))]) (rest := []) (n := 2) S hK (bl_P hP [0, 4] rfl) (bl_D hD [0, 4] rfl rfl) (c_X5_lacks l E am q z s9 (0 ≤ pp ∧ pp < r 1)) gV_X5_210 (by decide +kernel) rfl ⟨rfl, rfl⟩ ⟨Nat.le_of_ble_eq_true rfl, Nat.le_of_ble_eq_true rfl⟩ (ci := 5) (q0 := 0) rfl rfl hl.1 (Nat.le_of_ble_eq_true rfl) dX5_kinds_7 ⟨Nat.zero_le _, Nat.zero_le _⟩) ?_
  refine lv_istore_n (lv' := [(3, .int (lackV z s9 (0 ≤ pp ∧ pp < r 1))), (0, .ref (am 0)), (1, .int s9), (2, .int pp)]) S.1 S.2.1 dX5_kinds_10 rfl hl (by decide) rfl (fun ls hl => ?_)
  refine lv_iload_n S.1 S.2.1 dX5_kinds_11 rfl (lv_at hl 0 rfl) ?_
  refine lv_if_eq (tgt := 21) S.1 S.2.1 dX5_kinds_12 (by decide) (fun c_12 => ?_) (fun c_12 => ?_)
  · have hc12 := c_12
    obtain ⟨k_s9, hk_s9, ek_s9, hz_s9, hG9⟩ := lack_ok c_12
    obtain ⟨len, hlen, elen⟩ := hU k_s9 (by omega)
    obtain ⟨k_pp, hk_pp, ek_pp⟩ := pot_nat hG9 hn (by omega)
    refine lv_iload_n S.1 S.2.1 dX5_kinds_21 rfl (lv_at hl 3 rfl) ?_
    refine lv_eqi (y := nI k_pp) ek_pp ?_
    refine lv_iconst (v := 0) S.1 S.2.1 dX5_kinds_22 (by decide) ?_
    refine go_S (run_S (As := [.int (nI k_pp), .int 0]) (rest := []) (n := 2) S hK (bl_P hP [] rfl) (bl_D hD [] rfl rfl) (c_X5_potterAt l E k_pp 0 ) gS_X5_82 (by decide +kernel) rfl ⟨rfl, rfl⟩ ⟨Nat.le_of_ble_eq_true rfl, Nat.le_of_ble_eq_true rfl⟩ hl.1 (Nat.le_of_ble_eq_true rfl) dX5_kinds_23 ⟨Nat.zero_le _, Nat.zero_le _⟩) ?_
    refine lv_eqi (y := nI (21 + 7 * k_pp)) rfl ?_
    refine lv_istore (lv' := [(4, .int (nI (21 + 7 * k_pp))), (3, .int (lackV z s9 (0 ≤ pp ∧ pp < r 1))), (0, .ref (am 0)), (1, .int s9), (2, .int pp)]) S.1 S.2.1 dX5_kinds_26 hl (by decide) rfl (fun ls hl => ?_)
    refine lv_aload_n S.1 S.2.1 dX5_kinds_28 rfl (lv_at hl 2 rfl) ?_
    refine gf_X5_9 S hK hP 0 0 rfl rfl rfl dX5_kinds_29 ?_
    refine lv_iload S.1 S.2.1 dX5_kinds_32 (lv_at hl 0 rfl) ?_
    refine b_ialdN (i := 21 + 7 * k_pp) S hK hP 1 0 rfl rfl (by omega) (by decide) dX5_kinds_34 ?_
    refine lv_eqi (y := r (21 + 7 * k_pp)) (sg_at (by omega)) ?_
    refine lv_istore (lv' := [(5, .int (r (21 + 7 * k_pp))), (4, .int (nI (21 + 7 * k_pp))), (3, .int (lackV z s9 (0 ≤ pp ∧ pp < r 1))), (0, .ref (am 0)), (1, .int s9), (2, .int pp)]) S.1 S.2.1 dX5_kinds_35 hl (by decide) rfl (fun ls hl => ?_)
    refine lv_iconst (v := 0) S.1 S.2.1 dX5_kinds_37 (by decide) ?_
    refine lv_istore (lv' := [(6, .int 0), (5, .int (r (21 + 7 * k_pp))), (4, .int (nI (21 + 7 * k_pp))), (3, .int (lackV z s9 (0 ≤ pp ∧ pp < r 1))), (0, .ref (am 0)), (1, .int s9), (2, .int pp)]) S.1 S.2.1 dX5_kinds_38 hl (by decide) rfl (fun ls hl => ?_)
    refine lv_iconst (v := 0) S.1 S.2.1 dX5_kinds_40 (by decide) ?_
    refine lv_istore (lv' := [(7, .int 0), (6, .int 0), (5, .int (r (21 + 7 * k_pp))), (4, .int (nI (21 + 7 * k_pp))), (3, .int (lackV z s9 (0 ≤ pp ∧ pp < r 1))), (0, .ref (am 0)), (1, .int s9), (2, .int pp)]) S.1 S.2.1 dX5_kinds_41 hl (by decide) rfl (fun ls hl => ?_)
    have L_43 : ∀ (fu : Nat) (t : Nat) (xi : Row) (ai : Row) (b : Int32), (t ≤ 7) → (7 < t + fu) → (∀ j, j ≠ 21 + 7 * k_pp → xi j = r j) → (b = kdN (fun v => okN y (40 * k_s9) (upd r (21 + 7 * k_pp) (nI v)) k_pp (min len 10)) t) → ∀ (H : Heap) (locs : List Loc), PE E [[mObj am q], [(am 1, .inl (E.2.1, 77, .inl (sg xi 77)))], [(am 4, .inl (E.2.1, 8, .inl (sg f 8)))], [(am 3, .inl (E.2.1, 77, .inl (sg ai 77)))], [(am 8, .inl (E.2.1, 4, .inl (sg z 4)))], [(am 9, .inl (E.2.1, 4, .inl (sg u 4)))], [(am 10, .inl (E.2.1, 160, .inl (sg y 160)))]] H → DE (inB [[mObj am q], [(am 1, .inl (E.2.1, 77, .inl (sg r 77)))], [(am 4, .inl (E.2.1, 8, .inl (sg f 8)))], [(am 3, .inl (E.2.1, 77, .inl (sg x 77)))], [(am 8, .inl (E.2.1, 4, .inl (sg z 4)))], [(am 9, .inl (E.2.1, 4, .inl (sg u 4)))], [(am 10, .inl (E.2.1, 160, .inl (sg y 160)))]]) [[mObj am q], [(am 1, .inl (E.2.1, 77, .inl (sg xi 77)))], [(am 4, .inl (E.2.1, 8, .inl (sg f 8)))], [(am 3, .inl (E.2.1, 77, .inl (sg ai 77)))], [(am 8, .inl (E.2.1, 4, .inl (sg z 4)))], [(am 9, .inl (E.2.1, 4, .inl (sg u 4)))], [(am 10, .inl (E.2.1, 160, .inl (sg y 160)))]] → va_S (inB [[mObj am q], [(am 1, .inl (E.2.1, 77, .inl (sg r 77)))], [(am 4, .inl (E.2.1, 8, .inl (sg f 8)))], [(am 3, .inl (E.2.1, 77, .inl (sg x 77)))], [(am 8, .inl (E.2.1, 4, .inl (sg z 4)))], [(am 9, .inl (E.2.1, 4, .inl (sg u 4)))], [(am 10, .inl (E.2.1, 160, .inl (sg y 160)))]]) s.heap H locs → ∀ (ls : Array Slot), lv_has ls 8 [(0, .ref (am 0)), (1, .int s9), (2, .int pp), (4, .int (nI (21 + 7 * k_pp))), (5, .int (r (21 + 7 * k_pp))), (6, .int b), (7, .int (nI t))] → W p l e ({ frames := 8, cells := 0, slots := 0, locals := 174 }) s m ([.ref (am 0), .int s9, .int pp] : List Value).toArray below meth c H locs 0 0 (MQ below (qIx E [[mObj am q], [(am 1, .inl (E.2.1, 77, .inl (sg r 77)))], [(am 4, .inl (E.2.1, 8, .inl (sg f 8)))], [(am 3, .inl (E.2.1, 77, .inl (sg x 77)))], [(am 8, .inl (E.2.1, 4, .inl (sg z 4)))], [(am 9, .inl (E.2.1, 4, .inl (sg u 4)))], [(am 10, .inl (E.2.1, 160, .inl (sg y 160)))]] (fun u9 => [[mObj am q], [(am 1, .inl (E.2.1, 77, .inl (sg r 77)))], [(am 4, .inl (E.2.1, 8, .inl (sg (fndM f (rKinds r y z u s9 pp)) 8)))], [(am 3, .inl (E.2.1, 77, .inl (sg u9 77)))], [(am 8, .inl (E.2.1, 4, .inl (sg z 4)))], [(am 9, .inl (E.2.1, 4, .inl (sg u 4)))], [(am 10, .inl (E.2.1, 160, .inl (sg y 160)))]]) (ansR (rKinds r y z u s9 pp))) ([.ref (am 0), .int s9, .int pp] : List Value).toArray s 0 0 (inB [[mObj am q], [(am 1, .inl (E.2.1, 77, .inl (sg r 77)))], [(am 4, .inl (E.2.1, 8, .inl (sg f 8)))], [(am 3, .inl (E.2.1, 77, .inl (sg x 77)))], [(am 8, .inl (E.2.1, 4, .inl (sg z 4)))], [(am 9, .inl (E.2.1, 4, .inl (sg u 4)))], [(am 10, .inl (E.2.1, 160, .inl (sg y 160)))]])) (F0 m 43 ls []) := by
      intro fu
      induction fu with
      | zero =>
        intro t xi ai b ht hf hx hb
        omega
      | succ fu ih_43 =>
        intro t xi ai b ht hf hx hb H locs hP hD hS ls hl
        refine lv_iload S.1 S.2.1 dX5_kinds_43 (lv_at hl 6 rfl) ?_
        refine lv_bipush (v := 6) S.1 S.2.1 dX5_kinds_45 (by decide) ?_
        refine lv_icmp_gt (tgt := 87) S.1 S.2.1 dX5_kinds_47 (by decide) (fun c_47 => ?_) (fun c_47 => ?_)
        · have n_47 := Int32.not_le.mpr c_47
          have ht7 : t = 7 := by (have z9 : 6 < t := lt_of_nI (a := 6) c_47 (by omega) (by omega); omega)
          refine lv_aload_n S.1 S.2.1 dX5_kinds_87 rfl (lv_at hl 0 rfl) ?_
          refine gf_X5_9 S hK hP 0 0 rfl rfl rfl dX5_kinds_88 ?_
          refine lv_iload S.1 S.2.1 dX5_kinds_91 (lv_at hl 3 rfl) ?_
          refine lv_iload S.1 S.2.1 dX5_kinds_93 (lv_at hl 4 rfl) ?_
          refine b_iastN (i := 21 + 7 * k_pp) S hK hP hD hS 1 0 rfl rfl (by omega) (by decide) (sgs_upd (by omega)) (Bs1 := [[mObj am q], [(am 1, .inl (E.2.1, 77, .inl (sg (upd xi (21 + 7 * k_pp) (r (21 + 7 * k_pp))) 77)))], [(am 4, .inl (E.2.1, 8, .inl (sg f 8)))], [(am 3, .inl (E.2.1, 77, .inl (sg ai 77)))], [(am 8, .inl (E.2.1, 4, .inl (sg z 4)))], [(am 9, .inl (E.2.1, 4, .inl (sg u 4)))], [(am 10, .inl (E.2.1, 160, .inl (sg y 160)))]]) rfl dX5_kinds_95 (fun H locs hP hD hS => ?_)
          obtain ⟨r_95, er_95⟩ : ∃ zz9, zz9 = upd xi (21 + 7 * k_pp) (r (21 + 7 * k_pp)) := ⟨_, rfl⟩
          rw [← er_95] at hP hD
          refine lv_iload S.1 S.2.1 dX5_kinds_96 (lv_at hl 5 rfl) ?_
          exact retIx S hr hlk ai (by have e9 : rKinds r y z u s9 pp = .inr (fun _ => 0, b) := (by unfold rKinds; rw [if_pos hc12, ek_s9, ek_pp, tN_nI (k := k_s9) (by omega), tN_nI (k := k_pp) (by omega), elen, tN_nI (k := len) (by omega), hb, ht7]); have e1 : r_95 = r := (by rw [er_95, upd_ext hx]; exact upd_self); rw [e1] at hP; rw [e9, fndM_inr]; exact hP) hS (by have e9 : rKinds r y z u s9 pp = .inr (fun _ => 0, b) := (by unfold rKinds; rw [if_pos hc12, ek_s9, ek_pp, tN_nI (k := k_s9) (by omega), tN_nI (k := k_pp) (by omega), elen, tN_nI (k := len) (by omega), hb, ht7]); rw [e9, ansR_inr]) dX5_kinds_98
        · have n_47 := Int32.not_lt.mp c_47
          have ht6 : t ≤ 6 := Nat.le_of_not_lt (fun z9 => c_47 (show nI 6 < nI t from nI_lt z9 (by omega)))
          refine lv_aload_n S.1 S.2.1 dX5_kinds_50 rfl (lv_at hl 0 rfl) ?_
          refine gf_X5_9 S hK hP 0 0 rfl rfl rfl dX5_kinds_51 ?_
          refine lv_iload S.1 S.2.1 dX5_kinds_54 (lv_at hl 3 rfl) ?_
          refine lv_iload S.1 S.2.1 dX5_kinds_56 (lv_at hl 6 rfl) ?_
          refine b_iastN (i := 21 + 7 * k_pp) S hK hP hD hS 1 0 rfl rfl (by omega) (by decide) (sgs_upd (by omega)) (Bs1 := [[mObj am q], [(am 1, .inl (E.2.1, 77, .inl (sg (upd xi (21 + 7 * k_pp) (nI t)) 77)))], [(am 4, .inl (E.2.1, 8, .inl (sg f 8)))], [(am 3, .inl (E.2.1, 77, .inl (sg ai 77)))], [(am 8, .inl (E.2.1, 4, .inl (sg z 4)))], [(am 9, .inl (E.2.1, 4, .inl (sg u 4)))], [(am 10, .inl (E.2.1, 160, .inl (sg y 160)))]]) rfl dX5_kinds_58 (fun H locs hP hD hS => ?_)
          obtain ⟨r_58, er_58⟩ : ∃ zz9, zz9 = upd xi (21 + 7 * k_pp) (nI t) := ⟨_, rfl⟩
          rw [← er_58] at hP hD
          have e58 : r_58 = upd r (21 + 7 * k_pp) (nI t) := by (rw [er_58]; exact upd_ext hx)
          have hR58 : RI r_58 := by (rw [e58]; exact RI_pf (f := 0) hR (by decide) ⟨t, ht6, rfl⟩)
          refine lv_iload S.1 S.2.1 dX5_kinds_59 (lv_at hl 5 rfl) ?_
          refine lv_aload_n S.1 S.2.1 dX5_kinds_61 rfl (lv_at hl 0 rfl) ?_
          refine lv_iload_n S.1 S.2.1 dX5_kinds_62 rfl (lv_at hl 1 rfl) ?_
          refine lv_eqi (y := nI k_s9) ek_s9 ?_
          refine lv_iload_n S.1 S.2.1 dX5_kinds_63 rfl (lv_at hl 2 rfl) ?_
          refine lv_eqi (y := nI k_pp) ek_pp ?_
          refine go_I (run_V (As := [.int (nI k_s9), .int (nI k_pp)]) (rest := [.int b]) (n := 2) S hK (bl_P hP [0, 1, 3, 5, 6] rfl) (bl_D hD [0, 1, 3, 5, 6] rfl rfl) (c_X5_isColouredSo l E am q r_58 ai u y k_s9 k_pp len hR58 (by omega) (by omega) elen hlen) gV_X5_207 (by decide +kernel) rfl ⟨rfl, rfl⟩ ⟨Nat.le_of_ble_eq_true rfl, Nat.le_of_ble_eq_true rfl⟩ (ci := 5) (q0 := 0) rfl rfl hl.1 (Nat.le_of_ble_eq_true rfl) dX5_kinds_64 ⟨Nat.zero_le _, Nat.zero_le _⟩) hP hD hS [0, 1, 3, 5, 6] rfl (had_cons rfl (had_cons rfl (had_cons cell_ad (had_cons rfl (had_cons rfl rfl))))) (Bs' := [[mObj am q], [(am 1, .inl (E.2.1, 77, .inl (sg r_58 77)))], [(am 4, .inl (E.2.1, 8, .inl (sg f 8)))], [(am 3, .inl (E.2.1, 77, .inl (sg r_58 77)))], [(am 8, .inl (E.2.1, 4, .inl (sg z 4)))], [(am 9, .inl (E.2.1, 4, .inl (sg u 4)))], [(am 10, .inl (E.2.1, 160, .inl (sg y 160)))]]) rfl (fun H locs hP hD hS => ?_)
          refine b_ifeq (tgt := 77) S.1 S.2.1 dX5_kinds_67 (by decide) (fun c_67 => ?_) (fun c_67 => ?_)
          · refine lv_iconst (v := 0) S.1 S.2.1 dX5_kinds_77 (by decide) ?_
            refine lv_ior S.1 S.2.1 dX5_kinds_78 ?_
            refine lv_istore (lv' := [(6, .int (b ||| 0)), (0, .ref (am 0)), (1, .int s9), (2, .int pp), (4, .int (nI (21 + 7 * k_pp))), (5, .int (r (21 + 7 * k_pp))), (7, .int (nI t))]) S.1 S.2.1 dX5_kinds_79 hl (by decide) rfl (fun ls hl => ?_)
            refine lv_iinc (v := nI (t + 1)) (lv' := [(7, .int (nI (t + 1))), (6, .int (b ||| 0)), (0, .ref (am 0)), (1, .int s9), (2, .int pp), (4, .int (nI (21 + 7 * k_pp))), (5, .int (r (21 + 7 * k_pp)))]) S.1 S.2.1 dX5_kinds_81 hl (k := 6) rfl (nI_1 t) (by decide) rfl (fun ls hl => ?_)
            refine lv_goto (tgt := 43) S.1 S.2.1 dX5_kinds_84 (by decide) ?_
            exact ih_43 (t + 1) r_58 r_58 (b ||| 0) (by omega) (by omega) (fun j hj => by rw [e58]; exact upd_ne hj) (kdN_n hb (by rw [← e58]; exact c_67)) H locs hP hD hS ls (lv_sub hl [2, 3, 4, 5, 6, 1, 0] rfl)
          · refine lv_iconst (v := 1) S.1 S.2.1 dX5_kinds_70 (by decide) ?_
            refine lv_iload S.1 S.2.1 dX5_kinds_71 (lv_at hl 6 rfl) ?_
            refine lv_ishl S.1 S.2.1 dX5_kinds_73 ?_
            refine lv_goto (tgt := 78) S.1 S.2.1 dX5_kinds_74 (by decide) ?_
            refine lv_ior S.1 S.2.1 dX5_kinds_78 ?_
            refine lv_istore (lv' := [(6, .int (b ||| (1 <<< ((nI t) &&& 31)))), (0, .ref (am 0)), (1, .int s9), (2, .int pp), (4, .int (nI (21 + 7 * k_pp))), (5, .int (r (21 + 7 * k_pp))), (7, .int (nI t))]) S.1 S.2.1 dX5_kinds_79 hl (by decide) rfl (fun ls hl => ?_)
            refine lv_iinc (v := nI (t + 1)) (lv' := [(7, .int (nI (t + 1))), (6, .int (b ||| (1 <<< ((nI t) &&& 31)))), (0, .ref (am 0)), (1, .int s9), (2, .int pp), (4, .int (nI (21 + 7 * k_pp))), (5, .int (r (21 + 7 * k_pp)))]) S.1 S.2.1 dX5_kinds_81 hl (k := 6) rfl (nI_1 t) (by decide) rfl (fun ls hl => ?_)
            refine lv_goto (tgt := 43) S.1 S.2.1 dX5_kinds_84 (by decide) ?_
            exact ih_43 (t + 1) r_58 r_58 (b ||| (1 <<< ((nI t) &&& 31))) (by omega) (by omega) (fun j hj => by rw [e58]; exact upd_ne hj) (kdN_s hb (by rw [← e58]; exact c_67)) H locs hP hD hS ls (lv_sub hl [2, 3, 4, 5, 6, 1, 0] rfl)
    exact L_43 8 0 r x 0 (by omega) (by omega) (fun _ _ => rfl) rfl H locs hP hD hS ls (lv_sub hl [5, 6, 7, 3, 2, 1, 0] rfl)
  · refine lv_aload_n S.1 S.2.1 dX5_kinds_15 rfl (lv_at hl 1 rfl) ?_
    refine lv_iload_n S.1 S.2.1 dX5_kinds_16 rfl (lv_at hl 0 rfl) ?_
    refine go_I (run_V (As := [.int (lackV z s9 (0 ≤ pp ∧ pp < r 1))]) (rest := []) (n := 1) S hK (bl_P hP [0, 2] rfl) (bl_D hD [0, 2] rfl rfl) (c_X5_finding l E am q f (lackV z s9 (0 ≤ pp ∧ pp < r 1)) (lackK z s9 (0 ≤ pp ∧ pp < r 1)) (lack_hv c_12) lackK_lt) gV_X5_66 (by decide +kernel) rfl ⟨rfl, rfl⟩ ⟨Nat.le_of_ble_eq_true rfl, Nat.le_of_ble_eq_true rfl⟩ (ci := 5) (q0 := 0) rfl rfl hl.1 (Nat.le_of_ble_eq_true rfl) dX5_kinds_17 ⟨Nat.zero_le _, Nat.zero_le _⟩) hP hD hS [0, 2] rfl (had_cons rfl (had_cons cell_ad rfl)) (Bs' := [[mObj am q], [(am 1, .inl (E.2.1, 77, .inl (sg r 77)))], [(am 4, .inl (E.2.1, 8, .inl (sg (findM f (lackK z s9 (0 ≤ pp ∧ pp < r 1))) 8)))], [(am 3, .inl (E.2.1, 77, .inl (sg x 77)))], [(am 8, .inl (E.2.1, 4, .inl (sg z 4)))], [(am 9, .inl (E.2.1, 4, .inl (sg u 4)))], [(am 10, .inl (E.2.1, 160, .inl (sg y 160)))]]) rfl (fun H locs hP hD hS => ?_)
    obtain ⟨r_17, er_17⟩ : ∃ zz9 : Row, zz9 = findM f (lackK z s9 (0 ≤ pp ∧ pp < r 1)) := ⟨_, rfl⟩
    rw [← er_17] at hP hD
    exact retIx S hr hlk x (by have e9 : rKinds r y z u s9 pp = .inl (lackK z s9 (0 ≤ pp ∧ pp < r 1)) := if_neg c_12; rw [er_17] at hP; rw [e9, fndM_inl]; exact hP) hS (by have e9 : rKinds r y z u s9 pp = .inl (lackK z s9 (0 ≤ pp ∧ pp < r 1)) := if_neg c_12; rw [e9]; exact lack_ans c_12) dX5_kinds_20
set_option maxHeartbeats 800000 in
set_option maxRecDepth 100000 in
theorem c_X5_bits (l : Launch) (E : EV) (k9 : Nat) (hk : k9 < 256) : Met l yX5_bits (wq yX5_bits cX5_bits 3 (some .int)) ({ frames := 0, cells := 0, slots := 0, locals := 0 }) (preB E [.int (nI k9)] []) (qS (nI (bitsN 256 k9))) 0 0 (fun _ => False) := by
  refine M_mk RX5 (by decide) rfl (Nat.le_of_ble_eq_true rfl) ?_
  intro p e s m below meth c S hr hlk hK hP hD hS ls hl
  have hl : lv_has ls 3 [(0, .int (nI k9))] := hl
  refine lv_iconst (v := 0) S.1 S.2.1 dX5_bits_0 (by decide) ?_
  refine lv_istore_n (lv' := [(1, .int 0), (0, .int (nI k9))]) S.1 S.2.1 dX5_bits_1 rfl hl (by decide) rfl (fun ls hl => ?_)
  refine lv_iload_n S.1 S.2.1 dX5_bits_2 rfl (lv_at hl 1 rfl) ?_
  refine lv_istore_n (lv' := [(2, .int (nI k9)), (1, .int 0), (0, .int (nI k9))]) S.1 S.2.1 dX5_bits_3 rfl hl (by decide) rfl (fun ls hl => ?_)
  have L_4 : ∀ (fu : Nat) (a : Nat) (x : Nat), (x < fu) → (x ≤ k9) → (a + bitsN 256 x = bitsN 256 k9) → ∀ (ls : Array Slot), lv_has ls 3 [(0, .int (nI k9)), (1, .int (nI a)), (2, .int (nI x))] → W p l e ({ frames := 0, cells := 0, slots := 0, locals := 0 }) s m ([.int (nI k9)] : List Value).toArray below meth c s.heap [] 0 0 (MQ below (qS (nI (bitsN 256 k9))) ([.int (nI k9)] : List Value).toArray s 0 0 (fun _ => False)) (F0 m 4 ls []) := by
    intro fu
    induction fu with
    | zero =>
      intro a x hm hx ha
      omega
    | succ fu ih_4 =>
      intro a x hm hx ha ls hl
      refine lv_iload_n S.1 S.2.1 dX5_bits_4 rfl (lv_at hl 2 rfl) ?_
      refine lv_if_eq (tgt := 20) S.1 S.2.1 dX5_bits_5 (by decide) (fun c_5 => ?_) (fun c_5 => ?_)
      · refine lv_iload_n S.1 S.2.1 dX5_bits_20 rfl (lv_at hl 1 rfl) ?_
        exact retS S hr hlk (by rw [← ha, show x = 0 from (nI_eq (b := 0) (by omega) (by decide)).mp c_5]; rfl) dX5_bits_21
      · have hx0 : 0 < x := Nat.pos_of_ne_zero (fun z9 => c_5 (by rw [z9]; rfl))
        refine lv_iinc (v := nI (a + 1)) (lv' := [(1, .int (nI (a + 1))), (0, .int (nI k9)), (2, .int (nI x))]) S.1 S.2.1 dX5_bits_8 hl (k := 1) rfl (nI_1 a) (by decide) rfl (fun ls hl => ?_)
        refine lv_iload_n S.1 S.2.1 dX5_bits_11 rfl (lv_at hl 2 rfl) ?_
        refine lv_iload_n S.1 S.2.1 dX5_bits_12 rfl (lv_at hl 2 rfl) ?_
        refine lv_iconst (v := 1) S.1 S.2.1 dX5_bits_13 (by decide) ?_
        refine lv_isub S.1 S.2.1 dX5_bits_14 ?_
        refine lv_iand S.1 S.2.1 dX5_bits_15 ?_
        refine lv_eqi (y := nI (x &&& (x - 1))) (bits_and hx0) ?_
        refine lv_istore_n (lv' := [(2, .int (nI (x &&& (x - 1)))), (1, .int (nI (a + 1))), (0, .int (nI k9))]) S.1 S.2.1 dX5_bits_16 rfl hl (by decide) rfl (fun ls hl => ?_)
        refine lv_goto (tgt := 4) S.1 S.2.1 dX5_bits_17 (by decide) ?_
        exact ih_4 (a + 1) (x &&& (x - 1)) (Nat.lt_of_lt_of_le (bits_lt hx0) (by omega)) (Nat.le_trans (Nat.le_of_lt (bits_lt hx0)) hx) (by rw [← ha]; exact bits_s hx0 (by omega))  ls (lv_sub hl [2, 1, 0] rfl)
  exact L_4 256 0 k9 (by omega) (Nat.le_refl _) (Nat.zero_add _)  ls (lv_sub hl [2, 1, 0] rfl)
