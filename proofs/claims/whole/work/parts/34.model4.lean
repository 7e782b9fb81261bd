theorem bI_congr {P Q : Prop} [Decidable P] [Decidable Q] (h : P ↔ Q) : bI P = bI Q := by
  unfold bI
  by_cases p : P
  · rw [if_pos p, if_pos (h.mp p)]
  · rw [if_neg p, if_neg (fun q => p (h.mpr q))]
theorem isP_iff {v : Int32} {n : Nat} (hn : n ≤ 8) : (0 ≤ v ∧ v ≤ nI n - 1) ↔ (0 ≤ v ∧ v < nI n) := by
  have e : (nI n - 1).toInt = (n : Int) - 1 := pk_sub_toInt (b := 1) (by omega) (by omega)
  have e2 : (nI n).toInt = (n : Int) := nI_toInt (by omega)
  refine and_congr_right (fun _ => ?_)
  rw [Int32.le_iff_toInt_le, Int32.lt_iff_toInt_lt, e, e2]
  omega
/-- the first number below N for which c, else N -/
def fstN (c : Nat → Bool) : Nat → Nat
  | 0 => 0
  | n + 1 => if fstN c n < n then fstN c n else if c n then n else n + 1
theorem fst_no {c : Nat → Bool} : ∀ {n : Nat}, (∀ j, j < n → c j = false) → fstN c n = n
  | 0, _ => rfl
  | n + 1, h => by
    rw [fstN, fst_no (fun j hj => h j (by omega)), if_neg (by omega), if_neg (by rw [h n (by omega)]; decide)]
theorem fst_yes {c : Nat → Bool} {i : Nat} (hno : ∀ j, j < i → c j = false) (hi : c i = true) : ∀ {n : Nat}, i < n → fstN c n = i
  | 0, h => absurd h (by omega)
  | n + 1, h => by
    rw [fstN]
    rcases Nat.lt_or_ge i n with q | q
    · rw [fst_yes hno hi q, if_pos q]
    · have e : i = n := by omega
      subst e
      rw [fst_no hno, if_neg (by omega), if_pos hi]
def dtV (c : Nat → Bool) : Int32 := if fstN c 201 < 201 then nI (fstN c 201) else -1
theorem dt_yes {r : Row} {v : Int32} {p9 i : Nat} (hi : i < 201) (hno : ∀ j, j < i → ¬ v ≤ daysF r j p9) (h : v ≤ daysF r i p9) : dtV (fun k => decide (v ≤ daysF r k p9)) = nI i := by
  unfold dtV
  rw [fst_yes (i := i) (fun j hj => decide_eq_false (hno j hj)) (decide_eq_true h) hi, if_pos hi]
theorem dt_no {r : Row} {v : Int32} {p9 : Nat} (hno : ∀ j, j < 201 → ¬ v ≤ daysF r j p9) : dtV (fun k => decide (v ≤ daysF r k p9)) = -1 := by
  unfold dtV
  rw [fst_no (fun j hj => decide_eq_false (hno j hj)), if_neg (by omega)]
def bestN (g : Nat → Int32) : Nat → Int32 × Int32
  | 0 => (0, -1)
  | i + 1 => if g i ≤ (bestN g i).2 then bestN g i else (nI i, g i)
theorem best_t {g : Nat → Int32} {i : Nat} {b mo : Int32} (hb : b = (bestN g i).1) (hm : mo = (bestN g i).2) (c : g i ≤ mo) : b = (bestN g (i + 1)).1 ∧ mo = (bestN g (i + 1)).2 := by
  rw [bestN, ← hm, if_pos c]
  exact ⟨hb, hm⟩
theorem best_f {g : Nat → Int32} {i : Nat} {mo : Int32} (hm : mo = (bestN g i).2) (c : ¬ g i ≤ mo) : nI i = (bestN g (i + 1)).1 ∧ g i = (bestN g (i + 1)).2 := by
  rw [bestN, ← hm, if_neg c]
  exact ⟨rfl, rfl⟩
theorem upd_ext {x r : Row} {p9 : Nat} {v : Int32} (h : ∀ j, j ≠ p9 → x j = r j) : upd x p9 v = upd r p9 v := funext fun j => by
  unfold upd
  by_cases q : j = p9
  · rw [if_pos q, if_pos q]
  · rw [if_neg q, if_neg q, h j q]
theorem upd_self {r : Row} {p9 : Nat} : upd r p9 (r p9) = r := funext fun j => by
  unfold upd
  by_cases q : j = p9
  · rw [if_pos q, q]
  · rw [if_neg q]
abbrev noC (r : Row) (w : Int32) : Prop := colR r (cntN r) >>> (w &&& 31) &&& 1 = 0
theorem keepR_RI {r : Row} (h : RI r) (v : Int32) : ∀ i, RI (keepR r v i)
  | 0 => h
  | i + 1 => by
    unfold keepR
    split
    · exact RI_pf (f := 2) (keepR_RI h v i) (by decide) ⟨0, by decide, rfl⟩
    · exact keepR_RI h v i
theorem keepR_1 {r : Row} (v : Int32) : ∀ i, keepR r v i 1 = r 1
  | 0 => rfl
  | i + 1 => by
    unfold keepR
    split
    · rw [upd_ne (by omega), keepR_1 v i]
    · exact keepR_1 v i
def lackV (z : Row) (v : Int32) (G : Prop) [Decidable G] : Int32 := if 0 ≤ v ∧ v ≤ 3 then (if z v.toNatClampNeg = 0 then -1000006 else if G then 0 else -1000001) else -1000001
set_option maxHeartbeats 4000000 in
set_option maxRecDepth 100000 in
theorem c_X5_isPotter (l : Launch) (E : EV) (am : Nat → Nat) (q r : Row) (v : Int32) (n : Nat) (hn : r 1 = nI n) (hn8 : n ≤ 8) : Met l yX5_isPotter (wq yX5_isPotter cX5_isPotter 2 (some .boolean)) ({ frames := 1, cells := 0, slots := 0, locals := 22 }) (preB E [.ref (am 0), .int v] [[mObj am q], [(am 1, .inl (E.2.1, 77, .inl (sg r 77)))]]) (qS (bI (0 ≤ v ∧ v < r 1))) 0 0 (fun _ => False) := by
  refine M_mk RX5 (by decide) rfl (Nat.le_of_ble_eq_true rfl) ?_
  intro p e s m below meth c S hr hlk hK hP hD hS ls hl
  have hl : lv_has ls 2 [(0, .ref (am 0)), (1, .int v)] := hl
  refine lv_iload_n S.1 S.2.1 dX5_isPotter_0 rfl (lv_at hl 1 rfl) ?_
  refine lv_iconst (v := 0) S.1 S.2.1 dX5_isPotter_1 (by decide) ?_
  refine lv_aload_n S.1 S.2.1 dX5_isPotter_2 rfl (lv_at hl 0 rfl) ?_
  refine gf_X5_9 S hK hP 0 0 rfl rfl rfl dX5_isPotter_3 ?_
  refine lv_iconst (v := 1) S.1 S.2.1 dX5_isPotter_6 (by decide) ?_
  refine b_ialdN (i := 1) S hK hP 1 0 rfl rfl (by omega) (by decide) dX5_isPotter_7 ?_
  refine lv_eqi (y := nI n) ((sg_at (by omega)).trans hn) ?_
  refine lv_iconst (v := 1) S.1 S.2.1 dX5_isPotter_8 (by decide) ?_
  refine lv_isub S.1 S.2.1 dX5_isPotter_9 ?_
  refine go_S (run_S (As := [.int v, .int 0, .int ((nI n) - 1)]) (rest := []) (n := 3) S hK (bl_P hP [] rfl) (bl_D hD [] rfl rfl) (c_X5_within l E v 0 ((nI n) - 1) ) gS_X5_70 (by decide +kernel) rfl ⟨rfl, rfl⟩ ⟨Nat.le_of_ble_eq_true rfl, Nat.le_of_ble_eq_true rfl⟩ hl.1 (Nat.le_of_ble_eq_true rfl) dX5_isPotter_10 ⟨Nat.zero_le _, Nat.zero_le _⟩) ?_
  exact retSZ S hr hlk bI_nar (by rw [hn]; exact bI_congr (isP_iff hn8)) dX5_isPotter_13
set_option maxHeartbeats 4000000 in
set_option maxRecDepth 100000 in
theorem c_X5_daysTo (l : Launch) (E : EV) (am : Nat → Nat) (q r x : Row) (p9 : Nat) (v : Int32) (hp : p9 < 77) (hR : RI r) : Met l yX5_daysTo (wq yX5_daysTo cX5_daysTo 4 (some .int)) ({ frames := 6, cells := 0, slots := 0, locals := 127 }) (preB E [.ref (am 0), .int (nI p9), .int v] [[mObj am q], [(am 1, .inl (E.2.1, 77, .inl (sg r 77)))], [(am 3, .inl (E.2.1, 77, .inl (sg x 77)))]]) (qI E [[mObj am q], [(am 1, .inl (E.2.1, 77, .inl (sg r 77)))], [(am 3, .inl (E.2.1, 77, .inl (sg x 77)))]] [[mObj am q], [(am 1, .inl (E.2.1, 77, .inl (sg r 77)))], [(am 3, .inl (E.2.1, 77, .inl (sg r 77)))]] (dtV (fun k => decide (v ≤ daysF r k p9)))) 0 0 (inB [[mObj am q], [(am 1, .inl (E.2.1, 77, .inl (sg r 77)))], [(am 3, .inl (E.2.1, 77, .inl (sg x 77)))]]) := by
  refine M_mk RX5 (by decide) rfl (Nat.le_of_ble_eq_true rfl) ?_
  intro p e s m below meth c S hr hlk hK hP hD hS ls hl
  have hl : lv_has ls 4 [(0, .ref (am 0)), (1, .int (nI p9)), (2, .int v)] := hl
  obtain ⟨H, hH⟩ : ∃ z, z = s.heap := ⟨_, rfl⟩
  obtain ⟨locs, hlocs⟩ : ∃ z : List Loc, z = [] := ⟨_, rfl⟩
  have hP : PE E [[mObj am q], [(am 1, .inl (E.2.1, 77, .inl (sg r 77)))], [(am 3, .inl (E.2.1, 77, .inl (sg x 77)))]] H := by rw [hH]; exact hP
  have hS : va_S (inB [[mObj am q], [(am 1, .inl (E.2.1, 77, .inl (sg r 77)))], [(am 3, .inl (E.2.1, 77, .inl (sg x 77)))]]) s.heap H locs := by rw [hH, hlocs]; exact hS
  show W p l e ({ frames := 6, cells := 0, slots := 0, locals := 127 }) s m ([.ref (am 0), .int (nI p9), .int v] : List Value).toArray below meth c s.heap [] 0 0 _ _
  suffices hgo : W p l e ({ frames := 6, cells := 0, slots := 0, locals := 127 }) s m ([.ref (am 0), .int (nI p9), .int v] : List Value).toArray below meth c H locs 0 0 (MQ below (qI E [[mObj am q], [(am 1, .inl (E.2.1, 77, .inl (sg r 77)))], [(am 3, .inl (E.2.1, 77, .inl (sg x 77)))]] [[mObj am q], [(am 1, .inl (E.2.1, 77, .inl (sg r 77)))], [(am 3, .inl (E.2.1, 77, .inl (sg r 77)))]] (dtV (fun k => decide (v ≤ daysF r k p9)))) ([.ref (am 0), .int (nI p9), .int v] : List Value).toArray s 0 0 (inB [[mObj am q], [(am 1, .inl (E.2.1, 77, .inl (sg r 77)))], [(am 3, .inl (E.2.1, 77, .inl (sg x 77)))]])) (F0 m 0 ls []) by rw [hH, hlocs] at hgo; exact hgo
  clear hH hlocs
  refine lv_aload_n S.1 S.2.1 dX5_daysTo_0 rfl (lv_at hl 0 rfl) ?_
  refine gf_X5_9 S hK hP 0 0 rfl rfl rfl dX5_daysTo_1 ?_
  refine lv_aload_n S.1 S.2.1 dX5_daysTo_4 rfl (lv_at hl 0 rfl) ?_
  refine gf_X5_16 S hK hP 0 0 rfl rfl rfl dX5_daysTo_5 ?_
  refine go_V (run_S (As := [.ref (am 1), .ref (am 3)]) (rest := []) (n := 2) S hK (bl_P hP [1, 2] rfl) (bl_D hD [1, 2] rfl rfl) (c_X5_copyRow l E (am 1) (am 3) r x ) gS_X5_61 (by decide +kernel) rfl ⟨rfl, rfl⟩ ⟨Nat.le_of_ble_eq_true rfl, Nat.le_of_ble_eq_true rfl⟩ hl.1 (Nat.le_of_ble_eq_true rfl) dX5_daysTo_8 ⟨Nat.zero_le _, Nat.zero_le _⟩) hP hD hS [1, 2] rfl (had_cons rfl (had_cons cell_ad rfl)) (Bs' := [[mObj am q], [(am 1, .inl (E.2.1, 77, .inl (sg r 77)))], [(am 3, .inl (E.2.1, 77, .inl (sg r 77)))]]) rfl (fun H locs hP hD hS => ?_)
  refine lv_iconst (v := 0) S.1 S.2.1 dX5_daysTo_11 (by decide) ?_
  refine lv_istore_n (lv' := [(3, .int 0), (0, .ref (am 0)), (1, .int (nI p9)), (2, .int v)]) S.1 S.2.1 dX5_daysTo_12 rfl hl (by decide) rfl (fun ls hl => ?_)
  have L_13 : ∀ (fu : Nat) (i : Nat) (ri : Row), (i ≤ 200) → (200 < i + fu) → (ri = daysF r i) → (RI ri) → (∀ j, j < i → ¬ v ≤ daysF r j p9) → ∀ (H : Heap) (locs : List Loc), PE E [[mObj am q], [(am 1, .inl (E.2.1, 77, .inl (sg ri 77)))], [(am 3, .inl (E.2.1, 77, .inl (sg r 77)))]] H → DE (inB [[mObj am q], [(am 1, .inl (E.2.1, 77, .inl (sg r 77)))], [(am 3, .inl (E.2.1, 77, .inl (sg x 77)))]]) [[mObj am q], [(am 1, .inl (E.2.1, 77, .inl (sg ri 77)))], [(am 3, .inl (E.2.1, 77, .inl (sg r 77)))]] → va_S (inB [[mObj am q], [(am 1, .inl (E.2.1, 77, .inl (sg r 77)))], [(am 3, .inl (E.2.1, 77, .inl (sg x 77)))]]) s.heap H locs → ∀ (ls : Array Slot), lv_has ls 4 [(0, .ref (am 0)), (1, .int (nI p9)), (2, .int v), (3, .int (nI i))] → W p l e ({ frames := 6, cells := 0, slots := 0, locals := 127 }) s m ([.ref (am 0), .int (nI p9), .int v] : List Value).toArray below meth c H locs 0 0 (MQ below (qI E [[mObj am q], [(am 1, .inl (E.2.1, 77, .inl (sg r 77)))], [(am 3, .inl (E.2.1, 77, .inl (sg x 77)))]] [[mObj am q], [(am 1, .inl (E.2.1, 77, .inl (sg r 77)))], [(am 3, .inl (E.2.1, 77, .inl (sg r 77)))]] (dtV (fun k => decide (v ≤ daysF r k p9)))) ([.ref (am 0), .int (nI p9), .int v] : List Value).toArray s 0 0 (inB [[mObj am q], [(am 1, .inl (E.2.1, 77, .inl (sg r 77)))], [(am 3, .inl (E.2.1, 77, .inl (sg x 77)))]])) (F0 m 13 ls []) := by
    intro fu
    induction fu with
    | zero =>
      intro i ri hi hf hri hR1 hno
      omega
    | succ fu ih_13 =>
      intro i ri hi hf hri hR1 hno H locs hP hD hS ls hl
      refine lv_iload_n S.1 S.2.1 dX5_daysTo_13 rfl (lv_at hl 3 rfl) ?_
      refine lv_sipush (v := 200) S.1 S.2.1 dX5_daysTo_14 (by decide) ?_
      refine lv_icmp_ge (tgt := 40) S.1 S.2.1 dX5_daysTo_17 (by decide) (fun c_17 => ?_) (fun c_17 => ?_)
      · have n_17 := Int32.not_lt.mpr c_17
        have hi9 : i = 200 := le_endK (n := 200) hi c_17 (by decide)
        refine lv_aload_n S.1 S.2.1 dX5_daysTo_40 rfl (lv_at hl 0 rfl) ?_
        refine lv_aload_n S.1 S.2.1 dX5_daysTo_41 rfl (lv_at hl 0 rfl) ?_
        refine gf_X5_9 S hK hP 0 0 rfl rfl rfl dX5_daysTo_42 ?_
        refine lv_iload_n S.1 S.2.1 dX5_daysTo_45 rfl (lv_at hl 1 rfl) ?_
        refine b_ialdN (i := p9) S hK hP 1 0 rfl rfl (by omega) (by decide) dX5_daysTo_46 ?_
        refine lv_eqi (y := ri p9) (sg_at (by omega)) ?_
        refine lv_iload_n S.1 S.2.1 dX5_daysTo_47 rfl (lv_at hl 2 rfl) ?_
        refine lv_icmp_ge (tgt := 55) S.1 S.2.1 dX5_daysTo_48 (by decide) (fun c_48 => ?_) (fun c_48 => ?_)
        · have n_48 := Int32.not_lt.mpr c_48
          refine lv_iload_n S.1 S.2.1 dX5_daysTo_55 rfl (lv_at hl 3 rfl) ?_
          refine go_I (run_V (As := [.int (nI i)]) (rest := []) (n := 1) S hK (bl_P hP [0, 1, 2] rfl) (bl_D hD [0, 1, 2] rfl rfl) (c_X5_putBack l E am q ri r (nI i) ) gV_X5_165 (by decide +kernel) rfl ⟨rfl, rfl⟩ ⟨Nat.le_of_ble_eq_true rfl, Nat.le_of_ble_eq_true rfl⟩ (ci := 5) (q0 := 0) rfl rfl hl.1 (Nat.le_of_ble_eq_true rfl) dX5_daysTo_56 ⟨Nat.zero_le _, Nat.zero_le _⟩) hP hD hS [0, 1, 2] rfl (had_cons rfl (had_cons cell_ad (had_cons rfl rfl))) (Bs' := [[mObj am q], [(am 1, .inl (E.2.1, 77, .inl (sg r 77)))], [(am 3, .inl (E.2.1, 77, .inl (sg r 77)))]]) rfl (fun H locs hP hD hS => ?_)
          exact retI S hr hlk hP hS (dt_yes (by omega) hno (by rw [← hri]; exact c_48)).symm dX5_daysTo_59
        · have n_48 := Int32.not_le.mp c_48
          refine lv_iconst (v := (-1)) S.1 S.2.1 dX5_daysTo_51 (by decide) ?_
          refine lv_goto (tgt := 56) S.1 S.2.1 dX5_daysTo_52 (by decide) ?_
          refine go_I (run_V (As := [.int (-1)]) (rest := []) (n := 1) S hK (bl_P hP [0, 1, 2] rfl) (bl_D hD [0, 1, 2] rfl rfl) (c_X5_putBack l E am q ri r (-1) ) gV_X5_165 (by decide +kernel) rfl ⟨rfl, rfl⟩ ⟨Nat.le_of_ble_eq_true rfl, Nat.le_of_ble_eq_true rfl⟩ (ci := 5) (q0 := 0) rfl rfl hl.1 (Nat.le_of_ble_eq_true rfl) dX5_daysTo_56 ⟨Nat.zero_le _, Nat.zero_le _⟩) hP hD hS [0, 1, 2] rfl (had_cons rfl (had_cons cell_ad (had_cons rfl rfl))) (Bs' := [[mObj am q], [(am 1, .inl (E.2.1, 77, .inl (sg r 77)))], [(am 3, .inl (E.2.1, 77, .inl (sg r 77)))]]) rfl (fun H locs hP hD hS => ?_)
          exact retI S hr hlk hP hS (dt_no (fun j hj => (Nat.lt_or_eq_of_le (Nat.le_of_lt_succ hj)).elim (fun q => hno j (by omega)) (fun q => by rw [q, ← hi9, ← hri]; exact c_48))).symm dX5_daysTo_59
      · have n_17 := Int32.not_le.mp c_17
        have hi2 : i < 200 := lt_in (n := 200) c_17 hi
        refine lv_aload_n S.1 S.2.1 dX5_daysTo_20 rfl (lv_at hl 0 rfl) ?_
        refine gf_X5_9 S hK hP 0 0 rfl rfl rfl dX5_daysTo_21 ?_
        refine lv_iload_n S.1 S.2.1 dX5_daysTo_24 rfl (lv_at hl 1 rfl) ?_
        refine b_ialdN (i := p9) S hK hP 1 0 rfl rfl (by omega) (by decide) dX5_daysTo_25 ?_
        refine lv_eqi (y := ri p9) (sg_at (by omega)) ?_
        refine lv_iload_n S.1 S.2.1 dX5_daysTo_26 rfl (lv_at hl 2 rfl) ?_
        refine lv_icmp_ge (tgt := 40) S.1 S.2.1 dX5_daysTo_27 (by decide) (fun c_27 => ?_) (fun c_27 => ?_)
        · have n_27 := Int32.not_lt.mpr c_27
          refine lv_aload_n S.1 S.2.1 dX5_daysTo_40 rfl (lv_at hl 0 rfl) ?_
          refine lv_aload_n S.1 S.2.1 dX5_daysTo_41 rfl (lv_at hl 0 rfl) ?_
          refine gf_X5_9 S hK hP 0 0 rfl rfl rfl dX5_daysTo_42 ?_
          refine lv_iload_n S.1 S.2.1 dX5_daysTo_45 rfl (lv_at hl 1 rfl) ?_
          refine b_ialdN (i := p9) S hK hP 1 0 rfl rfl (by omega) (by decide) dX5_daysTo_46 ?_
          refine lv_eqi (y := ri p9) (sg_at (by omega)) ?_
          refine lv_iload_n S.1 S.2.1 dX5_daysTo_47 rfl (lv_at hl 2 rfl) ?_
          refine lv_icmp_ge (tgt := 55) S.1 S.2.1 dX5_daysTo_48 (by decide) (fun c_48 => ?_) (fun c_48 => ?_)
          · have n_48 := Int32.not_lt.mpr c_48
            refine lv_iload_n S.1 S.2.1 dX5_daysTo_55 rfl (lv_at hl 3 rfl) ?_
            refine go_I (run_V (As := [.int (nI i)]) (rest := []) (n := 1) S hK (bl_P hP [0, 1, 2] rfl) (bl_D hD [0, 1, 2] rfl rfl) (c_X5_putBack l E am q ri r (nI i) ) gV_X5_165 (by decide +kernel) rfl ⟨rfl, rfl⟩ ⟨Nat.le_of_ble_eq_true rfl, Nat.le_of_ble_eq_true rfl⟩ (ci := 5) (q0 := 0) rfl rfl hl.1 (Nat.le_of_ble_eq_true rfl) dX5_daysTo_56 ⟨Nat.zero_le _, Nat.zero_le _⟩) hP hD hS [0, 1, 2] rfl (had_cons rfl (had_cons cell_ad (had_cons rfl rfl))) (Bs' := [[mObj am q], [(am 1, .inl (E.2.1, 77, .inl (sg r 77)))], [(am 3, .inl (E.2.1, 77, .inl (sg r 77)))]]) rfl (fun H locs hP hD hS => ?_)
            exact retI S hr hlk hP hS (dt_yes (by omega) hno (by rw [← hri]; exact c_27)).symm dX5_daysTo_59
          · have n_48 := Int32.not_le.mp c_48
            refine lv_iconst (v := (-1)) S.1 S.2.1 dX5_daysTo_51 (by decide) ?_
            refine lv_goto (tgt := 56) S.1 S.2.1 dX5_daysTo_52 (by decide) ?_
            refine go_I (run_V (As := [.int (-1)]) (rest := []) (n := 1) S hK (bl_P hP [0, 1, 2] rfl) (bl_D hD [0, 1, 2] rfl rfl) (c_X5_putBack l E am q ri r (-1) ) gV_X5_165 (by decide +kernel) rfl ⟨rfl, rfl⟩ ⟨Nat.le_of_ble_eq_true rfl, Nat.le_of_ble_eq_true rfl⟩ (ci := 5) (q0 := 0) rfl rfl hl.1 (Nat.le_of_ble_eq_true rfl) dX5_daysTo_56 ⟨Nat.zero_le _, Nat.zero_le _⟩) hP hD hS [0, 1, 2] rfl (had_cons rfl (had_cons cell_ad (had_cons rfl rfl))) (Bs' := [[mObj am q], [(am 1, .inl (E.2.1, 77, .inl (sg r 77)))], [(am 3, .inl (E.2.1, 77, .inl (sg r 77)))]]) rfl (fun H locs hP hD hS => ?_)
            exact retI S hr hlk hP hS (absurd c_27 c_48) dX5_daysTo_59
        · have n_27 := Int32.not_le.mp c_27
          refine lv_aload_n S.1 S.2.1 dX5_daysTo_30 rfl (lv_at hl 0 rfl) ?_
          refine go_V (run_V (As := []) (rest := []) (n := 0) S hK (bl_P hP [0, 1] rfl) (bl_D hD [0, 1] rfl rfl) (c_X5_day l E am q ri hR1) gV_X5_146 (by decide +kernel) rfl ⟨rfl, rfl⟩ ⟨Nat.le_of_ble_eq_true rfl, Nat.le_of_ble_eq_true rfl⟩ (ci := 5) (q0 := 0) rfl rfl hl.1 (Nat.le_of_ble_eq_true rfl) dX5_daysTo_31 ⟨Nat.zero_le _, Nat.zero_le _⟩) hP hD hS [0, 1] rfl (had_cons rfl (had_cons cell_ad rfl)) (Bs' := [[mObj am q], [(am 1, .inl (E.2.1, 77, .inl (sg (dayF ri) 77)))], [(am 3, .inl (E.2.1, 77, .inl (sg r 77)))]]) rfl (fun H locs hP hD hS => ?_)
          obtain ⟨r_31, er_31⟩ : ∃ z : Row, z = dayF ri := ⟨_, rfl⟩
          rw [← er_31] at hP hD
          have hr_31_RI : RI r_31 := by rw [er_31]; exact dayF_RI hR1
          refine lv_iinc (v := nI (i + 1)) (lv' := [(3, .int (nI (i + 1))), (0, .ref (am 0)), (1, .int (nI p9)), (2, .int v)]) S.1 S.2.1 dX5_daysTo_34 hl (k := 3) rfl (nI_1 i) (by decide) rfl (fun ls hl => ?_)
          refine lv_goto (tgt := 13) S.1 S.2.1 dX5_daysTo_37 (by decide) ?_
          exact ih_13 (i + 1) r_31 (by omega) (by omega) (by rw [er_31, hri]; rfl) hr_31_RI (lt_s hno (by rw [← hri]; exact c_27)) H locs hP hD hS ls (lv_sub hl [1, 2, 3, 0] rfl)
  exact L_13 (200 + 1) 0 r (by omega) (by omega) rfl hR (fun j hj => absurd hj (by omega)) H locs hP hD hS ls (lv_sub hl [1, 2, 3, 0] rfl)
set_option maxHeartbeats 4000000 in
set_option maxRecDepth 100000 in
theorem c_X5_bestFor (l : Launch) (E : EV) (am : Nat → Nat) (q r x : Row) (p9 V n : Nat) (hp : p9 < 77) (hV : 0 < V) (hV2 : V < 2147483648) (hn9 : n < 2147483648) (hRV : ∀ k, k < V → RI (upd r p9 (nI k))) : Met l yX5_bestFor (wq yX5_bestFor cX5_bestFor 9 (some .int)) ({ frames := 8, cells := 0, slots := 0, locals := 171 }) (preB E [.ref (am 0), .int (nI p9), .int (nI V), .int (nI n)] [[mObj am q], [(am 1, .inl (E.2.1, 77, .inl (sg r 77)))], [(am 3, .inl (E.2.1, 77, .inl (sg x 77)))]]) (qI E [[mObj am q], [(am 1, .inl (E.2.1, 77, .inl (sg r 77)))], [(am 3, .inl (E.2.1, 77, .inl (sg x 77)))]] [[mObj am q], [(am 1, .inl (E.2.1, 77, .inl (sg r 77)))], [(am 3, .inl (E.2.1, 77, .inl (sg (upd r p9 (nI (V - 1))) 77)))]] ((bestN (fun k => daysF (upd r p9 (nI k)) n 4) V).1)) 0 0 (inB [[mObj am q], [(am 1, .inl (E.2.1, 77, .inl (sg r 77)))], [(am 3, .inl (E.2.1, 77, .inl (sg x 77)))]]) := by
  refine M_mk RX5 (by decide) rfl (Nat.le_of_ble_eq_true rfl) ?_
  intro p e s m below meth c S hr hlk hK hP hD hS ls hl
  have hl : lv_has ls 9 [(0, .ref (am 0)), (1, .int (nI p9)), (2, .int (nI V)), (3, .int (nI n))] := hl
  obtain ⟨H, hH⟩ : ∃ z, z = s.heap := ⟨_, rfl⟩
  obtain ⟨locs, hlocs⟩ : ∃ z : List Loc, z = [] := ⟨_, rfl⟩
  have hP : PE E [[mObj am q], [(am 1, .inl (E.2.1, 77, .inl (sg r 77)))], [(am 3, .inl (E.2.1, 77, .inl (sg x 77)))]] H := by rw [hH]; exact hP
  have hS : va_S (inB [[mObj am q], [(am 1, .inl (E.2.1, 77, .inl (sg r 77)))], [(am 3, .inl (E.2.1, 77, .inl (sg x 77)))]]) s.heap H locs := by rw [hH, hlocs]; exact hS
  show W p l e ({ frames := 8, cells := 0, slots := 0, locals := 171 }) s m ([.ref (am 0), .int (nI p9), .int (nI V), .int (nI n)] : List Value).toArray below meth c s.heap [] 0 0 _ _
  suffices hgo : W p l e ({ frames := 8, cells := 0, slots := 0, locals := 171 }) s m ([.ref (am 0), .int (nI p9), .int (nI V), .int (nI n)] : List Value).toArray below meth c H locs 0 0 (MQ below (qI E [[mObj am q], [(am 1, .inl (E.2.1, 77, .inl (sg r 77)))], [(am 3, .inl (E.2.1, 77, .inl (sg x 77)))]] [[mObj am q], [(am 1, .inl (E.2.1, 77, .inl (sg r 77)))], [(am 3, .inl (E.2.1, 77, .inl (sg (upd r p9 (nI (V - 1))) 77)))]] ((bestN (fun k => daysF (upd r p9 (nI k)) n 4) V).1)) ([.ref (am 0), .int (nI p9), .int (nI V), .int (nI n)] : List Value).toArray s 0 0 (inB [[mObj am q], [(am 1, .inl (E.2.1, 77, .inl (sg r 77)))], [(am 3, .inl (E.2.1, 77, .inl (sg x 77)))]])) (F0 m 0 ls []) by rw [hH, hlocs] at hgo; exact hgo
  clear hH hlocs
  refine lv_aload_n S.1 S.2.1 dX5_bestFor_0 rfl (lv_at hl 0 rfl) ?_
  refine gf_X5_9 S hK hP 0 0 rfl rfl rfl dX5_bestFor_1 ?_
  refine lv_iload_n S.1 S.2.1 dX5_bestFor_4 rfl (lv_at hl 1 rfl) ?_
  refine b_ialdN (i := p9) S hK hP 1 0 rfl rfl (by omega) (by decide) dX5_bestFor_5 ?_
  refine lv_eqi (y := r p9) (sg_at (by omega)) ?_
  refine lv_istore (lv' := [(4, .int (r p9)), (0, .ref (am 0)), (1, .int (nI p9)), (2, .int (nI V)), (3, .int (nI n))]) S.1 S.2.1 dX5_bestFor_6 hl (by decide) rfl (fun ls hl => ?_)
  refine lv_iconst (v := 0) S.1 S.2.1 dX5_bestFor_8 (by decide) ?_
  refine lv_istore (lv' := [(5, .int 0), (4, .int (r p9)), (0, .ref (am 0)), (1, .int (nI p9)), (2, .int (nI V)), (3, .int (nI n))]) S.1 S.2.1 dX5_bestFor_9 hl (by decide) rfl (fun ls hl => ?_)
  refine lv_iconst (v := (-1)) S.1 S.2.1 dX5_bestFor_11 (by decide) ?_
  refine lv_istore (lv' := [(6, .int (-1)), (5, .int 0), (4, .int (r p9)), (0, .ref (am 0)), (1, .int (nI p9)), (2, .int (nI V)), (3, .int (nI n))]) S.1 S.2.1 dX5_bestFor_12 hl (by decide) rfl (fun ls hl => ?_)
  refine lv_iconst (v := 0) S.1 S.2.1 dX5_bestFor_14 (by decide) ?_
  refine lv_istore (lv' := [(7, .int 0), (6, .int (-1)), (5, .int 0), (4, .int (r p9)), (0, .ref (am 0)), (1, .int (nI p9)), (2, .int (nI V)), (3, .int (nI n))]) S.1 S.2.1 dX5_bestFor_15 hl (by decide) rfl (fun ls hl => ?_)
  have L_17 : ∀ (fu : Nat) (i : Nat) (xi : Row) (ai : Row) (b : Int32) (mo : Int32), (i ≤ V) → (V < i + fu) → (∀ j, j ≠ p9 → xi j = r j) → (0 < i → ai = upd r p9 (nI (i - 1))) → (b = (bestN (fun k => daysF (upd r p9 (nI k)) n 4) i).1) → (mo = (bestN (fun k => daysF (upd r p9 (nI k)) n 4) i).2) → ∀ (H : Heap) (locs : List Loc), PE E [[mObj am q], [(am 1, .inl (E.2.1, 77, .inl (sg xi 77)))], [(am 3, .inl (E.2.1, 77, .inl (sg ai 77)))]] H → DE (inB [[mObj am q], [(am 1, .inl (E.2.1, 77, .inl (sg r 77)))], [(am 3, .inl (E.2.1, 77, .inl (sg x 77)))]]) [[mObj am q], [(am 1, .inl (E.2.1, 77, .inl (sg xi 77)))], [(am 3, .inl (E.2.1, 77, .inl (sg ai 77)))]] → va_S (inB [[mObj am q], [(am 1, .inl (E.2.1, 77, .inl (sg r 77)))], [(am 3, .inl (E.2.1, 77, .inl (sg x 77)))]]) s.heap H locs → ∀ (ls : Array Slot), lv_has ls 9 [(0, .ref (am 0)), (1, .int (nI p9)), (2, .int (nI V)), (3, .int (nI n)), (4, .int (r p9)), (5, .int b), (6, .int mo), (7, .int (nI i))] → W p l e ({ frames := 8, cells := 0, slots := 0, locals := 171 }) s m ([.ref (am 0), .int (nI p9), .int (nI V), .int (nI n)] : List Value).toArray below meth c H locs 0 0 (MQ below (qI E [[mObj am q], [(am 1, .inl (E.2.1, 77, .inl (sg r 77)))], [(am 3, .inl (E.2.1, 77, .inl (sg x 77)))]] [[mObj am q], [(am 1, .inl (E.2.1, 77, .inl (sg r 77)))], [(am 3, .inl (E.2.1, 77, .inl (sg (upd r p9 (nI (V - 1))) 77)))]] ((bestN (fun k => daysF (upd r p9 (nI k)) n 4) V).1)) ([.ref (am 0), .int (nI p9), .int (nI V), .int (nI n)] : List Value).toArray s 0 0 (inB [[mObj am q], [(am 1, .inl (E.2.1, 77, .inl (sg r 77)))], [(am 3, .inl (E.2.1, 77, .inl (sg x 77)))]])) (F0 m 17 ls []) := by
    intro fu
    induction fu with
    | zero =>
      intro i xi ai b mo hi hf hx ha hb hmo
      omega
    | succ fu ih_17 =>
      intro i xi ai b mo hi hf hx ha hb hmo H locs hP hD hS ls hl
      refine lv_iload S.1 S.2.1 dX5_bestFor_17 (lv_at hl 7 rfl) ?_
      refine lv_iload_n S.1 S.2.1 dX5_bestFor_19 rfl (lv_at hl 2 rfl) ?_
      refine lv_icmp_ge (tgt := 60) S.1 S.2.1 dX5_bestFor_20 (by decide) (fun c_20 => ?_) (fun c_20 => ?_)
      · have n_20 := Int32.not_lt.mpr c_20
        have hi9 : i = V := le_endK hi c_20 hV2
        refine lv_aload_n S.1 S.2.1 dX5_bestFor_60 rfl (lv_at hl 0 rfl) ?_
        refine gf_X5_9 S hK hP 0 0 rfl rfl rfl dX5_bestFor_61 ?_
        refine lv_iload_n S.1 S.2.1 dX5_bestFor_64 rfl (lv_at hl 1 rfl) ?_
        refine lv_iload S.1 S.2.1 dX5_bestFor_65 (lv_at hl 4 rfl) ?_
        refine b_iastN (i := p9) S hK hP hD hS 1 0 rfl rfl (by omega) (by decide) (sgs_upd (by omega)) (Bs1 := [[mObj am q], [(am 1, .inl (E.2.1, 77, .inl (sg (upd xi p9 (r p9)) 77)))], [(am 3, .inl (E.2.1, 77, .inl (sg ai 77)))]]) rfl dX5_bestFor_67 (fun H locs hP hD hS => ?_)
        obtain ⟨r_67, er_67⟩ : ∃ z, z = upd xi p9 (r p9) := ⟨_, rfl⟩
        rw [← er_67] at hP hD
        refine lv_iload S.1 S.2.1 dX5_bestFor_68 (lv_at hl 5 rfl) ?_
        exact retI S hr hlk (by have e1 : r_67 = r := (by rw [er_67, upd_ext hx]; exact upd_self); have e2 := ha (by omega); rw [hi9] at e2; rw [e1, e2] at hP; exact hP) hS (by rw [hb, hi9]) dX5_bestFor_70
      · have n_20 := Int32.not_le.mp c_20
        have hi2 : i < V := lt_in c_20 hi
        refine lv_aload_n S.1 S.2.1 dX5_bestFor_23 rfl (lv_at hl 0 rfl) ?_
        refine gf_X5_9 S hK hP 0 0 rfl rfl rfl dX5_bestFor_24 ?_
        refine lv_iload_n S.1 S.2.1 dX5_bestFor_27 rfl (lv_at hl 1 rfl) ?_
        refine lv_iload S.1 S.2.1 dX5_bestFor_28 (lv_at hl 7 rfl) ?_
        refine b_iastN (i := p9) S hK hP hD hS 1 0 rfl rfl (by omega) (by decide) (sgs_upd (by omega)) (Bs1 := [[mObj am q], [(am 1, .inl (E.2.1, 77, .inl (sg (upd xi p9 (nI i)) 77)))], [(am 3, .inl (E.2.1, 77, .inl (sg ai 77)))]]) rfl dX5_bestFor_30 (fun H locs hP hD hS => ?_)
        obtain ⟨r_30, er_30⟩ : ∃ z, z = upd xi p9 (nI i) := ⟨_, rfl⟩
        rw [← er_30] at hP hD
        have e30 : r_30 = upd r p9 (nI i) := by (rw [er_30]; exact upd_ext hx)
        have hR30 : RI r_30 := by (rw [e30]; exact hRV i hi2)
        refine lv_aload_n S.1 S.2.1 dX5_bestFor_31 rfl (lv_at hl 0 rfl) ?_
        refine lv_iconst (v := 4) S.1 S.2.1 dX5_bestFor_32 (by decide) ?_
        refine lv_iload_n S.1 S.2.1 dX5_bestFor_33 rfl (lv_at hl 3 rfl) ?_
        refine go_I (run_V (As := [.int 4, .int (nI n)]) (rest := []) (n := 2) S hK (bl_P hP [0, 1, 2] rfl) (bl_D hD [0, 1, 2] rfl rfl) (c_X5_behind l E am q r_30 ai 4 n (by omega) (by omega) hR30) gV_X5_168 (by decide +kernel) rfl ⟨rfl, rfl⟩ ⟨Nat.le_of_ble_eq_true rfl, Nat.le_of_ble_eq_true rfl⟩ (ci := 5) (q0 := 0) rfl rfl hl.1 (Nat.le_of_ble_eq_true rfl) dX5_bestFor_34 ⟨Nat.zero_le _, Nat.zero_le _⟩) hP hD hS [0, 1, 2] rfl (had_cons rfl (had_cons rfl (had_cons cell_ad rfl))) (Bs' := [[mObj am q], [(am 1, .inl (E.2.1, 77, .inl (sg r_30 77)))], [(am 3, .inl (E.2.1, 77, .inl (sg r_30 77)))]]) rfl (fun H locs hP hD hS => ?_)
        refine lv_istore (lv' := [(8, .int (daysF r_30 n 4)), (0, .ref (am 0)), (1, .int (nI p9)), (2, .int (nI V)), (3, .int (nI n)), (4, .int (r p9)), (5, .int b), (6, .int mo), (7, .int (nI i))]) S.1 S.2.1 dX5_bestFor_37 hl (by decide) rfl (fun ls hl => ?_)
        refine lv_iload S.1 S.2.1 dX5_bestFor_39 (lv_at hl 0 rfl) ?_
        refine lv_iload S.1 S.2.1 dX5_bestFor_41 (lv_at hl 7 rfl) ?_
        refine lv_icmp_le (tgt := 54) S.1 S.2.1 dX5_bestFor_43 (by decide) (fun c_43 => ?_) (fun c_43 => ?_)
        · have n_43 := Int32.not_lt.mpr c_43
          refine lv_iinc (v := nI (i + 1)) (lv' := [(7, .int (nI (i + 1))), (8, .int (daysF r_30 n 4)), (0, .ref (am 0)), (1, .int (nI p9)), (2, .int (nI V)), (3, .int (nI n)), (4, .int (r p9)), (5, .int b), (6, .int mo)]) S.1 S.2.1 dX5_bestFor_54 hl (k := 8) rfl (nI_1 i) (by decide) rfl (fun ls hl => ?_)
          refine lv_goto (tgt := 17) S.1 S.2.1 dX5_bestFor_57 (by decide) ?_
          exact ih_17 (i + 1) r_30 r_30 b mo (by omega) (by omega) (fun j hj => by rw [e30]; exact upd_ne hj) (fun _ => e30) (best_t hb hmo (by show daysF (upd r p9 (nI i)) n 4 ≤ mo; rw [← e30]; exact c_43)).1 (best_t hb hmo (by show daysF (upd r p9 (nI i)) n 4 ≤ mo; rw [← e30]; exact c_43)).2 H locs hP hD hS ls (lv_sub hl [2, 3, 4, 5, 6, 7, 8, 0] rfl)
        · have n_43 := Int32.not_le.mp c_43
          refine lv_iload S.1 S.2.1 dX5_bestFor_46 (lv_at hl 8 rfl) ?_
          refine lv_istore (lv' := [(5, .int (nI i)), (8, .int (daysF r_30 n 4)), (0, .ref (am 0)), (1, .int (nI p9)), (2, .int (nI V)), (3, .int (nI n)), (4, .int (r p9)), (6, .int mo), (7, .int (nI i))]) S.1 S.2.1 dX5_bestFor_48 hl (by decide) rfl (fun ls hl => ?_)
          refine lv_iload S.1 S.2.1 dX5_bestFor_50 (lv_at hl 1 rfl) ?_
          refine lv_istore (lv' := [(6, .int (daysF r_30 n 4)), (5, .int (nI i)), (8, .int (daysF r_30 n 4)), (0, .ref (am 0)), (1, .int (nI p9)), (2, .int (nI V)), (3, .int (nI n)), (4, .int (r p9)), (7, .int (nI i))]) S.1 S.2.1 dX5_bestFor_52 hl (by decide) rfl (fun ls hl => ?_)
          refine lv_iinc (v := nI (i + 1)) (lv' := [(7, .int (nI (i + 1))), (6, .int (daysF r_30 n 4)), (5, .int (nI i)), (8, .int (daysF r_30 n 4)), (0, .ref (am 0)), (1, .int (nI p9)), (2, .int (nI V)), (3, .int (nI n)), (4, .int (r p9))]) S.1 S.2.1 dX5_bestFor_54 hl (k := 8) rfl (nI_1 i) (by decide) rfl (fun ls hl => ?_)
          refine lv_goto (tgt := 17) S.1 S.2.1 dX5_bestFor_57 (by decide) ?_
          exact ih_17 (i + 1) r_30 r_30 (nI i) (daysF r_30 n 4) (by omega) (by omega) (fun j hj => by rw [e30]; exact upd_ne hj) (fun _ => e30) (best_f hmo (by show ¬ daysF (upd r p9 (nI i)) n 4 ≤ mo; rw [← e30]; exact c_43)).1 (by rw [e30]; exact (best_f (g := fun k => daysF (upd r p9 (nI k)) n 4) hmo (by show ¬ daysF (upd r p9 (nI i)) n 4 ≤ mo; rw [← e30]; exact c_43)).2) H locs hP hD hS ls (lv_sub hl [4, 5, 6, 7, 8, 2, 1, 0] rfl)
  exact L_17 (V + 1) 0 r x 0 (-1) (by omega) (by omega) (fun _ _ => rfl) (fun q => absurd q (by omega)) rfl rfl H locs hP hD hS ls (lv_sub hl [4, 5, 6, 7, 3, 2, 1, 0] rfl)
set_option maxHeartbeats 4000000 in
set_option maxRecDepth 100000 in
theorem c_X5_isWithout (l : Launch) (E : EV) (am : Nat → Nat) (q r x : Row) (v w : Int32) (m9 : Nat) (hm : m9 < 2147483648) (hR : RI r) : Met l yX5_isWithout (wq yX5_isWithout cX5_isWithout 5 (some .boolean)) ({ frames := 7, cells := 0, slots := 0, locals := 149 }) (preB E [.ref (am 0), .int v, .int w, .int (nI m9)] [[mObj am q], [(am 1, .inl (E.2.1, 77, .inl (sg r 77)))], [(am 3, .inl (E.2.1, 77, .inl (sg x 77)))]]) (qI E [[mObj am q], [(am 1, .inl (E.2.1, 77, .inl (sg r 77)))], [(am 3, .inl (E.2.1, 77, .inl (sg x 77)))]] [[mObj am q], [(am 1, .inl (E.2.1, 77, .inl (sg r 77)))], [(am 3, .inl (E.2.1, 77, .inl (sg r 77)))]] (bI (noC (daysF (keepR r v (cntN r)) m9) w))) 0 0 (inB [[mObj am q], [(am 1, .inl (E.2.1, 77, .inl (sg r 77)))], [(am 3, .inl (E.2.1, 77, .inl (sg x 77)))]]) := by
  refine M_mk RX5 (by decide) rfl (Nat.le_of_ble_eq_true rfl) ?_
  intro p e s m below meth c S hr hlk hK hP hD hS ls hl
  have hl : lv_has ls 5 [(0, .ref (am 0)), (1, .int v), (2, .int w), (3, .int (nI m9))] := hl
  obtain ⟨n, d, hn, hn8, hd, hd5, ho, hso, hli, hsp, hpt⟩ := id hR
  obtain ⟨H, hH⟩ : ∃ z, z = s.heap := ⟨_, rfl⟩
  obtain ⟨locs, hlocs⟩ : ∃ z : List Loc, z = [] := ⟨_, rfl⟩
  have hP : PE E [[mObj am q], [(am 1, .inl (E.2.1, 77, .inl (sg r 77)))], [(am 3, .inl (E.2.1, 77, .inl (sg x 77)))]] H := by rw [hH]; exact hP
  have hS : va_S (inB [[mObj am q], [(am 1, .inl (E.2.1, 77, .inl (sg r 77)))], [(am 3, .inl (E.2.1, 77, .inl (sg x 77)))]]) s.heap H locs := by rw [hH, hlocs]; exact hS
  show W p l e ({ frames := 7, cells := 0, slots := 0, locals := 149 }) s m ([.ref (am 0), .int v, .int w, .int (nI m9)] : List Value).toArray below meth c s.heap [] 0 0 _ _
  suffices hgo : W p l e ({ frames := 7, cells := 0, slots := 0, locals := 149 }) s m ([.ref (am 0), .int v, .int w, .int (nI m9)] : List Value).toArray below meth c H locs 0 0 (MQ below (qI E [[mObj am q], [(am 1, .inl (E.2.1, 77, .inl (sg r 77)))], [(am 3, .inl (E.2.1, 77, .inl (sg x 77)))]] [[mObj am q], [(am 1, .inl (E.2.1, 77, .inl (sg r 77)))], [(am 3, .inl (E.2.1, 77, .inl (sg r 77)))]] (bI (noC (daysF (keepR r v (cntN r)) m9) w))) ([.ref (am 0), .int v, .int w, .int (nI m9)] : List Value).toArray s 0 0 (inB [[mObj am q], [(am 1, .inl (E.2.1, 77, .inl (sg r 77)))], [(am 3, .inl (E.2.1, 77, .inl (sg x 77)))]])) (F0 m 0 ls []) by rw [hH, hlocs] at hgo; exact hgo
  clear hH hlocs
  refine lv_aload_n S.1 S.2.1 dX5_isWithout_0 rfl (lv_at hl 0 rfl) ?_
  refine gf_X5_9 S hK hP 0 0 rfl rfl rfl dX5_isWithout_1 ?_
  refine lv_aload_n S.1 S.2.1 dX5_isWithout_4 rfl (lv_at hl 0 rfl) ?_
  refine gf_X5_16 S hK hP 0 0 rfl rfl rfl dX5_isWithout_5 ?_
  refine go_V (run_S (As := [.ref (am 1), .ref (am 3)]) (rest := []) (n := 2) S hK (bl_P hP [1, 2] rfl) (bl_D hD [1, 2] rfl rfl) (c_X5_copyRow l E (am 1) (am 3) r x ) gS_X5_61 (by decide +kernel) rfl ⟨rfl, rfl⟩ ⟨Nat.le_of_ble_eq_true rfl, Nat.le_of_ble_eq_true rfl⟩ hl.1 (Nat.le_of_ble_eq_true rfl) dX5_isWithout_8 ⟨Nat.zero_le _, Nat.zero_le _⟩) hP hD hS [1, 2] rfl (had_cons rfl (had_cons cell_ad rfl)) (Bs' := [[mObj am q], [(am 1, .inl (E.2.1, 77, .inl (sg r 77)))], [(am 3, .inl (E.2.1, 77, .inl (sg r 77)))]]) rfl (fun H locs hP hD hS => ?_)
  refine lv_iconst (v := 0) S.1 S.2.1 dX5_isWithout_11 (by decide) ?_
  refine lv_istore (lv' := [(4, .int 0), (0, .ref (am 0)), (1, .int v), (2, .int w), (3, .int (nI m9))]) S.1 S.2.1 dX5_isWithout_12 hl (by decide) rfl (fun ls hl => ?_)
  have L_14 : ∀ (fu : Nat) (i : Nat) (ri : Row), (i ≤ n) → (n < i + fu) → (ri = keepR r v i) → (ri 1 = nI n) → ∀ (H : Heap) (locs : List Loc), PE E [[mObj am q], [(am 1, .inl (E.2.1, 77, .inl (sg ri 77)))], [(am 3, .inl (E.2.1, 77, .inl (sg r 77)))]] H → DE (inB [[mObj am q], [(am 1, .inl (E.2.1, 77, .inl (sg r 77)))], [(am 3, .inl (E.2.1, 77, .inl (sg x 77)))]]) [[mObj am q], [(am 1, .inl (E.2.1, 77, .inl (sg ri 77)))], [(am 3, .inl (E.2.1, 77, .inl (sg r 77)))]] → va_S (inB [[mObj am q], [(am 1, .inl (E.2.1, 77, .inl (sg r 77)))], [(am 3, .inl (E.2.1, 77, .inl (sg x 77)))]]) s.heap H locs → ∀ (ls : Array Slot), lv_has ls 5 [(0, .ref (am 0)), (1, .int v), (2, .int w), (3, .int (nI m9)), (4, .int (nI i))] → W p l e ({ frames := 7, cells := 0, slots := 0, locals := 149 }) s m ([.ref (am 0), .int v, .int w, .int (nI m9)] : List Value).toArray below meth c H locs 0 0 (MQ below (qI E [[mObj am q], [(am 1, .inl (E.2.1, 77, .inl (sg r 77)))], [(am 3, .inl (E.2.1, 77, .inl (sg x 77)))]] [[mObj am q], [(am 1, .inl (E.2.1, 77, .inl (sg r 77)))], [(am 3, .inl (E.2.1, 77, .inl (sg r 77)))]] (bI (noC (daysF (keepR r v (cntN r)) m9) w))) ([.ref (am 0), .int v, .int w, .int (nI m9)] : List Value).toArray s 0 0 (inB [[mObj am q], [(am 1, .inl (E.2.1, 77, .inl (sg r 77)))], [(am 3, .inl (E.2.1, 77, .inl (sg x 77)))]])) (F0 m 14 ls []) := by
    intro fu
    induction fu with
    | zero =>
      intro i ri hi hf hri hn1
      omega
    | succ fu ih_14 =>
      intro i ri hi hf hri hn1 H locs hP hD hS ls hl
      refine lv_iload S.1 S.2.1 dX5_isWithout_14 (lv_at hl 4 rfl) ?_
      refine lv_aload_n S.1 S.2.1 dX5_isWithout_16 rfl (lv_at hl 0 rfl) ?_
      refine gf_X5_9 S hK hP 0 0 rfl rfl rfl dX5_isWithout_17 ?_
      refine lv_iconst (v := 1) S.1 S.2.1 dX5_isWithout_20 (by decide) ?_
      refine b_ialdN (i := 1) S hK hP 1 0 rfl rfl (by omega) (by decide) dX5_isWithout_21 ?_
      refine lv_eqi (y := nI n) ((sg_at (by omega)).trans hn1) ?_
      refine lv_icmp_ge (tgt := 53) S.1 S.2.1 dX5_isWithout_22 (by decide) (fun c_22 => ?_) (fun c_22 => ?_)
      · have n_22 := Int32.not_lt.mpr c_22
        have hi9 : i = n := le_end hi c_22 hn8
        have hRi : RI ri := by (rw [hri, hi9, ← cntN_eq hn hn8]; exact keepR_RI hR _ _)
        refine lv_aload_n S.1 S.2.1 dX5_isWithout_53 rfl (lv_at hl 0 rfl) ?_
        refine lv_iload_n S.1 S.2.1 dX5_isWithout_54 rfl (lv_at hl 3 rfl) ?_
        refine go_V (run_V (As := [.int (nI m9)]) (rest := []) (n := 1) S hK (bl_P hP [0, 1] rfl) (bl_D hD [0, 1] rfl rfl) (c_X5_daysGo l E am q ri m9 (by omega) hRi) gV_X5_150 (by decide +kernel) rfl ⟨rfl, rfl⟩ ⟨Nat.le_of_ble_eq_true rfl, Nat.le_of_ble_eq_true rfl⟩ (ci := 5) (q0 := 0) rfl rfl hl.1 (Nat.le_of_ble_eq_true rfl) dX5_isWithout_55 ⟨Nat.zero_le _, Nat.zero_le _⟩) hP hD hS [0, 1] rfl (had_cons rfl (had_cons cell_ad rfl)) (Bs' := [[mObj am q], [(am 1, .inl (E.2.1, 77, .inl (sg (daysF ri m9) 77)))], [(am 3, .inl (E.2.1, 77, .inl (sg r 77)))]]) rfl (fun H locs hP hD hS => ?_)
        obtain ⟨r_55, er_55⟩ : ∃ z : Row, z = daysF ri m9 := ⟨_, rfl⟩
        rw [← er_55] at hP hD
        have hr_55_1 : r_55 1 = nI n := by rw [er_55]; exact (daysF_1 ri m9).trans hn1
        have hr_55_RI : RI r_55 := by rw [er_55]; exact daysF_RI hRi _
        refine lv_aload_n S.1 S.2.1 dX5_isWithout_58 rfl (lv_at hl 0 rfl) ?_
        refine go_S (run_V (As := []) (rest := []) (n := 0) S hK (bl_P hP [0, 1] rfl) (bl_D hD [0, 1] rfl rfl) (c_X5_colours l E am q r_55 hr_55_RI) gV_X5_156 (by decide +kernel) rfl ⟨rfl, rfl⟩ ⟨Nat.le_of_ble_eq_true rfl, Nat.le_of_ble_eq_true rfl⟩ (ci := 5) (q0 := 0) rfl rfl hl.1 (Nat.le_of_ble_eq_true rfl) dX5_isWithout_59 ⟨Nat.zero_le _, Nat.zero_le _⟩) ?_
        refine lv_iload_n S.1 S.2.1 dX5_isWithout_62 rfl (lv_at hl 2 rfl) ?_
        refine lv_ishr S.1 S.2.1 dX5_isWithout_63 ?_
        refine lv_iconst (v := 1) S.1 S.2.1 dX5_isWithout_64 (by decide) ?_
        refine lv_iand S.1 S.2.1 dX5_isWithout_65 ?_
        refine lv_if_ne (tgt := 73) S.1 S.2.1 dX5_isWithout_66 (by decide) (fun c_66 => ?_) (fun c_66 => ?_)
        · refine lv_iconst (v := 0) S.1 S.2.1 dX5_isWithout_73 (by decide) ?_
          refine lv_istore (lv' := [(4, .int 0), (0, .ref (am 0)), (1, .int v), (2, .int w), (3, .int (nI m9))]) S.1 S.2.1 dX5_isWithout_74 hl (by decide) rfl (fun ls hl => ?_)
          refine lv_aload_n S.1 S.2.1 dX5_isWithout_76 rfl (lv_at hl 1 rfl) ?_
          refine gf_X5_16 S hK hP 0 0 rfl rfl rfl dX5_isWithout_77 ?_
          refine lv_aload_n S.1 S.2.1 dX5_isWithout_80 rfl (lv_at hl 1 rfl) ?_
          refine gf_X5_9 S hK hP 0 0 rfl rfl rfl dX5_isWithout_81 ?_
          refine go_V (run_S (As := [.ref (am 3), .ref (am 1)]) (rest := []) (n := 2) S hK (bl_P hP [2, 1] rfl) (bl_D hD [2, 1] rfl rfl) (c_X5_copyRow l E (am 3) (am 1) r r_55 ) gS_X5_61 (by decide +kernel) rfl ⟨rfl, rfl⟩ ⟨Nat.le_of_ble_eq_true rfl, Nat.le_of_ble_eq_true rfl⟩ hl.1 (Nat.le_of_ble_eq_true rfl) dX5_isWithout_84 ⟨Nat.zero_le _, Nat.zero_le _⟩) hP hD hS [2, 1] rfl (had_cons rfl (had_cons cell_ad rfl)) (Bs' := [[mObj am q], [(am 1, .inl (E.2.1, 77, .inl (sg r 77)))], [(am 3, .inl (E.2.1, 77, .inl (sg r 77)))]]) rfl (fun H locs hP hD hS => ?_)
          refine lv_iload S.1 S.2.1 dX5_isWithout_87 (lv_at hl 0 rfl) ?_
          exact retZ S hr hlk rfl hP hS (by rw [cntN_eq hn hn8, ← hi9, ← hri, show daysF ri m9 = r_55 from er_55.symm]; unfold bI; rw [if_neg c_66]) dX5_isWithout_89
        · refine lv_iconst (v := 1) S.1 S.2.1 dX5_isWithout_69 (by decide) ?_
          refine lv_goto (tgt := 74) S.1 S.2.1 dX5_isWithout_70 (by decide) ?_
          refine lv_istore (lv' := [(4, .int 1), (0, .ref (am 0)), (1, .int v), (2, .int w), (3, .int (nI m9))]) S.1 S.2.1 dX5_isWithout_74 hl (by decide) rfl (fun ls hl => ?_)
          refine lv_aload_n S.1 S.2.1 dX5_isWithout_76 rfl (lv_at hl 1 rfl) ?_
          refine gf_X5_16 S hK hP 0 0 rfl rfl rfl dX5_isWithout_77 ?_
          refine lv_aload_n S.1 S.2.1 dX5_isWithout_80 rfl (lv_at hl 1 rfl) ?_
          refine gf_X5_9 S hK hP 0 0 rfl rfl rfl dX5_isWithout_81 ?_
          refine go_V (run_S (As := [.ref (am 3), .ref (am 1)]) (rest := []) (n := 2) S hK (bl_P hP [2, 1] rfl) (bl_D hD [2, 1] rfl rfl) (c_X5_copyRow l E (am 3) (am 1) r r_55 ) gS_X5_61 (by decide +kernel) rfl ⟨rfl, rfl⟩ ⟨Nat.le_of_ble_eq_true rfl, Nat.le_of_ble_eq_true rfl⟩ hl.1 (Nat.le_of_ble_eq_true rfl) dX5_isWithout_84 ⟨Nat.zero_le _, Nat.zero_le _⟩) hP hD hS [2, 1] rfl (had_cons rfl (had_cons cell_ad rfl)) (Bs' := [[mObj am q], [(am 1, .inl (E.2.1, 77, .inl (sg r 77)))], [(am 3, .inl (E.2.1, 77, .inl (sg r 77)))]]) rfl (fun H locs hP hD hS => ?_)
          refine lv_iload S.1 S.2.1 dX5_isWithout_87 (lv_at hl 0 rfl) ?_
          exact retZ S hr hlk rfl hP hS (by rw [cntN_eq hn hn8, ← hi9, ← hri, show daysF ri m9 = r_55 from er_55.symm]; unfold bI; rw [if_pos c_66]) dX5_isWithout_89
      · have n_22 := Int32.not_le.mp c_22
        have hi2 : i < n := lt_in c_22 hi
        refine lv_iload_n S.1 S.2.1 dX5_isWithout_25 rfl (lv_at hl 1 rfl) ?_
        refine lv_iload S.1 S.2.1 dX5_isWithout_26 (lv_at hl 4 rfl) ?_
        refine lv_ishr S.1 S.2.1 dX5_isWithout_28 ?_
        refine lv_iconst (v := 1) S.1 S.2.1 dX5_isWithout_29 (by decide) ?_
        refine lv_iand S.1 S.2.1 dX5_isWithout_30 ?_
        refine lv_iconst (v := 1) S.1 S.2.1 dX5_isWithout_31 (by decide) ?_
        refine lv_icmp_ne (tgt := 47) S.1 S.2.1 dX5_isWithout_32 (by decide) (fun c_32 => ?_) (fun c_32 => ?_)
        · refine lv_iinc (v := nI (i + 1)) (lv' := [(4, .int (nI (i + 1))), (0, .ref (am 0)), (1, .int v), (2, .int w), (3, .int (nI m9))]) S.1 S.2.1 dX5_isWithout_47 hl (k := 4) rfl (nI_1 i) (by decide) rfl (fun ls hl => ?_)
          refine lv_goto (tgt := 14) S.1 S.2.1 dX5_isWithout_50 (by decide) ?_
          exact ih_14 (i + 1) ri (by omega) (by omega) (by rw [hri]; simp only [keepR, c_22, n_22, c_32, ↓reduceIte]) hn1 H locs hP hD hS ls (lv_sub hl [1, 2, 3, 4, 0] rfl)
        · refine lv_aload_n S.1 S.2.1 dX5_isWithout_35 rfl (lv_at hl 0 rfl) ?_
          refine gf_X5_9 S hK hP 0 0 rfl rfl rfl dX5_isWithout_36 ?_
          refine lv_iload S.1 S.2.1 dX5_isWithout_39 (lv_at hl 4 rfl) ?_
          refine lv_iconst (v := 2) S.1 S.2.1 dX5_isWithout_41 (by decide) ?_
          refine go_S (run_S (As := [.int (nI i), .int 2]) (rest := [.ref (am 1)]) (n := 2) S hK (bl_P hP [] rfl) (bl_D hD [] rfl rfl) (c_X5_potterAt l E i 2 ) gS_X5_82 (by decide +kernel) rfl ⟨rfl, rfl⟩ ⟨Nat.le_of_ble_eq_true rfl, Nat.le_of_ble_eq_true rfl⟩ hl.1 (Nat.le_of_ble_eq_true rfl) dX5_isWithout_42 ⟨Nat.zero_le _, Nat.zero_le _⟩) ?_
          refine lv_iconst (v := 0) S.1 S.2.1 dX5_isWithout_45 (by decide) ?_
          refine b_iastN (i := 21 + 7 * i + 2) S hK hP hD hS 1 0 rfl rfl (by omega) (by decide) (sgs_upd (by omega)) (Bs1 := [[mObj am q], [(am 1, .inl (E.2.1, 77, .inl (sg (upd ri (21 + 7 * i + 2) 0) 77)))], [(am 3, .inl (E.2.1, 77, .inl (sg r 77)))]]) rfl dX5_isWithout_46 (fun H locs hP hD hS => ?_)
          obtain ⟨r_46, er_46⟩ : ∃ z, z = upd ri (21 + 7 * i + 2) 0 := ⟨_, rfl⟩
          rw [← er_46] at hP hD
          have hr_46_1 : r_46 1 = nI n := by rw [er_46]; exact (upd_ne (by omega)).trans hn1
          refine lv_iinc (v := nI (i + 1)) (lv' := [(4, .int (nI (i + 1))), (0, .ref (am 0)), (1, .int v), (2, .int w), (3, .int (nI m9))]) S.1 S.2.1 dX5_isWithout_47 hl (k := 4) rfl (nI_1 i) (by decide) rfl (fun ls hl => ?_)
          refine lv_goto (tgt := 14) S.1 S.2.1 dX5_isWithout_50 (by decide) ?_
          exact ih_14 (i + 1) r_46 (by omega) (by omega) (by rw [er_46, hri]; simp only [keepR, c_22, n_22, eq_true c_32, ↓reduceIte]) hr_46_1 H locs hP hD hS ls (lv_sub hl [1, 2, 3, 4, 0] rfl)
  exact L_14 (n + 1) 0 r (by omega) (by omega) rfl hn H locs hP hD hS ls (lv_sub hl [1, 2, 3, 4, 0] rfl)
set_option maxHeartbeats 4000000 in
set_option maxRecDepth 100000 in
theorem c_X5_lacks (l : Launch) (E : EV) (am : Nat → Nat) (q z : Row) (v : Int32) (G : Prop) [Decidable G]  : Met l yX5_lacks (wq yX5_lacks cX5_lacks 3 (some .int)) ({ frames := 2, cells := 0, slots := 0, locals := 42 }) (preB E [.ref (am 0), .int v, .int (bI G)] [[mObj am q], [(am 8, .inl (E.2.1, 4, .inl (sg z 4)))]]) (qS (lackV z v G)) 0 0 (fun _ => False) := by
  refine M_mk RX5 (by decide) rfl (Nat.le_of_ble_eq_true rfl) ?_
  intro p e s m below meth c S hr hlk hK hP hD hS ls hl
  have hl : lv_has ls 3 [(0, .ref (am 0)), (1, .int v), (2, .int (bI G))] := hl
  refine lv_iload_n S.1 S.2.1 dX5_lacks_0 rfl (lv_at hl 1 rfl) ?_
  refine go_S (run_S (As := [.int v]) (rest := []) (n := 1) S hK (bl_P hP [] rfl) (bl_D hD [] rfl rfl) (c_X5_isSheet l E v ) gS_X5_196 (by decide +kernel) rfl ⟨rfl, rfl⟩ ⟨Nat.le_of_ble_eq_true rfl, Nat.le_of_ble_eq_true rfl⟩ hl.1 (Nat.le_of_ble_eq_true rfl) dX5_lacks_1 ⟨Nat.zero_le _, Nat.zero_le _⟩) ?_
  refine b_ifne (tgt := 12) S.1 S.2.1 dX5_lacks_4 (by decide) (fun c_4 => ?_) (fun c_4 => ?_)
  · obtain ⟨k9, hk9, ek9⟩ := nI_of2 (n := 3) (by decide) (Int32.not_lt.mpr c_4.1) c_4.2
    refine lv_aload_n S.1 S.2.1 dX5_lacks_12 rfl (lv_at hl 0 rfl) ?_
    refine gf_X5_48 S hK hP 0 0 rfl rfl rfl dX5_lacks_13 ?_
    refine lv_iload_n S.1 S.2.1 dX5_lacks_16 rfl (lv_at hl 1 rfl) ?_
    refine lv_eqi (y := nI k9) ek9 ?_
    refine b_ialdN (i := k9) S hK hP 1 0 rfl rfl (by omega) (by decide) dX5_lacks_17 ?_
    refine lv_eqi (y := z k9) (sg_at (by omega)) ?_
    refine lv_if_ne (tgt := 26) S.1 S.2.1 dX5_lacks_18 (by decide) (fun c_18 => ?_) (fun c_18 => ?_)
    · refine lv_iload_n S.1 S.2.1 dX5_lacks_26 rfl (lv_at hl 2 rfl) ?_
      refine b_ifeq (tgt := 34) S.1 S.2.1 dX5_lacks_27 (by decide) (fun c_27 => ?_) (fun c_27 => ?_)
      · refine lv_ldc (v := (-1000001)) S.1 S.2.1 S.2.2.2.1 (S.2.2.2.2 _ (List.mem_cons_of_mem _ kk_X5_60)) dX5_lacks_34 ?_
        exact retS S hr hlk (by unfold lackV; rw [if_pos c_4, ek9, nI_clamp (by omega)]; rw [if_neg c_18]; rw [if_neg c_27]) dX5_lacks_36
      · refine lv_iconst (v := 0) S.1 S.2.1 dX5_lacks_30 (by decide) ?_
        refine lv_goto (tgt := 36) S.1 S.2.1 dX5_lacks_31 (by decide) ?_
        exact retS S hr hlk (by unfold lackV; rw [if_pos c_4, ek9, nI_clamp (by omega)]; rw [if_neg c_18]; rw [if_pos c_27]) dX5_lacks_36
    · refine lv_ldc (v := (-1000006)) S.1 S.2.1 S.2.2.2.1 (S.2.2.2.2 _ (List.mem_cons_of_mem _ kk_X5_199)) dX5_lacks_21 ?_
      refine lv_goto (tgt := 36) S.1 S.2.1 dX5_lacks_23 (by decide) ?_
      exact retS S hr hlk (by unfold lackV; rw [if_pos c_4, ek9, nI_clamp (by omega)]; rw [if_pos c_18]) dX5_lacks_36
  · refine lv_ldc (v := (-1000001)) S.1 S.2.1 S.2.2.2.1 (S.2.2.2.2 _ (List.mem_cons_of_mem _ kk_X5_60)) dX5_lacks_7 ?_
    refine lv_goto (tgt := 36) S.1 S.2.1 dX5_lacks_9 (by decide) ?_
    exact retS S hr hlk (by unfold lackV; rw [if_neg c_4]) dX5_lacks_36
