theorem bI_nar {P : Prop} [Decidable P] : narrow .boolean (.int (bI P)) = .int (bI P) := by
  unfold bI
  split <;> rfl
theorem mx5 {h w : Int32} (hh : le9 h 9) (hw : le9 w 99) : (if 0 < plainV h w - (w - w / 10 * 10) then plainV h w - (w - w / 10 * 10) else 0) = if plainV h w ≤ w - w / 10 * 10 then 0 else plainV h w - (w - w / 10 * 10) := by
  obtain ⟨h', a, rfl⟩ := hh
  obtain ⟨w', b, rfl⟩ := hw
  rw [plainV_nat a b, sun_nat b]
  have hp := plain_le a b
  generalize h' * (w' / 10) / 2 + (if h' = 0 then 0 else w' % 10) = p at hp
  have hs : w' % 10 ≤ 9 := by omega
  generalize w' % 10 = s at hs
  by_cases q : p ≤ s
  · rw [if_pos (nI_le q (by omega))]
    rcases Nat.lt_or_ge p s with z | z
    · rw [if_neg (Int32.not_lt.mpr (Int32.le_of_lt (pk_sneg (by omega) z)))]
    · rw [show p = s by omega, pk_sub (Nat.le_refl _), Nat.sub_self]
      rfl
  · rw [if_neg (nI_ge (by omega) (by omega)), pk_sub (by omega), if_pos (show (0 : Int32) < nI (p - s) from nI_lt (a := 0) (by omega) (by omega))]
set_option maxHeartbeats 4000000 in
set_option maxRecDepth 100000 in
theorem c_X5_within (l : Launch) (E : EV) (v lo hi : Int32)  : Met l yX5_within (wq yX5_within cX5_within 3 (some .boolean)) ({ frames := 0, cells := 0, slots := 0, locals := 0 }) (preB E [.int v, .int lo, .int hi] []) (qS (bI (lo ≤ v ∧ v ≤ hi))) 0 0 (fun _ => False) := by
  refine M_mk RX5 (by decide) rfl (Nat.le_of_ble_eq_true rfl) ?_
  intro p e s m below meth c S hr hlk hK hP hD hS ls hl
  have hl : lv_has ls 3 [(0, .int v), (1, .int lo), (2, .int hi)] := hl
  refine lv_iload_n S.1 S.2.1 dX5_within_0 rfl (lv_at hl 0 rfl) ?_
  refine lv_iload_n S.1 S.2.1 dX5_within_1 rfl (lv_at hl 1 rfl) ?_
  refine lv_icmp_lt (tgt := 14) S.1 S.2.1 dX5_within_2 (by decide) (fun c_2 => ?_) (fun c_2 => ?_)
  · have n_2 := Int32.not_le.mpr c_2
    refine lv_iconst (v := 0) S.1 S.2.1 dX5_within_14 (by decide) ?_
    exact retSZ S hr hlk rfl (by first | (simp only [bI, c_2, n_2, ↓reduceIte]; done) | (simp [bI, c_2, n_2, ↓reduceIte]; done) | (simp [bI, c_2, n_2]; done)) dX5_within_15
  · have n_2 := Int32.not_lt.mp c_2
    refine lv_iload_n S.1 S.2.1 dX5_within_5 rfl (lv_at hl 0 rfl) ?_
    refine lv_iload_n S.1 S.2.1 dX5_within_6 rfl (lv_at hl 2 rfl) ?_
    refine lv_icmp_gt (tgt := 14) S.1 S.2.1 dX5_within_7 (by decide) (fun c_7 => ?_) (fun c_7 => ?_)
    · have n_7 := Int32.not_le.mpr c_7
      refine lv_iconst (v := 0) S.1 S.2.1 dX5_within_14 (by decide) ?_
      exact retSZ S hr hlk rfl (by first | (simp only [bI, c_2, n_2, c_7, n_7, ↓reduceIte]; done) | (simp [bI, c_2, n_2, c_7, n_7, ↓reduceIte]; done) | (simp [bI, c_2, n_2, c_7, n_7]; done)) dX5_within_15
    · have n_7 := Int32.not_lt.mp c_7
      refine lv_iconst (v := 1) S.1 S.2.1 dX5_within_10 (by decide) ?_
      refine lv_goto (tgt := 15) S.1 S.2.1 dX5_within_11 (by decide) ?_
      exact retSZ S hr hlk rfl (by first | (simp only [bI, c_2, n_2, c_7, n_7, ↓reduceIte]; done) | (simp [bI, c_2, n_2, c_7, n_7, ↓reduceIte]; done) | (simp [bI, c_2, n_2, c_7, n_7]; done)) dX5_within_15
set_option maxHeartbeats 4000000 in
set_option maxRecDepth 100000 in
theorem c_X5_potterAt (l : Launch) (E : EV) (i f : Nat)  : Met l yX5_potterAt (wq yX5_potterAt cX5_potterAt 2 (some .int)) ({ frames := 0, cells := 0, slots := 0, locals := 0 }) (preB E [.int (nI i), .int (nI f)] []) (qS (nI (21 + 7 * i + f))) 0 0 (fun _ => False) := by
  refine M_mk RX5 (by decide) rfl (Nat.le_of_ble_eq_true rfl) ?_
  intro p e s m below meth c S hr hlk hK hP hD hS ls hl
  have hl : lv_has ls 2 [(0, .int (nI i)), (1, .int (nI f))] := hl
  refine lv_bipush (v := 21) S.1 S.2.1 dX5_potterAt_0 (by decide) ?_
  refine lv_bipush (v := 7) S.1 S.2.1 dX5_potterAt_2 (by decide) ?_
  refine lv_iload_n S.1 S.2.1 dX5_potterAt_4 rfl (lv_at hl 0 rfl) ?_
  refine lv_imul S.1 S.2.1 dX5_potterAt_5 ?_
  refine lv_eqi (y := nI (7 * i)) (pk_mul 7 i) ?_
  refine lv_iadd S.1 S.2.1 dX5_potterAt_6 ?_
  refine lv_eqi (y := nI (21 + 7 * i)) (nI_add 21 (7 * i)) ?_
  refine lv_iload_n S.1 S.2.1 dX5_potterAt_7 rfl (lv_at hl 1 rfl) ?_
  refine lv_iadd S.1 S.2.1 dX5_potterAt_8 ?_
  refine lv_eqi (y := nI (21 + 7 * i + f)) (nI_add (21 + 7 * i) f) ?_
  exact retS S hr hlk rfl dX5_potterAt_9
set_option maxHeartbeats 4000000 in
set_option maxRecDepth 100000 in
theorem c_X5_isListed (l : Launch) (E : EV) (v : Int32)  : Met l yX5_isListed (wq yX5_isListed cX5_isListed 1 (some .boolean)) ({ frames := 1, cells := 0, slots := 0, locals := 22 }) (preB E [.int v] []) (qS (bI (0 ≤ v ∧ v ≤ 5))) 0 0 (fun _ => False) := by
  refine M_mk RX5 (by decide) rfl (Nat.le_of_ble_eq_true rfl) ?_
  intro p e s m below meth c S hr hlk hK hP hD hS ls hl
  have hl : lv_has ls 1 [(0, .int v)] := hl
  refine lv_iload_n S.1 S.2.1 dX5_isListed_0 rfl (lv_at hl 0 rfl) ?_
  refine lv_iconst (v := 0) S.1 S.2.1 dX5_isListed_1 (by decide) ?_
  refine lv_iconst (v := 5) S.1 S.2.1 dX5_isListed_2 (by decide) ?_
  refine go_S (run_S (As := [.int v, .int 0, .int 5]) (rest := []) (n := 3) S hK (bl_P hP [] rfl) (bl_D hD [] rfl rfl) (c_X5_within l E v 0 5 ) gS_X5_70 (by decide +kernel) rfl ⟨rfl, rfl⟩ ⟨Nat.le_of_ble_eq_true rfl, Nat.le_of_ble_eq_true rfl⟩ hl.1 (Nat.le_of_ble_eq_true rfl) dX5_isListed_3 ⟨Nat.zero_le _, Nat.zero_le _⟩) ?_
  exact retSZ S hr hlk bI_nar rfl dX5_isListed_6
set_option maxHeartbeats 4000000 in
set_option maxRecDepth 100000 in
theorem c_X5_isColour (l : Launch) (E : EV) (v : Int32)  : Met l yX5_isColour (wq yX5_isColour cX5_isColour 1 (some .boolean)) ({ frames := 1, cells := 0, slots := 0, locals := 22 }) (preB E [.int v] []) (qS (bI (0 ≤ v ∧ v ≤ 7))) 0 0 (fun _ => False) := by
  refine M_mk RX5 (by decide) rfl (Nat.le_of_ble_eq_true rfl) ?_
  intro p e s m below meth c S hr hlk hK hP hD hS ls hl
  have hl : lv_has ls 1 [(0, .int v)] := hl
  refine lv_iload_n S.1 S.2.1 dX5_isColour_0 rfl (lv_at hl 0 rfl) ?_
  refine lv_iconst (v := 0) S.1 S.2.1 dX5_isColour_1 (by decide) ?_
  refine lv_bipush (v := 7) S.1 S.2.1 dX5_isColour_2 (by decide) ?_
  refine go_S (run_S (As := [.int v, .int 0, .int 7]) (rest := []) (n := 3) S hK (bl_P hP [] rfl) (bl_D hD [] rfl rfl) (c_X5_within l E v 0 7 ) gS_X5_70 (by decide +kernel) rfl ⟨rfl, rfl⟩ ⟨Nat.le_of_ble_eq_true rfl, Nat.le_of_ble_eq_true rfl⟩ hl.1 (Nat.le_of_ble_eq_true rfl) dX5_isColour_4 ⟨Nat.zero_le _, Nat.zero_le _⟩) ?_
  exact retSZ S hr hlk bI_nar rfl dX5_isColour_7
set_option maxHeartbeats 4000000 in
set_option maxRecDepth 100000 in
theorem c_X5_isThought (l : Launch) (E : EV) (v : Int32)  : Met l yX5_isThought (wq yX5_isThought cX5_isThought 1 (some .boolean)) ({ frames := 1, cells := 0, slots := 0, locals := 22 }) (preB E [.int v] []) (qS (bI (0 ≤ v ∧ v ≤ 60))) 0 0 (fun _ => False) := by
  refine M_mk RX5 (by decide) rfl (Nat.le_of_ble_eq_true rfl) ?_
  intro p e s m below meth c S hr hlk hK hP hD hS ls hl
  have hl : lv_has ls 1 [(0, .int v)] := hl
  refine lv_iload_n S.1 S.2.1 dX5_isThought_0 rfl (lv_at hl 0 rfl) ?_
  refine lv_iconst (v := 0) S.1 S.2.1 dX5_isThought_1 (by decide) ?_
  refine lv_bipush (v := 60) S.1 S.2.1 dX5_isThought_2 (by decide) ?_
  refine go_S (run_S (As := [.int v, .int 0, .int 60]) (rest := []) (n := 3) S hK (bl_P hP [] rfl) (bl_D hD [] rfl rfl) (c_X5_within l E v 0 60 ) gS_X5_70 (by decide +kernel) rfl ⟨rfl, rfl⟩ ⟨Nat.le_of_ble_eq_true rfl, Nat.le_of_ble_eq_true rfl⟩ hl.1 (Nat.le_of_ble_eq_true rfl) dX5_isThought_4 ⟨Nat.zero_le _, Nat.zero_le _⟩) ?_
  exact retSZ S hr hlk bI_nar rfl dX5_isThought_7
set_option maxHeartbeats 4000000 in
set_option maxRecDepth 100000 in
theorem c_X5_isSpot (l : Launch) (E : EV) (v : Int32)  : Met l yX5_isSpot (wq yX5_isSpot cX5_isSpot 1 (some .boolean)) ({ frames := 1, cells := 0, slots := 0, locals := 22 }) (preB E [.int v] []) (qS (bI (0 ≤ v ∧ v ≤ 9))) 0 0 (fun _ => False) := by
  refine M_mk RX5 (by decide) rfl (Nat.le_of_ble_eq_true rfl) ?_
  intro p e s m below meth c S hr hlk hK hP hD hS ls hl
  have hl : lv_has ls 1 [(0, .int v)] := hl
  refine lv_iload_n S.1 S.2.1 dX5_isSpot_0 rfl (lv_at hl 0 rfl) ?_
  refine lv_iconst (v := 0) S.1 S.2.1 dX5_isSpot_1 (by decide) ?_
  refine lv_bipush (v := 9) S.1 S.2.1 dX5_isSpot_2 (by decide) ?_
  refine go_S (run_S (As := [.int v, .int 0, .int 9]) (rest := []) (n := 3) S hK (bl_P hP [] rfl) (bl_D hD [] rfl rfl) (c_X5_within l E v 0 9 ) gS_X5_70 (by decide +kernel) rfl ⟨rfl, rfl⟩ ⟨Nat.le_of_ble_eq_true rfl, Nat.le_of_ble_eq_true rfl⟩ hl.1 (Nat.le_of_ble_eq_true rfl) dX5_isSpot_4 ⟨Nat.zero_le _, Nat.zero_le _⟩) ?_
  exact retSZ S hr hlk bI_nar rfl dX5_isSpot_7
set_option maxHeartbeats 4000000 in
set_option maxRecDepth 100000 in
theorem c_X5_isSheet (l : Launch) (E : EV) (v : Int32)  : Met l yX5_isSheet (wq yX5_isSheet cX5_isSheet 1 (some .boolean)) ({ frames := 1, cells := 0, slots := 0, locals := 22 }) (preB E [.int v] []) (qS (bI (0 ≤ v ∧ v ≤ 3))) 0 0 (fun _ => False) := by
  refine M_mk RX5 (by decide) rfl (Nat.le_of_ble_eq_true rfl) ?_
  intro p e s m below meth c S hr hlk hK hP hD hS ls hl
  have hl : lv_has ls 1 [(0, .int v)] := hl
  refine lv_iload_n S.1 S.2.1 dX5_isSheet_0 rfl (lv_at hl 0 rfl) ?_
  refine lv_iconst (v := 0) S.1 S.2.1 dX5_isSheet_1 (by decide) ?_
  refine lv_iconst (v := 3) S.1 S.2.1 dX5_isSheet_2 (by decide) ?_
  refine go_S (run_S (As := [.int v, .int 0, .int 3]) (rest := []) (n := 3) S hK (bl_P hP [] rfl) (bl_D hD [] rfl rfl) (c_X5_within l E v 0 3 ) gS_X5_70 (by decide +kernel) rfl ⟨rfl, rfl⟩ ⟨Nat.le_of_ble_eq_true rfl, Nat.le_of_ble_eq_true rfl⟩ hl.1 (Nat.le_of_ble_eq_true rfl) dX5_isSheet_3 ⟨Nat.zero_le _, Nat.zero_le _⟩) ?_
  exact retSZ S hr hlk bI_nar rfl dX5_isSheet_6
set_option maxHeartbeats 4000000 in
set_option maxRecDepth 100000 in
theorem c_X5_isKind (l : Launch) (E : EV) (v : Int32)  : Met l yX5_isKind (wq yX5_isKind cX5_isKind 1 (some .boolean)) ({ frames := 1, cells := 0, slots := 0, locals := 22 }) (preB E [.int v] []) (qS (bI (0 ≤ v ∧ v ≤ 6))) 0 0 (fun _ => False) := by
  refine M_mk RX5 (by decide) rfl (Nat.le_of_ble_eq_true rfl) ?_
  intro p e s m below meth c S hr hlk hK hP hD hS ls hl
  have hl : lv_has ls 1 [(0, .int v)] := hl
  refine lv_iload_n S.1 S.2.1 dX5_isKind_0 rfl (lv_at hl 0 rfl) ?_
  refine lv_iconst (v := 0) S.1 S.2.1 dX5_isKind_1 (by decide) ?_
  refine lv_bipush (v := 6) S.1 S.2.1 dX5_isKind_2 (by decide) ?_
  refine go_S (run_S (As := [.int v, .int 0, .int 6]) (rest := []) (n := 3) S hK (bl_P hP [] rfl) (bl_D hD [] rfl rfl) (c_X5_within l E v 0 6 ) gS_X5_70 (by decide +kernel) rfl ⟨rfl, rfl⟩ ⟨Nat.le_of_ble_eq_true rfl, Nat.le_of_ble_eq_true rfl⟩ hl.1 (Nat.le_of_ble_eq_true rfl) dX5_isKind_4 ⟨Nat.zero_le _, Nat.zero_le _⟩) ?_
  exact retSZ S hr hlk bI_nar rfl dX5_isKind_7
set_option maxHeartbeats 4000000 in
set_option maxRecDepth 100000 in
theorem c_X5_potterIs (l : Launch) (E : EV) (am : Nat → Nat) (q r : Row) (i f : Nat) (hi : i < 8) (hf : f < 7) : Met l yX5_potterIs (wq yX5_potterIs cX5_potterIs 3 (some .int)) ({ frames := 1, cells := 0, slots := 0, locals := 21 }) (preB E [.ref (am 0), .int (nI i), .int (nI f)] [[mObj am q], [(am 1, .inl (E.2.1, 77, .inl (sg r 77)))]]) (qS (r (21 + 7 * i + f))) 0 0 (fun _ => False) := by
  refine M_mk RX5 (by decide) rfl (Nat.le_of_ble_eq_true rfl) ?_
  intro p e s m below meth c S hr hlk hK hP hD hS ls hl
  have hl : lv_has ls 3 [(0, .ref (am 0)), (1, .int (nI i)), (2, .int (nI f))] := hl
  refine lv_aload_n S.1 S.2.1 dX5_potterIs_0 rfl (lv_at hl 0 rfl) ?_
  refine gf_X5_9 S hK hP 0 0 rfl rfl rfl dX5_potterIs_1 ?_
  refine lv_iload_n S.1 S.2.1 dX5_potterIs_4 rfl (lv_at hl 1 rfl) ?_
  refine lv_iload_n S.1 S.2.1 dX5_potterIs_5 rfl (lv_at hl 2 rfl) ?_
  refine go_S (run_S (As := [.int (nI i), .int (nI f)]) (rest := [.ref (am 1)]) (n := 2) S hK (bl_P hP [] rfl) (bl_D hD [] rfl rfl) (c_X5_potterAt l E i f ) gS_X5_82 (by decide +kernel) rfl ⟨rfl, rfl⟩ ⟨Nat.le_of_ble_eq_true rfl, Nat.le_of_ble_eq_true rfl⟩ hl.1 (Nat.le_of_ble_eq_true rfl) dX5_potterIs_6 ⟨Nat.zero_le _, Nat.zero_le _⟩) ?_
  refine b_ialdN (i := 21 + 7 * i + f) S hK hP 1 0 rfl rfl (by omega) (by decide) dX5_potterIs_9 ?_
  refine lv_eqi (y := r (21 + 7 * i + f)) (sg_at (by omega)) ?_
  exact retS S hr hlk rfl dX5_potterIs_10
set_option maxHeartbeats 4000000 in
set_option maxRecDepth 100000 in
theorem c_X5_cries (l : Launch) (E : EV) (am : Nat → Nat) (q r : Row) (i : Nat) (hi : i < 8) : Met l yX5_cries (wq yX5_cries cX5_cries 3 (some .int)) ({ frames := 2, cells := 0, slots := 0, locals := 43 }) (preB E [.ref (am 0), .int (nI i)] [[mObj am q], [(am 1, .inl (E.2.1, 77, .inl (sg r 77)))]]) (qS (criesR r i)) 0 0 (fun _ => False) := by
  refine M_mk RX5 (by decide) rfl (Nat.le_of_ble_eq_true rfl) ?_
  intro p e s m below meth c S hr hlk hK hP hD hS ls hl
  have hl : lv_has ls 3 [(0, .ref (am 0)), (1, .int (nI i))] := hl
  refine lv_aload_n S.1 S.2.1 dX5_cries_0 rfl (lv_at hl 0 rfl) ?_
  refine lv_iload_n S.1 S.2.1 dX5_cries_1 rfl (lv_at hl 1 rfl) ?_
  refine lv_iconst (v := 1) S.1 S.2.1 dX5_cries_2 (by decide) ?_
  refine go_S (run_V (As := [.int (nI i), .int 1]) (rest := []) (n := 2) S hK (bl_P hP [0, 1] rfl) (bl_D hD [0, 1] rfl rfl) (c_X5_potterIs l E am q r i 1 (by omega) (by omega)) gV_X5_92 (by decide +kernel) rfl ⟨rfl, rfl⟩ ⟨Nat.le_of_ble_eq_true rfl, Nat.le_of_ble_eq_true rfl⟩ (ci := 5) (q0 := 0) rfl rfl hl.1 (Nat.le_of_ble_eq_true rfl) dX5_cries_3 ⟨Nat.zero_le _, Nat.zero_le _⟩) ?_
  refine lv_bipush (v := 10) S.1 S.2.1 dX5_cries_6 (by decide) ?_
  refine lv_idiv S.1 S.2.1 dX5_cries_8 (by decide) ?_
  refine lv_istore_n (lv' := [(2, .int ((r (21 + 7 * i + 1)) / 10)), (0, .ref (am 0)), (1, .int (nI i))]) S.1 S.2.1 dX5_cries_9 rfl hl (by decide) rfl (fun ls hl => ?_)
  refine lv_aload_n S.1 S.2.1 dX5_cries_10 rfl (lv_at hl 1 rfl) ?_
  refine lv_iload_n S.1 S.2.1 dX5_cries_11 rfl (lv_at hl 2 rfl) ?_
  refine lv_iconst (v := 0) S.1 S.2.1 dX5_cries_12 (by decide) ?_
  refine go_S (run_V (As := [.int (nI i), .int 0]) (rest := []) (n := 2) S hK (bl_P hP [0, 1] rfl) (bl_D hD [0, 1] rfl rfl) (c_X5_potterIs l E am q r i 0 (by omega) (by omega)) gV_X5_92 (by decide +kernel) rfl ⟨rfl, rfl⟩ ⟨Nat.le_of_ble_eq_true rfl, Nat.le_of_ble_eq_true rfl⟩ (ci := 5) (q0 := 0) rfl rfl hl.1 (Nat.le_of_ble_eq_true rfl) dX5_cries_13 ⟨Nat.zero_le _, Nat.zero_le _⟩) ?_
  refine lv_eqi (y := r (21 + 7 * i)) rfl ?_
  by_cases k_16_1 : r (21 + 7 * i) = 1
  · refine lv_tableIn (tgt := 56) S.1 S.2.1 dX5_cries_16 (by rw [k_16_1]; decide) (by rw [k_16_1]; decide) (by rw [k_16_1]; rfl) (by decide) ?_
    refine lv_aload_n S.1 S.2.1 dX5_cries_56 rfl (lv_at hl 1 rfl) ?_
    refine gf_X5_9 S hK hP 0 0 rfl rfl rfl dX5_cries_57 ?_
    refine lv_iconst (v := 3) S.1 S.2.1 dX5_cries_60 (by decide) ?_
    refine b_ialdN (i := 3) S hK hP 1 0 rfl rfl (by omega) (by decide) dX5_cries_61 ?_
    refine lv_eqi (y := r 3) (sg_at (by omega)) ?_
    refine lv_if_le (tgt := 71) S.1 S.2.1 dX5_cries_62 (by decide) (fun c_62 => ?_) (fun c_62 => ?_)
    · have n_62 := Int32.not_lt.mpr c_62
      refine lv_iload_n S.1 S.2.1 dX5_cries_71 rfl (lv_at hl 0 rfl) ?_
      exact retS S hr hlk (by first | (simp only [criesR, criesV, eq_true k_16_1, c_62, n_62, ↓reduceIte]; done) | (simp [criesR, criesV, eq_true k_16_1, c_62, n_62, ↓reduceIte]; done) | (simp [criesR, criesV, k_16_1, c_62, n_62]; done)) dX5_cries_72
    · have n_62 := Int32.not_le.mp c_62
      refine lv_iload_n S.1 S.2.1 dX5_cries_65 rfl (lv_at hl 0 rfl) ?_
      refine lv_iconst (v := 3) S.1 S.2.1 dX5_cries_66 (by decide) ?_
      refine lv_iadd S.1 S.2.1 dX5_cries_67 ?_
      refine lv_goto (tgt := 72) S.1 S.2.1 dX5_cries_68 (by decide) ?_
      exact retS S hr hlk (by first | (simp only [criesR, criesV, eq_true k_16_1, c_62, n_62, ↓reduceIte]; done) | (simp [criesR, criesV, eq_true k_16_1, c_62, n_62, ↓reduceIte]; done) | (simp [criesR, criesV, k_16_1, c_62, n_62]; done)) dX5_cries_72
  by_cases k_16_2 : r (21 + 7 * i) = 2
  · refine lv_tableIn (tgt := 73) S.1 S.2.1 dX5_cries_16 (by rw [k_16_2]; decide) (by rw [k_16_2]; decide) (by rw [k_16_2]; rfl) (by decide) ?_
    refine lv_iconst (v := 2) S.1 S.2.1 dX5_cries_73 (by decide) ?_
    refine lv_iload_n S.1 S.2.1 dX5_cries_74 rfl (lv_at hl 0 rfl) ?_
    refine lv_imul S.1 S.2.1 dX5_cries_75 ?_
    exact retS S hr hlk (by first | (simp only [criesR, criesV, eq_true k_16_2, k_16_1, ↓reduceIte]; done) | (simp [criesR, criesV, eq_true k_16_2, k_16_1, ↓reduceIte]; done) | (simp [criesR, criesV, k_16_2, k_16_1]; done)) dX5_cries_76
  by_cases k_16_3 : r (21 + 7 * i) = 3
  · refine lv_tableIn (tgt := 77) S.1 S.2.1 dX5_cries_16 (by rw [k_16_3]; decide) (by rw [k_16_3]; decide) (by rw [k_16_3]; rfl) (by decide) ?_
    refine lv_iconst (v := 2) S.1 S.2.1 dX5_cries_77 (by decide) ?_
    refine lv_iload_n S.1 S.2.1 dX5_cries_78 rfl (lv_at hl 0 rfl) ?_
    refine lv_imul S.1 S.2.1 dX5_cries_79 ?_
    refine lv_iconst (v := 2) S.1 S.2.1 dX5_cries_80 (by decide) ?_
    refine lv_iadd S.1 S.2.1 dX5_cries_81 ?_
    exact retS S hr hlk (by first | (simp only [criesR, criesV, eq_true k_16_3, k_16_1, k_16_2, ↓reduceIte]; done) | (simp [criesR, criesV, eq_true k_16_3, k_16_1, k_16_2, ↓reduceIte]; done) | (simp [criesR, criesV, k_16_3, k_16_1, k_16_2]; done)) dX5_cries_82
  by_cases k_16_4 : r (21 + 7 * i) = 4
  · refine lv_tableIn (tgt := 83) S.1 S.2.1 dX5_cries_16 (by rw [k_16_4]; decide) (by rw [k_16_4]; decide) (by rw [k_16_4]; rfl) (by decide) ?_
    refine lv_aload_n S.1 S.2.1 dX5_cries_83 rfl (lv_at hl 1 rfl) ?_
    refine lv_iload_n S.1 S.2.1 dX5_cries_84 rfl (lv_at hl 2 rfl) ?_
    refine lv_iconst (v := 5) S.1 S.2.1 dX5_cries_85 (by decide) ?_
    refine go_S (run_V (As := [.int (nI i), .int 5]) (rest := []) (n := 2) S hK (bl_P hP [0, 1] rfl) (bl_D hD [0, 1] rfl rfl) (c_X5_potterIs l E am q r i 5 (by omega) (by omega)) gV_X5_92 (by decide +kernel) rfl ⟨rfl, rfl⟩ ⟨Nat.le_of_ble_eq_true rfl, Nat.le_of_ble_eq_true rfl⟩ (ci := 5) (q0 := 0) rfl rfl hl.1 (Nat.le_of_ble_eq_true rfl) dX5_cries_86 ⟨Nat.zero_le _, Nat.zero_le _⟩) ?_
    refine lv_bipush (v := 50) S.1 S.2.1 dX5_cries_89 (by decide) ?_
    refine lv_icmp_ge (tgt := 102) S.1 S.2.1 dX5_cries_91 (by decide) (fun c_91 => ?_) (fun c_91 => ?_)
    · have n_91 := Int32.not_lt.mpr c_91
      refine lv_iconst (v := 0) S.1 S.2.1 dX5_cries_102 (by decide) ?_
      exact retS S hr hlk (by first | (simp only [criesR, criesV, eq_true k_16_4, k_16_1, k_16_2, k_16_3, c_91, n_91, ↓reduceIte]; done) | (simp [criesR, criesV, eq_true k_16_4, k_16_1, k_16_2, k_16_3, c_91, n_91, ↓reduceIte]; done) | (simp [criesR, criesV, k_16_4, k_16_1, k_16_2, k_16_3, c_91, n_91]; done)) dX5_cries_103
    · have n_91 := Int32.not_le.mp c_91
      refine lv_iconst (v := 2) S.1 S.2.1 dX5_cries_94 (by decide) ?_
      refine lv_iload_n S.1 S.2.1 dX5_cries_95 rfl (lv_at hl 0 rfl) ?_
      refine lv_imul S.1 S.2.1 dX5_cries_96 ?_
      refine lv_iconst (v := 2) S.1 S.2.1 dX5_cries_97 (by decide) ?_
      refine lv_iadd S.1 S.2.1 dX5_cries_98 ?_
      refine lv_goto (tgt := 103) S.1 S.2.1 dX5_cries_99 (by decide) ?_
      exact retS S hr hlk (by first | (simp only [criesR, criesV, eq_true k_16_4, k_16_1, k_16_2, k_16_3, c_91, n_91, ↓reduceIte]; done) | (simp [criesR, criesV, eq_true k_16_4, k_16_1, k_16_2, k_16_3, c_91, n_91, ↓reduceIte]; done) | (simp [criesR, criesV, k_16_4, k_16_1, k_16_2, k_16_3, c_91, n_91]; done)) dX5_cries_103
  by_cases k_16_5 : r (21 + 7 * i) = 5
  · refine lv_tableIn (tgt := 104) S.1 S.2.1 dX5_cries_16 (by rw [k_16_5]; decide) (by rw [k_16_5]; decide) (by rw [k_16_5]; rfl) (by decide) ?_
    refine lv_iconst (v := 0) S.1 S.2.1 dX5_cries_104 (by decide) ?_
    exact retS S hr hlk (by first | (simp only [criesR, criesV, eq_true k_16_5, k_16_1, k_16_2, k_16_3, k_16_4, ↓reduceIte]; done) | (simp [criesR, criesV, eq_true k_16_5, k_16_1, k_16_2, k_16_3, k_16_4, ↓reduceIte]; done) | (simp [criesR, criesV, k_16_5, k_16_1, k_16_2, k_16_3, k_16_4]; done)) dX5_cries_105
  by_cases k_16_6 : r (21 + 7 * i) = 6
  · refine lv_tableIn (tgt := 104) S.1 S.2.1 dX5_cries_16 (by rw [k_16_6]; decide) (by rw [k_16_6]; decide) (by rw [k_16_6]; rfl) (by decide) ?_
    refine lv_iconst (v := 0) S.1 S.2.1 dX5_cries_104 (by decide) ?_
    exact retS S hr hlk (by first | (simp only [criesR, criesV, eq_true k_16_6, k_16_1, k_16_2, k_16_3, k_16_4, k_16_5, ↓reduceIte]; done) | (simp [criesR, criesV, eq_true k_16_6, k_16_1, k_16_2, k_16_3, k_16_4, k_16_5, ↓reduceIte]; done) | (simp [criesR, criesV, k_16_6, k_16_1, k_16_2, k_16_3, k_16_4, k_16_5]; done)) dX5_cries_105
  have t_16_1 := ne_toInt (n := 1) (by decide) k_16_1
  have t_16_2 := ne_toInt (n := 2) (by decide) k_16_2
  have t_16_3 := ne_toInt (n := 3) (by decide) k_16_3
  have t_16_4 := ne_toInt (n := 4) (by decide) k_16_4
  have t_16_5 := ne_toInt (n := 5) (by decide) k_16_5
  have t_16_6 := ne_toInt (n := 6) (by decide) k_16_6
  refine lv_tableOut (tgt := 106) S.1 S.2.1 dX5_cries_16 (by omega) (by decide) ?_
  refine lv_iload_n S.1 S.2.1 dX5_cries_106 rfl (lv_at hl 0 rfl) ?_
  exact retS S hr hlk (by first | (simp only [criesR, criesV, k_16_1, k_16_2, k_16_3, k_16_4, k_16_5, k_16_6, ↓reduceIte]; done) | (simp [criesR, criesV, k_16_1, k_16_2, k_16_3, k_16_4, k_16_5, k_16_6, ↓reduceIte]; done) | (simp [criesR, criesV, k_16_1, k_16_2, k_16_3, k_16_4, k_16_5, k_16_6]; done)) dX5_cries_107
set_option maxHeartbeats 4000000 in
set_option maxRecDepth 100000 in
theorem c_X5_needs (l : Launch) (E : EV) (am : Nat → Nat) (q r : Row) (i : Nat) (hi : i < 8) : Met l yX5_needs (wq yX5_needs cX5_needs 2 (some .int)) ({ frames := 2, cells := 0, slots := 0, locals := 43 }) (preB E [.ref (am 0), .int (nI i)] [[mObj am q], [(am 1, .inl (E.2.1, 77, .inl (sg r 77)))]]) (qS (needsR r i)) 0 0 (fun _ => False) := by
  refine M_mk RX5 (by decide) rfl (Nat.le_of_ble_eq_true rfl) ?_
  intro p e s m below meth c S hr hlk hK hP hD hS ls hl
  have hl : lv_has ls 2 [(0, .ref (am 0)), (1, .int (nI i))] := hl
  refine lv_aload_n S.1 S.2.1 dX5_needs_0 rfl (lv_at hl 0 rfl) ?_
  refine lv_iload_n S.1 S.2.1 dX5_needs_1 rfl (lv_at hl 1 rfl) ?_
  refine lv_iconst (v := 0) S.1 S.2.1 dX5_needs_2 (by decide) ?_
  refine go_S (run_V (As := [.int (nI i), .int 0]) (rest := []) (n := 2) S hK (bl_P hP [0, 1] rfl) (bl_D hD [0, 1] rfl rfl) (c_X5_potterIs l E am q r i 0 (by omega) (by omega)) gV_X5_92 (by decide +kernel) rfl ⟨rfl, rfl⟩ ⟨Nat.le_of_ble_eq_true rfl, Nat.le_of_ble_eq_true rfl⟩ (ci := 5) (q0 := 0) rfl rfl hl.1 (Nat.le_of_ble_eq_true rfl) dX5_needs_3 ⟨Nat.zero_le _, Nat.zero_le _⟩) ?_
  refine lv_eqi (y := r (21 + 7 * i)) rfl ?_
  by_cases k_6_1 : r (21 + 7 * i) = 1
  · refine lv_tableIn (tgt := 44) S.1 S.2.1 dX5_needs_6 (by rw [k_6_1]; decide) (by rw [k_6_1]; decide) (by rw [k_6_1]; rfl) (by decide) ?_
    refine lv_bipush (v := 30) S.1 S.2.1 dX5_needs_44 (by decide) ?_
    exact retS S hr hlk (by first | (simp only [needsR, needsV, eq_true k_6_1, ↓reduceIte]; done) | (simp [needsR, needsV, eq_true k_6_1, ↓reduceIte]; done) | (simp [needsR, needsV, k_6_1]; done)) dX5_needs_46
  by_cases k_6_2 : r (21 + 7 * i) = 2
  · refine lv_tableIn (tgt := 47) S.1 S.2.1 dX5_needs_6 (by rw [k_6_2]; decide) (by rw [k_6_2]; decide) (by rw [k_6_2]; rfl) (by decide) ?_
    refine lv_bipush (v := 50) S.1 S.2.1 dX5_needs_47 (by decide) ?_
    exact retS S hr hlk (by first | (simp only [needsR, needsV, eq_true k_6_2, k_6_1, ↓reduceIte]; done) | (simp [needsR, needsV, eq_true k_6_2, k_6_1, ↓reduceIte]; done) | (simp [needsR, needsV, k_6_2, k_6_1]; done)) dX5_needs_49
  by_cases k_6_3 : r (21 + 7 * i) = 3
  · refine lv_tableIn (tgt := 47) S.1 S.2.1 dX5_needs_6 (by rw [k_6_3]; decide) (by rw [k_6_3]; decide) (by rw [k_6_3]; rfl) (by decide) ?_
    refine lv_bipush (v := 50) S.1 S.2.1 dX5_needs_47 (by decide) ?_
    exact retS S hr hlk (by first | (simp only [needsR, needsV, eq_true k_6_3, k_6_1, k_6_2, ↓reduceIte]; done) | (simp [needsR, needsV, eq_true k_6_3, k_6_1, k_6_2, ↓reduceIte]; done) | (simp [needsR, needsV, k_6_3, k_6_1, k_6_2]; done)) dX5_needs_49
  by_cases k_6_4 : r (21 + 7 * i) = 4
  · refine lv_tableIn (tgt := 44) S.1 S.2.1 dX5_needs_6 (by rw [k_6_4]; decide) (by rw [k_6_4]; decide) (by rw [k_6_4]; rfl) (by decide) ?_
    refine lv_bipush (v := 30) S.1 S.2.1 dX5_needs_44 (by decide) ?_
    exact retS S hr hlk (by first | (simp only [needsR, needsV, eq_true k_6_4, k_6_1, k_6_2, k_6_3, ↓reduceIte]; done) | (simp [needsR, needsV, eq_true k_6_4, k_6_1, k_6_2, k_6_3, ↓reduceIte]; done) | (simp [needsR, needsV, k_6_4, k_6_1, k_6_2, k_6_3]; done)) dX5_needs_46
  by_cases k_6_5 : r (21 + 7 * i) = 5
  · refine lv_tableIn (tgt := 50) S.1 S.2.1 dX5_needs_6 (by rw [k_6_5]; decide) (by rw [k_6_5]; decide) (by rw [k_6_5]; rfl) (by decide) ?_
    refine lv_bipush (v := 60) S.1 S.2.1 dX5_needs_50 (by decide) ?_
    exact retS S hr hlk (by first | (simp only [needsR, needsV, eq_true k_6_5, k_6_1, k_6_2, k_6_3, k_6_4, ↓reduceIte]; done) | (simp [needsR, needsV, eq_true k_6_5, k_6_1, k_6_2, k_6_3, k_6_4, ↓reduceIte]; done) | (simp [needsR, needsV, k_6_5, k_6_1, k_6_2, k_6_3, k_6_4]; done)) dX5_needs_52
  by_cases k_6_6 : r (21 + 7 * i) = 6
  · refine lv_tableIn (tgt := 47) S.1 S.2.1 dX5_needs_6 (by rw [k_6_6]; decide) (by rw [k_6_6]; decide) (by rw [k_6_6]; rfl) (by decide) ?_
    refine lv_bipush (v := 50) S.1 S.2.1 dX5_needs_47 (by decide) ?_
    exact retS S hr hlk (by first | (simp only [needsR, needsV, eq_true k_6_6, k_6_1, k_6_2, k_6_3, k_6_4, k_6_5, ↓reduceIte]; done) | (simp [needsR, needsV, eq_true k_6_6, k_6_1, k_6_2, k_6_3, k_6_4, k_6_5, ↓reduceIte]; done) | (simp [needsR, needsV, k_6_6, k_6_1, k_6_2, k_6_3, k_6_4, k_6_5]; done)) dX5_needs_49
  have t_6_1 := ne_toInt (n := 1) (by decide) k_6_1
  have t_6_2 := ne_toInt (n := 2) (by decide) k_6_2
  have t_6_3 := ne_toInt (n := 3) (by decide) k_6_3
  have t_6_4 := ne_toInt (n := 4) (by decide) k_6_4
  have t_6_5 := ne_toInt (n := 5) (by decide) k_6_5
  have t_6_6 := ne_toInt (n := 6) (by decide) k_6_6
  refine lv_tableOut (tgt := 53) S.1 S.2.1 dX5_needs_6 (by omega) (by decide) ?_
  refine lv_bipush (v := 40) S.1 S.2.1 dX5_needs_53 (by decide) ?_
  exact retS S hr hlk (by first | (simp only [needsR, needsV, k_6_1, k_6_2, k_6_3, k_6_4, k_6_5, k_6_6, ↓reduceIte]; done) | (simp [needsR, needsV, k_6_1, k_6_2, k_6_3, k_6_4, k_6_5, k_6_6, ↓reduceIte]; done) | (simp [needsR, needsV, k_6_1, k_6_2, k_6_3, k_6_4, k_6_5, k_6_6]; done)) dX5_needs_55
set_option maxHeartbeats 4000000 in
set_option maxRecDepth 100000 in
theorem c_X5_heals (l : Launch) (E : EV) (am : Nat → Nat) (q r : Row) (i : Nat) (hi : i < 8) : Met l yX5_heals (wq yX5_heals cX5_heals 2 (some .int)) ({ frames := 2, cells := 0, slots := 0, locals := 43 }) (preB E [.ref (am 0), .int (nI i)] [[mObj am q], [(am 1, .inl (E.2.1, 77, .inl (sg r 77)))]]) (qS (healsR r i)) 0 0 (fun _ => False) := by
  refine M_mk RX5 (by decide) rfl (Nat.le_of_ble_eq_true rfl) ?_
  intro p e s m below meth c S hr hlk hK hP hD hS ls hl
  have hl : lv_has ls 2 [(0, .ref (am 0)), (1, .int (nI i))] := hl
  refine lv_aload_n S.1 S.2.1 dX5_heals_0 rfl (lv_at hl 0 rfl) ?_
  refine lv_iload_n S.1 S.2.1 dX5_heals_1 rfl (lv_at hl 1 rfl) ?_
  refine lv_iconst (v := 0) S.1 S.2.1 dX5_heals_2 (by decide) ?_
  refine go_S (run_V (As := [.int (nI i), .int 0]) (rest := []) (n := 2) S hK (bl_P hP [0, 1] rfl) (bl_D hD [0, 1] rfl rfl) (c_X5_potterIs l E am q r i 0 (by omega) (by omega)) gV_X5_92 (by decide +kernel) rfl ⟨rfl, rfl⟩ ⟨Nat.le_of_ble_eq_true rfl, Nat.le_of_ble_eq_true rfl⟩ (ci := 5) (q0 := 0) rfl rfl hl.1 (Nat.le_of_ble_eq_true rfl) dX5_heals_3 ⟨Nat.zero_le _, Nat.zero_le _⟩) ?_
  refine lv_eqi (y := r (21 + 7 * i)) rfl ?_
  by_cases k_6_1 : r (21 + 7 * i) = 1
  · refine lv_tableIn (tgt := 44) S.1 S.2.1 dX5_heals_6 (by rw [k_6_1]; decide) (by rw [k_6_1]; decide) (by rw [k_6_1]; rfl) (by decide) ?_
    refine lv_iconst (v := 2) S.1 S.2.1 dX5_heals_44 (by decide) ?_
    exact retS S hr hlk (by first | (simp only [healsR, healsV, eq_true k_6_1, ↓reduceIte]; done) | (simp [healsR, healsV, eq_true k_6_1, ↓reduceIte]; done) | (simp [healsR, healsV, k_6_1]; done)) dX5_heals_45
  by_cases k_6_2 : r (21 + 7 * i) = 2
  · refine lv_tableIn (tgt := 50) S.1 S.2.1 dX5_heals_6 (by rw [k_6_2]; decide) (by rw [k_6_2]; decide) (by rw [k_6_2]; rfl) (by decide) ?_
    refine lv_iconst (v := 1) S.1 S.2.1 dX5_heals_50 (by decide) ?_
    exact retS S hr hlk (by first | (simp only [healsR, healsV, eq_true k_6_2, k_6_1, ↓reduceIte]; done) | (simp [healsR, healsV, eq_true k_6_2, k_6_1, ↓reduceIte]; done) | (simp [healsR, healsV, k_6_2, k_6_1]; done)) dX5_heals_51
  by_cases k_6_3 : r (21 + 7 * i) = 3
  · refine lv_tableIn (tgt := 46) S.1 S.2.1 dX5_heals_6 (by rw [k_6_3]; decide) (by rw [k_6_3]; decide) (by rw [k_6_3]; rfl) (by decide) ?_
    refine lv_iconst (v := 0) S.1 S.2.1 dX5_heals_46 (by decide) ?_
    exact retS S hr hlk (by first | (simp only [healsR, healsV, eq_true k_6_3, k_6_1, k_6_2, ↓reduceIte]; done) | (simp [healsR, healsV, eq_true k_6_3, k_6_1, k_6_2, ↓reduceIte]; done) | (simp [healsR, healsV, k_6_3, k_6_1, k_6_2]; done)) dX5_heals_47
  by_cases k_6_4 : r (21 + 7 * i) = 4
  · refine lv_tableIn (tgt := 46) S.1 S.2.1 dX5_heals_6 (by rw [k_6_4]; decide) (by rw [k_6_4]; decide) (by rw [k_6_4]; rfl) (by decide) ?_
    refine lv_iconst (v := 0) S.1 S.2.1 dX5_heals_46 (by decide) ?_
    exact retS S hr hlk (by first | (simp only [healsR, healsV, eq_true k_6_4, k_6_1, k_6_2, k_6_3, ↓reduceIte]; done) | (simp [healsR, healsV, eq_true k_6_4, k_6_1, k_6_2, k_6_3, ↓reduceIte]; done) | (simp [healsR, healsV, k_6_4, k_6_1, k_6_2, k_6_3]; done)) dX5_heals_47
  by_cases k_6_5 : r (21 + 7 * i) = 5
  · refine lv_tableIn (tgt := 48) S.1 S.2.1 dX5_heals_6 (by rw [k_6_5]; decide) (by rw [k_6_5]; decide) (by rw [k_6_5]; rfl) (by decide) ?_
    refine lv_iconst (v := 5) S.1 S.2.1 dX5_heals_48 (by decide) ?_
    exact retS S hr hlk (by first | (simp only [healsR, healsV, eq_true k_6_5, k_6_1, k_6_2, k_6_3, k_6_4, ↓reduceIte]; done) | (simp [healsR, healsV, eq_true k_6_5, k_6_1, k_6_2, k_6_3, k_6_4, ↓reduceIte]; done) | (simp [healsR, healsV, k_6_5, k_6_1, k_6_2, k_6_3, k_6_4]; done)) dX5_heals_49
  by_cases k_6_6 : r (21 + 7 * i) = 6
  · refine lv_tableIn (tgt := 44) S.1 S.2.1 dX5_heals_6 (by rw [k_6_6]; decide) (by rw [k_6_6]; decide) (by rw [k_6_6]; rfl) (by decide) ?_
    refine lv_iconst (v := 2) S.1 S.2.1 dX5_heals_44 (by decide) ?_
    exact retS S hr hlk (by first | (simp only [healsR, healsV, eq_true k_6_6, k_6_1, k_6_2, k_6_3, k_6_4, k_6_5, ↓reduceIte]; done) | (simp [healsR, healsV, eq_true k_6_6, k_6_1, k_6_2, k_6_3, k_6_4, k_6_5, ↓reduceIte]; done) | (simp [healsR, healsV, k_6_6, k_6_1, k_6_2, k_6_3, k_6_4, k_6_5]; done)) dX5_heals_45
  have t_6_1 := ne_toInt (n := 1) (by decide) k_6_1
  have t_6_2 := ne_toInt (n := 2) (by decide) k_6_2
  have t_6_3 := ne_toInt (n := 3) (by decide) k_6_3
  have t_6_4 := ne_toInt (n := 4) (by decide) k_6_4
  have t_6_5 := ne_toInt (n := 5) (by decide) k_6_5
  have t_6_6 := ne_toInt (n := 6) (by decide) k_6_6
  refine lv_tableOut (tgt := 50) S.1 S.2.1 dX5_heals_6 (by omega) (by decide) ?_
  refine lv_iconst (v := 1) S.1 S.2.1 dX5_heals_50 (by decide) ?_
  exact retS S hr hlk (by first | (simp only [healsR, healsV, k_6_1, k_6_2, k_6_3, k_6_4, k_6_5, k_6_6, ↓reduceIte]; done) | (simp [healsR, healsV, k_6_1, k_6_2, k_6_3, k_6_4, k_6_5, k_6_6, ↓reduceIte]; done) | (simp [healsR, healsV, k_6_1, k_6_2, k_6_3, k_6_4, k_6_5, k_6_6]; done)) dX5_heals_51
set_option maxHeartbeats 4000000 in
set_option maxRecDepth 100000 in
theorem c_X5_tint (l : Launch) (E : EV) (am : Nat → Nat) (q r : Row) (i : Nat) (hi : i < 8) : Met l yX5_tint (wq yX5_tint cX5_tint 4 (some .int)) ({ frames := 2, cells := 0, slots := 0, locals := 43 }) (preB E [.ref (am 0), .int (nI i)] [[mObj am q], [(am 1, .inl (E.2.1, 77, .inl (sg r 77)))]]) (qS (tintR r i)) 0 0 (fun _ => False) := by
  refine M_mk RX5 (by decide) rfl (Nat.le_of_ble_eq_true rfl) ?_
  intro p e s m below meth c S hr hlk hK hP hD hS ls hl
  have hl : lv_has ls 4 [(0, .ref (am 0)), (1, .int (nI i))] := hl
  refine lv_aload_n S.1 S.2.1 dX5_tint_0 rfl (lv_at hl 0 rfl) ?_
  refine lv_iload_n S.1 S.2.1 dX5_tint_1 rfl (lv_at hl 1 rfl) ?_
  refine lv_iconst (v := 3) S.1 S.2.1 dX5_tint_2 (by decide) ?_
  refine go_S (run_V (As := [.int (nI i), .int 3]) (rest := []) (n := 2) S hK (bl_P hP [0, 1] rfl) (bl_D hD [0, 1] rfl rfl) (c_X5_potterIs l E am q r i 3 (by omega) (by omega)) gV_X5_92 (by decide +kernel) rfl ⟨rfl, rfl⟩ ⟨Nat.le_of_ble_eq_true rfl, Nat.le_of_ble_eq_true rfl⟩ (ci := 5) (q0 := 0) rfl rfl hl.1 (Nat.le_of_ble_eq_true rfl) dX5_tint_3 ⟨Nat.zero_le _, Nat.zero_le _⟩) ?_
  refine lv_istore_n (lv' := [(2, .int (r (21 + 7 * i + 3))), (0, .ref (am 0)), (1, .int (nI i))]) S.1 S.2.1 dX5_tint_6 rfl hl (by decide) rfl (fun ls hl => ?_)
  refine lv_iload_n S.1 S.2.1 dX5_tint_7 rfl (lv_at hl 0 rfl) ?_
  refine lv_bipush (v := 10) S.1 S.2.1 dX5_tint_8 (by decide) ?_
  refine lv_idiv S.1 S.2.1 dX5_tint_10 (by decide) ?_
  refine lv_bipush (v := 8) S.1 S.2.1 dX5_tint_11 (by decide) ?_
  refine lv_irem S.1 S.2.1 dX5_tint_13 (by decide) ?_
  refine lv_istore_n (lv' := [(3, .int (((r (21 + 7 * i + 3)) / 10) - ((r (21 + 7 * i + 3)) / 10) / 8 * 8)), (2, .int (r (21 + 7 * i + 3))), (0, .ref (am 0)), (1, .int (nI i))]) S.1 S.2.1 dX5_tint_14 rfl hl (by decide) rfl (fun ls hl => ?_)
  refine lv_aload_n S.1 S.2.1 dX5_tint_15 rfl (lv_at hl 2 rfl) ?_
  refine lv_iload_n S.1 S.2.1 dX5_tint_16 rfl (lv_at hl 3 rfl) ?_
  refine lv_iconst (v := 0) S.1 S.2.1 dX5_tint_17 (by decide) ?_
  refine go_S (run_V (As := [.int (nI i), .int 0]) (rest := []) (n := 2) S hK (bl_P hP [0, 1] rfl) (bl_D hD [0, 1] rfl rfl) (c_X5_potterIs l E am q r i 0 (by omega) (by omega)) gV_X5_92 (by decide +kernel) rfl ⟨rfl, rfl⟩ ⟨Nat.le_of_ble_eq_true rfl, Nat.le_of_ble_eq_true rfl⟩ (ci := 5) (q0 := 0) rfl rfl hl.1 (Nat.le_of_ble_eq_true rfl) dX5_tint_18 ⟨Nat.zero_le _, Nat.zero_le _⟩) ?_
  refine lv_eqi (y := r (21 + 7 * i)) rfl ?_
  by_cases k_21_2 : r (21 + 7 * i) = 2
  · refine lv_tableIn (tgt := 56) S.1 S.2.1 dX5_tint_21 (by rw [k_21_2]; decide) (by rw [k_21_2]; decide) (by rw [k_21_2]; rfl) (by decide) ?_
    refine lv_iload_n S.1 S.2.1 dX5_tint_56 rfl (lv_at hl 0 rfl) ?_
    refine lv_iconst (v := 3) S.1 S.2.1 dX5_tint_57 (by decide) ?_
    refine lv_iadd S.1 S.2.1 dX5_tint_58 ?_
    refine lv_bipush (v := 8) S.1 S.2.1 dX5_tint_59 (by decide) ?_
    refine lv_irem S.1 S.2.1 dX5_tint_61 (by decide) ?_
    exact retS S hr hlk (by first | (simp only [tintR, tintV, eight, eq_true k_21_2, ↓reduceIte]; done) | (simp [tintR, tintV, eight, eq_true k_21_2, ↓reduceIte]; done) | (simp [tintR, tintV, eight, k_21_2]; done)) dX5_tint_62
  by_cases k_21_3 : r (21 + 7 * i) = 3
  · refine lv_tableIn (tgt := 56) S.1 S.2.1 dX5_tint_21 (by rw [k_21_3]; decide) (by rw [k_21_3]; decide) (by rw [k_21_3]; rfl) (by decide) ?_
    refine lv_iload_n S.1 S.2.1 dX5_tint_56 rfl (lv_at hl 0 rfl) ?_
    refine lv_iconst (v := 3) S.1 S.2.1 dX5_tint_57 (by decide) ?_
    refine lv_iadd S.1 S.2.1 dX5_tint_58 ?_
    refine lv_bipush (v := 8) S.1 S.2.1 dX5_tint_59 (by decide) ?_
    refine lv_irem S.1 S.2.1 dX5_tint_61 (by decide) ?_
    exact retS S hr hlk (by first | (simp only [tintR, tintV, eight, eq_true k_21_3, k_21_2, ↓reduceIte]; done) | (simp [tintR, tintV, eight, eq_true k_21_3, k_21_2, ↓reduceIte]; done) | (simp [tintR, tintV, eight, k_21_3, k_21_2]; done)) dX5_tint_62
  by_cases k_21_4 : r (21 + 7 * i) = 4
  · refine lv_tableIn (tgt := 63) S.1 S.2.1 dX5_tint_21 (by rw [k_21_4]; decide) (by rw [k_21_4]; decide) (by rw [k_21_4]; rfl) (by decide) ?_
    refine lv_aload_n S.1 S.2.1 dX5_tint_63 rfl (lv_at hl 2 rfl) ?_
    refine lv_iload_n S.1 S.2.1 dX5_tint_64 rfl (lv_at hl 3 rfl) ?_
    refine lv_iconst (v := 1) S.1 S.2.1 dX5_tint_65 (by decide) ?_
    refine go_S (run_V (As := [.int (nI i), .int 1]) (rest := []) (n := 2) S hK (bl_P hP [0, 1] rfl) (bl_D hD [0, 1] rfl rfl) (c_X5_potterIs l E am q r i 1 (by omega) (by omega)) gV_X5_92 (by decide +kernel) rfl ⟨rfl, rfl⟩ ⟨Nat.le_of_ble_eq_true rfl, Nat.le_of_ble_eq_true rfl⟩ (ci := 5) (q0 := 0) rfl rfl hl.1 (Nat.le_of_ble_eq_true rfl) dX5_tint_66 ⟨Nat.zero_le _, Nat.zero_le _⟩) ?_
    refine lv_bipush (v := 50) S.1 S.2.1 dX5_tint_69 (by decide) ?_
    refine lv_icmp_ge (tgt := 78) S.1 S.2.1 dX5_tint_71 (by decide) (fun c_71 => ?_) (fun c_71 => ?_)
    · have n_71 := Int32.not_lt.mpr c_71
      refine lv_iconst (v := 1) S.1 S.2.1 dX5_tint_78 (by decide) ?_
      exact retS S hr hlk (by first | (simp only [tintR, tintV, eight, eq_true k_21_4, k_21_2, k_21_3, c_71, n_71, ↓reduceIte]; done) | (simp [tintR, tintV, eight, eq_true k_21_4, k_21_2, k_21_3, c_71, n_71, ↓reduceIte]; done) | (simp [tintR, tintV, eight, k_21_4, k_21_2, k_21_3, c_71, n_71]; done)) dX5_tint_79
    · have n_71 := Int32.not_le.mp c_71
      refine lv_iconst (v := 0) S.1 S.2.1 dX5_tint_74 (by decide) ?_
      refine lv_goto (tgt := 79) S.1 S.2.1 dX5_tint_75 (by decide) ?_
      exact retS S hr hlk (by first | (simp only [tintR, tintV, eight, eq_true k_21_4, k_21_2, k_21_3, c_71, n_71, ↓reduceIte]; done) | (simp [tintR, tintV, eight, eq_true k_21_4, k_21_2, k_21_3, c_71, n_71, ↓reduceIte]; done) | (simp [tintR, tintV, eight, k_21_4, k_21_2, k_21_3, c_71, n_71]; done)) dX5_tint_79
  by_cases k_21_5 : r (21 + 7 * i) = 5
  · refine lv_tableIn (tgt := 93) S.1 S.2.1 dX5_tint_21 (by rw [k_21_5]; decide) (by rw [k_21_5]; decide) (by rw [k_21_5]; rfl) (by decide) ?_
    refine lv_iload_n S.1 S.2.1 dX5_tint_93 rfl (lv_at hl 0 rfl) ?_
    exact retS S hr hlk (by first | (simp only [tintR, tintV, eight, eq_true k_21_5, k_21_2, k_21_3, k_21_4, ↓reduceIte]; done) | (simp [tintR, tintV, eight, eq_true k_21_5, k_21_2, k_21_3, k_21_4, ↓reduceIte]; done) | (simp [tintR, tintV, eight, k_21_5, k_21_2, k_21_3, k_21_4]; done)) dX5_tint_94
  by_cases k_21_6 : r (21 + 7 * i) = 6
  · refine lv_tableIn (tgt := 80) S.1 S.2.1 dX5_tint_21 (by rw [k_21_6]; decide) (by rw [k_21_6]; decide) (by rw [k_21_6]; rfl) (by decide) ?_
    refine lv_iload_n S.1 S.2.1 dX5_tint_80 rfl (lv_at hl 1 rfl) ?_
    refine lv_bipush (v := 100) S.1 S.2.1 dX5_tint_81 (by decide) ?_
    refine lv_icmp_ge (tgt := 90) S.1 S.2.1 dX5_tint_83 (by decide) (fun c_83 => ?_) (fun c_83 => ?_)
    · have n_83 := Int32.not_lt.mpr c_83
      refine lv_bipush (v := 7) S.1 S.2.1 dX5_tint_90 (by decide) ?_
      exact retS S hr hlk (by first | (simp only [tintR, tintV, eight, eq_true k_21_6, k_21_2, k_21_3, k_21_4, k_21_5, c_83, n_83, ↓reduceIte]; done) | (simp [tintR, tintV, eight, eq_true k_21_6, k_21_2, k_21_3, k_21_4, k_21_5, c_83, n_83, ↓reduceIte]; done) | (simp [tintR, tintV, eight, k_21_6, k_21_2, k_21_3, k_21_4, k_21_5, c_83, n_83]; done)) dX5_tint_92
    · have n_83 := Int32.not_le.mp c_83
      refine lv_iload_n S.1 S.2.1 dX5_tint_86 rfl (lv_at hl 0 rfl) ?_
      refine lv_goto (tgt := 92) S.1 S.2.1 dX5_tint_87 (by decide) ?_
      exact retS S hr hlk (by first | (simp only [tintR, tintV, eight, eq_true k_21_6, k_21_2, k_21_3, k_21_4, k_21_5, c_83, n_83, ↓reduceIte]; done) | (simp [tintR, tintV, eight, eq_true k_21_6, k_21_2, k_21_3, k_21_4, k_21_5, c_83, n_83, ↓reduceIte]; done) | (simp [tintR, tintV, eight, k_21_6, k_21_2, k_21_3, k_21_4, k_21_5, c_83, n_83]; done)) dX5_tint_92
  have t_21_2 := ne_toInt (n := 2) (by decide) k_21_2
  have t_21_3 := ne_toInt (n := 3) (by decide) k_21_3
  have t_21_4 := ne_toInt (n := 4) (by decide) k_21_4
  have t_21_5 := ne_toInt (n := 5) (by decide) k_21_5
  have t_21_6 := ne_toInt (n := 6) (by decide) k_21_6
  refine lv_tableOut (tgt := 93) S.1 S.2.1 dX5_tint_21 (by omega) (by decide) ?_
  refine lv_iload_n S.1 S.2.1 dX5_tint_93 rfl (lv_at hl 0 rfl) ?_
  exact retS S hr hlk (by first | (simp only [tintR, tintV, eight, k_21_2, k_21_3, k_21_4, k_21_5, k_21_6, ↓reduceIte]; done) | (simp [tintR, tintV, eight, k_21_2, k_21_3, k_21_4, k_21_5, k_21_6, ↓reduceIte]; done) | (simp [tintR, tintV, eight, k_21_2, k_21_3, k_21_4, k_21_5, k_21_6]; done)) dX5_tint_94
set_option maxHeartbeats 4000000 in
set_option maxRecDepth 100000 in
theorem c_X5_fetches (l : Launch) (E : EV) (am : Nat → Nat) (q r : Row) (i : Nat) (hi : i < 8) : Met l yX5_fetches (wq yX5_fetches cX5_fetches 3 (some .int)) ({ frames := 2, cells := 0, slots := 0, locals := 43 }) (preB E [.ref (am 0), .int (nI i)] [[mObj am q], [(am 1, .inl (E.2.1, 77, .inl (sg r 77)))]]) (qS (fetchesR r i)) 0 0 (fun _ => False) := by
  refine M_mk RX5 (by decide) rfl (Nat.le_of_ble_eq_true rfl) ?_
  intro p e s m below meth c S hr hlk hK hP hD hS ls hl
  have hl : lv_has ls 3 [(0, .ref (am 0)), (1, .int (nI i))] := hl
  refine lv_aload_n S.1 S.2.1 dX5_fetches_0 rfl (lv_at hl 0 rfl) ?_
  refine lv_iload_n S.1 S.2.1 dX5_fetches_1 rfl (lv_at hl 1 rfl) ?_
  refine lv_iconst (v := 4) S.1 S.2.1 dX5_fetches_2 (by decide) ?_
  refine go_S (run_V (As := [.int (nI i), .int 4]) (rest := []) (n := 2) S hK (bl_P hP [0, 1] rfl) (bl_D hD [0, 1] rfl rfl) (c_X5_potterIs l E am q r i 4 (by omega) (by omega)) gV_X5_92 (by decide +kernel) rfl ⟨rfl, rfl⟩ ⟨Nat.le_of_ble_eq_true rfl, Nat.le_of_ble_eq_true rfl⟩ (ci := 5) (q0 := 0) rfl rfl hl.1 (Nat.le_of_ble_eq_true rfl) dX5_fetches_3 ⟨Nat.zero_le _, Nat.zero_le _⟩) ?_
  refine lv_istore_n (lv' := [(2, .int (r (21 + 7 * i + 4))), (0, .ref (am 0)), (1, .int (nI i))]) S.1 S.2.1 dX5_fetches_6 rfl hl (by decide) rfl (fun ls hl => ?_)
  refine lv_aload_n S.1 S.2.1 dX5_fetches_7 rfl (lv_at hl 1 rfl) ?_
  refine lv_iload_n S.1 S.2.1 dX5_fetches_8 rfl (lv_at hl 2 rfl) ?_
  refine lv_iconst (v := 0) S.1 S.2.1 dX5_fetches_9 (by decide) ?_
  refine go_S (run_V (As := [.int (nI i), .int 0]) (rest := []) (n := 2) S hK (bl_P hP [0, 1] rfl) (bl_D hD [0, 1] rfl rfl) (c_X5_potterIs l E am q r i 0 (by omega) (by omega)) gV_X5_92 (by decide +kernel) rfl ⟨rfl, rfl⟩ ⟨Nat.le_of_ble_eq_true rfl, Nat.le_of_ble_eq_true rfl⟩ (ci := 5) (q0 := 0) rfl rfl hl.1 (Nat.le_of_ble_eq_true rfl) dX5_fetches_10 ⟨Nat.zero_le _, Nat.zero_le _⟩) ?_
  refine lv_eqi (y := r (21 + 7 * i)) rfl ?_
  by_cases k_13_1 : r (21 + 7 * i) = 1
  · refine lv_tableIn (tgt := 52) S.1 S.2.1 dX5_fetches_13 (by rw [k_13_1]; decide) (by rw [k_13_1]; decide) (by rw [k_13_1]; rfl) (by decide) ?_
    refine lv_iconst (v := 5) S.1 S.2.1 dX5_fetches_52 (by decide) ?_
    exact retS S hr hlk (by first | (simp only [fetchesR, fetchesV, eq_true k_13_1, ↓reduceIte]; done) | (simp [fetchesR, fetchesV, eq_true k_13_1, ↓reduceIte]; done) | (simp [fetchesR, fetchesV, k_13_1]; done)) dX5_fetches_53
  by_cases k_13_2 : r (21 + 7 * i) = 2
  · refine lv_tableIn (tgt := 54) S.1 S.2.1 dX5_fetches_13 (by rw [k_13_2]; decide) (by rw [k_13_2]; decide) (by rw [k_13_2]; rfl) (by decide) ?_
    refine lv_bipush (v := 20) S.1 S.2.1 dX5_fetches_54 (by decide) ?_
    refine lv_iload_n S.1 S.2.1 dX5_fetches_56 rfl (lv_at hl 0 rfl) ?_
    refine lv_iadd S.1 S.2.1 dX5_fetches_57 ?_
    exact retS S hr hlk (by first | (simp only [fetchesR, fetchesV, eq_true k_13_2, k_13_1, ↓reduceIte]; done) | (simp [fetchesR, fetchesV, eq_true k_13_2, k_13_1, ↓reduceIte]; done) | (simp [fetchesR, fetchesV, k_13_2, k_13_1]; done)) dX5_fetches_58
  by_cases k_13_3 : r (21 + 7 * i) = 3
  · refine lv_tableIn (tgt := 54) S.1 S.2.1 dX5_fetches_13 (by rw [k_13_3]; decide) (by rw [k_13_3]; decide) (by rw [k_13_3]; rfl) (by decide) ?_
    refine lv_bipush (v := 20) S.1 S.2.1 dX5_fetches_54 (by decide) ?_
    refine lv_iload_n S.1 S.2.1 dX5_fetches_56 rfl (lv_at hl 0 rfl) ?_
    refine lv_iadd S.1 S.2.1 dX5_fetches_57 ?_
    exact retS S hr hlk (by first | (simp only [fetchesR, fetchesV, eq_true k_13_3, k_13_1, k_13_2, ↓reduceIte]; done) | (simp [fetchesR, fetchesV, eq_true k_13_3, k_13_1, k_13_2, ↓reduceIte]; done) | (simp [fetchesR, fetchesV, k_13_3, k_13_1, k_13_2]; done)) dX5_fetches_58
  by_cases k_13_4 : r (21 + 7 * i) = 4
  · refine lv_tableIn (tgt := 59) S.1 S.2.1 dX5_fetches_13 (by rw [k_13_4]; decide) (by rw [k_13_4]; decide) (by rw [k_13_4]; rfl) (by decide) ?_
    refine lv_iconst (v := 3) S.1 S.2.1 dX5_fetches_59 (by decide) ?_
    refine lv_bipush (v := 20) S.1 S.2.1 dX5_fetches_60 (by decide) ?_
    refine lv_iload_n S.1 S.2.1 dX5_fetches_62 rfl (lv_at hl 0 rfl) ?_
    refine lv_iadd S.1 S.2.1 dX5_fetches_63 ?_
    refine lv_imul S.1 S.2.1 dX5_fetches_64 ?_
    exact retS S hr hlk (by first | (simp only [fetchesR, fetchesV, eq_true k_13_4, k_13_1, k_13_2, k_13_3, ↓reduceIte]; done) | (simp [fetchesR, fetchesV, eq_true k_13_4, k_13_1, k_13_2, k_13_3, ↓reduceIte]; done) | (simp [fetchesR, fetchesV, k_13_4, k_13_1, k_13_2, k_13_3]; done)) dX5_fetches_65
  by_cases k_13_5 : r (21 + 7 * i) = 5
  · refine lv_tableIn (tgt := 66) S.1 S.2.1 dX5_fetches_13 (by rw [k_13_5]; decide) (by rw [k_13_5]; decide) (by rw [k_13_5]; rfl) (by decide) ?_
    refine lv_iconst (v := 1) S.1 S.2.1 dX5_fetches_66 (by decide) ?_
    refine lv_iload_n S.1 S.2.1 dX5_fetches_67 rfl (lv_at hl 0 rfl) ?_
    refine lv_iadd S.1 S.2.1 dX5_fetches_68 ?_
    exact retS S hr hlk (by first | (simp only [fetchesR, fetchesV, eq_true k_13_5, k_13_1, k_13_2, k_13_3, k_13_4, ↓reduceIte]; done) | (simp [fetchesR, fetchesV, eq_true k_13_5, k_13_1, k_13_2, k_13_3, k_13_4, ↓reduceIte]; done) | (simp [fetchesR, fetchesV, k_13_5, k_13_1, k_13_2, k_13_3, k_13_4]; done)) dX5_fetches_69
  by_cases k_13_6 : r (21 + 7 * i) = 6
  · refine lv_tableIn (tgt := 70) S.1 S.2.1 dX5_fetches_13 (by rw [k_13_6]; decide) (by rw [k_13_6]; decide) (by rw [k_13_6]; rfl) (by decide) ?_
    refine lv_iload_n S.1 S.2.1 dX5_fetches_70 rfl (lv_at hl 0 rfl) ?_
    refine lv_bipush (v := 7) S.1 S.2.1 dX5_fetches_71 (by decide) ?_
    refine lv_icmp_ne (tgt := 81) S.1 S.2.1 dX5_fetches_73 (by decide) (fun c_73 => ?_) (fun c_73 => ?_)
    · refine lv_bipush (v := 10) S.1 S.2.1 dX5_fetches_81 (by decide) ?_
      exact retS S hr hlk (by first | (simp only [fetchesR, fetchesV, eq_true k_13_6, k_13_1, k_13_2, k_13_3, k_13_4, k_13_5, c_73, ↓reduceIte]; done) | (simp [fetchesR, fetchesV, eq_true k_13_6, k_13_1, k_13_2, k_13_3, k_13_4, k_13_5, c_73, ↓reduceIte]; done) | (simp [fetchesR, fetchesV, k_13_6, k_13_1, k_13_2, k_13_3, k_13_4, k_13_5, c_73]; done)) dX5_fetches_83
    · refine lv_bipush (v := 100) S.1 S.2.1 dX5_fetches_76 (by decide) ?_
      refine lv_goto (tgt := 83) S.1 S.2.1 dX5_fetches_78 (by decide) ?_
      exact retS S hr hlk (by first | (simp only [fetchesR, fetchesV, eq_true k_13_6, k_13_1, k_13_2, k_13_3, k_13_4, k_13_5, eq_true c_73, ↓reduceIte]; done) | (simp [fetchesR, fetchesV, eq_true k_13_6, k_13_1, k_13_2, k_13_3, k_13_4, k_13_5, eq_true c_73, ↓reduceIte]; done) | (simp [fetchesR, fetchesV, k_13_6, k_13_1, k_13_2, k_13_3, k_13_4, k_13_5, c_73]; done)) dX5_fetches_83
  have t_13_1 := ne_toInt (n := 1) (by decide) k_13_1
  have t_13_2 := ne_toInt (n := 2) (by decide) k_13_2
  have t_13_3 := ne_toInt (n := 3) (by decide) k_13_3
  have t_13_4 := ne_toInt (n := 4) (by decide) k_13_4
  have t_13_5 := ne_toInt (n := 5) (by decide) k_13_5
  have t_13_6 := ne_toInt (n := 6) (by decide) k_13_6
  refine lv_tableOut (tgt := 84) S.1 S.2.1 dX5_fetches_13 (by omega) (by decide) ?_
  refine lv_bipush (v := 10) S.1 S.2.1 dX5_fetches_84 (by decide) ?_
  refine lv_iload_n S.1 S.2.1 dX5_fetches_86 rfl (lv_at hl 0 rfl) ?_
  refine lv_iadd S.1 S.2.1 dX5_fetches_87 ?_
  exact retS S hr hlk (by first | (simp only [fetchesR, fetchesV, k_13_1, k_13_2, k_13_3, k_13_4, k_13_5, k_13_6, ↓reduceIte]; done) | (simp [fetchesR, fetchesV, k_13_1, k_13_2, k_13_3, k_13_4, k_13_5, k_13_6, ↓reduceIte]; done) | (simp [fetchesR, fetchesV, k_13_1, k_13_2, k_13_3, k_13_4, k_13_5, k_13_6]; done)) dX5_fetches_88
set_option maxHeartbeats 4000000 in
set_option maxRecDepth 100000 in
theorem c_X5_weathers (l : Launch) (E : EV) (am : Nat → Nat) (q r : Row) (i : Nat) (w : Int32) (hi : i < 8) (hh : le9 (r (21 + 7 * i + 2)) 9) (hw : le9 w 99) : Met l yX5_weathers (wq yX5_weathers cX5_weathers 7 (some .int)) ({ frames := 2, cells := 0, slots := 0, locals := 43 }) (preB E [.ref (am 0), .int (nI i), .int w] [[mObj am q], [(am 1, .inl (E.2.1, 77, .inl (sg r 77)))]]) (qS (weathersR r i w)) 0 0 (fun _ => False) := by
  refine M_mk RX5 (by decide) rfl (Nat.le_of_ble_eq_true rfl) ?_
  intro p e s m below meth c S hr hlk hK hP hD hS ls hl
  have hl : lv_has ls 7 [(0, .ref (am 0)), (1, .int (nI i)), (2, .int w)] := hl
  refine lv_iload_n S.1 S.2.1 dX5_weathers_0 rfl (lv_at hl 2 rfl) ?_
  refine lv_bipush (v := 10) S.1 S.2.1 dX5_weathers_1 (by decide) ?_
  refine lv_idiv S.1 S.2.1 dX5_weathers_3 (by decide) ?_
  refine lv_istore_n (lv' := [(3, .int (w / 10)), (0, .ref (am 0)), (1, .int (nI i)), (2, .int w)]) S.1 S.2.1 dX5_weathers_4 rfl hl (by decide) rfl (fun ls hl => ?_)
  refine lv_iload_n S.1 S.2.1 dX5_weathers_5 rfl (lv_at hl 3 rfl) ?_
  refine lv_bipush (v := 10) S.1 S.2.1 dX5_weathers_6 (by decide) ?_
  refine lv_irem S.1 S.2.1 dX5_weathers_8 (by decide) ?_
  refine lv_istore (lv' := [(4, .int (w - w / 10 * 10)), (3, .int (w / 10)), (0, .ref (am 0)), (1, .int (nI i)), (2, .int w)]) S.1 S.2.1 dX5_weathers_9 hl (by decide) rfl (fun ls hl => ?_)
  refine lv_aload_n S.1 S.2.1 dX5_weathers_11 rfl (lv_at hl 2 rfl) ?_
  refine lv_iload_n S.1 S.2.1 dX5_weathers_12 rfl (lv_at hl 3 rfl) ?_
  refine lv_iconst (v := 2) S.1 S.2.1 dX5_weathers_13 (by decide) ?_
  refine go_S (run_V (As := [.int (nI i), .int 2]) (rest := []) (n := 2) S hK (bl_P hP [0, 1] rfl) (bl_D hD [0, 1] rfl rfl) (c_X5_potterIs l E am q r i 2 (by omega) (by omega)) gV_X5_92 (by decide +kernel) rfl ⟨rfl, rfl⟩ ⟨Nat.le_of_ble_eq_true rfl, Nat.le_of_ble_eq_true rfl⟩ (ci := 5) (q0 := 0) rfl rfl hl.1 (Nat.le_of_ble_eq_true rfl) dX5_weathers_14 ⟨Nat.zero_le _, Nat.zero_le _⟩) ?_
  refine lv_istore (lv' := [(5, .int (r (21 + 7 * i + 2))), (4, .int (w - w / 10 * 10)), (3, .int (w / 10)), (0, .ref (am 0)), (1, .int (nI i)), (2, .int w)]) S.1 S.2.1 dX5_weathers_17 hl (by decide) rfl (fun ls hl => ?_)
  refine lv_iload S.1 S.2.1 dX5_weathers_19 (lv_at hl 0 rfl) ?_
  refine lv_iload_n S.1 S.2.1 dX5_weathers_21 rfl (lv_at hl 2 rfl) ?_
  refine lv_imul S.1 S.2.1 dX5_weathers_22 ?_
  refine lv_iconst (v := 2) S.1 S.2.1 dX5_weathers_23 (by decide) ?_
  refine lv_idiv S.1 S.2.1 dX5_weathers_24 (by decide) ?_
  refine lv_iload S.1 S.2.1 dX5_weathers_25 (lv_at hl 0 rfl) ?_
  refine lv_if_le (tgt := 35) S.1 S.2.1 dX5_weathers_27 (by decide) (fun c_27 => ?_) (fun c_27 => ?_)
  · have n_27 := Int32.not_lt.mpr c_27
    refine lv_iconst (v := 0) S.1 S.2.1 dX5_weathers_35 (by decide) ?_
    refine lv_iadd S.1 S.2.1 dX5_weathers_36 ?_
    refine lv_istore (lv' := [(6, .int ((((r (21 + 7 * i + 2)) * (w / 10)) / 2) + 0)), (5, .int (r (21 + 7 * i + 2))), (4, .int (w - w / 10 * 10)), (3, .int (w / 10)), (0, .ref (am 0)), (1, .int (nI i)), (2, .int w)]) S.1 S.2.1 dX5_weathers_37 hl (by decide) rfl (fun ls hl => ?_)
    refine lv_aload_n S.1 S.2.1 dX5_weathers_39 rfl (lv_at hl 4 rfl) ?_
    refine lv_iload_n S.1 S.2.1 dX5_weathers_40 rfl (lv_at hl 5 rfl) ?_
    refine lv_iconst (v := 0) S.1 S.2.1 dX5_weathers_41 (by decide) ?_
    refine go_S (run_V (As := [.int (nI i), .int 0]) (rest := []) (n := 2) S hK (bl_P hP [0, 1] rfl) (bl_D hD [0, 1] rfl rfl) (c_X5_potterIs l E am q r i 0 (by omega) (by omega)) gV_X5_92 (by decide +kernel) rfl ⟨rfl, rfl⟩ ⟨Nat.le_of_ble_eq_true rfl, Nat.le_of_ble_eq_true rfl⟩ (ci := 5) (q0 := 0) rfl rfl hl.1 (Nat.le_of_ble_eq_true rfl) dX5_weathers_42 ⟨Nat.zero_le _, Nat.zero_le _⟩) ?_
    refine lv_eqi (y := r (21 + 7 * i)) rfl ?_
    by_cases k_45_2 : r (21 + 7 * i) = 2
    · refine lv_tableIn (tgt := 80) S.1 S.2.1 dX5_weathers_45 (by rw [k_45_2]; decide) (by rw [k_45_2]; decide) (by rw [k_45_2]; rfl) (by decide) ?_
      refine lv_iload S.1 S.2.1 dX5_weathers_80 (lv_at hl 0 rfl) ?_
      refine lv_iconst (v := 2) S.1 S.2.1 dX5_weathers_82 (by decide) ?_
      refine lv_idiv S.1 S.2.1 dX5_weathers_83 (by decide) ?_
      exact retS S hr hlk (by first | (simp only [weathersR, weathersV, plainV, c_27, n_27, eq_true k_45_2, ↓reduceIte]; done) | (simp [weathersR, weathersV, plainV, c_27, n_27, eq_true k_45_2, ↓reduceIte]; done) | (simp [weathersR, weathersV, plainV, c_27, n_27, k_45_2]; done)) dX5_weathers_84
    by_cases k_45_3 : r (21 + 7 * i) = 3
    · refine lv_tableIn (tgt := 80) S.1 S.2.1 dX5_weathers_45 (by rw [k_45_3]; decide) (by rw [k_45_3]; decide) (by rw [k_45_3]; rfl) (by decide) ?_
      refine lv_iload S.1 S.2.1 dX5_weathers_80 (lv_at hl 0 rfl) ?_
      refine lv_iconst (v := 2) S.1 S.2.1 dX5_weathers_82 (by decide) ?_
      refine lv_idiv S.1 S.2.1 dX5_weathers_83 (by decide) ?_
      exact retS S hr hlk (by first | (simp only [weathersR, weathersV, plainV, c_27, n_27, eq_true k_45_3, k_45_2, ↓reduceIte]; done) | (simp [weathersR, weathersV, plainV, c_27, n_27, eq_true k_45_3, k_45_2, ↓reduceIte]; done) | (simp [weathersR, weathersV, plainV, c_27, n_27, k_45_3, k_45_2]; done)) dX5_weathers_84
    by_cases k_45_4 : r (21 + 7 * i) = 4
    · refine lv_tableIn (tgt := 80) S.1 S.2.1 dX5_weathers_45 (by rw [k_45_4]; decide) (by rw [k_45_4]; decide) (by rw [k_45_4]; rfl) (by decide) ?_
      refine lv_iload S.1 S.2.1 dX5_weathers_80 (lv_at hl 0 rfl) ?_
      refine lv_iconst (v := 2) S.1 S.2.1 dX5_weathers_82 (by decide) ?_
      refine lv_idiv S.1 S.2.1 dX5_weathers_83 (by decide) ?_
      exact retS S hr hlk (by first | (simp only [weathersR, weathersV, plainV, c_27, n_27, eq_true k_45_4, k_45_2, k_45_3, ↓reduceIte]; done) | (simp [weathersR, weathersV, plainV, c_27, n_27, eq_true k_45_4, k_45_2, k_45_3, ↓reduceIte]; done) | (simp [weathersR, weathersV, plainV, c_27, n_27, k_45_4, k_45_2, k_45_3]; done)) dX5_weathers_84
    by_cases k_45_5 : r (21 + 7 * i) = 5
    · refine lv_tableIn (tgt := 85) S.1 S.2.1 dX5_weathers_45 (by rw [k_45_5]; decide) (by rw [k_45_5]; decide) (by rw [k_45_5]; rfl) (by decide) ?_
      refine lv_iconst (v := 0) S.1 S.2.1 dX5_weathers_85 (by decide) ?_
      refine lv_iload S.1 S.2.1 dX5_weathers_86 (lv_at hl 0 rfl) ?_
      refine lv_iload S.1 S.2.1 dX5_weathers_88 (lv_at hl 2 rfl) ?_
      refine lv_isub S.1 S.2.1 dX5_weathers_90 ?_
      refine va_mmax S.1 S.2.1 (S.2.2.1.trans hl.1.symm) S.2.2.2.1 (S.2.2.2.2 _ (List.mem_cons_of_mem _ mk_X5_95)) (S.2.2.2.2 _ (List.mem_cons_of_mem _ sk_JMmax)) (S.2.2.2.2 _ (List.mem_cons_of_mem _ nk_J9)) (S.2.2.2.2 _ (List.mem_cons_of_mem _ ck_JMmax)) (Nat.le_of_ble_eq_true rfl) (Nat.le_of_ble_eq_true rfl) (Nat.zero_le _) (Nat.zero_le _) dX5_weathers_91 ?_
      exact retS S hr hlk (by have e9 := mx5 hh hw; simp only [plainV, c_27, n_27, ↓reduceIte] at e9; simp only [weathersR, weathersV, plainV, c_27, n_27, eq_true k_45_5, k_45_2, k_45_3, k_45_4, ↓reduceIte]; exact e9) dX5_weathers_94
    by_cases k_45_6 : r (21 + 7 * i) = 6
    · refine lv_tableIn (tgt := 95) S.1 S.2.1 dX5_weathers_45 (by rw [k_45_6]; decide) (by rw [k_45_6]; decide) (by rw [k_45_6]; rfl) (by decide) ?_
      refine lv_iload_n S.1 S.2.1 dX5_weathers_95 rfl (lv_at hl 3 rfl) ?_
      refine lv_bipush (v := 8) S.1 S.2.1 dX5_weathers_96 (by decide) ?_
      refine lv_icmp_lt (tgt := 108) S.1 S.2.1 dX5_weathers_98 (by decide) (fun c_98 => ?_) (fun c_98 => ?_)
      · have n_98 := Int32.not_le.mpr c_98
        refine lv_iload S.1 S.2.1 dX5_weathers_108 (lv_at hl 0 rfl) ?_
        exact retS S hr hlk (by first | (simp only [weathersR, weathersV, plainV, c_27, n_27, eq_true k_45_6, k_45_2, k_45_3, k_45_4, k_45_5, c_98, n_98, ↓reduceIte]; done) | (simp [weathersR, weathersV, plainV, c_27, n_27, eq_true k_45_6, k_45_2, k_45_3, k_45_4, k_45_5, c_98, n_98, ↓reduceIte]; done) | (simp [weathersR, weathersV, plainV, c_27, n_27, k_45_6, k_45_2, k_45_3, k_45_4, k_45_5, c_98, n_98]; done)) dX5_weathers_110
      · have n_98 := Int32.not_lt.mp c_98
        refine lv_iconst (v := 2) S.1 S.2.1 dX5_weathers_101 (by decide) ?_
        refine lv_iload S.1 S.2.1 dX5_weathers_102 (lv_at hl 0 rfl) ?_
        refine lv_imul S.1 S.2.1 dX5_weathers_104 ?_
        refine lv_goto (tgt := 110) S.1 S.2.1 dX5_weathers_105 (by decide) ?_
        exact retS S hr hlk (by first | (simp only [weathersR, weathersV, plainV, c_27, n_27, eq_true k_45_6, k_45_2, k_45_3, k_45_4, k_45_5, c_98, n_98, ↓reduceIte]; done) | (simp [weathersR, weathersV, plainV, c_27, n_27, eq_true k_45_6, k_45_2, k_45_3, k_45_4, k_45_5, c_98, n_98, ↓reduceIte]; done) | (simp [weathersR, weathersV, plainV, c_27, n_27, k_45_6, k_45_2, k_45_3, k_45_4, k_45_5, c_98, n_98]; done)) dX5_weathers_110
    have t_45_2 := ne_toInt (n := 2) (by decide) k_45_2
    have t_45_3 := ne_toInt (n := 3) (by decide) k_45_3
    have t_45_4 := ne_toInt (n := 4) (by decide) k_45_4
    have t_45_5 := ne_toInt (n := 5) (by decide) k_45_5
    have t_45_6 := ne_toInt (n := 6) (by decide) k_45_6
    refine lv_tableOut (tgt := 111) S.1 S.2.1 dX5_weathers_45 (by omega) (by decide) ?_
    refine lv_iload S.1 S.2.1 dX5_weathers_111 (lv_at hl 0 rfl) ?_
    exact retS S hr hlk (by first | (simp only [weathersR, weathersV, plainV, c_27, n_27, k_45_2, k_45_3, k_45_4, k_45_5, k_45_6, ↓reduceIte]; done) | (simp [weathersR, weathersV, plainV, c_27, n_27, k_45_2, k_45_3, k_45_4, k_45_5, k_45_6, ↓reduceIte]; done) | (simp [weathersR, weathersV, plainV, c_27, n_27, k_45_2, k_45_3, k_45_4, k_45_5, k_45_6]; done)) dX5_weathers_113
  · have n_27 := Int32.not_le.mp c_27
    refine lv_iload S.1 S.2.1 dX5_weathers_30 (lv_at hl 1 rfl) ?_
    refine lv_goto (tgt := 36) S.1 S.2.1 dX5_weathers_32 (by decide) ?_
    refine lv_iadd S.1 S.2.1 dX5_weathers_36 ?_
    refine lv_istore (lv' := [(6, .int ((((r (21 + 7 * i + 2)) * (w / 10)) / 2) + (w - w / 10 * 10))), (5, .int (r (21 + 7 * i + 2))), (4, .int (w - w / 10 * 10)), (3, .int (w / 10)), (0, .ref (am 0)), (1, .int (nI i)), (2, .int w)]) S.1 S.2.1 dX5_weathers_37 hl (by decide) rfl (fun ls hl => ?_)
    refine lv_aload_n S.1 S.2.1 dX5_weathers_39 rfl (lv_at hl 4 rfl) ?_
    refine lv_iload_n S.1 S.2.1 dX5_weathers_40 rfl (lv_at hl 5 rfl) ?_
    refine lv_iconst (v := 0) S.1 S.2.1 dX5_weathers_41 (by decide) ?_
    refine go_S (run_V (As := [.int (nI i), .int 0]) (rest := []) (n := 2) S hK (bl_P hP [0, 1] rfl) (bl_D hD [0, 1] rfl rfl) (c_X5_potterIs l E am q r i 0 (by omega) (by omega)) gV_X5_92 (by decide +kernel) rfl ⟨rfl, rfl⟩ ⟨Nat.le_of_ble_eq_true rfl, Nat.le_of_ble_eq_true rfl⟩ (ci := 5) (q0 := 0) rfl rfl hl.1 (Nat.le_of_ble_eq_true rfl) dX5_weathers_42 ⟨Nat.zero_le _, Nat.zero_le _⟩) ?_
    refine lv_eqi (y := r (21 + 7 * i)) rfl ?_
    by_cases k_45_2 : r (21 + 7 * i) = 2
    · refine lv_tableIn (tgt := 80) S.1 S.2.1 dX5_weathers_45 (by rw [k_45_2]; decide) (by rw [k_45_2]; decide) (by rw [k_45_2]; rfl) (by decide) ?_
      refine lv_iload S.1 S.2.1 dX5_weathers_80 (lv_at hl 0 rfl) ?_
      refine lv_iconst (v := 2) S.1 S.2.1 dX5_weathers_82 (by decide) ?_
      refine lv_idiv S.1 S.2.1 dX5_weathers_83 (by decide) ?_
      exact retS S hr hlk (by first | (simp only [weathersR, weathersV, plainV, c_27, n_27, eq_true k_45_2, ↓reduceIte]; done) | (simp [weathersR, weathersV, plainV, c_27, n_27, eq_true k_45_2, ↓reduceIte]; done) | (simp [weathersR, weathersV, plainV, c_27, n_27, k_45_2]; done)) dX5_weathers_84
    by_cases k_45_3 : r (21 + 7 * i) = 3
    · refine lv_tableIn (tgt := 80) S.1 S.2.1 dX5_weathers_45 (by rw [k_45_3]; decide) (by rw [k_45_3]; decide) (by rw [k_45_3]; rfl) (by decide) ?_
      refine lv_iload S.1 S.2.1 dX5_weathers_80 (lv_at hl 0 rfl) ?_
      refine lv_iconst (v := 2) S.1 S.2.1 dX5_weathers_82 (by decide) ?_
      refine lv_idiv S.1 S.2.1 dX5_weathers_83 (by decide) ?_
      exact retS S hr hlk (by first | (simp only [weathersR, weathersV, plainV, c_27, n_27, eq_true k_45_3, k_45_2, ↓reduceIte]; done) | (simp [weathersR, weathersV, plainV, c_27, n_27, eq_true k_45_3, k_45_2, ↓reduceIte]; done) | (simp [weathersR, weathersV, plainV, c_27, n_27, k_45_3, k_45_2]; done)) dX5_weathers_84
    by_cases k_45_4 : r (21 + 7 * i) = 4
    · refine lv_tableIn (tgt := 80) S.1 S.2.1 dX5_weathers_45 (by rw [k_45_4]; decide) (by rw [k_45_4]; decide) (by rw [k_45_4]; rfl) (by decide) ?_
      refine lv_iload S.1 S.2.1 dX5_weathers_80 (lv_at hl 0 rfl) ?_
      refine lv_iconst (v := 2) S.1 S.2.1 dX5_weathers_82 (by decide) ?_
      refine lv_idiv S.1 S.2.1 dX5_weathers_83 (by decide) ?_
      exact retS S hr hlk (by first | (simp only [weathersR, weathersV, plainV, c_27, n_27, eq_true k_45_4, k_45_2, k_45_3, ↓reduceIte]; done) | (simp [weathersR, weathersV, plainV, c_27, n_27, eq_true k_45_4, k_45_2, k_45_3, ↓reduceIte]; done) | (simp [weathersR, weathersV, plainV, c_27, n_27, k_45_4, k_45_2, k_45_3]; done)) dX5_weathers_84
    by_cases k_45_5 : r (21 + 7 * i) = 5
    · refine lv_tableIn (tgt := 85) S.1 S.2.1 dX5_weathers_45 (by rw [k_45_5]; decide) (by rw [k_45_5]; decide) (by rw [k_45_5]; rfl) (by decide) ?_
      refine lv_iconst (v := 0) S.1 S.2.1 dX5_weathers_85 (by decide) ?_
      refine lv_iload S.1 S.2.1 dX5_weathers_86 (lv_at hl 0 rfl) ?_
      refine lv_iload S.1 S.2.1 dX5_weathers_88 (lv_at hl 2 rfl) ?_
      refine lv_isub S.1 S.2.1 dX5_weathers_90 ?_
      refine va_mmax S.1 S.2.1 (S.2.2.1.trans hl.1.symm) S.2.2.2.1 (S.2.2.2.2 _ (List.mem_cons_of_mem _ mk_X5_95)) (S.2.2.2.2 _ (List.mem_cons_of_mem _ sk_JMmax)) (S.2.2.2.2 _ (List.mem_cons_of_mem _ nk_J9)) (S.2.2.2.2 _ (List.mem_cons_of_mem _ ck_JMmax)) (Nat.le_of_ble_eq_true rfl) (Nat.le_of_ble_eq_true rfl) (Nat.zero_le _) (Nat.zero_le _) dX5_weathers_91 ?_
      exact retS S hr hlk (by have e9 := mx5 hh hw; simp only [plainV, c_27, n_27, ↓reduceIte] at e9; simp only [weathersR, weathersV, plainV, c_27, n_27, eq_true k_45_5, k_45_2, k_45_3, k_45_4, ↓reduceIte]; exact e9) dX5_weathers_94
    by_cases k_45_6 : r (21 + 7 * i) = 6
    · refine lv_tableIn (tgt := 95) S.1 S.2.1 dX5_weathers_45 (by rw [k_45_6]; decide) (by rw [k_45_6]; decide) (by rw [k_45_6]; rfl) (by decide) ?_
      refine lv_iload_n S.1 S.2.1 dX5_weathers_95 rfl (lv_at hl 3 rfl) ?_
      refine lv_bipush (v := 8) S.1 S.2.1 dX5_weathers_96 (by decide) ?_
      refine lv_icmp_lt (tgt := 108) S.1 S.2.1 dX5_weathers_98 (by decide) (fun c_98 => ?_) (fun c_98 => ?_)
      · have n_98 := Int32.not_le.mpr c_98
        refine lv_iload S.1 S.2.1 dX5_weathers_108 (lv_at hl 0 rfl) ?_
        exact retS S hr hlk (by first | (simp only [weathersR, weathersV, plainV, c_27, n_27, eq_true k_45_6, k_45_2, k_45_3, k_45_4, k_45_5, c_98, n_98, ↓reduceIte]; done) | (simp [weathersR, weathersV, plainV, c_27, n_27, eq_true k_45_6, k_45_2, k_45_3, k_45_4, k_45_5, c_98, n_98, ↓reduceIte]; done) | (simp [weathersR, weathersV, plainV, c_27, n_27, k_45_6, k_45_2, k_45_3, k_45_4, k_45_5, c_98, n_98]; done)) dX5_weathers_110
      · have n_98 := Int32.not_lt.mp c_98
        refine lv_iconst (v := 2) S.1 S.2.1 dX5_weathers_101 (by decide) ?_
        refine lv_iload S.1 S.2.1 dX5_weathers_102 (lv_at hl 0 rfl) ?_
        refine lv_imul S.1 S.2.1 dX5_weathers_104 ?_
        refine lv_goto (tgt := 110) S.1 S.2.1 dX5_weathers_105 (by decide) ?_
        exact retS S hr hlk (by first | (simp only [weathersR, weathersV, plainV, c_27, n_27, eq_true k_45_6, k_45_2, k_45_3, k_45_4, k_45_5, c_98, n_98, ↓reduceIte]; done) | (simp [weathersR, weathersV, plainV, c_27, n_27, eq_true k_45_6, k_45_2, k_45_3, k_45_4, k_45_5, c_98, n_98, ↓reduceIte]; done) | (simp [weathersR, weathersV, plainV, c_27, n_27, k_45_6, k_45_2, k_45_3, k_45_4, k_45_5, c_98, n_98]; done)) dX5_weathers_110
    have t_45_2 := ne_toInt (n := 2) (by decide) k_45_2
    have t_45_3 := ne_toInt (n := 3) (by decide) k_45_3
    have t_45_4 := ne_toInt (n := 4) (by decide) k_45_4
    have t_45_5 := ne_toInt (n := 5) (by decide) k_45_5
    have t_45_6 := ne_toInt (n := 6) (by decide) k_45_6
    refine lv_tableOut (tgt := 111) S.1 S.2.1 dX5_weathers_45 (by omega) (by decide) ?_
    refine lv_iload S.1 S.2.1 dX5_weathers_111 (lv_at hl 0 rfl) ?_
    exact retS S hr hlk (by first | (simp only [weathersR, weathersV, plainV, c_27, n_27, k_45_2, k_45_3, k_45_4, k_45_5, k_45_6, ↓reduceIte]; done) | (simp [weathersR, weathersV, plainV, c_27, n_27, k_45_2, k_45_3, k_45_4, k_45_5, k_45_6, ↓reduceIte]; done) | (simp [weathersR, weathersV, plainV, c_27, n_27, k_45_2, k_45_3, k_45_4, k_45_5, k_45_6]; done)) dX5_weathers_113
set_option maxHeartbeats 4000000 in
set_option maxRecDepth 100000 in
theorem c_X5_isReady (l : Launch) (E : EV) (am : Nat → Nat) (q r : Row) (i : Nat) (hi : i < 8) : Met l yX5_isReady (wq yX5_isReady cX5_isReady 2 (some .boolean)) ({ frames := 3, cells := 0, slots := 0, locals := 64 }) (preB E [.ref (am 0), .int (nI i)] [[mObj am q], [(am 1, .inl (E.2.1, 77, .inl (sg r 77)))]]) (qS (bI (needsR r i ≤ r (21 + 7 * i + 3)))) 0 0 (fun _ => False) := by
  refine M_mk RX5 (by decide) rfl (Nat.le_of_ble_eq_true rfl) ?_
  intro p e s m below meth c S hr hlk hK hP hD hS ls hl
  have hl : lv_has ls 2 [(0, .ref (am 0)), (1, .int (nI i))] := hl
  refine lv_aload_n S.1 S.2.1 dX5_isReady_0 rfl (lv_at hl 0 rfl) ?_
  refine lv_iload_n S.1 S.2.1 dX5_isReady_1 rfl (lv_at hl 1 rfl) ?_
  refine lv_iconst (v := 3) S.1 S.2.1 dX5_isReady_2 (by decide) ?_
  refine go_S (run_V (As := [.int (nI i), .int 3]) (rest := []) (n := 2) S hK (bl_P hP [0, 1] rfl) (bl_D hD [0, 1] rfl rfl) (c_X5_potterIs l E am q r i 3 (by omega) (by omega)) gV_X5_92 (by decide +kernel) rfl ⟨rfl, rfl⟩ ⟨Nat.le_of_ble_eq_true rfl, Nat.le_of_ble_eq_true rfl⟩ (ci := 5) (q0 := 0) rfl rfl hl.1 (Nat.le_of_ble_eq_true rfl) dX5_isReady_3 ⟨Nat.zero_le _, Nat.zero_le _⟩) ?_
  refine lv_aload_n S.1 S.2.1 dX5_isReady_6 rfl (lv_at hl 0 rfl) ?_
  refine lv_iload_n S.1 S.2.1 dX5_isReady_7 rfl (lv_at hl 1 rfl) ?_
  refine go_S (run_V (As := [.int (nI i)]) (rest := [.int (r (21 + 7 * i + 3))]) (n := 1) S hK (bl_P hP [0, 1] rfl) (bl_D hD [0, 1] rfl rfl) (c_X5_needs l E am q r i (by omega)) gV_X5_110 (by decide +kernel) rfl ⟨rfl, rfl⟩ ⟨Nat.le_of_ble_eq_true rfl, Nat.le_of_ble_eq_true rfl⟩ (ci := 5) (q0 := 0) rfl rfl hl.1 (Nat.le_of_ble_eq_true rfl) dX5_isReady_8 ⟨Nat.zero_le _, Nat.zero_le _⟩) ?_
  refine lv_icmp_lt (tgt := 18) S.1 S.2.1 dX5_isReady_11 (by decide) (fun c_11 => ?_) (fun c_11 => ?_)
  · have n_11 := Int32.not_le.mpr c_11
    refine lv_iconst (v := 0) S.1 S.2.1 dX5_isReady_18 (by decide) ?_
    exact retSZ S hr hlk rfl (by first | (simp only [bI, c_11, n_11, ↓reduceIte]; done) | (simp [bI, c_11, n_11, ↓reduceIte]; done) | (simp [bI, c_11, n_11]; done)) dX5_isReady_19
  · have n_11 := Int32.not_lt.mp c_11
    refine lv_iconst (v := 1) S.1 S.2.1 dX5_isReady_14 (by decide) ?_
    refine lv_goto (tgt := 19) S.1 S.2.1 dX5_isReady_15 (by decide) ?_
    exact retSZ S hr hlk rfl (by first | (simp only [bI, c_11, n_11, ↓reduceIte]; done) | (simp [bI, c_11, n_11, ↓reduceIte]; done) | (simp [bI, c_11, n_11]; done)) dX5_isReady_19
set_option maxHeartbeats 4000000 in
set_option maxRecDepth 100000 in
theorem c_X5_hasColour (l : Launch) (E : EV) (am : Nat → Nat) (q r : Row) (i : Nat) (w : Int32) (hi : i < 8) : Met l yX5_hasColour (wq yX5_hasColour cX5_hasColour 3 (some .boolean)) ({ frames := 2, cells := 0, slots := 0, locals := 43 }) (preB E [.ref (am 0), .int (nI i), .int w] [[mObj am q], [(am 1, .inl (E.2.1, 77, .inl (sg r 77)))]]) (qS (bI (0 < r (21 + 7 * i + 5) ∧ r (21 + 7 * i + 4) = w))) 0 0 (fun _ => False) := by
  refine M_mk RX5 (by decide) rfl (Nat.le_of_ble_eq_true rfl) ?_
  intro p e s m below meth c S hr hlk hK hP hD hS ls hl
  have hl : lv_has ls 3 [(0, .ref (am 0)), (1, .int (nI i)), (2, .int w)] := hl
  refine lv_aload_n S.1 S.2.1 dX5_hasColour_0 rfl (lv_at hl 0 rfl) ?_
  refine lv_iload_n S.1 S.2.1 dX5_hasColour_1 rfl (lv_at hl 1 rfl) ?_
  refine lv_iconst (v := 5) S.1 S.2.1 dX5_hasColour_2 (by decide) ?_
  refine go_S (run_V (As := [.int (nI i), .int 5]) (rest := []) (n := 2) S hK (bl_P hP [0, 1] rfl) (bl_D hD [0, 1] rfl rfl) (c_X5_potterIs l E am q r i 5 (by omega) (by omega)) gV_X5_92 (by decide +kernel) rfl ⟨rfl, rfl⟩ ⟨Nat.le_of_ble_eq_true rfl, Nat.le_of_ble_eq_true rfl⟩ (ci := 5) (q0 := 0) rfl rfl hl.1 (Nat.le_of_ble_eq_true rfl) dX5_hasColour_3 ⟨Nat.zero_le _, Nat.zero_le _⟩) ?_
  refine lv_if_le (tgt := 23) S.1 S.2.1 dX5_hasColour_6 (by decide) (fun c_6 => ?_) (fun c_6 => ?_)
  · have n_6 := Int32.not_lt.mpr c_6
    refine lv_iconst (v := 0) S.1 S.2.1 dX5_hasColour_23 (by decide) ?_
    exact retSZ S hr hlk rfl (by first | (simp only [bI, c_6, n_6, ↓reduceIte]; done) | (simp [bI, c_6, n_6, ↓reduceIte]; done) | (simp [bI, c_6, n_6]; done)) dX5_hasColour_24
  · have n_6 := Int32.not_le.mp c_6
    refine lv_aload_n S.1 S.2.1 dX5_hasColour_9 rfl (lv_at hl 0 rfl) ?_
    refine lv_iload_n S.1 S.2.1 dX5_hasColour_10 rfl (lv_at hl 1 rfl) ?_
    refine lv_iconst (v := 4) S.1 S.2.1 dX5_hasColour_11 (by decide) ?_
    refine go_S (run_V (As := [.int (nI i), .int 4]) (rest := []) (n := 2) S hK (bl_P hP [0, 1] rfl) (bl_D hD [0, 1] rfl rfl) (c_X5_potterIs l E am q r i 4 (by omega) (by omega)) gV_X5_92 (by decide +kernel) rfl ⟨rfl, rfl⟩ ⟨Nat.le_of_ble_eq_true rfl, Nat.le_of_ble_eq_true rfl⟩ (ci := 5) (q0 := 0) rfl rfl hl.1 (Nat.le_of_ble_eq_true rfl) dX5_hasColour_12 ⟨Nat.zero_le _, Nat.zero_le _⟩) ?_
    refine lv_iload_n S.1 S.2.1 dX5_hasColour_15 rfl (lv_at hl 2 rfl) ?_
    refine lv_icmp_ne (tgt := 23) S.1 S.2.1 dX5_hasColour_16 (by decide) (fun c_16 => ?_) (fun c_16 => ?_)
    · refine lv_iconst (v := 0) S.1 S.2.1 dX5_hasColour_23 (by decide) ?_
      exact retSZ S hr hlk rfl (by first | (simp only [bI, c_6, n_6, c_16, ↓reduceIte]; done) | (simp [bI, c_6, n_6, c_16, ↓reduceIte]; done) | (simp [bI, c_6, n_6, c_16]; done)) dX5_hasColour_24
    · refine lv_iconst (v := 1) S.1 S.2.1 dX5_hasColour_19 (by decide) ?_
      refine lv_goto (tgt := 24) S.1 S.2.1 dX5_hasColour_20 (by decide) ?_
      exact retSZ S hr hlk rfl (by first | (simp only [bI, c_6, n_6, eq_true c_16, ↓reduceIte]; done) | (simp [bI, c_6, n_6, eq_true c_16, ↓reduceIte]; done) | (simp [bI, c_6, n_6, c_16]; done)) dX5_hasColour_24
