theorem lack_ok {z : Row} {v : Int32} {G : Prop} [Decidable G] (h : lackV z v G = 0) : ∃ k : Nat, k < 4 ∧ v = nI k ∧ ¬ z k = 0 ∧ G := by
  unfold lackV at h
  split at h
  · rename_i c
    obtain ⟨k, hk, rfl⟩ := nI_of2 (n := 3) (by decide) (Int32.not_lt.mpr c.1) c.2
    rw [nI_clamp (by omega)] at h
    split at h
    · exact absurd h (by decide)
    · rename_i hz
      split at h
      · rename_i hg
        exact ⟨k, by omega, rfl, hz, hg⟩
      · exact absurd h (by decide)
  · exact absurd h (by decide)
def lackK (z : Row) (v : Int32) (G : Prop) [Decidable G] : Nat := if 0 ≤ v ∧ v ≤ 3 then (if z (tN v) = 0 then 5 else 0) else 0
theorem lackK_lt {z : Row} {v : Int32} {G : Prop} [Decidable G] : lackK z v G < 7 := by
  unfold lackK
  split
  · split <;> decide
  · decide
theorem lack_eq {z : Row} {v : Int32} {G : Prop} [Decidable G] (h : ¬ lackV z v G = 0) : lackV z v G = -1000001 - nI (lackK z v G) := by
  unfold lackV lackK at *
  split
  · rename_i c
    rw [if_pos c] at h
    split
    · decide
    · rename_i hz
      rw [if_neg hz] at h
      split
      · rename_i hg
        rw [if_pos hg] at h
        exact absurd rfl h
      · decide
  · decide
theorem lack_hv {z : Row} {v : Int32} {G : Prop} [Decidable G] (h : ¬ lackV z v G = 0) : (-1000001) - lackV z v G + 1 = nI (lackK z v G + 1) := by
  rw [lack_eq h]
  have hl := lackK_lt (z := z) (v := v) (G := G)
  generalize lackK z v G = k at hl
  match k, hl with
  | 0, _ => decide
  | 1, _ => decide
  | 2, _ => decide
  | 3, _ => decide
  | 4, _ => decide
  | 5, _ => decide
  | 6, _ => decide
theorem lack_ans {z : Row} {v : Int32} {G : Prop} [Decidable G] (h : ¬ lackV z v G = 0) : lackV z v G = ansR (.inl (lackK z v G)) := lack_eq h
def badW (y : Row) (o : Nat) (k : Nat) : Bool := decide (¬ (0 ≤ y (o + k) ∧ y (o + k) ≤ 99))
def loadR (r y : Row) (o k : Nat) : Row := fun j => if 5 ≤ j ∧ j < 5 + k then y (o + (j - 5)) else r j
theorem loadR_0 {r y : Row} {o : Nat} : loadR r y o 0 = r := funext fun j => if_neg (by omega)
theorem loadR_s {r y : Row} {o k : Nat} : upd (loadR r y o k) (5 + k) (y (o + k)) = loadR r y o (k + 1) := funext fun j => by
  unfold upd loadR
  by_cases q : j = 5 + k
  · rw [if_pos q, if_pos (by omega), q, show 5 + k - 5 = k by omega]
  · rw [if_neg q]
    by_cases q2 : 5 ≤ j ∧ j < 5 + k
    · rw [if_pos q2, if_pos (by omega)]
    · rw [if_neg q2, if_neg (by omega)]
def rLoad (r y z u : Row) (s : Int32) : Res := if lackV z s True = 0 then .inr (loadR r y (40 * tN s) (fstN (badW y (40 * tN s)) (min (tN (u (tN s))) 6)), nI (fstN (badW y (40 * tN s)) (min (tN (u (tN s))) 6))) else .inl (lackK z s True)
def badJ (r y : Row) (o : Nat) (k : Nat) : Bool := decide (¬ (k < cntN r ∧ y (o + k) = r (21 + 7 * k + 4)))
def rJudge (r y z u : Row) (s : Int32) : Res := if lackV z s True = 0 then .inr (r, if fstN (badJ r y (40 * tN s)) (tN (u (tN s))) = tN (u (tN s)) then 0 else nI (1 + fstN (badJ r y (40 * tN s)) (tN (u (tN s))))) else .inl (lackK z s True)
def msr (k : Int32) : Nat := if k < 0 then 0 else if k = 0 then 1 else if k = 3 then 3 else if k = 4 then 4 else if k = 6 then 3 else 2
theorem msr_lt (k : Int32) : msr k < 5 := by
  unfold msr
  repeat' split
  all_goals decide
theorem msr_s {k : Int32} {n : Nat} (h : ¬ k < 0) (hm : msr k < n + 1) : msr (aboveV k) < n := by
  have e : msr (aboveV k) < msr k := by
    unfold msr aboveV
    rw [if_neg h]
    by_cases h0 : k = 0
    · rw [if_pos h0, if_pos h0]; decide
    · rw [if_neg h0, if_neg h0]
      by_cases h3 : k = 3
      · rw [if_pos h3, if_pos h3]; decide
      · rw [if_neg h3, if_neg h3]
        by_cases h4 : k = 4
        · rw [if_pos h4, if_pos h4]; decide
        · rw [if_neg h4, if_neg h4]
          by_cases h6 : k = 6
          · rw [if_pos h6, if_pos h6]; decide
          · rw [if_neg h6, if_neg h6]; decide
  omega
def undN : Nat → Int32 → Int32 → Bool
  | 0, _, _ => false
  | n + 1, k, o => if k < 0 then false else if k = o then true else undN n (aboveV k) o
def rAs (r : Row) (s w : Int32) : Res := if 0 ≤ s ∧ s ≤ 9 then (if 0 ≤ w ∧ w ≤ 6 then (if r (11 + tN s) < 0 then .inl 5 else if undN 5 (r (21 + 7 * tN (r (11 + tN s)))) w = true then .inr (r, r (11 + tN s)) else .inl 2) else .inl 0) else .inl 0
set_option maxHeartbeats 800000 in
set_option maxRecDepth 100000 in
theorem c_X5_load (l : Launch) (E : EV) (am : Nat → Nat) (q r f z u y : Row) (s9 : Int32) (hR : RI r) (hU : ∀ j, j < 4 → le9 (u j) 40) : Met l yX5_load (wq yX5_load cX5_load 3 (some .int)) ({ frames := 3, cells := 0, slots := 0, locals := 64 }) (preB E [.ref (am 0), .int s9] [[mObj am q], [(am 1, .inl (E.2.1, 77, .inl (sg r 77)))], [(am 4, .inl (E.2.1, 8, .inl (sg f 8)))], [(am 8, .inl (E.2.1, 4, .inl (sg z 4)))], [(am 9, .inl (E.2.1, 4, .inl (sg u 4)))], [(am 10, .inl (E.2.1, 160, .inl (sg y 160)))]]) (qI E [[mObj am q], [(am 1, .inl (E.2.1, 77, .inl (sg r 77)))], [(am 4, .inl (E.2.1, 8, .inl (sg f 8)))], [(am 8, .inl (E.2.1, 4, .inl (sg z 4)))], [(am 9, .inl (E.2.1, 4, .inl (sg u 4)))], [(am 10, .inl (E.2.1, 160, .inl (sg y 160)))]] [[mObj am q], [(am 1, .inl (E.2.1, 77, .inl (sg (rowR r (rLoad r y z u s9)) 77)))], [(am 4, .inl (E.2.1, 8, .inl (sg (fndM f (rLoad r y z u s9)) 8)))], [(am 8, .inl (E.2.1, 4, .inl (sg z 4)))], [(am 9, .inl (E.2.1, 4, .inl (sg u 4)))], [(am 10, .inl (E.2.1, 160, .inl (sg y 160)))]] (ansR (rLoad r y z u s9))) 0 0 (inB [[mObj am q], [(am 1, .inl (E.2.1, 77, .inl (sg r 77)))], [(am 4, .inl (E.2.1, 8, .inl (sg f 8)))], [(am 8, .inl (E.2.1, 4, .inl (sg z 4)))], [(am 9, .inl (E.2.1, 4, .inl (sg u 4)))], [(am 10, .inl (E.2.1, 160, .inl (sg y 160)))]]) := by
  refine M_mk RX5 (by decide) rfl (Nat.le_of_ble_eq_true rfl) ?_
  intro p e s m below meth c S hr hlk hK hP hD hS ls hl
  have hl : lv_has ls 3 [(0, .ref (am 0)), (1, .int s9)] := hl
  obtain ⟨n, d, hn, hn8, hd, hd5, ho, hso, hli, hsp, hpt⟩ := id hR
  obtain ⟨H, hH⟩ : ∃ zz9, zz9 = s.heap := ⟨_, rfl⟩
  obtain ⟨locs, hlocs⟩ : ∃ zz9 : List Loc, zz9 = [] := ⟨_, rfl⟩
  have hP : PE E [[mObj am q], [(am 1, .inl (E.2.1, 77, .inl (sg r 77)))], [(am 4, .inl (E.2.1, 8, .inl (sg f 8)))], [(am 8, .inl (E.2.1, 4, .inl (sg z 4)))], [(am 9, .inl (E.2.1, 4, .inl (sg u 4)))], [(am 10, .inl (E.2.1, 160, .inl (sg y 160)))]] H := by rw [hH]; exact hP
  have hS : va_S (inB [[mObj am q], [(am 1, .inl (E.2.1, 77, .inl (sg r 77)))], [(am 4, .inl (E.2.1, 8, .inl (sg f 8)))], [(am 8, .inl (E.2.1, 4, .inl (sg z 4)))], [(am 9, .inl (E.2.1, 4, .inl (sg u 4)))], [(am 10, .inl (E.2.1, 160, .inl (sg y 160)))]]) s.heap H locs := by rw [hH, hlocs]; exact hS
  show W p l e ({ frames := 3, cells := 0, slots := 0, locals := 64 }) s m ([.ref (am 0), .int s9] : List Value).toArray below meth c s.heap [] 0 0 _ _
  suffices hgo : W p l e ({ frames := 3, cells := 0, slots := 0, locals := 64 }) s m ([.ref (am 0), .int s9] : List Value).toArray below meth c H locs 0 0 (MQ below (qI E [[mObj am q], [(am 1, .inl (E.2.1, 77, .inl (sg r 77)))], [(am 4, .inl (E.2.1, 8, .inl (sg f 8)))], [(am 8, .inl (E.2.1, 4, .inl (sg z 4)))], [(am 9, .inl (E.2.1, 4, .inl (sg u 4)))], [(am 10, .inl (E.2.1, 160, .inl (sg y 160)))]] [[mObj am q], [(am 1, .inl (E.2.1, 77, .inl (sg (rowR r (rLoad r y z u s9)) 77)))], [(am 4, .inl (E.2.1, 8, .inl (sg (fndM f (rLoad r y z u s9)) 8)))], [(am 8, .inl (E.2.1, 4, .inl (sg z 4)))], [(am 9, .inl (E.2.1, 4, .inl (sg u 4)))], [(am 10, .inl (E.2.1, 160, .inl (sg y 160)))]] (ansR (rLoad r y z u s9))) ([.ref (am 0), .int s9] : List Value).toArray s 0 0 (inB [[mObj am q], [(am 1, .inl (E.2.1, 77, .inl (sg r 77)))], [(am 4, .inl (E.2.1, 8, .inl (sg f 8)))], [(am 8, .inl (E.2.1, 4, .inl (sg z 4)))], [(am 9, .inl (E.2.1, 4, .inl (sg u 4)))], [(am 10, .inl (E.2.1, 160, .inl (sg y 160)))]])) (F0 m 0 ls []) by rw [hH, hlocs] at hgo; exact hgo
  clear hH hlocs
  refine lv_aload_n S.1 S.2.1 dX5_load_0 rfl (lv_at hl 0 rfl) ?_
  refine lv_iload_n S.1 S.2.1 dX5_load_1 rfl (lv_at hl 1 rfl) ?_
  refine lv_iconst (v := 1) S.1 S.2.1 dX5_load_2 (by decide) ?_
  refine go_S (run_V (As := [.int s9, .int 1]) (rest := []) (n := 2) S hK (bl_P hP [0, 3] rfl) (bl_D hD [0, 3] rfl rfl) (c_X5_lacks l E am q z s9 (True)) gV_X5_210 (by decide +kernel) rfl ⟨rfl, rfl⟩ ⟨Nat.le_of_ble_eq_true rfl, Nat.le_of_ble_eq_true rfl⟩ (ci := 5) (q0 := 0) rfl rfl hl.1 (Nat.le_of_ble_eq_true rfl) dX5_load_3 ⟨Nat.zero_le _, Nat.zero_le _⟩) ?_
  refine lv_if_eq (tgt := 20) S.1 S.2.1 dX5_load_6 (by decide) (fun c_6 => ?_) (fun c_6 => ?_)
  · have hc6 := c_6
    obtain ⟨k_s9, hk_s9, ek_s9, hz_s9, hG9⟩ := lack_ok c_6
    obtain ⟨len, hlen, elen⟩ := hU k_s9 (by omega)
    refine lv_iconst (v := 0) S.1 S.2.1 dX5_load_20 (by decide) ?_
    refine lv_istore_n (lv' := [(2, .int 0), (0, .ref (am 0)), (1, .int s9)]) S.1 S.2.1 dX5_load_21 rfl hl (by decide) rfl (fun ls hl => ?_)
    have L_22 : ∀ (fu : Nat) (i : Nat) (ri : Row), (i ≤ min len 6) → (min len 6 < i + fu) → (ri = loadR r y (40 * k_s9) i) → (∀ j, j < i → badW y (40 * k_s9) j = false) → ∀ (H : Heap) (locs : List Loc), PE E [[mObj am q], [(am 1, .inl (E.2.1, 77, .inl (sg ri 77)))], [(am 4, .inl (E.2.1, 8, .inl (sg f 8)))], [(am 8, .inl (E.2.1, 4, .inl (sg z 4)))], [(am 9, .inl (E.2.1, 4, .inl (sg u 4)))], [(am 10, .inl (E.2.1, 160, .inl (sg y 160)))]] H → DE (inB [[mObj am q], [(am 1, .inl (E.2.1, 77, .inl (sg r 77)))], [(am 4, .inl (E.2.1, 8, .inl (sg f 8)))], [(am 8, .inl (E.2.1, 4, .inl (sg z 4)))], [(am 9, .inl (E.2.1, 4, .inl (sg u 4)))], [(am 10, .inl (E.2.1, 160, .inl (sg y 160)))]]) [[mObj am q], [(am 1, .inl (E.2.1, 77, .inl (sg ri 77)))], [(am 4, .inl (E.2.1, 8, .inl (sg f 8)))], [(am 8, .inl (E.2.1, 4, .inl (sg z 4)))], [(am 9, .inl (E.2.1, 4, .inl (sg u 4)))], [(am 10, .inl (E.2.1, 160, .inl (sg y 160)))]] → va_S (inB [[mObj am q], [(am 1, .inl (E.2.1, 77, .inl (sg r 77)))], [(am 4, .inl (E.2.1, 8, .inl (sg f 8)))], [(am 8, .inl (E.2.1, 4, .inl (sg z 4)))], [(am 9, .inl (E.2.1, 4, .inl (sg u 4)))], [(am 10, .inl (E.2.1, 160, .inl (sg y 160)))]]) s.heap H locs → ∀ (ls : Array Slot), lv_has ls 3 [(0, .ref (am 0)), (1, .int s9), (2, .int (nI i))] → W p l e ({ frames := 3, cells := 0, slots := 0, locals := 64 }) s m ([.ref (am 0), .int s9] : List Value).toArray below meth c H locs 0 0 (MQ below (qI E [[mObj am q], [(am 1, .inl (E.2.1, 77, .inl (sg r 77)))], [(am 4, .inl (E.2.1, 8, .inl (sg f 8)))], [(am 8, .inl (E.2.1, 4, .inl (sg z 4)))], [(am 9, .inl (E.2.1, 4, .inl (sg u 4)))], [(am 10, .inl (E.2.1, 160, .inl (sg y 160)))]] [[mObj am q], [(am 1, .inl (E.2.1, 77, .inl (sg (rowR r (rLoad r y z u s9)) 77)))], [(am 4, .inl (E.2.1, 8, .inl (sg (fndM f (rLoad r y z u s9)) 8)))], [(am 8, .inl (E.2.1, 4, .inl (sg z 4)))], [(am 9, .inl (E.2.1, 4, .inl (sg u 4)))], [(am 10, .inl (E.2.1, 160, .inl (sg y 160)))]] (ansR (rLoad r y z u s9))) ([.ref (am 0), .int s9] : List Value).toArray s 0 0 (inB [[mObj am q], [(am 1, .inl (E.2.1, 77, .inl (sg r 77)))], [(am 4, .inl (E.2.1, 8, .inl (sg f 8)))], [(am 8, .inl (E.2.1, 4, .inl (sg z 4)))], [(am 9, .inl (E.2.1, 4, .inl (sg u 4)))], [(am 10, .inl (E.2.1, 160, .inl (sg y 160)))]])) (F0 m 22 ls []) := by
      intro fu
      induction fu with
      | zero =>
        intro i ri hi hf hri hno
        omega
      | succ fu ih_22 =>
        intro i ri hi hf hri hno H locs hP hD hS ls hl
        refine lv_iload_n S.1 S.2.1 dX5_load_22 rfl (lv_at hl 2 rfl) ?_
        refine lv_aload_n S.1 S.2.1 dX5_load_23 rfl (lv_at hl 0 rfl) ?_
        refine gf_X5_51 S hK hP 0 0 rfl rfl rfl dX5_load_24 ?_
        refine lv_iload_n S.1 S.2.1 dX5_load_27 rfl (lv_at hl 1 rfl) ?_
        refine lv_eqi (y := nI k_s9) ek_s9 ?_
        refine b_ialdN (i := k_s9) S hK hP 4 0 rfl rfl (by omega) (by decide) dX5_load_28 ?_
        refine lv_eqi (y := nI len) ((sg_at (by omega)).trans elen) ?_
        refine lv_icmp_ge (tgt := 83) S.1 S.2.1 dX5_load_29 (by decide) (fun c_29 => ?_) (fun c_29 => ?_)
        · have n_29 := Int32.not_lt.mpr c_29
          have hi9 : i = min len 6 := by (have z9 : len ≤ i := (nI_leI (by omega) (by omega)).mp c_29; omega)
          refine lv_iload_n S.1 S.2.1 dX5_load_83 rfl (lv_at hl 2 rfl) ?_
          exact retI S hr hlk (by have e9 : rLoad r y z u s9 = .inr (ri, nI i) := (by have e8 : fstN (badW y (40 * k_s9)) (min len 6) = i := (by rw [fst_no (fun j hj => hno j (by omega))]; omega); unfold rLoad; rw [if_pos hc6, ek_s9, tN_nI (by omega), elen, tN_nI (by omega), e8, hri]); rw [e9, fndM_inr, rowR_inr]; exact hP) hS (by have e9 : rLoad r y z u s9 = .inr (ri, nI i) := (by have e8 : fstN (badW y (40 * k_s9)) (min len 6) = i := (by rw [fst_no (fun j hj => hno j (by omega))]; omega); unfold rLoad; rw [if_pos hc6, ek_s9, tN_nI (by omega), elen, tN_nI (by omega), e8, hri]); rw [e9, ansR_inr]) dX5_load_84
        · have n_29 := Int32.not_le.mp c_29
          have hi2 : i < len := (nI_ltI (by omega) (by omega)).mp n_29
          refine lv_iload_n S.1 S.2.1 dX5_load_32 rfl (lv_at hl 2 rfl) ?_
          refine lv_bipush (v := 6) S.1 S.2.1 dX5_load_33 (by decide) ?_
          refine lv_icmp_ge (tgt := 83) S.1 S.2.1 dX5_load_35 (by decide) (fun c_35 => ?_) (fun c_35 => ?_)
          · have n_35 := Int32.not_lt.mpr c_35
            have hi9 : i = min len 6 := by (have z9 : 6 ≤ i := (nI_leI (a := 6) (by omega) (by omega)).mp c_35; omega)
            refine lv_iload_n S.1 S.2.1 dX5_load_83 rfl (lv_at hl 2 rfl) ?_
            exact retI S hr hlk (by have e9 : rLoad r y z u s9 = .inr (ri, nI i) := (by have e8 : fstN (badW y (40 * k_s9)) (min len 6) = i := (by rw [fst_no (fun j hj => hno j (by omega))]; omega); unfold rLoad; rw [if_pos hc6, ek_s9, tN_nI (by omega), elen, tN_nI (by omega), e8, hri]); rw [e9, fndM_inr, rowR_inr]; exact hP) hS (by have e9 : rLoad r y z u s9 = .inr (ri, nI i) := (by have e8 : fstN (badW y (40 * k_s9)) (min len 6) = i := (by rw [fst_no (fun j hj => hno j (by omega))]; omega); unfold rLoad; rw [if_pos hc6, ek_s9, tN_nI (by omega), elen, tN_nI (by omega), e8, hri]); rw [e9, ansR_inr]) dX5_load_84
          · have n_35 := Int32.not_le.mp c_35
            have hi3 : i < 6 := (nI_ltI (b := 6) (by omega) (by omega)).mp n_35
            refine lv_aload_n S.1 S.2.1 dX5_load_38 rfl (lv_at hl 0 rfl) ?_
            refine gf_X5_54 S hK hP 0 0 rfl rfl rfl dX5_load_39 ?_
            refine lv_bipush (v := 40) S.1 S.2.1 dX5_load_42 (by decide) ?_
            refine lv_iload_n S.1 S.2.1 dX5_load_44 rfl (lv_at hl 1 rfl) ?_
            refine lv_eqi (y := nI k_s9) ek_s9 ?_
            refine lv_imul S.1 S.2.1 dX5_load_45 ?_
            refine lv_eqi (y := nI (40 * k_s9)) (pk_mul 40 k_s9) ?_
            refine lv_iload_n S.1 S.2.1 dX5_load_46 rfl (lv_at hl 2 rfl) ?_
            refine lv_iadd S.1 S.2.1 dX5_load_47 ?_
            refine lv_eqi (y := nI (40 * k_s9 + i)) (nI_add (40 * k_s9) i) ?_
            refine b_ialdN (i := 40 * k_s9 + i) S hK hP 5 0 rfl rfl (by omega) (by decide) dX5_load_48 ?_
            refine lv_eqi (y := y (40 * k_s9 + i)) (sg_at (by omega)) ?_
            refine lv_iconst (v := 0) S.1 S.2.1 dX5_load_49 (by decide) ?_
            refine lv_bipush (v := 99) S.1 S.2.1 dX5_load_50 (by decide) ?_
            refine go_S (run_S (As := [.int (y (40 * k_s9 + i)), .int 0, .int 99]) (rest := []) (n := 3) S hK (bl_P hP [] rfl) (bl_D hD [] rfl rfl) (c_X5_within l E (y (40 * k_s9 + i)) 0 99 ) gS_X5_70 (by decide +kernel) rfl ⟨rfl, rfl⟩ ⟨Nat.le_of_ble_eq_true rfl, Nat.le_of_ble_eq_true rfl⟩ hl.1 (Nat.le_of_ble_eq_true rfl) dX5_load_52 ⟨Nat.zero_le _, Nat.zero_le _⟩) ?_
            refine b_ifeq (tgt := 83) S.1 S.2.1 dX5_load_55 (by decide) (fun c_55 => ?_) (fun c_55 => ?_)
            · refine lv_iload_n S.1 S.2.1 dX5_load_83 rfl (lv_at hl 2 rfl) ?_
              exact retI S hr hlk (by have e9 : rLoad r y z u s9 = .inr (ri, nI i) := (by have e8 : fstN (badW y (40 * k_s9)) (min len 6) = i := fst_yes (fun j hj => hno j hj) (decide_eq_true c_55) (by omega); unfold rLoad; rw [if_pos hc6, ek_s9, tN_nI (by omega), elen, tN_nI (by omega), e8, hri]); rw [e9, fndM_inr, rowR_inr]; exact hP) hS (by have e9 : rLoad r y z u s9 = .inr (ri, nI i) := (by have e8 : fstN (badW y (40 * k_s9)) (min len 6) = i := fst_yes (fun j hj => hno j hj) (decide_eq_true c_55) (by omega); unfold rLoad; rw [if_pos hc6, ek_s9, tN_nI (by omega), elen, tN_nI (by omega), e8, hri]); rw [e9, ansR_inr]) dX5_load_84
            · refine lv_aload_n S.1 S.2.1 dX5_load_58 rfl (lv_at hl 0 rfl) ?_
              refine gf_X5_9 S hK hP 0 0 rfl rfl rfl dX5_load_59 ?_
              refine lv_iconst (v := 5) S.1 S.2.1 dX5_load_62 (by decide) ?_
              refine lv_iload_n S.1 S.2.1 dX5_load_63 rfl (lv_at hl 2 rfl) ?_
              refine lv_iadd S.1 S.2.1 dX5_load_64 ?_
              refine lv_eqi (y := nI (5 + i)) (nI_add 5 i) ?_
              refine lv_aload_n S.1 S.2.1 dX5_load_65 rfl (lv_at hl 0 rfl) ?_
              refine gf_X5_54 S hK hP 0 0 rfl rfl rfl dX5_load_66 ?_
              refine lv_bipush (v := 40) S.1 S.2.1 dX5_load_69 (by decide) ?_
              refine lv_iload_n S.1 S.2.1 dX5_load_71 rfl (lv_at hl 1 rfl) ?_
              refine lv_eqi (y := nI k_s9) ek_s9 ?_
              refine lv_imul S.1 S.2.1 dX5_load_72 ?_
              refine lv_eqi (y := nI (40 * k_s9)) (pk_mul 40 k_s9) ?_
              refine lv_iload_n S.1 S.2.1 dX5_load_73 rfl (lv_at hl 2 rfl) ?_
              refine lv_iadd S.1 S.2.1 dX5_load_74 ?_
              refine lv_eqi (y := nI (40 * k_s9 + i)) (nI_add (40 * k_s9) i) ?_
              refine b_ialdN (i := 40 * k_s9 + i) S hK hP 5 0 rfl rfl (by omega) (by decide) dX5_load_75 ?_
              refine lv_eqi (y := y (40 * k_s9 + i)) (sg_at (by omega)) ?_
              refine b_iastN (i := 5 + i) S hK hP hD hS 1 0 rfl rfl (by omega) (by decide) (sgs_upd (by omega)) (Bs1 := [[mObj am q], [(am 1, .inl (E.2.1, 77, .inl (sg (upd ri (5 + i) (y (40 * k_s9 + i))) 77)))], [(am 4, .inl (E.2.1, 8, .inl (sg f 8)))], [(am 8, .inl (E.2.1, 4, .inl (sg z 4)))], [(am 9, .inl (E.2.1, 4, .inl (sg u 4)))], [(am 10, .inl (E.2.1, 160, .inl (sg y 160)))]]) rfl dX5_load_76 (fun H locs hP hD hS => ?_)
              obtain ⟨r_76, er_76⟩ : ∃ zz9, zz9 = upd ri (5 + i) (y (40 * k_s9 + i)) := ⟨_, rfl⟩
              rw [← er_76] at hP hD
              refine lv_iinc (v := nI (i + 1)) (lv' := [(2, .int (nI (i + 1))), (0, .ref (am 0)), (1, .int s9)]) S.1 S.2.1 dX5_load_77 hl (k := 2) rfl (nI_1 i) (by decide) rfl (fun ls hl => ?_)
              refine lv_goto (tgt := 22) S.1 S.2.1 dX5_load_80 (by decide) ?_
              exact ih_22 (i + 1) r_76 (by omega) (by omega) (by rw [er_76, hri]; exact loadR_s) (lt_s hno (decide_eq_false (fun z9 => z9 c_55))) H locs hP hD hS ls (lv_sub hl [1, 2, 0] rfl)
    exact L_22 (min len 6 + 1) 0 r (by omega) (by omega) loadR_0.symm (fun j hj => absurd hj (by omega)) H locs hP hD hS ls (lv_sub hl [1, 2, 0] rfl)
  · refine lv_aload_n S.1 S.2.1 dX5_load_9 rfl (lv_at hl 0 rfl) ?_
    refine lv_aload_n S.1 S.2.1 dX5_load_10 rfl (lv_at hl 0 rfl) ?_
    refine lv_iload_n S.1 S.2.1 dX5_load_11 rfl (lv_at hl 1 rfl) ?_
    refine lv_iconst (v := 1) S.1 S.2.1 dX5_load_12 (by decide) ?_
    refine go_S (run_V (As := [.int s9, .int 1]) (rest := [.ref (am 0)]) (n := 2) S hK (bl_P hP [0, 3] rfl) (bl_D hD [0, 3] rfl rfl) (c_X5_lacks l E am q z s9 (True)) gV_X5_210 (by decide +kernel) rfl ⟨rfl, rfl⟩ ⟨Nat.le_of_ble_eq_true rfl, Nat.le_of_ble_eq_true rfl⟩ (ci := 5) (q0 := 0) rfl rfl hl.1 (Nat.le_of_ble_eq_true rfl) dX5_load_13 ⟨Nat.zero_le _, Nat.zero_le _⟩) ?_
    refine go_I (run_V (As := [.int (lackV z s9 (True))]) (rest := []) (n := 1) S hK (bl_P hP [0, 2] rfl) (bl_D hD [0, 2] rfl rfl) (c_X5_finding l E am q f (lackV z s9 (True)) (lackK z s9 (True)) (lack_hv c_6) lackK_lt) gV_X5_66 (by decide +kernel) rfl ⟨rfl, rfl⟩ ⟨Nat.le_of_ble_eq_true rfl, Nat.le_of_ble_eq_true rfl⟩ (ci := 5) (q0 := 0) rfl rfl hl.1 (Nat.le_of_ble_eq_true rfl) dX5_load_16 ⟨Nat.zero_le _, Nat.zero_le _⟩) hP hD hS [0, 2] rfl (had_cons rfl (had_cons cell_ad rfl)) (Bs' := [[mObj am q], [(am 1, .inl (E.2.1, 77, .inl (sg r 77)))], [(am 4, .inl (E.2.1, 8, .inl (sg (findM f (lackK z s9 (True))) 8)))], [(am 8, .inl (E.2.1, 4, .inl (sg z 4)))], [(am 9, .inl (E.2.1, 4, .inl (sg u 4)))], [(am 10, .inl (E.2.1, 160, .inl (sg y 160)))]]) rfl (fun H locs hP hD hS => ?_)
    obtain ⟨r_16, er_16⟩ : ∃ zz9 : Row, zz9 = findM f (lackK z s9 (True)) := ⟨_, rfl⟩
    rw [← er_16] at hP hD
    exact retI S hr hlk (by have e9 : rLoad r y z u s9 = .inl (lackK z s9 True) := if_neg c_6; rw [er_16] at hP; rw [e9, fndM_inl, rowR_inl]; exact hP) hS (by have e9 : rLoad r y z u s9 = .inl (lackK z s9 True) := if_neg c_6; rw [e9]; exact lack_ans c_6) dX5_load_19
set_option maxHeartbeats 800000 in
set_option maxRecDepth 100000 in
theorem c_X5_judge (l : Launch) (E : EV) (am : Nat → Nat) (q r f z u y : Row) (s9 : Int32) (hR : RI r) (hU : ∀ j, j < 4 → le9 (u j) 40) : Met l yX5_judge (wq yX5_judge cX5_judge 3 (some .int)) ({ frames := 3, cells := 0, slots := 0, locals := 64 }) (preB E [.ref (am 0), .int s9] [[mObj am q], [(am 1, .inl (E.2.1, 77, .inl (sg r 77)))], [(am 4, .inl (E.2.1, 8, .inl (sg f 8)))], [(am 8, .inl (E.2.1, 4, .inl (sg z 4)))], [(am 9, .inl (E.2.1, 4, .inl (sg u 4)))], [(am 10, .inl (E.2.1, 160, .inl (sg y 160)))]]) (qI E [[mObj am q], [(am 1, .inl (E.2.1, 77, .inl (sg r 77)))], [(am 4, .inl (E.2.1, 8, .inl (sg f 8)))], [(am 8, .inl (E.2.1, 4, .inl (sg z 4)))], [(am 9, .inl (E.2.1, 4, .inl (sg u 4)))], [(am 10, .inl (E.2.1, 160, .inl (sg y 160)))]] [[mObj am q], [(am 1, .inl (E.2.1, 77, .inl (sg r 77)))], [(am 4, .inl (E.2.1, 8, .inl (sg (fndM f (rJudge r y z u s9)) 8)))], [(am 8, .inl (E.2.1, 4, .inl (sg z 4)))], [(am 9, .inl (E.2.1, 4, .inl (sg u 4)))], [(am 10, .inl (E.2.1, 160, .inl (sg y 160)))]] (ansR (rJudge r y z u s9))) 0 0 (inB [[mObj am q], [(am 1, .inl (E.2.1, 77, .inl (sg r 77)))], [(am 4, .inl (E.2.1, 8, .inl (sg f 8)))], [(am 8, .inl (E.2.1, 4, .inl (sg z 4)))], [(am 9, .inl (E.2.1, 4, .inl (sg u 4)))], [(am 10, .inl (E.2.1, 160, .inl (sg y 160)))]]) := by
  refine M_mk RX5 (by decide) rfl (Nat.le_of_ble_eq_true rfl) ?_
  intro p e s m below meth c S hr hlk hK hP hD hS ls hl
  have hl : lv_has ls 3 [(0, .ref (am 0)), (1, .int s9)] := hl
  obtain ⟨n, d, hn, hn8, hd, hd5, ho, hso, hli, hsp, hpt⟩ := id hR
  obtain ⟨H, hH⟩ : ∃ zz9, zz9 = s.heap := ⟨_, rfl⟩
  obtain ⟨locs, hlocs⟩ : ∃ zz9 : List Loc, zz9 = [] := ⟨_, rfl⟩
  have hP : PE E [[mObj am q], [(am 1, .inl (E.2.1, 77, .inl (sg r 77)))], [(am 4, .inl (E.2.1, 8, .inl (sg f 8)))], [(am 8, .inl (E.2.1, 4, .inl (sg z 4)))], [(am 9, .inl (E.2.1, 4, .inl (sg u 4)))], [(am 10, .inl (E.2.1, 160, .inl (sg y 160)))]] H := by rw [hH]; exact hP
  have hS : va_S (inB [[mObj am q], [(am 1, .inl (E.2.1, 77, .inl (sg r 77)))], [(am 4, .inl (E.2.1, 8, .inl (sg f 8)))], [(am 8, .inl (E.2.1, 4, .inl (sg z 4)))], [(am 9, .inl (E.2.1, 4, .inl (sg u 4)))], [(am 10, .inl (E.2.1, 160, .inl (sg y 160)))]]) s.heap H locs := by rw [hH, hlocs]; exact hS
  show W p l e ({ frames := 3, cells := 0, slots := 0, locals := 64 }) s m ([.ref (am 0), .int s9] : List Value).toArray below meth c s.heap [] 0 0 _ _
  suffices hgo : W p l e ({ frames := 3, cells := 0, slots := 0, locals := 64 }) s m ([.ref (am 0), .int s9] : List Value).toArray below meth c H locs 0 0 (MQ below (qI E [[mObj am q], [(am 1, .inl (E.2.1, 77, .inl (sg r 77)))], [(am 4, .inl (E.2.1, 8, .inl (sg f 8)))], [(am 8, .inl (E.2.1, 4, .inl (sg z 4)))], [(am 9, .inl (E.2.1, 4, .inl (sg u 4)))], [(am 10, .inl (E.2.1, 160, .inl (sg y 160)))]] [[mObj am q], [(am 1, .inl (E.2.1, 77, .inl (sg r 77)))], [(am 4, .inl (E.2.1, 8, .inl (sg (fndM f (rJudge r y z u s9)) 8)))], [(am 8, .inl (E.2.1, 4, .inl (sg z 4)))], [(am 9, .inl (E.2.1, 4, .inl (sg u 4)))], [(am 10, .inl (E.2.1, 160, .inl (sg y 160)))]] (ansR (rJudge r y z u s9))) ([.ref (am 0), .int s9] : List Value).toArray s 0 0 (inB [[mObj am q], [(am 1, .inl (E.2.1, 77, .inl (sg r 77)))], [(am 4, .inl (E.2.1, 8, .inl (sg f 8)))], [(am 8, .inl (E.2.1, 4, .inl (sg z 4)))], [(am 9, .inl (E.2.1, 4, .inl (sg u 4)))], [(am 10, .inl (E.2.1, 160, .inl (sg y 160)))]])) (F0 m 0 ls []) by rw [hH, hlocs] at hgo; exact hgo
  clear hH hlocs
  refine lv_aload_n S.1 S.2.1 dX5_judge_0 rfl (lv_at hl 0 rfl) ?_
  refine lv_iload_n S.1 S.2.1 dX5_judge_1 rfl (lv_at hl 1 rfl) ?_
  refine lv_iconst (v := 1) S.1 S.2.1 dX5_judge_2 (by decide) ?_
  refine go_S (run_V (As := [.int s9, .int 1]) (rest := []) (n := 2) S hK (bl_P hP [0, 3] rfl) (bl_D hD [0, 3] rfl rfl) (c_X5_lacks l E am q z s9 (True)) gV_X5_210 (by decide +kernel) rfl ⟨rfl, rfl⟩ ⟨Nat.le_of_ble_eq_true rfl, Nat.le_of_ble_eq_true rfl⟩ (ci := 5) (q0 := 0) rfl rfl hl.1 (Nat.le_of_ble_eq_true rfl) dX5_judge_3 ⟨Nat.zero_le _, Nat.zero_le _⟩) ?_
  refine lv_if_eq (tgt := 20) S.1 S.2.1 dX5_judge_6 (by decide) (fun c_6 => ?_) (fun c_6 => ?_)
  · have hc6 := c_6
    obtain ⟨k_s9, hk_s9, ek_s9, hz_s9, hG9⟩ := lack_ok c_6
    obtain ⟨len, hlen, elen⟩ := hU k_s9 (by omega)
    refine lv_iconst (v := 0) S.1 S.2.1 dX5_judge_20 (by decide) ?_
    refine lv_istore_n (lv' := [(2, .int 0), (0, .ref (am 0)), (1, .int s9)]) S.1 S.2.1 dX5_judge_21 rfl hl (by decide) rfl (fun ls hl => ?_)
    have L_22 : ∀ (fu : Nat) (i : Nat), (i ≤ len) → (len < i + fu) → (∀ j, j < i → badJ r y (40 * k_s9) j = false) → ∀ (H : Heap) (locs : List Loc), PE E [[mObj am q], [(am 1, .inl (E.2.1, 77, .inl (sg r 77)))], [(am 4, .inl (E.2.1, 8, .inl (sg f 8)))], [(am 8, .inl (E.2.1, 4, .inl (sg z 4)))], [(am 9, .inl (E.2.1, 4, .inl (sg u 4)))], [(am 10, .inl (E.2.1, 160, .inl (sg y 160)))]] H → DE (inB [[mObj am q], [(am 1, .inl (E.2.1, 77, .inl (sg r 77)))], [(am 4, .inl (E.2.1, 8, .inl (sg f 8)))], [(am 8, .inl (E.2.1, 4, .inl (sg z 4)))], [(am 9, .inl (E.2.1, 4, .inl (sg u 4)))], [(am 10, .inl (E.2.1, 160, .inl (sg y 160)))]]) [[mObj am q], [(am 1, .inl (E.2.1, 77, .inl (sg r 77)))], [(am 4, .inl (E.2.1, 8, .inl (sg f 8)))], [(am 8, .inl (E.2.1, 4, .inl (sg z 4)))], [(am 9, .inl (E.2.1, 4, .inl (sg u 4)))], [(am 10, .inl (E.2.1, 160, .inl (sg y 160)))]] → va_S (inB [[mObj am q], [(am 1, .inl (E.2.1, 77, .inl (sg r 77)))], [(am 4, .inl (E.2.1, 8, .inl (sg f 8)))], [(am 8, .inl (E.2.1, 4, .inl (sg z 4)))], [(am 9, .inl (E.2.1, 4, .inl (sg u 4)))], [(am 10, .inl (E.2.1, 160, .inl (sg y 160)))]]) s.heap H locs → ∀ (ls : Array Slot), lv_has ls 3 [(0, .ref (am 0)), (1, .int s9), (2, .int (nI i))] → W p l e ({ frames := 3, cells := 0, slots := 0, locals := 64 }) s m ([.ref (am 0), .int s9] : List Value).toArray below meth c H locs 0 0 (MQ below (qI E [[mObj am q], [(am 1, .inl (E.2.1, 77, .inl (sg r 77)))], [(am 4, .inl (E.2.1, 8, .inl (sg f 8)))], [(am 8, .inl (E.2.1, 4, .inl (sg z 4)))], [(am 9, .inl (E.2.1, 4, .inl (sg u 4)))], [(am 10, .inl (E.2.1, 160, .inl (sg y 160)))]] [[mObj am q], [(am 1, .inl (E.2.1, 77, .inl (sg r 77)))], [(am 4, .inl (E.2.1, 8, .inl (sg (fndM f (rJudge r y z u s9)) 8)))], [(am 8, .inl (E.2.1, 4, .inl (sg z 4)))], [(am 9, .inl (E.2.1, 4, .inl (sg u 4)))], [(am 10, .inl (E.2.1, 160, .inl (sg y 160)))]] (ansR (rJudge r y z u s9))) ([.ref (am 0), .int s9] : List Value).toArray s 0 0 (inB [[mObj am q], [(am 1, .inl (E.2.1, 77, .inl (sg r 77)))], [(am 4, .inl (E.2.1, 8, .inl (sg f 8)))], [(am 8, .inl (E.2.1, 4, .inl (sg z 4)))], [(am 9, .inl (E.2.1, 4, .inl (sg u 4)))], [(am 10, .inl (E.2.1, 160, .inl (sg y 160)))]])) (F0 m 22 ls []) := by
      intro fu
      induction fu with
      | zero =>
        intro i hi hf hno
        omega
      | succ fu ih_22 =>
        intro i hi hf hno H locs hP hD hS ls hl
        refine lv_iload_n S.1 S.2.1 dX5_judge_22 rfl (lv_at hl 2 rfl) ?_
        refine lv_aload_n S.1 S.2.1 dX5_judge_23 rfl (lv_at hl 0 rfl) ?_
        refine gf_X5_51 S hK hP 0 0 rfl rfl rfl dX5_judge_24 ?_
        refine lv_iload_n S.1 S.2.1 dX5_judge_27 rfl (lv_at hl 1 rfl) ?_
        refine lv_eqi (y := nI k_s9) ek_s9 ?_
        refine b_ialdN (i := k_s9) S hK hP 4 0 rfl rfl (by omega) (by decide) dX5_judge_28 ?_
        refine lv_eqi (y := nI len) ((sg_at (by omega)).trans elen) ?_
        refine lv_icmp_ge (tgt := 66) S.1 S.2.1 dX5_judge_29 (by decide) (fun c_29 => ?_) (fun c_29 => ?_)
        · have n_29 := Int32.not_lt.mpr c_29
          have hi9 : i = len := le_endK hi c_29 (by omega)
          refine lv_iload_n S.1 S.2.1 dX5_judge_66 rfl (lv_at hl 2 rfl) ?_
          refine lv_aload_n S.1 S.2.1 dX5_judge_67 rfl (lv_at hl 0 rfl) ?_
          refine gf_X5_51 S hK hP 0 0 rfl rfl rfl dX5_judge_68 ?_
          refine lv_iload_n S.1 S.2.1 dX5_judge_71 rfl (lv_at hl 1 rfl) ?_
          refine lv_eqi (y := nI k_s9) ek_s9 ?_
          refine b_ialdN (i := k_s9) S hK hP 4 0 rfl rfl (by omega) (by decide) dX5_judge_72 ?_
          refine lv_eqi (y := nI len) ((sg_at (by omega)).trans elen) ?_
          refine lv_icmp_ne (tgt := 80) S.1 S.2.1 dX5_judge_73 (by decide) (fun c_73 => ?_) (fun c_73 => ?_)
          · refine lv_iconst (v := 1) S.1 S.2.1 dX5_judge_80 (by decide) ?_
            refine lv_iload_n S.1 S.2.1 dX5_judge_81 rfl (lv_at hl 2 rfl) ?_
            refine lv_iadd S.1 S.2.1 dX5_judge_82 ?_
            refine lv_eqi (y := nI (1 + i)) (nI_add 1 i) ?_
            exact retI S hr hlk (by have e9 : rJudge r y z u s9 = .inr (r, nI (1 + i)) := (by have e8 : fstN (badJ r y (40 * k_s9)) len = i := (by rw [fst_no (fun j hj => hno j (by omega))]; omega); have z8 : ¬ i = len := fun z9 => c_73 (by rw [z9]); unfold rJudge; rw [if_pos hc6, ek_s9, tN_nI (by omega), elen, tN_nI (by omega), e8, if_neg z8]); rw [e9, fndM_inr]; exact hP) hS (by have e9 : rJudge r y z u s9 = .inr (r, nI (1 + i)) := (by have e8 : fstN (badJ r y (40 * k_s9)) len = i := (by rw [fst_no (fun j hj => hno j (by omega))]; omega); have z8 : ¬ i = len := fun z9 => c_73 (by rw [z9]); unfold rJudge; rw [if_pos hc6, ek_s9, tN_nI (by omega), elen, tN_nI (by omega), e8, if_neg z8]); rw [e9, ansR_inr]) dX5_judge_83
          · refine lv_iconst (v := 0) S.1 S.2.1 dX5_judge_76 (by decide) ?_
            refine lv_goto (tgt := 83) S.1 S.2.1 dX5_judge_77 (by decide) ?_
            exact retI S hr hlk (by have e9 : rJudge r y z u s9 = .inr (r, 0) := (by have e8 : fstN (badJ r y (40 * k_s9)) len = i := (by rw [fst_no (fun j hj => hno j (by omega))]; omega); have z8 : i = len := (nI_eq (by omega) (by omega)).mp c_73; unfold rJudge; rw [if_pos hc6, ek_s9, tN_nI (by omega), elen, tN_nI (by omega), e8, if_pos z8]); rw [e9, fndM_inr]; exact hP) hS (by have e9 : rJudge r y z u s9 = .inr (r, 0) := (by have e8 : fstN (badJ r y (40 * k_s9)) len = i := (by rw [fst_no (fun j hj => hno j (by omega))]; omega); have z8 : i = len := (nI_eq (by omega) (by omega)).mp c_73; unfold rJudge; rw [if_pos hc6, ek_s9, tN_nI (by omega), elen, tN_nI (by omega), e8, if_pos z8]); rw [e9, ansR_inr]) dX5_judge_83
        · have n_29 := Int32.not_le.mp c_29
          have hi2 : i < len := (nI_ltI (by omega) (by omega)).mp n_29
          refine lv_aload_n S.1 S.2.1 dX5_judge_32 rfl (lv_at hl 0 rfl) ?_
          refine lv_iload_n S.1 S.2.1 dX5_judge_33 rfl (lv_at hl 2 rfl) ?_
          refine go_S (run_V (As := [.int (nI i)]) (rest := []) (n := 1) S hK (bl_P hP [0, 1] rfl) (bl_D hD [0, 1] rfl rfl) (c_X5_isPotter l E am q r (nI i) n hn hn8) gV_X5_122 (by decide +kernel) rfl ⟨rfl, rfl⟩ ⟨Nat.le_of_ble_eq_true rfl, Nat.le_of_ble_eq_true rfl⟩ (ci := 5) (q0 := 0) rfl rfl hl.1 (Nat.le_of_ble_eq_true rfl) dX5_judge_34 ⟨Nat.zero_le _, Nat.zero_le _⟩) ?_
          refine b_ifeq (tgt := 66) S.1 S.2.1 dX5_judge_37 (by decide) (fun c_37 => ?_) (fun c_37 => ?_)
          · refine lv_iload_n S.1 S.2.1 dX5_judge_66 rfl (lv_at hl 2 rfl) ?_
            refine lv_aload_n S.1 S.2.1 dX5_judge_67 rfl (lv_at hl 0 rfl) ?_
            refine gf_X5_51 S hK hP 0 0 rfl rfl rfl dX5_judge_68 ?_
            refine lv_iload_n S.1 S.2.1 dX5_judge_71 rfl (lv_at hl 1 rfl) ?_
            refine lv_eqi (y := nI k_s9) ek_s9 ?_
            refine b_ialdN (i := k_s9) S hK hP 4 0 rfl rfl (by omega) (by decide) dX5_judge_72 ?_
            refine lv_eqi (y := nI len) ((sg_at (by omega)).trans elen) ?_
            refine lv_icmp_ne (tgt := 80) S.1 S.2.1 dX5_judge_73 (by decide) (fun c_73 => ?_) (fun c_73 => ?_)
            · refine lv_iconst (v := 1) S.1 S.2.1 dX5_judge_80 (by decide) ?_
              refine lv_iload_n S.1 S.2.1 dX5_judge_81 rfl (lv_at hl 2 rfl) ?_
              refine lv_iadd S.1 S.2.1 dX5_judge_82 ?_
              refine lv_eqi (y := nI (1 + i)) (nI_add 1 i) ?_
              exact retI S hr hlk (by have e9 : rJudge r y z u s9 = .inr (r, nI (1 + i)) := (by have e8 : fstN (badJ r y (40 * k_s9)) len = i := fst_yes (fun j hj => hno j hj) (decide_eq_true (fun z9 => c_37 ⟨nI_pos' (by omega), by rw [hn]; exact nI_lt (by rw [cntN_eq hn hn8] at z9; exact z9.1) (by omega)⟩)) hi2; have z8 : ¬ i = len := fun z9 => c_73 (by rw [z9]); unfold rJudge; rw [if_pos hc6, ek_s9, tN_nI (by omega), elen, tN_nI (by omega), e8, if_neg z8]); rw [e9, fndM_inr]; exact hP) hS (by have e9 : rJudge r y z u s9 = .inr (r, nI (1 + i)) := (by have e8 : fstN (badJ r y (40 * k_s9)) len = i := fst_yes (fun j hj => hno j hj) (decide_eq_true (fun z9 => c_37 ⟨nI_pos' (by omega), by rw [hn]; exact nI_lt (by rw [cntN_eq hn hn8] at z9; exact z9.1) (by omega)⟩)) hi2; have z8 : ¬ i = len := fun z9 => c_73 (by rw [z9]); unfold rJudge; rw [if_pos hc6, ek_s9, tN_nI (by omega), elen, tN_nI (by omega), e8, if_neg z8]); rw [e9, ansR_inr]) dX5_judge_83
            · refine lv_iconst (v := 0) S.1 S.2.1 dX5_judge_76 (by decide) ?_
              refine lv_goto (tgt := 83) S.1 S.2.1 dX5_judge_77 (by decide) ?_
              exact retI S hr hlk (by have e9 : rJudge r y z u s9 = .inr (r, 0) := (by have e8 : fstN (badJ r y (40 * k_s9)) len = i := fst_yes (fun j hj => hno j hj) (decide_eq_true (fun z9 => c_37 ⟨nI_pos' (by omega), by rw [hn]; exact nI_lt (by rw [cntN_eq hn hn8] at z9; exact z9.1) (by omega)⟩)) hi2; have z8 : i = len := (nI_eq (by omega) (by omega)).mp c_73; unfold rJudge; rw [if_pos hc6, ek_s9, tN_nI (by omega), elen, tN_nI (by omega), e8, if_pos z8]); rw [e9, fndM_inr]; exact hP) hS (by have e9 : rJudge r y z u s9 = .inr (r, 0) := (by have e8 : fstN (badJ r y (40 * k_s9)) len = i := fst_yes (fun j hj => hno j hj) (decide_eq_true (fun z9 => c_37 ⟨nI_pos' (by omega), by rw [hn]; exact nI_lt (by rw [cntN_eq hn hn8] at z9; exact z9.1) (by omega)⟩)) hi2; have z8 : i = len := (nI_eq (by omega) (by omega)).mp c_73; unfold rJudge; rw [if_pos hc6, ek_s9, tN_nI (by omega), elen, tN_nI (by omega), e8, if_pos z8]); rw [e9, ansR_inr]) dX5_judge_83
          · have hi3 : i < n := (nI_ltI (by omega) (by omega)).mp (by rw [← hn]; exact c_37.2)
            refine lv_aload_n S.1 S.2.1 dX5_judge_40 rfl (lv_at hl 0 rfl) ?_
            refine gf_X5_54 S hK hP 0 0 rfl rfl rfl dX5_judge_41 ?_
            refine lv_bipush (v := 40) S.1 S.2.1 dX5_judge_44 (by decide) ?_
            refine lv_iload_n S.1 S.2.1 dX5_judge_46 rfl (lv_at hl 1 rfl) ?_
            refine lv_eqi (y := nI k_s9) ek_s9 ?_
            refine lv_imul S.1 S.2.1 dX5_judge_47 ?_
            refine lv_eqi (y := nI (40 * k_s9)) (pk_mul 40 k_s9) ?_
            refine lv_iload_n S.1 S.2.1 dX5_judge_48 rfl (lv_at hl 2 rfl) ?_
            refine lv_iadd S.1 S.2.1 dX5_judge_49 ?_
            refine lv_eqi (y := nI (40 * k_s9 + i)) (nI_add (40 * k_s9) i) ?_
            refine b_ialdN (i := 40 * k_s9 + i) S hK hP 5 0 rfl rfl (by omega) (by decide) dX5_judge_50 ?_
            refine lv_eqi (y := y (40 * k_s9 + i)) (sg_at (by omega)) ?_
            refine lv_aload_n S.1 S.2.1 dX5_judge_51 rfl (lv_at hl 0 rfl) ?_
            refine lv_iload_n S.1 S.2.1 dX5_judge_52 rfl (lv_at hl 2 rfl) ?_
            refine lv_iconst (v := 4) S.1 S.2.1 dX5_judge_53 (by decide) ?_
            refine go_S (run_V (As := [.int (nI i), .int 4]) (rest := [.int (y (40 * k_s9 + i))]) (n := 2) S hK (bl_P hP [0, 1] rfl) (bl_D hD [0, 1] rfl rfl) (c_X5_potterIs l E am q r i 4 (by omega) (by omega)) gV_X5_92 (by decide +kernel) rfl ⟨rfl, rfl⟩ ⟨Nat.le_of_ble_eq_true rfl, Nat.le_of_ble_eq_true rfl⟩ (ci := 5) (q0 := 0) rfl rfl hl.1 (Nat.le_of_ble_eq_true rfl) dX5_judge_54 ⟨Nat.zero_le _, Nat.zero_le _⟩) ?_
            refine lv_icmp_ne (tgt := 66) S.1 S.2.1 dX5_judge_57 (by decide) (fun c_57 => ?_) (fun c_57 => ?_)
            · refine lv_iload_n S.1 S.2.1 dX5_judge_66 rfl (lv_at hl 2 rfl) ?_
              refine lv_aload_n S.1 S.2.1 dX5_judge_67 rfl (lv_at hl 0 rfl) ?_
              refine gf_X5_51 S hK hP 0 0 rfl rfl rfl dX5_judge_68 ?_
              refine lv_iload_n S.1 S.2.1 dX5_judge_71 rfl (lv_at hl 1 rfl) ?_
              refine lv_eqi (y := nI k_s9) ek_s9 ?_
              refine b_ialdN (i := k_s9) S hK hP 4 0 rfl rfl (by omega) (by decide) dX5_judge_72 ?_
              refine lv_eqi (y := nI len) ((sg_at (by omega)).trans elen) ?_
              refine lv_icmp_ne (tgt := 80) S.1 S.2.1 dX5_judge_73 (by decide) (fun c_73 => ?_) (fun c_73 => ?_)
              · refine lv_iconst (v := 1) S.1 S.2.1 dX5_judge_80 (by decide) ?_
                refine lv_iload_n S.1 S.2.1 dX5_judge_81 rfl (lv_at hl 2 rfl) ?_
                refine lv_iadd S.1 S.2.1 dX5_judge_82 ?_
                refine lv_eqi (y := nI (1 + i)) (nI_add 1 i) ?_
                exact retI S hr hlk (by have e9 : rJudge r y z u s9 = .inr (r, nI (1 + i)) := (by have e8 : fstN (badJ r y (40 * k_s9)) len = i := fst_yes (fun j hj => hno j hj) (decide_eq_true (fun z9 => c_57 z9.2)) hi2; have z8 : ¬ i = len := fun z9 => c_73 (by rw [z9]); unfold rJudge; rw [if_pos hc6, ek_s9, tN_nI (by omega), elen, tN_nI (by omega), e8, if_neg z8]); rw [e9, fndM_inr]; exact hP) hS (by have e9 : rJudge r y z u s9 = .inr (r, nI (1 + i)) := (by have e8 : fstN (badJ r y (40 * k_s9)) len = i := fst_yes (fun j hj => hno j hj) (decide_eq_true (fun z9 => c_57 z9.2)) hi2; have z8 : ¬ i = len := fun z9 => c_73 (by rw [z9]); unfold rJudge; rw [if_pos hc6, ek_s9, tN_nI (by omega), elen, tN_nI (by omega), e8, if_neg z8]); rw [e9, ansR_inr]) dX5_judge_83
              · refine lv_iconst (v := 0) S.1 S.2.1 dX5_judge_76 (by decide) ?_
                refine lv_goto (tgt := 83) S.1 S.2.1 dX5_judge_77 (by decide) ?_
                exact retI S hr hlk (by have e9 : rJudge r y z u s9 = .inr (r, 0) := (by have e8 : fstN (badJ r y (40 * k_s9)) len = i := fst_yes (fun j hj => hno j hj) (decide_eq_true (fun z9 => c_57 z9.2)) hi2; have z8 : i = len := (nI_eq (by omega) (by omega)).mp c_73; unfold rJudge; rw [if_pos hc6, ek_s9, tN_nI (by omega), elen, tN_nI (by omega), e8, if_pos z8]); rw [e9, fndM_inr]; exact hP) hS (by have e9 : rJudge r y z u s9 = .inr (r, 0) := (by have e8 : fstN (badJ r y (40 * k_s9)) len = i := fst_yes (fun j hj => hno j hj) (decide_eq_true (fun z9 => c_57 z9.2)) hi2; have z8 : i = len := (nI_eq (by omega) (by omega)).mp c_73; unfold rJudge; rw [if_pos hc6, ek_s9, tN_nI (by omega), elen, tN_nI (by omega), e8, if_pos z8]); rw [e9, ansR_inr]) dX5_judge_83
            · refine lv_iinc (v := nI (i + 1)) (lv' := [(2, .int (nI (i + 1))), (0, .ref (am 0)), (1, .int s9)]) S.1 S.2.1 dX5_judge_60 hl (k := 2) rfl (nI_1 i) (by decide) rfl (fun ls hl => ?_)
              refine lv_goto (tgt := 22) S.1 S.2.1 dX5_judge_63 (by decide) ?_
              exact ih_22 (i + 1) (by omega) (by omega) (lt_s hno (decide_eq_false (fun z9 => z9 ⟨by rw [cntN_eq hn hn8]; exact hi3, c_57⟩))) H locs hP hD hS ls (lv_sub hl [1, 2, 0] rfl)
    exact L_22 (len + 1) 0 (by omega) (by omega) (fun j hj => absurd hj (by omega)) H locs hP hD hS ls (lv_sub hl [1, 2, 0] rfl)
  · refine lv_aload_n S.1 S.2.1 dX5_judge_9 rfl (lv_at hl 0 rfl) ?_
    refine lv_aload_n S.1 S.2.1 dX5_judge_10 rfl (lv_at hl 0 rfl) ?_
    refine lv_iload_n S.1 S.2.1 dX5_judge_11 rfl (lv_at hl 1 rfl) ?_
    refine lv_iconst (v := 1) S.1 S.2.1 dX5_judge_12 (by decide) ?_
    refine go_S (run_V (As := [.int s9, .int 1]) (rest := [.ref (am 0)]) (n := 2) S hK (bl_P hP [0, 3] rfl) (bl_D hD [0, 3] rfl rfl) (c_X5_lacks l E am q z s9 (True)) gV_X5_210 (by decide +kernel) rfl ⟨rfl, rfl⟩ ⟨Nat.le_of_ble_eq_true rfl, Nat.le_of_ble_eq_true rfl⟩ (ci := 5) (q0 := 0) rfl rfl hl.1 (Nat.le_of_ble_eq_true rfl) dX5_judge_13 ⟨Nat.zero_le _, Nat.zero_le _⟩) ?_
    refine go_I (run_V (As := [.int (lackV z s9 (True))]) (rest := []) (n := 1) S hK (bl_P hP [0, 2] rfl) (bl_D hD [0, 2] rfl rfl) (c_X5_finding l E am q f (lackV z s9 (True)) (lackK z s9 (True)) (lack_hv c_6) lackK_lt) gV_X5_66 (by decide +kernel) rfl ⟨rfl, rfl⟩ ⟨Nat.le_of_ble_eq_true rfl, Nat.le_of_ble_eq_true rfl⟩ (ci := 5) (q0 := 0) rfl rfl hl.1 (Nat.le_of_ble_eq_true rfl) dX5_judge_16 ⟨Nat.zero_le _, Nat.zero_le _⟩) hP hD hS [0, 2] rfl (had_cons rfl (had_cons cell_ad rfl)) (Bs' := [[mObj am q], [(am 1, .inl (E.2.1, 77, .inl (sg r 77)))], [(am 4, .inl (E.2.1, 8, .inl (sg (findM f (lackK z s9 (True))) 8)))], [(am 8, .inl (E.2.1, 4, .inl (sg z 4)))], [(am 9, .inl (E.2.1, 4, .inl (sg u 4)))], [(am 10, .inl (E.2.1, 160, .inl (sg y 160)))]]) rfl (fun H locs hP hD hS => ?_)
    obtain ⟨r_16, er_16⟩ : ∃ zz9 : Row, zz9 = findM f (lackK z s9 (True)) := ⟨_, rfl⟩
    rw [← er_16] at hP hD
    exact retI S hr hlk (by have e9 : rJudge r y z u s9 = .inl (lackK z s9 True) := if_neg c_6; rw [er_16] at hP; rw [e9, fndM_inl]; exact hP) hS (by have e9 : rJudge r y z u s9 = .inl (lackK z s9 True) := if_neg c_6; rw [e9]; exact lack_ans c_6) dX5_judge_19
set_option maxHeartbeats 800000 in
set_option maxRecDepth 100000 in
theorem c_X5_isUnder (l : Launch) (E : EV) (v w : Int32)  : Met l yX5_isUnder (wq yX5_isUnder cX5_isUnder 3 (some .boolean)) ({ frames := 1, cells := 0, slots := 0, locals := 20 }) (preB E [.int v, .int w] []) (qS (bI (undN 5 v w = true))) 0 0 (fun _ => False) := by
  refine M_mk RX5 (by decide) rfl (Nat.le_of_ble_eq_true rfl) ?_
  intro p e s m below meth c S hr hlk hK hP hD hS ls hl
  have hl : lv_has ls 3 [(0, .int v), (1, .int w)] := hl
  refine lv_iload_n S.1 S.2.1 dX5_isUnder_0 rfl (lv_at hl 0 rfl) ?_
  refine lv_istore_n (lv' := [(2, .int v), (0, .int v), (1, .int w)]) S.1 S.2.1 dX5_isUnder_1 rfl hl (by decide) rfl (fun ls hl => ?_)
  have L_2 : ∀ (fu : Nat) (kk : Int32), (msr kk < fu) → (undN 5 v w = undN fu kk w) → ∀ (ls : Array Slot), lv_has ls 3 [(0, .int v), (1, .int w), (2, .int kk)] → W p l e ({ frames := 1, cells := 0, slots := 0, locals := 20 }) s m ([.int v, .int w] : List Value).toArray below meth c s.heap [] 0 0 (MQ below (qS (bI (undN 5 v w = true))) ([.int v, .int w] : List Value).toArray s 0 0 (fun _ => False)) (F0 m 2 ls []) := by
    intro fu
    induction fu with
    | zero =>
      intro kk hm hu
      omega
    | succ fu ih_2 =>
      intro kk hm hu ls hl
      refine lv_iload_n S.1 S.2.1 dX5_isUnder_2 rfl (lv_at hl 2 rfl) ?_
      refine lv_if_lt (tgt := 19) S.1 S.2.1 dX5_isUnder_3 (by decide) (fun c_3 => ?_) (fun c_3 => ?_)
      · have n_3 := Int32.not_le.mpr c_3
        refine lv_iload_n S.1 S.2.1 dX5_isUnder_19 rfl (lv_at hl 2 rfl) ?_
        refine lv_if_lt (tgt := 27) S.1 S.2.1 dX5_isUnder_20 (by decide) (fun c_20 => ?_) (fun c_20 => ?_)
        · have n_20 := Int32.not_le.mpr c_20
          refine lv_iconst (v := 0) S.1 S.2.1 dX5_isUnder_27 (by decide) ?_
          exact retSZ S hr hlk rfl (by rw [hu, undN, if_pos c_3]; rfl) dX5_isUnder_28
        · have n_20 := Int32.not_lt.mp c_20
          refine lv_iconst (v := 1) S.1 S.2.1 dX5_isUnder_23 (by decide) ?_
          refine lv_goto (tgt := 28) S.1 S.2.1 dX5_isUnder_24 (by decide) ?_
          exact retSZ S hr hlk rfl (absurd c_3 c_20) dX5_isUnder_28
      · have n_3 := Int32.not_lt.mp c_3
        refine lv_iload_n S.1 S.2.1 dX5_isUnder_6 rfl (lv_at hl 2 rfl) ?_
        refine lv_iload_n S.1 S.2.1 dX5_isUnder_7 rfl (lv_at hl 1 rfl) ?_
        refine lv_icmp_eq (tgt := 19) S.1 S.2.1 dX5_isUnder_8 (by decide) (fun c_8 => ?_) (fun c_8 => ?_)
        · refine lv_iload_n S.1 S.2.1 dX5_isUnder_19 rfl (lv_at hl 2 rfl) ?_
          refine lv_if_lt (tgt := 27) S.1 S.2.1 dX5_isUnder_20 (by decide) (fun c_20 => ?_) (fun c_20 => ?_)
          · have n_20 := Int32.not_le.mpr c_20
            refine lv_iconst (v := 0) S.1 S.2.1 dX5_isUnder_27 (by decide) ?_
            exact retSZ S hr hlk rfl (absurd c_20 c_3) dX5_isUnder_28
          · have n_20 := Int32.not_lt.mp c_20
            refine lv_iconst (v := 1) S.1 S.2.1 dX5_isUnder_23 (by decide) ?_
            refine lv_goto (tgt := 28) S.1 S.2.1 dX5_isUnder_24 (by decide) ?_
            exact retSZ S hr hlk rfl (by rw [hu, undN, if_neg c_3, if_pos c_8]; rfl) dX5_isUnder_28
        · refine lv_iload_n S.1 S.2.1 dX5_isUnder_11 rfl (lv_at hl 2 rfl) ?_
          refine go_S (run_S (As := [.int kk]) (rest := []) (n := 1) S hK (bl_P hP [] rfl) (bl_D hD [] rfl rfl) (c_X5_above l E kk ) gS_X5_311 (by decide +kernel) rfl ⟨rfl, rfl⟩ ⟨Nat.le_of_ble_eq_true rfl, Nat.le_of_ble_eq_true rfl⟩ hl.1 (Nat.le_of_ble_eq_true rfl) dX5_isUnder_12 ⟨Nat.zero_le _, Nat.zero_le _⟩) ?_
          refine lv_istore_n (lv' := [(2, .int (aboveV kk)), (0, .int v), (1, .int w)]) S.1 S.2.1 dX5_isUnder_15 rfl hl (by decide) rfl (fun ls hl => ?_)
          refine lv_goto (tgt := 2) S.1 S.2.1 dX5_isUnder_16 (by decide) ?_
          exact ih_2 (aboveV kk) (msr_s c_3 hm) (by rw [hu, undN, if_neg c_3, if_neg c_8])  ls (lv_sub hl [1, 2, 0] rfl)
  exact L_2 5 v (msr_lt v) rfl  ls (lv_sub hl [1, 2, 0] rfl)
set_option maxHeartbeats 800000 in
set_option maxRecDepth 100000 in
theorem c_X5_as (l : Launch) (E : EV) (am : Nat → Nat) (q r f : Row) (s9 w : Int32) (hR : RI r) : Met l yX5_as (wq yX5_as cX5_as 4 (some .int)) ({ frames := 2, cells := 0, slots := 0, locals := 43 }) (preB E [.ref (am 0), .int s9, .int w] [[mObj am q], [(am 1, .inl (E.2.1, 77, .inl (sg r 77)))], [(am 4, .inl (E.2.1, 8, .inl (sg f 8)))]]) (qI E [[mObj am q], [(am 1, .inl (E.2.1, 77, .inl (sg r 77)))], [(am 4, .inl (E.2.1, 8, .inl (sg f 8)))]] [[mObj am q], [(am 1, .inl (E.2.1, 77, .inl (sg r 77)))], [(am 4, .inl (E.2.1, 8, .inl (sg (fndM f (rAs r s9 w)) 8)))]] (ansR (rAs r s9 w))) 0 0 (inB [[mObj am q], [(am 1, .inl (E.2.1, 77, .inl (sg r 77)))], [(am 4, .inl (E.2.1, 8, .inl (sg f 8)))]]) := by
  refine M_mk RX5 (by decide) rfl (Nat.le_of_ble_eq_true rfl) ?_
  intro p e s m below meth c S hr hlk hK hP hD hS ls hl
  have hl : lv_has ls 4 [(0, .ref (am 0)), (1, .int s9), (2, .int w)] := hl
  obtain ⟨n, d, hn, hn8, hd, hd5, ho, hso, hli, hsp, hpt⟩ := id hR
  obtain ⟨H, hH⟩ : ∃ zz9, zz9 = s.heap := ⟨_, rfl⟩
  obtain ⟨locs, hlocs⟩ : ∃ zz9 : List Loc, zz9 = [] := ⟨_, rfl⟩
  have hP : PE E [[mObj am q], [(am 1, .inl (E.2.1, 77, .inl (sg r 77)))], [(am 4, .inl (E.2.1, 8, .inl (sg f 8)))]] H := by rw [hH]; exact hP
  have hS : va_S (inB [[mObj am q], [(am 1, .inl (E.2.1, 77, .inl (sg r 77)))], [(am 4, .inl (E.2.1, 8, .inl (sg f 8)))]]) s.heap H locs := by rw [hH, hlocs]; exact hS
  show W p l e ({ frames := 2, cells := 0, slots := 0, locals := 43 }) s m ([.ref (am 0), .int s9, .int w] : List Value).toArray below meth c s.heap [] 0 0 _ _
  suffices hgo : W p l e ({ frames := 2, cells := 0, slots := 0, locals := 43 }) s m ([.ref (am 0), .int s9, .int w] : List Value).toArray below meth c H locs 0 0 (MQ below (qI E [[mObj am q], [(am 1, .inl (E.2.1, 77, .inl (sg r 77)))], [(am 4, .inl (E.2.1, 8, .inl (sg f 8)))]] [[mObj am q], [(am 1, .inl (E.2.1, 77, .inl (sg r 77)))], [(am 4, .inl (E.2.1, 8, .inl (sg (fndM f (rAs r s9 w)) 8)))]] (ansR (rAs r s9 w))) ([.ref (am 0), .int s9, .int w] : List Value).toArray s 0 0 (inB [[mObj am q], [(am 1, .inl (E.2.1, 77, .inl (sg r 77)))], [(am 4, .inl (E.2.1, 8, .inl (sg f 8)))]])) (F0 m 0 ls []) by rw [hH, hlocs] at hgo; exact hgo
  clear hH hlocs
  refine lv_iload_n S.1 S.2.1 dX5_as_0 rfl (lv_at hl 1 rfl) ?_
  refine go_S (run_S (As := [.int s9]) (rest := []) (n := 1) S hK (bl_P hP [] rfl) (bl_D hD [] rfl rfl) (c_X5_isSpot l E s9 ) gS_X5_300 (by decide +kernel) rfl ⟨rfl, rfl⟩ ⟨Nat.le_of_ble_eq_true rfl, Nat.le_of_ble_eq_true rfl⟩ hl.1 (Nat.le_of_ble_eq_true rfl) dX5_as_1 ⟨Nat.zero_le _, Nat.zero_le _⟩) ?_
  refine b_ifeq (tgt := 14) S.1 S.2.1 dX5_as_4 (by decide) (fun c_4 => ?_) (fun c_4 => ?_)
  · refine lv_aload_n S.1 S.2.1 dX5_as_14 rfl (lv_at hl 0 rfl) ?_
    refine lv_ldc (v := (-1000001)) S.1 S.2.1 S.2.2.2.1 (S.2.2.2.2 _ (List.mem_cons_of_mem _ kk_X5_60)) dX5_as_15 ?_
    refine go_I (run_V (As := [.int (-1000001)]) (rest := []) (n := 1) S hK (bl_P hP [0, 2] rfl) (bl_D hD [0, 2] rfl rfl) (c_X5_finding l E am q f (-1000001) 0 (by decide) (by decide)) gV_X5_66 (by decide +kernel) rfl ⟨rfl, rfl⟩ ⟨Nat.le_of_ble_eq_true rfl, Nat.le_of_ble_eq_true rfl⟩ (ci := 5) (q0 := 0) rfl rfl hl.1 (Nat.le_of_ble_eq_true rfl) dX5_as_17 ⟨Nat.zero_le _, Nat.zero_le _⟩) hP hD hS [0, 2] rfl (had_cons rfl (had_cons cell_ad rfl)) (Bs' := [[mObj am q], [(am 1, .inl (E.2.1, 77, .inl (sg r 77)))], [(am 4, .inl (E.2.1, 8, .inl (sg (findM f 0) 8)))]]) rfl (fun H locs hP hD hS => ?_)
    obtain ⟨r_17, er_17⟩ : ∃ zz9 : Row, zz9 = findM f 0 := ⟨_, rfl⟩
    rw [← er_17] at hP hD
    exact retI S hr hlk (by have e9 : rAs r s9 w = .inl 0 := (by unfold rAs; rw [if_neg c_4]); rw [er_17] at hP; rw [e9, fndM_inl]; exact hP) hS (by have e9 : rAs r s9 w = .inl 0 := (by unfold rAs; rw [if_neg c_4]); rw [e9]; decide) dX5_as_20
  · obtain ⟨k_s9, hk_s9, ek_s9⟩ := nI_of2 (n := 9) (by decide) (Int32.not_lt.mpr c_4.1) c_4.2
    refine lv_iload_n S.1 S.2.1 dX5_as_7 rfl (lv_at hl 2 rfl) ?_
    refine go_S (run_S (As := [.int w]) (rest := []) (n := 1) S hK (bl_P hP [] rfl) (bl_D hD [] rfl rfl) (c_X5_isKind l E w ) gS_X5_85 (by decide +kernel) rfl ⟨rfl, rfl⟩ ⟨Nat.le_of_ble_eq_true rfl, Nat.le_of_ble_eq_true rfl⟩ hl.1 (Nat.le_of_ble_eq_true rfl) dX5_as_8 ⟨Nat.zero_le _, Nat.zero_le _⟩) ?_
    refine b_ifne (tgt := 21) S.1 S.2.1 dX5_as_11 (by decide) (fun c_11 => ?_) (fun c_11 => ?_)
    · obtain ⟨k_w, hk_w, ek_w⟩ := nI_of2 (n := 6) (by decide) (Int32.not_lt.mpr c_11.1) c_11.2
      refine lv_aload_n S.1 S.2.1 dX5_as_21 rfl (lv_at hl 0 rfl) ?_
      refine gf_X5_9 S hK hP 0 0 rfl rfl rfl dX5_as_22 ?_
      refine lv_bipush (v := 11) S.1 S.2.1 dX5_as_25 (by decide) ?_
      refine lv_iload_n S.1 S.2.1 dX5_as_27 rfl (lv_at hl 1 rfl) ?_
      refine lv_eqi (y := nI k_s9) ek_s9 ?_
      refine lv_iadd S.1 S.2.1 dX5_as_28 ?_
      refine lv_eqi (y := nI (11 + k_s9)) (nI_add 11 k_s9) ?_
      refine b_ialdN (i := 11 + k_s9) S hK hP 1 0 rfl rfl (by omega) (by decide) dX5_as_29 ?_
      refine lv_eqi (y := r (11 + k_s9)) (sg_at (by omega)) ?_
      refine lv_istore_n (lv' := [(3, .int (r (11 + k_s9))), (0, .ref (am 0)), (1, .int s9), (2, .int w)]) S.1 S.2.1 dX5_as_30 rfl hl (by decide) rfl (fun ls hl => ?_)
      refine lv_iload_n S.1 S.2.1 dX5_as_31 rfl (lv_at hl 0 rfl) ?_
      refine lv_if_ge (tgt := 42) S.1 S.2.1 dX5_as_32 (by decide) (fun c_32 => ?_) (fun c_32 => ?_)
      · have n_32 := Int32.not_lt.mpr c_32
        obtain ⟨k_c, hk_c, ek_c⟩ : ∃ k : Nat, k < n ∧ r (11 + k_s9) = nI k := (hsp k_s9 (by omega)).elim (fun z9 => absurd c_32 (by rw [z9]; decide)) id
        refine lv_aload_n S.1 S.2.1 dX5_as_42 rfl (lv_at hl 1 rfl) ?_
        refine lv_iload_n S.1 S.2.1 dX5_as_43 rfl (lv_at hl 0 rfl) ?_
        refine lv_eqi (y := nI k_c) ek_c ?_
        refine lv_iconst (v := 0) S.1 S.2.1 dX5_as_44 (by decide) ?_
        refine go_S (run_V (As := [.int (nI k_c), .int 0]) (rest := []) (n := 2) S hK (bl_P hP [0, 1] rfl) (bl_D hD [0, 1] rfl rfl) (c_X5_potterIs l E am q r k_c 0 (by omega) (by omega)) gV_X5_92 (by decide +kernel) rfl ⟨rfl, rfl⟩ ⟨Nat.le_of_ble_eq_true rfl, Nat.le_of_ble_eq_true rfl⟩ (ci := 5) (q0 := 0) rfl rfl hl.1 (Nat.le_of_ble_eq_true rfl) dX5_as_45 ⟨Nat.zero_le _, Nat.zero_le _⟩) ?_
        refine lv_eqi (y := r (21 + 7 * k_c)) rfl ?_
        refine lv_iload_n S.1 S.2.1 dX5_as_48 rfl (lv_at hl 3 rfl) ?_
        refine lv_eqi (y := nI k_w) ek_w ?_
        refine go_S (run_S (As := [.int (r (21 + 7 * k_c)), .int (nI k_w)]) (rest := []) (n := 2) S hK (bl_P hP [] rfl) (bl_D hD [] rfl rfl) (c_X5_isUnder l E (r (21 + 7 * k_c)) (nI k_w) ) gS_X5_303 (by decide +kernel) rfl ⟨rfl, rfl⟩ ⟨Nat.le_of_ble_eq_true rfl, Nat.le_of_ble_eq_true rfl⟩ hl.1 (Nat.le_of_ble_eq_true rfl) dX5_as_49 ⟨Nat.zero_le _, Nat.zero_le _⟩) ?_
        refine b_ifeq (tgt := 59) S.1 S.2.1 dX5_as_52 (by decide) (fun c_52 => ?_) (fun c_52 => ?_)
        · refine lv_aload_n S.1 S.2.1 dX5_as_59 rfl (lv_at hl 1 rfl) ?_
          refine lv_ldcw (v := (-1000003)) S.1 S.2.1 S.2.2.2.1 (S.2.2.2.2 _ (List.mem_cons_of_mem _ kk_X5_306)) dX5_as_60 ?_
          refine go_I (run_V (As := [.int (-1000003)]) (rest := []) (n := 1) S hK (bl_P hP [0, 2] rfl) (bl_D hD [0, 2] rfl rfl) (c_X5_finding l E am q f (-1000003) 2 (by decide) (by decide)) gV_X5_66 (by decide +kernel) rfl ⟨rfl, rfl⟩ ⟨Nat.le_of_ble_eq_true rfl, Nat.le_of_ble_eq_true rfl⟩ (ci := 5) (q0 := 0) rfl rfl hl.1 (Nat.le_of_ble_eq_true rfl) dX5_as_63 ⟨Nat.zero_le _, Nat.zero_le _⟩) hP hD hS [0, 2] rfl (had_cons rfl (had_cons cell_ad rfl)) (Bs' := [[mObj am q], [(am 1, .inl (E.2.1, 77, .inl (sg r 77)))], [(am 4, .inl (E.2.1, 8, .inl (sg (findM f 2) 8)))]]) rfl (fun H locs hP hD hS => ?_)
          obtain ⟨r_63, er_63⟩ : ∃ zz9 : Row, zz9 = findM f 2 := ⟨_, rfl⟩
          rw [← er_63] at hP hD
          exact retI S hr hlk (by have e9 : rAs r s9 w = .inl 2 := (by have c52 : ¬ undN 5 (r (21 + 7 * k_c)) w = true := (by rw [ek_w]; exact c_52); unfold rAs; rw [if_pos c_4, if_pos c_11, ek_s9, tN_nI (by omega), if_neg n_32, ek_c, tN_nI (by omega), if_neg c52]); rw [er_63] at hP; rw [e9, fndM_inl]; exact hP) hS (by have e9 : rAs r s9 w = .inl 2 := (by have c52 : ¬ undN 5 (r (21 + 7 * k_c)) w = true := (by rw [ek_w]; exact c_52); unfold rAs; rw [if_pos c_4, if_pos c_11, ek_s9, tN_nI (by omega), if_neg n_32, ek_c, tN_nI (by omega), if_neg c52]); rw [e9]; decide) dX5_as_66
        · refine lv_iload_n S.1 S.2.1 dX5_as_55 rfl (lv_at hl 0 rfl) ?_
          refine lv_eqi (y := nI k_c) ek_c ?_
          refine lv_goto (tgt := 66) S.1 S.2.1 dX5_as_56 (by decide) ?_
          exact retI S hr hlk (by have e9 : rAs r s9 w = .inr (r, nI k_c) := (by have c52 : undN 5 (r (21 + 7 * k_c)) w = true := (by rw [ek_w]; exact c_52); unfold rAs; rw [if_pos c_4, if_pos c_11, ek_s9, tN_nI (by omega), if_neg n_32, ek_c, tN_nI (by omega), if_pos c52]); rw [e9, fndM_inr]; exact hP) hS (by have e9 : rAs r s9 w = .inr (r, nI k_c) := (by have c52 : undN 5 (r (21 + 7 * k_c)) w = true := (by rw [ek_w]; exact c_52); unfold rAs; rw [if_pos c_4, if_pos c_11, ek_s9, tN_nI (by omega), if_neg n_32, ek_c, tN_nI (by omega), if_pos c52]); rw [e9, ansR_inr]) dX5_as_66
      · have n_32 := Int32.not_le.mp c_32
        refine lv_aload_n S.1 S.2.1 dX5_as_35 rfl (lv_at hl 1 rfl) ?_
        refine lv_ldc (v := (-1000006)) S.1 S.2.1 S.2.2.2.1 (S.2.2.2.2 _ (List.mem_cons_of_mem _ kk_X5_199)) dX5_as_36 ?_
        refine go_I (run_V (As := [.int (-1000006)]) (rest := []) (n := 1) S hK (bl_P hP [0, 2] rfl) (bl_D hD [0, 2] rfl rfl) (c_X5_finding l E am q f (-1000006) 5 (by decide) (by decide)) gV_X5_66 (by decide +kernel) rfl ⟨rfl, rfl⟩ ⟨Nat.le_of_ble_eq_true rfl, Nat.le_of_ble_eq_true rfl⟩ (ci := 5) (q0 := 0) rfl rfl hl.1 (Nat.le_of_ble_eq_true rfl) dX5_as_38 ⟨Nat.zero_le _, Nat.zero_le _⟩) hP hD hS [0, 2] rfl (had_cons rfl (had_cons cell_ad rfl)) (Bs' := [[mObj am q], [(am 1, .inl (E.2.1, 77, .inl (sg r 77)))], [(am 4, .inl (E.2.1, 8, .inl (sg (findM f 5) 8)))]]) rfl (fun H locs hP hD hS => ?_)
        obtain ⟨r_38, er_38⟩ : ∃ zz9 : Row, zz9 = findM f 5 := ⟨_, rfl⟩
        rw [← er_38] at hP hD
        exact retI S hr hlk (by have e9 : rAs r s9 w = .inl 5 := (by unfold rAs; rw [if_pos c_4, if_pos c_11, ek_s9, tN_nI (by omega), if_pos n_32]); rw [er_38] at hP; rw [e9, fndM_inl]; exact hP) hS (by have e9 : rAs r s9 w = .inl 5 := (by unfold rAs; rw [if_pos c_4, if_pos c_11, ek_s9, tN_nI (by omega), if_pos n_32]); rw [e9]; decide) dX5_as_41
    · refine lv_aload_n S.1 S.2.1 dX5_as_14 rfl (lv_at hl 0 rfl) ?_
      refine lv_ldc (v := (-1000001)) S.1 S.2.1 S.2.2.2.1 (S.2.2.2.2 _ (List.mem_cons_of_mem _ kk_X5_60)) dX5_as_15 ?_
      refine go_I (run_V (As := [.int (-1000001)]) (rest := []) (n := 1) S hK (bl_P hP [0, 2] rfl) (bl_D hD [0, 2] rfl rfl) (c_X5_finding l E am q f (-1000001) 0 (by decide) (by decide)) gV_X5_66 (by decide +kernel) rfl ⟨rfl, rfl⟩ ⟨Nat.le_of_ble_eq_true rfl, Nat.le_of_ble_eq_true rfl⟩ (ci := 5) (q0 := 0) rfl rfl hl.1 (Nat.le_of_ble_eq_true rfl) dX5_as_17 ⟨Nat.zero_le _, Nat.zero_le _⟩) hP hD hS [0, 2] rfl (had_cons rfl (had_cons cell_ad rfl)) (Bs' := [[mObj am q], [(am 1, .inl (E.2.1, 77, .inl (sg r 77)))], [(am 4, .inl (E.2.1, 8, .inl (sg (findM f 0) 8)))]]) rfl (fun H locs hP hD hS => ?_)
      obtain ⟨r_17_1, er_17_1⟩ : ∃ zz9 : Row, zz9 = findM f 0 := ⟨_, rfl⟩
      rw [← er_17_1] at hP hD
      exact retI S hr hlk (by have e9 : rAs r s9 w = .inl 0 := (by unfold rAs; rw [if_pos c_4, if_neg c_11]); rw [er_17_1] at hP; rw [e9, fndM_inl]; exact hP) hS (by have e9 : rAs r s9 w = .inl 0 := (by unfold rAs; rw [if_pos c_4, if_neg c_11]); rw [e9]; decide) dX5_as_20
