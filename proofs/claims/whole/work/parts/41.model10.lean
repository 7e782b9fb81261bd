def okN (y : Row) (o : Nat) (r : Row) (i : Nat) : Nat → Bool
  | 0 => true
  | k + 1 => okN y o r i k && decide (y (o + k) = -1 ∨ y (o + k) = daysF r (7 * k) (21 + 7 * i + 4))
theorem daysF_add (r : Row) (a : Nat) : ∀ b, daysF (daysF r a) b = daysF r (a + b)
  | 0 => rfl
  | b + 1 => by
    show dayF (daysF (daysF r a) b) = dayF (daysF r (a + b))
    rw [daysF_add r a b]
theorem daysF_7 {r : Row} {k : Nat} : daysF (daysF r (7 * k)) 7 = daysF r (7 * (k + 1)) := by rw [daysF_add, show 7 * (k + 1) = 7 * k + 7 by omega]
theorem okN_tr {y : Row} {o : Nat} {r : Row} {i k : Nat} {b : Int32} (hb : b = bI (okN y o r i k = true)) (c : ¬ b = 0) : okN y o r i k = true := bI_ne (by rw [← hb]; exact c)
theorem okN_t {y : Row} {o : Nat} {r : Row} {i k : Nat} {b : Int32} (hb : b = bI (okN y o r i k = true)) (c : ¬ b = 0) (h : y (o + k) = -1 ∨ y (o + k) = daysF r (7 * k) (21 + 7 * i + 4)) : 1 = bI (okN y o r i (k + 1) = true) := by
  rw [okN, okN_tr hb c, decide_eq_true h]
  rfl
theorem okN_f {y : Row} {o : Nat} {r : Row} {i k : Nat} {b : Int32} (hb : b = bI (okN y o r i k = true)) (c : ¬ b = 0) (h1 : ¬ y (o + k) = -1) (h2 : ¬ y (o + k) = daysF r (7 * k) (21 + 7 * i + 4)) : 0 = bI (okN y o r i (k + 1) = true) := by
  rw [okN, okN_tr hb c, decide_eq_false (fun q => q.elim h1 h2)]
  rfl
theorem okN_mono {y : Row} {o : Nat} {r : Row} {i k : Nat} (h : okN y o r i k = false) : ∀ m, okN y o r i (k + m) = false
  | 0 => h
  | m + 1 => by
    show (okN y o r i (k + m) && _) = false
    rw [okN_mono h m]
    rfl
theorem okN_end {y : Row} {o : Nat} {r : Row} {i k m : Nat} {b : Int32} (hb : b = bI (okN y o r i k = true)) (c : b = 0) (hk : k ≤ m) : b = bI (okN y o r i m = true) := by
  have h : okN y o r i k = false := by
    cases h9 : okN y o r i k with
    | false => rfl
    | true => rw [h9] at hb; rw [hb] at c; exact absurd c (by decide)
  have h2 := okN_mono h (m - k)
  rw [show k + (m - k) = m by omega] at h2
  rw [c, h2]
  rfl
/-- a counter that goes down from i - 1 to -1 -/
def dI (i : Nat) : Int32 := if i = 0 then -1 else nI (i - 1)
theorem dI_pos {i : Nat} (h : ¬ dI i < 0) : ∃ m, i = m + 1 := by
  cases i with
  | zero => exact absurd (by decide) h
  | succ m => exact ⟨m, rfl⟩
theorem dI_s {i m : Nat} (h : i = m + 1) : dI i = nI m := by
  subst h
  exact if_neg (by omega)
theorem dI_step {i m : Nat} (h : i = m + 1) : dI i + Int32.ofInt (-1) = dI m := by
  rw [dI_s h]
  cases m with
  | zero => decide
  | succ k => rw [dI_s rfl]; exact pk_m1 k
theorem dI_zero {i : Nat} (h : dI i < 0) (hi : i ≤ 1000 := by omega) : i = 0 := by
  cases i with
  | zero => rfl
  | succ m => rw [dI_s rfl] at h; exact absurd h (nI_pos (by omega))
def gP (c : Nat → Bool) : Nat → Int32 × Int32
  | 0 => (0, -1)
  | k + 1 => if c (99 - k) then ((gP c k).1 + 1, nI (99 - k)) else gP c k
theorem gP_y {c : Nat → Bool} {t m : Nat} (h : t = m + 1) (ht : t ≤ 100) (hc : c m = true) : gP c (100 - m) = ((gP c (100 - t)).1 + 1, nI m) := by
  rw [show 100 - m = (100 - t) + 1 by omega, gP, show 99 - (100 - t) = m by omega, if_pos hc]
theorem gP_n {c : Nat → Bool} {t m : Nat} (h : t = m + 1) (ht : t ≤ 100) (hc : ¬ c m = true) : gP c (100 - m) = gP c (100 - t) := by
  rw [show 100 - m = (100 - t) + 1 by omega, gP, show 99 - (100 - t) = m by omega, if_neg hc]
def griefQ (q : Row) (c : Nat → Bool) : Row := upd (upd q 1 (gP c 100).1) 2 (gP c 100).2
theorem griefQ_eq {q qi : Row} {c : Nat → Bool} (ho : ∀ j, j ≠ 1 → j ≠ 2 → qi j = q j) (h1 : qi 1 = (gP c 100).1) (h2 : qi 2 = (gP c 100).2) : griefQ q c = qi := funext fun j => by
  unfold griefQ upd
  by_cases a : j = 2
  · rw [if_pos a, a, h2]
  · rw [if_neg a]
    by_cases b : j = 1
    · rw [if_pos b, b, h1]
    · rw [if_neg b, ho j b a]
set_option maxHeartbeats 800000 in
set_option maxRecDepth 100000 in
theorem c_X5_isColouredSo (l : Launch) (E : EV) (am : Nat → Nat) (q r x u y : Row) (s9 i len : Nat) (hR : RI r) (hi : i < 8) (hs : s9 < 4) (elen : u s9 = nI len) (hlen : len ≤ 40) : Met l yX5_isColouredSo (wq yX5_isColouredSo cX5_isColouredSo 6 (some .boolean)) ({ frames := 7, cells := 0, slots := 0, locals := 149 }) (preB E [.ref (am 0), .int (nI s9), .int (nI i)] [[mObj am q], [(am 1, .inl (E.2.1, 77, .inl (sg r 77)))], [(am 3, .inl (E.2.1, 77, .inl (sg x 77)))], [(am 9, .inl (E.2.1, 4, .inl (sg u 4)))], [(am 10, .inl (E.2.1, 160, .inl (sg y 160)))]]) (qI E [[mObj am q], [(am 1, .inl (E.2.1, 77, .inl (sg r 77)))], [(am 3, .inl (E.2.1, 77, .inl (sg x 77)))], [(am 9, .inl (E.2.1, 4, .inl (sg u 4)))], [(am 10, .inl (E.2.1, 160, .inl (sg y 160)))]] [[mObj am q], [(am 1, .inl (E.2.1, 77, .inl (sg r 77)))], [(am 3, .inl (E.2.1, 77, .inl (sg r 77)))], [(am 9, .inl (E.2.1, 4, .inl (sg u 4)))], [(am 10, .inl (E.2.1, 160, .inl (sg y 160)))]] (bI (okN y (40 * s9) r i (min len 10) = true))) 0 0 (inB [[mObj am q], [(am 1, .inl (E.2.1, 77, .inl (sg r 77)))], [(am 3, .inl (E.2.1, 77, .inl (sg x 77)))], [(am 9, .inl (E.2.1, 4, .inl (sg u 4)))], [(am 10, .inl (E.2.1, 160, .inl (sg y 160)))]]) := by
  refine M_mk RX5 (by decide) rfl (Nat.le_of_ble_eq_true rfl) ?_
  intro p e s m below meth c S hr hlk hK hP hD hS ls hl
  have hl : lv_has ls 6 [(0, .ref (am 0)), (1, .int (nI s9)), (2, .int (nI i))] := hl
  obtain ⟨H, hH⟩ : ∃ zz9, zz9 = s.heap := ⟨_, rfl⟩
  obtain ⟨locs, hlocs⟩ : ∃ zz9 : List Loc, zz9 = [] := ⟨_, rfl⟩
  have hP : PE E [[mObj am q], [(am 1, .inl (E.2.1, 77, .inl (sg r 77)))], [(am 3, .inl (E.2.1, 77, .inl (sg x 77)))], [(am 9, .inl (E.2.1, 4, .inl (sg u 4)))], [(am 10, .inl (E.2.1, 160, .inl (sg y 160)))]] H := by rw [hH]; exact hP
  have hS : va_S (inB [[mObj am q], [(am 1, .inl (E.2.1, 77, .inl (sg r 77)))], [(am 3, .inl (E.2.1, 77, .inl (sg x 77)))], [(am 9, .inl (E.2.1, 4, .inl (sg u 4)))], [(am 10, .inl (E.2.1, 160, .inl (sg y 160)))]]) s.heap H locs := by rw [hH, hlocs]; exact hS
  show W p l e ({ frames := 7, cells := 0, slots := 0, locals := 149 }) s m ([.ref (am 0), .int (nI s9), .int (nI i)] : List Value).toArray below meth c s.heap [] 0 0 _ _
  suffices hgo : W p l e ({ frames := 7, cells := 0, slots := 0, locals := 149 }) s m ([.ref (am 0), .int (nI s9), .int (nI i)] : List Value).toArray below meth c H locs 0 0 (MQ below (qI E [[mObj am q], [(am 1, .inl (E.2.1, 77, .inl (sg r 77)))], [(am 3, .inl (E.2.1, 77, .inl (sg x 77)))], [(am 9, .inl (E.2.1, 4, .inl (sg u 4)))], [(am 10, .inl (E.2.1, 160, .inl (sg y 160)))]] [[mObj am q], [(am 1, .inl (E.2.1, 77, .inl (sg r 77)))], [(am 3, .inl (E.2.1, 77, .inl (sg r 77)))], [(am 9, .inl (E.2.1, 4, .inl (sg u 4)))], [(am 10, .inl (E.2.1, 160, .inl (sg y 160)))]] (bI (okN y (40 * s9) r i (min len 10) = true))) ([.ref (am 0), .int (nI s9), .int (nI i)] : List Value).toArray s 0 0 (inB [[mObj am q], [(am 1, .inl (E.2.1, 77, .inl (sg r 77)))], [(am 3, .inl (E.2.1, 77, .inl (sg x 77)))], [(am 9, .inl (E.2.1, 4, .inl (sg u 4)))], [(am 10, .inl (E.2.1, 160, .inl (sg y 160)))]])) (F0 m 0 ls []) by rw [hH, hlocs] at hgo; exact hgo
  clear hH hlocs
  refine lv_aload_n S.1 S.2.1 dX5_isColouredSo_0 rfl (lv_at hl 0 rfl) ?_
  refine gf_X5_9 S hK hP 0 0 rfl rfl rfl dX5_isColouredSo_1 ?_
  refine lv_aload_n S.1 S.2.1 dX5_isColouredSo_4 rfl (lv_at hl 0 rfl) ?_
  refine gf_X5_16 S hK hP 0 0 rfl rfl rfl dX5_isColouredSo_5 ?_
  refine go_V (run_S (As := [.ref (am 1), .ref (am 3)]) (rest := []) (n := 2) S hK (bl_P hP [1, 2] rfl) (bl_D hD [1, 2] rfl rfl) (c_X5_copyRow l E (am 1) (am 3) r x ) gS_X5_61 (by decide +kernel) rfl ⟨rfl, rfl⟩ ⟨Nat.le_of_ble_eq_true rfl, Nat.le_of_ble_eq_true rfl⟩ hl.1 (Nat.le_of_ble_eq_true rfl) dX5_isColouredSo_8 ⟨Nat.zero_le _, Nat.zero_le _⟩) hP hD hS [1, 2] rfl (had_cons rfl (had_cons cell_ad rfl)) (Bs' := [[mObj am q], [(am 1, .inl (E.2.1, 77, .inl (sg r 77)))], [(am 3, .inl (E.2.1, 77, .inl (sg r 77)))], [(am 9, .inl (E.2.1, 4, .inl (sg u 4)))], [(am 10, .inl (E.2.1, 160, .inl (sg y 160)))]]) rfl (fun H locs hP hD hS => ?_)
  refine lv_iconst (v := 1) S.1 S.2.1 dX5_isColouredSo_11 (by decide) ?_
  refine lv_istore_n (lv' := [(3, .int 1), (0, .ref (am 0)), (1, .int (nI s9)), (2, .int (nI i))]) S.1 S.2.1 dX5_isColouredSo_12 rfl hl (by decide) rfl (fun ls hl => ?_)
  refine lv_iconst (v := 0) S.1 S.2.1 dX5_isColouredSo_13 (by decide) ?_
  refine lv_istore (lv' := [(4, .int 0), (3, .int 1), (0, .ref (am 0)), (1, .int (nI s9)), (2, .int (nI i))]) S.1 S.2.1 dX5_isColouredSo_14 hl (by decide) rfl (fun ls hl => ?_)
  have L_16 : ∀ (fu : Nat) (k : Nat) (ri : Row) (b : Int32), (k ≤ min len 10) → (min len 10 < k + fu) → (ri = daysF r (7 * k)) → (RI ri) → (b = bI (okN y (40 * s9) r i k = true)) → ∀ (H : Heap) (locs : List Loc), PE E [[mObj am q], [(am 1, .inl (E.2.1, 77, .inl (sg ri 77)))], [(am 3, .inl (E.2.1, 77, .inl (sg r 77)))], [(am 9, .inl (E.2.1, 4, .inl (sg u 4)))], [(am 10, .inl (E.2.1, 160, .inl (sg y 160)))]] H → DE (inB [[mObj am q], [(am 1, .inl (E.2.1, 77, .inl (sg r 77)))], [(am 3, .inl (E.2.1, 77, .inl (sg x 77)))], [(am 9, .inl (E.2.1, 4, .inl (sg u 4)))], [(am 10, .inl (E.2.1, 160, .inl (sg y 160)))]]) [[mObj am q], [(am 1, .inl (E.2.1, 77, .inl (sg ri 77)))], [(am 3, .inl (E.2.1, 77, .inl (sg r 77)))], [(am 9, .inl (E.2.1, 4, .inl (sg u 4)))], [(am 10, .inl (E.2.1, 160, .inl (sg y 160)))]] → va_S (inB [[mObj am q], [(am 1, .inl (E.2.1, 77, .inl (sg r 77)))], [(am 3, .inl (E.2.1, 77, .inl (sg x 77)))], [(am 9, .inl (E.2.1, 4, .inl (sg u 4)))], [(am 10, .inl (E.2.1, 160, .inl (sg y 160)))]]) s.heap H locs → ∀ (ls : Array Slot), lv_has ls 6 [(0, .ref (am 0)), (1, .int (nI s9)), (2, .int (nI i)), (3, .int b), (4, .int (nI k))] → W p l e ({ frames := 7, cells := 0, slots := 0, locals := 149 }) s m ([.ref (am 0), .int (nI s9), .int (nI i)] : List Value).toArray below meth c H locs 0 0 (MQ below (qI E [[mObj am q], [(am 1, .inl (E.2.1, 77, .inl (sg r 77)))], [(am 3, .inl (E.2.1, 77, .inl (sg x 77)))], [(am 9, .inl (E.2.1, 4, .inl (sg u 4)))], [(am 10, .inl (E.2.1, 160, .inl (sg y 160)))]] [[mObj am q], [(am 1, .inl (E.2.1, 77, .inl (sg r 77)))], [(am 3, .inl (E.2.1, 77, .inl (sg r 77)))], [(am 9, .inl (E.2.1, 4, .inl (sg u 4)))], [(am 10, .inl (E.2.1, 160, .inl (sg y 160)))]] (bI (okN y (40 * s9) r i (min len 10) = true))) ([.ref (am 0), .int (nI s9), .int (nI i)] : List Value).toArray s 0 0 (inB [[mObj am q], [(am 1, .inl (E.2.1, 77, .inl (sg r 77)))], [(am 3, .inl (E.2.1, 77, .inl (sg x 77)))], [(am 9, .inl (E.2.1, 4, .inl (sg u 4)))], [(am 10, .inl (E.2.1, 160, .inl (sg y 160)))]])) (F0 m 16 ls []) := by
    intro fu
    induction fu with
    | zero =>
      intro k ri b hk hf hri hR1 hb
      omega
    | succ fu ih_16 =>
      intro k ri b hk hf hri hR1 hb H locs hP hD hS ls hl
      refine lv_iload S.1 S.2.1 dX5_isColouredSo_16 (lv_at hl 4 rfl) ?_
      refine lv_aload_n S.1 S.2.1 dX5_isColouredSo_18 rfl (lv_at hl 0 rfl) ?_
      refine gf_X5_51 S hK hP 0 0 rfl rfl rfl dX5_isColouredSo_19 ?_
      refine lv_iload_n S.1 S.2.1 dX5_isColouredSo_22 rfl (lv_at hl 1 rfl) ?_
      refine b_ialdN (i := s9) S hK hP 3 0 rfl rfl (by omega) (by decide) dX5_isColouredSo_23 ?_
      refine lv_eqi (y := nI len) ((sg_at (by omega)).trans elen) ?_
      refine lv_icmp_ge (tgt := 87) S.1 S.2.1 dX5_isColouredSo_24 (by decide) (fun c_24 => ?_) (fun c_24 => ?_)
      · have n_24 := Int32.not_lt.mpr c_24
        refine lv_aload_n S.1 S.2.1 dX5_isColouredSo_87 rfl (lv_at hl 0 rfl) ?_
        refine gf_X5_16 S hK hP 0 0 rfl rfl rfl dX5_isColouredSo_88 ?_
        refine lv_aload_n S.1 S.2.1 dX5_isColouredSo_91 rfl (lv_at hl 0 rfl) ?_
        refine gf_X5_9 S hK hP 0 0 rfl rfl rfl dX5_isColouredSo_92 ?_
        refine go_V (run_S (As := [.ref (am 3), .ref (am 1)]) (rest := []) (n := 2) S hK (bl_P hP [2, 1] rfl) (bl_D hD [2, 1] rfl rfl) (c_X5_copyRow l E (am 3) (am 1) r ri ) gS_X5_61 (by decide +kernel) rfl ⟨rfl, rfl⟩ ⟨Nat.le_of_ble_eq_true rfl, Nat.le_of_ble_eq_true rfl⟩ hl.1 (Nat.le_of_ble_eq_true rfl) dX5_isColouredSo_95 ⟨Nat.zero_le _, Nat.zero_le _⟩) hP hD hS [2, 1] rfl (had_cons rfl (had_cons cell_ad rfl)) (Bs' := [[mObj am q], [(am 1, .inl (E.2.1, 77, .inl (sg r 77)))], [(am 3, .inl (E.2.1, 77, .inl (sg r 77)))], [(am 9, .inl (E.2.1, 4, .inl (sg u 4)))], [(am 10, .inl (E.2.1, 160, .inl (sg y 160)))]]) rfl (fun H locs hP hD hS => ?_)
        refine lv_iload_n S.1 S.2.1 dX5_isColouredSo_98 rfl (lv_at hl 3 rfl) ?_
        exact retZ S hr hlk (by rw [hb]; exact bI_nar) hP hS (by rw [hb, show min len 10 = k by (have z9 : len ≤ k := (nI_leI (by omega) (by omega)).mp c_24; omega)]) dX5_isColouredSo_99
      · have n_24 := Int32.not_le.mp c_24
        have hi2 : k < len := (nI_ltI (by omega) (by omega)).mp n_24
        refine lv_iload S.1 S.2.1 dX5_isColouredSo_27 (lv_at hl 4 rfl) ?_
        refine lv_bipush (v := 10) S.1 S.2.1 dX5_isColouredSo_29 (by decide) ?_
        refine lv_icmp_ge (tgt := 87) S.1 S.2.1 dX5_isColouredSo_31 (by decide) (fun c_31 => ?_) (fun c_31 => ?_)
        · have n_31 := Int32.not_lt.mpr c_31
          refine lv_aload_n S.1 S.2.1 dX5_isColouredSo_87 rfl (lv_at hl 0 rfl) ?_
          refine gf_X5_16 S hK hP 0 0 rfl rfl rfl dX5_isColouredSo_88 ?_
          refine lv_aload_n S.1 S.2.1 dX5_isColouredSo_91 rfl (lv_at hl 0 rfl) ?_
          refine gf_X5_9 S hK hP 0 0 rfl rfl rfl dX5_isColouredSo_92 ?_
          refine go_V (run_S (As := [.ref (am 3), .ref (am 1)]) (rest := []) (n := 2) S hK (bl_P hP [2, 1] rfl) (bl_D hD [2, 1] rfl rfl) (c_X5_copyRow l E (am 3) (am 1) r ri ) gS_X5_61 (by decide +kernel) rfl ⟨rfl, rfl⟩ ⟨Nat.le_of_ble_eq_true rfl, Nat.le_of_ble_eq_true rfl⟩ hl.1 (Nat.le_of_ble_eq_true rfl) dX5_isColouredSo_95 ⟨Nat.zero_le _, Nat.zero_le _⟩) hP hD hS [2, 1] rfl (had_cons rfl (had_cons cell_ad rfl)) (Bs' := [[mObj am q], [(am 1, .inl (E.2.1, 77, .inl (sg r 77)))], [(am 3, .inl (E.2.1, 77, .inl (sg r 77)))], [(am 9, .inl (E.2.1, 4, .inl (sg u 4)))], [(am 10, .inl (E.2.1, 160, .inl (sg y 160)))]]) rfl (fun H locs hP hD hS => ?_)
          refine lv_iload_n S.1 S.2.1 dX5_isColouredSo_98 rfl (lv_at hl 3 rfl) ?_
          exact retZ S hr hlk (by rw [hb]; exact bI_nar) hP hS (by rw [hb, show min len 10 = k by (have z9 : 10 ≤ k := (nI_leI (a := 10) (by omega) (by omega)).mp c_31; omega)]) dX5_isColouredSo_99
        · have n_31 := Int32.not_le.mp c_31
          have hi3 : k < 10 := (nI_ltI (b := 10) (by omega) (by omega)).mp n_31
          refine lv_iload_n S.1 S.2.1 dX5_isColouredSo_34 rfl (lv_at hl 3 rfl) ?_
          refine lv_if_eq (tgt := 87) S.1 S.2.1 dX5_isColouredSo_35 (by decide) (fun c_35 => ?_) (fun c_35 => ?_)
          · refine lv_aload_n S.1 S.2.1 dX5_isColouredSo_87 rfl (lv_at hl 0 rfl) ?_
            refine gf_X5_16 S hK hP 0 0 rfl rfl rfl dX5_isColouredSo_88 ?_
            refine lv_aload_n S.1 S.2.1 dX5_isColouredSo_91 rfl (lv_at hl 0 rfl) ?_
            refine gf_X5_9 S hK hP 0 0 rfl rfl rfl dX5_isColouredSo_92 ?_
            refine go_V (run_S (As := [.ref (am 3), .ref (am 1)]) (rest := []) (n := 2) S hK (bl_P hP [2, 1] rfl) (bl_D hD [2, 1] rfl rfl) (c_X5_copyRow l E (am 3) (am 1) r ri ) gS_X5_61 (by decide +kernel) rfl ⟨rfl, rfl⟩ ⟨Nat.le_of_ble_eq_true rfl, Nat.le_of_ble_eq_true rfl⟩ hl.1 (Nat.le_of_ble_eq_true rfl) dX5_isColouredSo_95 ⟨Nat.zero_le _, Nat.zero_le _⟩) hP hD hS [2, 1] rfl (had_cons rfl (had_cons cell_ad rfl)) (Bs' := [[mObj am q], [(am 1, .inl (E.2.1, 77, .inl (sg r 77)))], [(am 3, .inl (E.2.1, 77, .inl (sg r 77)))], [(am 9, .inl (E.2.1, 4, .inl (sg u 4)))], [(am 10, .inl (E.2.1, 160, .inl (sg y 160)))]]) rfl (fun H locs hP hD hS => ?_)
            refine lv_iload_n S.1 S.2.1 dX5_isColouredSo_98 rfl (lv_at hl 3 rfl) ?_
            exact retZ S hr hlk (by rw [hb]; exact bI_nar) hP hS (okN_end hb c_35 hk) dX5_isColouredSo_99
          · refine lv_aload_n S.1 S.2.1 dX5_isColouredSo_38 rfl (lv_at hl 0 rfl) ?_
            refine gf_X5_54 S hK hP 0 0 rfl rfl rfl dX5_isColouredSo_39 ?_
            refine lv_bipush (v := 40) S.1 S.2.1 dX5_isColouredSo_42 (by decide) ?_
            refine lv_iload_n S.1 S.2.1 dX5_isColouredSo_44 rfl (lv_at hl 1 rfl) ?_
            refine lv_imul S.1 S.2.1 dX5_isColouredSo_45 ?_
            refine lv_eqi (y := nI (40 * s9)) (pk_mul 40 s9) ?_
            refine lv_iload S.1 S.2.1 dX5_isColouredSo_46 (lv_at hl 4 rfl) ?_
            refine lv_iadd S.1 S.2.1 dX5_isColouredSo_48 ?_
            refine lv_eqi (y := nI (40 * s9 + k)) (nI_add (40 * s9) k) ?_
            refine b_ialdN (i := 40 * s9 + k) S hK hP 4 0 rfl rfl (by omega) (by decide) dX5_isColouredSo_49 ?_
            refine lv_eqi (y := y (40 * s9 + k)) (sg_at (by omega)) ?_
            refine lv_istore (lv' := [(5, .int (y (40 * s9 + k))), (0, .ref (am 0)), (1, .int (nI s9)), (2, .int (nI i)), (3, .int b), (4, .int (nI k))]) S.1 S.2.1 dX5_isColouredSo_50 hl (by decide) rfl (fun ls hl => ?_)
            refine lv_iload S.1 S.2.1 dX5_isColouredSo_52 (lv_at hl 0 rfl) ?_
            refine lv_iconst (v := (-1)) S.1 S.2.1 dX5_isColouredSo_54 (by decide) ?_
            refine lv_icmp_eq (tgt := 69) S.1 S.2.1 dX5_isColouredSo_55 (by decide) (fun c_55 => ?_) (fun c_55 => ?_)
            · refine lv_iconst (v := 1) S.1 S.2.1 dX5_isColouredSo_69 (by decide) ?_
              refine lv_goto (tgt := 74) S.1 S.2.1 dX5_isColouredSo_70 (by decide) ?_
              refine lv_istore_n (lv' := [(3, .int 1), (5, .int (y (40 * s9 + k))), (0, .ref (am 0)), (1, .int (nI s9)), (2, .int (nI i)), (4, .int (nI k))]) S.1 S.2.1 dX5_isColouredSo_74 rfl hl (by decide) rfl (fun ls hl => ?_)
              refine lv_aload_n S.1 S.2.1 dX5_isColouredSo_75 rfl (lv_at hl 2 rfl) ?_
              refine lv_bipush (v := 7) S.1 S.2.1 dX5_isColouredSo_76 (by decide) ?_
              refine go_V (run_V (As := [.int 7]) (rest := []) (n := 1) S hK (bl_P hP [0, 1] rfl) (bl_D hD [0, 1] rfl rfl) (c_X5_daysGo l E am q ri 7 (by omega) hR1) gV_X5_150 (by decide +kernel) rfl ⟨rfl, rfl⟩ ⟨Nat.le_of_ble_eq_true rfl, Nat.le_of_ble_eq_true rfl⟩ (ci := 5) (q0 := 0) rfl rfl hl.1 (Nat.le_of_ble_eq_true rfl) dX5_isColouredSo_78 ⟨Nat.zero_le _, Nat.zero_le _⟩) hP hD hS [0, 1] rfl (had_cons rfl (had_cons cell_ad rfl)) (Bs' := [[mObj am q], [(am 1, .inl (E.2.1, 77, .inl (sg (daysF ri 7) 77)))], [(am 3, .inl (E.2.1, 77, .inl (sg r 77)))], [(am 9, .inl (E.2.1, 4, .inl (sg u 4)))], [(am 10, .inl (E.2.1, 160, .inl (sg y 160)))]]) rfl (fun H locs hP hD hS => ?_)
              obtain ⟨r_78, er_78⟩ : ∃ zz9 : Row, zz9 = daysF ri 7 := ⟨_, rfl⟩
              rw [← er_78] at hP hD
              have hr_78_RI : RI r_78 := by rw [er_78]; exact daysF_RI hR1 _
              refine lv_iinc (v := nI (k + 1)) (lv' := [(4, .int (nI (k + 1))), (3, .int 1), (5, .int (y (40 * s9 + k))), (0, .ref (am 0)), (1, .int (nI s9)), (2, .int (nI i))]) S.1 S.2.1 dX5_isColouredSo_81 hl (k := 5) rfl (nI_1 k) (by decide) rfl (fun ls hl => ?_)
              refine lv_goto (tgt := 16) S.1 S.2.1 dX5_isColouredSo_84 (by decide) ?_
              exact ih_16 (k + 1) r_78 1 (by omega) (by omega) (by rw [er_78, hri]; exact daysF_7) hr_78_RI (okN_t hb c_35 (Or.inl c_55)) H locs hP hD hS ls (lv_sub hl [3, 4, 5, 1, 0] rfl)
            · refine lv_iload S.1 S.2.1 dX5_isColouredSo_58 (lv_at hl 0 rfl) ?_
              refine lv_aload_n S.1 S.2.1 dX5_isColouredSo_60 rfl (lv_at hl 1 rfl) ?_
              refine lv_iload_n S.1 S.2.1 dX5_isColouredSo_61 rfl (lv_at hl 3 rfl) ?_
              refine lv_iconst (v := 4) S.1 S.2.1 dX5_isColouredSo_62 (by decide) ?_
              refine go_S (run_V (As := [.int (nI i), .int 4]) (rest := [.int (y (40 * s9 + k))]) (n := 2) S hK (bl_P hP [0, 1] rfl) (bl_D hD [0, 1] rfl rfl) (c_X5_potterIs l E am q ri i 4 (by omega) (by omega)) gV_X5_92 (by decide +kernel) rfl ⟨rfl, rfl⟩ ⟨Nat.le_of_ble_eq_true rfl, Nat.le_of_ble_eq_true rfl⟩ (ci := 5) (q0 := 0) rfl rfl hl.1 (Nat.le_of_ble_eq_true rfl) dX5_isColouredSo_63 ⟨Nat.zero_le _, Nat.zero_le _⟩) ?_
              refine lv_icmp_ne (tgt := 73) S.1 S.2.1 dX5_isColouredSo_66 (by decide) (fun c_66 => ?_) (fun c_66 => ?_)
              · refine lv_iconst (v := 0) S.1 S.2.1 dX5_isColouredSo_73 (by decide) ?_
                refine lv_istore_n (lv' := [(3, .int 0), (5, .int (y (40 * s9 + k))), (0, .ref (am 0)), (1, .int (nI s9)), (2, .int (nI i)), (4, .int (nI k))]) S.1 S.2.1 dX5_isColouredSo_74 rfl hl (by decide) rfl (fun ls hl => ?_)
                refine lv_aload_n S.1 S.2.1 dX5_isColouredSo_75 rfl (lv_at hl 2 rfl) ?_
                refine lv_bipush (v := 7) S.1 S.2.1 dX5_isColouredSo_76 (by decide) ?_
                refine go_V (run_V (As := [.int 7]) (rest := []) (n := 1) S hK (bl_P hP [0, 1] rfl) (bl_D hD [0, 1] rfl rfl) (c_X5_daysGo l E am q ri 7 (by omega) hR1) gV_X5_150 (by decide +kernel) rfl ⟨rfl, rfl⟩ ⟨Nat.le_of_ble_eq_true rfl, Nat.le_of_ble_eq_true rfl⟩ (ci := 5) (q0 := 0) rfl rfl hl.1 (Nat.le_of_ble_eq_true rfl) dX5_isColouredSo_78 ⟨Nat.zero_le _, Nat.zero_le _⟩) hP hD hS [0, 1] rfl (had_cons rfl (had_cons cell_ad rfl)) (Bs' := [[mObj am q], [(am 1, .inl (E.2.1, 77, .inl (sg (daysF ri 7) 77)))], [(am 3, .inl (E.2.1, 77, .inl (sg r 77)))], [(am 9, .inl (E.2.1, 4, .inl (sg u 4)))], [(am 10, .inl (E.2.1, 160, .inl (sg y 160)))]]) rfl (fun H locs hP hD hS => ?_)
                obtain ⟨r_78_1, er_78_1⟩ : ∃ zz9 : Row, zz9 = daysF ri 7 := ⟨_, rfl⟩
                rw [← er_78_1] at hP hD
                have hr_78_1_RI : RI r_78_1 := by rw [er_78_1]; exact daysF_RI hR1 _
                refine lv_iinc (v := nI (k + 1)) (lv' := [(4, .int (nI (k + 1))), (3, .int 0), (5, .int (y (40 * s9 + k))), (0, .ref (am 0)), (1, .int (nI s9)), (2, .int (nI i))]) S.1 S.2.1 dX5_isColouredSo_81 hl (k := 5) rfl (nI_1 k) (by decide) rfl (fun ls hl => ?_)
                refine lv_goto (tgt := 16) S.1 S.2.1 dX5_isColouredSo_84 (by decide) ?_
                exact ih_16 (k + 1) r_78_1 0 (by omega) (by omega) (by rw [er_78_1, hri]; exact daysF_7) hr_78_1_RI (okN_f hb c_35 c_55 (by rw [← hri]; exact c_66)) H locs hP hD hS ls (lv_sub hl [3, 4, 5, 1, 0] rfl)
              · refine lv_iconst (v := 1) S.1 S.2.1 dX5_isColouredSo_69 (by decide) ?_
                refine lv_goto (tgt := 74) S.1 S.2.1 dX5_isColouredSo_70 (by decide) ?_
                refine lv_istore_n (lv' := [(3, .int 1), (5, .int (y (40 * s9 + k))), (0, .ref (am 0)), (1, .int (nI s9)), (2, .int (nI i)), (4, .int (nI k))]) S.1 S.2.1 dX5_isColouredSo_74 rfl hl (by decide) rfl (fun ls hl => ?_)
                refine lv_aload_n S.1 S.2.1 dX5_isColouredSo_75 rfl (lv_at hl 2 rfl) ?_
                refine lv_bipush (v := 7) S.1 S.2.1 dX5_isColouredSo_76 (by decide) ?_
                refine go_V (run_V (As := [.int 7]) (rest := []) (n := 1) S hK (bl_P hP [0, 1] rfl) (bl_D hD [0, 1] rfl rfl) (c_X5_daysGo l E am q ri 7 (by omega) hR1) gV_X5_150 (by decide +kernel) rfl ⟨rfl, rfl⟩ ⟨Nat.le_of_ble_eq_true rfl, Nat.le_of_ble_eq_true rfl⟩ (ci := 5) (q0 := 0) rfl rfl hl.1 (Nat.le_of_ble_eq_true rfl) dX5_isColouredSo_78 ⟨Nat.zero_le _, Nat.zero_le _⟩) hP hD hS [0, 1] rfl (had_cons rfl (had_cons cell_ad rfl)) (Bs' := [[mObj am q], [(am 1, .inl (E.2.1, 77, .inl (sg (daysF ri 7) 77)))], [(am 3, .inl (E.2.1, 77, .inl (sg r 77)))], [(am 9, .inl (E.2.1, 4, .inl (sg u 4)))], [(am 10, .inl (E.2.1, 160, .inl (sg y 160)))]]) rfl (fun H locs hP hD hS => ?_)
                obtain ⟨r_78_2, er_78_2⟩ : ∃ zz9 : Row, zz9 = daysF ri 7 := ⟨_, rfl⟩
                rw [← er_78_2] at hP hD
                have hr_78_2_RI : RI r_78_2 := by rw [er_78_2]; exact daysF_RI hR1 _
                refine lv_iinc (v := nI (k + 1)) (lv' := [(4, .int (nI (k + 1))), (3, .int 1), (5, .int (y (40 * s9 + k))), (0, .ref (am 0)), (1, .int (nI s9)), (2, .int (nI i))]) S.1 S.2.1 dX5_isColouredSo_81 hl (k := 5) rfl (nI_1 k) (by decide) rfl (fun ls hl => ?_)
                refine lv_goto (tgt := 16) S.1 S.2.1 dX5_isColouredSo_84 (by decide) ?_
                exact ih_16 (k + 1) r_78_2 1 (by omega) (by omega) (by rw [er_78_2, hri]; exact daysF_7) hr_78_2_RI (okN_t hb c_35 (Or.inr (by rw [← hri]; exact c_66))) H locs hP hD hS ls (lv_sub hl [3, 4, 5, 1, 0] rfl)
  exact L_16 (min len 10 + 1) 0 r 1 (by omega) (by omega) rfl hR rfl H locs hP hD hS ls (lv_sub hl [2, 3, 4, 1, 0] rfl)
