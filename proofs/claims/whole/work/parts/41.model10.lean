def okN (y : Row) (o : Nat) (r : Row) (i : Nat) : Nat → Bool
  | 0 => true
  | k + 1 => okN y o r i k && decide (y (o + k) = -1 ∨ y (o + k) = daysF r (7 * k) (21 + 7 * i + 4))
theorem daysF_add (r : Row) (a : Nat) : ∀ b, daysF (daysF r a) b = daysF r (a + b)
  | 0 => rfl
  | b + 1 => by
    show dayF (daysF (daysF r a) b) = dayF (daysF r (a + b))
    rw [daysF_add r a b]
theorem daysF_7 {r : Row} {k : Nat} : daysF (daysF r (7 * k)) 7 = daysF r (7 * (k + 1)) := by rw [daysF_add, show 7 * (k + 1) = 7 * k + 7 by omega]
theorem okN_tr {y : Row} {o : Nat} {r : Row} {i k : Nat} {b : Int32} (hb : b = bI (okN y o r i k = true)) (c : ¬ b = 0) : okN y o r i k = true := bI_ne (by rw [← hb]; exact c)
theorem okN_t {y : Row} {o : Nat} {r : Row} {i k : Nat} {b : Int32} (hb : b = bI (okN y o r i k = true)) (c : ¬ b = 0) (h : y (o + k) = -1 ∨ y (o + k) = daysF r (7 * k) (21 + 7 * i + 4)) : 1 = bI (okN y o r i (k + 1) = true) := by
  rw [okN, okN_tr hb c, decide_eq_true h]
  rfl
theorem okN_f {y : Row} {o : Nat} {r : Row} {i k : Nat} {b : Int32} (hb : b = bI (okN y o r i k = true)) (c : ¬ b = 0) (h1 : ¬ y (o + k) = -1) (h2 : ¬ y (o + k) = daysF r (7 * k) (21 + 7 * i + 4)) : 0 = bI (okN y o r i (k + 1) = true) := by
  rw [okN, okN_tr hb c, decide_eq_false (fun q => q.elim h1 h2)]
  rfl
theorem okN_mono {y : Row} {o : Nat} {r : Row} {i k : Nat} (h : okN y o r i k = false) : ∀ m, okN y o r i (k + m) = false
  | 0 => h
  | m + 1 => by
    show (okN y o r i (k + m) && _) = false
    rw [okN_mono h m]
    rfl
theorem okN_end {y : Row} {o : Nat} {r : Row} {i k m : Nat} {b : Int32} (hb : b = bI (okN y o r i k = true)) (c : b = 0) (hk : k ≤ m) : b = bI (okN y o r i m = true) := by
  have h : okN y o r i k = false := by
    cases h9 : okN y o r i k with
    | false => rfl
    | true => rw [h9] at hb; rw [hb] at c; exact absurd c (by decide)
  have h2 := okN_mono h (m - k)
  rw [show k + (m - k) = m by omega] at h2
  rw [c, h2]
  rfl
/-- a counter that goes down from i - 1 to -1 -/
def dI (i : Nat) : Int32 := if i = 0 then -1 else nI (i - 1)
theorem dI_pos {i : Nat} (h : ¬ dI i < 0) : ∃ m, i = m + 1 := by
  cases i with
  | zero => exact absurd (by decide) h
  | succ m => exact ⟨m, rfl⟩
theorem dI_s {i m : Nat} (h : i = m + 1) : dI i = nI m := by
  subst h
  exact if_neg (by omega)
theorem dI_step {i m : Nat} (h : i = m + 1) : dI i + Int32.ofInt (-1) = dI m := by
  rw [dI_s h]
  cases m with
  | zero => decide
  | succ k => rw [dI_s rfl]; exact pk_m1 k
theorem dI_zero {i : Nat} (h : dI i < 0) (hi : i ≤ 1000 := by omega) : i = 0 := by
  cases i with
  | zero => rfl
  | succ m => rw [dI_s rfl] at h; exact absurd h (nI_pos (by omega))
def gP (c : Nat → Bool) : Nat → Int32 × Int32
  | 0 => (0, -1)
  | k + 1 => if c (99 - k) then ((gP c k).1 + 1, nI (99 - k)) else gP c k
theorem gP_y {c : Nat → Bool} {t m : Nat} (h : t = m + 1) (ht : t ≤ 100) (hc : c m = true) : gP c (100 - m) = ((gP c (100 - t)).1 + 1, nI m) := by
  rw [show 100 - m = (100 - t) + 1 by omega, gP, show 99 - (100 - t) = m by omega, if_pos hc]
theorem gP_n {c : Nat → Bool} {t m : Nat} (h : t = m + 1) (ht : t ≤ 100) (hc : ¬ c m = true) : gP c (100 - m) = gP c (100 - t) := by
  rw [show 100 - m = (100 - t) + 1 by omega, gP, show 99 - (100 - t) = m by omega, if_neg hc]
def griefQ (q : Row) (c : Nat → Bool) : Row := upd (upd q 1 (gP c 100).1) 2 (gP c 100).2
theorem griefQ_eq {q qi : Row} {c : Nat → Bool} (ho : ∀ j, j ≠ 1 → j ≠ 2 → qi j = q j) (h1 : qi 1 = (gP c 100).1) (h2 : qi 2 = (gP c 100).2) : griefQ q c = qi := funext fun j => by
  unfold griefQ upd
  by_cases a : j = 2
  · rw [if_pos a, a, h2]
  · rw [if_neg a]
    by_cases b : j = 1
    · rw [if_pos b, b, h1]
    · rw [if_neg b, ho j b a]
theorem griefQ_1 {q : Row} {c : Nat → Bool} : griefQ q c 1 = (gP c 100).1 := by
  unfold griefQ
  rw [upd_ne (by decide), upd_at]
theorem griefQ_2 {q : Row} {c : Nat → Bool} : griefQ q c 2 = (gP c 100).2 := upd_at
def rFits (r y z u : Row) (s p : Int32) : Res := if lackV z s (0 ≤ p ∧ p < r 1) = 0 then .inr (fun _ => 0, (gP (fun v => okN y (40 * tN s) (upd r (21 + 7 * tN p + 1) (nI v)) (tN p) (min (tN (u (tN s))) 10)) 100).1) else .inl (lackK z s (0 ≤ p ∧ p < r 1))
def orNR (v : Int32) : Res := if 0 ≤ v then .inr (fun _ => 0, v) else .inl 3
def rGrief (r y z u : Row) (s p : Int32) : Res := if lackV z s (0 ≤ p ∧ p < r 1) = 0 then orNR (gP (fun v => okN y (40 * tN s) (upd r (21 + 7 * tN p + 1) (nI v)) (tN p) (min (tN (u (tN s))) 10)) 100).2 else .inl (lackK z s (0 ≤ p ∧ p < r 1))
set_option maxHeartbeats 800000 in
set_option maxRecDepth 100000 in
theorem c_X5_isColouredSo (l : Launch) (E : EV) (am : Nat → Nat) (q r x u y : Row) (s9 i len : Nat) (hR : RI r) (hi : i < 8) (hs : s9 < 4) (elen : u s9 = nI len) (hlen : len ≤ 40) : Met l yX5_isColouredSo (wq yX5_isColouredSo cX5_isColouredSo 6 (some .boolean)) ({ frames := 7, cells := 0, slots := 0, locals := 149 }) (preB E [.ref (am 0), .int (nI s9), .int (nI i)] [[mObj am q], [(am 1, .inl (E.2.1, 77, .inl (sg r 77)))], [(am 3, .inl (E.2.1, 77, .inl (sg x 77)))], [(am 9, .inl (E.2.1, 4, .inl (sg u 4)))], [(am 10, .inl (E.2.1, 160, .inl (sg y 160)))]]) (qI E [[mObj am q], [(am 1, .inl (E.2.1, 77, .inl (sg r 77)))], [(am 3, .inl (E.2.1, 77, .inl (sg x 77)))], [(am 9, .inl (E.2.1, 4, .inl (sg u 4)))], [(am 10, .inl (E.2.1, 160, .inl (sg y 160)))]] [[mObj am q], [(am 1, .inl (E.2.1, 77, .inl (sg r 77)))], [(am 3, .inl (E.2.1, 77, .inl (sg r 77)))], [(am 9, .inl (E.2.1, 4, .inl (sg u 4)))], [(am 10, .inl (E.2.1, 160, .inl (sg y 160)))]] (bI (okN y (40 * s9) r i (min len 10) = true))) 0 0 (inB [[mObj am q], [(am 1, .inl (E.2.1, 77, .inl (sg r 77)))], [(am 3, .inl (E.2.1, 77, .inl (sg x 77)))], [(am 9, .inl (E.2.1, 4, .inl (sg u 4)))], [(am 10, .inl (E.2.1, 160, .inl (sg y 160)))]]) := by
  refine M_mk RX5 (by decide) rfl (Nat.le_of_ble_eq_true rfl) ?_
  intro p e s m below meth c S hr hlk hK hP hD hS ls hl
  have hl : lv_has ls 6 [(0, .ref (am 0)), (1, .int (nI s9)), (2, .int (nI i))] := hl
  obtain ⟨H, hH⟩ : ∃ zz9, zz9 = s.heap := ⟨_, rfl⟩
  obtain ⟨locs, hlocs⟩ : ∃ zz9 : List Loc, zz9 = [] := ⟨_, rfl⟩
  have hP : PE E [[mObj am q], [(am 1, .inl (E.2.1, 77, .inl (sg r 77)))], [(am 3, .inl (E.2.1, 77, .inl (sg x 77)))], [(am 9, .inl (E.2.1, 4, .inl (sg u 4)))], [(am 10, .inl (E.2.1, 160, .inl (sg y 160)))]] H := by rw [hH]; exact hP
  have hS : va_S (inB [[mObj am q], [(am 1, .inl (E.2.1, 77, .inl (sg r 77)))], [(am 3, .inl (E.2.1, 77, .inl (sg x 77)))], [(am 9, .inl (E.2.1, 4, .inl (sg u 4)))], [(am 10, .inl (E.2.1, 160, .inl (sg y 160)))]]) s.heap H locs := by rw [hH, hlocs]; exact hS
  show W p l e ({ frames := 7, cells := 0, slots := 0, locals := 149 }) s m ([.ref (am 0), .int (nI s9), .int (nI i)] : List Value).toArray below meth c s.heap [] 0 0 _ _
  suffices hgo : W p l e ({ frames := 7, cells := 0, slots := 0, locals := 149 }) s m ([.ref (am 0), .int (nI s9), .int (nI i)] : List Value).toArray below meth c H locs 0 0 (MQ below (qI E [[mObj am q], [(am 1, .inl (E.2.1, 77, .inl (sg r 77)))], [(am 3, .inl (E.2.1, 77, .inl (sg x 77)))], [(am 9, .inl (E.2.1, 4, .inl (sg u 4)))], [(am 10, .inl (E.2.1, 160, .inl (sg y 160)))]] [[mObj am q], [(am 1, .inl (E.2.1, 77, .inl (sg r 77)))], [(am 3, .inl (E.2.1, 77, .inl (sg r 77)))], [(am 9, .inl (E.2.1, 4, .inl (sg u 4)))], [(am 10, .inl (E.2.1, 160, .inl (sg y 160)))]] (bI (okN y (40 * s9) r i (min len 10) = true))) ([.ref (am 0), .int (nI s9), .int (nI i)] : List Value).toArray s 0 0 (inB [[mObj am q], [(am 1, .inl (E.2.1, 77, .inl (sg r 77)))], [(am 3, .inl (E.2.1, 77, .inl (sg x 77)))], [(am 9, .inl (E.2.1, 4, .inl (sg u 4)))], [(am 10, .inl (E.2.1, 160, .inl (sg y 160)))]])) (F0 m 0 ls []) by rw [hH, hlocs] at hgo; exact hgo
  clear hH hlocs
  refine lv_aload_n S.1 S.2.1 dX5_isColouredSo_0 rfl (lv_at hl 0 rfl) ?_
  refine gf_X5_9 S hK hP 0 0 rfl rfl rfl dX5_isColouredSo_1 ?_
  refine lv_aload_n S.1 S.2.1 dX5_isColouredSo_4 rfl (lv_at hl 0 rfl) ?_
  refine gf_X5_16 S hK hP 0 0 rfl rfl rfl dX5_isColouredSo_5 ?_
  refine go_V (run_S (As := [.ref (am 1), .ref (am 3)]) (rest := []) (n := 2) S hK (bl_P hP [1, 2] rfl) (bl_D hD [1, 2] rfl rfl) (c_X5_copyRow l E (am 1) (am 3) r x ) gS_X5_61 (by decide +kernel) rfl ⟨rfl, rfl⟩ ⟨Nat.le_of_ble_eq_true rfl, Nat.le_of_ble_eq_true rfl⟩ hl.1 (Nat.le_of_ble_eq_true rfl) dX5_isColouredSo_8 ⟨Nat.zero_le _, Nat.zero_le _⟩) hP hD hS [1, 2] rfl (had_cons rfl (had_cons cell_ad rfl)) (Bs' := [[mObj am q], [(am 1, .inl (E.2.1, 77, .inl (sg r 77)))], [(am 3, .inl (E.2.1, 77, .inl (sg r 77)))], [(am 9, .inl (E.2.1, 4, .inl (sg u 4)))], [(am 10, .inl (E.2.1, 160, .inl (sg y 160)))]]) rfl (fun H locs hP hD hS => ?_)
  refine lv_iconst (v := 1) S.1 S.2.1 dX5_isColouredSo_11 (by decide) ?_
  refine lv_istore_n (lv' := [(3, .int 1), (0, .ref (am 0)), (1, .int (nI s9)), (2, .int (nI i))]) S.1 S.2.1 dX5_isColouredSo_12 rfl hl (by decide) rfl (fun ls hl => ?_)
  refine lv_iconst (v := 0) S.1 S.2.1 dX5_isColouredSo_13 (by decide) ?_
  refine lv_istore (lv' := [(4, .int 0), (3, .int 1), (0, .ref (am 0)), (1, .int (nI s9)), (2, .int (nI i))]) S.1 S.2.1 dX5_isColouredSo_14 hl (by decide) rfl (fun ls hl => ?_)
  have L_16 : ∀ (fu : Nat) (k : Nat) (ri : Row) (b : Int32), (k ≤ min len 10) → (min len 10 < k + fu) → (ri = daysF r (7 * k)) → (RI ri) → (b = bI (okN y (40 * s9) r i k = true)) → ∀ (H : Heap) (locs : List Loc), PE E [[mObj am q], [(am 1, .inl (E.2.1, 77, .inl (sg ri 77)))], [(am 3, .inl (E.2.1, 77, .inl (sg r 77)))], [(am 9, .inl (E.2.1, 4, .inl (sg u 4)))], [(am 10, .inl (E.2.1, 160, .inl (sg y 160)))]] H → DE (inB [[mObj am q], [(am 1, .inl (E.2.1, 77, .inl (sg r 77)))], [(am 3, .inl (E.2.1, 77, .inl (sg x 77)))], [(am 9, .inl (E.2.1, 4, .inl (sg u 4)))], [(am 10, .inl (E.2.1, 160, .inl (sg y 160)))]]) [[mObj am q], [(am 1, .inl (E.2.1, 77, .inl (sg ri 77)))], [(am 3, .inl (E.2.1, 77, .inl (sg r 77)))], [(am 9, .inl (E.2.1, 4, .inl (sg u 4)))], [(am 10, .inl (E.2.1, 160, .inl (sg y 160)))]] → va_S (inB [[mObj am q], [(am 1, .inl (E.2.1, 77, .inl (sg r 77)))], [(am 3, .inl (E.2.1, 77, .inl (sg x 77)))], [(am 9, .inl (E.2.1, 4, .inl (sg u 4)))], [(am 10, .inl (E.2.1, 160, .inl (sg y 160)))]]) s.heap H locs → ∀ (ls : Array Slot), lv_has ls 6 [(0, .ref (am 0)), (1, .int (nI s9)), (2, .int (nI i)), (3, .int b), (4, .int (nI k))] → W p l e ({ frames := 7, cells := 0, slots := 0, locals := 149 }) s m ([.ref (am 0), .int (nI s9), .int (nI i)] : List Value).toArray below meth c H locs 0 0 (MQ below (qI E [[mObj am q], [(am 1, .inl (E.2.1, 77, .inl (sg r 77)))], [(am 3, .inl (E.2.1, 77, .inl (sg x 77)))], [(am 9, .inl (E.2.1, 4, .inl (sg u 4)))], [(am 10, .inl (E.2.1, 160, .inl (sg y 160)))]] [[mObj am q], [(am 1, .inl (E.2.1, 77, .inl (sg r 77)))], [(am 3, .inl (E.2.1, 77, .inl (sg r 77)))], [(am 9, .inl (E.2.1, 4, .inl (sg u 4)))], [(am 10, .inl (E.2.1, 160, .inl (sg y 160)))]] (bI (okN y (40 * s9) r i (min len 10) = true))) ([.ref (am 0), .int (nI s9), .int (nI i)] : List Value).toArray s 0 0 (inB [[mObj am q], [(am 1, .inl (E.2.1, 77, .inl (sg r 77)))], [(am 3, .inl (E.2.1, 77, .inl (sg x 77)))], [(am 9, .inl (E.2.1, 4, .inl (sg u 4)))], [(am 10, .inl (E.2.1, 160, .inl (sg y 160)))]])) (F0 m 16 ls []) := by
    intro fu
    induction fu with
    | zero =>
      intro k ri b hk hf hri hR1 hb
      omega
    | succ fu ih_16 =>
      intro k ri b hk hf hri hR1 hb H locs hP hD hS ls hl
      refine lv_iload S.1 S.2.1 dX5_isColouredSo_16 (lv_at hl 4 rfl) ?_
      refine lv_aload_n S.1 S.2.1 dX5_isColouredSo_18 rfl (lv_at hl 0 rfl) ?_
      refine gf_X5_51 S hK hP 0 0 rfl rfl rfl dX5_isColouredSo_19 ?_
      refine lv_iload_n S.1 S.2.1 dX5_isColouredSo_22 rfl (lv_at hl 1 rfl) ?_
      refine b_ialdN (i := s9) S hK hP 3 0 rfl rfl (by omega) (by decide) dX5_isColouredSo_23 ?_
      refine lv_eqi (y := nI len) ((sg_at (by omega)).trans elen) ?_
      refine lv_icmp_ge (tgt := 87) S.1 S.2.1 dX5_isColouredSo_24 (by decide) (fun c_24 => ?_) (fun c_24 => ?_)
      · have n_24 := Int32.not_lt.mpr c_24
        refine lv_aload_n S.1 S.2.1 dX5_isColouredSo_87 rfl (lv_at hl 0 rfl) ?_
        refine gf_X5_16 S hK hP 0 0 rfl rfl rfl dX5_isColouredSo_88 ?_
        refine lv_aload_n S.1 S.2.1 dX5_isColouredSo_91 rfl (lv_at hl 0 rfl) ?_
        refine gf_X5_9 S hK hP 0 0 rfl rfl rfl dX5_isColouredSo_92 ?_
        refine go_V (run_S (As := [.ref (am 3), .ref (am 1)]) (rest := []) (n := 2) S hK (bl_P hP [2, 1] rfl) (bl_D hD [2, 1] rfl rfl) (c_X5_copyRow l E (am 3) (am 1) r ri ) gS_X5_61 (by decide +kernel) rfl ⟨rfl, rfl⟩ ⟨Nat.le_of_ble_eq_true rfl, Nat.le_of_ble_eq_true rfl⟩ hl.1 (Nat.le_of_ble_eq_true rfl) dX5_isColouredSo_95 ⟨Nat.zero_le _, Nat.zero_le _⟩) hP hD hS [2, 1] rfl (had_cons rfl (had_cons cell_ad rfl)) (Bs' := [[mObj am q], [(am 1, .inl (E.2.1, 77, .inl (sg r 77)))], [(am 3, .inl (E.2.1, 77, .inl (sg r 77)))], [(am 9, .inl (E.2.1, 4, .inl (sg u 4)))], [(am 10, .inl (E.2.1, 160, .inl (sg y 160)))]]) rfl (fun H locs hP hD hS => ?_)
        refine lv_iload_n S.1 S.2.1 dX5_isColouredSo_98 rfl (lv_at hl 3 rfl) ?_
        exact retZ S hr hlk (by rw [hb]; exact bI_nar) hP hS (by rw [hb, show min len 10 = k by (have z9 : len ≤ k := (nI_leI (by omega) (by omega)).mp c_24; omega)]) dX5_isColouredSo_99
      · have n_24 := Int32.not_le.mp c_24
        have hi2 : k < len := (nI_ltI (by omega) (by omega)).mp n_24
        refine lv_iload S.1 S.2.1 dX5_isColouredSo_27 (lv_at hl 4 rfl) ?_
        refine lv_bipush (v := 10) S.1 S.2.1 dX5_isColouredSo_29 (by decide) ?_
        refine lv_icmp_ge (tgt := 87) S.1 S.2.1 dX5_isColouredSo_31 (by decide) (fun c_31 => ?_) (fun c_31 => ?_)
        · have n_31 := Int32.not_lt.mpr c_31
          refine lv_aload_n S.1 S.2.1 dX5_isColouredSo_87 rfl (lv_at hl 0 rfl) ?_
          refine gf_X5_16 S hK hP 0 0 rfl rfl rfl dX5_isColouredSo_88 ?_
          refine lv_aload_n S.1 S.2.1 dX5_isColouredSo_91 rfl (lv_at hl 0 rfl) ?_
          refine gf_X5_9 S hK hP 0 0 rfl rfl rfl dX5_isColouredSo_92 ?_
          refine go_V (run_S (As := [.ref (am 3), .ref (am 1)]) (rest := []) (n := 2) S hK (bl_P hP [2, 1] rfl) (bl_D hD [2, 1] rfl rfl) (c_X5_copyRow l E (am 3) (am 1) r ri ) gS_X5_61 (by decide +kernel) rfl ⟨rfl, rfl⟩ ⟨Nat.le_of_ble_eq_true rfl, Nat.le_of_ble_eq_true rfl⟩ hl.1 (Nat.le_of_ble_eq_true rfl) dX5_isColouredSo_95 ⟨Nat.zero_le _, Nat.zero_le _⟩) hP hD hS [2, 1] rfl (had_cons rfl (had_cons cell_ad rfl)) (Bs' := [[mObj am q], [(am 1, .inl (E.2.1, 77, .inl (sg r 77)))], [(am 3, .inl (E.2.1, 77, .inl (sg r 77)))], [(am 9, .inl (E.2.1, 4, .inl (sg u 4)))], [(am 10, .inl (E.2.1, 160, .inl (sg y 160)))]]) rfl (fun H locs hP hD hS => ?_)
          refine lv_iload_n S.1 S.2.1 dX5_isColouredSo_98 rfl (lv_at hl 3 rfl) ?_
          exact retZ S hr hlk (by rw [hb]; exact bI_nar) hP hS (by rw [hb, show min len 10 = k by (have z9 : 10 ≤ k := (nI_leI (a := 10) (by omega) (by omega)).mp c_31; omega)]) dX5_isColouredSo_99
        · have n_31 := Int32.not_le.mp c_31
          have hi3 : k < 10 := (nI_ltI (b := 10) (by omega) (by omega)).mp n_31
          refine lv_iload_n S.1 S.2.1 dX5_isColouredSo_34 rfl (lv_at hl 3 rfl) ?_
          refine lv_if_eq (tgt := 87) S.1 S.2.1 dX5_isColouredSo_35 (by decide) (fun c_35 => ?_) (fun c_35 => ?_)
          · refine lv_aload_n S.1 S.2.1 dX5_isColouredSo_87 rfl (lv_at hl 0 rfl) ?_
            refine gf_X5_16 S hK hP 0 0 rfl rfl rfl dX5_isColouredSo_88 ?_
            refine lv_aload_n S.1 S.2.1 dX5_isColouredSo_91 rfl (lv_at hl 0 rfl) ?_
            refine gf_X5_9 S hK hP 0 0 rfl rfl rfl dX5_isColouredSo_92 ?_
            refine go_V (run_S (As := [.ref (am 3), .ref (am 1)]) (rest := []) (n := 2) S hK (bl_P hP [2, 1] rfl) (bl_D hD [2, 1] rfl rfl) (c_X5_copyRow l E (am 3) (am 1) r ri ) gS_X5_61 (by decide +kernel) rfl ⟨rfl, rfl⟩ ⟨Nat.le_of_ble_eq_true rfl, Nat.le_of_ble_eq_true rfl⟩ hl.1 (Nat.le_of_ble_eq_true rfl) dX5_isColouredSo_95 ⟨Nat.zero_le _, Nat.zero_le _⟩) hP hD hS [2, 1] rfl (had_cons rfl (had_cons cell_ad rfl)) (Bs' := [[mObj am q], [(am 1, .inl (E.2.1, 77, .inl (sg r 77)))], [(am 3, .inl (E.2.1, 77, .inl (sg r 77)))], [(am 9, .inl (E.2.1, 4, .inl (sg u 4)))], [(am 10, .inl (E.2.1, 160, .inl (sg y 160)))]]) rfl (fun H locs hP hD hS => ?_)
            refine lv_iload_n S.1 S.2.1 dX5_isColouredSo_98 rfl (lv_at hl 3 rfl) ?_
            exact retZ S hr hlk (by rw [hb]; exact bI_nar) hP hS (okN_end hb c_35 hk) dX5_isColouredSo_99
          · refine lv_aload_n S.1 S.2.1 dX5_isColouredSo_38 rfl (lv_at hl 0 rfl) ?_
            refine gf_X5_54 S hK hP 0 0 rfl rfl rfl dX5_isColouredSo_39 ?_
            refine lv_bipush (v := 40) S.1 S.2.1 dX5_isColouredSo_42 (by decide) ?_
            refine lv_iload_n S.1 S.2.1 dX5_isColouredSo_44 rfl (lv_at hl 1 rfl) ?_
            refine lv_imul S.1 S.2.1 dX5_isColouredSo_45 ?_
            refine lv_eqi (y := nI (40 * s9)) (pk_mul 40 s9) ?_
            refine lv_iload S.1 S.2.1 dX5_isColouredSo_46 (lv_at hl 4 rfl) ?_
            refine lv_iadd S.1 S.2.1 dX5_isColouredSo_48 ?_
            refine lv_eqi (y := nI (40 * s9 + k)) (nI_add (40 * s9) k) ?_
            refine b_ialdN (i := 40 * s9 + k) S hK hP 4 0 rfl rfl (by omega) (by decide) dX5_isColouredSo_49 ?_
            refine lv_eqi (y := y (40 * s9 + k)) (sg_at (by omega)) ?_
            refine lv_istore (lv' := [(5, .int (y (40 * s9 + k))), (0, .ref (am 0)), (1, .int (nI s9)), (2, .int (nI i)), (3, .int b), (4, .int (nI k))]) S.1 S.2.1 dX5_isColouredSo_50 hl (by decide) rfl (fun ls hl => ?_)
            refine lv_iload S.1 S.2.1 dX5_isColouredSo_52 (lv_at hl 0 rfl) ?_
            refine lv_iconst (v := (-1)) S.1 S.2.1 dX5_isColouredSo_54 (by decide) ?_
            refine lv_icmp_eq (tgt := 69) S.1 S.2.1 dX5_isColouredSo_55 (by decide) (fun c_55 => ?_) (fun c_55 => ?_)
            · refine lv_iconst (v := 1) S.1 S.2.1 dX5_isColouredSo_69 (by decide) ?_
              refine lv_goto (tgt := 74) S.1 S.2.1 dX5_isColouredSo_70 (by decide) ?_
              refine lv_istore_n (lv' := [(3, .int 1), (5, .int (y (40 * s9 + k))), (0, .ref (am 0)), (1, .int (nI s9)), (2, .int (nI i)), (4, .int (nI k))]) S.1 S.2.1 dX5_isColouredSo_74 rfl hl (by decide) rfl (fun ls hl => ?_)
              refine lv_aload_n S.1 S.2.1 dX5_isColouredSo_75 rfl (lv_at hl 2 rfl) ?_
              refine lv_bipush (v := 7) S.1 S.2.1 dX5_isColouredSo_76 (by decide) ?_
              refine go_V (run_V (As := [.int 7]) (rest := []) (n := 1) S hK (bl_P hP [0, 1] rfl) (bl_D hD [0, 1] rfl rfl) (c_X5_daysGo l E am q ri 7 (by omega) hR1) gV_X5_150 (by decide +kernel) rfl ⟨rfl, rfl⟩ ⟨Nat.le_of_ble_eq_true rfl, Nat.le_of_ble_eq_true rfl⟩ (ci := 5) (q0 := 0) rfl rfl hl.1 (Nat.le_of_ble_eq_true rfl) dX5_isColouredSo_78 ⟨Nat.zero_le _, Nat.zero_le _⟩) hP hD hS [0, 1] rfl (had_cons rfl (had_cons cell_ad rfl)) (Bs' := [[mObj am q], [(am 1, .inl (E.2.1, 77, .inl (sg (daysF ri 7) 77)))], [(am 3, .inl (E.2.1, 77, .inl (sg r 77)))], [(am 9, .inl (E.2.1, 4, .inl (sg u 4)))], [(am 10, .inl (E.2.1, 160, .inl (sg y 160)))]]) rfl (fun H locs hP hD hS => ?_)
              obtain ⟨r_78, er_78⟩ : ∃ zz9 : Row, zz9 = daysF ri 7 := ⟨_, rfl⟩
              rw [← er_78] at hP hD
              have hr_78_RI : RI r_78 := by rw [er_78]; exact daysF_RI hR1 _
              refine lv_iinc (v := nI (k + 1)) (lv' := [(4, .int (nI (k + 1))), (3, .int 1), (5, .int (y (40 * s9 + k))), (0, .ref (am 0)), (1, .int (nI s9)), (2, .int (nI i))]) S.1 S.2.1 dX5_isColouredSo_81 hl (k := 5) rfl (nI_1 k) (by decide) rfl (fun ls hl => ?_)
              refine lv_goto (tgt := 16) S.1 S.2.1 dX5_isColouredSo_84 (by decide) ?_
              exact ih_16 (k + 1) r_78 1 (by omega) (by omega) (by rw [er_78, hri]; exact daysF_7) hr_78_RI (okN_t hb c_35 (Or.inl c_55)) H locs hP hD hS ls (lv_sub hl [3, 4, 5, 1, 0] rfl)
            · refine lv_iload S.1 S.2.1 dX5_isColouredSo_58 (lv_at hl 0 rfl) ?_
              refine lv_aload_n S.1 S.2.1 dX5_isColouredSo_60 rfl (lv_at hl 1 rfl) ?_
              refine lv_iload_n S.1 S.2.1 dX5_isColouredSo_61 rfl (lv_at hl 3 rfl) ?_
              refine lv_iconst (v := 4) S.1 S.2.1 dX5_isColouredSo_62 (by decide) ?_
              refine go_S (run_V (As := [.int (nI i), .int 4]) (rest := [.int (y (40 * s9 + k))]) (n := 2) S hK (bl_P hP [0, 1] rfl) (bl_D hD [0, 1] rfl rfl) (c_X5_potterIs l E am q ri i 4 (by omega) (by omega)) gV_X5_92 (by decide +kernel) rfl ⟨rfl, rfl⟩ ⟨Nat.le_of_ble_eq_true rfl, Nat.le_of_ble_eq_true rfl⟩ (ci := 5) (q0 := 0) rfl rfl hl.1 (Nat.le_of_ble_eq_true rfl) dX5_isColouredSo_63 ⟨Nat.zero_le _, Nat.zero_le _⟩) ?_
              refine lv_icmp_ne (tgt := 73) S.1 S.2.1 dX5_isColouredSo_66 (by decide) (fun c_66 => ?_) (fun c_66 => ?_)
              · refine lv_iconst (v := 0) S.1 S.2.1 dX5_isColouredSo_73 (by decide) ?_
                refine lv_istore_n (lv' := [(3, .int 0), (5, .int (y (40 * s9 + k))), (0, .ref (am 0)), (1, .int (nI s9)), (2, .int (nI i)), (4, .int (nI k))]) S.1 S.2.1 dX5_isColouredSo_74 rfl hl (by decide) rfl (fun ls hl => ?_)
                refine lv_aload_n S.1 S.2.1 dX5_isColouredSo_75 rfl (lv_at hl 2 rfl) ?_
                refine lv_bipush (v := 7) S.1 S.2.1 dX5_isColouredSo_76 (by decide) ?_
                refine go_V (run_V (As := [.int 7]) (rest := []) (n := 1) S hK (bl_P hP [0, 1] rfl) (bl_D hD [0, 1] rfl rfl) (c_X5_daysGo l E am q ri 7 (by omega) hR1) gV_X5_150 (by decide +kernel) rfl ⟨rfl, rfl⟩ ⟨Nat.le_of_ble_eq_true rfl, Nat.le_of_ble_eq_true rfl⟩ (ci := 5) (q0 := 0) rfl rfl hl.1 (Nat.le_of_ble_eq_true rfl) dX5_isColouredSo_78 ⟨Nat.zero_le _, Nat.zero_le _⟩) hP hD hS [0, 1] rfl (had_cons rfl (had_cons cell_ad rfl)) (Bs' := [[mObj am q], [(am 1, .inl (E.2.1, 77, .inl (sg (daysF ri 7) 77)))], [(am 3, .inl (E.2.1, 77, .inl (sg r 77)))], [(am 9, .inl (E.2.1, 4, .inl (sg u 4)))], [(am 10, .inl (E.2.1, 160, .inl (sg y 160)))]]) rfl (fun H locs hP hD hS => ?_)
                obtain ⟨r_78_1, er_78_1⟩ : ∃ zz9 : Row, zz9 = daysF ri 7 := ⟨_, rfl⟩
                rw [← er_78_1] at hP hD
                have hr_78_1_RI : RI r_78_1 := by rw [er_78_1]; exact daysF_RI hR1 _
                refine lv_iinc (v := nI (k + 1)) (lv' := [(4, .int (nI (k + 1))), (3, .int 0), (5, .int (y (40 * s9 + k))), (0, .ref (am 0)), (1, .int (nI s9)), (2, .int (nI i))]) S.1 S.2.1 dX5_isColouredSo_81 hl (k := 5) rfl (nI_1 k) (by decide) rfl (fun ls hl => ?_)
                refine lv_goto (tgt := 16) S.1 S.2.1 dX5_isColouredSo_84 (by decide) ?_
                exact ih_16 (k + 1) r_78_1 0 (by omega) (by omega) (by rw [er_78_1, hri]; exact daysF_7) hr_78_1_RI (okN_f hb c_35 c_55 (by rw [← hri]; exact c_66)) H locs hP hD hS ls (lv_sub hl [3, 4, 5, 1, 0] rfl)
              · refine lv_iconst (v := 1) S.1 S.2.1 dX5_isColouredSo_69 (by decide) ?_
                refine lv_goto (tgt := 74) S.1 S.2.1 dX5_isColouredSo_70 (by decide) ?_
                refine lv_istore_n (lv' := [(3, .int 1), (5, .int (y (40 * s9 + k))), (0, .ref (am 0)), (1, .int (nI s9)), (2, .int (nI i)), (4, .int (nI k))]) S.1 S.2.1 dX5_isColouredSo_74 rfl hl (by decide) rfl (fun ls hl => ?_)
                refine lv_aload_n S.1 S.2.1 dX5_isColouredSo_75 rfl (lv_at hl 2 rfl) ?_
                refine lv_bipush (v := 7) S.1 S.2.1 dX5_isColouredSo_76 (by decide) ?_
                refine go_V (run_V (As := [.int 7]) (rest := []) (n := 1) S hK (bl_P hP [0, 1] rfl) (bl_D hD [0, 1] rfl rfl) (c_X5_daysGo l E am q ri 7 (by omega) hR1) gV_X5_150 (by decide +kernel) rfl ⟨rfl, rfl⟩ ⟨Nat.le_of_ble_eq_true rfl, Nat.le_of_ble_eq_true rfl⟩ (ci := 5) (q0 := 0) rfl rfl hl.1 (Nat.le_of_ble_eq_true rfl) dX5_isColouredSo_78 ⟨Nat.zero_le _, Nat.zero_le _⟩) hP hD hS [0, 1] rfl (had_cons rfl (had_cons cell_ad rfl)) (Bs' := [[mObj am q], [(am 1, .inl (E.2.1, 77, .inl (sg (daysF ri 7) 77)))], [(am 3, .inl (E.2.1, 77, .inl (sg r 77)))], [(am 9, .inl (E.2.1, 4, .inl (sg u 4)))], [(am 10, .inl (E.2.1, 160, .inl (sg y 160)))]]) rfl (fun H locs hP hD hS => ?_)
                obtain ⟨r_78_2, er_78_2⟩ : ∃ zz9 : Row, zz9 = daysF ri 7 := ⟨_, rfl⟩
                rw [← er_78_2] at hP hD
                have hr_78_2_RI : RI r_78_2 := by rw [er_78_2]; exact daysF_RI hR1 _
                refine lv_iinc (v := nI (k + 1)) (lv' := [(4, .int (nI (k + 1))), (3, .int 1), (5, .int (y (40 * s9 + k))), (0, .ref (am 0)), (1, .int (nI s9)), (2, .int (nI i))]) S.1 S.2.1 dX5_isColouredSo_81 hl (k := 5) rfl (nI_1 k) (by decide) rfl (fun ls hl => ?_)
                refine lv_goto (tgt := 16) S.1 S.2.1 dX5_isColouredSo_84 (by decide) ?_
                exact ih_16 (k + 1) r_78_2 1 (by omega) (by omega) (by rw [er_78_2, hri]; exact daysF_7) hr_78_2_RI (okN_t hb c_35 (Or.inr (by rw [← hri]; exact c_66))) H locs hP hD hS ls (lv_sub hl [3, 4, 5, 1, 0] rfl)
  exact L_16 (min len 10 + 1) 0 r 1 (by omega) (by omega) rfl hR rfl H locs hP hD hS ls (lv_sub hl [2, 3, 4, 1, 0] rfl)
set_option maxHeartbeats 800000 in
set_option maxRecDepth 100000 in
theorem c_X5_findGriefs (l : Launch) (E : EV) (am : Nat → Nat) (q r x u y : Row) (s9 i len : Nat) (hR : RI r) (hi : i < 8) (hs : s9 < 4) (elen : u s9 = nI len) (hlen : len ≤ 40) : Met l yX5_findGriefs (wq yX5_findGriefs cX5_findGriefs 6 none) ({ frames := 8, cells := 0, slots := 0, locals := 174 }) (preB E [.ref (am 0), .int (nI s9), .int (nI i)] [[mObj am q], [(am 1, .inl (E.2.1, 77, .inl (sg r 77)))], [(am 3, .inl (E.2.1, 77, .inl (sg x 77)))], [(am 9, .inl (E.2.1, 4, .inl (sg u 4)))], [(am 10, .inl (E.2.1, 160, .inl (sg y 160)))]]) (qV E [[mObj am q], [(am 1, .inl (E.2.1, 77, .inl (sg r 77)))], [(am 3, .inl (E.2.1, 77, .inl (sg x 77)))], [(am 9, .inl (E.2.1, 4, .inl (sg u 4)))], [(am 10, .inl (E.2.1, 160, .inl (sg y 160)))]] [[mObj am (griefQ q (fun v => okN y (40 * s9) (upd r (21 + 7 * i + 1) (nI v)) i (min len 10)))], [(am 1, .inl (E.2.1, 77, .inl (sg r 77)))], [(am 3, .inl (E.2.1, 77, .inl (sg (upd r (21 + 7 * i + 1) (nI 0)) 77)))], [(am 9, .inl (E.2.1, 4, .inl (sg u 4)))], [(am 10, .inl (E.2.1, 160, .inl (sg y 160)))]]) 0 0 (inB [[mObj am q], [(am 1, .inl (E.2.1, 77, .inl (sg r 77)))], [(am 3, .inl (E.2.1, 77, .inl (sg x 77)))], [(am 9, .inl (E.2.1, 4, .inl (sg u 4)))], [(am 10, .inl (E.2.1, 160, .inl (sg y 160)))]]) := by
  refine M_mk RX5 (by decide) rfl (Nat.le_of_ble_eq_true rfl) ?_
  intro p e s m below meth c S hr hlk hK hP hD hS ls hl
  have hl : lv_has ls 6 [(0, .ref (am 0)), (1, .int (nI s9)), (2, .int (nI i))] := hl
  obtain ⟨H, hH⟩ : ∃ zz9, zz9 = s.heap := ⟨_, rfl⟩
  obtain ⟨locs, hlocs⟩ : ∃ zz9 : List Loc, zz9 = [] := ⟨_, rfl⟩
  have hP : PE E [[mObj am q], [(am 1, .inl (E.2.1, 77, .inl (sg r 77)))], [(am 3, .inl (E.2.1, 77, .inl (sg x 77)))], [(am 9, .inl (E.2.1, 4, .inl (sg u 4)))], [(am 10, .inl (E.2.1, 160, .inl (sg y 160)))]] H := by rw [hH]; exact hP
  have hS : va_S (inB [[mObj am q], [(am 1, .inl (E.2.1, 77, .inl (sg r 77)))], [(am 3, .inl (E.2.1, 77, .inl (sg x 77)))], [(am 9, .inl (E.2.1, 4, .inl (sg u 4)))], [(am 10, .inl (E.2.1, 160, .inl (sg y 160)))]]) s.heap H locs := by rw [hH, hlocs]; exact hS
  show W p l e ({ frames := 8, cells := 0, slots := 0, locals := 174 }) s m ([.ref (am 0), .int (nI s9), .int (nI i)] : List Value).toArray below meth c s.heap [] 0 0 _ _
  suffices hgo : W p l e ({ frames := 8, cells := 0, slots := 0, locals := 174 }) s m ([.ref (am 0), .int (nI s9), .int (nI i)] : List Value).toArray below meth c H locs 0 0 (MQ below (qV E [[mObj am q], [(am 1, .inl (E.2.1, 77, .inl (sg r 77)))], [(am 3, .inl (E.2.1, 77, .inl (sg x 77)))], [(am 9, .inl (E.2.1, 4, .inl (sg u 4)))], [(am 10, .inl (E.2.1, 160, .inl (sg y 160)))]] [[mObj am (griefQ q (fun v => okN y (40 * s9) (upd r (21 + 7 * i + 1) (nI v)) i (min len 10)))], [(am 1, .inl (E.2.1, 77, .inl (sg r 77)))], [(am 3, .inl (E.2.1, 77, .inl (sg (upd r (21 + 7 * i + 1) (nI 0)) 77)))], [(am 9, .inl (E.2.1, 4, .inl (sg u 4)))], [(am 10, .inl (E.2.1, 160, .inl (sg y 160)))]]) ([.ref (am 0), .int (nI s9), .int (nI i)] : List Value).toArray s 0 0 (inB [[mObj am q], [(am 1, .inl (E.2.1, 77, .inl (sg r 77)))], [(am 3, .inl (E.2.1, 77, .inl (sg x 77)))], [(am 9, .inl (E.2.1, 4, .inl (sg u 4)))], [(am 10, .inl (E.2.1, 160, .inl (sg y 160)))]])) (F0 m 0 ls []) by rw [hH, hlocs] at hgo; exact hgo
  clear hH hlocs
  refine lv_iload_n S.1 S.2.1 dX5_findGriefs_0 rfl (lv_at hl 2 rfl) ?_
  refine lv_iconst (v := 1) S.1 S.2.1 dX5_findGriefs_1 (by decide) ?_
  refine go_S (run_S (As := [.int (nI i), .int 1]) (rest := []) (n := 2) S hK (bl_P hP [] rfl) (bl_D hD [] rfl rfl) (c_X5_potterAt l E i 1 ) gS_X5_82 (by decide +kernel) rfl ⟨rfl, rfl⟩ ⟨Nat.le_of_ble_eq_true rfl, Nat.le_of_ble_eq_true rfl⟩ hl.1 (Nat.le_of_ble_eq_true rfl) dX5_findGriefs_2 ⟨Nat.zero_le _, Nat.zero_le _⟩) ?_
  refine lv_istore_n (lv' := [(3, .int (nI (21 + 7 * i + 1))), (0, .ref (am 0)), (1, .int (nI s9)), (2, .int (nI i))]) S.1 S.2.1 dX5_findGriefs_5 rfl hl (by decide) rfl (fun ls hl => ?_)
  refine lv_aload_n S.1 S.2.1 dX5_findGriefs_6 rfl (lv_at hl 1 rfl) ?_
  refine gf_X5_9 S hK hP 0 0 rfl rfl rfl dX5_findGriefs_7 ?_
  refine lv_iload_n S.1 S.2.1 dX5_findGriefs_10 rfl (lv_at hl 0 rfl) ?_
  refine b_ialdN (i := 21 + 7 * i + 1) S hK hP 1 0 rfl rfl (by omega) (by decide) dX5_findGriefs_11 ?_
  refine lv_eqi (y := r (21 + 7 * i + 1)) (sg_at (by omega)) ?_
  refine lv_istore (lv' := [(4, .int (r (21 + 7 * i + 1))), (3, .int (nI (21 + 7 * i + 1))), (0, .ref (am 0)), (1, .int (nI s9)), (2, .int (nI i))]) S.1 S.2.1 dX5_findGriefs_12 hl (by decide) rfl (fun ls hl => ?_)
  refine lv_aload_n S.1 S.2.1 dX5_findGriefs_14 rfl (lv_at hl 2 rfl) ?_
  refine lv_iconst (v := 0) S.1 S.2.1 dX5_findGriefs_15 (by decide) ?_
  refine pf_X5_200 S hK hP hD hS 0 0 rfl rfl (Nat.le_of_ble_eq_true rfl) mo_1 (Bs1 := [[mObj am (upd q 1 0)], [(am 1, .inl (E.2.1, 77, .inl (sg r 77)))], [(am 3, .inl (E.2.1, 77, .inl (sg x 77)))], [(am 9, .inl (E.2.1, 4, .inl (sg u 4)))], [(am 10, .inl (E.2.1, 160, .inl (sg y 160)))]]) rfl dX5_findGriefs_16 (fun H locs hP hD hS => ?_)
  obtain ⟨r_16, er_16⟩ : ∃ zz9, zz9 = upd q 1 0 := ⟨_, rfl⟩
  rw [← er_16] at hP hD
  have hr_16_1 : r_16 1 = 0 := by rw [er_16]; exact upd_at
  refine lv_aload_n S.1 S.2.1 dX5_findGriefs_19 rfl (lv_at hl 2 rfl) ?_
  refine lv_iconst (v := (-1)) S.1 S.2.1 dX5_findGriefs_20 (by decide) ?_
  refine pf_X5_204 S hK hP hD hS 0 0 rfl rfl (Nat.le_of_ble_eq_true rfl) mo_2 (Bs1 := [[mObj am (upd r_16 2 (-1))], [(am 1, .inl (E.2.1, 77, .inl (sg r 77)))], [(am 3, .inl (E.2.1, 77, .inl (sg x 77)))], [(am 9, .inl (E.2.1, 4, .inl (sg u 4)))], [(am 10, .inl (E.2.1, 160, .inl (sg y 160)))]]) rfl dX5_findGriefs_21 (fun H locs hP hD hS => ?_)
  obtain ⟨r_21, er_21⟩ : ∃ zz9, zz9 = upd r_16 2 (-1) := ⟨_, rfl⟩
  rw [← er_21] at hP hD
  have hr_21_1 : r_21 1 = 0 := by rw [er_21]; exact (upd_ne (by decide)).trans hr_16_1
  refine lv_bipush (v := 99) S.1 S.2.1 dX5_findGriefs_24 (by decide) ?_
  refine lv_istore (lv' := [(5, .int 99), (4, .int (r (21 + 7 * i + 1))), (3, .int (nI (21 + 7 * i + 1))), (0, .ref (am 0)), (1, .int (nI s9)), (2, .int (nI i))]) S.1 S.2.1 dX5_findGriefs_26 hl (by decide) rfl (fun ls hl => ?_)
  have L_28 : ∀ (fu : Nat) (t : Nat) (xi : Row) (ai : Row) (qi : Row), (t ≤ 100) → (t < fu) → (∀ j, j ≠ 21 + 7 * i + 1 → xi j = r j) → (t < 100 → ai = upd r (21 + 7 * i + 1) (nI t)) → (∀ j, j ≠ 1 → j ≠ 2 → qi j = q j) → (qi 1 = (gP (fun v => okN y (40 * s9) (upd r (21 + 7 * i + 1) (nI v)) i (min len 10)) (100 - t)).1) → (qi 2 = (gP (fun v => okN y (40 * s9) (upd r (21 + 7 * i + 1) (nI v)) i (min len 10)) (100 - t)).2) → ∀ (H : Heap) (locs : List Loc), PE E [[mObj am qi], [(am 1, .inl (E.2.1, 77, .inl (sg xi 77)))], [(am 3, .inl (E.2.1, 77, .inl (sg ai 77)))], [(am 9, .inl (E.2.1, 4, .inl (sg u 4)))], [(am 10, .inl (E.2.1, 160, .inl (sg y 160)))]] H → DE (inB [[mObj am q], [(am 1, .inl (E.2.1, 77, .inl (sg r 77)))], [(am 3, .inl (E.2.1, 77, .inl (sg x 77)))], [(am 9, .inl (E.2.1, 4, .inl (sg u 4)))], [(am 10, .inl (E.2.1, 160, .inl (sg y 160)))]]) [[mObj am qi], [(am 1, .inl (E.2.1, 77, .inl (sg xi 77)))], [(am 3, .inl (E.2.1, 77, .inl (sg ai 77)))], [(am 9, .inl (E.2.1, 4, .inl (sg u 4)))], [(am 10, .inl (E.2.1, 160, .inl (sg y 160)))]] → va_S (inB [[mObj am q], [(am 1, .inl (E.2.1, 77, .inl (sg r 77)))], [(am 3, .inl (E.2.1, 77, .inl (sg x 77)))], [(am 9, .inl (E.2.1, 4, .inl (sg u 4)))], [(am 10, .inl (E.2.1, 160, .inl (sg y 160)))]]) s.heap H locs → ∀ (ls : Array Slot), lv_has ls 6 [(0, .ref (am 0)), (1, .int (nI s9)), (2, .int (nI i)), (3, .int (nI (21 + 7 * i + 1))), (4, .int (r (21 + 7 * i + 1))), (5, .int (dI t))] → W p l e ({ frames := 8, cells := 0, slots := 0, locals := 174 }) s m ([.ref (am 0), .int (nI s9), .int (nI i)] : List Value).toArray below meth c H locs 0 0 (MQ below (qV E [[mObj am q], [(am 1, .inl (E.2.1, 77, .inl (sg r 77)))], [(am 3, .inl (E.2.1, 77, .inl (sg x 77)))], [(am 9, .inl (E.2.1, 4, .inl (sg u 4)))], [(am 10, .inl (E.2.1, 160, .inl (sg y 160)))]] [[mObj am (griefQ q (fun v => okN y (40 * s9) (upd r (21 + 7 * i + 1) (nI v)) i (min len 10)))], [(am 1, .inl (E.2.1, 77, .inl (sg r 77)))], [(am 3, .inl (E.2.1, 77, .inl (sg (upd r (21 + 7 * i + 1) (nI 0)) 77)))], [(am 9, .inl (E.2.1, 4, .inl (sg u 4)))], [(am 10, .inl (E.2.1, 160, .inl (sg y 160)))]]) ([.ref (am 0), .int (nI s9), .int (nI i)] : List Value).toArray s 0 0 (inB [[mObj am q], [(am 1, .inl (E.2.1, 77, .inl (sg r 77)))], [(am 3, .inl (E.2.1, 77, .inl (sg x 77)))], [(am 9, .inl (E.2.1, 4, .inl (sg u 4)))], [(am 10, .inl (E.2.1, 160, .inl (sg y 160)))]])) (F0 m 28 ls []) := by
    intro fu
    induction fu with
    | zero =>
      intro t xi ai qi ht hf hx ha hqo hq1 hq2
      omega
    | succ fu ih_28 =>
      intro t xi ai qi ht hf hx ha hqo hq1 hq2 H locs hP hD hS ls hl
      refine lv_iload S.1 S.2.1 dX5_findGriefs_28 (lv_at hl 5 rfl) ?_
      refine lv_if_lt (tgt := 72) S.1 S.2.1 dX5_findGriefs_30 (by decide) (fun c_30 => ?_) (fun c_30 => ?_)
      · have n_30 := Int32.not_le.mpr c_30
        have ht0 : t = 0 := dI_zero c_30
        refine lv_aload_n S.1 S.2.1 dX5_findGriefs_72 rfl (lv_at hl 0 rfl) ?_
        refine gf_X5_9 S hK hP 0 0 rfl rfl rfl dX5_findGriefs_73 ?_
        refine lv_iload_n S.1 S.2.1 dX5_findGriefs_76 rfl (lv_at hl 3 rfl) ?_
        refine lv_iload S.1 S.2.1 dX5_findGriefs_77 (lv_at hl 4 rfl) ?_
        refine b_iastN (i := 21 + 7 * i + 1) S hK hP hD hS 1 0 rfl rfl (by omega) (by decide) (sgs_upd (by omega)) (Bs1 := [[mObj am qi], [(am 1, .inl (E.2.1, 77, .inl (sg (upd xi (21 + 7 * i + 1) (r (21 + 7 * i + 1))) 77)))], [(am 3, .inl (E.2.1, 77, .inl (sg ai 77)))], [(am 9, .inl (E.2.1, 4, .inl (sg u 4)))], [(am 10, .inl (E.2.1, 160, .inl (sg y 160)))]]) rfl dX5_findGriefs_79 (fun H locs hP hD hS => ?_)
        obtain ⟨r_79, er_79⟩ : ∃ zz9, zz9 = upd xi (21 + 7 * i + 1) (r (21 + 7 * i + 1)) := ⟨_, rfl⟩
        rw [← er_79] at hP hD
        exact retV S hr hlk (by have e1 : r_79 = r := (by rw [er_79, upd_ext hx]; exact upd_self); rw [e1] at hP; have e3 := ha (by omega); rw [ht0] at e3; rw [e3] at hP; have e2 : griefQ q (fun v => okN y (40 * s9) (upd r (21 + 7 * i + 1) (nI v)) i (min len 10)) = qi := (griefQ_eq hqo (by rw [hq1, ht0]) (by rw [hq2, ht0])); show PE E _ _; rw [e2]; exact hP) hS dX5_findGriefs_80
      · have n_30 := Int32.not_lt.mp c_30
        obtain ⟨m9, hm9⟩ : ∃ m9, t = m9 + 1 := dI_pos c_30
        refine lv_aload_n S.1 S.2.1 dX5_findGriefs_33 rfl (lv_at hl 0 rfl) ?_
        refine gf_X5_9 S hK hP 0 0 rfl rfl rfl dX5_findGriefs_34 ?_
        refine lv_iload_n S.1 S.2.1 dX5_findGriefs_37 rfl (lv_at hl 3 rfl) ?_
        refine lv_iload S.1 S.2.1 dX5_findGriefs_38 (lv_at hl 5 rfl) ?_
        refine lv_eqi (y := nI m9) (dI_s hm9) ?_
        refine b_iastN (i := 21 + 7 * i + 1) S hK hP hD hS 1 0 rfl rfl (by omega) (by decide) (sgs_upd (by omega)) (Bs1 := [[mObj am qi], [(am 1, .inl (E.2.1, 77, .inl (sg (upd xi (21 + 7 * i + 1) (nI m9)) 77)))], [(am 3, .inl (E.2.1, 77, .inl (sg ai 77)))], [(am 9, .inl (E.2.1, 4, .inl (sg u 4)))], [(am 10, .inl (E.2.1, 160, .inl (sg y 160)))]]) rfl dX5_findGriefs_40 (fun H locs hP hD hS => ?_)
        obtain ⟨r_40, er_40⟩ : ∃ zz9, zz9 = upd xi (21 + 7 * i + 1) (nI m9) := ⟨_, rfl⟩
        rw [← er_40] at hP hD
        have e40 : r_40 = upd r (21 + 7 * i + 1) (nI m9) := by (rw [er_40]; exact upd_ext hx)
        have hR40 : RI r_40 := by (rw [e40]; exact RI_pf (f := 1) hR (by decide) ⟨m9, by (show m9 ≤ 99; omega), rfl⟩)
        refine lv_aload_n S.1 S.2.1 dX5_findGriefs_41 rfl (lv_at hl 0 rfl) ?_
        refine lv_iload_n S.1 S.2.1 dX5_findGriefs_42 rfl (lv_at hl 1 rfl) ?_
        refine lv_iload_n S.1 S.2.1 dX5_findGriefs_43 rfl (lv_at hl 2 rfl) ?_
        refine go_I (run_V (As := [.int (nI s9), .int (nI i)]) (rest := []) (n := 2) S hK (bl_P hP [0, 1, 2, 3, 4] rfl) (bl_D hD [0, 1, 2, 3, 4] rfl rfl) (c_X5_isColouredSo l E am qi r_40 ai u y s9 i len hR40 (by omega) (by omega) elen hlen) gV_X5_207 (by decide +kernel) rfl ⟨rfl, rfl⟩ ⟨Nat.le_of_ble_eq_true rfl, Nat.le_of_ble_eq_true rfl⟩ (ci := 5) (q0 := 0) rfl rfl hl.1 (Nat.le_of_ble_eq_true rfl) dX5_findGriefs_44 ⟨Nat.zero_le _, Nat.zero_le _⟩) hP hD hS [0, 1, 2, 3, 4] rfl (had_cons rfl (had_cons rfl (had_cons cell_ad (had_cons rfl (had_cons rfl rfl))))) (Bs' := [[mObj am qi], [(am 1, .inl (E.2.1, 77, .inl (sg r_40 77)))], [(am 3, .inl (E.2.1, 77, .inl (sg r_40 77)))], [(am 9, .inl (E.2.1, 4, .inl (sg u 4)))], [(am 10, .inl (E.2.1, 160, .inl (sg y 160)))]]) rfl (fun H locs hP hD hS => ?_)
        refine b_ifeq (tgt := 66) S.1 S.2.1 dX5_findGriefs_47 (by decide) (fun c_47 => ?_) (fun c_47 => ?_)
        · refine lv_iinc (v := dI m9) (lv' := [(5, .int (dI m9)), (0, .ref (am 0)), (1, .int (nI s9)), (2, .int (nI i)), (3, .int (nI (21 + 7 * i + 1))), (4, .int (r (21 + 7 * i + 1)))]) S.1 S.2.1 dX5_findGriefs_66 hl (k := 5) rfl (dI_step hm9) (by decide) rfl (fun ls hl => ?_)
          refine lv_goto (tgt := 28) S.1 S.2.1 dX5_findGriefs_69 (by decide) ?_
          exact ih_28 m9 r_40 r_40 qi (by omega) (by omega) (fun j hj => by rw [e40]; exact upd_ne hj) (fun _ => e40) hqo (by rw [gP_n hm9 (by omega) (by rw [← e40]; exact c_47)]; exact hq1) (by rw [gP_n hm9 (by omega) (by rw [← e40]; exact c_47)]; exact hq2) H locs hP hD hS ls (lv_sub hl [1, 2, 3, 4, 5, 0] rfl)
        · refine lv_aload_n S.1 S.2.1 dX5_findGriefs_50 rfl (lv_at hl 0 rfl) ?_
          refine lv_dup S.1 S.2.1 dX5_findGriefs_51 rfl ?_
          refine gf_X5_200 S hK hP 0 0 rfl rfl rfl dX5_findGriefs_52 ?_
          refine lv_iconst (v := 1) S.1 S.2.1 dX5_findGriefs_55 (by decide) ?_
          refine lv_iadd S.1 S.2.1 dX5_findGriefs_56 ?_
          refine pf_X5_200 S hK hP hD hS 0 0 rfl rfl (Nat.le_of_ble_eq_true rfl) mo_1 (Bs1 := [[mObj am (upd qi 1 ((qi 1) + 1))], [(am 1, .inl (E.2.1, 77, .inl (sg r_40 77)))], [(am 3, .inl (E.2.1, 77, .inl (sg r_40 77)))], [(am 9, .inl (E.2.1, 4, .inl (sg u 4)))], [(am 10, .inl (E.2.1, 160, .inl (sg y 160)))]]) rfl dX5_findGriefs_57 (fun H locs hP hD hS => ?_)
          obtain ⟨r_57, er_57⟩ : ∃ zz9, zz9 = upd qi 1 ((qi 1) + 1) := ⟨_, rfl⟩
          rw [← er_57] at hP hD
          refine lv_aload_n S.1 S.2.1 dX5_findGriefs_60 rfl (lv_at hl 0 rfl) ?_
          refine lv_iload S.1 S.2.1 dX5_findGriefs_61 (lv_at hl 5 rfl) ?_
          refine lv_eqi (y := nI m9) (dI_s hm9) ?_
          refine pf_X5_204 S hK hP hD hS 0 0 rfl rfl (Nat.le_of_ble_eq_true rfl) mo_2 (Bs1 := [[mObj am (upd r_57 2 (nI m9))], [(am 1, .inl (E.2.1, 77, .inl (sg r_40 77)))], [(am 3, .inl (E.2.1, 77, .inl (sg r_40 77)))], [(am 9, .inl (E.2.1, 4, .inl (sg u 4)))], [(am 10, .inl (E.2.1, 160, .inl (sg y 160)))]]) rfl dX5_findGriefs_63 (fun H locs hP hD hS => ?_)
          obtain ⟨r_63, er_63⟩ : ∃ zz9, zz9 = upd r_57 2 (nI m9) := ⟨_, rfl⟩
          rw [← er_63] at hP hD
          have hr_63_2 : r_63 2 = nI m9 := by rw [er_63]; exact upd_at
          refine lv_iinc (v := dI m9) (lv' := [(5, .int (dI m9)), (0, .ref (am 0)), (1, .int (nI s9)), (2, .int (nI i)), (3, .int (nI (21 + 7 * i + 1))), (4, .int (r (21 + 7 * i + 1)))]) S.1 S.2.1 dX5_findGriefs_66 hl (k := 5) rfl (dI_step hm9) (by decide) rfl (fun ls hl => ?_)
          refine lv_goto (tgt := 28) S.1 S.2.1 dX5_findGriefs_69 (by decide) ?_
          exact ih_28 m9 r_40 r_40 r_63 (by omega) (by omega) (fun j hj => by rw [e40]; exact upd_ne hj) (fun _ => e40) (fun j h1 h2 => by rw [er_63, upd_ne h2, er_57, upd_ne h1]; exact hqo j h1 h2) (by rw [gP_y hm9 (by omega) (by rw [← e40]; exact c_47), er_63, upd_ne (by decide), er_57, upd_at, hq1]) (by rw [gP_y hm9 (by omega) (by rw [← e40]; exact c_47), er_63, upd_at]) H locs hP hD hS ls (lv_sub hl [1, 2, 3, 4, 5, 0] rfl)
  exact L_28 101 100 r x r_21 (by omega) (by omega) (fun _ _ => rfl) (fun z9 => absurd z9 (by omega)) (fun j h1 h2 => by rw [er_21, upd_ne h2, er_16, upd_ne h1]) (by rw [er_21, upd_ne (by decide), er_16, upd_at]; rfl) (by rw [er_21, upd_at]; rfl) H locs hP hD hS ls (lv_sub hl [3, 4, 5, 2, 1, 0] rfl)
set_option maxHeartbeats 800000 in
set_option maxRecDepth 100000 in
theorem c_X5_fits (l : Launch) (E : EV) (am : Nat → Nat) (q r f x z u y : Row) (s9 pp : Int32) (hR : RI r) (hU : ∀ j, j < 4 → le9 (u j) 40) : Met l yX5_fits (wq yX5_fits cX5_fits 4 (some .int)) ({ frames := 9, cells := 0, slots := 0, locals := 199 }) (preB E [.ref (am 0), .int s9, .int pp] [[mObj am q], [(am 1, .inl (E.2.1, 77, .inl (sg r 77)))], [(am 4, .inl (E.2.1, 8, .inl (sg f 8)))], [(am 3, .inl (E.2.1, 77, .inl (sg x 77)))], [(am 8, .inl (E.2.1, 4, .inl (sg z 4)))], [(am 9, .inl (E.2.1, 4, .inl (sg u 4)))], [(am 10, .inl (E.2.1, 160, .inl (sg y 160)))]]) (qIx E [[mObj am q], [(am 1, .inl (E.2.1, 77, .inl (sg r 77)))], [(am 4, .inl (E.2.1, 8, .inl (sg f 8)))], [(am 3, .inl (E.2.1, 77, .inl (sg x 77)))], [(am 8, .inl (E.2.1, 4, .inl (sg z 4)))], [(am 9, .inl (E.2.1, 4, .inl (sg u 4)))], [(am 10, .inl (E.2.1, 160, .inl (sg y 160)))]] (fun u9 => [[mObj am (pick (rFits r y z u s9 pp) q (griefQ q (fun v => okN y (40 * tN s9) (upd r (21 + 7 * tN pp + 1) (nI v)) (tN pp) (min (tN (u (tN s9))) 10))))], [(am 1, .inl (E.2.1, 77, .inl (sg r 77)))], [(am 4, .inl (E.2.1, 8, .inl (sg (fndM f (rFits r y z u s9 pp)) 8)))], [(am 3, .inl (E.2.1, 77, .inl (sg u9 77)))], [(am 8, .inl (E.2.1, 4, .inl (sg z 4)))], [(am 9, .inl (E.2.1, 4, .inl (sg u 4)))], [(am 10, .inl (E.2.1, 160, .inl (sg y 160)))]]) (ansR (rFits r y z u s9 pp))) 0 0 (inB [[mObj am q], [(am 1, .inl (E.2.1, 77, .inl (sg r 77)))], [(am 4, .inl (E.2.1, 8, .inl (sg f 8)))], [(am 3, .inl (E.2.1, 77, .inl (sg x 77)))], [(am 8, .inl (E.2.1, 4, .inl (sg z 4)))], [(am 9, .inl (E.2.1, 4, .inl (sg u 4)))], [(am 10, .inl (E.2.1, 160, .inl (sg y 160)))]]) := by
  refine M_mk RX5 (by decide) rfl (Nat.le_of_ble_eq_true rfl) ?_
  intro p e s m below meth c S hr hlk hK hP hD hS ls hl
  have hl : lv_has ls 4 [(0, .ref (am 0)), (1, .int s9), (2, .int pp)] := hl
  obtain ⟨n, d, hn, hn8, hd, hd5, ho, hso, hli, hsp, hpt⟩ := id hR
  obtain ⟨H, hH⟩ : ∃ zz9, zz9 = s.heap := ⟨_, rfl⟩
  obtain ⟨locs, hlocs⟩ : ∃ zz9 : List Loc, zz9 = [] := ⟨_, rfl⟩
  have hP : PE E [[mObj am q], [(am 1, .inl (E.2.1, 77, .inl (sg r 77)))], [(am 4, .inl (E.2.1, 8, .inl (sg f 8)))], [(am 3, .inl (E.2.1, 77, .inl (sg x 77)))], [(am 8, .inl (E.2.1, 4, .inl (sg z 4)))], [(am 9, .inl (E.2.1, 4, .inl (sg u 4)))], [(am 10, .inl (E.2.1, 160, .inl (sg y 160)))]] H := by rw [hH]; exact hP
  have hS : va_S (inB [[mObj am q], [(am 1, .inl (E.2.1, 77, .inl (sg r 77)))], [(am 4, .inl (E.2.1, 8, .inl (sg f 8)))], [(am 3, .inl (E.2.1, 77, .inl (sg x 77)))], [(am 8, .inl (E.2.1, 4, .inl (sg z 4)))], [(am 9, .inl (E.2.1, 4, .inl (sg u 4)))], [(am 10, .inl (E.2.1, 160, .inl (sg y 160)))]]) s.heap H locs := by rw [hH, hlocs]; exact hS
  show W p l e ({ frames := 9, cells := 0, slots := 0, locals := 199 }) s m ([.ref (am 0), .int s9, .int pp] : List Value).toArray below meth c s.heap [] 0 0 _ _
  suffices hgo : W p l e ({ frames := 9, cells := 0, slots := 0, locals := 199 }) s m ([.ref (am 0), .int s9, .int pp] : List Value).toArray below meth c H locs 0 0 (MQ below (qIx E [[mObj am q], [(am 1, .inl (E.2.1, 77, .inl (sg r 77)))], [(am 4, .inl (E.2.1, 8, .inl (sg f 8)))], [(am 3, .inl (E.2.1, 77, .inl (sg x 77)))], [(am 8, .inl (E.2.1, 4, .inl (sg z 4)))], [(am 9, .inl (E.2.1, 4, .inl (sg u 4)))], [(am 10, .inl (E.2.1, 160, .inl (sg y 160)))]] (fun u9 => [[mObj am (pick (rFits r y z u s9 pp) q (griefQ q (fun v => okN y (40 * tN s9) (upd r (21 + 7 * tN pp + 1) (nI v)) (tN pp) (min (tN (u (tN s9))) 10))))], [(am 1, .inl (E.2.1, 77, .inl (sg r 77)))], [(am 4, .inl (E.2.1, 8, .inl (sg (fndM f (rFits r y z u s9 pp)) 8)))], [(am 3, .inl (E.2.1, 77, .inl (sg u9 77)))], [(am 8, .inl (E.2.1, 4, .inl (sg z 4)))], [(am 9, .inl (E.2.1, 4, .inl (sg u 4)))], [(am 10, .inl (E.2.1, 160, .inl (sg y 160)))]]) (ansR (rFits r y z u s9 pp))) ([.ref (am 0), .int s9, .int pp] : List Value).toArray s 0 0 (inB [[mObj am q], [(am 1, .inl (E.2.1, 77, .inl (sg r 77)))], [(am 4, .inl (E.2.1, 8, .inl (sg f 8)))], [(am 3, .inl (E.2.1, 77, .inl (sg x 77)))], [(am 8, .inl (E.2.1, 4, .inl (sg z 4)))], [(am 9, .inl (E.2.1, 4, .inl (sg u 4)))], [(am 10, .inl (E.2.1, 160, .inl (sg y 160)))]])) (F0 m 0 ls []) by rw [hH, hlocs] at hgo; exact hgo
  clear hH hlocs
  refine lv_aload_n S.1 S.2.1 dX5_fits_0 rfl (lv_at hl 0 rfl) ?_
  refine lv_iload_n S.1 S.2.1 dX5_fits_1 rfl (lv_at hl 1 rfl) ?_
  refine lv_aload_n S.1 S.2.1 dX5_fits_2 rfl (lv_at hl 0 rfl) ?_
  refine lv_iload_n S.1 S.2.1 dX5_fits_3 rfl (lv_at hl 2 rfl) ?_
  refine go_S (run_V (As := [.int pp]) (rest := [.int s9, .ref (am 0)]) (n := 1) S hK (bl_P hP [0, 1] rfl) (bl_D hD [0, 1] rfl rfl) (c_X5_isPotter l E am q r pp n hn hn8) gV_X5_122 (by decide +kernel) rfl ⟨rfl, rfl⟩ ⟨Nat.le_of_ble_eq_true rfl, Nat.le_of_ble_eq_true rfl⟩ (ci := 5) (q0 := 0) rfl rfl hl.1 (Nat.le_of_ble_eq_true rfl) dX5_fits_4 ⟨Nat.zero_le _, Nat.zero_le _⟩) ?_
  refine go_S (run_V (As := [.int s9, .int (bI (0 ≤ pp ∧ pp < r 1))]) (rest := []) (n := 2) S hK (bl_P hP [0, 4] rfl) (bl_D hD [0, 4] rfl rfl) (c_X5_lacks l E am q z s9 (0 ≤ pp ∧ pp < r 1)) gV_X5_210 (by decide +kernel) rfl ⟨rfl, rfl⟩ ⟨Nat.le_of_ble_eq_true rfl, Nat.le_of_ble_eq_true rfl⟩ (ci := 5) (q0 := 0) rfl rfl hl.1 (Nat.le_of_ble_eq_true rfl) dX5_fits_7 ⟨Nat.zero_le _, Nat.zero_le _⟩) ?_
  refine lv_istore_n (lv' := [(3, .int (lackV z s9 (0 ≤ pp ∧ pp < r 1))), (0, .ref (am 0)), (1, .int s9), (2, .int pp)]) S.1 S.2.1 dX5_fits_10 rfl hl (by decide) rfl (fun ls hl => ?_)
  refine lv_iload_n S.1 S.2.1 dX5_fits_11 rfl (lv_at hl 0 rfl) ?_
  refine lv_if_eq (tgt := 21) S.1 S.2.1 dX5_fits_12 (by decide) (fun c_12 => ?_) (fun c_12 => ?_)
  · have hc12 := c_12
    obtain ⟨k_s9, hk_s9, ek_s9, hz_s9, hG9⟩ := lack_ok c_12
    obtain ⟨len, hlen, elen⟩ := hU k_s9 (by omega)
    obtain ⟨k_pp, hk_pp, ek_pp⟩ := pot_nat hG9 hn (by omega)
    refine lv_aload_n S.1 S.2.1 dX5_fits_21 rfl (lv_at hl 1 rfl) ?_
    refine lv_iload_n S.1 S.2.1 dX5_fits_22 rfl (lv_at hl 2 rfl) ?_
    refine lv_eqi (y := nI k_s9) ek_s9 ?_
    refine lv_iload_n S.1 S.2.1 dX5_fits_23 rfl (lv_at hl 3 rfl) ?_
    refine lv_eqi (y := nI k_pp) ek_pp ?_
    refine go_V (run_V (As := [.int (nI k_s9), .int (nI k_pp)]) (rest := []) (n := 2) S hK (bl_P hP [0, 1, 3, 5, 6] rfl) (bl_D hD [0, 1, 3, 5, 6] rfl rfl) (c_X5_findGriefs l E am q r x u y k_s9 k_pp len hR (by omega) (by omega) elen hlen) gV_X5_214 (by decide +kernel) rfl ⟨rfl, rfl⟩ ⟨Nat.le_of_ble_eq_true rfl, Nat.le_of_ble_eq_true rfl⟩ (ci := 5) (q0 := 0) rfl rfl hl.1 (Nat.le_of_ble_eq_true rfl) dX5_fits_24 ⟨Nat.zero_le _, Nat.zero_le _⟩) hP hD hS [0, 1, 3, 5, 6] rfl (had_cons mo_ad (had_cons rfl (had_cons cell_ad (had_cons rfl (had_cons rfl rfl))))) (Bs' := [[mObj am (griefQ q (fun v => okN y (40 * k_s9) (upd r (21 + 7 * k_pp + 1) (nI v)) k_pp (min len 10)))], [(am 1, .inl (E.2.1, 77, .inl (sg r 77)))], [(am 4, .inl (E.2.1, 8, .inl (sg f 8)))], [(am 3, .inl (E.2.1, 77, .inl (sg (upd r (21 + 7 * k_pp + 1) (nI 0)) 77)))], [(am 8, .inl (E.2.1, 4, .inl (sg z 4)))], [(am 9, .inl (E.2.1, 4, .inl (sg u 4)))], [(am 10, .inl (E.2.1, 160, .inl (sg y 160)))]]) rfl (fun H locs hP hD hS => ?_)
    obtain ⟨r_24_0, er_24_0⟩ : ∃ zz9 : Row, zz9 = griefQ q (fun v => okN y (40 * k_s9) (upd r (21 + 7 * k_pp + 1) (nI v)) k_pp (min len 10)) := ⟨_, rfl⟩
    rw [← er_24_0] at hP hD
    obtain ⟨r_24_3, er_24_3⟩ : ∃ zz9 : Row, zz9 = upd r (21 + 7 * k_pp + 1) (nI 0) := ⟨_, rfl⟩
    rw [← er_24_3] at hP hD
    refine lv_aload_n S.1 S.2.1 dX5_fits_27 rfl (lv_at hl 1 rfl) ?_
    refine gf_X5_200 S hK hP 0 0 rfl rfl rfl dX5_fits_28 ?_
    exact retIx S hr hlk r_24_3 (by have e9 : rFits r y z u s9 pp = .inr (fun _ => 0, (gP (fun v => okN y (40 * k_s9) (upd r (21 + 7 * k_pp + 1) (nI v)) k_pp (min len 10)) 100).1) := (by unfold rFits; rw [if_pos hc12, ek_s9, ek_pp, tN_nI (k := k_s9) (by omega), tN_nI (k := k_pp) (by omega), elen, tN_nI (k := len) (by omega)]); rw [er_24_0] at hP; rw [e9, fndM_inr, pick_inr, ek_s9, ek_pp, tN_nI (k := k_s9) (by omega), tN_nI (k := k_pp) (by omega), elen, tN_nI (k := len) (by omega)]; exact hP) hS (by have e9 : rFits r y z u s9 pp = .inr (fun _ => 0, (gP (fun v => okN y (40 * k_s9) (upd r (21 + 7 * k_pp + 1) (nI v)) k_pp (min len 10)) 100).1) := (by unfold rFits; rw [if_pos hc12, ek_s9, ek_pp, tN_nI (k := k_s9) (by omega), tN_nI (k := k_pp) (by omega), elen, tN_nI (k := len) (by omega)]); rw [e9, ansR_inr, er_24_0]; exact griefQ_1) dX5_fits_31
  · refine lv_aload_n S.1 S.2.1 dX5_fits_15 rfl (lv_at hl 1 rfl) ?_
    refine lv_iload_n S.1 S.2.1 dX5_fits_16 rfl (lv_at hl 0 rfl) ?_
    refine go_I (run_V (As := [.int (lackV z s9 (0 ≤ pp ∧ pp < r 1))]) (rest := []) (n := 1) S hK (bl_P hP [0, 2] rfl) (bl_D hD [0, 2] rfl rfl) (c_X5_finding l E am q f (lackV z s9 (0 ≤ pp ∧ pp < r 1)) (lackK z s9 (0 ≤ pp ∧ pp < r 1)) (lack_hv c_12) lackK_lt) gV_X5_66 (by decide +kernel) rfl ⟨rfl, rfl⟩ ⟨Nat.le_of_ble_eq_true rfl, Nat.le_of_ble_eq_true rfl⟩ (ci := 5) (q0 := 0) rfl rfl hl.1 (Nat.le_of_ble_eq_true rfl) dX5_fits_17 ⟨Nat.zero_le _, Nat.zero_le _⟩) hP hD hS [0, 2] rfl (had_cons rfl (had_cons cell_ad rfl)) (Bs' := [[mObj am q], [(am 1, .inl (E.2.1, 77, .inl (sg r 77)))], [(am 4, .inl (E.2.1, 8, .inl (sg (findM f (lackK z s9 (0 ≤ pp ∧ pp < r 1))) 8)))], [(am 3, .inl (E.2.1, 77, .inl (sg x 77)))], [(am 8, .inl (E.2.1, 4, .inl (sg z 4)))], [(am 9, .inl (E.2.1, 4, .inl (sg u 4)))], [(am 10, .inl (E.2.1, 160, .inl (sg y 160)))]]) rfl (fun H locs hP hD hS => ?_)
    obtain ⟨r_17, er_17⟩ : ∃ zz9 : Row, zz9 = findM f (lackK z s9 (0 ≤ pp ∧ pp < r 1)) := ⟨_, rfl⟩
    rw [← er_17] at hP hD
    exact retIx S hr hlk x (by have e9 : rFits r y z u s9 pp = .inl (lackK z s9 (0 ≤ pp ∧ pp < r 1)) := if_neg c_12; rw [er_17] at hP; rw [e9, fndM_inl, pick_inl]; exact hP) hS (by have e9 : rFits r y z u s9 pp = .inl (lackK z s9 (0 ≤ pp ∧ pp < r 1)) := if_neg c_12; rw [e9]; exact lack_ans c_12) dX5_fits_20
