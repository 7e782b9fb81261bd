def gdN (r : Row) (q : Nat) : Nat → Nat
  | 0 => 0
  | i + 1 => if criesR r q + weathersR r q (nI i) < needsR r q then gdN r q i else gdN r q i + 1
theorem gdN_le (r : Row) (q : Nat) : ∀ i, gdN r q i ≤ i
  | 0 => Nat.le_refl _
  | i + 1 => by
    rw [gdN]
    have := gdN_le r q i
    split <;> omega
theorem gcd_step (a b : Nat) : Nat.gcd b (a % b) = Nat.gcd a b := by
  rw [Nat.gcd_comm a b, Nat.gcd_comm b (a % b), ← Nat.gcd_rec]
def powL (x : Int64) : Nat → Int64
  | 0 => 1
  | k + 1 => powL x k * x
abbrev ResL : Type := Nat ⊕ Int64
def fndL (f : Row) (x : ResL) : Row := match x with | .inl k => findM f k | .inr _ => f
def ansL (x : ResL) : Int64 := match x with | .inl k => (-1000001 - nI k).toInt64 | .inr v => v
theorem fndL_inl {f : Row} {k : Nat} : fndL f (.inl k) = findM f k := rfl
theorem fndL_inr {f : Row} {v : Int64} : fndL f (.inr v) = f := rfl
def oddsV (g n : Nat) (w : Int32) : Int64 := powL (if w = 0 then (nI (g / Nat.gcd 100 g)).toInt64 else (nI (100 / Nat.gcd 100 g)).toInt64) n
def rOdds (r : Row) (p n w : Int32) : ResL := if 0 ≤ p ∧ p < r 1 then (if 0 ≤ n ∧ n ≤ 9 then (if 0 ≤ w ∧ w ≤ 1 then .inr (powL (if w = 0 then (nI (gdN r (tN p) 100 / Nat.gcd 100 (gdN r (tN p) 100))).toInt64 else (nI (100 / Nat.gcd 100 (gdN r (tN p) 100))).toInt64) (tN n)) else .inl 0) else .inl 0) else .inl 0
theorem nI_dI {k : Nat} (h : k < 2147483648) : nI k - 1 = dI k := by
  cases k with
  | zero => decide
  | succ m => rw [dI_s rfl]; exact nI_pred m
def byteM (v : Int32) (m : Nat) : Int32 := v >>> (nI (8 * m) &&& 31) &&& 255
def fdN (tp : Row) (v : Int32) (len K : Nat) : Nat → Row
  | 0 => tp
  | j + 1 => upd (fdN tp v len K j) (len + j) (byteM v (K - 1 - j))
theorem fdN_s {tp : Row} {v : Int32} {len K t m : Nat} (hm : t = m + 1) (ht : t ≤ K) : upd (fdN tp v len K (K - t)) (len + (K - t)) (v >>> (nI (8 * m) &&& 31) &&& 255) = fdN tp v len K (K - m) := by
  rw [show K - m = (K - t) + 1 by omega, fdN, byteM, show K - 1 - (K - t) = m by omega]
theorem q3_eq {q qi : Row} {x : Int32} (ho : ∀ j, j ≠ 3 → qi j = q j) (h : qi 3 = x) : qi = upd q 3 x := funext fun j => by
  unfold upd
  by_cases a : j = 3
  · rw [if_pos a, a, h]
  · rw [if_neg a, ho j a]
def rFeed (len : Nat) (n : Int32) : Res := if 1 ≤ n ∧ n ≤ 4 then (if 120 < nI len + n then .inl 1 else .inr (fun _ => 0, nI len + n)) else .inl 0
set_option maxHeartbeats 800000 in
set_option maxRecDepth 100000 in
theorem c_X5_odds (l : Launch) (E : EV) (am : Nat → Nat) (q r f : Row) (pp n9 w : Int32) (hR : RI r) : Met l yX5_odds (wq yX5_odds cX5_odds 10 (some .long)) ({ frames := 3, cells := 0, slots := 0, locals := 69 }) (preB E [.ref (am 0), .int pp, .int n9, .int w] [[mObj am q], [(am 1, .inl (E.2.1, 77, .inl (sg r 77)))], [(am 4, .inl (E.2.1, 8, .inl (sg f 8)))]]) (qL E [[mObj am q], [(am 1, .inl (E.2.1, 77, .inl (sg r 77)))], [(am 4, .inl (E.2.1, 8, .inl (sg f 8)))]] [[mObj am q], [(am 1, .inl (E.2.1, 77, .inl (sg r 77)))], [(am 4, .inl (E.2.1, 8, .inl (sg (fndL f (rOdds r pp n9 w)) 8)))]] (ansL (rOdds r pp n9 w))) 0 0 (inB [[mObj am q], [(am 1, .inl (E.2.1, 77, .inl (sg r 77)))], [(am 4, .inl (E.2.1, 8, .inl (sg f 8)))]]) := by
  refine M_mk RX5 (by decide) rfl (Nat.le_of_ble_eq_true rfl) ?_
  intro p e s m below meth c S hr hlk hK hP hD hS ls hl
  have hl : lv_has ls 10 [(0, .ref (am 0)), (1, .int pp), (2, .int n9), (3, .int w)] := hl
  obtain ⟨n, d, hn, hn8, hd, hd5, ho, hso, hli, hsp, hpt⟩ := id hR
  obtain ⟨H, hH⟩ : ∃ zz9, zz9 = s.heap := ⟨_, rfl⟩
  obtain ⟨locs, hlocs⟩ : ∃ zz9 : List Loc, zz9 = [] := ⟨_, rfl⟩
  have hP : PE E [[mObj am q], [(am 1, .inl (E.2.1, 77, .inl (sg r 77)))], [(am 4, .inl (E.2.1, 8, .inl (sg f 8)))]] H := by rw [hH]; exact hP
  have hS : va_S (inB [[mObj am q], [(am 1, .inl (E.2.1, 77, .inl (sg r 77)))], [(am 4, .inl (E.2.1, 8, .inl (sg f 8)))]]) s.heap H locs := by rw [hH, hlocs]; exact hS
  show W p l e ({ frames := 3, cells := 0, slots := 0, locals := 69 }) s m ([.ref (am 0), .int pp, .int n9, .int w] : List Value).toArray below meth c s.heap [] 0 0 _ _
  suffices hgo : W p l e ({ frames := 3, cells := 0, slots := 0, locals := 69 }) s m ([.ref (am 0), .int pp, .int n9, .int w] : List Value).toArray below meth c H locs 0 0 (MQ below (qL E [[mObj am q], [(am 1, .inl (E.2.1, 77, .inl (sg r 77)))], [(am 4, .inl (E.2.1, 8, .inl (sg f 8)))]] [[mObj am q], [(am 1, .inl (E.2.1, 77, .inl (sg r 77)))], [(am 4, .inl (E.2.1, 8, .inl (sg (fndL f (rOdds r pp n9 w)) 8)))]] (ansL (rOdds r pp n9 w))) ([.ref (am 0), .int pp, .int n9, .int w] : List Value).toArray s 0 0 (inB [[mObj am q], [(am 1, .inl (E.2.1, 77, .inl (sg r 77)))], [(am 4, .inl (E.2.1, 8, .inl (sg f 8)))]])) (F0 m 0 ls []) by rw [hH, hlocs] at hgo; exact hgo
  clear hH hlocs
  refine lv_aload_n S.1 S.2.1 dX5_odds_0 rfl (lv_at hl 0 rfl) ?_
  refine lv_iload_n S.1 S.2.1 dX5_odds_1 rfl (lv_at hl 1 rfl) ?_
  refine go_S (run_V (As := [.int pp]) (rest := []) (n := 1) S hK (bl_P hP [0, 1] rfl) (bl_D hD [0, 1] rfl rfl) (c_X5_isPotter l E am q r pp n hn hn8) gV_X5_122 (by decide +kernel) rfl ⟨rfl, rfl⟩ ⟨Nat.le_of_ble_eq_true rfl, Nat.le_of_ble_eq_true rfl⟩ (ci := 5) (q0 := 0) rfl rfl hl.1 (Nat.le_of_ble_eq_true rfl) dX5_odds_2 ⟨Nat.zero_le _, Nat.zero_le _⟩) ?_
  refine b_ifeq (tgt := 27) S.1 S.2.1 dX5_odds_5 (by decide) (fun c_5 => ?_) (fun c_5 => ?_)
  · refine lv_aload_n S.1 S.2.1 dX5_odds_27 rfl (lv_at hl 0 rfl) ?_
    refine lv_ldc (v := (-1000001)) S.1 S.2.1 S.2.2.2.1 (S.2.2.2.2 _ (List.mem_cons_of_mem _ kk_X5_60)) dX5_odds_28 ?_
    refine go_I (run_V (As := [.int (-1000001)]) (rest := []) (n := 1) S hK (bl_P hP [0, 2] rfl) (bl_D hD [0, 2] rfl rfl) (c_X5_finding l E am q f (-1000001) 0 (by decide) (by decide)) gV_X5_66 (by decide +kernel) rfl ⟨rfl, rfl⟩ ⟨Nat.le_of_ble_eq_true rfl, Nat.le_of_ble_eq_true rfl⟩ (ci := 5) (q0 := 0) rfl rfl hl.1 (Nat.le_of_ble_eq_true rfl) dX5_odds_30 ⟨Nat.zero_le _, Nat.zero_le _⟩) hP hD hS [0, 2] rfl (had_cons rfl (had_cons cell_ad rfl)) (Bs' := [[mObj am q], [(am 1, .inl (E.2.1, 77, .inl (sg r 77)))], [(am 4, .inl (E.2.1, 8, .inl (sg (findM f 0) 8)))]]) rfl (fun H locs hP hD hS => ?_)
    obtain ⟨r_30, er_30⟩ : ∃ zz9 : Row, zz9 = findM f 0 := ⟨_, rfl⟩
    rw [← er_30] at hP hD
    refine lv_i2l S.1 S.2.1 dX5_odds_33 rfl ?_
    exact retL S hr hlk (by have e9 : rOdds r pp n9 w = .inl 0 := (by unfold rOdds; rw [if_neg c_5]); rw [er_30] at hP; rw [e9, fndL_inl]; exact hP) hS (by have e9 : rOdds r pp n9 w = .inl 0 := (by unfold rOdds; rw [if_neg c_5]); rw [e9]; rfl) dX5_odds_34
  · obtain ⟨k_pp, hk_pp, ek_pp⟩ := pot_nat c_5 hn (by omega)
    refine lv_iload_n S.1 S.2.1 dX5_odds_8 rfl (lv_at hl 2 rfl) ?_
    refine lv_iconst (v := 0) S.1 S.2.1 dX5_odds_9 (by decide) ?_
    refine lv_bipush (v := 9) S.1 S.2.1 dX5_odds_10 (by decide) ?_
    refine go_S (run_S (As := [.int n9, .int 0, .int 9]) (rest := []) (n := 3) S hK (bl_P hP [] rfl) (bl_D hD [] rfl rfl) (c_X5_within l E n9 0 9 ) gS_X5_70 (by decide +kernel) rfl ⟨rfl, rfl⟩ ⟨Nat.le_of_ble_eq_true rfl, Nat.le_of_ble_eq_true rfl⟩ hl.1 (Nat.le_of_ble_eq_true rfl) dX5_odds_12 ⟨Nat.zero_le _, Nat.zero_le _⟩) ?_
    refine b_ifeq (tgt := 27) S.1 S.2.1 dX5_odds_15 (by decide) (fun c_15 => ?_) (fun c_15 => ?_)
    · refine lv_aload_n S.1 S.2.1 dX5_odds_27 rfl (lv_at hl 0 rfl) ?_
      refine lv_ldc (v := (-1000001)) S.1 S.2.1 S.2.2.2.1 (S.2.2.2.2 _ (List.mem_cons_of_mem _ kk_X5_60)) dX5_odds_28 ?_
      refine go_I (run_V (As := [.int (-1000001)]) (rest := []) (n := 1) S hK (bl_P hP [0, 2] rfl) (bl_D hD [0, 2] rfl rfl) (c_X5_finding l E am q f (-1000001) 0 (by decide) (by decide)) gV_X5_66 (by decide +kernel) rfl ⟨rfl, rfl⟩ ⟨Nat.le_of_ble_eq_true rfl, Nat.le_of_ble_eq_true rfl⟩ (ci := 5) (q0 := 0) rfl rfl hl.1 (Nat.le_of_ble_eq_true rfl) dX5_odds_30 ⟨Nat.zero_le _, Nat.zero_le _⟩) hP hD hS [0, 2] rfl (had_cons rfl (had_cons cell_ad rfl)) (Bs' := [[mObj am q], [(am 1, .inl (E.2.1, 77, .inl (sg r 77)))], [(am 4, .inl (E.2.1, 8, .inl (sg (findM f 0) 8)))]]) rfl (fun H locs hP hD hS => ?_)
      obtain ⟨r_30_1, er_30_1⟩ : ∃ zz9 : Row, zz9 = findM f 0 := ⟨_, rfl⟩
      rw [← er_30_1] at hP hD
      refine lv_i2l S.1 S.2.1 dX5_odds_33 rfl ?_
      exact retL S hr hlk (by have e9 : rOdds r pp n9 w = .inl 0 := (by unfold rOdds; rw [if_pos c_5, if_neg c_15]); rw [er_30_1] at hP; rw [e9, fndL_inl]; exact hP) hS (by have e9 : rOdds r pp n9 w = .inl 0 := (by unfold rOdds; rw [if_pos c_5, if_neg c_15]); rw [e9]; rfl) dX5_odds_34
    · obtain ⟨k_n9, hk_n9, ek_n9⟩ := nI_of2 (n := 9) (by decide) (Int32.not_lt.mpr c_15.1) c_15.2
      refine lv_iload_n S.1 S.2.1 dX5_odds_18 rfl (lv_at hl 3 rfl) ?_
      refine lv_iconst (v := 0) S.1 S.2.1 dX5_odds_19 (by decide) ?_
      refine lv_iconst (v := 1) S.1 S.2.1 dX5_odds_20 (by decide) ?_
      refine go_S (run_S (As := [.int w, .int 0, .int 1]) (rest := []) (n := 3) S hK (bl_P hP [] rfl) (bl_D hD [] rfl rfl) (c_X5_within l E w 0 1 ) gS_X5_70 (by decide +kernel) rfl ⟨rfl, rfl⟩ ⟨Nat.le_of_ble_eq_true rfl, Nat.le_of_ble_eq_true rfl⟩ hl.1 (Nat.le_of_ble_eq_true rfl) dX5_odds_21 ⟨Nat.zero_le _, Nat.zero_le _⟩) ?_
      refine b_ifne (tgt := 35) S.1 S.2.1 dX5_odds_24 (by decide) (fun c_24 => ?_) (fun c_24 => ?_)
      · obtain ⟨k_w, hk_w, ek_w⟩ := nI_of2 (n := 1) (by decide) (Int32.not_lt.mpr c_24.1) c_24.2
        refine lv_iconst (v := 0) S.1 S.2.1 dX5_odds_35 (by decide) ?_
        refine lv_istore (lv' := [(4, .int 0), (0, .ref (am 0)), (1, .int pp), (2, .int n9), (3, .int w)]) S.1 S.2.1 dX5_odds_36 hl (by decide) rfl (fun ls hl => ?_)
        refine lv_iconst (v := 0) S.1 S.2.1 dX5_odds_38 (by decide) ?_
        refine lv_istore (lv' := [(5, .int 0), (4, .int 0), (0, .ref (am 0)), (1, .int pp), (2, .int n9), (3, .int w)]) S.1 S.2.1 dX5_odds_39 hl (by decide) rfl (fun ls hl => ?_)
        have L_41 : ∀ (fu : Nat) (i : Nat) (g : Nat), (i ≤ 100) → (100 < i + fu) → (g = gdN r k_pp i) → ∀ (H : Heap) (locs : List Loc), PE E [[mObj am q], [(am 1, .inl (E.2.1, 77, .inl (sg r 77)))], [(am 4, .inl (E.2.1, 8, .inl (sg f 8)))]] H → DE (inB [[mObj am q], [(am 1, .inl (E.2.1, 77, .inl (sg r 77)))], [(am 4, .inl (E.2.1, 8, .inl (sg f 8)))]]) [[mObj am q], [(am 1, .inl (E.2.1, 77, .inl (sg r 77)))], [(am 4, .inl (E.2.1, 8, .inl (sg f 8)))]] → va_S (inB [[mObj am q], [(am 1, .inl (E.2.1, 77, .inl (sg r 77)))], [(am 4, .inl (E.2.1, 8, .inl (sg f 8)))]]) s.heap H locs → ∀ (ls : Array Slot), lv_has ls 10 [(0, .ref (am 0)), (1, .int pp), (2, .int n9), (3, .int w), (4, .int (nI g)), (5, .int (nI i))] → W p l e ({ frames := 3, cells := 0, slots := 0, locals := 69 }) s m ([.ref (am 0), .int pp, .int n9, .int w] : List Value).toArray below meth c H locs 0 0 (MQ below (qL E [[mObj am q], [(am 1, .inl (E.2.1, 77, .inl (sg r 77)))], [(am 4, .inl (E.2.1, 8, .inl (sg f 8)))]] [[mObj am q], [(am 1, .inl (E.2.1, 77, .inl (sg r 77)))], [(am 4, .inl (E.2.1, 8, .inl (sg (fndL f (rOdds r pp n9 w)) 8)))]] (ansL (rOdds r pp n9 w))) ([.ref (am 0), .int pp, .int n9, .int w] : List Value).toArray s 0 0 (inB [[mObj am q], [(am 1, .inl (E.2.1, 77, .inl (sg r 77)))], [(am 4, .inl (E.2.1, 8, .inl (sg f 8)))]])) (F0 m 41 ls []) := by
          intro fu
          induction fu with
          | zero =>
            intro i g hi hf hg
            omega
          | succ fu ih_41 =>
            intro i g hi hf hg H locs hP hD hS ls hl
            refine lv_iload S.1 S.2.1 dX5_odds_41 (lv_at hl 5 rfl) ?_
            refine lv_bipush (v := 99) S.1 S.2.1 dX5_odds_43 (by decide) ?_
            refine lv_icmp_gt (tgt := 85) S.1 S.2.1 dX5_odds_45 (by decide) (fun c_45 => ?_) (fun c_45 => ?_)
            · have n_45 := Int32.not_le.mpr c_45
              have hi9 : i = 100 := by (have z9 : 99 < i := lt_of_nI (a := 99) c_45 (by omega) (by omega); omega)
              have hg100 : g ≤ 100 := by (rw [hg]; exact Nat.le_trans (gdN_le r k_pp i) hi)
              refine lv_bipush (v := 100) S.1 S.2.1 dX5_odds_85 (by decide) ?_
              refine lv_istore (lv' := [(5, .int 100), (0, .ref (am 0)), (1, .int pp), (2, .int n9), (3, .int w), (4, .int (nI g))]) S.1 S.2.1 dX5_odds_87 hl (by decide) rfl (fun ls hl => ?_)
              refine lv_iload S.1 S.2.1 dX5_odds_89 (lv_at hl 5 rfl) ?_
              refine lv_istore (lv' := [(6, .int (nI g)), (5, .int 100), (0, .ref (am 0)), (1, .int pp), (2, .int n9), (3, .int w), (4, .int (nI g))]) S.1 S.2.1 dX5_odds_91 hl (by decide) rfl (fun ls hl => ?_)
              have L_93 : ∀ (fu : Nat) (a : Nat) (b : Nat), (b < fu) → (a ≤ 100) → (b ≤ 100) → (Nat.gcd a b = Nat.gcd 100 g) → ∀ (H : Heap) (locs : List Loc), PE E [[mObj am q], [(am 1, .inl (E.2.1, 77, .inl (sg r 77)))], [(am 4, .inl (E.2.1, 8, .inl (sg f 8)))]] H → DE (inB [[mObj am q], [(am 1, .inl (E.2.1, 77, .inl (sg r 77)))], [(am 4, .inl (E.2.1, 8, .inl (sg f 8)))]]) [[mObj am q], [(am 1, .inl (E.2.1, 77, .inl (sg r 77)))], [(am 4, .inl (E.2.1, 8, .inl (sg f 8)))]] → va_S (inB [[mObj am q], [(am 1, .inl (E.2.1, 77, .inl (sg r 77)))], [(am 4, .inl (E.2.1, 8, .inl (sg f 8)))]]) s.heap H locs → ∀ (ls : Array Slot), lv_has ls 10 [(0, .ref (am 0)), (1, .int pp), (2, .int n9), (3, .int w), (4, .int (nI g)), (5, .int (nI a)), (6, .int (nI b))] → W p l e ({ frames := 3, cells := 0, slots := 0, locals := 69 }) s m ([.ref (am 0), .int pp, .int n9, .int w] : List Value).toArray below meth c H locs 0 0 (MQ below (qL E [[mObj am q], [(am 1, .inl (E.2.1, 77, .inl (sg r 77)))], [(am 4, .inl (E.2.1, 8, .inl (sg f 8)))]] [[mObj am q], [(am 1, .inl (E.2.1, 77, .inl (sg r 77)))], [(am 4, .inl (E.2.1, 8, .inl (sg (fndL f (rOdds r pp n9 w)) 8)))]] (ansL (rOdds r pp n9 w))) ([.ref (am 0), .int pp, .int n9, .int w] : List Value).toArray s 0 0 (inB [[mObj am q], [(am 1, .inl (E.2.1, 77, .inl (sg r 77)))], [(am 4, .inl (E.2.1, 8, .inl (sg f 8)))]])) (F0 m 93 ls []) := by
                intro fu
                induction fu with
                | zero =>
                  intro a b hf ha hb hgc
                  omega
                | succ fu ih_93 =>
                  intro a b hf ha hb hgc H locs hP hD hS ls hl
                  refine lv_iload S.1 S.2.1 dX5_odds_93 (lv_at hl 6 rfl) ?_
                  refine lv_if_eq (tgt := 116) S.1 S.2.1 dX5_odds_95 (by decide) (fun c_95 => ?_) (fun c_95 => ?_)
                  · have hb0 : b = 0 := (nI_eq (b := 0) (by omega) (by decide)).mp c_95
                    have ha9 : a = Nat.gcd 100 g := by (rw [← hgc, hb0, Nat.gcd_zero_right])
                    have ha0 : 0 < a := by (rw [ha9]; exact Nat.gcd_pos_of_pos_left _ (by decide))
                    refine lv_lconst (v := 1) S.1 S.2.1 dX5_odds_116 rfl ?_
                    refine lv_lstore (lv' := [(7, .long 1), (0, .ref (am 0)), (1, .int pp), (2, .int n9), (3, .int w), (4, .int (nI g)), (5, .int (nI a)), (6, .int (nI b))]) S.1 S.2.1 dX5_odds_117 hl (by decide) rfl (fun ls hl => ?_)
                    refine lv_iconst (v := 0) S.1 S.2.1 dX5_odds_119 (by decide) ?_
                    refine lv_istore (lv' := [(9, .int 0), (7, .long 1), (0, .ref (am 0)), (1, .int pp), (2, .int n9), (3, .int w), (4, .int (nI g)), (5, .int (nI a)), (6, .int (nI b))]) S.1 S.2.1 dX5_odds_120 hl (by decide) rfl (fun ls hl => ?_)
                    obtain ⟨x9, hx⟩ : ∃ zz9 : Int64, zz9 = (if nI k_w = 0 then (nI (g / a)).toInt64 else (nI (100 / a)).toInt64) := ⟨_, rfl⟩
                    have L_122 : ∀ (fu : Nat) (i2 : Nat) (v : Int64), (i2 ≤ k_n9) → (k_n9 < i2 + fu) → (v = powL x9 i2) → ∀ (H : Heap) (locs : List Loc), PE E [[mObj am q], [(am 1, .inl (E.2.1, 77, .inl (sg r 77)))], [(am 4, .inl (E.2.1, 8, .inl (sg f 8)))]] H → DE (inB [[mObj am q], [(am 1, .inl (E.2.1, 77, .inl (sg r 77)))], [(am 4, .inl (E.2.1, 8, .inl (sg f 8)))]]) [[mObj am q], [(am 1, .inl (E.2.1, 77, .inl (sg r 77)))], [(am 4, .inl (E.2.1, 8, .inl (sg f 8)))]] → va_S (inB [[mObj am q], [(am 1, .inl (E.2.1, 77, .inl (sg r 77)))], [(am 4, .inl (E.2.1, 8, .inl (sg f 8)))]]) s.heap H locs → ∀ (ls : Array Slot), lv_has ls 10 [(0, .ref (am 0)), (1, .int pp), (2, .int n9), (3, .int w), (4, .int (nI g)), (5, .int (nI a)), (7, .long v), (9, .int (nI i2))] → W p l e ({ frames := 3, cells := 0, slots := 0, locals := 69 }) s m ([.ref (am 0), .int pp, .int n9, .int w] : List Value).toArray below meth c H locs 0 0 (MQ below (qL E [[mObj am q], [(am 1, .inl (E.2.1, 77, .inl (sg r 77)))], [(am 4, .inl (E.2.1, 8, .inl (sg f 8)))]] [[mObj am q], [(am 1, .inl (E.2.1, 77, .inl (sg r 77)))], [(am 4, .inl (E.2.1, 8, .inl (sg (fndL f (rOdds r pp n9 w)) 8)))]] (ansL (rOdds r pp n9 w))) ([.ref (am 0), .int pp, .int n9, .int w] : List Value).toArray s 0 0 (inB [[mObj am q], [(am 1, .inl (E.2.1, 77, .inl (sg r 77)))], [(am 4, .inl (E.2.1, 8, .inl (sg f 8)))]])) (F0 m 122 ls []) := by
                      intro fu
                      induction fu with
                      | zero =>
                        intro i2 v hi2 hf2 hv
                        omega
                      | succ fu ih_122 =>
                        intro i2 v hi2 hf2 hv H locs hP hD hS ls hl
                        refine lv_iload S.1 S.2.1 dX5_odds_122 (lv_at hl 7 rfl) ?_
                        refine lv_iload_n S.1 S.2.1 dX5_odds_124 rfl (lv_at hl 2 rfl) ?_
                        refine lv_eqi (y := nI k_n9) ek_n9 ?_
                        refine lv_icmp_ge (tgt := 154) S.1 S.2.1 dX5_odds_125 (by decide) (fun c_125 => ?_) (fun c_125 => ?_)
                        · have n_125 := Int32.not_lt.mpr c_125
                          refine lv_lload S.1 S.2.1 dX5_odds_154 (lv_at hl 6 rfl) ?_
                          exact retL S hr hlk (by have e9 : rOdds r pp n9 w = .inr v := (by unfold rOdds; rw [if_pos c_5, if_pos c_15, if_pos c_24, ek_n9, ek_pp, ek_w, tN_nI (k := k_n9) (by omega), tN_nI (k := k_pp) (by omega), hv, show k_n9 = i2 by (have z9 := le_endK hi2 c_125 (by omega); omega), hx, ha9, show g = gdN r k_pp 100 by rw [hg, hi9]]); rw [e9, fndL_inr]; exact hP) hS (by have e9 : rOdds r pp n9 w = .inr v := (by unfold rOdds; rw [if_pos c_5, if_pos c_15, if_pos c_24, ek_n9, ek_pp, ek_w, tN_nI (k := k_n9) (by omega), tN_nI (k := k_pp) (by omega), hv, show k_n9 = i2 by (have z9 := le_endK hi2 c_125 (by omega); omega), hx, ha9, show g = gdN r k_pp 100 by rw [hg, hi9]]); rw [e9]; rfl) dX5_odds_156
                        · have n_125 := Int32.not_le.mp c_125
                          have hi4 : i2 < k_n9 := lt_in c_125 hi2
                          refine lv_lload S.1 S.2.1 dX5_odds_128 (lv_at hl 6 rfl) ?_
                          refine lv_iload_n S.1 S.2.1 dX5_odds_130 rfl (lv_at hl 3 rfl) ?_
                          refine lv_eqi (y := nI k_w) ek_w ?_
                          refine lv_if_ne (tgt := 139) S.1 S.2.1 dX5_odds_131 (by decide) (fun c_131 => ?_) (fun c_131 => ?_)
                          · refine lv_bipush (v := 100) S.1 S.2.1 dX5_odds_139 (by decide) ?_
                            refine lv_iload S.1 S.2.1 dX5_odds_141 (lv_at hl 5 rfl) ?_
                            refine lv_idiv S.1 S.2.1 dX5_odds_143 (nI_ne0 ha0 (by omega)) ?_
                            refine lv_eqi (y := nI (100 / a)) (pk_div (a := 100) (d := a) (by omega) (by omega) (by omega)) ?_
                            refine lv_i2l S.1 S.2.1 dX5_odds_144 rfl ?_
                            refine lv_lmul S.1 S.2.1 dX5_odds_145 ?_
                            refine lv_lstore (lv' := [(7, .long (v * ((nI (100 / a)).toInt64))), (0, .ref (am 0)), (1, .int pp), (2, .int n9), (3, .int w), (4, .int (nI g)), (5, .int (nI a)), (9, .int (nI i2))]) S.1 S.2.1 dX5_odds_146 hl (by decide) rfl (fun ls hl => ?_)
                            refine lv_iinc (v := nI (i2 + 1)) (lv' := [(9, .int (nI (i2 + 1))), (7, .long (v * ((nI (100 / a)).toInt64))), (0, .ref (am 0)), (1, .int pp), (2, .int n9), (3, .int w), (4, .int (nI g)), (5, .int (nI a))]) S.1 S.2.1 dX5_odds_148 hl (k := 7) rfl (nI_1 i2) (by decide) rfl (fun ls hl => ?_)
                            refine lv_goto (tgt := 122) S.1 S.2.1 dX5_odds_151 (by decide) ?_
                            exact ih_122 (i2 + 1) (v * ((nI (100 / a)).toInt64)) (by omega) (by omega) (by rw [hv, powL, hx, if_neg c_131]) H locs hP hD hS ls (lv_sub hl [2, 3, 4, 5, 6, 7, 1, 0] rfl)
                          · refine lv_iload S.1 S.2.1 dX5_odds_134 (lv_at hl 4 rfl) ?_
                            refine lv_goto (tgt := 141) S.1 S.2.1 dX5_odds_136 (by decide) ?_
                            refine lv_iload S.1 S.2.1 dX5_odds_141 (lv_at hl 5 rfl) ?_
                            refine lv_idiv S.1 S.2.1 dX5_odds_143 (nI_ne0 ha0 (by omega)) ?_
                            refine lv_eqi (y := nI (g / a)) (pk_div (a := g) (d := a) (by omega) (by omega) (by omega)) ?_
                            refine lv_i2l S.1 S.2.1 dX5_odds_144 rfl ?_
                            refine lv_lmul S.1 S.2.1 dX5_odds_145 ?_
                            refine lv_lstore (lv' := [(7, .long (v * ((nI (g / a)).toInt64))), (0, .ref (am 0)), (1, .int pp), (2, .int n9), (3, .int w), (4, .int (nI g)), (5, .int (nI a)), (9, .int (nI i2))]) S.1 S.2.1 dX5_odds_146 hl (by decide) rfl (fun ls hl => ?_)
                            refine lv_iinc (v := nI (i2 + 1)) (lv' := [(9, .int (nI (i2 + 1))), (7, .long (v * ((nI (g / a)).toInt64))), (0, .ref (am 0)), (1, .int pp), (2, .int n9), (3, .int w), (4, .int (nI g)), (5, .int (nI a))]) S.1 S.2.1 dX5_odds_148 hl (k := 7) rfl (nI_1 i2) (by decide) rfl (fun ls hl => ?_)
                            refine lv_goto (tgt := 122) S.1 S.2.1 dX5_odds_151 (by decide) ?_
                            exact ih_122 (i2 + 1) (v * ((nI (g / a)).toInt64)) (by omega) (by omega) (by rw [hv, powL, hx, if_pos c_131]) H locs hP hD hS ls (lv_sub hl [2, 3, 4, 5, 6, 7, 1, 0] rfl)
                    exact L_122 (k_n9 + 1) 0 1 (by omega) (by omega) rfl H locs hP hD hS ls (lv_sub hl [2, 3, 4, 5, 6, 7, 1, 0] rfl)
                  · have hb0 : 0 < b := Nat.pos_of_ne_zero (fun z9 => c_95 (by rw [z9]; rfl))
                    refine lv_iload S.1 S.2.1 dX5_odds_98 (lv_at hl 5 rfl) ?_
                    refine lv_iload S.1 S.2.1 dX5_odds_100 (lv_at hl 6 rfl) ?_
                    refine lv_irem S.1 S.2.1 dX5_odds_102 c_95 ?_
                    refine lv_eqi (y := nI (a % b)) (pk_rem (a := a) (d := b) (by omega) (by omega) (by omega)) ?_
                    refine lv_istore (lv' := [(7, .int (nI (a % b))), (0, .ref (am 0)), (1, .int pp), (2, .int n9), (3, .int w), (4, .int (nI g)), (5, .int (nI a)), (6, .int (nI b))]) S.1 S.2.1 dX5_odds_103 hl (by decide) rfl (fun ls hl => ?_)
                    refine lv_iload S.1 S.2.1 dX5_odds_105 (lv_at hl 7 rfl) ?_
                    refine lv_istore (lv' := [(5, .int (nI b)), (7, .int (nI (a % b))), (0, .ref (am 0)), (1, .int pp), (2, .int n9), (3, .int w), (4, .int (nI g)), (6, .int (nI b))]) S.1 S.2.1 dX5_odds_107 hl (by decide) rfl (fun ls hl => ?_)
                    refine lv_iload S.1 S.2.1 dX5_odds_109 (lv_at hl 1 rfl) ?_
                    refine lv_istore (lv' := [(6, .int (nI (a % b))), (5, .int (nI b)), (7, .int (nI (a % b))), (0, .ref (am 0)), (1, .int pp), (2, .int n9), (3, .int w), (4, .int (nI g))]) S.1 S.2.1 dX5_odds_111 hl (by decide) rfl (fun ls hl => ?_)
                    refine lv_goto (tgt := 93) S.1 S.2.1 dX5_odds_113 (by decide) ?_
                    exact ih_93 b (a % b) (Nat.lt_of_lt_of_le (Nat.mod_lt _ hb0) (by omega)) hb (Nat.le_trans (Nat.le_of_lt (Nat.mod_lt _ hb0)) hb) (by rw [← hgc]; exact gcd_step a b) H locs hP hD hS ls (lv_sub hl [3, 4, 5, 6, 7, 1, 0] rfl)
              exact L_93 101 100 g (by omega) (by omega) (by omega) rfl H locs hP hD hS ls (lv_sub hl [2, 3, 4, 5, 6, 1, 0] rfl)
            · have n_45 := Int32.not_lt.mp c_45
              have hi3 : i ≤ 99 := Nat.le_of_not_lt (fun z9 => c_45 (show nI 99 < nI i from nI_lt z9 (by omega)))
              refine lv_iload S.1 S.2.1 dX5_odds_48 (lv_at hl 4 rfl) ?_
              refine lv_aload_n S.1 S.2.1 dX5_odds_50 rfl (lv_at hl 0 rfl) ?_
              refine lv_iload_n S.1 S.2.1 dX5_odds_51 rfl (lv_at hl 1 rfl) ?_
              refine lv_eqi (y := nI k_pp) ek_pp ?_
              refine go_S (run_V (As := [.int (nI k_pp)]) (rest := [.int (nI g)]) (n := 1) S hK (bl_P hP [0, 1] rfl) (bl_D hD [0, 1] rfl rfl) (c_X5_cries l E am q r k_pp (by omega)) gV_X5_100 (by decide +kernel) rfl ⟨rfl, rfl⟩ ⟨Nat.le_of_ble_eq_true rfl, Nat.le_of_ble_eq_true rfl⟩ (ci := 5) (q0 := 0) rfl rfl hl.1 (Nat.le_of_ble_eq_true rfl) dX5_odds_52 ⟨Nat.zero_le _, Nat.zero_le _⟩) ?_
              refine lv_aload_n S.1 S.2.1 dX5_odds_55 rfl (lv_at hl 0 rfl) ?_
              refine lv_iload_n S.1 S.2.1 dX5_odds_56 rfl (lv_at hl 1 rfl) ?_
              refine lv_eqi (y := nI k_pp) ek_pp ?_
              refine lv_iload S.1 S.2.1 dX5_odds_57 (lv_at hl 5 rfl) ?_
              refine go_S (run_V (As := [.int (nI k_pp), .int (nI i)]) (rest := [.int (criesR r k_pp), .int (nI g)]) (n := 2) S hK (bl_P hP [0, 1] rfl) (bl_D hD [0, 1] rfl rfl) (c_X5_weathers l E am q r k_pp (nI i) (by omega) (hpt k_pp hk_pp 2 (by decide)) ⟨i, hi3, rfl⟩) gV_X5_107 (by decide +kernel) rfl ⟨rfl, rfl⟩ ⟨Nat.le_of_ble_eq_true rfl, Nat.le_of_ble_eq_true rfl⟩ (ci := 5) (q0 := 0) rfl rfl hl.1 (Nat.le_of_ble_eq_true rfl) dX5_odds_59 ⟨Nat.zero_le _, Nat.zero_le _⟩) ?_
              refine lv_iadd S.1 S.2.1 dX5_odds_62 ?_
              refine lv_aload_n S.1 S.2.1 dX5_odds_63 rfl (lv_at hl 0 rfl) ?_
              refine lv_iload_n S.1 S.2.1 dX5_odds_64 rfl (lv_at hl 1 rfl) ?_
              refine lv_eqi (y := nI k_pp) ek_pp ?_
              refine go_S (run_V (As := [.int (nI k_pp)]) (rest := [.int ((criesR r k_pp) + (weathersR r k_pp (nI i))), .int (nI g)]) (n := 1) S hK (bl_P hP [0, 1] rfl) (bl_D hD [0, 1] rfl rfl) (c_X5_needs l E am q r k_pp (by omega)) gV_X5_110 (by decide +kernel) rfl ⟨rfl, rfl⟩ ⟨Nat.le_of_ble_eq_true rfl, Nat.le_of_ble_eq_true rfl⟩ (ci := 5) (q0 := 0) rfl rfl hl.1 (Nat.le_of_ble_eq_true rfl) dX5_odds_65 ⟨Nat.zero_le _, Nat.zero_le _⟩) ?_
              refine lv_icmp_lt (tgt := 75) S.1 S.2.1 dX5_odds_68 (by decide) (fun c_68 => ?_) (fun c_68 => ?_)
              · have n_68 := Int32.not_le.mpr c_68
                refine lv_iconst (v := 0) S.1 S.2.1 dX5_odds_75 (by decide) ?_
                refine lv_iadd S.1 S.2.1 dX5_odds_76 ?_
                refine lv_eqi (y := nI (g + 0)) (nI_add g 0) ?_
                refine lv_istore (lv' := [(4, .int (nI (g + 0))), (0, .ref (am 0)), (1, .int pp), (2, .int n9), (3, .int w), (5, .int (nI i))]) S.1 S.2.1 dX5_odds_77 hl (by decide) rfl (fun ls hl => ?_)
                refine lv_iinc (v := nI (i + 1)) (lv' := [(5, .int (nI (i + 1))), (4, .int (nI (g + 0))), (0, .ref (am 0)), (1, .int pp), (2, .int n9), (3, .int w)]) S.1 S.2.1 dX5_odds_79 hl (k := 5) rfl (nI_1 i) (by decide) rfl (fun ls hl => ?_)
                refine lv_goto (tgt := 41) S.1 S.2.1 dX5_odds_82 (by decide) ?_
                exact ih_41 (i + 1) (g + 0) (by omega) (by omega) (by rw [gdN, if_pos c_68, hg]; rfl) H locs hP hD hS ls (lv_sub hl [2, 3, 4, 5, 1, 0] rfl)
              · have n_68 := Int32.not_lt.mp c_68
                refine lv_iconst (v := 1) S.1 S.2.1 dX5_odds_71 (by decide) ?_
                refine lv_goto (tgt := 76) S.1 S.2.1 dX5_odds_72 (by decide) ?_
                refine lv_iadd S.1 S.2.1 dX5_odds_76 ?_
                refine lv_eqi (y := nI (g + 1)) (nI_add g 1) ?_
                refine lv_istore (lv' := [(4, .int (nI (g + 1))), (0, .ref (am 0)), (1, .int pp), (2, .int n9), (3, .int w), (5, .int (nI i))]) S.1 S.2.1 dX5_odds_77 hl (by decide) rfl (fun ls hl => ?_)
                refine lv_iinc (v := nI (i + 1)) (lv' := [(5, .int (nI (i + 1))), (4, .int (nI (g + 1))), (0, .ref (am 0)), (1, .int pp), (2, .int n9), (3, .int w)]) S.1 S.2.1 dX5_odds_79 hl (k := 5) rfl (nI_1 i) (by decide) rfl (fun ls hl => ?_)
                refine lv_goto (tgt := 41) S.1 S.2.1 dX5_odds_82 (by decide) ?_
                exact ih_41 (i + 1) (g + 1) (by omega) (by omega) (by rw [gdN, if_neg c_68, hg]) H locs hP hD hS ls (lv_sub hl [2, 3, 4, 5, 1, 0] rfl)
        exact L_41 101 0 0 (by omega) (by omega) rfl H locs hP hD hS ls (lv_sub hl [2, 3, 4, 5, 1, 0] rfl)
      · refine lv_aload_n S.1 S.2.1 dX5_odds_27 rfl (lv_at hl 0 rfl) ?_
        refine lv_ldc (v := (-1000001)) S.1 S.2.1 S.2.2.2.1 (S.2.2.2.2 _ (List.mem_cons_of_mem _ kk_X5_60)) dX5_odds_28 ?_
        refine go_I (run_V (As := [.int (-1000001)]) (rest := []) (n := 1) S hK (bl_P hP [0, 2] rfl) (bl_D hD [0, 2] rfl rfl) (c_X5_finding l E am q f (-1000001) 0 (by decide) (by decide)) gV_X5_66 (by decide +kernel) rfl ⟨rfl, rfl⟩ ⟨Nat.le_of_ble_eq_true rfl, Nat.le_of_ble_eq_true rfl⟩ (ci := 5) (q0 := 0) rfl rfl hl.1 (Nat.le_of_ble_eq_true rfl) dX5_odds_30 ⟨Nat.zero_le _, Nat.zero_le _⟩) hP hD hS [0, 2] rfl (had_cons rfl (had_cons cell_ad rfl)) (Bs' := [[mObj am q], [(am 1, .inl (E.2.1, 77, .inl (sg r 77)))], [(am 4, .inl (E.2.1, 8, .inl (sg (findM f 0) 8)))]]) rfl (fun H locs hP hD hS => ?_)
        obtain ⟨r_30_2, er_30_2⟩ : ∃ zz9 : Row, zz9 = findM f 0 := ⟨_, rfl⟩
        rw [← er_30_2] at hP hD
        refine lv_i2l S.1 S.2.1 dX5_odds_33 rfl ?_
        exact retL S hr hlk (by have e9 : rOdds r pp n9 w = .inl 0 := (by unfold rOdds; rw [if_pos c_5, if_pos c_15, if_neg c_24]); rw [er_30_2] at hP; rw [e9, fndL_inl]; exact hP) hS (by have e9 : rOdds r pp n9 w = .inl 0 := (by unfold rOdds; rw [if_pos c_5, if_pos c_15, if_neg c_24]); rw [e9]; rfl) dX5_odds_34
set_option maxHeartbeats 800000 in
set_option maxRecDepth 100000 in
theorem c_X5_feed (l : Launch) (E : EV) (am : Nat → Nat) (q f tp : Row) (len : Nat) (v n9 : Int32) (hq3 : q 3 = nI len) (hl9 : len ≤ 120) : Met l yX5_feed (wq yX5_feed cX5_feed 4 (some .int)) ({ frames := 1, cells := 0, slots := 0, locals := 22 }) (preB E [.ref (am 0), .int v, .int n9] [[mObj am q], [(am 4, .inl (E.2.1, 8, .inl (sg f 8)))], [(am 5, .inl (E.2.1, 120, .inl (sg tp 120)))]]) (qI E [[mObj am q], [(am 4, .inl (E.2.1, 8, .inl (sg f 8)))], [(am 5, .inl (E.2.1, 120, .inl (sg tp 120)))]] [[mObj am (pick (rFeed len n9) q (upd q 3 (nI (len + tN n9))))], [(am 4, .inl (E.2.1, 8, .inl (sg (fndM f (rFeed len n9)) 8)))], [(am 5, .inl (E.2.1, 120, .inl (sg (pick (rFeed len n9) tp (fdN tp v len (tN n9) (tN n9))) 120)))]] (ansR (rFeed len n9))) 0 0 (inB [[mObj am q], [(am 4, .inl (E.2.1, 8, .inl (sg f 8)))], [(am 5, .inl (E.2.1, 120, .inl (sg tp 120)))]]) := by
  refine M_mk RX5 (by decide) rfl (Nat.le_of_ble_eq_true rfl) ?_
  intro p e s m below meth c S hr hlk hK hP hD hS ls hl
  have hl : lv_has ls 4 [(0, .ref (am 0)), (1, .int v), (2, .int n9)] := hl
  obtain ⟨H, hH⟩ : ∃ zz9, zz9 = s.heap := ⟨_, rfl⟩
  obtain ⟨locs, hlocs⟩ : ∃ zz9 : List Loc, zz9 = [] := ⟨_, rfl⟩
  have hP : PE E [[mObj am q], [(am 4, .inl (E.2.1, 8, .inl (sg f 8)))], [(am 5, .inl (E.2.1, 120, .inl (sg tp 120)))]] H := by rw [hH]; exact hP
  have hS : va_S (inB [[mObj am q], [(am 4, .inl (E.2.1, 8, .inl (sg f 8)))], [(am 5, .inl (E.2.1, 120, .inl (sg tp 120)))]]) s.heap H locs := by rw [hH, hlocs]; exact hS
  show W p l e ({ frames := 1, cells := 0, slots := 0, locals := 22 }) s m ([.ref (am 0), .int v, .int n9] : List Value).toArray below meth c s.heap [] 0 0 _ _
  suffices hgo : W p l e ({ frames := 1, cells := 0, slots := 0, locals := 22 }) s m ([.ref (am 0), .int v, .int n9] : List Value).toArray below meth c H locs 0 0 (MQ below (qI E [[mObj am q], [(am 4, .inl (E.2.1, 8, .inl (sg f 8)))], [(am 5, .inl (E.2.1, 120, .inl (sg tp 120)))]] [[mObj am (pick (rFeed len n9) q (upd q 3 (nI (len + tN n9))))], [(am 4, .inl (E.2.1, 8, .inl (sg (fndM f (rFeed len n9)) 8)))], [(am 5, .inl (E.2.1, 120, .inl (sg (pick (rFeed len n9) tp (fdN tp v len (tN n9) (tN n9))) 120)))]] (ansR (rFeed len n9))) ([.ref (am 0), .int v, .int n9] : List Value).toArray s 0 0 (inB [[mObj am q], [(am 4, .inl (E.2.1, 8, .inl (sg f 8)))], [(am 5, .inl (E.2.1, 120, .inl (sg tp 120)))]])) (F0 m 0 ls []) by rw [hH, hlocs] at hgo; exact hgo
  clear hH hlocs
  refine lv_iload_n S.1 S.2.1 dX5_feed_0 rfl (lv_at hl 2 rfl) ?_
  refine lv_iconst (v := 1) S.1 S.2.1 dX5_feed_1 (by decide) ?_
  refine lv_iconst (v := 4) S.1 S.2.1 dX5_feed_2 (by decide) ?_
  refine go_S (run_S (As := [.int n9, .int 1, .int 4]) (rest := []) (n := 3) S hK (bl_P hP [] rfl) (bl_D hD [] rfl rfl) (c_X5_within l E n9 1 4 ) gS_X5_70 (by decide +kernel) rfl ⟨rfl, rfl⟩ ⟨Nat.le_of_ble_eq_true rfl, Nat.le_of_ble_eq_true rfl⟩ hl.1 (Nat.le_of_ble_eq_true rfl) dX5_feed_3 ⟨Nat.zero_le _, Nat.zero_le _⟩) ?_
  refine b_ifne (tgt := 16) S.1 S.2.1 dX5_feed_6 (by decide) (fun c_6 => ?_) (fun c_6 => ?_)
  · obtain ⟨k_n9, hj_n9, hk_n9, ek_n9⟩ := of_rng (lo := 1) (hi := 4) (by decide) (by decide) c_6
    refine lv_aload_n S.1 S.2.1 dX5_feed_16 rfl (lv_at hl 0 rfl) ?_
    refine gf_X5_222 S hK hP 0 0 rfl rfl (congrArg (fun z => some (Value.int z)) hq3) dX5_feed_17 ?_
    refine lv_iload_n S.1 S.2.1 dX5_feed_20 rfl (lv_at hl 2 rfl) ?_
    refine lv_eqi (y := nI k_n9) ek_n9 ?_
    refine lv_iadd S.1 S.2.1 dX5_feed_21 ?_
    refine lv_eqi (y := nI (len + k_n9)) (nI_add len k_n9) ?_
    refine lv_bipush (v := 120) S.1 S.2.1 dX5_feed_22 (by decide) ?_
    refine lv_icmp_le (tgt := 34) S.1 S.2.1 dX5_feed_24 (by decide) (fun c_24 => ?_) (fun c_24 => ?_)
    · have n_24 := Int32.not_lt.mpr c_24
      have hl8 : len + k_n9 ≤ 120 := le_of_nI (b := 120) c_24 (by omega) (by decide)
      refine lv_iload_n S.1 S.2.1 dX5_feed_34 rfl (lv_at hl 2 rfl) ?_
      refine lv_eqi (y := nI k_n9) ek_n9 ?_
      refine lv_iconst (v := 1) S.1 S.2.1 dX5_feed_35 (by decide) ?_
      refine lv_isub S.1 S.2.1 dX5_feed_36 ?_
      refine lv_eqi (y := dI k_n9) (nI_dI (by omega)) ?_
      refine lv_istore_n (lv' := [(3, .int (dI k_n9)), (0, .ref (am 0)), (1, .int v), (2, .int n9)]) S.1 S.2.1 dX5_feed_37 rfl hl (by decide) rfl (fun ls hl => ?_)
      have L_38 : ∀ (fu : Nat) (t : Nat) (qi : Row) (ti : Row), (t ≤ k_n9) → (t < fu) → (qi 3 = nI (len + (k_n9 - t))) → (∀ j, j ≠ 3 → qi j = q j) → (ti = fdN tp v len k_n9 (k_n9 - t)) → ∀ (H : Heap) (locs : List Loc), PE E [[mObj am qi], [(am 4, .inl (E.2.1, 8, .inl (sg f 8)))], [(am 5, .inl (E.2.1, 120, .inl (sg ti 120)))]] H → DE (inB [[mObj am q], [(am 4, .inl (E.2.1, 8, .inl (sg f 8)))], [(am 5, .inl (E.2.1, 120, .inl (sg tp 120)))]]) [[mObj am qi], [(am 4, .inl (E.2.1, 8, .inl (sg f 8)))], [(am 5, .inl (E.2.1, 120, .inl (sg ti 120)))]] → va_S (inB [[mObj am q], [(am 4, .inl (E.2.1, 8, .inl (sg f 8)))], [(am 5, .inl (E.2.1, 120, .inl (sg tp 120)))]]) s.heap H locs → ∀ (ls : Array Slot), lv_has ls 4 [(0, .ref (am 0)), (1, .int v), (2, .int n9), (3, .int (dI t))] → W p l e ({ frames := 1, cells := 0, slots := 0, locals := 22 }) s m ([.ref (am 0), .int v, .int n9] : List Value).toArray below meth c H locs 0 0 (MQ below (qI E [[mObj am q], [(am 4, .inl (E.2.1, 8, .inl (sg f 8)))], [(am 5, .inl (E.2.1, 120, .inl (sg tp 120)))]] [[mObj am (pick (rFeed len n9) q (upd q 3 (nI (len + tN n9))))], [(am 4, .inl (E.2.1, 8, .inl (sg (fndM f (rFeed len n9)) 8)))], [(am 5, .inl (E.2.1, 120, .inl (sg (pick (rFeed len n9) tp (fdN tp v len (tN n9) (tN n9))) 120)))]] (ansR (rFeed len n9))) ([.ref (am 0), .int v, .int n9] : List Value).toArray s 0 0 (inB [[mObj am q], [(am 4, .inl (E.2.1, 8, .inl (sg f 8)))], [(am 5, .inl (E.2.1, 120, .inl (sg tp 120)))]])) (F0 m 38 ls []) := by
        intro fu
        induction fu with
        | zero =>
          intro t qi ti ht hf hq hqo hti
          omega
        | succ fu ih_38 =>
          intro t qi ti ht hf hq hqo hti H locs hP hD hS ls hl
          refine lv_iload_n S.1 S.2.1 dX5_feed_38 rfl (lv_at hl 3 rfl) ?_
          refine lv_if_lt (tgt := 77) S.1 S.2.1 dX5_feed_39 (by decide) (fun c_39 => ?_) (fun c_39 => ?_)
          · have n_39 := Int32.not_le.mpr c_39
            refine lv_aload_n S.1 S.2.1 dX5_feed_77 rfl (lv_at hl 0 rfl) ?_
            refine gf_X5_222 S hK hP 0 0 rfl rfl (congrArg (fun z => some (Value.int z)) hq) dX5_feed_78 ?_
            exact retI S hr hlk (by have e9 : rFeed len n9 = .inr (fun _ => 0, nI (len + k_n9)) := (by unfold rFeed; rw [if_pos c_6, if_neg (show ¬ 120 < nI len + n9 by rw [ek_n9, nI_add]; exact n_24), ek_n9, nI_add]); have t0 : t = 0 := dI_zero c_39 (by omega); have eq9 : qi = upd q 3 (nI (len + k_n9)) := q3_eq hqo (by rw [hq, t0]; rfl); have et9 : ti = fdN tp v len k_n9 k_n9 := (by rw [hti, t0]; rfl); rw [eq9, et9] at hP; rw [e9, fndM_inr, pick_inr, pick_inr, ek_n9, tN_nI (by omega)]; exact hP) hS (by have e9 : rFeed len n9 = .inr (fun _ => 0, nI (len + k_n9)) := (by unfold rFeed; rw [if_pos c_6, if_neg (show ¬ 120 < nI len + n9 by rw [ek_n9, nI_add]; exact n_24), ek_n9, nI_add]); have t0 : t = 0 := dI_zero c_39 (by omega); have eq9 : qi = upd q 3 (nI (len + k_n9)) := q3_eq hqo (by rw [hq, t0]; rfl); have et9 : ti = fdN tp v len k_n9 k_n9 := (by rw [hti, t0]; rfl); rw [e9, ansR_inr, t0]; rfl) dX5_feed_81
          · have n_39 := Int32.not_lt.mp c_39
            obtain ⟨m9, hm9⟩ : ∃ m9, t = m9 + 1 := dI_pos c_39
            refine lv_aload_n S.1 S.2.1 dX5_feed_42 rfl (lv_at hl 0 rfl) ?_
            refine gf_X5_22 S hK hP 0 0 rfl rfl rfl dX5_feed_43 ?_
            refine lv_aload_n S.1 S.2.1 dX5_feed_46 rfl (lv_at hl 0 rfl) ?_
            refine gf_X5_222 S hK hP 0 0 rfl rfl (congrArg (fun z => some (Value.int z)) hq) dX5_feed_47 ?_
            refine lv_iload_n S.1 S.2.1 dX5_feed_50 rfl (lv_at hl 1 rfl) ?_
            refine lv_bipush (v := 8) S.1 S.2.1 dX5_feed_51 (by decide) ?_
            refine lv_iload_n S.1 S.2.1 dX5_feed_53 rfl (lv_at hl 3 rfl) ?_
            refine lv_eqi (y := nI m9) (dI_s hm9) ?_
            refine lv_imul S.1 S.2.1 dX5_feed_54 ?_
            refine lv_eqi (y := nI (8 * m9)) (pk_mul 8 m9) ?_
            refine lv_ishr S.1 S.2.1 dX5_feed_55 ?_
            refine lv_sipush (v := 255) S.1 S.2.1 dX5_feed_56 (by decide) ?_
            refine lv_iand S.1 S.2.1 dX5_feed_59 ?_
            refine b_iastN (i := len + (k_n9 - t)) S hK hP hD hS 2 0 rfl rfl (by omega) (by decide) (sgs_upd (by omega)) (Bs1 := [[mObj am qi], [(am 4, .inl (E.2.1, 8, .inl (sg f 8)))], [(am 5, .inl (E.2.1, 120, .inl (sg (upd ti (len + (k_n9 - t)) ((v >>> ((nI (8 * m9)) &&& 31)) &&& 255)) 120)))]]) rfl dX5_feed_60 (fun H locs hP hD hS => ?_)
            obtain ⟨r_60, er_60⟩ : ∃ zz9, zz9 = upd ti (len + (k_n9 - t)) ((v >>> ((nI (8 * m9)) &&& 31)) &&& 255) := ⟨_, rfl⟩
            rw [← er_60] at hP hD
            refine lv_aload_n S.1 S.2.1 dX5_feed_61 rfl (lv_at hl 0 rfl) ?_
            refine lv_dup S.1 S.2.1 dX5_feed_62 rfl ?_
            refine gf_X5_222 S hK hP 0 0 rfl rfl (congrArg (fun z => some (Value.int z)) hq) dX5_feed_63 ?_
            refine lv_iconst (v := 1) S.1 S.2.1 dX5_feed_66 (by decide) ?_
            refine lv_iadd S.1 S.2.1 dX5_feed_67 ?_
            refine lv_eqi (y := nI (len + (k_n9 - t) + 1)) (nI_add (len + (k_n9 - t)) 1) ?_
            refine pf_X5_222 S hK hP hD hS 0 0 rfl rfl (Nat.le_of_ble_eq_true rfl) mo_3 (Bs1 := [[mObj am (upd qi 3 (nI (len + (k_n9 - t) + 1)))], [(am 4, .inl (E.2.1, 8, .inl (sg f 8)))], [(am 5, .inl (E.2.1, 120, .inl (sg r_60 120)))]]) rfl dX5_feed_68 (fun H locs hP hD hS => ?_)
            obtain ⟨r_68, er_68⟩ : ∃ zz9, zz9 = upd qi 3 (nI (len + (k_n9 - t) + 1)) := ⟨_, rfl⟩
            rw [← er_68] at hP hD
            have hr_68_3 : r_68 3 = nI (len + (k_n9 - t) + 1) := by rw [er_68]; exact upd_at
            refine lv_iinc (v := dI m9) (lv' := [(3, .int (dI m9)), (0, .ref (am 0)), (1, .int v), (2, .int n9)]) S.1 S.2.1 dX5_feed_71 hl (k := 3) rfl (dI_step hm9) (by decide) rfl (fun ls hl => ?_)
            refine lv_goto (tgt := 38) S.1 S.2.1 dX5_feed_74 (by decide) ?_
            exact ih_38 m9 r_68 r_60 (by omega) (by omega) (by rw [er_68, upd_at]; exact congrArg nI (by omega)) (fun j hj => by rw [er_68, upd_ne hj]; exact hqo j hj) (by rw [er_60, hti]; exact fdN_s hm9 ht) H locs hP hD hS ls (lv_sub hl [1, 2, 3, 0] rfl)
      exact L_38 (k_n9 + 1) k_n9 q tp (Nat.le_refl _) (by omega) (by rw [hq3, Nat.sub_self]; rfl) (fun _ _ => rfl) (by rw [Nat.sub_self]; rfl) H locs hP hD hS ls (lv_sub hl [1, 2, 3, 0] rfl)
    · have n_24 := Int32.not_le.mp c_24
      refine lv_aload_n S.1 S.2.1 dX5_feed_27 rfl (lv_at hl 0 rfl) ?_
      refine lv_ldc (v := (-1000002)) S.1 S.2.1 S.2.2.2.1 (S.2.2.2.2 _ (List.mem_cons_of_mem _ kk_X5_88)) dX5_feed_28 ?_
      refine go_I (run_V (As := [.int (-1000002)]) (rest := []) (n := 1) S hK (bl_P hP [0, 1] rfl) (bl_D hD [0, 1] rfl rfl) (c_X5_finding l E am q f (-1000002) 1 (by decide) (by decide)) gV_X5_66 (by decide +kernel) rfl ⟨rfl, rfl⟩ ⟨Nat.le_of_ble_eq_true rfl, Nat.le_of_ble_eq_true rfl⟩ (ci := 5) (q0 := 0) rfl rfl hl.1 (Nat.le_of_ble_eq_true rfl) dX5_feed_30 ⟨Nat.zero_le _, Nat.zero_le _⟩) hP hD hS [0, 1] rfl (had_cons rfl (had_cons cell_ad rfl)) (Bs' := [[mObj am q], [(am 4, .inl (E.2.1, 8, .inl (sg (findM f 1) 8)))], [(am 5, .inl (E.2.1, 120, .inl (sg tp 120)))]]) rfl (fun H locs hP hD hS => ?_)
      obtain ⟨r_30, er_30⟩ : ∃ zz9 : Row, zz9 = findM f 1 := ⟨_, rfl⟩
      rw [← er_30] at hP hD
      exact retI S hr hlk (by have e9 : rFeed len n9 = .inl 1 := (by unfold rFeed; rw [if_pos c_6, if_pos (show 120 < nI len + n9 by rw [ek_n9, nI_add]; exact n_24)]); rw [er_30] at hP; rw [e9, fndM_inl, pick_inl, pick_inl]; exact hP) hS (by have e9 : rFeed len n9 = .inl 1 := (by unfold rFeed; rw [if_pos c_6, if_pos (show 120 < nI len + n9 by rw [ek_n9, nI_add]; exact n_24)]); rw [e9]; decide) dX5_feed_33
  · refine lv_aload_n S.1 S.2.1 dX5_feed_9 rfl (lv_at hl 0 rfl) ?_
    refine lv_ldc (v := (-1000001)) S.1 S.2.1 S.2.2.2.1 (S.2.2.2.2 _ (List.mem_cons_of_mem _ kk_X5_60)) dX5_feed_10 ?_
    refine go_I (run_V (As := [.int (-1000001)]) (rest := []) (n := 1) S hK (bl_P hP [0, 1] rfl) (bl_D hD [0, 1] rfl rfl) (c_X5_finding l E am q f (-1000001) 0 (by decide) (by decide)) gV_X5_66 (by decide +kernel) rfl ⟨rfl, rfl⟩ ⟨Nat.le_of_ble_eq_true rfl, Nat.le_of_ble_eq_true rfl⟩ (ci := 5) (q0 := 0) rfl rfl hl.1 (Nat.le_of_ble_eq_true rfl) dX5_feed_12 ⟨Nat.zero_le _, Nat.zero_le _⟩) hP hD hS [0, 1] rfl (had_cons rfl (had_cons cell_ad rfl)) (Bs' := [[mObj am q], [(am 4, .inl (E.2.1, 8, .inl (sg (findM f 0) 8)))], [(am 5, .inl (E.2.1, 120, .inl (sg tp 120)))]]) rfl (fun H locs hP hD hS => ?_)
    obtain ⟨r_12, er_12⟩ : ∃ zz9 : Row, zz9 = findM f 0 := ⟨_, rfl⟩
    rw [← er_12] at hP hD
    exact retI S hr hlk (by have e9 : rFeed len n9 = .inl 0 := (by unfold rFeed; rw [if_neg c_6]); rw [er_12] at hP; rw [e9, fndM_inl, pick_inl, pick_inl]; exact hP) hS (by have e9 : rFeed len n9 = .inl 0 := (by unfold rFeed; rw [if_neg c_6]); rw [e9]; decide) dX5_feed_15
