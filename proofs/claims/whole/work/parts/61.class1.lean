def kabV (v : Int32) : Int32 := if v = 1 then 0 else if v = 2 then 0 else if v = 3 then 2 else if v = 4 then 3 else if v = 5 then 0 else if v = 6 then 1 else -1
def uN : Nat → Int32 → Int32 → Bool
  | 0, _, _ => false
  | n + 1, k, o => if k = -1 then false else if k = o then true else uN n (kabV k) o
theorem uN_s {i : Nat} {k w : Int32} (hi : i < 7) (h1 : ¬ k = -1) (h2 : ¬ k = w) : uN (7 - i) k w = uN (7 - (i + 1)) (kabV k) w := by
  rw [show 7 - i = (7 - (i + 1)) + 1 by omega, uN, if_neg h1, if_neg h2]
theorem uN_m {i : Nat} {k w : Int32} (hi : i < 7) (h1 : k = -1) : uN (7 - i) k w = false := by
  rw [show 7 - i = (7 - (i + 1)) + 1 by omega, uN, if_pos h1]
theorem uN_y {i : Nat} {k w : Int32} (hi : i < 7) (h1 : ¬ k = -1) (h2 : k = w) : uN (7 - i) k w = true := by
  rw [show 7 - i = (7 - (i + 1)) + 1 by omega, uN, if_neg h1, if_pos h2]
theorem uN_und {k : Int32} (o : Int32) (h : le9 k 6) : uN 7 k o = undN 5 k o := by
  obtain ⟨n, hn, rfl⟩ := h
  match n, hn with
  | 0, _ => rfl
  | 1, _ => rfl
  | 2, _ => rfl
  | 3, _ => rfl
  | 4, _ => rfl
  | 5, _ => rfl
  | 6, _ => rfl
def zrF (f : Row) (i : Nat) : Row := fun j => if j < i then 0 else f j
theorem zrF_0 {f : Row} : zrF f 0 = f := funext fun j => if_neg (by omega)
theorem zrF_s {f : Row} {i : Nat} : upd (zrF f i) i 0 = zrF f (i + 1) := funext fun j => by
  unfold upd zrF
  by_cases q : j = i
  · rw [if_pos q, if_pos (by omega)]
  · rw [if_neg q]
    by_cases q2 : j < i
    · rw [if_pos q2, if_pos (by omega)]
    · rw [if_neg q2, if_neg (by omega)]
def mostV (v : Int32) : Int32 := if v = 0 then 6 else if v = 1 then 99 else if v = 2 then 9 else if v = 3 then 999 else if v = 4 then 7 else 9999
set_option maxHeartbeats 800000 in
set_option maxRecDepth 100000 in
theorem c_X1_kindAbove (l : Launch) (E : EV) (v : Int32)  : Met l yX1_kindAbove (wq yX1_kindAbove cX1_kindAbove 1 (some .int)) ({ frames := 0, cells := 0, slots := 0, locals := 0 }) (preB E [.int v] []) (qS (kabV v)) 0 0 (fun _ => False) := by
  refine M_mk RX1 (by decide) rfl (Nat.le_of_ble_eq_true rfl) ?_
  intro p e s m below meth c S hr hlk hK hP hD hS ls hl
  have hl : lv_has ls 1 [(0, .int v)] := hl
  refine lv_iload_n S.1 S.2.1 dX1_kindAbove_0 rfl (lv_at hl 0 rfl) ?_
  by_cases k_1_1 : v = 1
  · refine lv_tableIn (tgt := 40) S.1 S.2.1 dX1_kindAbove_1 (by rw [k_1_1]; decide) (by rw [k_1_1]; decide) (by rw [k_1_1]; rfl) (by decide) ?_
    refine lv_iconst (v := 0) S.1 S.2.1 dX1_kindAbove_40 (by decide) ?_
    exact retS S hr hlk (by first | (simp only [kabV, eq_true k_1_1, ↓reduceIte]; done) | (simp [kabV, eq_true k_1_1, ↓reduceIte]; done) | (simp [kabV, k_1_1]; done)) dX1_kindAbove_41
  by_cases k_1_2 : v = 2
  · refine lv_tableIn (tgt := 42) S.1 S.2.1 dX1_kindAbove_1 (by rw [k_1_2]; decide) (by rw [k_1_2]; decide) (by rw [k_1_2]; rfl) (by decide) ?_
    refine lv_iconst (v := 0) S.1 S.2.1 dX1_kindAbove_42 (by decide) ?_
    exact retS S hr hlk (by first | (simp only [kabV, eq_true k_1_2, k_1_1, ↓reduceIte]; done) | (simp [kabV, eq_true k_1_2, k_1_1, ↓reduceIte]; done) | (simp [kabV, k_1_2, k_1_1]; done)) dX1_kindAbove_43
  by_cases k_1_3 : v = 3
  · refine lv_tableIn (tgt := 46) S.1 S.2.1 dX1_kindAbove_1 (by rw [k_1_3]; decide) (by rw [k_1_3]; decide) (by rw [k_1_3]; rfl) (by decide) ?_
    refine lv_iconst (v := 2) S.1 S.2.1 dX1_kindAbove_46 (by decide) ?_
    exact retS S hr hlk (by first | (simp only [kabV, eq_true k_1_3, k_1_1, k_1_2, ↓reduceIte]; done) | (simp [kabV, eq_true k_1_3, k_1_1, k_1_2, ↓reduceIte]; done) | (simp [kabV, k_1_3, k_1_1, k_1_2]; done)) dX1_kindAbove_47
  by_cases k_1_4 : v = 4
  · refine lv_tableIn (tgt := 48) S.1 S.2.1 dX1_kindAbove_1 (by rw [k_1_4]; decide) (by rw [k_1_4]; decide) (by rw [k_1_4]; rfl) (by decide) ?_
    refine lv_iconst (v := 3) S.1 S.2.1 dX1_kindAbove_48 (by decide) ?_
    exact retS S hr hlk (by first | (simp only [kabV, eq_true k_1_4, k_1_1, k_1_2, k_1_3, ↓reduceIte]; done) | (simp [kabV, eq_true k_1_4, k_1_1, k_1_2, k_1_3, ↓reduceIte]; done) | (simp [kabV, k_1_4, k_1_1, k_1_2, k_1_3]; done)) dX1_kindAbove_49
  by_cases k_1_5 : v = 5
  · refine lv_tableIn (tgt := 44) S.1 S.2.1 dX1_kindAbove_1 (by rw [k_1_5]; decide) (by rw [k_1_5]; decide) (by rw [k_1_5]; rfl) (by decide) ?_
    refine lv_iconst (v := 0) S.1 S.2.1 dX1_kindAbove_44 (by decide) ?_
    exact retS S hr hlk (by first | (simp only [kabV, eq_true k_1_5, k_1_1, k_1_2, k_1_3, k_1_4, ↓reduceIte]; done) | (simp [kabV, eq_true k_1_5, k_1_1, k_1_2, k_1_3, k_1_4, ↓reduceIte]; done) | (simp [kabV, k_1_5, k_1_1, k_1_2, k_1_3, k_1_4]; done)) dX1_kindAbove_45
  by_cases k_1_6 : v = 6
  · refine lv_tableIn (tgt := 50) S.1 S.2.1 dX1_kindAbove_1 (by rw [k_1_6]; decide) (by rw [k_1_6]; decide) (by rw [k_1_6]; rfl) (by decide) ?_
    refine lv_iconst (v := 1) S.1 S.2.1 dX1_kindAbove_50 (by decide) ?_
    exact retS S hr hlk (by first | (simp only [kabV, eq_true k_1_6, k_1_1, k_1_2, k_1_3, k_1_4, k_1_5, ↓reduceIte]; done) | (simp [kabV, eq_true k_1_6, k_1_1, k_1_2, k_1_3, k_1_4, k_1_5, ↓reduceIte]; done) | (simp [kabV, k_1_6, k_1_1, k_1_2, k_1_3, k_1_4, k_1_5]; done)) dX1_kindAbove_51
  have t_1_1 := ne_toInt (n := 1) (by decide) k_1_1
  have t_1_2 := ne_toInt (n := 2) (by decide) k_1_2
  have t_1_3 := ne_toInt (n := 3) (by decide) k_1_3
  have t_1_4 := ne_toInt (n := 4) (by decide) k_1_4
  have t_1_5 := ne_toInt (n := 5) (by decide) k_1_5
  have t_1_6 := ne_toInt (n := 6) (by decide) k_1_6
  refine lv_tableOut (tgt := 52) S.1 S.2.1 dX1_kindAbove_1 (by omega) (by decide) ?_
  refine lv_iconst (v := (-1)) S.1 S.2.1 dX1_kindAbove_52 (by decide) ?_
  exact retS S hr hlk (by first | (simp only [kabV, k_1_1, k_1_2, k_1_3, k_1_4, k_1_5, k_1_6, ↓reduceIte]; done) | (simp [kabV, k_1_1, k_1_2, k_1_3, k_1_4, k_1_5, k_1_6, ↓reduceIte]; done) | (simp [kabV, k_1_1, k_1_2, k_1_3, k_1_4, k_1_5, k_1_6]; done)) dX1_kindAbove_53
set_option maxHeartbeats 800000 in
set_option maxRecDepth 100000 in
theorem c_X1_isUnder (l : Launch) (E : EV) (a : Nat) (k g h u o t x : Int32) (w : Int32)  : Met l yX1_isUnder (wq yX1_isUnder cX1_isUnder 4 (some .boolean)) ({ frames := 1, cells := 0, slots := 0, locals := 20 }) (preB E [.ref a, .int w] [[(a, .inr (1, [.int k, .int g, .int h, .int u, .int o, .int t, .int x]))]]) (qS (bI (uN 7 k w = true))) 0 0 (fun _ => False) := by
  refine M_mk RX1 (by decide) rfl (Nat.le_of_ble_eq_true rfl) ?_
  intro p e s m below meth c S hr hlk hK hP hD hS ls hl
  have hl : lv_has ls 4 [(0, .ref a), (1, .int w)] := hl
  refine lv_aload_n S.1 S.2.1 dX1_isUnder_0 rfl (lv_at hl 0 rfl) ?_
  refine gf_X1_9 S hK hP 0 0 rfl rfl rfl dX1_isUnder_1 ?_
  refine lv_istore_n (lv' := [(2, .int k), (0, .ref a), (1, .int w)]) S.1 S.2.1 dX1_isUnder_4 rfl hl (by decide) rfl (fun ls hl => ?_)
  refine lv_iconst (v := 0) S.1 S.2.1 dX1_isUnder_5 (by decide) ?_
  refine lv_istore_n (lv' := [(3, .int 0), (2, .int k), (0, .ref a), (1, .int w)]) S.1 S.2.1 dX1_isUnder_6 rfl hl (by decide) rfl (fun ls hl => ?_)
  have L_7 : ∀ (fu : Nat) (i : Nat) (k9 : Int32), (i ≤ 7) → (7 < i + fu) → (uN 7 k w = uN (7 - i) k9 w) → ∀ (ls : Array Slot), lv_has ls 4 [(1, .int w), (2, .int k9), (3, .int (nI i))] → W p l e ({ frames := 1, cells := 0, slots := 0, locals := 20 }) s m ([.ref a, .int w] : List Value).toArray below meth c s.heap [] 0 0 (MQ below (qS (bI (uN 7 k w = true))) ([.ref a, .int w] : List Value).toArray s 0 0 (fun _ => False)) (F0 m 7 ls []) := by
    intro fu
    induction fu with
    | zero =>
      intro i k9 hi hf hu
      omega
    | succ fu ih_7 =>
      intro i k9 hi hf hu ls hl
      refine lv_iload_n S.1 S.2.1 dX1_isUnder_7 rfl (lv_at hl 2 rfl) ?_
      refine lv_bipush (v := 7) S.1 S.2.1 dX1_isUnder_8 (by decide) ?_
      refine lv_icmp_ge (tgt := 36) S.1 S.2.1 dX1_isUnder_10 (by decide) (fun c_10 => ?_) (fun c_10 => ?_)
      · have n_10 := Int32.not_lt.mpr c_10
        refine lv_iconst (v := 0) S.1 S.2.1 dX1_isUnder_36 (by decide) ?_
        exact retSZ S hr hlk rfl (by rw [hu, show 7 - i = 0 by (have z9 : 7 ≤ i := le_of_nI (a := 7) c_10 (by omega) (by omega); omega)]; rfl) dX1_isUnder_37
      · have n_10 := Int32.not_le.mp c_10
        have hi2 : i < 7 := Nat.lt_of_not_le (fun z9 => c_10 (show nI 7 ≤ nI i from nI_le z9 (by omega)))
        refine lv_iload_n S.1 S.2.1 dX1_isUnder_13 rfl (lv_at hl 1 rfl) ?_
        refine lv_iconst (v := (-1)) S.1 S.2.1 dX1_isUnder_14 (by decide) ?_
        refine lv_icmp_eq (tgt := 36) S.1 S.2.1 dX1_isUnder_15 (by decide) (fun c_15 => ?_) (fun c_15 => ?_)
        · refine lv_iconst (v := 0) S.1 S.2.1 dX1_isUnder_36 (by decide) ?_
          exact retSZ S hr hlk rfl (by rw [hu, uN_m hi2 c_15]; rfl) dX1_isUnder_37
        · refine lv_iload_n S.1 S.2.1 dX1_isUnder_18 rfl (lv_at hl 1 rfl) ?_
          refine lv_iload_n S.1 S.2.1 dX1_isUnder_19 rfl (lv_at hl 0 rfl) ?_
          refine lv_icmp_ne (tgt := 25) S.1 S.2.1 dX1_isUnder_20 (by decide) (fun c_20 => ?_) (fun c_20 => ?_)
          · refine lv_iload_n S.1 S.2.1 dX1_isUnder_25 rfl (lv_at hl 1 rfl) ?_
            refine go_S (run_S (As := [.int k9]) (rest := []) (n := 1) S hK (bl_P hP [] rfl) (bl_D hD [] rfl rfl) (c_X1_kindAbove l E k9 ) gS_X1_37 (by decide +kernel) rfl ⟨rfl, rfl⟩ ⟨Nat.le_of_ble_eq_true rfl, Nat.le_of_ble_eq_true rfl⟩ hl.1 (Nat.le_of_ble_eq_true rfl) dX1_isUnder_26 ⟨Nat.zero_le _, Nat.zero_le _⟩) ?_
            refine lv_istore_n (lv' := [(2, .int (kabV k9)), (1, .int w), (3, .int (nI i))]) S.1 S.2.1 dX1_isUnder_29 rfl hl (by decide) rfl (fun ls hl => ?_)
            refine lv_iinc (v := nI (i + 1)) (lv' := [(3, .int (nI (i + 1))), (2, .int (kabV k9)), (1, .int w)]) S.1 S.2.1 dX1_isUnder_30 hl (k := 2) rfl (nI_1 i) (by decide) rfl (fun ls hl => ?_)
            refine lv_goto (tgt := 7) S.1 S.2.1 dX1_isUnder_33 (by decide) ?_
            exact ih_7 (i + 1) (kabV k9) (by omega) (by omega) (hu.trans (uN_s hi2 c_15 c_20))  ls (lv_sub hl [2, 1, 0] rfl)
          · refine lv_iconst (v := 1) S.1 S.2.1 dX1_isUnder_23 (by decide) ?_
            exact retSZ S hr hlk rfl (by rw [hu, uN_y hi2 c_15 c_20]; rfl) dX1_isUnder_24
  exact L_7 8 0 k (by omega) (by omega) rfl  ls (lv_sub hl [3, 1, 0] rfl)
set_option maxHeartbeats 800000 in
set_option maxRecDepth 100000 in
theorem c_X3_has (l : Launch) (E : EV) (a a2 : Nat) (b n9 f9 v : Int32)  : Met l yX3_has (wq yX3_has cX3_has 3 (some .boolean)) ({ frames := 0, cells := 0, slots := 0, locals := 0 }) (preB E [.ref a, .int f9, .int v] [[(a, .inr (3, [.ref a2, .int b, .int n9]))]]) (qS (bI (0 ≤ f9 ∧ 0 ≤ v ∧ v ≤ n9 ∧ f9 ≤ n9 - v))) 0 0 (fun _ => False) := by
  refine M_mk RX3 (by decide) rfl (Nat.le_of_ble_eq_true rfl) ?_
  intro p e s m below meth c S hr hlk hK hP hD hS ls hl
  have hl : lv_has ls 3 [(0, .ref a), (1, .int f9), (2, .int v)] := hl
  refine lv_iload_n S.1 S.2.1 dX3_has_0 rfl (lv_at hl 1 rfl) ?_
  refine lv_if_lt (tgt := 30) S.1 S.2.1 dX3_has_1 (by decide) (fun c_1 => ?_) (fun c_1 => ?_)
  · have n_1 := Int32.not_le.mpr c_1
    refine lv_iconst (v := 0) S.1 S.2.1 dX3_has_30 (by decide) ?_
    exact retSZ S hr hlk rfl (if_neg (fun z9 => Int32.not_le.mpr c_1 z9.1)).symm dX3_has_31
  · have n_1 := Int32.not_lt.mp c_1
    refine lv_iload_n S.1 S.2.1 dX3_has_4 rfl (lv_at hl 2 rfl) ?_
    refine lv_if_lt (tgt := 30) S.1 S.2.1 dX3_has_5 (by decide) (fun c_5 => ?_) (fun c_5 => ?_)
    · have n_5 := Int32.not_le.mpr c_5
      refine lv_iconst (v := 0) S.1 S.2.1 dX3_has_30 (by decide) ?_
      exact retSZ S hr hlk rfl (if_neg (fun z9 => Int32.not_le.mpr c_5 z9.2.1)).symm dX3_has_31
    · have n_5 := Int32.not_lt.mp c_5
      refine lv_iload_n S.1 S.2.1 dX3_has_8 rfl (lv_at hl 2 rfl) ?_
      refine lv_aload_n S.1 S.2.1 dX3_has_9 rfl (lv_at hl 0 rfl) ?_
      refine gf_X3_19 S hK hP 0 0 rfl rfl rfl dX3_has_10 ?_
      refine lv_icmp_gt (tgt := 30) S.1 S.2.1 dX3_has_13 (by decide) (fun c_13 => ?_) (fun c_13 => ?_)
      · have n_13 := Int32.not_le.mpr c_13
        refine lv_iconst (v := 0) S.1 S.2.1 dX3_has_30 (by decide) ?_
        exact retSZ S hr hlk rfl (if_neg (fun z9 => Int32.not_le.mpr c_13 z9.2.2.1)).symm dX3_has_31
      · have n_13 := Int32.not_lt.mp c_13
        refine lv_iload_n S.1 S.2.1 dX3_has_16 rfl (lv_at hl 1 rfl) ?_
        refine lv_aload_n S.1 S.2.1 dX3_has_17 rfl (lv_at hl 0 rfl) ?_
        refine gf_X3_19 S hK hP 0 0 rfl rfl rfl dX3_has_18 ?_
        refine lv_iload_n S.1 S.2.1 dX3_has_21 rfl (lv_at hl 2 rfl) ?_
        refine lv_isub S.1 S.2.1 dX3_has_22 ?_
        refine lv_icmp_gt (tgt := 30) S.1 S.2.1 dX3_has_23 (by decide) (fun c_23 => ?_) (fun c_23 => ?_)
        · have n_23 := Int32.not_le.mpr c_23
          refine lv_iconst (v := 0) S.1 S.2.1 dX3_has_30 (by decide) ?_
          exact retSZ S hr hlk rfl (if_neg (fun z9 => Int32.not_le.mpr c_23 z9.2.2.2)).symm dX3_has_31
        · have n_23 := Int32.not_lt.mp c_23
          refine lv_iconst (v := 1) S.1 S.2.1 dX3_has_26 (by decide) ?_
          refine lv_goto (tgt := 31) S.1 S.2.1 dX3_has_27 (by decide) ?_
          exact retSZ S hr hlk rfl (if_pos ⟨Int32.not_lt.mp c_1, Int32.not_lt.mp c_5, Int32.not_lt.mp c_13, Int32.not_lt.mp c_23⟩).symm dX3_has_31
set_option maxHeartbeats 800000 in
set_option maxRecDepth 100000 in
theorem c_X3_put (l : Launch) (E : EV) (a a2 : Nat) (f : Row) (b n9 v : Int32) (i : Nat) (hi : i < 40) : Met l yX3_put (wq yX3_put cX3_put 3 none) ({ frames := 0, cells := 0, slots := 0, locals := 0 }) (preB E [.ref a, .int (nI i), .int v] [[(a2, .inl (E.2.1, 40, .inl f))], [(a, .inr (3, [.ref a2, .int b, .int n9]))]]) (qV E [[(a2, .inl (E.2.1, 40, .inl f))], [(a, .inr (3, [.ref a2, .int b, .int n9]))]] [[(a2, .inl (E.2.1, 40, .inl (upd f i (cutV v b))))], [(a, .inr (3, [.ref a2, .int b, .int n9]))]]) 0 0 (inB [[(a2, .inl (E.2.1, 40, .inl f))], [(a, .inr (3, [.ref a2, .int b, .int n9]))]]) := by
  refine M_mk RX3 (by decide) rfl (Nat.le_of_ble_eq_true rfl) ?_
  intro p e s m below meth c S hr hlk hK hP hD hS ls hl
  have hl : lv_has ls 3 [(0, .ref a), (1, .int (nI i)), (2, .int v)] := hl
  obtain ⟨H, hH⟩ : ∃ zz9, zz9 = s.heap := ⟨_, rfl⟩
  obtain ⟨locs, hlocs⟩ : ∃ zz9 : List Loc, zz9 = [] := ⟨_, rfl⟩
  have hP : PE E [[(a2, .inl (E.2.1, 40, .inl f))], [(a, .inr (3, [.ref a2, .int b, .int n9]))]] H := by rw [hH]; exact hP
  have hS : va_S (inB [[(a2, .inl (E.2.1, 40, .inl f))], [(a, .inr (3, [.ref a2, .int b, .int n9]))]]) s.heap H locs := by rw [hH, hlocs]; exact hS
  show W p l e ({ frames := 0, cells := 0, slots := 0, locals := 0 }) s m ([.ref a, .int (nI i), .int v] : List Value).toArray below meth c s.heap [] 0 0 _ _
  suffices hgo : W p l e ({ frames := 0, cells := 0, slots := 0, locals := 0 }) s m ([.ref a, .int (nI i), .int v] : List Value).toArray below meth c H locs 0 0 (MQ below (qV E [[(a2, .inl (E.2.1, 40, .inl f))], [(a, .inr (3, [.ref a2, .int b, .int n9]))]] [[(a2, .inl (E.2.1, 40, .inl (upd f i (cutV v b))))], [(a, .inr (3, [.ref a2, .int b, .int n9]))]]) ([.ref a, .int (nI i), .int v] : List Value).toArray s 0 0 (inB [[(a2, .inl (E.2.1, 40, .inl f))], [(a, .inr (3, [.ref a2, .int b, .int n9]))]])) (F0 m 0 ls []) by rw [hH, hlocs] at hgo; exact hgo
  clear hH hlocs
  refine lv_aload_n S.1 S.2.1 dX3_put_0 rfl (lv_at hl 0 rfl) ?_
  refine gf_X3_15 S hK hP 1 0 rfl rfl rfl dX3_put_1 ?_
  by_cases k_4_8 : b = 8
  · refine lv_lookup (tgt := 32) (off := 28) S.1 S.2.1 dX3_put_4 (by decide) (by first | (rw [k_4_8]; done) | (rw [k_4_8]; rfl)) (by decide) ?_
    refine lv_aload_n S.1 S.2.1 dX3_put_32 rfl (lv_at hl 0 rfl) ?_
    refine gf_X3_9 S hK hP 1 0 rfl rfl rfl dX3_put_33 ?_
    refine lv_iload_n S.1 S.2.1 dX3_put_36 rfl (lv_at hl 1 rfl) ?_
    refine lv_iload_n S.1 S.2.1 dX3_put_37 rfl (lv_at hl 2 rfl) ?_
    refine lv_i2b S.1 S.2.1 dX3_put_38 rfl ?_
    refine b_iastN (i := i) S hK hP hD hS 0 0 rfl rfl (by omega) (by decide) rfl (Bs1 := [[(a2, .inl (E.2.1, 40, .inl (upd f i v.toInt8.toInt32)))], [(a, .inr (3, [.ref a2, .int b, .int n9]))]]) rfl dX3_put_39 (fun H locs hP hD hS => ?_)
    refine lv_goto (tgt := 61) S.1 S.2.1 dX3_put_40 (by decide) ?_
    exact retV S hr hlk (by unfold cutV; rw [if_pos k_4_8]; exact hP) hS dX3_put_61
  by_cases k_4_16 : b = 16
  · refine lv_lookup (tgt := 43) (off := 39) S.1 S.2.1 dX3_put_4 (by decide) (by first | (rw [k_4_16]; done) | (rw [k_4_16]; rfl)) (by decide) ?_
    refine lv_aload_n S.1 S.2.1 dX3_put_43 rfl (lv_at hl 0 rfl) ?_
    refine gf_X3_9 S hK hP 1 0 rfl rfl rfl dX3_put_44 ?_
    refine lv_iload_n S.1 S.2.1 dX3_put_47 rfl (lv_at hl 1 rfl) ?_
    refine lv_iload_n S.1 S.2.1 dX3_put_48 rfl (lv_at hl 2 rfl) ?_
    refine lv_i2s S.1 S.2.1 dX3_put_49 rfl ?_
    refine b_iastN (i := i) S hK hP hD hS 0 0 rfl rfl (by omega) (by decide) rfl (Bs1 := [[(a2, .inl (E.2.1, 40, .inl (upd f i v.toInt16.toInt32)))], [(a, .inr (3, [.ref a2, .int b, .int n9]))]]) rfl dX3_put_50 (fun H locs hP hD hS => ?_)
    refine lv_goto (tgt := 61) S.1 S.2.1 dX3_put_51 (by decide) ?_
    exact retV S hr hlk (by unfold cutV; rw [if_neg k_4_8, if_pos k_4_16]; exact hP) hS dX3_put_61
  have t_4_8 := ne_toInt (n := 8) (by decide) k_4_8
  have t_4_16 := ne_toInt (n := 16) (by decide) k_4_16
  refine lv_lookup (tgt := 54) (off := 50) S.1 S.2.1 dX3_put_4 (by decide) (by simp [Op.lookupswitch.offset, Ne.symm t_4_8, t_4_8, Ne.symm t_4_16, t_4_16]) (by decide) ?_
  refine lv_aload_n S.1 S.2.1 dX3_put_54 rfl (lv_at hl 0 rfl) ?_
  refine gf_X3_9 S hK hP 1 0 rfl rfl rfl dX3_put_55 ?_
  refine lv_iload_n S.1 S.2.1 dX3_put_58 rfl (lv_at hl 1 rfl) ?_
  refine lv_iload_n S.1 S.2.1 dX3_put_59 rfl (lv_at hl 2 rfl) ?_
  refine b_iastN (i := i) S hK hP hD hS 0 0 rfl rfl (by omega) (by decide) rfl (Bs1 := [[(a2, .inl (E.2.1, 40, .inl (upd f i v)))], [(a, .inr (3, [.ref a2, .int b, .int n9]))]]) rfl dX3_put_60 (fun H locs hP hD hS => ?_)
  exact retV S hr hlk (by unfold cutV; rw [if_neg k_4_8, if_neg k_4_16]; exact hP) hS dX3_put_61
set_option maxHeartbeats 800000 in
set_option maxRecDepth 100000 in
theorem c_X3_begin (l : Launch) (E : EV) (a a2 : Nat) (f : Row) (b n9 v w : Int32)  : Met l yX3_begin (wq yX3_begin cX3_begin 4 none) ({ frames := 0, cells := 0, slots := 0, locals := 0 }) (preB E [.ref a, .int v, .int w] [[(a, .inr (3, [.ref a2, .int b, .int n9]))], [(a2, .inl (E.2.1, 40, .inl f))]]) (qV E [[(a, .inr (3, [.ref a2, .int b, .int n9]))], [(a2, .inl (E.2.1, 40, .inl f))]] [[(a, .inr (3, [.ref a2, .int v, .int w]))], [(a2, .inl (E.2.1, 40, .inl (zrF f 40)))]]) 0 0 (inB [[(a, .inr (3, [.ref a2, .int b, .int n9]))], [(a2, .inl (E.2.1, 40, .inl f))]]) := by
  refine M_mk RX3 (by decide) rfl (Nat.le_of_ble_eq_true rfl) ?_
  intro p e s m below meth c S hr hlk hK hP hD hS ls hl
  have hl : lv_has ls 4 [(0, .ref a), (1, .int v), (2, .int w)] := hl
  obtain ⟨H, hH⟩ : ∃ zz9, zz9 = s.heap := ⟨_, rfl⟩
  obtain ⟨locs, hlocs⟩ : ∃ zz9 : List Loc, zz9 = [] := ⟨_, rfl⟩
  have hP : PE E [[(a, .inr (3, [.ref a2, .int b, .int n9]))], [(a2, .inl (E.2.1, 40, .inl f))]] H := by rw [hH]; exact hP
  have hS : va_S (inB [[(a, .inr (3, [.ref a2, .int b, .int n9]))], [(a2, .inl (E.2.1, 40, .inl f))]]) s.heap H locs := by rw [hH, hlocs]; exact hS
  show W p l e ({ frames := 0, cells := 0, slots := 0, locals := 0 }) s m ([.ref a, .int v, .int w] : List Value).toArray below meth c s.heap [] 0 0 _ _
  suffices hgo : W p l e ({ frames := 0, cells := 0, slots := 0, locals := 0 }) s m ([.ref a, .int v, .int w] : List Value).toArray below meth c H locs 0 0 (MQ below (qV E [[(a, .inr (3, [.ref a2, .int b, .int n9]))], [(a2, .inl (E.2.1, 40, .inl f))]] [[(a, .inr (3, [.ref a2, .int v, .int w]))], [(a2, .inl (E.2.1, 40, .inl (zrF f 40)))]]) ([.ref a, .int v, .int w] : List Value).toArray s 0 0 (inB [[(a, .inr (3, [.ref a2, .int b, .int n9]))], [(a2, .inl (E.2.1, 40, .inl f))]])) (F0 m 0 ls []) by rw [hH, hlocs] at hgo; exact hgo
  clear hH hlocs
  refine lv_aload_n S.1 S.2.1 dX3_begin_0 rfl (lv_at hl 0 rfl) ?_
  refine lv_iload_n S.1 S.2.1 dX3_begin_1 rfl (lv_at hl 1 rfl) ?_
  refine pf_X3_15 S hK hP hD hS 0 0 rfl rfl (Nat.le_of_ble_eq_true rfl) rfl (Bs1 := [[(a, .inr (3, [.ref a2, .int v, .int n9]))], [(a2, .inl (E.2.1, 40, .inl f))]]) rfl dX3_begin_2 (fun H locs hP hD hS => ?_)
  refine lv_aload_n S.1 S.2.1 dX3_begin_5 rfl (lv_at hl 0 rfl) ?_
  refine lv_iload_n S.1 S.2.1 dX3_begin_6 rfl (lv_at hl 2 rfl) ?_
  refine pf_X3_19 S hK hP hD hS 0 0 rfl rfl (Nat.le_of_ble_eq_true rfl) rfl (Bs1 := [[(a, .inr (3, [.ref a2, .int v, .int w]))], [(a2, .inl (E.2.1, 40, .inl f))]]) rfl dX3_begin_7 (fun H locs hP hD hS => ?_)
  refine lv_iconst (v := 0) S.1 S.2.1 dX3_begin_10 (by decide) ?_
  refine lv_istore_n (lv' := [(3, .int 0), (0, .ref a), (1, .int v), (2, .int w)]) S.1 S.2.1 dX3_begin_11 rfl hl (by decide) rfl (fun ls hl => ?_)
  have L_12 : ∀ (fu : Nat) (i : Nat) (fi : Row), (i ≤ 40) → (40 < i + fu) → (fi = zrF f i) → ∀ (H : Heap) (locs : List Loc), PE E [[(a, .inr (3, [.ref a2, .int v, .int w]))], [(a2, .inl (E.2.1, 40, .inl fi))]] H → DE (inB [[(a, .inr (3, [.ref a2, .int b, .int n9]))], [(a2, .inl (E.2.1, 40, .inl f))]]) [[(a, .inr (3, [.ref a2, .int v, .int w]))], [(a2, .inl (E.2.1, 40, .inl fi))]] → va_S (inB [[(a, .inr (3, [.ref a2, .int b, .int n9]))], [(a2, .inl (E.2.1, 40, .inl f))]]) s.heap H locs → ∀ (ls : Array Slot), lv_has ls 4 [(0, .ref a), (3, .int (nI i))] → W p l e ({ frames := 0, cells := 0, slots := 0, locals := 0 }) s m ([.ref a, .int v, .int w] : List Value).toArray below meth c H locs 0 0 (MQ below (qV E [[(a, .inr (3, [.ref a2, .int b, .int n9]))], [(a2, .inl (E.2.1, 40, .inl f))]] [[(a, .inr (3, [.ref a2, .int v, .int w]))], [(a2, .inl (E.2.1, 40, .inl (zrF f 40)))]]) ([.ref a, .int v, .int w] : List Value).toArray s 0 0 (inB [[(a, .inr (3, [.ref a2, .int b, .int n9]))], [(a2, .inl (E.2.1, 40, .inl f))]])) (F0 m 12 ls []) := by
    intro fu
    induction fu with
    | zero =>
      intro i fi hi hf hfi
      omega
    | succ fu ih_12 =>
      intro i fi hi hf hfi H locs hP hD hS ls hl
      refine lv_iload_n S.1 S.2.1 dX3_begin_12 rfl (lv_at hl 1 rfl) ?_
      refine lv_bipush (v := 40) S.1 S.2.1 dX3_begin_13 (by decide) ?_
      refine lv_icmp_ge (tgt := 31) S.1 S.2.1 dX3_begin_15 (by decide) (fun c_15 => ?_) (fun c_15 => ?_)
      · have n_15 := Int32.not_lt.mpr c_15
        have hi9 : i = 40 := le_endK (n := 40) hi c_15 (by decide)
        exact retV S hr hlk (by rw [hfi, hi9] at hP; exact hP) hS dX3_begin_31
      · have n_15 := Int32.not_le.mp c_15
        have hi2 : i < 40 := lt_in (n := 40) c_15 hi
        refine lv_aload_n S.1 S.2.1 dX3_begin_18 rfl (lv_at hl 0 rfl) ?_
        refine gf_X3_9 S hK hP 0 0 rfl rfl rfl dX3_begin_19 ?_
        refine lv_iload_n S.1 S.2.1 dX3_begin_22 rfl (lv_at hl 1 rfl) ?_
        refine lv_iconst (v := 0) S.1 S.2.1 dX3_begin_23 (by decide) ?_
        refine b_iastN (i := i) S hK hP hD hS 1 0 rfl rfl (by omega) (by decide) rfl (Bs1 := [[(a, .inr (3, [.ref a2, .int v, .int w]))], [(a2, .inl (E.2.1, 40, .inl (upd fi i 0)))]]) rfl dX3_begin_24 (fun H locs hP hD hS => ?_)
        refine lv_iinc (v := nI (i + 1)) (lv' := [(3, .int (nI (i + 1))), (0, .ref a)]) S.1 S.2.1 dX3_begin_25 hl (k := 1) rfl (nI_1 i) (by decide) rfl (fun ls hl => ?_)
        refine lv_goto (tgt := 12) S.1 S.2.1 dX3_begin_28 (by decide) ?_
        exact ih_12 (i + 1) (upd fi i 0) (by omega) (by omega) (by rw [hfi]; exact zrF_s) H locs hP hD hS ls (lv_sub hl [1, 0] rfl)
  exact L_12 41 0 f (by omega) (by omega) zrF_0.symm H locs hP hD hS ls (lv_sub hl [1, 0] rfl)
set_option maxHeartbeats 800000 in
set_option maxRecDepth 100000 in
theorem c_X4_isWithin (l : Launch) (E : EV) (v hi : Int32)  : Met l yX4_isWithin (wq yX4_isWithin cX4_isWithin 2 (some .boolean)) ({ frames := 0, cells := 0, slots := 0, locals := 0 }) (preB E [.int v, .int hi] []) (qS (bI (0 ≤ v ∧ v ≤ hi))) 0 0 (fun _ => False) := by
  refine M_mk RX4 (by decide) rfl (Nat.le_of_ble_eq_true rfl) ?_
  intro p e s m below meth c S hr hlk hK hP hD hS ls hl
  have hl : lv_has ls 2 [(0, .int v), (1, .int hi)] := hl
  refine lv_iload_n S.1 S.2.1 dX4_isWithin_0 rfl (lv_at hl 0 rfl) ?_
  refine lv_if_lt (tgt := 13) S.1 S.2.1 dX4_isWithin_1 (by decide) (fun c_1 => ?_) (fun c_1 => ?_)
  · have n_1 := Int32.not_le.mpr c_1
    refine lv_iconst (v := 0) S.1 S.2.1 dX4_isWithin_13 (by decide) ?_
    exact retSZ S hr hlk rfl (if_neg (fun z9 => Int32.not_le.mpr c_1 z9.1)).symm dX4_isWithin_14
  · have n_1 := Int32.not_lt.mp c_1
    refine lv_iload_n S.1 S.2.1 dX4_isWithin_4 rfl (lv_at hl 0 rfl) ?_
    refine lv_iload_n S.1 S.2.1 dX4_isWithin_5 rfl (lv_at hl 1 rfl) ?_
    refine lv_icmp_gt (tgt := 13) S.1 S.2.1 dX4_isWithin_6 (by decide) (fun c_6 => ?_) (fun c_6 => ?_)
    · have n_6 := Int32.not_le.mpr c_6
      refine lv_iconst (v := 0) S.1 S.2.1 dX4_isWithin_13 (by decide) ?_
      exact retSZ S hr hlk rfl (if_neg (fun z9 => Int32.not_le.mpr c_6 z9.2)).symm dX4_isWithin_14
    · have n_6 := Int32.not_lt.mp c_6
      refine lv_iconst (v := 1) S.1 S.2.1 dX4_isWithin_9 (by decide) ?_
      refine lv_goto (tgt := 14) S.1 S.2.1 dX4_isWithin_10 (by decide) ?_
      exact retSZ S hr hlk rfl (if_pos ⟨Int32.not_lt.mp c_1, Int32.not_lt.mp c_6⟩).symm dX4_isWithin_14
set_option maxHeartbeats 800000 in
set_option maxRecDepth 100000 in
theorem c_X4_mostOf (l : Launch) (E : EV) (v : Int32)  : Met l yX4_mostOf (wq yX4_mostOf cX4_mostOf 1 (some .int)) ({ frames := 0, cells := 0, slots := 0, locals := 0 }) (preB E [.int v] []) (qS (mostV v)) 0 0 (fun _ => False) := by
  refine M_mk RX4 (by decide) rfl (Nat.le_of_ble_eq_true rfl) ?_
  intro p e s m below meth c S hr hlk hK hP hD hS ls hl
  have hl : lv_has ls 1 [(0, .int v)] := hl
  refine lv_iload_n S.1 S.2.1 dX4_mostOf_0 rfl (lv_at hl 0 rfl) ?_
  by_cases k_1_0 : v = 0
  · refine lv_tableIn (tgt := 36) S.1 S.2.1 dX4_mostOf_1 (by rw [k_1_0]; decide) (by rw [k_1_0]; decide) (by rw [k_1_0]; rfl) (by decide) ?_
    refine lv_bipush (v := 6) S.1 S.2.1 dX4_mostOf_36 (by decide) ?_
    exact retS S hr hlk (by first | (simp only [mostV, eq_true k_1_0, ↓reduceIte]; done) | (simp [mostV, eq_true k_1_0, ↓reduceIte]; done) | (simp [mostV, k_1_0]; done)) dX4_mostOf_38
  by_cases k_1_1 : v = 1
  · refine lv_tableIn (tgt := 39) S.1 S.2.1 dX4_mostOf_1 (by rw [k_1_1]; decide) (by rw [k_1_1]; decide) (by rw [k_1_1]; rfl) (by decide) ?_
    refine lv_bipush (v := 99) S.1 S.2.1 dX4_mostOf_39 (by decide) ?_
    exact retS S hr hlk (by first | (simp only [mostV, eq_true k_1_1, k_1_0, ↓reduceIte]; done) | (simp [mostV, eq_true k_1_1, k_1_0, ↓reduceIte]; done) | (simp [mostV, k_1_1, k_1_0]; done)) dX4_mostOf_41
  by_cases k_1_2 : v = 2
  · refine lv_tableIn (tgt := 42) S.1 S.2.1 dX4_mostOf_1 (by rw [k_1_2]; decide) (by rw [k_1_2]; decide) (by rw [k_1_2]; rfl) (by decide) ?_
    refine lv_bipush (v := 9) S.1 S.2.1 dX4_mostOf_42 (by decide) ?_
    exact retS S hr hlk (by first | (simp only [mostV, eq_true k_1_2, k_1_0, k_1_1, ↓reduceIte]; done) | (simp [mostV, eq_true k_1_2, k_1_0, k_1_1, ↓reduceIte]; done) | (simp [mostV, k_1_2, k_1_0, k_1_1]; done)) dX4_mostOf_44
  by_cases k_1_3 : v = 3
  · refine lv_tableIn (tgt := 45) S.1 S.2.1 dX4_mostOf_1 (by rw [k_1_3]; decide) (by rw [k_1_3]; decide) (by rw [k_1_3]; rfl) (by decide) ?_
    refine lv_sipush (v := 999) S.1 S.2.1 dX4_mostOf_45 (by decide) ?_
    exact retS S hr hlk (by first | (simp only [mostV, eq_true k_1_3, k_1_0, k_1_1, k_1_2, ↓reduceIte]; done) | (simp [mostV, eq_true k_1_3, k_1_0, k_1_1, k_1_2, ↓reduceIte]; done) | (simp [mostV, k_1_3, k_1_0, k_1_1, k_1_2]; done)) dX4_mostOf_48
  by_cases k_1_4 : v = 4
  · refine lv_tableIn (tgt := 49) S.1 S.2.1 dX4_mostOf_1 (by rw [k_1_4]; decide) (by rw [k_1_4]; decide) (by rw [k_1_4]; rfl) (by decide) ?_
    refine lv_bipush (v := 7) S.1 S.2.1 dX4_mostOf_49 (by decide) ?_
    exact retS S hr hlk (by first | (simp only [mostV, eq_true k_1_4, k_1_0, k_1_1, k_1_2, k_1_3, ↓reduceIte]; done) | (simp [mostV, eq_true k_1_4, k_1_0, k_1_1, k_1_2, k_1_3, ↓reduceIte]; done) | (simp [mostV, k_1_4, k_1_0, k_1_1, k_1_2, k_1_3]; done)) dX4_mostOf_51
  have t_1_0 := ne_toInt (n := 0) (by decide) k_1_0
  have t_1_1 := ne_toInt (n := 1) (by decide) k_1_1
  have t_1_2 := ne_toInt (n := 2) (by decide) k_1_2
  have t_1_3 := ne_toInt (n := 3) (by decide) k_1_3
  have t_1_4 := ne_toInt (n := 4) (by decide) k_1_4
  refine lv_tableOut (tgt := 52) S.1 S.2.1 dX4_mostOf_1 (by omega) (by decide) ?_
  refine lv_sipush (v := 9999) S.1 S.2.1 dX4_mostOf_52 (by decide) ?_
  exact retS S hr hlk (by first | (simp only [mostV, k_1_0, k_1_1, k_1_2, k_1_3, k_1_4, ↓reduceIte]; done) | (simp [mostV, k_1_0, k_1_1, k_1_2, k_1_3, k_1_4, ↓reduceIte]; done) | (simp [mostV, k_1_0, k_1_1, k_1_2, k_1_3, k_1_4]; done)) dX4_mostOf_55
set_option maxHeartbeats 800000 in
set_option maxRecDepth 100000 in
theorem c_X4_finding (l : Launch) (E : EV) (ag ah az ak : Nat → Nat) (i0 : Int32) (f : Row) (k : Nat) (hk : k < 7) : Met l yX4_finding (wq yX4_finding cX4_finding 2 (some .int)) ({ frames := 0, cells := 0, slots := 0, locals := 0 }) (preB E [.ref (ag 0), .int (nI k)] [[gObj ag ah az ak i0], [(ag 4, .inl (E.2.1, 7, .inl (sg f 7)))]]) (qI E [[gObj ag ah az ak i0], [(ag 4, .inl (E.2.1, 7, .inl (sg f 7)))]] [[gObj ag ah az ak i0], [(ag 4, .inl (E.2.1, 7, .inl (sg (upd f k (f k + 1)) 7)))]] (-1000001 - nI k)) 0 0 (inB [[gObj ag ah az ak i0], [(ag 4, .inl (E.2.1, 7, .inl (sg f 7)))]]) := by
  refine M_mk RX4 (by decide) rfl (Nat.le_of_ble_eq_true rfl) ?_
  intro p e s m below meth c S hr hlk hK hP hD hS ls hl
  have hl : lv_has ls 2 [(0, .ref (ag 0)), (1, .int (nI k))] := hl
  obtain ⟨H, hH⟩ : ∃ zz9, zz9 = s.heap := ⟨_, rfl⟩
  obtain ⟨locs, hlocs⟩ : ∃ zz9 : List Loc, zz9 = [] := ⟨_, rfl⟩
  have hP : PE E [[gObj ag ah az ak i0], [(ag 4, .inl (E.2.1, 7, .inl (sg f 7)))]] H := by rw [hH]; exact hP
  have hS : va_S (inB [[gObj ag ah az ak i0], [(ag 4, .inl (E.2.1, 7, .inl (sg f 7)))]]) s.heap H locs := by rw [hH, hlocs]; exact hS
  show W p l e ({ frames := 0, cells := 0, slots := 0, locals := 0 }) s m ([.ref (ag 0), .int (nI k)] : List Value).toArray below meth c s.heap [] 0 0 _ _
  suffices hgo : W p l e ({ frames := 0, cells := 0, slots := 0, locals := 0 }) s m ([.ref (ag 0), .int (nI k)] : List Value).toArray below meth c H locs 0 0 (MQ below (qI E [[gObj ag ah az ak i0], [(ag 4, .inl (E.2.1, 7, .inl (sg f 7)))]] [[gObj ag ah az ak i0], [(ag 4, .inl (E.2.1, 7, .inl (sg (upd f k (f k + 1)) 7)))]] (-1000001 - nI k)) ([.ref (ag 0), .int (nI k)] : List Value).toArray s 0 0 (inB [[gObj ag ah az ak i0], [(ag 4, .inl (E.2.1, 7, .inl (sg f 7)))]])) (F0 m 0 ls []) by rw [hH, hlocs] at hgo; exact hgo
  clear hH hlocs
  refine lv_aload_n S.1 S.2.1 dX4_finding_0 rfl (lv_at hl 0 rfl) ?_
  refine gf_X4_39 S hK hP 0 0 rfl rfl rfl dX4_finding_1 ?_
  refine lv_iload_n S.1 S.2.1 dX4_finding_4 rfl (lv_at hl 1 rfl) ?_
  refine lv_dup2_11 S.1 S.2.1 dX4_finding_5 rfl rfl ?_
  refine b_ialdN (i := k) S hK hP 1 0 rfl rfl (by omega) (by decide) dX4_finding_6 ?_
  refine lv_eqi (y := f k) (sg_at (by omega)) ?_
  refine lv_iconst (v := 1) S.1 S.2.1 dX4_finding_7 (by decide) ?_
  refine lv_iadd S.1 S.2.1 dX4_finding_8 ?_
  refine b_iastN (i := k) S hK hP hD hS 1 0 rfl rfl (by omega) (by decide) (sgs_upd (by omega)) (Bs1 := [[gObj ag ah az ak i0], [(ag 4, .inl (E.2.1, 7, .inl (sg (upd f k ((f k) + 1)) 7)))]]) rfl dX4_finding_9 (fun H locs hP hD hS => ?_)
  obtain ⟨r_9, er_9⟩ : ∃ zz9, zz9 = upd f k ((f k) + 1) := ⟨_, rfl⟩
  rw [← er_9] at hP hD
  refine lv_ldc (v := (-1000001)) S.1 S.2.1 S.2.2.2.1 (S.2.2.2.2 _ (List.mem_cons_of_mem _ kk_X4_244)) dX4_finding_10 ?_
  refine lv_iload_n S.1 S.2.1 dX4_finding_12 rfl (lv_at hl 1 rfl) ?_
  refine lv_isub S.1 S.2.1 dX4_finding_13 ?_
  exact retI S hr hlk (by rw [er_9] at hP; exact hP) hS rfl dX4_finding_14
set_option maxHeartbeats 800000 in
set_option maxRecDepth 100000 in
theorem c_X4_isPotter (l : Launch) (E : EV) (ag ah az ak : Nat → Nat) (i0 : Int32) (r : Row) (v : Int32)  : Met l yX4_isPotter (wq yX4_isPotter cX4_isPotter 2 (some .boolean)) ({ frames := 0, cells := 0, slots := 0, locals := 0 }) (preB E [.ref (ag 0), .int v] [[gObj ag ah az ak i0], hillsW E ah r]) (qS (bI (0 ≤ v ∧ v < r 1))) 0 0 (fun _ => False) := by
  refine M_mk RX4 (by decide) rfl (Nat.le_of_ble_eq_true rfl) ?_
  intro p e s m below meth c S hr hlk hK hP hD hS ls hl
  have hl : lv_has ls 2 [(0, .ref (ag 0)), (1, .int v)] := hl
  refine lv_iload_n S.1 S.2.1 dX4_isPotter_0 rfl (lv_at hl 1 rfl) ?_
  refine lv_if_lt (tgt := 19) S.1 S.2.1 dX4_isPotter_1 (by decide) (fun c_1 => ?_) (fun c_1 => ?_)
  · have n_1 := Int32.not_le.mpr c_1
    refine lv_iconst (v := 0) S.1 S.2.1 dX4_isPotter_19 (by decide) ?_
    exact retSZ S hr hlk rfl (if_neg (fun z9 => Int32.not_le.mpr c_1 z9.1)).symm dX4_isPotter_20
  · have n_1 := Int32.not_lt.mp c_1
    refine lv_iload_n S.1 S.2.1 dX4_isPotter_4 rfl (lv_at hl 1 rfl) ?_
    refine lv_aload_n S.1 S.2.1 dX4_isPotter_5 rfl (lv_at hl 0 rfl) ?_
    refine gf_X4_10 S hK hP 0 0 rfl rfl rfl dX4_isPotter_6 ?_
    refine gf_X4_160 S hK hP 1 0 rfl rfl rfl dX4_isPotter_9 ?_
    refine lv_icmp_ge (tgt := 19) S.1 S.2.1 dX4_isPotter_12 (by decide) (fun c_12 => ?_) (fun c_12 => ?_)
    · have n_12 := Int32.not_lt.mpr c_12
      refine lv_iconst (v := 0) S.1 S.2.1 dX4_isPotter_19 (by decide) ?_
      exact retSZ S hr hlk rfl (if_neg (fun z9 => Int32.not_lt.mpr c_12 z9.2)).symm dX4_isPotter_20
    · have n_12 := Int32.not_le.mp c_12
      refine lv_iconst (v := 1) S.1 S.2.1 dX4_isPotter_15 (by decide) ?_
      refine lv_goto (tgt := 20) S.1 S.2.1 dX4_isPotter_16 (by decide) ?_
      exact retSZ S hr hlk rfl (if_pos ⟨Int32.not_lt.mp c_1, Int32.not_le.mp c_12⟩).symm dX4_isPotter_20
