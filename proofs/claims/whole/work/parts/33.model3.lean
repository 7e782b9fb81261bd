theorem upd_lt {y x : Row} {i : Nat} (hy : ∀ j, j < i → y j = x j) : ∀ j, j < i + 1 → upd y i (x i) j = x j := fun j hj => by
  by_cases q : j = i
  · rw [q]; exact upd_at
  · rw [upd_ne q]; exact hy j (by omega)
def findM (f : Row) (k : Nat) : Row := upd (upd f (k + 1) (f (k + 1) + 1)) 0 (upd f (k + 1) (f (k + 1) + 1) 0 + 1)
def orNF (f : Row) (v : Int32) : Row := if 0 ≤ v then f else findM f 3
def orNV (v : Int32) : Int32 := if 0 ≤ v then v else -1000004
def clrP (r : Row) (n i : Nat) : Row := fun j => if 21 + 7 * n ≤ j ∧ j < 21 + 7 * n + i then 0 else r j
theorem clrP_0 {r : Row} {n : Nat} : clrP r n 0 = r := funext fun j => if_neg (by omega)
theorem clrP_s {r : Row} {n i : Nat} (h : i < 7) : upd (clrP r n i) (21 + 7 * n + i) 0 = clrP r n (i + 1) := funext fun j => by
  unfold upd clrP
  by_cases q : j = 21 + 7 * n + i
  · rw [if_pos q, if_pos (by omega)]
  · rw [if_neg q]
    by_cases q2 : 21 + 7 * n ≤ j ∧ j < 21 + 7 * n + i
    · rw [if_pos q2, if_pos (by omega)]
    · rw [if_neg q2, if_neg (by omega)]
theorem addM_eq {r : Row} {n : Nat} {v w : Int32} : upd (upd (upd (upd (clrP r n 7) (21 + 7 * n) v) (21 + 7 * n + 1) w) (21 + 7 * n + 2) 2) 1 (nI (n + 1)) = upd (putP r n (beginVs v w)) 1 (nI (n + 1)) := by
  congr 1
  funext j
  unfold upd clrP putP
  by_cases q : 21 + 7 * n ≤ j ∧ j < 21 + 7 * n + 7
  · simp only [if_pos q]
    obtain ⟨f, hf⟩ : ∃ f, j = 21 + 7 * n + f := ⟨j - (21 + 7 * n), by omega⟩
    subst hf
    rw [show 21 + 7 * n + f - (21 + 7 * n) = f by omega]
    match f with
    | 0 => rw [if_neg (by omega), if_neg (by omega), if_pos (by omega)]; rfl
    | 1 => rw [if_neg (by omega), if_pos (by omega)]; rfl
    | 2 => rw [if_pos (by omega)]; rfl
    | f + 3 => rw [if_neg (by omega), if_neg (by omega), if_neg (by omega)]; rfl
  · rw [if_neg (by omega), if_neg (by omega), if_neg (by omega), if_neg q, if_neg q]
def toldM (r : Row) (i w : Nat) : Int32 := if w = 7 then criesR r i else if w = 8 then weathersR r i (wthr r) else if w = 9 then needsR r i else if w = 10 then tintR r i else if w = 11 then fetchesR r i else if w = 12 then healsR r i else r (21 + 7 * i + w)
def fldB (w v : Int32) : Int32 := if w = 0 then bI (0 ≤ v ∧ v ≤ 6) else if w = 1 then bI (0 ≤ v ∧ v ≤ 99) else if w = 2 then bI (0 ≤ v ∧ v ≤ 9) else if w = 3 then bI (0 ≤ v ∧ v ≤ 999) else if w = 4 then bI (0 ≤ v ∧ v ≤ 7) else if w = 5 then bI (0 ≤ v ∧ v ≤ 9999) else if w = 6 then bI (0 ≤ v ∧ v ≤ 9999) else 0
def aboveV (v : Int32) : Int32 := if v = 0 then -1 else if v = 3 then 2 else if v = 4 then 3 else if v = 6 then 1 else 0
set_option maxHeartbeats 4000000 in
set_option maxRecDepth 100000 in
theorem c_X5_copyRow (l : Launch) (E : EV) (a1 a2 : Nat) (x y : Row)  : Met l yX5_copyRow (wq yX5_copyRow cX5_copyRow 3 none) ({ frames := 0, cells := 0, slots := 0, locals := 0 }) (preB E [.ref a1, .ref a2] [[(a1, .inl (E.2.1, 77, .inl (sg x 77)))], [(a2, .inl (E.2.1, 77, .inl (sg y 77)))]]) (qV E [[(a1, .inl (E.2.1, 77, .inl (sg x 77)))], [(a2, .inl (E.2.1, 77, .inl (sg y 77)))]] [[(a1, .inl (E.2.1, 77, .inl (sg x 77)))], [(a2, .inl (E.2.1, 77, .inl (sg x 77)))]]) 0 0 (inB [[(a1, .inl (E.2.1, 77, .inl (sg x 77)))], [(a2, .inl (E.2.1, 77, .inl (sg y 77)))]]) := by
  refine M_mk RX5 (by decide) rfl (Nat.le_of_ble_eq_true rfl) ?_
  intro p e s m below meth c S hr hlk hK hP hD hS ls hl
  have hl : lv_has ls 3 [(0, .ref a1), (1, .ref a2)] := hl
  obtain ⟨H, hH⟩ : ∃ z, z = s.heap := ⟨_, rfl⟩
  obtain ⟨locs, hlocs⟩ : ∃ z : List Loc, z = [] := ⟨_, rfl⟩
  have hP : PE E [[(a1, .inl (E.2.1, 77, .inl (sg x 77)))], [(a2, .inl (E.2.1, 77, .inl (sg y 77)))]] H := by rw [hH]; exact hP
  have hS : va_S (inB [[(a1, .inl (E.2.1, 77, .inl (sg x 77)))], [(a2, .inl (E.2.1, 77, .inl (sg y 77)))]]) s.heap H locs := by rw [hH, hlocs]; exact hS
  show W p l e ({ frames := 0, cells := 0, slots := 0, locals := 0 }) s m ([.ref a1, .ref a2] : List Value).toArray below meth c s.heap [] 0 0 _ _
  suffices hgo : W p l e ({ frames := 0, cells := 0, slots := 0, locals := 0 }) s m ([.ref a1, .ref a2] : List Value).toArray below meth c H locs 0 0 (MQ below (qV E [[(a1, .inl (E.2.1, 77, .inl (sg x 77)))], [(a2, .inl (E.2.1, 77, .inl (sg y 77)))]] [[(a1, .inl (E.2.1, 77, .inl (sg x 77)))], [(a2, .inl (E.2.1, 77, .inl (sg x 77)))]]) ([.ref a1, .ref a2] : List Value).toArray s 0 0 (inB [[(a1, .inl (E.2.1, 77, .inl (sg x 77)))], [(a2, .inl (E.2.1, 77, .inl (sg y 77)))]])) (F0 m 0 ls []) by rw [hH, hlocs] at hgo; exact hgo
  clear hH hlocs
  refine lv_iconst (v := 0) S.1 S.2.1 dX5_copyRow_0 (by decide) ?_
  refine lv_istore_n (lv' := [(2, .int 0), (0, .ref a1), (1, .ref a2)]) S.1 S.2.1 dX5_copyRow_1 rfl hl (by decide) rfl (fun ls hl => ?_)
  have L_2 : ∀ (fu : Nat) (i : Nat) (yi : Row), (i ≤ 77) → (77 < i + fu) → (∀ j, j < i → yi j = x j) → ∀ (H : Heap) (locs : List Loc), PE E [[(a1, .inl (E.2.1, 77, .inl (sg x 77)))], [(a2, .inl (E.2.1, 77, .inl (sg yi 77)))]] H → DE (inB [[(a1, .inl (E.2.1, 77, .inl (sg x 77)))], [(a2, .inl (E.2.1, 77, .inl (sg y 77)))]]) [[(a1, .inl (E.2.1, 77, .inl (sg x 77)))], [(a2, .inl (E.2.1, 77, .inl (sg yi 77)))]] → va_S (inB [[(a1, .inl (E.2.1, 77, .inl (sg x 77)))], [(a2, .inl (E.2.1, 77, .inl (sg y 77)))]]) s.heap H locs → ∀ (ls : Array Slot), lv_has ls 3 [(0, .ref a1), (1, .ref a2), (2, .int (nI i))] → W p l e ({ frames := 0, cells := 0, slots := 0, locals := 0 }) s m ([.ref a1, .ref a2] : List Value).toArray below meth c H locs 0 0 (MQ below (qV E [[(a1, .inl (E.2.1, 77, .inl (sg x 77)))], [(a2, .inl (E.2.1, 77, .inl (sg y 77)))]] [[(a1, .inl (E.2.1, 77, .inl (sg x 77)))], [(a2, .inl (E.2.1, 77, .inl (sg x 77)))]]) ([.ref a1, .ref a2] : List Value).toArray s 0 0 (inB [[(a1, .inl (E.2.1, 77, .inl (sg x 77)))], [(a2, .inl (E.2.1, 77, .inl (sg y 77)))]])) (F0 m 2 ls []) := by
    intro fu
    induction fu with
    | zero =>
      intro i yi hi hf hy
      omega
    | succ fu ih_2 =>
      intro i yi hi hf hy H locs hP hD hS ls hl
      refine lv_iload_n S.1 S.2.1 dX5_copyRow_2 rfl (lv_at hl 2 rfl) ?_
      refine lv_bipush (v := 77) S.1 S.2.1 dX5_copyRow_3 (by decide) ?_
      refine lv_icmp_ge (tgt := 20) S.1 S.2.1 dX5_copyRow_5 (by decide) (fun c_5 => ?_) (fun c_5 => ?_)
      · have n_5 := Int32.not_lt.mpr c_5
        have hi9 : i = 77 := le_endK (n := 77) hi c_5 (by decide)
        exact retV S hr hlk (by rw [sg_congr (r := x) (r2 := yi) (fun j hj => (hy j (by omega)).symm)]; rw [sg_congr (r := yi) (r2 := x) (fun j hj => hy j (by omega))] at hP ⊢; exact hP) hS dX5_copyRow_20
      · have n_5 := Int32.not_le.mp c_5
        have hi2 : i < 77 := lt_in (n := 77) c_5 hi
        refine lv_aload_n S.1 S.2.1 dX5_copyRow_8 rfl (lv_at hl 1 rfl) ?_
        refine lv_iload_n S.1 S.2.1 dX5_copyRow_9 rfl (lv_at hl 2 rfl) ?_
        refine lv_aload_n S.1 S.2.1 dX5_copyRow_10 rfl (lv_at hl 0 rfl) ?_
        refine lv_iload_n S.1 S.2.1 dX5_copyRow_11 rfl (lv_at hl 2 rfl) ?_
        refine b_ialdN (i := i) S hK hP 0 0 rfl rfl (by omega) (by decide) dX5_copyRow_12 ?_
        refine lv_eqi (y := x i) (sg_at (by omega)) ?_
        refine b_iastN (i := i) S hK hP hD hS 1 0 rfl rfl (by omega) (by decide) (sgs_upd (by omega)) (Bs1 := [[(a1, .inl (E.2.1, 77, .inl (sg x 77)))], [(a2, .inl (E.2.1, 77, .inl (sg (upd yi i (x i)) 77)))]]) rfl dX5_copyRow_13 (fun H locs hP hD hS => ?_)
        obtain ⟨r_13, er_13⟩ : ∃ z, z = upd yi i (x i) := ⟨_, rfl⟩
        rw [← er_13] at hP hD
        refine lv_iinc (v := nI (i + 1)) (lv' := [(2, .int (nI (i + 1))), (0, .ref a1), (1, .ref a2)]) S.1 S.2.1 dX5_copyRow_14 hl (k := 2) rfl (nI_1 i) (by decide) rfl (fun ls hl => ?_)
        refine lv_goto (tgt := 2) S.1 S.2.1 dX5_copyRow_17 (by decide) ?_
        exact ih_2 (i + 1) r_13 (by omega) (by omega) (by rw [er_13]; exact upd_lt hy) H locs hP hD hS ls (lv_sub hl [1, 2, 0] rfl)
  exact L_2 (77 + 1) 0 y (by omega) (by omega) (fun j hj => absurd hj (by omega)) H locs hP hD hS ls (lv_sub hl [1, 2, 0] rfl)
set_option maxHeartbeats 4000000 in
set_option maxRecDepth 100000 in
theorem c_X5_putBack (l : Launch) (E : EV) (am : Nat → Nat) (q r x : Row) (v : Int32)  : Met l yX5_putBack (wq yX5_putBack cX5_putBack 2 (some .int)) ({ frames := 1, cells := 0, slots := 0, locals := 22 }) (preB E [.ref (am 0), .int v] [[mObj am q], [(am 1, .inl (E.2.1, 77, .inl (sg r 77)))], [(am 3, .inl (E.2.1, 77, .inl (sg x 77)))]]) (qI E [[mObj am q], [(am 1, .inl (E.2.1, 77, .inl (sg r 77)))], [(am 3, .inl (E.2.1, 77, .inl (sg x 77)))]] [[mObj am q], [(am 1, .inl (E.2.1, 77, .inl (sg x 77)))], [(am 3, .inl (E.2.1, 77, .inl (sg x 77)))]] v) 0 0 (inB [[mObj am q], [(am 1, .inl (E.2.1, 77, .inl (sg r 77)))], [(am 3, .inl (E.2.1, 77, .inl (sg x 77)))]]) := by
  refine M_mk RX5 (by decide) rfl (Nat.le_of_ble_eq_true rfl) ?_
  intro p e s m below meth c S hr hlk hK hP hD hS ls hl
  have hl : lv_has ls 2 [(0, .ref (am 0)), (1, .int v)] := hl
  obtain ⟨H, hH⟩ : ∃ z, z = s.heap := ⟨_, rfl⟩
  obtain ⟨locs, hlocs⟩ : ∃ z : List Loc, z = [] := ⟨_, rfl⟩
  have hP : PE E [[mObj am q], [(am 1, .inl (E.2.1, 77, .inl (sg r 77)))], [(am 3, .inl (E.2.1, 77, .inl (sg x 77)))]] H := by rw [hH]; exact hP
  have hS : va_S (inB [[mObj am q], [(am 1, .inl (E.2.1, 77, .inl (sg r 77)))], [(am 3, .inl (E.2.1, 77, .inl (sg x 77)))]]) s.heap H locs := by rw [hH, hlocs]; exact hS
  show W p l e ({ frames := 1, cells := 0, slots := 0, locals := 22 }) s m ([.ref (am 0), .int v] : List Value).toArray below meth c s.heap [] 0 0 _ _
  suffices hgo : W p l e ({ frames := 1, cells := 0, slots := 0, locals := 22 }) s m ([.ref (am 0), .int v] : List Value).toArray below meth c H locs 0 0 (MQ below (qI E [[mObj am q], [(am 1, .inl (E.2.1, 77, .inl (sg r 77)))], [(am 3, .inl (E.2.1, 77, .inl (sg x 77)))]] [[mObj am q], [(am 1, .inl (E.2.1, 77, .inl (sg x 77)))], [(am 3, .inl (E.2.1, 77, .inl (sg x 77)))]] v) ([.ref (am 0), .int v] : List Value).toArray s 0 0 (inB [[mObj am q], [(am 1, .inl (E.2.1, 77, .inl (sg r 77)))], [(am 3, .inl (E.2.1, 77, .inl (sg x 77)))]])) (F0 m 0 ls []) by rw [hH, hlocs] at hgo; exact hgo
  clear hH hlocs
  refine lv_aload_n S.1 S.2.1 dX5_putBack_0 rfl (lv_at hl 0 rfl) ?_
  refine gf_X5_16 S hK hP 0 0 rfl rfl rfl dX5_putBack_1 ?_
  refine lv_aload_n S.1 S.2.1 dX5_putBack_4 rfl (lv_at hl 0 rfl) ?_
  refine gf_X5_9 S hK hP 0 0 rfl rfl rfl dX5_putBack_5 ?_
  refine go_V (run_S (As := [.ref (am 3), .ref (am 1)]) (rest := []) (n := 2) S hK (bl_P hP [2, 1] rfl) (bl_D hD [2, 1] rfl rfl) (c_X5_copyRow l E (am 3) (am 1) x r ) gS_X5_61 (by decide +kernel) rfl ⟨rfl, rfl⟩ ⟨Nat.le_of_ble_eq_true rfl, Nat.le_of_ble_eq_true rfl⟩ hl.1 (Nat.le_of_ble_eq_true rfl) dX5_putBack_8 ⟨Nat.zero_le _, Nat.zero_le _⟩) hP hD hS [2, 1] rfl (had_cons rfl (had_cons cell_ad rfl)) (Bs' := [[mObj am q], [(am 1, .inl (E.2.1, 77, .inl (sg x 77)))], [(am 3, .inl (E.2.1, 77, .inl (sg x 77)))]]) rfl (fun H locs hP hD hS => ?_)
  refine lv_iload_n S.1 S.2.1 dX5_putBack_11 rfl (lv_at hl 1 rfl) ?_
  exact retI S hr hlk hP hS rfl dX5_putBack_12
set_option maxHeartbeats 4000000 in
set_option maxRecDepth 100000 in
theorem c_X5_behind (l : Launch) (E : EV) (am : Nat → Nat) (q r x : Row) (p9 n : Nat) (hp : p9 < 77) (hn9 : n < 2147483648) (hR : RI r) : Met l yX5_behind (wq yX5_behind cX5_behind 3 (some .int)) ({ frames := 7, cells := 0, slots := 0, locals := 149 }) (preB E [.ref (am 0), .int (nI p9), .int (nI n)] [[mObj am q], [(am 1, .inl (E.2.1, 77, .inl (sg r 77)))], [(am 3, .inl (E.2.1, 77, .inl (sg x 77)))]]) (qI E [[mObj am q], [(am 1, .inl (E.2.1, 77, .inl (sg r 77)))], [(am 3, .inl (E.2.1, 77, .inl (sg x 77)))]] [[mObj am q], [(am 1, .inl (E.2.1, 77, .inl (sg r 77)))], [(am 3, .inl (E.2.1, 77, .inl (sg r 77)))]] (daysF r n p9)) 0 0 (inB [[mObj am q], [(am 1, .inl (E.2.1, 77, .inl (sg r 77)))], [(am 3, .inl (E.2.1, 77, .inl (sg x 77)))]]) := by
  refine M_mk RX5 (by decide) rfl (Nat.le_of_ble_eq_true rfl) ?_
  intro p e s m below meth c S hr hlk hK hP hD hS ls hl
  have hl : lv_has ls 3 [(0, .ref (am 0)), (1, .int (nI p9)), (2, .int (nI n))] := hl
  obtain ⟨H, hH⟩ : ∃ z, z = s.heap := ⟨_, rfl⟩
  obtain ⟨locs, hlocs⟩ : ∃ z : List Loc, z = [] := ⟨_, rfl⟩
  have hP : PE E [[mObj am q], [(am 1, .inl (E.2.1, 77, .inl (sg r 77)))], [(am 3, .inl (E.2.1, 77, .inl (sg x 77)))]] H := by rw [hH]; exact hP
  have hS : va_S (inB [[mObj am q], [(am 1, .inl (E.2.1, 77, .inl (sg r 77)))], [(am 3, .inl (E.2.1, 77, .inl (sg x 77)))]]) s.heap H locs := by rw [hH, hlocs]; exact hS
  show W p l e ({ frames := 7, cells := 0, slots := 0, locals := 149 }) s m ([.ref (am 0), .int (nI p9), .int (nI n)] : List Value).toArray below meth c s.heap [] 0 0 _ _
  suffices hgo : W p l e ({ frames := 7, cells := 0, slots := 0, locals := 149 }) s m ([.ref (am 0), .int (nI p9), .int (nI n)] : List Value).toArray below meth c H locs 0 0 (MQ below (qI E [[mObj am q], [(am 1, .inl (E.2.1, 77, .inl (sg r 77)))], [(am 3, .inl (E.2.1, 77, .inl (sg x 77)))]] [[mObj am q], [(am 1, .inl (E.2.1, 77, .inl (sg r 77)))], [(am 3, .inl (E.2.1, 77, .inl (sg r 77)))]] (daysF r n p9)) ([.ref (am 0), .int (nI p9), .int (nI n)] : List Value).toArray s 0 0 (inB [[mObj am q], [(am 1, .inl (E.2.1, 77, .inl (sg r 77)))], [(am 3, .inl (E.2.1, 77, .inl (sg x 77)))]])) (F0 m 0 ls []) by rw [hH, hlocs] at hgo; exact hgo
  clear hH hlocs
  refine lv_aload_n S.1 S.2.1 dX5_behind_0 rfl (lv_at hl 0 rfl) ?_
  refine gf_X5_9 S hK hP 0 0 rfl rfl rfl dX5_behind_1 ?_
  refine lv_aload_n S.1 S.2.1 dX5_behind_4 rfl (lv_at hl 0 rfl) ?_
  refine gf_X5_16 S hK hP 0 0 rfl rfl rfl dX5_behind_5 ?_
  refine go_V (run_S (As := [.ref (am 1), .ref (am 3)]) (rest := []) (n := 2) S hK (bl_P hP [1, 2] rfl) (bl_D hD [1, 2] rfl rfl) (c_X5_copyRow l E (am 1) (am 3) r x ) gS_X5_61 (by decide +kernel) rfl ⟨rfl, rfl⟩ ⟨Nat.le_of_ble_eq_true rfl, Nat.le_of_ble_eq_true rfl⟩ hl.1 (Nat.le_of_ble_eq_true rfl) dX5_behind_8 ⟨Nat.zero_le _, Nat.zero_le _⟩) hP hD hS [1, 2] rfl (had_cons rfl (had_cons cell_ad rfl)) (Bs' := [[mObj am q], [(am 1, .inl (E.2.1, 77, .inl (sg r 77)))], [(am 3, .inl (E.2.1, 77, .inl (sg r 77)))]]) rfl (fun H locs hP hD hS => ?_)
  refine lv_aload_n S.1 S.2.1 dX5_behind_11 rfl (lv_at hl 0 rfl) ?_
  refine lv_iload_n S.1 S.2.1 dX5_behind_12 rfl (lv_at hl 2 rfl) ?_
  refine go_V (run_V (As := [.int (nI n)]) (rest := []) (n := 1) S hK (bl_P hP [0, 1] rfl) (bl_D hD [0, 1] rfl rfl) (c_X5_daysGo l E am q r n (by omega) hR) gV_X5_150 (by decide +kernel) rfl ⟨rfl, rfl⟩ ⟨Nat.le_of_ble_eq_true rfl, Nat.le_of_ble_eq_true rfl⟩ (ci := 5) (q0 := 0) rfl rfl hl.1 (Nat.le_of_ble_eq_true rfl) dX5_behind_13 ⟨Nat.zero_le _, Nat.zero_le _⟩) hP hD hS [0, 1] rfl (had_cons rfl (had_cons cell_ad rfl)) (Bs' := [[mObj am q], [(am 1, .inl (E.2.1, 77, .inl (sg (daysF r n) 77)))], [(am 3, .inl (E.2.1, 77, .inl (sg r 77)))]]) rfl (fun H locs hP hD hS => ?_)
  obtain ⟨r_13, er_13⟩ : ∃ z : Row, z = daysF r n := ⟨_, rfl⟩
  rw [← er_13] at hP hD
  have hr_13_RI : RI r_13 := by rw [er_13]; exact daysF_RI hR _
  refine lv_aload_n S.1 S.2.1 dX5_behind_16 rfl (lv_at hl 0 rfl) ?_
  refine lv_aload_n S.1 S.2.1 dX5_behind_17 rfl (lv_at hl 0 rfl) ?_
  refine gf_X5_9 S hK hP 0 0 rfl rfl rfl dX5_behind_18 ?_
  refine lv_iload_n S.1 S.2.1 dX5_behind_21 rfl (lv_at hl 1 rfl) ?_
  refine b_ialdN (i := p9) S hK hP 1 0 rfl rfl (by omega) (by decide) dX5_behind_22 ?_
  refine lv_eqi (y := r_13 p9) (sg_at (by omega)) ?_
  refine go_I (run_V (As := [.int (r_13 p9)]) (rest := []) (n := 1) S hK (bl_P hP [0, 1, 2] rfl) (bl_D hD [0, 1, 2] rfl rfl) (c_X5_putBack l E am q r_13 r (r_13 p9) ) gV_X5_165 (by decide +kernel) rfl ⟨rfl, rfl⟩ ⟨Nat.le_of_ble_eq_true rfl, Nat.le_of_ble_eq_true rfl⟩ (ci := 5) (q0 := 0) rfl rfl hl.1 (Nat.le_of_ble_eq_true rfl) dX5_behind_23 ⟨Nat.zero_le _, Nat.zero_le _⟩) hP hD hS [0, 1, 2] rfl (had_cons rfl (had_cons cell_ad (had_cons rfl rfl))) (Bs' := [[mObj am q], [(am 1, .inl (E.2.1, 77, .inl (sg r 77)))], [(am 3, .inl (E.2.1, 77, .inl (sg r 77)))]]) rfl (fun H locs hP hD hS => ?_)
  exact retI S hr hlk hP hS (by rw [er_13]) dX5_behind_26
set_option maxHeartbeats 4000000 in
set_option maxRecDepth 100000 in
theorem c_X5_finding (l : Launch) (E : EV) (am : Nat → Nat) (q f : Row) (v : Int32) (k : Nat) (hv : (-1000001) - v + 1 = nI (k + 1)) (hk : k < 7) : Met l yX5_finding (wq yX5_finding cX5_finding 2 (some .int)) ({ frames := 0, cells := 0, slots := 0, locals := 0 }) (preB E [.ref (am 0), .int v] [[mObj am q], [(am 4, .inl (E.2.1, 8, .inl (sg f 8)))]]) (qI E [[mObj am q], [(am 4, .inl (E.2.1, 8, .inl (sg f 8)))]] [[mObj am q], [(am 4, .inl (E.2.1, 8, .inl (sg (findM f k) 8)))]] v) 0 0 (inB [[mObj am q], [(am 4, .inl (E.2.1, 8, .inl (sg f 8)))]]) := by
  refine M_mk RX5 (by decide) rfl (Nat.le_of_ble_eq_true rfl) ?_
  intro p e s m below meth c S hr hlk hK hP hD hS ls hl
  have hl : lv_has ls 2 [(0, .ref (am 0)), (1, .int v)] := hl
  obtain ⟨H, hH⟩ : ∃ z, z = s.heap := ⟨_, rfl⟩
  obtain ⟨locs, hlocs⟩ : ∃ z : List Loc, z = [] := ⟨_, rfl⟩
  have hP : PE E [[mObj am q], [(am 4, .inl (E.2.1, 8, .inl (sg f 8)))]] H := by rw [hH]; exact hP
  have hS : va_S (inB [[mObj am q], [(am 4, .inl (E.2.1, 8, .inl (sg f 8)))]]) s.heap H locs := by rw [hH, hlocs]; exact hS
  show W p l e ({ frames := 0, cells := 0, slots := 0, locals := 0 }) s m ([.ref (am 0), .int v] : List Value).toArray below meth c s.heap [] 0 0 _ _
  suffices hgo : W p l e ({ frames := 0, cells := 0, slots := 0, locals := 0 }) s m ([.ref (am 0), .int v] : List Value).toArray below meth c H locs 0 0 (MQ below (qI E [[mObj am q], [(am 4, .inl (E.2.1, 8, .inl (sg f 8)))]] [[mObj am q], [(am 4, .inl (E.2.1, 8, .inl (sg (findM f k) 8)))]] v) ([.ref (am 0), .int v] : List Value).toArray s 0 0 (inB [[mObj am q], [(am 4, .inl (E.2.1, 8, .inl (sg f 8)))]])) (F0 m 0 ls []) by rw [hH, hlocs] at hgo; exact hgo
  clear hH hlocs
  refine lv_aload_n S.1 S.2.1 dX5_finding_0 rfl (lv_at hl 0 rfl) ?_
  refine gf_X5_19 S hK hP 0 0 rfl rfl rfl dX5_finding_1 ?_
  refine lv_ldc (v := (-1000001)) S.1 S.2.1 S.2.2.2.1 (S.2.2.2.2 _ (List.mem_cons_of_mem _ kk_X5_60)) dX5_finding_4 ?_
  refine lv_iload_n S.1 S.2.1 dX5_finding_6 rfl (lv_at hl 1 rfl) ?_
  refine lv_isub S.1 S.2.1 dX5_finding_7 ?_
  refine lv_iconst (v := 1) S.1 S.2.1 dX5_finding_8 (by decide) ?_
  refine lv_iadd S.1 S.2.1 dX5_finding_9 ?_
  refine lv_eqi (y := nI (k + 1)) hv ?_
  refine lv_dup2_11 S.1 S.2.1 dX5_finding_10 rfl rfl ?_
  refine b_ialdN (i := k + 1) S hK hP 1 0 rfl rfl (by omega) (by decide) dX5_finding_11 ?_
  refine lv_eqi (y := f (k + 1)) (sg_at (by omega)) ?_
  refine lv_iconst (v := 1) S.1 S.2.1 dX5_finding_12 (by decide) ?_
  refine lv_iadd S.1 S.2.1 dX5_finding_13 ?_
  refine b_iastN (i := k + 1) S hK hP hD hS 1 0 rfl rfl (by omega) (by decide) (sgs_upd (by omega)) (Bs1 := [[mObj am q], [(am 4, .inl (E.2.1, 8, .inl (sg (upd f (k + 1) ((f (k + 1)) + 1)) 8)))]]) rfl dX5_finding_14 (fun H locs hP hD hS => ?_)
  obtain ⟨r_14, er_14⟩ : ∃ z, z = upd f (k + 1) ((f (k + 1)) + 1) := ⟨_, rfl⟩
  rw [← er_14] at hP hD
  refine lv_aload_n S.1 S.2.1 dX5_finding_15 rfl (lv_at hl 0 rfl) ?_
  refine gf_X5_19 S hK hP 0 0 rfl rfl rfl dX5_finding_16 ?_
  refine lv_iconst (v := 0) S.1 S.2.1 dX5_finding_19 (by decide) ?_
  refine lv_dup2_11 S.1 S.2.1 dX5_finding_20 rfl rfl ?_
  refine b_ialdN (i := 0) S hK hP 1 0 rfl rfl (by omega) (by decide) dX5_finding_21 ?_
  refine lv_eqi (y := r_14 0) (sg_at (by omega)) ?_
  refine lv_iconst (v := 1) S.1 S.2.1 dX5_finding_22 (by decide) ?_
  refine lv_iadd S.1 S.2.1 dX5_finding_23 ?_
  refine b_iastN (i := 0) S hK hP hD hS 1 0 rfl rfl (by omega) (by decide) (sgs_upd (by omega)) (Bs1 := [[mObj am q], [(am 4, .inl (E.2.1, 8, .inl (sg (upd r_14 0 ((r_14 0) + 1)) 8)))]]) rfl dX5_finding_24 (fun H locs hP hD hS => ?_)
  obtain ⟨r_24, er_24⟩ : ∃ z, z = upd r_14 0 ((r_14 0) + 1) := ⟨_, rfl⟩
  rw [← er_24] at hP hD
  refine lv_iload_n S.1 S.2.1 dX5_finding_25 rfl (lv_at hl 1 rfl) ?_
  exact retI S hr hlk (by rw [show findM f k = r_24 by (rw [er_24, er_14]; rfl)]; exact hP) hS rfl dX5_finding_26
set_option maxHeartbeats 4000000 in
set_option maxRecDepth 100000 in
theorem c_X5_orNone (l : Launch) (E : EV) (am : Nat → Nat) (q f : Row) (v : Int32)  : Met l yX5_orNone (wq yX5_orNone cX5_orNone 2 (some .int)) ({ frames := 1, cells := 0, slots := 0, locals := 21 }) (preB E [.ref (am 0), .int v] [[mObj am q], [(am 4, .inl (E.2.1, 8, .inl (sg f 8)))]]) (qI E [[mObj am q], [(am 4, .inl (E.2.1, 8, .inl (sg f 8)))]] [[mObj am q], [(am 4, .inl (E.2.1, 8, .inl (sg (orNF f v) 8)))]] (orNV v)) 0 0 (inB [[mObj am q], [(am 4, .inl (E.2.1, 8, .inl (sg f 8)))]]) := by
  refine M_mk RX5 (by decide) rfl (Nat.le_of_ble_eq_true rfl) ?_
  intro p e s m below meth c S hr hlk hK hP hD hS ls hl
  have hl : lv_has ls 2 [(0, .ref (am 0)), (1, .int v)] := hl
  obtain ⟨H, hH⟩ : ∃ z, z = s.heap := ⟨_, rfl⟩
  obtain ⟨locs, hlocs⟩ : ∃ z : List Loc, z = [] := ⟨_, rfl⟩
  have hP : PE E [[mObj am q], [(am 4, .inl (E.2.1, 8, .inl (sg f 8)))]] H := by rw [hH]; exact hP
  have hS : va_S (inB [[mObj am q], [(am 4, .inl (E.2.1, 8, .inl (sg f 8)))]]) s.heap H locs := by rw [hH, hlocs]; exact hS
  show W p l e ({ frames := 1, cells := 0, slots := 0, locals := 21 }) s m ([.ref (am 0), .int v] : List Value).toArray below meth c s.heap [] 0 0 _ _
  suffices hgo : W p l e ({ frames := 1, cells := 0, slots := 0, locals := 21 }) s m ([.ref (am 0), .int v] : List Value).toArray below meth c H locs 0 0 (MQ below (qI E [[mObj am q], [(am 4, .inl (E.2.1, 8, .inl (sg f 8)))]] [[mObj am q], [(am 4, .inl (E.2.1, 8, .inl (sg (orNF f v) 8)))]] (orNV v)) ([.ref (am 0), .int v] : List Value).toArray s 0 0 (inB [[mObj am q], [(am 4, .inl (E.2.1, 8, .inl (sg f 8)))]])) (F0 m 0 ls []) by rw [hH, hlocs] at hgo; exact hgo
  clear hH hlocs
  refine lv_iload_n S.1 S.2.1 dX5_orNone_0 rfl (lv_at hl 1 rfl) ?_
  refine lv_if_ge (tgt := 13) S.1 S.2.1 dX5_orNone_1 (by decide) (fun c_1 => ?_) (fun c_1 => ?_)
  · have n_1 := Int32.not_lt.mpr c_1
    refine lv_iload_n S.1 S.2.1 dX5_orNone_13 rfl (lv_at hl 1 rfl) ?_
    exact retI S hr hlk (by rw [show orNF f v = f from if_pos c_1]; exact hP) hS (by unfold orNV; rw [if_pos c_1]) dX5_orNone_14
  · have n_1 := Int32.not_le.mp c_1
    refine lv_aload_n S.1 S.2.1 dX5_orNone_4 rfl (lv_at hl 0 rfl) ?_
    refine lv_ldc (v := (-1000004)) S.1 S.2.1 S.2.2.2.1 (S.2.2.2.2 _ (List.mem_cons_of_mem _ kk_X5_65)) dX5_orNone_5 ?_
    refine go_I (run_V (As := [.int (-1000004)]) (rest := []) (n := 1) S hK (bl_P hP [0, 1] rfl) (bl_D hD [0, 1] rfl rfl) (c_X5_finding l E am q f (-1000004) 3 (by decide) (by decide)) gV_X5_66 (by decide +kernel) rfl ⟨rfl, rfl⟩ ⟨Nat.le_of_ble_eq_true rfl, Nat.le_of_ble_eq_true rfl⟩ (ci := 5) (q0 := 0) rfl rfl hl.1 (Nat.le_of_ble_eq_true rfl) dX5_orNone_7 ⟨Nat.zero_le _, Nat.zero_le _⟩) hP hD hS [0, 1] rfl (had_cons rfl (had_cons cell_ad rfl)) (Bs' := [[mObj am q], [(am 4, .inl (E.2.1, 8, .inl (sg (findM f 3) 8)))]]) rfl (fun H locs hP hD hS => ?_)
    obtain ⟨r_7, er_7⟩ : ∃ z : Row, z = findM f 3 := ⟨_, rfl⟩
    rw [← er_7] at hP hD
    refine lv_goto (tgt := 14) S.1 S.2.1 dX5_orNone_10 (by decide) ?_
    exact retI S hr hlk (by rw [show orNF f v = r_7 by (unfold orNF; rw [if_neg c_1, er_7])]; exact hP) hS (by unfold orNV; rw [if_neg c_1]) dX5_orNone_14
set_option maxHeartbeats 4000000 in
set_option maxRecDepth 100000 in
theorem c_X5_become (l : Launch) (E : EV) (am : Nat → Nat) (q r : Row) (p9 : Nat) (v : Int32) (hp : p9 < 77) : Met l yX5_become (wq yX5_become cX5_become 4 (some .int)) ({ frames := 0, cells := 0, slots := 0, locals := 0 }) (preB E [.ref (am 0), .int (nI p9), .int v] [[mObj am q], [(am 1, .inl (E.2.1, 77, .inl (sg r 77)))]]) (qI E [[mObj am q], [(am 1, .inl (E.2.1, 77, .inl (sg r 77)))]] [[mObj am q], [(am 1, .inl (E.2.1, 77, .inl (sg (upd r p9 v) 77)))]] (r p9)) 0 0 (inB [[mObj am q], [(am 1, .inl (E.2.1, 77, .inl (sg r 77)))]]) := by
  refine M_mk RX5 (by decide) rfl (Nat.le_of_ble_eq_true rfl) ?_
  intro p e s m below meth c S hr hlk hK hP hD hS ls hl
  have hl : lv_has ls 4 [(0, .ref (am 0)), (1, .int (nI p9)), (2, .int v)] := hl
  obtain ⟨H, hH⟩ : ∃ z, z = s.heap := ⟨_, rfl⟩
  obtain ⟨locs, hlocs⟩ : ∃ z : List Loc, z = [] := ⟨_, rfl⟩
  have hP : PE E [[mObj am q], [(am 1, .inl (E.2.1, 77, .inl (sg r 77)))]] H := by rw [hH]; exact hP
  have hS : va_S (inB [[mObj am q], [(am 1, .inl (E.2.1, 77, .inl (sg r 77)))]]) s.heap H locs := by rw [hH, hlocs]; exact hS
  show W p l e ({ frames := 0, cells := 0, slots := 0, locals := 0 }) s m ([.ref (am 0), .int (nI p9), .int v] : List Value).toArray below meth c s.heap [] 0 0 _ _
  suffices hgo : W p l e ({ frames := 0, cells := 0, slots := 0, locals := 0 }) s m ([.ref (am 0), .int (nI p9), .int v] : List Value).toArray below meth c H locs 0 0 (MQ below (qI E [[mObj am q], [(am 1, .inl (E.2.1, 77, .inl (sg r 77)))]] [[mObj am q], [(am 1, .inl (E.2.1, 77, .inl (sg (upd r p9 v) 77)))]] (r p9)) ([.ref (am 0), .int (nI p9), .int v] : List Value).toArray s 0 0 (inB [[mObj am q], [(am 1, .inl (E.2.1, 77, .inl (sg r 77)))]])) (F0 m 0 ls []) by rw [hH, hlocs] at hgo; exact hgo
  clear hH hlocs
  refine lv_aload_n S.1 S.2.1 dX5_become_0 rfl (lv_at hl 0 rfl) ?_
  refine gf_X5_9 S hK hP 0 0 rfl rfl rfl dX5_become_1 ?_
  refine lv_iload_n S.1 S.2.1 dX5_become_4 rfl (lv_at hl 1 rfl) ?_
  refine b_ialdN (i := p9) S hK hP 1 0 rfl rfl (by omega) (by decide) dX5_become_5 ?_
  refine lv_eqi (y := r p9) (sg_at (by omega)) ?_
  refine lv_istore_n (lv' := [(3, .int (r p9)), (0, .ref (am 0)), (1, .int (nI p9)), (2, .int v)]) S.1 S.2.1 dX5_become_6 rfl hl (by decide) rfl (fun ls hl => ?_)
  refine lv_aload_n S.1 S.2.1 dX5_become_7 rfl (lv_at hl 1 rfl) ?_
  refine gf_X5_9 S hK hP 0 0 rfl rfl rfl dX5_become_8 ?_
  refine lv_iload_n S.1 S.2.1 dX5_become_11 rfl (lv_at hl 2 rfl) ?_
  refine lv_iload_n S.1 S.2.1 dX5_become_12 rfl (lv_at hl 3 rfl) ?_
  refine b_iastN (i := p9) S hK hP hD hS 1 0 rfl rfl (by omega) (by decide) (sgs_upd (by omega)) (Bs1 := [[mObj am q], [(am 1, .inl (E.2.1, 77, .inl (sg (upd r p9 v) 77)))]]) rfl dX5_become_13 (fun H locs hP hD hS => ?_)
  obtain ⟨r_13, er_13⟩ : ∃ z, z = upd r p9 v := ⟨_, rfl⟩
  rw [← er_13] at hP hD
  refine lv_iload_n S.1 S.2.1 dX5_become_14 rfl (lv_at hl 0 rfl) ?_
  exact retI S hr hlk (by rw [← er_13]; exact hP) hS rfl dX5_become_15
set_option maxHeartbeats 4000000 in
set_option maxRecDepth 100000 in
theorem c_X5_comes (l : Launch) (E : EV) (am : Nat → Nat) (q r : Row) (v w : Int32) (n : Nat) (hn : r 1 = nI n) (hn8 : n < 8) : Met l yX5_comes (wq yX5_comes cX5_comes 5 (some .int)) ({ frames := 1, cells := 0, slots := 0, locals := 21 }) (preB E [.ref (am 0), .int v, .int w] [[mObj am q], [(am 1, .inl (E.2.1, 77, .inl (sg r 77)))]]) (qI E [[mObj am q], [(am 1, .inl (E.2.1, 77, .inl (sg r 77)))]] [[mObj am q], [(am 1, .inl (E.2.1, 77, .inl (sg (addF r v w) 77)))]] (nI (cntN r))) 0 0 (inB [[mObj am q], [(am 1, .inl (E.2.1, 77, .inl (sg r 77)))]]) := by
  refine M_mk RX5 (by decide) rfl (Nat.le_of_ble_eq_true rfl) ?_
  intro p e s m below meth c S hr hlk hK hP hD hS ls hl
  have hl : lv_has ls 5 [(0, .ref (am 0)), (1, .int v), (2, .int w)] := hl
  obtain ⟨H, hH⟩ : ∃ z, z = s.heap := ⟨_, rfl⟩
  obtain ⟨locs, hlocs⟩ : ∃ z : List Loc, z = [] := ⟨_, rfl⟩
  have hP : PE E [[mObj am q], [(am 1, .inl (E.2.1, 77, .inl (sg r 77)))]] H := by rw [hH]; exact hP
  have hS : va_S (inB [[mObj am q], [(am 1, .inl (E.2.1, 77, .inl (sg r 77)))]]) s.heap H locs := by rw [hH, hlocs]; exact hS
  show W p l e ({ frames := 1, cells := 0, slots := 0, locals := 21 }) s m ([.ref (am 0), .int v, .int w] : List Value).toArray below meth c s.heap [] 0 0 _ _
  suffices hgo : W p l e ({ frames := 1, cells := 0, slots := 0, locals := 21 }) s m ([.ref (am 0), .int v, .int w] : List Value).toArray below meth c H locs 0 0 (MQ below (qI E [[mObj am q], [(am 1, .inl (E.2.1, 77, .inl (sg r 77)))]] [[mObj am q], [(am 1, .inl (E.2.1, 77, .inl (sg (addF r v w) 77)))]] (nI (cntN r))) ([.ref (am 0), .int v, .int w] : List Value).toArray s 0 0 (inB [[mObj am q], [(am 1, .inl (E.2.1, 77, .inl (sg r 77)))]])) (F0 m 0 ls []) by rw [hH, hlocs] at hgo; exact hgo
  clear hH hlocs
  refine lv_aload_n S.1 S.2.1 dX5_comes_0 rfl (lv_at hl 0 rfl) ?_
  refine gf_X5_9 S hK hP 0 0 rfl rfl rfl dX5_comes_1 ?_
  refine lv_iconst (v := 1) S.1 S.2.1 dX5_comes_4 (by decide) ?_
  refine b_ialdN (i := 1) S hK hP 1 0 rfl rfl (by omega) (by decide) dX5_comes_5 ?_
  refine lv_eqi (y := nI n) ((sg_at (by omega)).trans hn) ?_
  refine lv_istore_n (lv' := [(3, .int (nI n)), (0, .ref (am 0)), (1, .int v), (2, .int w)]) S.1 S.2.1 dX5_comes_6 rfl hl (by decide) rfl (fun ls hl => ?_)
  refine lv_iconst (v := 0) S.1 S.2.1 dX5_comes_7 (by decide) ?_
  refine lv_istore (lv' := [(4, .int 0), (3, .int (nI n)), (0, .ref (am 0)), (1, .int v), (2, .int w)]) S.1 S.2.1 dX5_comes_8 hl (by decide) rfl (fun ls hl => ?_)
  have L_10 : ∀ (fu : Nat) (i : Nat) (ri : Row), (i ≤ 7) → (7 < i + fu) → (ri = clrP r n i) → (ri 1 = nI n) → ∀ (H : Heap) (locs : List Loc), PE E [[mObj am q], [(am 1, .inl (E.2.1, 77, .inl (sg ri 77)))]] H → DE (inB [[mObj am q], [(am 1, .inl (E.2.1, 77, .inl (sg r 77)))]]) [[mObj am q], [(am 1, .inl (E.2.1, 77, .inl (sg ri 77)))]] → va_S (inB [[mObj am q], [(am 1, .inl (E.2.1, 77, .inl (sg r 77)))]]) s.heap H locs → ∀ (ls : Array Slot), lv_has ls 5 [(0, .ref (am 0)), (1, .int v), (2, .int w), (3, .int (nI n)), (4, .int (nI i))] → W p l e ({ frames := 1, cells := 0, slots := 0, locals := 21 }) s m ([.ref (am 0), .int v, .int w] : List Value).toArray below meth c H locs 0 0 (MQ below (qI E [[mObj am q], [(am 1, .inl (E.2.1, 77, .inl (sg r 77)))]] [[mObj am q], [(am 1, .inl (E.2.1, 77, .inl (sg (addF r v w) 77)))]] (nI (cntN r))) ([.ref (am 0), .int v, .int w] : List Value).toArray s 0 0 (inB [[mObj am q], [(am 1, .inl (E.2.1, 77, .inl (sg r 77)))]])) (F0 m 10 ls []) := by
    intro fu
    induction fu with
    | zero =>
      intro i ri hi hf hri hn1
      omega
    | succ fu ih_10 =>
      intro i ri hi hf hri hn1 H locs hP hD hS ls hl
      refine lv_iload S.1 S.2.1 dX5_comes_10 (lv_at hl 4 rfl) ?_
      refine lv_bipush (v := 7) S.1 S.2.1 dX5_comes_12 (by decide) ?_
      refine lv_icmp_ge (tgt := 35) S.1 S.2.1 dX5_comes_14 (by decide) (fun c_14 => ?_) (fun c_14 => ?_)
      · have n_14 := Int32.not_lt.mpr c_14
        have hi9 : i = 7 := le_endK (n := 7) hi c_14 (by decide)
        refine lv_aload_n S.1 S.2.1 dX5_comes_35 rfl (lv_at hl 0 rfl) ?_
        refine gf_X5_9 S hK hP 0 0 rfl rfl rfl dX5_comes_36 ?_
        refine lv_iload_n S.1 S.2.1 dX5_comes_39 rfl (lv_at hl 3 rfl) ?_
        refine lv_iconst (v := 0) S.1 S.2.1 dX5_comes_40 (by decide) ?_
        refine go_S (run_S (As := [.int (nI n), .int 0]) (rest := [.ref (am 1)]) (n := 2) S hK (bl_P hP [] rfl) (bl_D hD [] rfl rfl) (c_X5_potterAt l E n 0 ) gS_X5_82 (by decide +kernel) rfl ⟨rfl, rfl⟩ ⟨Nat.le_of_ble_eq_true rfl, Nat.le_of_ble_eq_true rfl⟩ hl.1 (Nat.le_of_ble_eq_true rfl) dX5_comes_41 ⟨Nat.zero_le _, Nat.zero_le _⟩) ?_
        refine lv_eqi (y := nI (21 + 7 * n)) rfl ?_
        refine lv_iload_n S.1 S.2.1 dX5_comes_44 rfl (lv_at hl 1 rfl) ?_
        refine b_iastN (i := 21 + 7 * n) S hK hP hD hS 1 0 rfl rfl (by omega) (by decide) (sgs_upd (by omega)) (Bs1 := [[mObj am q], [(am 1, .inl (E.2.1, 77, .inl (sg (upd ri (21 + 7 * n) v) 77)))]]) rfl dX5_comes_45 (fun H locs hP hD hS => ?_)
        obtain ⟨r_45, er_45⟩ : ∃ z, z = upd ri (21 + 7 * n) v := ⟨_, rfl⟩
        rw [← er_45] at hP hD
        have hr_45_1 : r_45 1 = nI n := by rw [er_45]; exact (upd_ne (by omega)).trans hn1
        refine lv_aload_n S.1 S.2.1 dX5_comes_46 rfl (lv_at hl 0 rfl) ?_
        refine gf_X5_9 S hK hP 0 0 rfl rfl rfl dX5_comes_47 ?_
        refine lv_iload_n S.1 S.2.1 dX5_comes_50 rfl (lv_at hl 3 rfl) ?_
        refine lv_iconst (v := 1) S.1 S.2.1 dX5_comes_51 (by decide) ?_
        refine go_S (run_S (As := [.int (nI n), .int 1]) (rest := [.ref (am 1)]) (n := 2) S hK (bl_P hP [] rfl) (bl_D hD [] rfl rfl) (c_X5_potterAt l E n 1 ) gS_X5_82 (by decide +kernel) rfl ⟨rfl, rfl⟩ ⟨Nat.le_of_ble_eq_true rfl, Nat.le_of_ble_eq_true rfl⟩ hl.1 (Nat.le_of_ble_eq_true rfl) dX5_comes_52 ⟨Nat.zero_le _, Nat.zero_le _⟩) ?_
        refine lv_iload_n S.1 S.2.1 dX5_comes_55 rfl (lv_at hl 2 rfl) ?_
        refine b_iastN (i := 21 + 7 * n + 1) S hK hP hD hS 1 0 rfl rfl (by omega) (by decide) (sgs_upd (by omega)) (Bs1 := [[mObj am q], [(am 1, .inl (E.2.1, 77, .inl (sg (upd r_45 (21 + 7 * n + 1) w) 77)))]]) rfl dX5_comes_56 (fun H locs hP hD hS => ?_)
        obtain ⟨r_56, er_56⟩ : ∃ z, z = upd r_45 (21 + 7 * n + 1) w := ⟨_, rfl⟩
        rw [← er_56] at hP hD
        have hr_56_1 : r_56 1 = nI n := by rw [er_56]; exact (upd_ne (by omega)).trans hr_45_1
        refine lv_aload_n S.1 S.2.1 dX5_comes_57 rfl (lv_at hl 0 rfl) ?_
        refine gf_X5_9 S hK hP 0 0 rfl rfl rfl dX5_comes_58 ?_
        refine lv_iload_n S.1 S.2.1 dX5_comes_61 rfl (lv_at hl 3 rfl) ?_
        refine lv_iconst (v := 2) S.1 S.2.1 dX5_comes_62 (by decide) ?_
        refine go_S (run_S (As := [.int (nI n), .int 2]) (rest := [.ref (am 1)]) (n := 2) S hK (bl_P hP [] rfl) (bl_D hD [] rfl rfl) (c_X5_potterAt l E n 2 ) gS_X5_82 (by decide +kernel) rfl ⟨rfl, rfl⟩ ⟨Nat.le_of_ble_eq_true rfl, Nat.le_of_ble_eq_true rfl⟩ hl.1 (Nat.le_of_ble_eq_true rfl) dX5_comes_63 ⟨Nat.zero_le _, Nat.zero_le _⟩) ?_
        refine lv_iconst (v := 2) S.1 S.2.1 dX5_comes_66 (by decide) ?_
        refine b_iastN (i := 21 + 7 * n + 2) S hK hP hD hS 1 0 rfl rfl (by omega) (by decide) (sgs_upd (by omega)) (Bs1 := [[mObj am q], [(am 1, .inl (E.2.1, 77, .inl (sg (upd r_56 (21 + 7 * n + 2) 2) 77)))]]) rfl dX5_comes_67 (fun H locs hP hD hS => ?_)
        obtain ⟨r_67, er_67⟩ : ∃ z, z = upd r_56 (21 + 7 * n + 2) 2 := ⟨_, rfl⟩
        rw [← er_67] at hP hD
        have hr_67_1 : r_67 1 = nI n := by rw [er_67]; exact (upd_ne (by omega)).trans hr_56_1
        refine lv_aload_n S.1 S.2.1 dX5_comes_68 rfl (lv_at hl 0 rfl) ?_
        refine gf_X5_9 S hK hP 0 0 rfl rfl rfl dX5_comes_69 ?_
        refine lv_iconst (v := 1) S.1 S.2.1 dX5_comes_72 (by decide) ?_
        refine lv_dup2_11 S.1 S.2.1 dX5_comes_73 rfl rfl ?_
        refine b_ialdN (i := 1) S hK hP 1 0 rfl rfl (by omega) (by decide) dX5_comes_74 ?_
        refine lv_eqi (y := nI n) ((sg_at (by omega)).trans hr_67_1) ?_
        refine lv_iconst (v := 1) S.1 S.2.1 dX5_comes_75 (by decide) ?_
        refine lv_iadd S.1 S.2.1 dX5_comes_76 ?_
        refine lv_eqi (y := nI (n + 1)) (nI_add n 1) ?_
        refine b_iastN (i := 1) S hK hP hD hS 1 0 rfl rfl (by omega) (by decide) (sgs_upd (by omega)) (Bs1 := [[mObj am q], [(am 1, .inl (E.2.1, 77, .inl (sg (upd r_67 1 (nI (n + 1))) 77)))]]) rfl dX5_comes_77 (fun H locs hP hD hS => ?_)
        obtain ⟨r_77, er_77⟩ : ∃ z, z = upd r_67 1 (nI (n + 1)) := ⟨_, rfl⟩
        rw [← er_77] at hP hD
        have hr_77_1 : r_77 1 = nI (n + 1) := by rw [er_77]; exact upd_at
        refine lv_iload_n S.1 S.2.1 dX5_comes_78 rfl (lv_at hl 3 rfl) ?_
        exact retI S hr hlk (by rw [show addF r v w = r_77 by (unfold addF; rw [cntN_eq hn (by omega), er_77, er_67, er_56, er_45, hri, hi9]; exact (addM_eq (r := r) (n := n)).symm)]; exact hP) hS (by rw [cntN_eq hn (by omega)]) dX5_comes_79
      · have n_14 := Int32.not_le.mp c_14
        have hi2 : i < 7 := lt_in (n := 7) c_14 hi
        refine lv_aload_n S.1 S.2.1 dX5_comes_17 rfl (lv_at hl 0 rfl) ?_
        refine gf_X5_9 S hK hP 0 0 rfl rfl rfl dX5_comes_18 ?_
        refine lv_iload_n S.1 S.2.1 dX5_comes_21 rfl (lv_at hl 3 rfl) ?_
        refine lv_iload S.1 S.2.1 dX5_comes_22 (lv_at hl 4 rfl) ?_
        refine go_S (run_S (As := [.int (nI n), .int (nI i)]) (rest := [.ref (am 1)]) (n := 2) S hK (bl_P hP [] rfl) (bl_D hD [] rfl rfl) (c_X5_potterAt l E n i ) gS_X5_82 (by decide +kernel) rfl ⟨rfl, rfl⟩ ⟨Nat.le_of_ble_eq_true rfl, Nat.le_of_ble_eq_true rfl⟩ hl.1 (Nat.le_of_ble_eq_true rfl) dX5_comes_24 ⟨Nat.zero_le _, Nat.zero_le _⟩) ?_
        refine lv_iconst (v := 0) S.1 S.2.1 dX5_comes_27 (by decide) ?_
        refine b_iastN (i := 21 + 7 * n + i) S hK hP hD hS 1 0 rfl rfl (by omega) (by decide) (sgs_upd (by omega)) (Bs1 := [[mObj am q], [(am 1, .inl (E.2.1, 77, .inl (sg (upd ri (21 + 7 * n + i) 0) 77)))]]) rfl dX5_comes_28 (fun H locs hP hD hS => ?_)
        obtain ⟨r_28, er_28⟩ : ∃ z, z = upd ri (21 + 7 * n + i) 0 := ⟨_, rfl⟩
        rw [← er_28] at hP hD
        have hr_28_1 : r_28 1 = nI n := by rw [er_28]; exact (upd_ne (by omega)).trans hn1
        refine lv_iinc (v := nI (i + 1)) (lv' := [(4, .int (nI (i + 1))), (0, .ref (am 0)), (1, .int v), (2, .int w), (3, .int (nI n))]) S.1 S.2.1 dX5_comes_29 hl (k := 4) rfl (nI_1 i) (by decide) rfl (fun ls hl => ?_)
        refine lv_goto (tgt := 10) S.1 S.2.1 dX5_comes_32 (by decide) ?_
        exact ih_10 (i + 1) r_28 (by omega) (by omega) (by rw [er_28, hri]; exact clrP_s (by omega)) hr_28_1 H locs hP hD hS ls (lv_sub hl [1, 2, 3, 4, 0] rfl)
  exact L_10 (7 + 1) 0 r (by omega) (by omega) (clrP_0).symm hn H locs hP hD hS ls (lv_sub hl [2, 3, 4, 1, 0] rfl)
set_option maxHeartbeats 4000000 in
set_option maxRecDepth 100000 in
theorem c_X5_told (l : Launch) (E : EV) (am : Nat → Nat) (q r : Row) (i w : Nat) (hR : RI r) (hi : i < cntN r) (hw : w ≤ 12) : Met l yX5_told (wq yX5_told cX5_told 3 (some .int)) ({ frames := 3, cells := 0, slots := 0, locals := 69 }) (preB E [.ref (am 0), .int (nI i), .int (nI w)] [[mObj am q], [(am 1, .inl (E.2.1, 77, .inl (sg r 77)))]]) (qS (toldM r i w)) 0 0 (fun _ => False) := by
  refine M_mk RX5 (by decide) rfl (Nat.le_of_ble_eq_true rfl) ?_
  intro p e s m below meth c S hr hlk hK hP hD hS ls hl
  have hl : lv_has ls 3 [(0, .ref (am 0)), (1, .int (nI i)), (2, .int (nI w))] := hl
  obtain ⟨n, d, hn, hn8, hd, hd5, ho, hso, hli, hsp, hpt⟩ := id hR
  have hin : i < n := by rw [← cntN_eq hn hn8]; exact hi
  refine lv_iload_n S.1 S.2.1 dX5_told_0 rfl (lv_at hl 2 rfl) ?_
  by_cases k_1_7 : nI w = 7
  · refine lv_tableIn (tgt := 40) S.1 S.2.1 dX5_told_1 (by rw [k_1_7]; decide) (by rw [k_1_7]; decide) (by rw [k_1_7]; rfl) (by decide) ?_
    refine lv_aload_n S.1 S.2.1 dX5_told_40 rfl (lv_at hl 0 rfl) ?_
    refine lv_iload_n S.1 S.2.1 dX5_told_41 rfl (lv_at hl 1 rfl) ?_
    refine go_S (run_V (As := [.int (nI i)]) (rest := []) (n := 1) S hK (bl_P hP [0, 1] rfl) (bl_D hD [0, 1] rfl rfl) (c_X5_cries l E am q r i (by omega)) gV_X5_100 (by decide +kernel) rfl ⟨rfl, rfl⟩ ⟨Nat.le_of_ble_eq_true rfl, Nat.le_of_ble_eq_true rfl⟩ (ci := 5) (q0 := 0) rfl rfl hl.1 (Nat.le_of_ble_eq_true rfl) dX5_told_42 ⟨Nat.zero_le _, Nat.zero_le _⟩) ?_
    exact retS S hr hlk (by have q9 : w = 7 := (nI_eq (b := 7) (by omega) (by decide)).mp k_1_7; subst q9; rfl) dX5_told_45
  by_cases k_1_8 : nI w = 8
  · refine lv_tableIn (tgt := 46) S.1 S.2.1 dX5_told_1 (by rw [k_1_8]; decide) (by rw [k_1_8]; decide) (by rw [k_1_8]; rfl) (by decide) ?_
    refine lv_aload_n S.1 S.2.1 dX5_told_46 rfl (lv_at hl 0 rfl) ?_
    refine lv_iload_n S.1 S.2.1 dX5_told_47 rfl (lv_at hl 1 rfl) ?_
    refine lv_aload_n S.1 S.2.1 dX5_told_48 rfl (lv_at hl 0 rfl) ?_
    refine go_S (run_V (As := []) (rest := [.int (nI i), .ref (am 0)]) (n := 0) S hK (bl_P hP [0, 1] rfl) (bl_D hD [0, 1] rfl rfl) (c_X5_today l E am q r hR) gV_X5_103 (by decide +kernel) rfl ⟨rfl, rfl⟩ ⟨Nat.le_of_ble_eq_true rfl, Nat.le_of_ble_eq_true rfl⟩ (ci := 5) (q0 := 0) rfl rfl hl.1 (Nat.le_of_ble_eq_true rfl) dX5_told_49 ⟨Nat.zero_le _, Nat.zero_le _⟩) ?_
    refine go_S (run_V (As := [.int (nI i), .int (wthr r)]) (rest := []) (n := 2) S hK (bl_P hP [0, 1] rfl) (bl_D hD [0, 1] rfl rfl) (c_X5_weathers l E am q r i (wthr r) (by omega) (hpt i hin 2 (by decide)) (wthr_nat hR)) gV_X5_107 (by decide +kernel) rfl ⟨rfl, rfl⟩ ⟨Nat.le_of_ble_eq_true rfl, Nat.le_of_ble_eq_true rfl⟩ (ci := 5) (q0 := 0) rfl rfl hl.1 (Nat.le_of_ble_eq_true rfl) dX5_told_52 ⟨Nat.zero_le _, Nat.zero_le _⟩) ?_
    exact retS S hr hlk (by have q9 : w = 8 := (nI_eq (b := 8) (by omega) (by decide)).mp k_1_8; subst q9; rfl) dX5_told_55
  by_cases k_1_9 : nI w = 9
  · refine lv_tableIn (tgt := 56) S.1 S.2.1 dX5_told_1 (by rw [k_1_9]; decide) (by rw [k_1_9]; decide) (by rw [k_1_9]; rfl) (by decide) ?_
    refine lv_aload_n S.1 S.2.1 dX5_told_56 rfl (lv_at hl 0 rfl) ?_
    refine lv_iload_n S.1 S.2.1 dX5_told_57 rfl (lv_at hl 1 rfl) ?_
    refine go_S (run_V (As := [.int (nI i)]) (rest := []) (n := 1) S hK (bl_P hP [0, 1] rfl) (bl_D hD [0, 1] rfl rfl) (c_X5_needs l E am q r i (by omega)) gV_X5_110 (by decide +kernel) rfl ⟨rfl, rfl⟩ ⟨Nat.le_of_ble_eq_true rfl, Nat.le_of_ble_eq_true rfl⟩ (ci := 5) (q0 := 0) rfl rfl hl.1 (Nat.le_of_ble_eq_true rfl) dX5_told_58 ⟨Nat.zero_le _, Nat.zero_le _⟩) ?_
    exact retS S hr hlk (by have q9 : w = 9 := (nI_eq (b := 9) (by omega) (by decide)).mp k_1_9; subst q9; rfl) dX5_told_61
  by_cases k_1_10 : nI w = 10
  · refine lv_tableIn (tgt := 62) S.1 S.2.1 dX5_told_1 (by rw [k_1_10]; decide) (by rw [k_1_10]; decide) (by rw [k_1_10]; rfl) (by decide) ?_
    refine lv_aload_n S.1 S.2.1 dX5_told_62 rfl (lv_at hl 0 rfl) ?_
    refine lv_iload_n S.1 S.2.1 dX5_told_63 rfl (lv_at hl 1 rfl) ?_
    refine go_S (run_V (As := [.int (nI i)]) (rest := []) (n := 1) S hK (bl_P hP [0, 1] rfl) (bl_D hD [0, 1] rfl rfl) (c_X5_tint l E am q r i (by omega)) gV_X5_113 (by decide +kernel) rfl ⟨rfl, rfl⟩ ⟨Nat.le_of_ble_eq_true rfl, Nat.le_of_ble_eq_true rfl⟩ (ci := 5) (q0 := 0) rfl rfl hl.1 (Nat.le_of_ble_eq_true rfl) dX5_told_64 ⟨Nat.zero_le _, Nat.zero_le _⟩) ?_
    exact retS S hr hlk (by have q9 : w = 10 := (nI_eq (b := 10) (by omega) (by decide)).mp k_1_10; subst q9; rfl) dX5_told_67
  by_cases k_1_11 : nI w = 11
  · refine lv_tableIn (tgt := 68) S.1 S.2.1 dX5_told_1 (by rw [k_1_11]; decide) (by rw [k_1_11]; decide) (by rw [k_1_11]; rfl) (by decide) ?_
    refine lv_aload_n S.1 S.2.1 dX5_told_68 rfl (lv_at hl 0 rfl) ?_
    refine lv_iload_n S.1 S.2.1 dX5_told_69 rfl (lv_at hl 1 rfl) ?_
    refine go_S (run_V (As := [.int (nI i)]) (rest := []) (n := 1) S hK (bl_P hP [0, 1] rfl) (bl_D hD [0, 1] rfl rfl) (c_X5_fetches l E am q r i (by omega)) gV_X5_116 (by decide +kernel) rfl ⟨rfl, rfl⟩ ⟨Nat.le_of_ble_eq_true rfl, Nat.le_of_ble_eq_true rfl⟩ (ci := 5) (q0 := 0) rfl rfl hl.1 (Nat.le_of_ble_eq_true rfl) dX5_told_70 ⟨Nat.zero_le _, Nat.zero_le _⟩) ?_
    exact retS S hr hlk (by have q9 : w = 11 := (nI_eq (b := 11) (by omega) (by decide)).mp k_1_11; subst q9; rfl) dX5_told_73
  by_cases k_1_12 : nI w = 12
  · refine lv_tableIn (tgt := 74) S.1 S.2.1 dX5_told_1 (by rw [k_1_12]; decide) (by rw [k_1_12]; decide) (by rw [k_1_12]; rfl) (by decide) ?_
    refine lv_aload_n S.1 S.2.1 dX5_told_74 rfl (lv_at hl 0 rfl) ?_
    refine lv_iload_n S.1 S.2.1 dX5_told_75 rfl (lv_at hl 1 rfl) ?_
    refine go_S (run_V (As := [.int (nI i)]) (rest := []) (n := 1) S hK (bl_P hP [0, 1] rfl) (bl_D hD [0, 1] rfl rfl) (c_X5_heals l E am q r i (by omega)) gV_X5_119 (by decide +kernel) rfl ⟨rfl, rfl⟩ ⟨Nat.le_of_ble_eq_true rfl, Nat.le_of_ble_eq_true rfl⟩ (ci := 5) (q0 := 0) rfl rfl hl.1 (Nat.le_of_ble_eq_true rfl) dX5_told_76 ⟨Nat.zero_le _, Nat.zero_le _⟩) ?_
    exact retS S hr hlk (by have q9 : w = 12 := (nI_eq (b := 12) (by omega) (by decide)).mp k_1_12; subst q9; rfl) dX5_told_79
  have t_1_7 := ne_toInt (n := 7) (by decide) k_1_7
  have t_1_8 := ne_toInt (n := 8) (by decide) k_1_8
  have t_1_9 := ne_toInt (n := 9) (by decide) k_1_9
  have t_1_10 := ne_toInt (n := 10) (by decide) k_1_10
  have t_1_11 := ne_toInt (n := 11) (by decide) k_1_11
  have t_1_12 := ne_toInt (n := 12) (by decide) k_1_12
  refine lv_tableOut (tgt := 80) S.1 S.2.1 dX5_told_1 (by omega) (by decide) ?_
  rw [nI_toInt (by omega)] at t_1_7 t_1_8 t_1_9 t_1_10 t_1_11 t_1_12
  have hw7 : w < 7 := by omega
  refine lv_aload_n S.1 S.2.1 dX5_told_80 rfl (lv_at hl 0 rfl) ?_
  refine lv_iload_n S.1 S.2.1 dX5_told_81 rfl (lv_at hl 1 rfl) ?_
  refine lv_iload_n S.1 S.2.1 dX5_told_82 rfl (lv_at hl 2 rfl) ?_
  refine go_S (run_V (As := [.int (nI i), .int (nI w)]) (rest := []) (n := 2) S hK (bl_P hP [0, 1] rfl) (bl_D hD [0, 1] rfl rfl) (c_X5_potterIs l E am q r i w (by omega) (by omega)) gV_X5_92 (by decide +kernel) rfl ⟨rfl, rfl⟩ ⟨Nat.le_of_ble_eq_true rfl, Nat.le_of_ble_eq_true rfl⟩ (ci := 5) (q0 := 0) rfl rfl hl.1 (Nat.le_of_ble_eq_true rfl) dX5_told_83 ⟨Nat.zero_le _, Nat.zero_le _⟩) ?_
  exact retS S hr hlk (by unfold toldM; rw [if_neg (by omega), if_neg (by omega), if_neg (by omega), if_neg (by omega), if_neg (by omega), if_neg (by omega)]) dX5_told_86
set_option maxHeartbeats 4000000 in
set_option maxRecDepth 100000 in
theorem c_X5_isField (l : Launch) (E : EV) (w v : Int32)  : Met l yX5_isField (wq yX5_isField cX5_isField 2 (some .boolean)) ({ frames := 2, cells := 0, slots := 0, locals := 42 }) (preB E [.int w, .int v] []) (qS (fldB w v)) 0 0 (fun _ => False) := by
  refine M_mk RX5 (by decide) rfl (Nat.le_of_ble_eq_true rfl) ?_
  intro p e s m below meth c S hr hlk hK hP hD hS ls hl
  have hl : lv_has ls 2 [(0, .int w), (1, .int v)] := hl
  refine lv_iload_n S.1 S.2.1 dX5_isField_0 rfl (lv_at hl 0 rfl) ?_
  by_cases k_1_0 : w = 0
  · refine lv_tableIn (tgt := 44) S.1 S.2.1 dX5_isField_1 (by rw [k_1_0]; decide) (by rw [k_1_0]; decide) (by rw [k_1_0]; rfl) (by decide) ?_
    refine lv_iload_n S.1 S.2.1 dX5_isField_44 rfl (lv_at hl 1 rfl) ?_
    refine go_S (run_S (As := [.int v]) (rest := []) (n := 1) S hK (bl_P hP [] rfl) (bl_D hD [] rfl rfl) (c_X5_isKind l E v ) gS_X5_85 (by decide +kernel) rfl ⟨rfl, rfl⟩ ⟨Nat.le_of_ble_eq_true rfl, Nat.le_of_ble_eq_true rfl⟩ hl.1 (Nat.le_of_ble_eq_true rfl) dX5_isField_45 ⟨Nat.zero_le _, Nat.zero_le _⟩) ?_
    exact retSZ S hr hlk bI_nar (by first | (simp only [fldB, eq_true k_1_0, ↓reduceIte]; done) | (simp [fldB, eq_true k_1_0, ↓reduceIte]; done) | (simp [fldB, k_1_0]; done)) dX5_isField_48
  by_cases k_1_1 : w = 1
  · refine lv_tableIn (tgt := 49) S.1 S.2.1 dX5_isField_1 (by rw [k_1_1]; decide) (by rw [k_1_1]; decide) (by rw [k_1_1]; rfl) (by decide) ?_
    refine lv_iload_n S.1 S.2.1 dX5_isField_49 rfl (lv_at hl 1 rfl) ?_
    refine lv_iconst (v := 0) S.1 S.2.1 dX5_isField_50 (by decide) ?_
    refine lv_bipush (v := 99) S.1 S.2.1 dX5_isField_51 (by decide) ?_
    refine go_S (run_S (As := [.int v, .int 0, .int 99]) (rest := []) (n := 3) S hK (bl_P hP [] rfl) (bl_D hD [] rfl rfl) (c_X5_within l E v 0 99 ) gS_X5_70 (by decide +kernel) rfl ⟨rfl, rfl⟩ ⟨Nat.le_of_ble_eq_true rfl, Nat.le_of_ble_eq_true rfl⟩ hl.1 (Nat.le_of_ble_eq_true rfl) dX5_isField_53 ⟨Nat.zero_le _, Nat.zero_le _⟩) ?_
    exact retSZ S hr hlk bI_nar (by first | (simp only [fldB, eq_true k_1_1, k_1_0, ↓reduceIte]; done) | (simp [fldB, eq_true k_1_1, k_1_0, ↓reduceIte]; done) | (simp [fldB, k_1_1, k_1_0]; done)) dX5_isField_56
  by_cases k_1_2 : w = 2
  · refine lv_tableIn (tgt := 57) S.1 S.2.1 dX5_isField_1 (by rw [k_1_2]; decide) (by rw [k_1_2]; decide) (by rw [k_1_2]; rfl) (by decide) ?_
    refine lv_iload_n S.1 S.2.1 dX5_isField_57 rfl (lv_at hl 1 rfl) ?_
    refine lv_iconst (v := 0) S.1 S.2.1 dX5_isField_58 (by decide) ?_
    refine lv_bipush (v := 9) S.1 S.2.1 dX5_isField_59 (by decide) ?_
    refine go_S (run_S (As := [.int v, .int 0, .int 9]) (rest := []) (n := 3) S hK (bl_P hP [] rfl) (bl_D hD [] rfl rfl) (c_X5_within l E v 0 9 ) gS_X5_70 (by decide +kernel) rfl ⟨rfl, rfl⟩ ⟨Nat.le_of_ble_eq_true rfl, Nat.le_of_ble_eq_true rfl⟩ hl.1 (Nat.le_of_ble_eq_true rfl) dX5_isField_61 ⟨Nat.zero_le _, Nat.zero_le _⟩) ?_
    exact retSZ S hr hlk bI_nar (by first | (simp only [fldB, eq_true k_1_2, k_1_0, k_1_1, ↓reduceIte]; done) | (simp [fldB, eq_true k_1_2, k_1_0, k_1_1, ↓reduceIte]; done) | (simp [fldB, k_1_2, k_1_0, k_1_1]; done)) dX5_isField_64
  by_cases k_1_3 : w = 3
  · refine lv_tableIn (tgt := 65) S.1 S.2.1 dX5_isField_1 (by rw [k_1_3]; decide) (by rw [k_1_3]; decide) (by rw [k_1_3]; rfl) (by decide) ?_
    refine lv_iload_n S.1 S.2.1 dX5_isField_65 rfl (lv_at hl 1 rfl) ?_
    refine lv_iconst (v := 0) S.1 S.2.1 dX5_isField_66 (by decide) ?_
    refine lv_sipush (v := 999) S.1 S.2.1 dX5_isField_67 (by decide) ?_
    refine go_S (run_S (As := [.int v, .int 0, .int 999]) (rest := []) (n := 3) S hK (bl_P hP [] rfl) (bl_D hD [] rfl rfl) (c_X5_within l E v 0 999 ) gS_X5_70 (by decide +kernel) rfl ⟨rfl, rfl⟩ ⟨Nat.le_of_ble_eq_true rfl, Nat.le_of_ble_eq_true rfl⟩ hl.1 (Nat.le_of_ble_eq_true rfl) dX5_isField_70 ⟨Nat.zero_le _, Nat.zero_le _⟩) ?_
    exact retSZ S hr hlk bI_nar (by first | (simp only [fldB, eq_true k_1_3, k_1_0, k_1_1, k_1_2, ↓reduceIte]; done) | (simp [fldB, eq_true k_1_3, k_1_0, k_1_1, k_1_2, ↓reduceIte]; done) | (simp [fldB, k_1_3, k_1_0, k_1_1, k_1_2]; done)) dX5_isField_73
  by_cases k_1_4 : w = 4
  · refine lv_tableIn (tgt := 74) S.1 S.2.1 dX5_isField_1 (by rw [k_1_4]; decide) (by rw [k_1_4]; decide) (by rw [k_1_4]; rfl) (by decide) ?_
    refine lv_iload_n S.1 S.2.1 dX5_isField_74 rfl (lv_at hl 1 rfl) ?_
    refine lv_iconst (v := 0) S.1 S.2.1 dX5_isField_75 (by decide) ?_
    refine lv_bipush (v := 7) S.1 S.2.1 dX5_isField_76 (by decide) ?_
    refine go_S (run_S (As := [.int v, .int 0, .int 7]) (rest := []) (n := 3) S hK (bl_P hP [] rfl) (bl_D hD [] rfl rfl) (c_X5_within l E v 0 7 ) gS_X5_70 (by decide +kernel) rfl ⟨rfl, rfl⟩ ⟨Nat.le_of_ble_eq_true rfl, Nat.le_of_ble_eq_true rfl⟩ hl.1 (Nat.le_of_ble_eq_true rfl) dX5_isField_78 ⟨Nat.zero_le _, Nat.zero_le _⟩) ?_
    exact retSZ S hr hlk bI_nar (by first | (simp only [fldB, eq_true k_1_4, k_1_0, k_1_1, k_1_2, k_1_3, ↓reduceIte]; done) | (simp [fldB, eq_true k_1_4, k_1_0, k_1_1, k_1_2, k_1_3, ↓reduceIte]; done) | (simp [fldB, k_1_4, k_1_0, k_1_1, k_1_2, k_1_3]; done)) dX5_isField_81
  by_cases k_1_5 : w = 5
  · refine lv_tableIn (tgt := 82) S.1 S.2.1 dX5_isField_1 (by rw [k_1_5]; decide) (by rw [k_1_5]; decide) (by rw [k_1_5]; rfl) (by decide) ?_
    refine lv_iload_n S.1 S.2.1 dX5_isField_82 rfl (lv_at hl 1 rfl) ?_
    refine lv_iconst (v := 0) S.1 S.2.1 dX5_isField_83 (by decide) ?_
    refine lv_sipush (v := 9999) S.1 S.2.1 dX5_isField_84 (by decide) ?_
    refine go_S (run_S (As := [.int v, .int 0, .int 9999]) (rest := []) (n := 3) S hK (bl_P hP [] rfl) (bl_D hD [] rfl rfl) (c_X5_within l E v 0 9999 ) gS_X5_70 (by decide +kernel) rfl ⟨rfl, rfl⟩ ⟨Nat.le_of_ble_eq_true rfl, Nat.le_of_ble_eq_true rfl⟩ hl.1 (Nat.le_of_ble_eq_true rfl) dX5_isField_87 ⟨Nat.zero_le _, Nat.zero_le _⟩) ?_
    exact retSZ S hr hlk bI_nar (by first | (simp only [fldB, eq_true k_1_5, k_1_0, k_1_1, k_1_2, k_1_3, k_1_4, ↓reduceIte]; done) | (simp [fldB, eq_true k_1_5, k_1_0, k_1_1, k_1_2, k_1_3, k_1_4, ↓reduceIte]; done) | (simp [fldB, k_1_5, k_1_0, k_1_1, k_1_2, k_1_3, k_1_4]; done)) dX5_isField_90
  by_cases k_1_6 : w = 6
  · refine lv_tableIn (tgt := 82) S.1 S.2.1 dX5_isField_1 (by rw [k_1_6]; decide) (by rw [k_1_6]; decide) (by rw [k_1_6]; rfl) (by decide) ?_
    refine lv_iload_n S.1 S.2.1 dX5_isField_82 rfl (lv_at hl 1 rfl) ?_
    refine lv_iconst (v := 0) S.1 S.2.1 dX5_isField_83 (by decide) ?_
    refine lv_sipush (v := 9999) S.1 S.2.1 dX5_isField_84 (by decide) ?_
    refine go_S (run_S (As := [.int v, .int 0, .int 9999]) (rest := []) (n := 3) S hK (bl_P hP [] rfl) (bl_D hD [] rfl rfl) (c_X5_within l E v 0 9999 ) gS_X5_70 (by decide +kernel) rfl ⟨rfl, rfl⟩ ⟨Nat.le_of_ble_eq_true rfl, Nat.le_of_ble_eq_true rfl⟩ hl.1 (Nat.le_of_ble_eq_true rfl) dX5_isField_87 ⟨Nat.zero_le _, Nat.zero_le _⟩) ?_
    exact retSZ S hr hlk bI_nar (by first | (simp only [fldB, eq_true k_1_6, k_1_0, k_1_1, k_1_2, k_1_3, k_1_4, k_1_5, ↓reduceIte]; done) | (simp [fldB, eq_true k_1_6, k_1_0, k_1_1, k_1_2, k_1_3, k_1_4, k_1_5, ↓reduceIte]; done) | (simp [fldB, k_1_6, k_1_0, k_1_1, k_1_2, k_1_3, k_1_4, k_1_5]; done)) dX5_isField_90
  have t_1_0 := ne_toInt (n := 0) (by decide) k_1_0
  have t_1_1 := ne_toInt (n := 1) (by decide) k_1_1
  have t_1_2 := ne_toInt (n := 2) (by decide) k_1_2
  have t_1_3 := ne_toInt (n := 3) (by decide) k_1_3
  have t_1_4 := ne_toInt (n := 4) (by decide) k_1_4
  have t_1_5 := ne_toInt (n := 5) (by decide) k_1_5
  have t_1_6 := ne_toInt (n := 6) (by decide) k_1_6
  refine lv_tableOut (tgt := 91) S.1 S.2.1 dX5_isField_1 (by omega) (by decide) ?_
  refine lv_iconst (v := 0) S.1 S.2.1 dX5_isField_91 (by decide) ?_
  exact retSZ S hr hlk rfl (by first | (simp only [fldB, k_1_0, k_1_1, k_1_2, k_1_3, k_1_4, k_1_5, k_1_6, ↓reduceIte]; done) | (simp [fldB, k_1_0, k_1_1, k_1_2, k_1_3, k_1_4, k_1_5, k_1_6, ↓reduceIte]; done) | (simp [fldB, k_1_0, k_1_1, k_1_2, k_1_3, k_1_4, k_1_5, k_1_6]; done)) dX5_isField_92
set_option maxHeartbeats 4000000 in
set_option maxRecDepth 100000 in
theorem c_X5_above (l : Launch) (E : EV) (v : Int32)  : Met l yX5_above (wq yX5_above cX5_above 1 (some .int)) ({ frames := 0, cells := 0, slots := 0, locals := 0 }) (preB E [.int v] []) (qS (aboveV v)) 0 0 (fun _ => False) := by
  refine M_mk RX5 (by decide) rfl (Nat.le_of_ble_eq_true rfl) ?_
  intro p e s m below meth c S hr hlk hK hP hD hS ls hl
  have hl : lv_has ls 1 [(0, .int v)] := hl
  refine lv_iload_n S.1 S.2.1 dX5_above_0 rfl (lv_at hl 0 rfl) ?_
  refine lv_if_ne (tgt := 8) S.1 S.2.1 dX5_above_1 (by decide) (fun c_1 => ?_) (fun c_1 => ?_)
  · refine lv_iload_n S.1 S.2.1 dX5_above_8 rfl (lv_at hl 0 rfl) ?_
    refine lv_iconst (v := 3) S.1 S.2.1 dX5_above_9 (by decide) ?_
    refine lv_icmp_ne (tgt := 17) S.1 S.2.1 dX5_above_10 (by decide) (fun c_10 => ?_) (fun c_10 => ?_)
    · refine lv_iload_n S.1 S.2.1 dX5_above_17 rfl (lv_at hl 0 rfl) ?_
      refine lv_iconst (v := 4) S.1 S.2.1 dX5_above_18 (by decide) ?_
      refine lv_icmp_ne (tgt := 26) S.1 S.2.1 dX5_above_19 (by decide) (fun c_19 => ?_) (fun c_19 => ?_)
      · refine lv_iload_n S.1 S.2.1 dX5_above_26 rfl (lv_at hl 0 rfl) ?_
        refine lv_bipush (v := 6) S.1 S.2.1 dX5_above_27 (by decide) ?_
        refine lv_icmp_ne (tgt := 36) S.1 S.2.1 dX5_above_29 (by decide) (fun c_29 => ?_) (fun c_29 => ?_)
        · refine lv_iconst (v := 0) S.1 S.2.1 dX5_above_36 (by decide) ?_
          exact retS S hr hlk (by unfold aboveV; rw [if_neg c_1]; rw [if_neg c_10]; rw [if_neg c_19]; rw [if_neg c_29]) dX5_above_37
        · refine lv_iconst (v := 1) S.1 S.2.1 dX5_above_32 (by decide) ?_
          refine lv_goto (tgt := 37) S.1 S.2.1 dX5_above_33 (by decide) ?_
          exact retS S hr hlk (by unfold aboveV; rw [if_neg c_1]; rw [if_neg c_10]; rw [if_neg c_19]; rw [if_pos c_29]) dX5_above_37
      · refine lv_iconst (v := 3) S.1 S.2.1 dX5_above_22 (by decide) ?_
        refine lv_goto (tgt := 37) S.1 S.2.1 dX5_above_23 (by decide) ?_
        exact retS S hr hlk (by unfold aboveV; rw [if_neg c_1]; rw [if_neg c_10]; rw [if_pos c_19]) dX5_above_37
    · refine lv_iconst (v := 2) S.1 S.2.1 dX5_above_13 (by decide) ?_
      refine lv_goto (tgt := 37) S.1 S.2.1 dX5_above_14 (by decide) ?_
      exact retS S hr hlk (by unfold aboveV; rw [if_neg c_1]; rw [if_pos c_10]) dX5_above_37
  · refine lv_iconst (v := (-1)) S.1 S.2.1 dX5_above_4 (by decide) ?_
    refine lv_goto (tgt := 37) S.1 S.2.1 dX5_above_5 (by decide) ?_
    exact retS S hr hlk (by unfold aboveV; rw [if_pos c_1]) dX5_above_37
set_option maxHeartbeats 4000000 in
set_option maxRecDepth 100000 in
theorem c_X5_drawn (l : Launch) (E : EV) (am : Nat → Nat) (q r : Row)  : Met l yX5_drawn (wq yX5_drawn cX5_drawn 1 (some .int)) ({ frames := 0, cells := 0, slots := 0, locals := 0 }) (preB E [.ref (am 0)] [[mObj am q], [(am 1, .inl (E.2.1, 77, .inl (sg r 77)))]]) (qI E [[mObj am q], [(am 1, .inl (E.2.1, 77, .inl (sg r 77)))]] [[mObj am q], [(am 1, .inl (E.2.1, 77, .inl (sg (drawF r) 77)))]] (drawV r)) 0 0 (inB [[mObj am q], [(am 1, .inl (E.2.1, 77, .inl (sg r 77)))]]) := by
  refine M_mk RX5 (by decide) rfl (Nat.le_of_ble_eq_true rfl) ?_
  intro p e s m below meth c S hr hlk hK hP hD hS ls hl
  have hl : lv_has ls 1 [(0, .ref (am 0))] := hl
  obtain ⟨H, hH⟩ : ∃ z, z = s.heap := ⟨_, rfl⟩
  obtain ⟨locs, hlocs⟩ : ∃ z : List Loc, z = [] := ⟨_, rfl⟩
  have hP : PE E [[mObj am q], [(am 1, .inl (E.2.1, 77, .inl (sg r 77)))]] H := by rw [hH]; exact hP
  have hS : va_S (inB [[mObj am q], [(am 1, .inl (E.2.1, 77, .inl (sg r 77)))]]) s.heap H locs := by rw [hH, hlocs]; exact hS
  show W p l e ({ frames := 0, cells := 0, slots := 0, locals := 0 }) s m ([.ref (am 0)] : List Value).toArray below meth c s.heap [] 0 0 _ _
  suffices hgo : W p l e ({ frames := 0, cells := 0, slots := 0, locals := 0 }) s m ([.ref (am 0)] : List Value).toArray below meth c H locs 0 0 (MQ below (qI E [[mObj am q], [(am 1, .inl (E.2.1, 77, .inl (sg r 77)))]] [[mObj am q], [(am 1, .inl (E.2.1, 77, .inl (sg (drawF r) 77)))]] (drawV r)) ([.ref (am 0)] : List Value).toArray s 0 0 (inB [[mObj am q], [(am 1, .inl (E.2.1, 77, .inl (sg r 77)))]])) (F0 m 0 ls []) by rw [hH, hlocs] at hgo; exact hgo
  clear hH hlocs
  refine lv_aload_n S.1 S.2.1 dX5_drawn_0 rfl (lv_at hl 0 rfl) ?_
  refine gf_X5_9 S hK hP 0 0 rfl rfl rfl dX5_drawn_1 ?_
  refine lv_iconst (v := 2) S.1 S.2.1 dX5_drawn_4 (by decide) ?_
  refine lv_aload_n S.1 S.2.1 dX5_drawn_5 rfl (lv_at hl 0 rfl) ?_
  refine gf_X5_9 S hK hP 0 0 rfl rfl rfl dX5_drawn_6 ?_
  refine lv_iconst (v := 2) S.1 S.2.1 dX5_drawn_9 (by decide) ?_
  refine b_ialdN (i := 2) S hK hP 1 0 rfl rfl (by omega) (by decide) dX5_drawn_10 ?_
  refine lv_eqi (y := r 2) (sg_at (by omega)) ?_
  refine lv_ldc (v := 1103515245) S.1 S.2.1 S.2.2.2.1 (S.2.2.2.2 _ (List.mem_cons_of_mem _ kk_X5_218)) dX5_drawn_11 ?_
  refine lv_imul S.1 S.2.1 dX5_drawn_13 ?_
  refine lv_sipush (v := 12345) S.1 S.2.1 dX5_drawn_14 (by decide) ?_
  refine lv_iadd S.1 S.2.1 dX5_drawn_17 ?_
  refine b_iastN (i := 2) S hK hP hD hS 1 0 rfl rfl (by omega) (by decide) (sgs_upd (by omega)) (Bs1 := [[mObj am q], [(am 1, .inl (E.2.1, 77, .inl (sg (upd r 2 (((r 2) * 1103515245) + 12345)) 77)))]]) rfl dX5_drawn_18 (fun H locs hP hD hS => ?_)
  obtain ⟨r_18, er_18⟩ : ∃ z, z = upd r 2 (((r 2) * 1103515245) + 12345) := ⟨_, rfl⟩
  rw [← er_18] at hP hD
  refine lv_aload_n S.1 S.2.1 dX5_drawn_19 rfl (lv_at hl 0 rfl) ?_
  refine gf_X5_9 S hK hP 0 0 rfl rfl rfl dX5_drawn_20 ?_
  refine lv_iconst (v := 2) S.1 S.2.1 dX5_drawn_23 (by decide) ?_
  refine b_ialdN (i := 2) S hK hP 1 0 rfl rfl (by omega) (by decide) dX5_drawn_24 ?_
  refine lv_eqi (y := r_18 2) (sg_at (by omega)) ?_
  refine lv_bipush (v := 8) S.1 S.2.1 dX5_drawn_25 (by decide) ?_
  refine lv_iushr S.1 S.2.1 dX5_drawn_27 rfl ?_
  exact retI S hr hlk (by rw [show drawF r = r_18 from er_18.symm]; exact hP) hS (by rw [er_18]; rfl) dX5_drawn_28
