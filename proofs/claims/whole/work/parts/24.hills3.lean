theorem le_endK {i n : Nat} (hi : i ≤ n) (h : nI n ≤ nI i) (hn : n < 2147483648) : i = n := by
  rcases Nat.lt_or_ge i n with q | q
  · exact absurd h (nI_ge q (by omega))
  · omega
def sumR (r : Row) (f : Nat) : Nat → Int32
  | 0 => 0
  | i + 1 => sumR r f i + r (21 + 7 * i + f)
def colR (r : Row) : Nat → Int32
  | 0 => 0
  | i + 1 => if r (21 + 7 * i + 5) ≤ 0 then colR r i else colR r i ||| 1 <<< (r (21 + 7 * i + 4) &&& 31)
def rdyR (r : Row) : Nat → Int32
  | 0 => 0
  | i + 1 => if needsR r i ≤ r (21 + 7 * i + 3) then rdyR r i ||| 1 <<< (nI i &&& 31) else rdyR r i
def wetR (r : Row) : Nat → Int32 × Int32
  | 0 => (-1, -1)
  | i + 1 => if r (21 + 7 * i + 3) ≤ (wetR r i).2 then wetR r i else (nI i, r (21 + 7 * i + 3))
def heldR (r : Row) : Nat → Int32
  | 0 => 0
  | i + 1 => if r (11 + i) = -1 then heldR r i else heldR r i + 1
def enR (r : Row) (q : Nat) : Nat → Int32
  | 0 => 0
  | i + 1 => if weathersR r q (nI i) < needsR r q - criesR r q then enR r q i else enR r q i + 1
def keepR (r : Row) (set : Int32) : Nat → Row
  | 0 => r
  | i + 1 => if (set >>> (nI i &&& 31)) &&& 1 = 1 then upd (keepR r set i) (21 + 7 * i + 2) 0 else keepR r set i
def drawF (r : Row) : Row := upd r 2 (r 2 * 1103515245 + 12345)
def drawV (r : Row) : Int32 := ((drawF r 2).toUInt32 >>> ((8 : Int32).toUInt32 &&& Int32.toUInt32 31)).toInt32
set_option maxHeartbeats 4000000 in
set_option maxRecDepth 100000 in
theorem c_X0_allPots (l : Launch) (E : EV) (ad : Nat → Nat) (r : Row) (n : Nat) (hn : r 1 = nI n) (hn8 : n ≤ 8) : Met l yX0_allPots (wq yX0_allPots cX0_allPots 3 (some .int)) ({ frames := 0, cells := 0, slots := 0, locals := 0 }) (preB E [.ref (ad 0)] [hillsW E ad r]) (qS (sumR r 5 (cntN r))) 0 0 (fun _ => False) := by
  refine M_mk RX0 (by decide) rfl (Nat.le_of_ble_eq_true rfl) ?_
  intro p e s m below meth c S hr hlk hK hP hD hS ls hl
  have hl : lv_has ls 3 [(0, .ref (ad 0))] := hl
  refine lv_iconst (v := 0) S.1 S.2.1 dX0_allPots_0 (by decide) ?_
  refine lv_istore_n (lv' := [(1, .int 0), (0, .ref (ad 0))]) S.1 S.2.1 dX0_allPots_1 rfl hl (by decide) rfl (fun ls hl => ?_)
  refine lv_iconst (v := 0) S.1 S.2.1 dX0_allPots_2 (by decide) ?_
  refine lv_istore_n (lv' := [(2, .int 0), (1, .int 0), (0, .ref (ad 0))]) S.1 S.2.1 dX0_allPots_3 rfl hl (by decide) rfl (fun ls hl => ?_)
  have L_4 : ∀ (fu : Nat) (i : Nat) (x : Int32), (i ≤ n) → (n < i + fu) → (x = sumR r 5 i) → ∀ (ls : Array Slot), lv_has ls 3 [(0, .ref (ad 0)), (2, .int (nI i)), (1, .int x)] → W p l e ({ frames := 0, cells := 0, slots := 0, locals := 0 }) s m ([.ref (ad 0)] : List Value).toArray below meth c s.heap [] 0 0 (MQ below (qS (sumR r 5 (cntN r))) ([.ref (ad 0)] : List Value).toArray s 0 0 (fun _ => False)) (F0 m 4 ls []) := by
    intro fu
    induction fu with
    | zero =>
      intro i x hi hf hx
      omega
    | succ fu ih_4 =>
      intro i x hi hf hx ls hl
      refine lv_iload_n S.1 S.2.1 dX0_allPots_4 rfl (lv_at hl 1 rfl) ?_
      refine lv_aload_n S.1 S.2.1 dX0_allPots_5 rfl (lv_at hl 0 rfl) ?_
      refine gf_X0_24 S hK hP 0 0 rfl rfl (congrArg (fun z => some (Value.int z)) hn) dX0_allPots_6 ?_
      refine lv_icmp_ge (tgt := 30) S.1 S.2.1 dX0_allPots_9 (by decide) (fun c_9 => ?_) (fun c_9 => ?_)
      · have n_9 := Int32.not_lt.mpr c_9
        have hi9 : i = n := le_end hi c_9 hn8
        refine lv_iload_n S.1 S.2.1 dX0_allPots_30 rfl (lv_at hl 2 rfl) ?_
        exact retS S hr hlk (by rw [cntN_eq hn hn8, hx, hi9]) dX0_allPots_31
      · have n_9 := Int32.not_le.mp c_9
        have hi2 : i < n := lt_in c_9 hi
        refine lv_iload_n S.1 S.2.1 dX0_allPots_12 rfl (lv_at hl 2 rfl) ?_
        refine lv_aload_n S.1 S.2.1 dX0_allPots_13 rfl (lv_at hl 0 rfl) ?_
        refine gf_X0_17 S hK hP 0 0 rfl rfl rfl dX0_allPots_14 ?_
        refine lv_iload_n S.1 S.2.1 dX0_allPots_17 rfl (lv_at hl 1 rfl) ?_
        refine b_aaldN (i := i) S hK hP 2 0 2 rfl rfl rfl (by omega) (by decide) (v := ad (4 + i)) rfl dX0_allPots_18 ?_
        refine gf_X0_108 S hK hP 0 (4 + i) rfl (hw_pot (by omega)) rfl dX0_allPots_19 ?_
        refine lv_iadd S.1 S.2.1 dX0_allPots_22 ?_
        refine lv_istore_n (lv' := [(1, .int (x + (r (21 + 7 * i + 5)))), (0, .ref (ad 0)), (2, .int (nI i))]) S.1 S.2.1 dX0_allPots_23 rfl hl (by decide) rfl (fun ls hl => ?_)
        refine lv_iinc (v := nI (i + 1)) (lv' := [(2, .int (nI (i + 1))), (1, .int (x + (r (21 + 7 * i + 5)))), (0, .ref (ad 0))]) S.1 S.2.1 dX0_allPots_24 hl (k := 2) rfl (nI_1 i) (by decide) rfl (fun ls hl => ?_)
        refine lv_goto (tgt := 4) S.1 S.2.1 dX0_allPots_27 (by decide) ?_
        exact ih_4 (i + 1) (x + (r (21 + 7 * i + 5))) (by omega) (by omega) (by rw [show sumR r 5 (i + 1) = _ from rfl]; subst_vars; simp only [sumR, c_9, n_9, ↓reduceIte])  ls (lv_sub hl [2, 0, 1] rfl)
  exact L_4 (n + 1) 0 0 (by omega) (by omega) rfl  ls (lv_sub hl [2, 0, 1] rfl)
set_option maxHeartbeats 4000000 in
set_option maxRecDepth 100000 in
theorem c_X0_allCracked (l : Launch) (E : EV) (ad : Nat → Nat) (r : Row) (n : Nat) (hn : r 1 = nI n) (hn8 : n ≤ 8) : Met l yX0_allCracked (wq yX0_allCracked cX0_allCracked 3 (some .int)) ({ frames := 0, cells := 0, slots := 0, locals := 0 }) (preB E [.ref (ad 0)] [hillsW E ad r]) (qS (sumR r 6 (cntN r))) 0 0 (fun _ => False) := by
  refine M_mk RX0 (by decide) rfl (Nat.le_of_ble_eq_true rfl) ?_
  intro p e s m below meth c S hr hlk hK hP hD hS ls hl
  have hl : lv_has ls 3 [(0, .ref (ad 0))] := hl
  refine lv_iconst (v := 0) S.1 S.2.1 dX0_allCracked_0 (by decide) ?_
  refine lv_istore_n (lv' := [(1, .int 0), (0, .ref (ad 0))]) S.1 S.2.1 dX0_allCracked_1 rfl hl (by decide) rfl (fun ls hl => ?_)
  refine lv_iconst (v := 0) S.1 S.2.1 dX0_allCracked_2 (by decide) ?_
  refine lv_istore_n (lv' := [(2, .int 0), (1, .int 0), (0, .ref (ad 0))]) S.1 S.2.1 dX0_allCracked_3 rfl hl (by decide) rfl (fun ls hl => ?_)
  have L_4 : ∀ (fu : Nat) (i : Nat) (x : Int32), (i ≤ n) → (n < i + fu) → (x = sumR r 6 i) → ∀ (ls : Array Slot), lv_has ls 3 [(0, .ref (ad 0)), (2, .int (nI i)), (1, .int x)] → W p l e ({ frames := 0, cells := 0, slots := 0, locals := 0 }) s m ([.ref (ad 0)] : List Value).toArray below meth c s.heap [] 0 0 (MQ below (qS (sumR r 6 (cntN r))) ([.ref (ad 0)] : List Value).toArray s 0 0 (fun _ => False)) (F0 m 4 ls []) := by
    intro fu
    induction fu with
    | zero =>
      intro i x hi hf hx
      omega
    | succ fu ih_4 =>
      intro i x hi hf hx ls hl
      refine lv_iload_n S.1 S.2.1 dX0_allCracked_4 rfl (lv_at hl 1 rfl) ?_
      refine lv_aload_n S.1 S.2.1 dX0_allCracked_5 rfl (lv_at hl 0 rfl) ?_
      refine gf_X0_24 S hK hP 0 0 rfl rfl (congrArg (fun z => some (Value.int z)) hn) dX0_allCracked_6 ?_
      refine lv_icmp_ge (tgt := 30) S.1 S.2.1 dX0_allCracked_9 (by decide) (fun c_9 => ?_) (fun c_9 => ?_)
      · have n_9 := Int32.not_lt.mpr c_9
        have hi9 : i = n := le_end hi c_9 hn8
        refine lv_iload_n S.1 S.2.1 dX0_allCracked_30 rfl (lv_at hl 2 rfl) ?_
        exact retS S hr hlk (by rw [cntN_eq hn hn8, hx, hi9]) dX0_allCracked_31
      · have n_9 := Int32.not_le.mp c_9
        have hi2 : i < n := lt_in c_9 hi
        refine lv_iload_n S.1 S.2.1 dX0_allCracked_12 rfl (lv_at hl 2 rfl) ?_
        refine lv_aload_n S.1 S.2.1 dX0_allCracked_13 rfl (lv_at hl 0 rfl) ?_
        refine gf_X0_17 S hK hP 0 0 rfl rfl rfl dX0_allCracked_14 ?_
        refine lv_iload_n S.1 S.2.1 dX0_allCracked_17 rfl (lv_at hl 1 rfl) ?_
        refine b_aaldN (i := i) S hK hP 2 0 2 rfl rfl rfl (by omega) (by decide) (v := ad (4 + i)) rfl dX0_allCracked_18 ?_
        refine gf_X0_114 S hK hP 0 (4 + i) rfl (hw_pot (by omega)) rfl dX0_allCracked_19 ?_
        refine lv_iadd S.1 S.2.1 dX0_allCracked_22 ?_
        refine lv_istore_n (lv' := [(1, .int (x + (r (21 + 7 * i + 6)))), (0, .ref (ad 0)), (2, .int (nI i))]) S.1 S.2.1 dX0_allCracked_23 rfl hl (by decide) rfl (fun ls hl => ?_)
        refine lv_iinc (v := nI (i + 1)) (lv' := [(2, .int (nI (i + 1))), (1, .int (x + (r (21 + 7 * i + 6)))), (0, .ref (ad 0))]) S.1 S.2.1 dX0_allCracked_24 hl (k := 2) rfl (nI_1 i) (by decide) rfl (fun ls hl => ?_)
        refine lv_goto (tgt := 4) S.1 S.2.1 dX0_allCracked_27 (by decide) ?_
        exact ih_4 (i + 1) (x + (r (21 + 7 * i + 6))) (by omega) (by omega) (by rw [show sumR r 6 (i + 1) = _ from rfl]; subst_vars; simp only [sumR, c_9, n_9, ↓reduceIte])  ls (lv_sub hl [2, 0, 1] rfl)
  exact L_4 (n + 1) 0 0 (by omega) (by omega) rfl  ls (lv_sub hl [2, 0, 1] rfl)
set_option maxHeartbeats 4000000 in
set_option maxRecDepth 100000 in
theorem c_X0_coloursOfPots (l : Launch) (E : EV) (ad : Nat → Nat) (r : Row) (n : Nat) (hn : r 1 = nI n) (hn8 : n ≤ 8) : Met l yX0_coloursOfPots (wq yX0_coloursOfPots cX0_coloursOfPots 3 (some .int)) ({ frames := 0, cells := 0, slots := 0, locals := 0 }) (preB E [.ref (ad 0)] [hillsW E ad r]) (qS (colR r (cntN r))) 0 0 (fun _ => False) := by
  refine M_mk RX0 (by decide) rfl (Nat.le_of_ble_eq_true rfl) ?_
  intro p e s m below meth c S hr hlk hK hP hD hS ls hl
  have hl : lv_has ls 3 [(0, .ref (ad 0))] := hl
  refine lv_iconst (v := 0) S.1 S.2.1 dX0_coloursOfPots_0 (by decide) ?_
  refine lv_istore_n (lv' := [(1, .int 0), (0, .ref (ad 0))]) S.1 S.2.1 dX0_coloursOfPots_1 rfl hl (by decide) rfl (fun ls hl => ?_)
  refine lv_iconst (v := 0) S.1 S.2.1 dX0_coloursOfPots_2 (by decide) ?_
  refine lv_istore_n (lv' := [(2, .int 0), (1, .int 0), (0, .ref (ad 0))]) S.1 S.2.1 dX0_coloursOfPots_3 rfl hl (by decide) rfl (fun ls hl => ?_)
  have L_4 : ∀ (fu : Nat) (i : Nat) (x : Int32), (i ≤ n) → (n < i + fu) → (x = colR r i) → ∀ (ls : Array Slot), lv_has ls 3 [(0, .ref (ad 0)), (2, .int (nI i)), (1, .int x)] → W p l e ({ frames := 0, cells := 0, slots := 0, locals := 0 }) s m ([.ref (ad 0)] : List Value).toArray below meth c s.heap [] 0 0 (MQ below (qS (colR r (cntN r))) ([.ref (ad 0)] : List Value).toArray s 0 0 (fun _ => False)) (F0 m 4 ls []) := by
    intro fu
    induction fu with
    | zero =>
      intro i x hi hf hx
      omega
    | succ fu ih_4 =>
      intro i x hi hf hx ls hl
      refine lv_iload_n S.1 S.2.1 dX0_coloursOfPots_4 rfl (lv_at hl 1 rfl) ?_
      refine lv_aload_n S.1 S.2.1 dX0_coloursOfPots_5 rfl (lv_at hl 0 rfl) ?_
      refine gf_X0_24 S hK hP 0 0 rfl rfl (congrArg (fun z => some (Value.int z)) hn) dX0_coloursOfPots_6 ?_
      refine lv_icmp_ge (tgt := 44) S.1 S.2.1 dX0_coloursOfPots_9 (by decide) (fun c_9 => ?_) (fun c_9 => ?_)
      · have n_9 := Int32.not_lt.mpr c_9
        have hi9 : i = n := le_end hi c_9 hn8
        refine lv_iload_n S.1 S.2.1 dX0_coloursOfPots_44 rfl (lv_at hl 2 rfl) ?_
        exact retS S hr hlk (by rw [cntN_eq hn hn8, hx, hi9]) dX0_coloursOfPots_45
      · have n_9 := Int32.not_le.mp c_9
        have hi2 : i < n := lt_in c_9 hi
        refine lv_aload_n S.1 S.2.1 dX0_coloursOfPots_12 rfl (lv_at hl 0 rfl) ?_
        refine gf_X0_17 S hK hP 0 0 rfl rfl rfl dX0_coloursOfPots_13 ?_
        refine lv_iload_n S.1 S.2.1 dX0_coloursOfPots_16 rfl (lv_at hl 1 rfl) ?_
        refine b_aaldN (i := i) S hK hP 2 0 2 rfl rfl rfl (by omega) (by decide) (v := ad (4 + i)) rfl dX0_coloursOfPots_17 ?_
        refine gf_X0_108 S hK hP 0 (4 + i) rfl (hw_pot (by omega)) rfl dX0_coloursOfPots_18 ?_
        refine lv_if_le (tgt := 38) S.1 S.2.1 dX0_coloursOfPots_21 (by decide) (fun c_21 => ?_) (fun c_21 => ?_)
        · have n_21 := Int32.not_lt.mpr c_21
          refine lv_iinc (v := nI (i + 1)) (lv' := [(2, .int (nI (i + 1))), (0, .ref (ad 0)), (1, .int x)]) S.1 S.2.1 dX0_coloursOfPots_38 hl (k := 1) rfl (nI_1 i) (by decide) rfl (fun ls hl => ?_)
          refine lv_goto (tgt := 4) S.1 S.2.1 dX0_coloursOfPots_41 (by decide) ?_
          exact ih_4 (i + 1) x (by omega) (by omega) (by rw [show colR r (i + 1) = _ from rfl]; subst_vars; simp only [colR, c_9, n_9, c_21, n_21, ↓reduceIte])  ls (lv_sub hl [1, 0, 2] rfl)
        · have n_21 := Int32.not_le.mp c_21
          refine lv_iload_n S.1 S.2.1 dX0_coloursOfPots_24 rfl (lv_at hl 2 rfl) ?_
          refine lv_iconst (v := 1) S.1 S.2.1 dX0_coloursOfPots_25 (by decide) ?_
          refine lv_aload_n S.1 S.2.1 dX0_coloursOfPots_26 rfl (lv_at hl 0 rfl) ?_
          refine gf_X0_17 S hK hP 0 0 rfl rfl rfl dX0_coloursOfPots_27 ?_
          refine lv_iload_n S.1 S.2.1 dX0_coloursOfPots_30 rfl (lv_at hl 1 rfl) ?_
          refine b_aaldN (i := i) S hK hP 2 0 2 rfl rfl rfl (by omega) (by decide) (v := ad (4 + i)) rfl dX0_coloursOfPots_31 ?_
          refine gf_X0_105 S hK hP 0 (4 + i) rfl (hw_pot (by omega)) rfl dX0_coloursOfPots_32 ?_
          refine lv_ishl S.1 S.2.1 dX0_coloursOfPots_35 ?_
          refine lv_ior S.1 S.2.1 dX0_coloursOfPots_36 ?_
          refine lv_istore_n (lv' := [(1, .int (x ||| (1 <<< ((r (21 + 7 * i + 4)) &&& 31)))), (0, .ref (ad 0)), (2, .int (nI i))]) S.1 S.2.1 dX0_coloursOfPots_37 rfl hl (by decide) rfl (fun ls hl => ?_)
          refine lv_iinc (v := nI (i + 1)) (lv' := [(2, .int (nI (i + 1))), (1, .int (x ||| (1 <<< ((r (21 + 7 * i + 4)) &&& 31)))), (0, .ref (ad 0))]) S.1 S.2.1 dX0_coloursOfPots_38 hl (k := 2) rfl (nI_1 i) (by decide) rfl (fun ls hl => ?_)
          refine lv_goto (tgt := 4) S.1 S.2.1 dX0_coloursOfPots_41 (by decide) ?_
          exact ih_4 (i + 1) (x ||| (1 <<< ((r (21 + 7 * i + 4)) &&& 31))) (by omega) (by omega) (by rw [show colR r (i + 1) = _ from rfl]; subst_vars; simp only [colR, c_9, n_9, c_21, n_21, ↓reduceIte])  ls (lv_sub hl [2, 0, 1] rfl)
  exact L_4 (n + 1) 0 0 (by omega) (by omega) rfl  ls (lv_sub hl [2, 0, 1] rfl)
set_option maxHeartbeats 4000000 in
set_option maxRecDepth 100000 in
theorem c_X0_readyPotters (l : Launch) (E : EV) (ad : Nat → Nat) (r : Row) (n : Nat) (hn : r 1 = nI n) (hn8 : n ≤ 8) : Met l yX0_readyPotters (wq yX0_readyPotters cX0_readyPotters 3 (some .int)) ({ frames := 2, cells := 0, slots := 0, locals := 40 }) (preB E [.ref (ad 0)] [hillsW E ad r]) (qS (rdyR r (cntN r))) 0 0 (fun _ => False) := by
  refine M_mk RX0 (by decide) rfl (Nat.le_of_ble_eq_true rfl) ?_
  intro p e s m below meth c S hr hlk hK hP hD hS ls hl
  have hl : lv_has ls 3 [(0, .ref (ad 0))] := hl
  refine lv_iconst (v := 0) S.1 S.2.1 dX0_readyPotters_0 (by decide) ?_
  refine lv_istore_n (lv' := [(1, .int 0), (0, .ref (ad 0))]) S.1 S.2.1 dX0_readyPotters_1 rfl hl (by decide) rfl (fun ls hl => ?_)
  refine lv_iconst (v := 0) S.1 S.2.1 dX0_readyPotters_2 (by decide) ?_
  refine lv_istore_n (lv' := [(2, .int 0), (1, .int 0), (0, .ref (ad 0))]) S.1 S.2.1 dX0_readyPotters_3 rfl hl (by decide) rfl (fun ls hl => ?_)
  have L_4 : ∀ (fu : Nat) (i : Nat) (x : Int32), (i ≤ n) → (n < i + fu) → (x = rdyR r i) → ∀ (ls : Array Slot), lv_has ls 3 [(0, .ref (ad 0)), (2, .int (nI i)), (1, .int x)] → W p l e ({ frames := 2, cells := 0, slots := 0, locals := 40 }) s m ([.ref (ad 0)] : List Value).toArray below meth c s.heap [] 0 0 (MQ below (qS (rdyR r (cntN r))) ([.ref (ad 0)] : List Value).toArray s 0 0 (fun _ => False)) (F0 m 4 ls []) := by
    intro fu
    induction fu with
    | zero =>
      intro i x hi hf hx
      omega
    | succ fu ih_4 =>
      intro i x hi hf hx ls hl
      refine lv_iload_n S.1 S.2.1 dX0_readyPotters_4 rfl (lv_at hl 1 rfl) ?_
      refine lv_aload_n S.1 S.2.1 dX0_readyPotters_5 rfl (lv_at hl 0 rfl) ?_
      refine gf_X0_24 S hK hP 0 0 rfl rfl (congrArg (fun z => some (Value.int z)) hn) dX0_readyPotters_6 ?_
      refine lv_icmp_ge (tgt := 36) S.1 S.2.1 dX0_readyPotters_9 (by decide) (fun c_9 => ?_) (fun c_9 => ?_)
      · have n_9 := Int32.not_lt.mpr c_9
        have hi9 : i = n := le_end hi c_9 hn8
        refine lv_iload_n S.1 S.2.1 dX0_readyPotters_36 rfl (lv_at hl 2 rfl) ?_
        exact retS S hr hlk (by rw [cntN_eq hn hn8, hx, hi9]) dX0_readyPotters_37
      · have n_9 := Int32.not_le.mp c_9
        have hi2 : i < n := lt_in c_9 hi
        refine lv_aload_n S.1 S.2.1 dX0_readyPotters_12 rfl (lv_at hl 0 rfl) ?_
        refine gf_X0_17 S hK hP 0 0 rfl rfl rfl dX0_readyPotters_13 ?_
        refine lv_iload_n S.1 S.2.1 dX0_readyPotters_16 rfl (lv_at hl 1 rfl) ?_
        refine b_aaldN (i := i) S hK hP 2 0 2 rfl rfl rfl (by omega) (by decide) (v := ad (4 + i)) rfl dX0_readyPotters_17 ?_
        refine go_S (run_V (As := []) (rest := []) (n := 0) S hK (cell_P hP (b := 0) (j := (4 + i)) rfl (hw_pot (by omega))) cell_D (c_X1_isReady l E (ad (4 + i)) (r (21 + 7 * i)) (r (21 + 7 * i + 1)) (r (21 + 7 * i + 2)) (r (21 + 7 * i + 3)) (r (21 + 7 * i + 4)) (r (21 + 7 * i + 5)) (r (21 + 7 * i + 6))) gV_X0_98 (by decide +kernel) rfl ⟨rfl, rfl⟩ ⟨Nat.le_of_ble_eq_true rfl, Nat.le_of_ble_eq_true rfl⟩ (ci := 1) (q0 := 0) rfl rfl hl.1 (Nat.le_of_ble_eq_true rfl) dX0_readyPotters_18 ⟨Nat.zero_le _, Nat.zero_le _⟩) ?_
        refine b_ifeq (tgt := 30) S.1 S.2.1 dX0_readyPotters_21 (by decide) (fun c_21 => ?_) (fun c_21 => ?_)
        · refine lv_iinc (v := nI (i + 1)) (lv' := [(2, .int (nI (i + 1))), (0, .ref (ad 0)), (1, .int x)]) S.1 S.2.1 dX0_readyPotters_30 hl (k := 1) rfl (nI_1 i) (by decide) rfl (fun ls hl => ?_)
          refine lv_goto (tgt := 4) S.1 S.2.1 dX0_readyPotters_33 (by decide) ?_
          exact ih_4 (i + 1) x (by omega) (by omega) (by rw [show rdyR r (i + 1) = _ from rfl]; subst_vars; simp only [rdyR, needsR, c_9, n_9, c_21, ↓reduceIte])  ls (lv_sub hl [1, 0, 2] rfl)
        · refine lv_iload_n S.1 S.2.1 dX0_readyPotters_24 rfl (lv_at hl 2 rfl) ?_
          refine lv_iconst (v := 1) S.1 S.2.1 dX0_readyPotters_25 (by decide) ?_
          refine lv_iload_n S.1 S.2.1 dX0_readyPotters_26 rfl (lv_at hl 1 rfl) ?_
          refine lv_ishl S.1 S.2.1 dX0_readyPotters_27 ?_
          refine lv_ior S.1 S.2.1 dX0_readyPotters_28 ?_
          refine lv_istore_n (lv' := [(1, .int (x ||| (1 <<< ((nI i) &&& 31)))), (0, .ref (ad 0)), (2, .int (nI i))]) S.1 S.2.1 dX0_readyPotters_29 rfl hl (by decide) rfl (fun ls hl => ?_)
          refine lv_iinc (v := nI (i + 1)) (lv' := [(2, .int (nI (i + 1))), (1, .int (x ||| (1 <<< ((nI i) &&& 31)))), (0, .ref (ad 0))]) S.1 S.2.1 dX0_readyPotters_30 hl (k := 2) rfl (nI_1 i) (by decide) rfl (fun ls hl => ?_)
          refine lv_goto (tgt := 4) S.1 S.2.1 dX0_readyPotters_33 (by decide) ?_
          exact ih_4 (i + 1) (x ||| (1 <<< ((nI i) &&& 31))) (by omega) (by omega) (by rw [show rdyR r (i + 1) = _ from rfl]; subst_vars; simp only [rdyR, needsR, c_9, n_9, c_21, ↓reduceIte])  ls (lv_sub hl [2, 0, 1] rfl)
  exact L_4 (n + 1) 0 0 (by omega) (by omega) rfl  ls (lv_sub hl [2, 0, 1] rfl)
set_option maxHeartbeats 4000000 in
set_option maxRecDepth 100000 in
theorem c_X0_wettestPotter (l : Launch) (E : EV) (ad : Nat → Nat) (r : Row) (n : Nat) (hn : r 1 = nI n) (hn8 : n ≤ 8) : Met l yX0_wettestPotter (wq yX0_wettestPotter cX0_wettestPotter 4 (some .int)) ({ frames := 0, cells := 0, slots := 0, locals := 0 }) (preB E [.ref (ad 0)] [hillsW E ad r]) (qS ((wetR r (cntN r)).1)) 0 0 (fun _ => False) := by
  refine M_mk RX0 (by decide) rfl (Nat.le_of_ble_eq_true rfl) ?_
  intro p e s m below meth c S hr hlk hK hP hD hS ls hl
  have hl : lv_has ls 4 [(0, .ref (ad 0))] := hl
  refine lv_iconst (v := (-1)) S.1 S.2.1 dX0_wettestPotter_0 (by decide) ?_
  refine lv_istore_n (lv' := [(1, .int (-1)), (0, .ref (ad 0))]) S.1 S.2.1 dX0_wettestPotter_1 rfl hl (by decide) rfl (fun ls hl => ?_)
  refine lv_iconst (v := (-1)) S.1 S.2.1 dX0_wettestPotter_2 (by decide) ?_
  refine lv_istore_n (lv' := [(2, .int (-1)), (1, .int (-1)), (0, .ref (ad 0))]) S.1 S.2.1 dX0_wettestPotter_3 rfl hl (by decide) rfl (fun ls hl => ?_)
  refine lv_iconst (v := 0) S.1 S.2.1 dX0_wettestPotter_4 (by decide) ?_
  refine lv_istore_n (lv' := [(3, .int 0), (2, .int (-1)), (1, .int (-1)), (0, .ref (ad 0))]) S.1 S.2.1 dX0_wettestPotter_5 rfl hl (by decide) rfl (fun ls hl => ?_)
  have L_6 : ∀ (fu : Nat) (i : Nat) (x : Int32) (y : Int32), (i ≤ n) → (n < i + fu) → (x = (wetR r i).1) → (y = (wetR r i).2) → ∀ (ls : Array Slot), lv_has ls 4 [(0, .ref (ad 0)), (3, .int (nI i)), (1, .int x), (2, .int y)] → W p l e ({ frames := 0, cells := 0, slots := 0, locals := 0 }) s m ([.ref (ad 0)] : List Value).toArray below meth c s.heap [] 0 0 (MQ below (qS ((wetR r (cntN r)).1)) ([.ref (ad 0)] : List Value).toArray s 0 0 (fun _ => False)) (F0 m 6 ls []) := by
    intro fu
    induction fu with
    | zero =>
      intro i x y hi hf hx hy
      omega
    | succ fu ih_6 =>
      intro i x y hi hf hx hy ls hl
      refine lv_iload_n S.1 S.2.1 dX0_wettestPotter_6 rfl (lv_at hl 1 rfl) ?_
      refine lv_aload_n S.1 S.2.1 dX0_wettestPotter_7 rfl (lv_at hl 0 rfl) ?_
      refine gf_X0_24 S hK hP 0 0 rfl rfl (congrArg (fun z => some (Value.int z)) hn) dX0_wettestPotter_8 ?_
      refine lv_icmp_ge (tgt := 45) S.1 S.2.1 dX0_wettestPotter_11 (by decide) (fun c_11 => ?_) (fun c_11 => ?_)
      · have n_11 := Int32.not_lt.mpr c_11
        have hi9 : i = n := le_end hi c_11 hn8
        refine lv_iload_n S.1 S.2.1 dX0_wettestPotter_45 rfl (lv_at hl 2 rfl) ?_
        exact retS S hr hlk (by rw [cntN_eq hn hn8, hx, hi9]) dX0_wettestPotter_46
      · have n_11 := Int32.not_le.mp c_11
        have hi2 : i < n := lt_in c_11 hi
        refine lv_aload_n S.1 S.2.1 dX0_wettestPotter_14 rfl (lv_at hl 0 rfl) ?_
        refine gf_X0_17 S hK hP 0 0 rfl rfl rfl dX0_wettestPotter_15 ?_
        refine lv_iload_n S.1 S.2.1 dX0_wettestPotter_18 rfl (lv_at hl 1 rfl) ?_
        refine b_aaldN (i := i) S hK hP 2 0 2 rfl rfl rfl (by omega) (by decide) (v := ad (4 + i)) rfl dX0_wettestPotter_19 ?_
        refine gf_X0_83 S hK hP 0 (4 + i) rfl (hw_pot (by omega)) rfl dX0_wettestPotter_20 ?_
        refine lv_iload_n S.1 S.2.1 dX0_wettestPotter_23 rfl (lv_at hl 3 rfl) ?_
        refine lv_icmp_le (tgt := 39) S.1 S.2.1 dX0_wettestPotter_24 (by decide) (fun c_24 => ?_) (fun c_24 => ?_)
        · have n_24 := Int32.not_lt.mpr c_24
          refine lv_iinc (v := nI (i + 1)) (lv' := [(3, .int (nI (i + 1))), (0, .ref (ad 0)), (1, .int x), (2, .int y)]) S.1 S.2.1 dX0_wettestPotter_39 hl (k := 1) rfl (nI_1 i) (by decide) rfl (fun ls hl => ?_)
          refine lv_goto (tgt := 6) S.1 S.2.1 dX0_wettestPotter_42 (by decide) ?_
          exact ih_6 (i + 1) x y (by omega) (by omega) (by rw [show (wetR r (i + 1)).1 = _ from rfl]; subst_vars; simp only [wetR, c_11, n_11, c_24, n_24, ↓reduceIte]) (by rw [show (wetR r (i + 1)).2 = _ from rfl]; subst_vars; simp only [wetR, c_11, n_11, c_24, n_24, ↓reduceIte])  ls (lv_sub hl [1, 0, 2, 3] rfl)
        · have n_24 := Int32.not_le.mp c_24
          refine lv_aload_n S.1 S.2.1 dX0_wettestPotter_27 rfl (lv_at hl 0 rfl) ?_
          refine gf_X0_17 S hK hP 0 0 rfl rfl rfl dX0_wettestPotter_28 ?_
          refine lv_iload_n S.1 S.2.1 dX0_wettestPotter_31 rfl (lv_at hl 1 rfl) ?_
          refine b_aaldN (i := i) S hK hP 2 0 2 rfl rfl rfl (by omega) (by decide) (v := ad (4 + i)) rfl dX0_wettestPotter_32 ?_
          refine gf_X0_83 S hK hP 0 (4 + i) rfl (hw_pot (by omega)) rfl dX0_wettestPotter_33 ?_
          refine lv_istore_n (lv' := [(2, .int (r (21 + 7 * i + 3))), (0, .ref (ad 0)), (3, .int (nI i)), (1, .int x)]) S.1 S.2.1 dX0_wettestPotter_36 rfl hl (by decide) rfl (fun ls hl => ?_)
          refine lv_iload_n S.1 S.2.1 dX0_wettestPotter_37 rfl (lv_at hl 2 rfl) ?_
          refine lv_istore_n (lv' := [(1, .int (nI i)), (2, .int (r (21 + 7 * i + 3))), (0, .ref (ad 0)), (3, .int (nI i))]) S.1 S.2.1 dX0_wettestPotter_38 rfl hl (by decide) rfl (fun ls hl => ?_)
          refine lv_iinc (v := nI (i + 1)) (lv' := [(3, .int (nI (i + 1))), (1, .int (nI i)), (2, .int (r (21 + 7 * i + 3))), (0, .ref (ad 0))]) S.1 S.2.1 dX0_wettestPotter_39 hl (k := 3) rfl (nI_1 i) (by decide) rfl (fun ls hl => ?_)
          refine lv_goto (tgt := 6) S.1 S.2.1 dX0_wettestPotter_42 (by decide) ?_
          exact ih_6 (i + 1) (nI i) (r (21 + 7 * i + 3)) (by omega) (by omega) (by rw [show (wetR r (i + 1)).1 = _ from rfl]; subst_vars; simp only [wetR, c_11, n_11, c_24, n_24, ↓reduceIte]) (by rw [show (wetR r (i + 1)).2 = _ from rfl]; subst_vars; simp only [wetR, c_11, n_11, c_24, n_24, ↓reduceIte])  ls (lv_sub hl [3, 0, 1, 2] rfl)
  exact L_6 (n + 1) 0 (-1) (-1) (by omega) (by omega) rfl rfl  ls (lv_sub hl [3, 0, 2, 1] rfl)
set_option maxHeartbeats 4000000 in
set_option maxRecDepth 100000 in
theorem c_X0_heldSpots (l : Launch) (E : EV) (ad : Nat → Nat) (r : Row)  : Met l yX0_heldSpots (wq yX0_heldSpots cX0_heldSpots 3 (some .int)) ({ frames := 0, cells := 0, slots := 0, locals := 0 }) (preB E [.ref (ad 0)] [hillsW E ad r]) (qS (heldR r 10)) 0 0 (fun _ => False) := by
  refine M_mk RX0 (by decide) rfl (Nat.le_of_ble_eq_true rfl) ?_
  intro p e s m below meth c S hr hlk hK hP hD hS ls hl
  have hl : lv_has ls 3 [(0, .ref (ad 0))] := hl
  refine lv_iconst (v := 0) S.1 S.2.1 dX0_heldSpots_0 (by decide) ?_
  refine lv_istore_n (lv' := [(1, .int 0), (0, .ref (ad 0))]) S.1 S.2.1 dX0_heldSpots_1 rfl hl (by decide) rfl (fun ls hl => ?_)
  refine lv_iconst (v := 0) S.1 S.2.1 dX0_heldSpots_2 (by decide) ?_
  refine lv_istore_n (lv' := [(2, .int 0), (1, .int 0), (0, .ref (ad 0))]) S.1 S.2.1 dX0_heldSpots_3 rfl hl (by decide) rfl (fun ls hl => ?_)
  have L_4 : ∀ (fu : Nat) (i : Nat) (x : Int32), (i ≤ 10) → (10 < i + fu) → (x = heldR r i) → ∀ (ls : Array Slot), lv_has ls 3 [(0, .ref (ad 0)), (2, .int (nI i)), (1, .int x)] → W p l e ({ frames := 0, cells := 0, slots := 0, locals := 0 }) s m ([.ref (ad 0)] : List Value).toArray below meth c s.heap [] 0 0 (MQ below (qS (heldR r 10)) ([.ref (ad 0)] : List Value).toArray s 0 0 (fun _ => False)) (F0 m 4 ls []) := by
    intro fu
    induction fu with
    | zero =>
      intro i x hi hf hx
      omega
    | succ fu ih_4 =>
      intro i x hi hf hx ls hl
      refine lv_iload_n S.1 S.2.1 dX0_heldSpots_4 rfl (lv_at hl 1 rfl) ?_
      refine lv_bipush (v := 10) S.1 S.2.1 dX0_heldSpots_5 (by decide) ?_
      refine lv_icmp_ge (tgt := 29) S.1 S.2.1 dX0_heldSpots_7 (by decide) (fun c_7 => ?_) (fun c_7 => ?_)
      · have n_7 := Int32.not_lt.mpr c_7
        have hi9 : i = 10 := le_endK (n := 10) hi c_7 (by decide)
        refine lv_iload_n S.1 S.2.1 dX0_heldSpots_29 rfl (lv_at hl 2 rfl) ?_
        exact retS S hr hlk (by rw [hx, hi9]) dX0_heldSpots_30
      · have n_7 := Int32.not_le.mp c_7
        have hi2 : i < 10 := lt_in (n := 10) c_7 hi
        refine lv_aload_n S.1 S.2.1 dX0_heldSpots_10 rfl (lv_at hl 0 rfl) ?_
        refine gf_X0_21 S hK hP 0 0 rfl rfl rfl dX0_heldSpots_11 ?_
        refine lv_iload_n S.1 S.2.1 dX0_heldSpots_14 rfl (lv_at hl 1 rfl) ?_
        refine b_ialdN (i := i) S hK hP 0 3 rfl rfl (by omega) (by decide) dX0_heldSpots_15 ?_
        refine lv_eqi (y := r (11 + i)) (seg_at (by omega)) ?_
        refine lv_iconst (v := (-1)) S.1 S.2.1 dX0_heldSpots_16 (by decide) ?_
        refine lv_icmp_eq (tgt := 23) S.1 S.2.1 dX0_heldSpots_17 (by decide) (fun c_17 => ?_) (fun c_17 => ?_)
        · refine lv_iinc (v := nI (i + 1)) (lv' := [(2, .int (nI (i + 1))), (0, .ref (ad 0)), (1, .int x)]) S.1 S.2.1 dX0_heldSpots_23 hl (k := 1) rfl (nI_1 i) (by decide) rfl (fun ls hl => ?_)
          refine lv_goto (tgt := 4) S.1 S.2.1 dX0_heldSpots_26 (by decide) ?_
          exact ih_4 (i + 1) x (by omega) (by omega) (by rw [show heldR r (i + 1) = _ from rfl]; subst_vars; simp only [heldR, c_7, n_7, eq_true c_17, ↓reduceIte])  ls (lv_sub hl [1, 0, 2] rfl)
        · refine lv_iinc (v := x + 1) (lv' := [(1, .int (x + 1)), (0, .ref (ad 0)), (2, .int (nI i))]) S.1 S.2.1 dX0_heldSpots_20 hl (k := 2) rfl rfl (by decide) rfl (fun ls hl => ?_)
          refine lv_iinc (v := nI (i + 1)) (lv' := [(2, .int (nI (i + 1))), (1, .int (x + 1)), (0, .ref (ad 0))]) S.1 S.2.1 dX0_heldSpots_23 hl (k := 2) rfl (nI_1 i) (by decide) rfl (fun ls hl => ?_)
          refine lv_goto (tgt := 4) S.1 S.2.1 dX0_heldSpots_26 (by decide) ?_
          exact ih_4 (i + 1) (x + 1) (by omega) (by omega) (by rw [show heldR r (i + 1) = _ from rfl]; subst_vars; simp only [heldR, c_7, n_7, c_17, ↓reduceIte])  ls (lv_sub hl [2, 0, 1] rfl)
  exact L_4 (10 + 1) 0 0 (by omega) (by omega) rfl  ls (lv_sub hl [2, 0, 1] rfl)
set_option maxHeartbeats 4000000 in
set_option maxRecDepth 100000 in
theorem c_X0_enoughWeathers (l : Launch) (E : EV) (ad : Nat → Nat) (r : Row) (q : Nat) (hq : q < 8) : Met l yX0_enoughWeathers (wq yX0_enoughWeathers cX0_enoughWeathers 5 (some .int)) ({ frames := 1, cells := 0, slots := 0, locals := 24 }) (preB E [.ref (ad 0), .ref (ad (4 + q))] [hillsW E ad r]) (qS (enR r q 100)) 0 0 (fun _ => False) := by
  refine M_mk RX0 (by decide) rfl (Nat.le_of_ble_eq_true rfl) ?_
  intro p e s m below meth c S hr hlk hK hP hD hS ls hl
  have hl : lv_has ls 5 [(0, .ref (ad 0)), (1, .ref (ad (4 + q)))] := hl
  refine lv_aload_n S.1 S.2.1 dX0_enoughWeathers_0 rfl (lv_at hl 1 rfl) ?_
  refine go_S (run_V (As := []) (rest := []) (n := 0) S hK (cell_P hP (b := 0) (j := (4 + q)) rfl (hw_pot (by omega))) cell_D (c_X1_needs l E (ad (4 + q)) (r (21 + 7 * q)) (r (21 + 7 * q + 1)) (r (21 + 7 * q + 2)) (r (21 + 7 * q + 3)) (r (21 + 7 * q + 4)) (r (21 + 7 * q + 5)) (r (21 + 7 * q + 6))) gV_X0_124 (by decide +kernel) rfl ⟨rfl, rfl⟩ ⟨Nat.le_of_ble_eq_true rfl, Nat.le_of_ble_eq_true rfl⟩ (ci := 1) (q0 := 0) rfl rfl hl.1 (Nat.le_of_ble_eq_true rfl) dX0_enoughWeathers_1 ⟨Nat.zero_le _, Nat.zero_le _⟩) ?_
  refine lv_aload_n S.1 S.2.1 dX0_enoughWeathers_4 rfl (lv_at hl 1 rfl) ?_
  refine lv_aload_n S.1 S.2.1 dX0_enoughWeathers_5 rfl (lv_at hl 0 rfl) ?_
  refine gf_X0_28 S hK hP 0 0 rfl rfl rfl dX0_enoughWeathers_6 ?_
  refine go_S (run_V (As := [.int (r 3)]) (rest := [.int (needsV (r (21 + 7 * q)))]) (n := 1) S hK (cell_P hP (b := 0) (j := (4 + q)) rfl (hw_pot (by omega))) cell_D (c_X1_cries l E (ad (4 + q)) (r (21 + 7 * q)) (r (21 + 7 * q + 1)) (r (21 + 7 * q + 2)) (r (21 + 7 * q + 3)) (r (21 + 7 * q + 4)) (r (21 + 7 * q + 5)) (r (21 + 7 * q + 6)) (r 3)) gV_X0_76 (by decide +kernel) rfl ⟨rfl, rfl⟩ ⟨Nat.le_of_ble_eq_true rfl, Nat.le_of_ble_eq_true rfl⟩ (ci := 1) (q0 := 0) rfl rfl hl.1 (Nat.le_of_ble_eq_true rfl) dX0_enoughWeathers_9 ⟨Nat.zero_le _, Nat.zero_le _⟩) ?_
  refine lv_isub S.1 S.2.1 dX0_enoughWeathers_12 ?_
  refine lv_istore_n (lv' := [(2, .int ((needsV (r (21 + 7 * q))) - (criesV (r (21 + 7 * q)) (r (21 + 7 * q + 1)) (r (21 + 7 * q + 5)) (r 3)))), (0, .ref (ad 0)), (1, .ref (ad (4 + q)))]) S.1 S.2.1 dX0_enoughWeathers_13 rfl hl (by decide) rfl (fun ls hl => ?_)
  refine lv_iconst (v := 0) S.1 S.2.1 dX0_enoughWeathers_14 (by decide) ?_
  refine lv_istore_n (lv' := [(3, .int 0), (2, .int ((needsV (r (21 + 7 * q))) - (criesV (r (21 + 7 * q)) (r (21 + 7 * q + 1)) (r (21 + 7 * q + 5)) (r 3)))), (0, .ref (ad 0)), (1, .ref (ad (4 + q)))]) S.1 S.2.1 dX0_enoughWeathers_15 rfl hl (by decide) rfl (fun ls hl => ?_)
  refine lv_iconst (v := 0) S.1 S.2.1 dX0_enoughWeathers_16 (by decide) ?_
  refine lv_istore (lv' := [(4, .int 0), (3, .int 0), (2, .int ((needsV (r (21 + 7 * q))) - (criesV (r (21 + 7 * q)) (r (21 + 7 * q + 1)) (r (21 + 7 * q + 5)) (r 3)))), (0, .ref (ad 0)), (1, .ref (ad (4 + q)))]) S.1 S.2.1 dX0_enoughWeathers_17 hl (by decide) rfl (fun ls hl => ?_)
  have L_19 : ∀ (fu : Nat) (i : Nat) (x : Int32), (i ≤ 100) → (100 < i + fu) → (x = enR r q i) → ∀ (ls : Array Slot), lv_has ls 5 [(0, .ref (ad 0)), (1, .ref (ad (4 + q))), (2, .int (needsV (r (21 + 7 * q)) - criesV (r (21 + 7 * q)) (r (21 + 7 * q + 1)) (r (21 + 7 * q + 5)) (r 3))), (4, .int (nI i)), (3, .int x)] → W p l e ({ frames := 1, cells := 0, slots := 0, locals := 24 }) s m ([.ref (ad 0), .ref (ad (4 + q))] : List Value).toArray below meth c s.heap [] 0 0 (MQ below (qS (enR r q 100)) ([.ref (ad 0), .ref (ad (4 + q))] : List Value).toArray s 0 0 (fun _ => False)) (F0 m 19 ls []) := by
    intro fu
    induction fu with
    | zero =>
      intro i x hi hf hx
      omega
    | succ fu ih_19 =>
      intro i x hi hf hx ls hl
      refine lv_iload S.1 S.2.1 dX0_enoughWeathers_19 (lv_at hl 3 rfl) ?_
      refine lv_bipush (v := 100) S.1 S.2.1 dX0_enoughWeathers_21 (by decide) ?_
      refine lv_icmp_ge (tgt := 45) S.1 S.2.1 dX0_enoughWeathers_23 (by decide) (fun c_23 => ?_) (fun c_23 => ?_)
      · have n_23 := Int32.not_lt.mpr c_23
        have hi9 : i = 100 := le_endK (n := 100) hi c_23 (by decide)
        refine lv_iload_n S.1 S.2.1 dX0_enoughWeathers_45 rfl (lv_at hl 4 rfl) ?_
        exact retS S hr hlk (by rw [hx, hi9]) dX0_enoughWeathers_46
      · have n_23 := Int32.not_le.mp c_23
        have hi2 : i < 100 := lt_in (n := 100) c_23 hi
        refine lv_aload_n S.1 S.2.1 dX0_enoughWeathers_26 rfl (lv_at hl 1 rfl) ?_
        refine lv_iload S.1 S.2.1 dX0_enoughWeathers_27 (lv_at hl 3 rfl) ?_
        refine go_S (run_V (As := [.int (nI i)]) (rest := []) (n := 1) S hK (cell_P hP (b := 0) (j := (4 + q)) rfl (hw_pot (by omega))) cell_D (c_X1_weathers l E (ad (4 + q)) (r (21 + 7 * q)) (r (21 + 7 * q + 1)) (r (21 + 7 * q + 2)) (r (21 + 7 * q + 3)) (r (21 + 7 * q + 4)) (r (21 + 7 * q + 5)) (r (21 + 7 * q + 6)) (nI i)) gV_X0_80 (by decide +kernel) rfl ⟨rfl, rfl⟩ ⟨Nat.le_of_ble_eq_true rfl, Nat.le_of_ble_eq_true rfl⟩ (ci := 1) (q0 := 0) rfl rfl hl.1 (Nat.le_of_ble_eq_true rfl) dX0_enoughWeathers_29 ⟨Nat.zero_le _, Nat.zero_le _⟩) ?_
        refine lv_iload_n S.1 S.2.1 dX0_enoughWeathers_32 rfl (lv_at hl 2 rfl) ?_
        refine lv_icmp_lt (tgt := 39) S.1 S.2.1 dX0_enoughWeathers_33 (by decide) (fun c_33 => ?_) (fun c_33 => ?_)
        · have n_33 := Int32.not_le.mpr c_33
          refine lv_iinc (v := nI (i + 1)) (lv' := [(4, .int (nI (i + 1))), (0, .ref (ad 0)), (1, .ref (ad (4 + q))), (2, .int (needsV (r (21 + 7 * q)) - criesV (r (21 + 7 * q)) (r (21 + 7 * q + 1)) (r (21 + 7 * q + 5)) (r 3))), (3, .int x)]) S.1 S.2.1 dX0_enoughWeathers_39 hl (k := 3) rfl (nI_1 i) (by decide) rfl (fun ls hl => ?_)
          refine lv_goto (tgt := 19) S.1 S.2.1 dX0_enoughWeathers_42 (by decide) ?_
          exact ih_19 (i + 1) x (by omega) (by omega) (by rw [show enR r q (i + 1) = _ from rfl]; subst_vars; simp only [enR, needsR, criesR, weathersR, c_23, n_23, c_33, n_33, ↓reduceIte])  ls (lv_sub hl [1, 2, 3, 0, 4] rfl)
        · have n_33 := Int32.not_lt.mp c_33
          refine lv_iinc (v := x + 1) (lv' := [(3, .int (x + 1)), (0, .ref (ad 0)), (1, .ref (ad (4 + q))), (2, .int (needsV (r (21 + 7 * q)) - criesV (r (21 + 7 * q)) (r (21 + 7 * q + 1)) (r (21 + 7 * q + 5)) (r 3))), (4, .int (nI i))]) S.1 S.2.1 dX0_enoughWeathers_36 hl (k := 4) rfl rfl (by decide) rfl (fun ls hl => ?_)
          refine lv_iinc (v := nI (i + 1)) (lv' := [(4, .int (nI (i + 1))), (3, .int (x + 1)), (0, .ref (ad 0)), (1, .ref (ad (4 + q))), (2, .int (needsV (r (21 + 7 * q)) - criesV (r (21 + 7 * q)) (r (21 + 7 * q + 1)) (r (21 + 7 * q + 5)) (r 3)))]) S.1 S.2.1 dX0_enoughWeathers_39 hl (k := 4) rfl (nI_1 i) (by decide) rfl (fun ls hl => ?_)
          refine lv_goto (tgt := 19) S.1 S.2.1 dX0_enoughWeathers_42 (by decide) ?_
          exact ih_19 (i + 1) (x + 1) (by omega) (by omega) (by rw [show enR r q (i + 1) = _ from rfl]; subst_vars; simp only [enR, needsR, criesR, weathersR, c_23, n_23, c_33, n_33, ↓reduceIte])  ls (lv_sub hl [2, 3, 4, 0, 1] rfl)
  exact L_19 (100 + 1) 0 0 (by omega) (by omega) rfl  ls (lv_sub hl [3, 4, 2, 0, 1] rfl)
set_option maxHeartbeats 4000000 in
set_option maxRecDepth 100000 in
theorem c_X0_draw (l : Launch) (E : EV) (ad : Nat → Nat) (r : Row)  : Met l yX0_draw (wq yX0_draw cX0_draw 1 (some .int)) ({ frames := 0, cells := 0, slots := 0, locals := 0 }) (preB E [.ref (ad 0)] [hillsW E ad r]) (qI E [hillsW E ad r] [hillsW E ad (drawF r)] (drawV r)) 0 0 (inB [hillsW E ad r]) := by
  refine M_mk RX0 (by decide) rfl (Nat.le_of_ble_eq_true rfl) ?_
  intro p e s m below meth c S hr hlk hK hP hD hS ls hl
  have hl : lv_has ls 1 [(0, .ref (ad 0))] := hl
  obtain ⟨H, hH⟩ : ∃ z, z = s.heap := ⟨_, rfl⟩
  obtain ⟨locs, hlocs⟩ : ∃ z : List Loc, z = [] := ⟨_, rfl⟩
  have hP : PE E [hillsW E ad r] H := by rw [hH]; exact hP
  have hS : va_S (inB [hillsW E ad r]) s.heap H locs := by rw [hH, hlocs]; exact hS
  show W p l e ({ frames := 0, cells := 0, slots := 0, locals := 0 }) s m ([.ref (ad 0)] : List Value).toArray below meth c s.heap [] 0 0 _ _
  suffices hgo : W p l e ({ frames := 0, cells := 0, slots := 0, locals := 0 }) s m ([.ref (ad 0)] : List Value).toArray below meth c H locs 0 0 (MQ below (qI E [hillsW E ad r] [hillsW E ad (drawF r)] (drawV r)) ([.ref (ad 0)] : List Value).toArray s 0 0 (inB [hillsW E ad r])) (F0 m 0 ls []) by rw [hH, hlocs] at hgo; exact hgo
  clear hH hlocs
  refine lv_aload_n S.1 S.2.1 dX0_draw_0 rfl (lv_at hl 0 rfl) ?_
  refine lv_aload_n S.1 S.2.1 dX0_draw_1 rfl (lv_at hl 0 rfl) ?_
  refine gf_X0_37 S hK hP 0 0 rfl rfl rfl dX0_draw_2 ?_
  refine lv_ldc (v := 1103515245) S.1 S.2.1 S.2.2.2.1 (S.2.2.2.2 _ (List.mem_cons_of_mem _ kk_X0_123)) dX0_draw_5 ?_
  refine lv_imul S.1 S.2.1 dX0_draw_7 ?_
  refine lv_sipush (v := 12345) S.1 S.2.1 dX0_draw_8 (by decide) ?_
  refine lv_iadd S.1 S.2.1 dX0_draw_11 ?_
  refine pf_X0_37 S hK hP hD hS 0 0 rfl rfl (Nat.le_of_ble_eq_true rfl) hs_2 (Bs1 := [hillsW E ad (upd r 2 (((r 2) * 1103515245) + 12345))]) rfl dX0_draw_12 (fun H locs hP hD hS => ?_)
  obtain ⟨r_12, er_12⟩ : ∃ z, z = upd r 2 (((r 2) * 1103515245) + 12345) := ⟨_, rfl⟩
  rw [← er_12] at hP hD
  refine lv_aload_n S.1 S.2.1 dX0_draw_15 rfl (lv_at hl 0 rfl) ?_
  refine gf_X0_37 S hK hP 0 0 rfl rfl rfl dX0_draw_16 ?_
  refine lv_bipush (v := 8) S.1 S.2.1 dX0_draw_19 (by decide) ?_
  refine lv_iushr S.1 S.2.1 dX0_draw_21 rfl ?_
  exact retI S hr hlk (by rw [show drawF r = r_12 from er_12.symm]; exact hP) hS (by rw [er_12]; rfl) dX0_draw_22
