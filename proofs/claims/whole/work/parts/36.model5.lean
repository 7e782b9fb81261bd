theorem of_rng {v : Int32} {lo hi : Nat} (h1 : lo < 2147483648) (h2 : hi < 2147483648) (h : nI lo ≤ v ∧ v ≤ nI hi) : ∃ k : Nat, lo ≤ k ∧ k ≤ hi ∧ v = nI k := by
  have h0 : (0 : Int32) ≤ v := Int32.le_trans (nI_pos' h1) h.1
  obtain ⟨k, hk, rfl⟩ := nI_of (Int32.not_lt.mpr h0)
  exact ⟨k, (nI_leI h1 hk).mp h.1, (nI_leI hk h2).mp h.2, rfl⟩
theorem bI_ne {P : Prop} [Decidable P] (h : ¬ bI P = 0) : P := Classical.byContradiction fun q => h (if_neg q)
theorem fld_nat {w v : Int32} (h : ¬ fldB w v = 0) : ∃ k : Nat, k < 7 ∧ w = nI k ∧ le9 v (bnd k) := by
  unfold fldB at h
  have fin : ∀ (M : Int32) (m : Nat), M.toInt = m → (0 ≤ v ∧ v ≤ M) → le9 v m := fun M m hM q => nI_of2 hM (Int32.not_lt.mpr q.1) q.2
  split at h
  · exact ⟨0, by decide, by assumption, fin 6 6 (by decide) (bI_ne h)⟩
  split at h
  · exact ⟨1, by decide, by assumption, fin 99 99 (by decide) (bI_ne h)⟩
  split at h
  · exact ⟨2, by decide, by assumption, fin 9 9 (by decide) (bI_ne h)⟩
  split at h
  · exact ⟨3, by decide, by assumption, fin 999 999 (by decide) (bI_ne h)⟩
  split at h
  · exact ⟨4, by decide, by assumption, fin 7 7 (by decide) (bI_ne h)⟩
  split at h
  · exact ⟨5, by decide, by assumption, fin 9999 9999 (by decide) (bI_ne h)⟩
  split at h
  · exact ⟨6, by decide, by assumption, fin 9999 9999 (by decide) (bI_ne h)⟩
  · exact absurd rfl h
theorem tN_nI {k : Nat} (h : k < 2147483648) : tN (nI k) = k := nI_clamp h
theorem full_iff {r : Row} {n : Nat} (hn : r 1 = nI n) (hn8 : n ≤ 8) (h : nI n = 8) : 8 ≤ r 1 := by rw [hn, h]; exact Int32.le_refl _
theorem n_lt8 {n : Nat} (hn8 : n ≤ 8) (h : ¬ nI n = 8) : n < 8 := Nat.lt_of_le_of_ne hn8 (fun q => h (by rw [q]; rfl))
theorem nfull_iff {r : Row} {n : Nat} (hn : r 1 = nI n) (hn8 : n ≤ 8) (h : ¬ nI n = 8) : ¬ 8 ≤ r 1 := by
  rw [hn]
  exact nI_ge (b := 8) (n_lt8 hn8 h) (by decide)
/-- the wettest so far: none, and its run is -1; or one, and its run -/
def wetI (r : Row) (i : Nat) : Prop := (i = 0 ∧ wetR r i = (-1, -1)) ∨ ∃ m : Nat, m < i ∧ i ≤ 8 ∧ wetR r i = (nI m, r (21 + 7 * m + 3))
theorem wetI_0 {r : Row} : wetI r 0 := Or.inl ⟨rfl, rfl⟩
theorem wetI_s {r : Row} {i : Nat} (h : wetI r i) (hr : ∀ k, k < i + 1 → ∃ x : Nat, x < 2147483648 ∧ r (21 + 7 * k + 3) = nI x) (hi : i < 8) : wetI r (i + 1) := by
  rcases h with ⟨h0, h1⟩ | ⟨m, h0, h2, h1⟩
  · subst h0
    obtain ⟨x, x1, x2⟩ := hr 0 (by omega)
    refine Or.inr ⟨0, by omega, by omega, ?_⟩
    show (if _ ≤ (wetR r 0).2 then _ else _) = _
    rw [if_neg ?_]
    show ¬ r (21 + 7 * 0 + 3) ≤ -1
    rw [x2]
    exact fun q => absurd (Int32.le_trans (nI_pos' x1) q) (by decide)
  · show ((_ ∧ (if _ then _ else _) = _) ∨ _)
    by_cases c : r (21 + 7 * i + 3) ≤ (wetR r i).2
    · rw [if_pos c]
      exact Or.inr ⟨m, by omega, by omega, by rw [wetR, if_pos c]; exact h1⟩
    · rw [if_neg c]
      exact Or.inr ⟨i, by omega, by omega, by rw [wetR, if_neg c]⟩
theorem wet_a {r : Row} {i : Nat} {b : Int32} (h : wetI r i) (hb : b = (wetR r i).1) (c : b < 0) (hr : ∃ x : Nat, x < 2147483648 ∧ r (21 + 7 * i + 3) = nI x) : nI i = (wetR r (i + 1)).1 := by
  rcases h with ⟨h0, h1⟩ | ⟨m, h0, h2, h1⟩
  · obtain ⟨x, x1, x2⟩ := hr
    rw [wetR, h1, if_neg ?_]
    rw [x2]
    exact fun q => absurd (Int32.le_trans (nI_pos' x1) q) (by decide)
  · rw [hb, h1] at c
    exact absurd c (nI_pos (by omega))
theorem wet_nat {r : Row} {i : Nat} {b : Int32} (h : wetI r i) (hb : b = (wetR r i).1) (c : ¬ b < 0) : ∃ m : Nat, m < 8 ∧ b = nI m := by
  rcases h with ⟨h0, h1⟩ | ⟨m, h0, h2, h1⟩
  · rw [hb, h1] at c
    exact absurd (show (-1 : Int32) < 0 by decide) c
  · exact ⟨m, by omega, by rw [hb, h1]⟩
theorem wet_snd {r : Row} {i m : Nat} {b : Int32} (h : wetI r i) (hb : b = (wetR r i).1) (hm : m < 8) (e : b = nI m) : (wetR r i).2 = r (21 + 7 * m + 3) := by
  rcases h with ⟨h0, h1⟩ | ⟨k, h0, h2, h1⟩
  · rw [hb, h1] at e
    exact absurd e (fun q => nI_pos (n := m) (by omega) (by rw [← q]; decide))
  · rw [hb, h1] at e
    have e2 : k = m := (nI_eq (by omega) (by omega)).mp e
    rw [h1, e2]
theorem wet_t {r : Row} {i m : Nat} {b : Int32} (h : wetI r i) (hb : b = (wetR r i).1) (hm : m < 8) (e : b = nI m) (c : r (21 + 7 * i + 3) ≤ r (21 + 7 * m + 3)) : nI m = (wetR r (i + 1)).1 := by
  rw [wetR, wet_snd h hb hm e, if_pos c, ← hb, e]
theorem wet_f {r : Row} {i m : Nat} {b : Int32} (h : wetI r i) (hb : b = (wetR r i).1) (hm : m < 8) (e : b = nI m) (c : ¬ r (21 + 7 * i + 3) ≤ r (21 + 7 * m + 3)) : nI i = (wetR r (i + 1)).1 := by
  rw [wetR, wet_snd h hb hm e, if_neg c]
set_option maxHeartbeats 800000 in
set_option maxRecDepth 100000 in
theorem c_X5_mostRun (l : Launch) (E : EV) (am : Nat → Nat) (q r : Row) (hR : RI r) : Met l yX5_mostRun (wq yX5_mostRun cX5_mostRun 3 (some .int)) ({ frames := 2, cells := 0, slots := 0, locals := 43 }) (preB E [.ref (am 0)] [[mObj am q], [(am 1, .inl (E.2.1, 77, .inl (sg r 77)))]]) (qS ((wetR r (cntN r)).1)) 0 0 (fun _ => False) := by
  refine M_mk RX5 (by decide) rfl (Nat.le_of_ble_eq_true rfl) ?_
  intro p e s m below meth c S hr hlk hK hP hD hS ls hl
  have hl : lv_has ls 3 [(0, .ref (am 0))] := hl
  obtain ⟨n, d, hn, hn8, hd, hd5, ho, hso, hli, hsp, hpt⟩ := id hR
  have hrun : ∀ k, k < n → ∃ x : Nat, x < 2147483648 ∧ r (21 + 7 * k + 3) = nI x := fun k hk => by (obtain ⟨x, x1, x2⟩ := hpt k hk 3 (by decide); exact ⟨x, by have : x ≤ 999 := x1; omega, x2⟩)
  refine lv_iconst (v := (-1)) S.1 S.2.1 dX5_mostRun_0 (by decide) ?_
  refine lv_istore_n (lv' := [(1, .int (-1)), (0, .ref (am 0))]) S.1 S.2.1 dX5_mostRun_1 rfl hl (by decide) rfl (fun ls hl => ?_)
  refine lv_iconst (v := 0) S.1 S.2.1 dX5_mostRun_2 (by decide) ?_
  refine lv_istore_n (lv' := [(2, .int 0), (1, .int (-1)), (0, .ref (am 0))]) S.1 S.2.1 dX5_mostRun_3 rfl hl (by decide) rfl (fun ls hl => ?_)
  have L_4 : ∀ (fu : Nat) (i : Nat) (b : Int32), (i ≤ n) → (n < i + fu) → (b = (wetR r i).1) → (wetI r i) → ∀ (ls : Array Slot), lv_has ls 3 [(0, .ref (am 0)), (1, .int b), (2, .int (nI i))] → W p l e ({ frames := 2, cells := 0, slots := 0, locals := 43 }) s m ([.ref (am 0)] : List Value).toArray below meth c s.heap [] 0 0 (MQ below (qS ((wetR r (cntN r)).1)) ([.ref (am 0)] : List Value).toArray s 0 0 (fun _ => False)) (F0 m 4 ls []) := by
    intro fu
    induction fu with
    | zero =>
      intro i b hi hf hb hw
      omega
    | succ fu ih_4 =>
      intro i b hi hf hb hw ls hl
      refine lv_iload_n S.1 S.2.1 dX5_mostRun_4 rfl (lv_at hl 2 rfl) ?_
      refine lv_aload_n S.1 S.2.1 dX5_mostRun_5 rfl (lv_at hl 0 rfl) ?_
      refine gf_X5_9 S hK hP 0 0 rfl rfl rfl dX5_mostRun_6 ?_
      refine lv_iconst (v := 1) S.1 S.2.1 dX5_mostRun_9 (by decide) ?_
      refine b_ialdN (i := 1) S hK hP 1 0 rfl rfl (by omega) (by decide) dX5_mostRun_10 ?_
      refine lv_eqi (y := nI n) ((sg_at (by omega)).trans hn) ?_
      refine lv_icmp_ge (tgt := 45) S.1 S.2.1 dX5_mostRun_11 (by decide) (fun c_11 => ?_) (fun c_11 => ?_)
      · have n_11 := Int32.not_lt.mpr c_11
        have hi9 : i = n := le_end hi c_11 hn8
        refine lv_iload_n S.1 S.2.1 dX5_mostRun_45 rfl (lv_at hl 1 rfl) ?_
        exact retS S hr hlk (by rw [cntN_eq hn hn8, hb, hi9]) dX5_mostRun_46
      · have n_11 := Int32.not_le.mp c_11
        have hi2 : i < n := lt_in c_11 hi
        refine lv_iload_n S.1 S.2.1 dX5_mostRun_14 rfl (lv_at hl 1 rfl) ?_
        refine lv_if_lt (tgt := 33) S.1 S.2.1 dX5_mostRun_15 (by decide) (fun c_15 => ?_) (fun c_15 => ?_)
        · have n_15 := Int32.not_le.mpr c_15
          refine lv_iload_n S.1 S.2.1 dX5_mostRun_33 rfl (lv_at hl 2 rfl) ?_
          refine lv_goto (tgt := 38) S.1 S.2.1 dX5_mostRun_34 (by decide) ?_
          refine lv_istore_n (lv' := [(1, .int (nI i)), (0, .ref (am 0)), (2, .int (nI i))]) S.1 S.2.1 dX5_mostRun_38 rfl hl (by decide) rfl (fun ls hl => ?_)
          refine lv_iinc (v := nI (i + 1)) (lv' := [(2, .int (nI (i + 1))), (1, .int (nI i)), (0, .ref (am 0))]) S.1 S.2.1 dX5_mostRun_39 hl (k := 2) rfl (nI_1 i) (by decide) rfl (fun ls hl => ?_)
          refine lv_goto (tgt := 4) S.1 S.2.1 dX5_mostRun_42 (by decide) ?_
          exact ih_4 (i + 1) (nI i) (by omega) (by omega) (wet_a hw hb c_15 (hrun i hi2)) (wetI_s hw (fun k hk => hrun k (by omega)) (by omega))  ls (lv_sub hl [2, 1, 0] rfl)
        · have n_15 := Int32.not_lt.mp c_15
          obtain ⟨m9, hm9, em9⟩ := wet_nat hw hb c_15
          refine lv_aload_n S.1 S.2.1 dX5_mostRun_18 rfl (lv_at hl 0 rfl) ?_
          refine lv_iload_n S.1 S.2.1 dX5_mostRun_19 rfl (lv_at hl 2 rfl) ?_
          refine lv_iconst (v := 3) S.1 S.2.1 dX5_mostRun_20 (by decide) ?_
          refine go_S (run_V (As := [.int (nI i), .int 3]) (rest := []) (n := 2) S hK (bl_P hP [0, 1] rfl) (bl_D hD [0, 1] rfl rfl) (c_X5_potterIs l E am q r i 3 (by omega) (by omega)) gV_X5_92 (by decide +kernel) rfl ⟨rfl, rfl⟩ ⟨Nat.le_of_ble_eq_true rfl, Nat.le_of_ble_eq_true rfl⟩ (ci := 5) (q0 := 0) rfl rfl hl.1 (Nat.le_of_ble_eq_true rfl) dX5_mostRun_21 ⟨Nat.zero_le _, Nat.zero_le _⟩) ?_
          refine lv_aload_n S.1 S.2.1 dX5_mostRun_24 rfl (lv_at hl 0 rfl) ?_
          refine lv_iload_n S.1 S.2.1 dX5_mostRun_25 rfl (lv_at hl 1 rfl) ?_
          refine lv_eqi (y := nI m9) em9 ?_
          refine lv_iconst (v := 3) S.1 S.2.1 dX5_mostRun_26 (by decide) ?_
          refine go_S (run_V (As := [.int (nI m9), .int 3]) (rest := [.int (r (21 + 7 * i + 3))]) (n := 2) S hK (bl_P hP [0, 1] rfl) (bl_D hD [0, 1] rfl rfl) (c_X5_potterIs l E am q r m9 3 (by omega) (by omega)) gV_X5_92 (by decide +kernel) rfl ⟨rfl, rfl⟩ ⟨Nat.le_of_ble_eq_true rfl, Nat.le_of_ble_eq_true rfl⟩ (ci := 5) (q0 := 0) rfl rfl hl.1 (Nat.le_of_ble_eq_true rfl) dX5_mostRun_27 ⟨Nat.zero_le _, Nat.zero_le _⟩) ?_
          refine lv_icmp_le (tgt := 37) S.1 S.2.1 dX5_mostRun_30 (by decide) (fun c_30 => ?_) (fun c_30 => ?_)
          · have n_30 := Int32.not_lt.mpr c_30
            refine lv_iload_n S.1 S.2.1 dX5_mostRun_37 rfl (lv_at hl 1 rfl) ?_
            refine lv_eqi (y := nI m9) em9 ?_
            refine lv_istore_n (lv' := [(1, .int (nI m9)), (0, .ref (am 0)), (2, .int (nI i))]) S.1 S.2.1 dX5_mostRun_38 rfl hl (by decide) rfl (fun ls hl => ?_)
            refine lv_iinc (v := nI (i + 1)) (lv' := [(2, .int (nI (i + 1))), (1, .int (nI m9)), (0, .ref (am 0))]) S.1 S.2.1 dX5_mostRun_39 hl (k := 2) rfl (nI_1 i) (by decide) rfl (fun ls hl => ?_)
            refine lv_goto (tgt := 4) S.1 S.2.1 dX5_mostRun_42 (by decide) ?_
            exact ih_4 (i + 1) (nI m9) (by omega) (by omega) (wet_t hw hb hm9 em9 c_30) (wetI_s hw (fun k hk => hrun k (by omega)) (by omega))  ls (lv_sub hl [2, 1, 0] rfl)
          · have n_30 := Int32.not_le.mp c_30
            refine lv_iload_n S.1 S.2.1 dX5_mostRun_33 rfl (lv_at hl 2 rfl) ?_
            refine lv_goto (tgt := 38) S.1 S.2.1 dX5_mostRun_34 (by decide) ?_
            refine lv_istore_n (lv' := [(1, .int (nI i)), (0, .ref (am 0)), (2, .int (nI i))]) S.1 S.2.1 dX5_mostRun_38 rfl hl (by decide) rfl (fun ls hl => ?_)
            refine lv_iinc (v := nI (i + 1)) (lv' := [(2, .int (nI (i + 1))), (1, .int (nI i)), (0, .ref (am 0))]) S.1 S.2.1 dX5_mostRun_39 hl (k := 2) rfl (nI_1 i) (by decide) rfl (fun ls hl => ?_)
            refine lv_goto (tgt := 4) S.1 S.2.1 dX5_mostRun_42 (by decide) ?_
            exact ih_4 (i + 1) (nI i) (by omega) (by omega) (wet_f hw hb hm9 em9 c_30) (wetI_s hw (fun k hk => hrun k (by omega)) (by omega))  ls (lv_sub hl [2, 1, 0] rfl)
  exact L_4 (n + 1) 0 (-1) (by omega) (by omega) rfl wetI_0  ls (lv_sub hl [2, 1, 0] rfl)
set_option maxHeartbeats 800000 in
set_option maxRecDepth 100000 in
theorem c_X5_weather (l : Launch) (E : EV) (am : Nat → Nat) (q r f : Row) (i v : Int32) (hR : RI r) : Met l yX5_weather (wq yX5_weather cX5_weather 3 (some .int)) ({ frames := 2, cells := 0, slots := 0, locals := 42 }) (preB E [.ref (am 0), .int i, .int v] [[mObj am q], [(am 1, .inl (E.2.1, 77, .inl (sg r 77)))], [(am 4, .inl (E.2.1, 8, .inl (sg f 8)))]]) (qI E [[mObj am q], [(am 1, .inl (E.2.1, 77, .inl (sg r 77)))], [(am 4, .inl (E.2.1, 8, .inl (sg f 8)))]] [[mObj am q], [(am 1, .inl (E.2.1, 77, .inl (sg (rowR r (rWeather r i v)) 77)))], [(am 4, .inl (E.2.1, 8, .inl (sg (fndM f (rWeather r i v)) 8)))]] (ansR (rWeather r i v))) 0 0 (inB [[mObj am q], [(am 1, .inl (E.2.1, 77, .inl (sg r 77)))], [(am 4, .inl (E.2.1, 8, .inl (sg f 8)))]]) := by
  refine M_mk RX5 (by decide) rfl (Nat.le_of_ble_eq_true rfl) ?_
  intro p e s m below meth c S hr hlk hK hP hD hS ls hl
  have hl : lv_has ls 3 [(0, .ref (am 0)), (1, .int i), (2, .int v)] := hl
  obtain ⟨n, d, hn, hn8, hd, hd5, ho, hso, hli, hsp, hpt⟩ := id hR
  obtain ⟨H, hH⟩ : ∃ z, z = s.heap := ⟨_, rfl⟩
  obtain ⟨locs, hlocs⟩ : ∃ z : List Loc, z = [] := ⟨_, rfl⟩
  have hP : PE E [[mObj am q], [(am 1, .inl (E.2.1, 77, .inl (sg r 77)))], [(am 4, .inl (E.2.1, 8, .inl (sg f 8)))]] H := by rw [hH]; exact hP
  have hS : va_S (inB [[mObj am q], [(am 1, .inl (E.2.1, 77, .inl (sg r 77)))], [(am 4, .inl (E.2.1, 8, .inl (sg f 8)))]]) s.heap H locs := by rw [hH, hlocs]; exact hS
  show W p l e ({ frames := 2, cells := 0, slots := 0, locals := 42 }) s m ([.ref (am 0), .int i, .int v] : List Value).toArray below meth c s.heap [] 0 0 _ _
  suffices hgo : W p l e ({ frames := 2, cells := 0, slots := 0, locals := 42 }) s m ([.ref (am 0), .int i, .int v] : List Value).toArray below meth c H locs 0 0 (MQ below (qI E [[mObj am q], [(am 1, .inl (E.2.1, 77, .inl (sg r 77)))], [(am 4, .inl (E.2.1, 8, .inl (sg f 8)))]] [[mObj am q], [(am 1, .inl (E.2.1, 77, .inl (sg (rowR r (rWeather r i v)) 77)))], [(am 4, .inl (E.2.1, 8, .inl (sg (fndM f (rWeather r i v)) 8)))]] (ansR (rWeather r i v))) ([.ref (am 0), .int i, .int v] : List Value).toArray s 0 0 (inB [[mObj am q], [(am 1, .inl (E.2.1, 77, .inl (sg r 77)))], [(am 4, .inl (E.2.1, 8, .inl (sg f 8)))]])) (F0 m 0 ls []) by rw [hH, hlocs] at hgo; exact hgo
  clear hH hlocs
  refine lv_iload_n S.1 S.2.1 dX5_weather_0 rfl (lv_at hl 1 rfl) ?_
  refine go_S (run_S (As := [.int i]) (rest := []) (n := 1) S hK (bl_P hP [] rfl) (bl_D hD [] rfl rfl) (c_X5_isListed l E i ) gS_X5_74 (by decide +kernel) rfl ⟨rfl, rfl⟩ ⟨Nat.le_of_ble_eq_true rfl, Nat.le_of_ble_eq_true rfl⟩ hl.1 (Nat.le_of_ble_eq_true rfl) dX5_weather_1 ⟨Nat.zero_le _, Nat.zero_le _⟩) ?_
  refine b_ifeq (tgt := 28) S.1 S.2.1 dX5_weather_4 (by decide) (fun c_4 => ?_) (fun c_4 => ?_)
  · refine lv_aload_n S.1 S.2.1 dX5_weather_28 rfl (lv_at hl 0 rfl) ?_
    refine lv_ldc (v := (-1000001)) S.1 S.2.1 S.2.2.2.1 (S.2.2.2.2 _ (List.mem_cons_of_mem _ kk_X5_60)) dX5_weather_29 ?_
    refine go_I (run_V (As := [.int (-1000001)]) (rest := []) (n := 1) S hK (bl_P hP [0, 2] rfl) (bl_D hD [0, 2] rfl rfl) (c_X5_finding l E am q f (-1000001) 0 (by decide) (by decide)) gV_X5_66 (by decide +kernel) rfl ⟨rfl, rfl⟩ ⟨Nat.le_of_ble_eq_true rfl, Nat.le_of_ble_eq_true rfl⟩ (ci := 5) (q0 := 0) rfl rfl hl.1 (Nat.le_of_ble_eq_true rfl) dX5_weather_31 ⟨Nat.zero_le _, Nat.zero_le _⟩) hP hD hS [0, 2] rfl (had_cons rfl (had_cons cell_ad rfl)) (Bs' := [[mObj am q], [(am 1, .inl (E.2.1, 77, .inl (sg r 77)))], [(am 4, .inl (E.2.1, 8, .inl (sg (findM f 0) 8)))]]) rfl (fun H locs hP hD hS => ?_)
    obtain ⟨r_31, er_31⟩ : ∃ z : Row, z = findM f 0 := ⟨_, rfl⟩
    rw [← er_31] at hP hD
    exact retI S hr hlk (by have e9 : rWeather r i v = .inl 0 := (by unfold rWeather; rw [if_neg c_4]); rw [er_31] at hP; rw [e9, fndM_inl]; exact hP) hS (by have e9 : rWeather r i v = .inl 0 := (by unfold rWeather; rw [if_neg c_4]); rw [e9]; decide) dX5_weather_34
  · obtain ⟨k_i, hk_i, ek_i⟩ := nI_of2 (n := 5) (by decide) (Int32.not_lt.mpr c_4.1) c_4.2
    refine lv_iload_n S.1 S.2.1 dX5_weather_7 rfl (lv_at hl 2 rfl) ?_
    refine lv_iconst (v := 0) S.1 S.2.1 dX5_weather_8 (by decide) ?_
    refine lv_bipush (v := 99) S.1 S.2.1 dX5_weather_9 (by decide) ?_
    refine go_S (run_S (As := [.int v, .int 0, .int 99]) (rest := []) (n := 3) S hK (bl_P hP [] rfl) (bl_D hD [] rfl rfl) (c_X5_within l E v 0 99 ) gS_X5_70 (by decide +kernel) rfl ⟨rfl, rfl⟩ ⟨Nat.le_of_ble_eq_true rfl, Nat.le_of_ble_eq_true rfl⟩ hl.1 (Nat.le_of_ble_eq_true rfl) dX5_weather_11 ⟨Nat.zero_le _, Nat.zero_le _⟩) ?_
    refine b_ifeq (tgt := 28) S.1 S.2.1 dX5_weather_14 (by decide) (fun c_14 => ?_) (fun c_14 => ?_)
    · refine lv_aload_n S.1 S.2.1 dX5_weather_28 rfl (lv_at hl 0 rfl) ?_
      refine lv_ldc (v := (-1000001)) S.1 S.2.1 S.2.2.2.1 (S.2.2.2.2 _ (List.mem_cons_of_mem _ kk_X5_60)) dX5_weather_29 ?_
      refine go_I (run_V (As := [.int (-1000001)]) (rest := []) (n := 1) S hK (bl_P hP [0, 2] rfl) (bl_D hD [0, 2] rfl rfl) (c_X5_finding l E am q f (-1000001) 0 (by decide) (by decide)) gV_X5_66 (by decide +kernel) rfl ⟨rfl, rfl⟩ ⟨Nat.le_of_ble_eq_true rfl, Nat.le_of_ble_eq_true rfl⟩ (ci := 5) (q0 := 0) rfl rfl hl.1 (Nat.le_of_ble_eq_true rfl) dX5_weather_31 ⟨Nat.zero_le _, Nat.zero_le _⟩) hP hD hS [0, 2] rfl (had_cons rfl (had_cons cell_ad rfl)) (Bs' := [[mObj am q], [(am 1, .inl (E.2.1, 77, .inl (sg r 77)))], [(am 4, .inl (E.2.1, 8, .inl (sg (findM f 0) 8)))]]) rfl (fun H locs hP hD hS => ?_)
      obtain ⟨r_31_1, er_31_1⟩ : ∃ z : Row, z = findM f 0 := ⟨_, rfl⟩
      rw [← er_31_1] at hP hD
      exact retI S hr hlk (by have e9 : rWeather r i v = .inl 0 := (by unfold rWeather; rw [if_pos c_4, if_neg c_14]); rw [er_31_1] at hP; rw [e9, fndM_inl]; exact hP) hS (by have e9 : rWeather r i v = .inl 0 := (by unfold rWeather; rw [if_pos c_4, if_neg c_14]); rw [e9]; decide) dX5_weather_34
    · obtain ⟨k_v, hk_v, ek_v⟩ := nI_of2 (n := 99) (by decide) (Int32.not_lt.mpr c_14.1) c_14.2
      refine lv_aload_n S.1 S.2.1 dX5_weather_17 rfl (lv_at hl 0 rfl) ?_
      refine lv_iconst (v := 5) S.1 S.2.1 dX5_weather_18 (by decide) ?_
      refine lv_iload_n S.1 S.2.1 dX5_weather_19 rfl (lv_at hl 1 rfl) ?_
      refine lv_eqi (y := nI k_i) ek_i ?_
      refine lv_iadd S.1 S.2.1 dX5_weather_20 ?_
      refine lv_eqi (y := nI (5 + k_i)) (nI_add 5 k_i) ?_
      refine lv_iload_n S.1 S.2.1 dX5_weather_21 rfl (lv_at hl 2 rfl) ?_
      refine lv_eqi (y := nI k_v) ek_v ?_
      refine go_I (run_V (As := [.int (nI (5 + k_i)), .int (nI k_v)]) (rest := []) (n := 2) S hK (bl_P hP [0, 1] rfl) (bl_D hD [0, 1] rfl rfl) (c_X5_become l E am q r (5 + k_i) (nI k_v) (by omega)) gV_X5_78 (by decide +kernel) rfl ⟨rfl, rfl⟩ ⟨Nat.le_of_ble_eq_true rfl, Nat.le_of_ble_eq_true rfl⟩ (ci := 5) (q0 := 0) rfl rfl hl.1 (Nat.le_of_ble_eq_true rfl) dX5_weather_22 ⟨Nat.zero_le _, Nat.zero_le _⟩) hP hD hS [0, 1] rfl (had_cons rfl (had_cons cell_ad rfl)) (Bs' := [[mObj am q], [(am 1, .inl (E.2.1, 77, .inl (sg (upd r (5 + k_i) (nI k_v)) 77)))], [(am 4, .inl (E.2.1, 8, .inl (sg f 8)))]]) rfl (fun H locs hP hD hS => ?_)
      obtain ⟨r_22, er_22⟩ : ∃ z : Row, z = upd r (5 + k_i) (nI k_v) := ⟨_, rfl⟩
      rw [← er_22] at hP hD
      refine lv_goto (tgt := 34) S.1 S.2.1 dX5_weather_25 (by decide) ?_
      exact retI S hr hlk (by have e9 : rWeather r i v = .inr (r_22, r (5 + k_i)) := (by unfold rWeather; rw [if_pos c_4, if_pos c_14]; (try rw [ek_i]); (try rw [ek_v]); (try rw [tN_nI (k := k_i) (by omega)]); (try rw [tN_nI (k := k_v) (by omega)]); (try rw [er_22]); try with_reducible rfl); rw [e9, rowR_inr, fndM_inr]; exact hP) hS (by have e9 : rWeather r i v = .inr (r_22, r (5 + k_i)) := (by unfold rWeather; rw [if_pos c_4, if_pos c_14]; (try rw [ek_i]); (try rw [ek_v]); (try rw [tN_nI (k := k_i) (by omega)]); (try rw [tN_nI (k := k_v) (by omega)]); (try rw [er_22]); try with_reducible rfl); rw [e9, ansR_inr]) dX5_weather_34
set_option maxHeartbeats 800000 in
set_option maxRecDepth 100000 in
theorem c_X5_listed (l : Launch) (E : EV) (am : Nat → Nat) (q r f : Row) (i : Int32) (hR : RI r) : Met l yX5_listed (wq yX5_listed cX5_listed 2 (some .int)) ({ frames := 2, cells := 0, slots := 0, locals := 42 }) (preB E [.ref (am 0), .int i] [[mObj am q], [(am 1, .inl (E.2.1, 77, .inl (sg r 77)))], [(am 4, .inl (E.2.1, 8, .inl (sg f 8)))]]) (qI E [[mObj am q], [(am 1, .inl (E.2.1, 77, .inl (sg r 77)))], [(am 4, .inl (E.2.1, 8, .inl (sg f 8)))]] [[mObj am q], [(am 1, .inl (E.2.1, 77, .inl (sg (rowR r (rListed r i)) 77)))], [(am 4, .inl (E.2.1, 8, .inl (sg (fndM f (rListed r i)) 8)))]] (ansR (rListed r i))) 0 0 (inB [[mObj am q], [(am 1, .inl (E.2.1, 77, .inl (sg r 77)))], [(am 4, .inl (E.2.1, 8, .inl (sg f 8)))]]) := by
  refine M_mk RX5 (by decide) rfl (Nat.le_of_ble_eq_true rfl) ?_
  intro p e s m below meth c S hr hlk hK hP hD hS ls hl
  have hl : lv_has ls 2 [(0, .ref (am 0)), (1, .int i)] := hl
  obtain ⟨n, d, hn, hn8, hd, hd5, ho, hso, hli, hsp, hpt⟩ := id hR
  obtain ⟨H, hH⟩ : ∃ z, z = s.heap := ⟨_, rfl⟩
  obtain ⟨locs, hlocs⟩ : ∃ z : List Loc, z = [] := ⟨_, rfl⟩
  have hP : PE E [[mObj am q], [(am 1, .inl (E.2.1, 77, .inl (sg r 77)))], [(am 4, .inl (E.2.1, 8, .inl (sg f 8)))]] H := by rw [hH]; exact hP
  have hS : va_S (inB [[mObj am q], [(am 1, .inl (E.2.1, 77, .inl (sg r 77)))], [(am 4, .inl (E.2.1, 8, .inl (sg f 8)))]]) s.heap H locs := by rw [hH, hlocs]; exact hS
  show W p l e ({ frames := 2, cells := 0, slots := 0, locals := 42 }) s m ([.ref (am 0), .int i] : List Value).toArray below meth c s.heap [] 0 0 _ _
  suffices hgo : W p l e ({ frames := 2, cells := 0, slots := 0, locals := 42 }) s m ([.ref (am 0), .int i] : List Value).toArray below meth c H locs 0 0 (MQ below (qI E [[mObj am q], [(am 1, .inl (E.2.1, 77, .inl (sg r 77)))], [(am 4, .inl (E.2.1, 8, .inl (sg f 8)))]] [[mObj am q], [(am 1, .inl (E.2.1, 77, .inl (sg (rowR r (rListed r i)) 77)))], [(am 4, .inl (E.2.1, 8, .inl (sg (fndM f (rListed r i)) 8)))]] (ansR (rListed r i))) ([.ref (am 0), .int i] : List Value).toArray s 0 0 (inB [[mObj am q], [(am 1, .inl (E.2.1, 77, .inl (sg r 77)))], [(am 4, .inl (E.2.1, 8, .inl (sg f 8)))]])) (F0 m 0 ls []) by rw [hH, hlocs] at hgo; exact hgo
  clear hH hlocs
  refine lv_iload_n S.1 S.2.1 dX5_listed_0 rfl (lv_at hl 1 rfl) ?_
  refine go_S (run_S (As := [.int i]) (rest := []) (n := 1) S hK (bl_P hP [] rfl) (bl_D hD [] rfl rfl) (c_X5_isListed l E i ) gS_X5_74 (by decide +kernel) rfl ⟨rfl, rfl⟩ ⟨Nat.le_of_ble_eq_true rfl, Nat.le_of_ble_eq_true rfl⟩ hl.1 (Nat.le_of_ble_eq_true rfl) dX5_listed_1 ⟨Nat.zero_le _, Nat.zero_le _⟩) ?_
  refine b_ifeq (tgt := 18) S.1 S.2.1 dX5_listed_4 (by decide) (fun c_4 => ?_) (fun c_4 => ?_)
  · refine lv_aload_n S.1 S.2.1 dX5_listed_18 rfl (lv_at hl 0 rfl) ?_
    refine lv_ldc (v := (-1000001)) S.1 S.2.1 S.2.2.2.1 (S.2.2.2.2 _ (List.mem_cons_of_mem _ kk_X5_60)) dX5_listed_19 ?_
    refine go_I (run_V (As := [.int (-1000001)]) (rest := []) (n := 1) S hK (bl_P hP [0, 2] rfl) (bl_D hD [0, 2] rfl rfl) (c_X5_finding l E am q f (-1000001) 0 (by decide) (by decide)) gV_X5_66 (by decide +kernel) rfl ⟨rfl, rfl⟩ ⟨Nat.le_of_ble_eq_true rfl, Nat.le_of_ble_eq_true rfl⟩ (ci := 5) (q0 := 0) rfl rfl hl.1 (Nat.le_of_ble_eq_true rfl) dX5_listed_21 ⟨Nat.zero_le _, Nat.zero_le _⟩) hP hD hS [0, 2] rfl (had_cons rfl (had_cons cell_ad rfl)) (Bs' := [[mObj am q], [(am 1, .inl (E.2.1, 77, .inl (sg r 77)))], [(am 4, .inl (E.2.1, 8, .inl (sg (findM f 0) 8)))]]) rfl (fun H locs hP hD hS => ?_)
    obtain ⟨r_21, er_21⟩ : ∃ z : Row, z = findM f 0 := ⟨_, rfl⟩
    rw [← er_21] at hP hD
    exact retI S hr hlk (by have e9 : rListed r i = .inl 0 := (by unfold rListed; rw [if_neg c_4]); rw [er_21] at hP; rw [e9, fndM_inl]; exact hP) hS (by have e9 : rListed r i = .inl 0 := (by unfold rListed; rw [if_neg c_4]); rw [e9]; decide) dX5_listed_24
  · obtain ⟨k_i, hk_i, ek_i⟩ := nI_of2 (n := 5) (by decide) (Int32.not_lt.mpr c_4.1) c_4.2
    refine lv_aload_n S.1 S.2.1 dX5_listed_7 rfl (lv_at hl 0 rfl) ?_
    refine gf_X5_9 S hK hP 0 0 rfl rfl rfl dX5_listed_8 ?_
    refine lv_iconst (v := 5) S.1 S.2.1 dX5_listed_11 (by decide) ?_
    refine lv_iload_n S.1 S.2.1 dX5_listed_12 rfl (lv_at hl 1 rfl) ?_
    refine lv_eqi (y := nI k_i) ek_i ?_
    refine lv_iadd S.1 S.2.1 dX5_listed_13 ?_
    refine lv_eqi (y := nI (5 + k_i)) (nI_add 5 k_i) ?_
    refine b_ialdN (i := 5 + k_i) S hK hP 1 0 rfl rfl (by omega) (by decide) dX5_listed_14 ?_
    refine lv_eqi (y := r (5 + k_i)) (sg_at (by omega)) ?_
    refine lv_goto (tgt := 24) S.1 S.2.1 dX5_listed_15 (by decide) ?_
    exact retI S hr hlk (by have e9 : rListed r i = .inr (r, r (5 + k_i)) := (by unfold rListed; rw [if_pos c_4]; (try rw [ek_i]); (try rw [tN_nI (k := k_i) (by omega)]); try with_reducible rfl); rw [e9, rowR_inr, fndM_inr]; exact hP) hS (by have e9 : rListed r i = .inr (r, r (5 + k_i)) := (by unfold rListed; rw [if_pos c_4]; (try rw [ek_i]); (try rw [tN_nI (k := k_i) (by omega)]); try with_reducible rfl); rw [e9, ansR_inr]) dX5_listed_24
set_option maxHeartbeats 800000 in
set_option maxRecDepth 100000 in
theorem c_X5_onions (l : Launch) (E : EV) (am : Nat → Nat) (q r f : Row) (v : Int32) (hR : RI r) : Met l yX5_onions (wq yX5_onions cX5_onions 2 (some .int)) ({ frames := 1, cells := 0, slots := 0, locals := 23 }) (preB E [.ref (am 0), .int v] [[mObj am q], [(am 1, .inl (E.2.1, 77, .inl (sg r 77)))], [(am 4, .inl (E.2.1, 8, .inl (sg f 8)))]]) (qI E [[mObj am q], [(am 1, .inl (E.2.1, 77, .inl (sg r 77)))], [(am 4, .inl (E.2.1, 8, .inl (sg f 8)))]] [[mObj am q], [(am 1, .inl (E.2.1, 77, .inl (sg (rowR r (rOnions r v)) 77)))], [(am 4, .inl (E.2.1, 8, .inl (sg (fndM f (rOnions r v)) 8)))]] (ansR (rOnions r v))) 0 0 (inB [[mObj am q], [(am 1, .inl (E.2.1, 77, .inl (sg r 77)))], [(am 4, .inl (E.2.1, 8, .inl (sg f 8)))]]) := by
  refine M_mk RX5 (by decide) rfl (Nat.le_of_ble_eq_true rfl) ?_
  intro p e s m below meth c S hr hlk hK hP hD hS ls hl
  have hl : lv_has ls 2 [(0, .ref (am 0)), (1, .int v)] := hl
  obtain ⟨n, d, hn, hn8, hd, hd5, ho, hso, hli, hsp, hpt⟩ := id hR
  obtain ⟨H, hH⟩ : ∃ z, z = s.heap := ⟨_, rfl⟩
  obtain ⟨locs, hlocs⟩ : ∃ z : List Loc, z = [] := ⟨_, rfl⟩
  have hP : PE E [[mObj am q], [(am 1, .inl (E.2.1, 77, .inl (sg r 77)))], [(am 4, .inl (E.2.1, 8, .inl (sg f 8)))]] H := by rw [hH]; exact hP
  have hS : va_S (inB [[mObj am q], [(am 1, .inl (E.2.1, 77, .inl (sg r 77)))], [(am 4, .inl (E.2.1, 8, .inl (sg f 8)))]]) s.heap H locs := by rw [hH, hlocs]; exact hS
  show W p l e ({ frames := 1, cells := 0, slots := 0, locals := 23 }) s m ([.ref (am 0), .int v] : List Value).toArray below meth c s.heap [] 0 0 _ _
  suffices hgo : W p l e ({ frames := 1, cells := 0, slots := 0, locals := 23 }) s m ([.ref (am 0), .int v] : List Value).toArray below meth c H locs 0 0 (MQ below (qI E [[mObj am q], [(am 1, .inl (E.2.1, 77, .inl (sg r 77)))], [(am 4, .inl (E.2.1, 8, .inl (sg f 8)))]] [[mObj am q], [(am 1, .inl (E.2.1, 77, .inl (sg (rowR r (rOnions r v)) 77)))], [(am 4, .inl (E.2.1, 8, .inl (sg (fndM f (rOnions r v)) 8)))]] (ansR (rOnions r v))) ([.ref (am 0), .int v] : List Value).toArray s 0 0 (inB [[mObj am q], [(am 1, .inl (E.2.1, 77, .inl (sg r 77)))], [(am 4, .inl (E.2.1, 8, .inl (sg f 8)))]])) (F0 m 0 ls []) by rw [hH, hlocs] at hgo; exact hgo
  clear hH hlocs
  refine lv_iload_n S.1 S.2.1 dX5_onions_0 rfl (lv_at hl 1 rfl) ?_
  refine lv_iconst (v := 0) S.1 S.2.1 dX5_onions_1 (by decide) ?_
  refine lv_bipush (v := 99) S.1 S.2.1 dX5_onions_2 (by decide) ?_
  refine go_S (run_S (As := [.int v, .int 0, .int 99]) (rest := []) (n := 3) S hK (bl_P hP [] rfl) (bl_D hD [] rfl rfl) (c_X5_within l E v 0 99 ) gS_X5_70 (by decide +kernel) rfl ⟨rfl, rfl⟩ ⟨Nat.le_of_ble_eq_true rfl, Nat.le_of_ble_eq_true rfl⟩ hl.1 (Nat.le_of_ble_eq_true rfl) dX5_onions_4 ⟨Nat.zero_le _, Nat.zero_le _⟩) ?_
  refine b_ifeq (tgt := 19) S.1 S.2.1 dX5_onions_7 (by decide) (fun c_7 => ?_) (fun c_7 => ?_)
  · refine lv_aload_n S.1 S.2.1 dX5_onions_19 rfl (lv_at hl 0 rfl) ?_
    refine lv_ldc (v := (-1000001)) S.1 S.2.1 S.2.2.2.1 (S.2.2.2.2 _ (List.mem_cons_of_mem _ kk_X5_60)) dX5_onions_20 ?_
    refine go_I (run_V (As := [.int (-1000001)]) (rest := []) (n := 1) S hK (bl_P hP [0, 2] rfl) (bl_D hD [0, 2] rfl rfl) (c_X5_finding l E am q f (-1000001) 0 (by decide) (by decide)) gV_X5_66 (by decide +kernel) rfl ⟨rfl, rfl⟩ ⟨Nat.le_of_ble_eq_true rfl, Nat.le_of_ble_eq_true rfl⟩ (ci := 5) (q0 := 0) rfl rfl hl.1 (Nat.le_of_ble_eq_true rfl) dX5_onions_22 ⟨Nat.zero_le _, Nat.zero_le _⟩) hP hD hS [0, 2] rfl (had_cons rfl (had_cons cell_ad rfl)) (Bs' := [[mObj am q], [(am 1, .inl (E.2.1, 77, .inl (sg r 77)))], [(am 4, .inl (E.2.1, 8, .inl (sg (findM f 0) 8)))]]) rfl (fun H locs hP hD hS => ?_)
    obtain ⟨r_22, er_22⟩ : ∃ z : Row, z = findM f 0 := ⟨_, rfl⟩
    rw [← er_22] at hP hD
    exact retI S hr hlk (by have e9 : rOnions r v = .inl 0 := (by unfold rOnions; rw [if_neg c_7]); rw [er_22] at hP; rw [e9, fndM_inl]; exact hP) hS (by have e9 : rOnions r v = .inl 0 := (by unfold rOnions; rw [if_neg c_7]); rw [e9]; decide) dX5_onions_25
  · obtain ⟨k_v, hk_v, ek_v⟩ := nI_of2 (n := 99) (by decide) (Int32.not_lt.mpr c_7.1) c_7.2
    refine lv_aload_n S.1 S.2.1 dX5_onions_10 rfl (lv_at hl 0 rfl) ?_
    refine lv_iconst (v := 3) S.1 S.2.1 dX5_onions_11 (by decide) ?_
    refine lv_iload_n S.1 S.2.1 dX5_onions_12 rfl (lv_at hl 1 rfl) ?_
    refine lv_eqi (y := nI k_v) ek_v ?_
    refine go_I (run_V (As := [.int 3, .int (nI k_v)]) (rest := []) (n := 2) S hK (bl_P hP [0, 1] rfl) (bl_D hD [0, 1] rfl rfl) (c_X5_become l E am q r 3 (nI k_v) (by omega)) gV_X5_78 (by decide +kernel) rfl ⟨rfl, rfl⟩ ⟨Nat.le_of_ble_eq_true rfl, Nat.le_of_ble_eq_true rfl⟩ (ci := 5) (q0 := 0) rfl rfl hl.1 (Nat.le_of_ble_eq_true rfl) dX5_onions_13 ⟨Nat.zero_le _, Nat.zero_le _⟩) hP hD hS [0, 1] rfl (had_cons rfl (had_cons cell_ad rfl)) (Bs' := [[mObj am q], [(am 1, .inl (E.2.1, 77, .inl (sg (upd r 3 (nI k_v)) 77)))], [(am 4, .inl (E.2.1, 8, .inl (sg f 8)))]]) rfl (fun H locs hP hD hS => ?_)
    obtain ⟨r_13, er_13⟩ : ∃ z : Row, z = upd r 3 (nI k_v) := ⟨_, rfl⟩
    rw [← er_13] at hP hD
    refine lv_goto (tgt := 25) S.1 S.2.1 dX5_onions_16 (by decide) ?_
    exact retI S hr hlk (by have e9 : rOnions r v = .inr (r_13, r 3) := (by unfold rOnions; rw [if_pos c_7]; (try rw [ek_v]); (try rw [tN_nI (k := k_v) (by omega)]); (try rw [er_13]); try with_reducible rfl); rw [e9, rowR_inr, fndM_inr]; exact hP) hS (by have e9 : rOnions r v = .inr (r_13, r 3) := (by unfold rOnions; rw [if_pos c_7]; (try rw [ek_v]); (try rw [tN_nI (k := k_v) (by omega)]); (try rw [er_13]); try with_reducible rfl); rw [e9, ansR_inr]) dX5_onions_25
set_option maxHeartbeats 800000 in
set_option maxRecDepth 100000 in
theorem c_X5_potter (l : Launch) (E : EV) (am : Nat → Nat) (q r f : Row) (k g : Int32) (hR : RI r) : Met l yX5_potter (wq yX5_potter cX5_potter 3 (some .int)) ({ frames := 2, cells := 0, slots := 0, locals := 45 }) (preB E [.ref (am 0), .int k, .int g] [[mObj am q], [(am 1, .inl (E.2.1, 77, .inl (sg r 77)))], [(am 4, .inl (E.2.1, 8, .inl (sg f 8)))]]) (qI E [[mObj am q], [(am 1, .inl (E.2.1, 77, .inl (sg r 77)))], [(am 4, .inl (E.2.1, 8, .inl (sg f 8)))]] [[mObj am q], [(am 1, .inl (E.2.1, 77, .inl (sg (rowR r (rPotter r k g)) 77)))], [(am 4, .inl (E.2.1, 8, .inl (sg (fndM f (rPotter r k g)) 8)))]] (ansR (rPotter r k g))) 0 0 (inB [[mObj am q], [(am 1, .inl (E.2.1, 77, .inl (sg r 77)))], [(am 4, .inl (E.2.1, 8, .inl (sg f 8)))]]) := by
  refine M_mk RX5 (by decide) rfl (Nat.le_of_ble_eq_true rfl) ?_
  intro p e s m below meth c S hr hlk hK hP hD hS ls hl
  have hl : lv_has ls 3 [(0, .ref (am 0)), (1, .int k), (2, .int g)] := hl
  obtain ⟨n, d, hn, hn8, hd, hd5, ho, hso, hli, hsp, hpt⟩ := id hR
  obtain ⟨H, hH⟩ : ∃ z, z = s.heap := ⟨_, rfl⟩
  obtain ⟨locs, hlocs⟩ : ∃ z : List Loc, z = [] := ⟨_, rfl⟩
  have hP : PE E [[mObj am q], [(am 1, .inl (E.2.1, 77, .inl (sg r 77)))], [(am 4, .inl (E.2.1, 8, .inl (sg f 8)))]] H := by rw [hH]; exact hP
  have hS : va_S (inB [[mObj am q], [(am 1, .inl (E.2.1, 77, .inl (sg r 77)))], [(am 4, .inl (E.2.1, 8, .inl (sg f 8)))]]) s.heap H locs := by rw [hH, hlocs]; exact hS
  show W p l e ({ frames := 2, cells := 0, slots := 0, locals := 45 }) s m ([.ref (am 0), .int k, .int g] : List Value).toArray below meth c s.heap [] 0 0 _ _
  suffices hgo : W p l e ({ frames := 2, cells := 0, slots := 0, locals := 45 }) s m ([.ref (am 0), .int k, .int g] : List Value).toArray below meth c H locs 0 0 (MQ below (qI E [[mObj am q], [(am 1, .inl (E.2.1, 77, .inl (sg r 77)))], [(am 4, .inl (E.2.1, 8, .inl (sg f 8)))]] [[mObj am q], [(am 1, .inl (E.2.1, 77, .inl (sg (rowR r (rPotter r k g)) 77)))], [(am 4, .inl (E.2.1, 8, .inl (sg (fndM f (rPotter r k g)) 8)))]] (ansR (rPotter r k g))) ([.ref (am 0), .int k, .int g] : List Value).toArray s 0 0 (inB [[mObj am q], [(am 1, .inl (E.2.1, 77, .inl (sg r 77)))], [(am 4, .inl (E.2.1, 8, .inl (sg f 8)))]])) (F0 m 0 ls []) by rw [hH, hlocs] at hgo; exact hgo
  clear hH hlocs
  refine lv_iload_n S.1 S.2.1 dX5_potter_0 rfl (lv_at hl 1 rfl) ?_
  refine go_S (run_S (As := [.int k]) (rest := []) (n := 1) S hK (bl_P hP [] rfl) (bl_D hD [] rfl rfl) (c_X5_isKind l E k ) gS_X5_85 (by decide +kernel) rfl ⟨rfl, rfl⟩ ⟨Nat.le_of_ble_eq_true rfl, Nat.le_of_ble_eq_true rfl⟩ hl.1 (Nat.le_of_ble_eq_true rfl) dX5_potter_1 ⟨Nat.zero_le _, Nat.zero_le _⟩) ?_
  refine b_ifeq (tgt := 17) S.1 S.2.1 dX5_potter_4 (by decide) (fun c_4 => ?_) (fun c_4 => ?_)
  · refine lv_aload_n S.1 S.2.1 dX5_potter_17 rfl (lv_at hl 0 rfl) ?_
    refine lv_ldc (v := (-1000001)) S.1 S.2.1 S.2.2.2.1 (S.2.2.2.2 _ (List.mem_cons_of_mem _ kk_X5_60)) dX5_potter_18 ?_
    refine go_I (run_V (As := [.int (-1000001)]) (rest := []) (n := 1) S hK (bl_P hP [0, 2] rfl) (bl_D hD [0, 2] rfl rfl) (c_X5_finding l E am q f (-1000001) 0 (by decide) (by decide)) gV_X5_66 (by decide +kernel) rfl ⟨rfl, rfl⟩ ⟨Nat.le_of_ble_eq_true rfl, Nat.le_of_ble_eq_true rfl⟩ (ci := 5) (q0 := 0) rfl rfl hl.1 (Nat.le_of_ble_eq_true rfl) dX5_potter_20 ⟨Nat.zero_le _, Nat.zero_le _⟩) hP hD hS [0, 2] rfl (had_cons rfl (had_cons cell_ad rfl)) (Bs' := [[mObj am q], [(am 1, .inl (E.2.1, 77, .inl (sg r 77)))], [(am 4, .inl (E.2.1, 8, .inl (sg (findM f 0) 8)))]]) rfl (fun H locs hP hD hS => ?_)
    obtain ⟨r_20, er_20⟩ : ∃ z : Row, z = findM f 0 := ⟨_, rfl⟩
    rw [← er_20] at hP hD
    exact retI S hr hlk (by have e9 : rPotter r k g = .inl 0 := (by unfold rPotter; rw [if_neg c_4]); rw [er_20] at hP; rw [e9, fndM_inl]; exact hP) hS (by have e9 : rPotter r k g = .inl 0 := (by unfold rPotter; rw [if_neg c_4]); rw [e9]; decide) dX5_potter_23
  · obtain ⟨k_k, hk_k, ek_k⟩ := nI_of2 (n := 6) (by decide) (Int32.not_lt.mpr c_4.1) c_4.2
    refine lv_iload_n S.1 S.2.1 dX5_potter_7 rfl (lv_at hl 2 rfl) ?_
    refine lv_iconst (v := 0) S.1 S.2.1 dX5_potter_8 (by decide) ?_
    refine lv_bipush (v := 99) S.1 S.2.1 dX5_potter_9 (by decide) ?_
    refine go_S (run_S (As := [.int g, .int 0, .int 99]) (rest := []) (n := 3) S hK (bl_P hP [] rfl) (bl_D hD [] rfl rfl) (c_X5_within l E g 0 99 ) gS_X5_70 (by decide +kernel) rfl ⟨rfl, rfl⟩ ⟨Nat.le_of_ble_eq_true rfl, Nat.le_of_ble_eq_true rfl⟩ hl.1 (Nat.le_of_ble_eq_true rfl) dX5_potter_11 ⟨Nat.zero_le _, Nat.zero_le _⟩) ?_
    refine b_ifne (tgt := 24) S.1 S.2.1 dX5_potter_14 (by decide) (fun c_14 => ?_) (fun c_14 => ?_)
    · obtain ⟨k_g, hk_g, ek_g⟩ := nI_of2 (n := 99) (by decide) (Int32.not_lt.mpr c_14.1) c_14.2
      refine lv_aload_n S.1 S.2.1 dX5_potter_24 rfl (lv_at hl 0 rfl) ?_
      refine gf_X5_9 S hK hP 0 0 rfl rfl rfl dX5_potter_25 ?_
      refine lv_iconst (v := 1) S.1 S.2.1 dX5_potter_28 (by decide) ?_
      refine b_ialdN (i := 1) S hK hP 1 0 rfl rfl (by omega) (by decide) dX5_potter_29 ?_
      refine lv_eqi (y := nI n) ((sg_at (by omega)).trans hn) ?_
      refine lv_bipush (v := 8) S.1 S.2.1 dX5_potter_30 (by decide) ?_
      refine lv_icmp_ne (tgt := 44) S.1 S.2.1 dX5_potter_32 (by decide) (fun c_32 => ?_) (fun c_32 => ?_)
      · refine lv_aload_n S.1 S.2.1 dX5_potter_44 rfl (lv_at hl 0 rfl) ?_
        refine lv_iload_n S.1 S.2.1 dX5_potter_45 rfl (lv_at hl 1 rfl) ?_
        refine lv_eqi (y := nI k_k) ek_k ?_
        refine lv_iload_n S.1 S.2.1 dX5_potter_46 rfl (lv_at hl 2 rfl) ?_
        refine lv_eqi (y := nI k_g) ek_g ?_
        refine go_I (run_V (As := [.int (nI k_k), .int (nI k_g)]) (rest := []) (n := 2) S hK (bl_P hP [0, 1] rfl) (bl_D hD [0, 1] rfl rfl) (c_X5_comes l E am q r (nI k_k) (nI k_g) n hn (n_lt8 hn8 c_32)) gV_X5_89 (by decide +kernel) rfl ⟨rfl, rfl⟩ ⟨Nat.le_of_ble_eq_true rfl, Nat.le_of_ble_eq_true rfl⟩ (ci := 5) (q0 := 0) rfl rfl hl.1 (Nat.le_of_ble_eq_true rfl) dX5_potter_47 ⟨Nat.zero_le _, Nat.zero_le _⟩) hP hD hS [0, 1] rfl (had_cons rfl (had_cons cell_ad rfl)) (Bs' := [[mObj am q], [(am 1, .inl (E.2.1, 77, .inl (sg (addF r (nI k_k) (nI k_g)) 77)))], [(am 4, .inl (E.2.1, 8, .inl (sg f 8)))]]) rfl (fun H locs hP hD hS => ?_)
        obtain ⟨r_47, er_47⟩ : ∃ z : Row, z = addF r (nI k_k) (nI k_g) := ⟨_, rfl⟩
        rw [← er_47] at hP hD
        exact retI S hr hlk (by have e9 : rPotter r k g = .inr (r_47, nI (cntN r)) := (by unfold rPotter; rw [if_pos c_4, if_pos c_14, if_neg (nfull_iff hn hn8 c_32)]; (try rw [ek_k]); (try rw [ek_g]); (try rw [tN_nI (k := k_k) (by omega)]); (try rw [tN_nI (k := k_g) (by omega)]); (try rw [er_47]); try with_reducible rfl); rw [e9, rowR_inr, fndM_inr]; exact hP) hS (by have e9 : rPotter r k g = .inr (r_47, nI (cntN r)) := (by unfold rPotter; rw [if_pos c_4, if_pos c_14, if_neg (nfull_iff hn hn8 c_32)]; (try rw [ek_k]); (try rw [ek_g]); (try rw [tN_nI (k := k_k) (by omega)]); (try rw [tN_nI (k := k_g) (by omega)]); (try rw [er_47]); try with_reducible rfl); rw [e9, ansR_inr]) dX5_potter_50
      · refine lv_aload_n S.1 S.2.1 dX5_potter_35 rfl (lv_at hl 0 rfl) ?_
        refine lv_ldc (v := (-1000002)) S.1 S.2.1 S.2.2.2.1 (S.2.2.2.2 _ (List.mem_cons_of_mem _ kk_X5_88)) dX5_potter_36 ?_
        refine go_I (run_V (As := [.int (-1000002)]) (rest := []) (n := 1) S hK (bl_P hP [0, 2] rfl) (bl_D hD [0, 2] rfl rfl) (c_X5_finding l E am q f (-1000002) 1 (by decide) (by decide)) gV_X5_66 (by decide +kernel) rfl ⟨rfl, rfl⟩ ⟨Nat.le_of_ble_eq_true rfl, Nat.le_of_ble_eq_true rfl⟩ (ci := 5) (q0 := 0) rfl rfl hl.1 (Nat.le_of_ble_eq_true rfl) dX5_potter_38 ⟨Nat.zero_le _, Nat.zero_le _⟩) hP hD hS [0, 2] rfl (had_cons rfl (had_cons cell_ad rfl)) (Bs' := [[mObj am q], [(am 1, .inl (E.2.1, 77, .inl (sg r 77)))], [(am 4, .inl (E.2.1, 8, .inl (sg (findM f 1) 8)))]]) rfl (fun H locs hP hD hS => ?_)
        obtain ⟨r_38, er_38⟩ : ∃ z : Row, z = findM f 1 := ⟨_, rfl⟩
        rw [← er_38] at hP hD
        refine lv_goto (tgt := 50) S.1 S.2.1 dX5_potter_41 (by decide) ?_
        exact retI S hr hlk (by have e9 : rPotter r k g = .inl 1 := (by unfold rPotter; rw [if_pos c_4, if_pos c_14, if_pos (full_iff hn hn8 c_32)]); rw [er_38] at hP; rw [e9, fndM_inl]; exact hP) hS (by have e9 : rPotter r k g = .inl 1 := (by unfold rPotter; rw [if_pos c_4, if_pos c_14, if_pos (full_iff hn hn8 c_32)]); rw [e9]; decide) dX5_potter_50
    · refine lv_aload_n S.1 S.2.1 dX5_potter_17 rfl (lv_at hl 0 rfl) ?_
      refine lv_ldc (v := (-1000001)) S.1 S.2.1 S.2.2.2.1 (S.2.2.2.2 _ (List.mem_cons_of_mem _ kk_X5_60)) dX5_potter_18 ?_
      refine go_I (run_V (As := [.int (-1000001)]) (rest := []) (n := 1) S hK (bl_P hP [0, 2] rfl) (bl_D hD [0, 2] rfl rfl) (c_X5_finding l E am q f (-1000001) 0 (by decide) (by decide)) gV_X5_66 (by decide +kernel) rfl ⟨rfl, rfl⟩ ⟨Nat.le_of_ble_eq_true rfl, Nat.le_of_ble_eq_true rfl⟩ (ci := 5) (q0 := 0) rfl rfl hl.1 (Nat.le_of_ble_eq_true rfl) dX5_potter_20 ⟨Nat.zero_le _, Nat.zero_le _⟩) hP hD hS [0, 2] rfl (had_cons rfl (had_cons cell_ad rfl)) (Bs' := [[mObj am q], [(am 1, .inl (E.2.1, 77, .inl (sg r 77)))], [(am 4, .inl (E.2.1, 8, .inl (sg (findM f 0) 8)))]]) rfl (fun H locs hP hD hS => ?_)
      obtain ⟨r_20_1, er_20_1⟩ : ∃ z : Row, z = findM f 0 := ⟨_, rfl⟩
      rw [← er_20_1] at hP hD
      exact retI S hr hlk (by have e9 : rPotter r k g = .inl 0 := (by unfold rPotter; rw [if_pos c_4, if_neg c_14]); rw [er_20_1] at hP; rw [e9, fndM_inl]; exact hP) hS (by have e9 : rPotter r k g = .inl 0 := (by unfold rPotter; rw [if_pos c_4, if_neg c_14]); rw [e9]; decide) dX5_potter_23
set_option maxHeartbeats 800000 in
set_option maxRecDepth 100000 in
theorem c_X5_of (l : Launch) (E : EV) (am : Nat → Nat) (q r f : Row) (pp w : Int32) (hR : RI r) : Met l yX5_of (wq yX5_of cX5_of 3 (some .int)) ({ frames := 4, cells := 0, slots := 0, locals := 91 }) (preB E [.ref (am 0), .int pp, .int w] [[mObj am q], [(am 1, .inl (E.2.1, 77, .inl (sg r 77)))], [(am 4, .inl (E.2.1, 8, .inl (sg f 8)))]]) (qI E [[mObj am q], [(am 1, .inl (E.2.1, 77, .inl (sg r 77)))], [(am 4, .inl (E.2.1, 8, .inl (sg f 8)))]] [[mObj am q], [(am 1, .inl (E.2.1, 77, .inl (sg (rowR r (rOf r pp w)) 77)))], [(am 4, .inl (E.2.1, 8, .inl (sg (fndM f (rOf r pp w)) 8)))]] (ansR (rOf r pp w))) 0 0 (inB [[mObj am q], [(am 1, .inl (E.2.1, 77, .inl (sg r 77)))], [(am 4, .inl (E.2.1, 8, .inl (sg f 8)))]]) := by
  refine M_mk RX5 (by decide) rfl (Nat.le_of_ble_eq_true rfl) ?_
  intro p e s m below meth c S hr hlk hK hP hD hS ls hl
  have hl : lv_has ls 3 [(0, .ref (am 0)), (1, .int pp), (2, .int w)] := hl
  obtain ⟨n, d, hn, hn8, hd, hd5, ho, hso, hli, hsp, hpt⟩ := id hR
  obtain ⟨H, hH⟩ : ∃ z, z = s.heap := ⟨_, rfl⟩
  obtain ⟨locs, hlocs⟩ : ∃ z : List Loc, z = [] := ⟨_, rfl⟩
  have hP : PE E [[mObj am q], [(am 1, .inl (E.2.1, 77, .inl (sg r 77)))], [(am 4, .inl (E.2.1, 8, .inl (sg f 8)))]] H := by rw [hH]; exact hP
  have hS : va_S (inB [[mObj am q], [(am 1, .inl (E.2.1, 77, .inl (sg r 77)))], [(am 4, .inl (E.2.1, 8, .inl (sg f 8)))]]) s.heap H locs := by rw [hH, hlocs]; exact hS
  show W p l e ({ frames := 4, cells := 0, slots := 0, locals := 91 }) s m ([.ref (am 0), .int pp, .int w] : List Value).toArray below meth c s.heap [] 0 0 _ _
  suffices hgo : W p l e ({ frames := 4, cells := 0, slots := 0, locals := 91 }) s m ([.ref (am 0), .int pp, .int w] : List Value).toArray below meth c H locs 0 0 (MQ below (qI E [[mObj am q], [(am 1, .inl (E.2.1, 77, .inl (sg r 77)))], [(am 4, .inl (E.2.1, 8, .inl (sg f 8)))]] [[mObj am q], [(am 1, .inl (E.2.1, 77, .inl (sg (rowR r (rOf r pp w)) 77)))], [(am 4, .inl (E.2.1, 8, .inl (sg (fndM f (rOf r pp w)) 8)))]] (ansR (rOf r pp w))) ([.ref (am 0), .int pp, .int w] : List Value).toArray s 0 0 (inB [[mObj am q], [(am 1, .inl (E.2.1, 77, .inl (sg r 77)))], [(am 4, .inl (E.2.1, 8, .inl (sg f 8)))]])) (F0 m 0 ls []) by rw [hH, hlocs] at hgo; exact hgo
  clear hH hlocs
  refine lv_aload_n S.1 S.2.1 dX5_of_0 rfl (lv_at hl 0 rfl) ?_
  refine lv_iload_n S.1 S.2.1 dX5_of_1 rfl (lv_at hl 1 rfl) ?_
  refine go_S (run_V (As := [.int pp]) (rest := []) (n := 1) S hK (bl_P hP [0, 1] rfl) (bl_D hD [0, 1] rfl rfl) (c_X5_isPotter l E am q r pp n hn hn8) gV_X5_122 (by decide +kernel) rfl ⟨rfl, rfl⟩ ⟨Nat.le_of_ble_eq_true rfl, Nat.le_of_ble_eq_true rfl⟩ (ci := 5) (q0 := 0) rfl rfl hl.1 (Nat.le_of_ble_eq_true rfl) dX5_of_2 ⟨Nat.zero_le _, Nat.zero_le _⟩) ?_
  refine b_ifeq (tgt := 27) S.1 S.2.1 dX5_of_5 (by decide) (fun c_5 => ?_) (fun c_5 => ?_)
  · refine lv_aload_n S.1 S.2.1 dX5_of_27 rfl (lv_at hl 0 rfl) ?_
    refine lv_ldc (v := (-1000001)) S.1 S.2.1 S.2.2.2.1 (S.2.2.2.2 _ (List.mem_cons_of_mem _ kk_X5_60)) dX5_of_28 ?_
    refine go_I (run_V (As := [.int (-1000001)]) (rest := []) (n := 1) S hK (bl_P hP [0, 2] rfl) (bl_D hD [0, 2] rfl rfl) (c_X5_finding l E am q f (-1000001) 0 (by decide) (by decide)) gV_X5_66 (by decide +kernel) rfl ⟨rfl, rfl⟩ ⟨Nat.le_of_ble_eq_true rfl, Nat.le_of_ble_eq_true rfl⟩ (ci := 5) (q0 := 0) rfl rfl hl.1 (Nat.le_of_ble_eq_true rfl) dX5_of_30 ⟨Nat.zero_le _, Nat.zero_le _⟩) hP hD hS [0, 2] rfl (had_cons rfl (had_cons cell_ad rfl)) (Bs' := [[mObj am q], [(am 1, .inl (E.2.1, 77, .inl (sg r 77)))], [(am 4, .inl (E.2.1, 8, .inl (sg (findM f 0) 8)))]]) rfl (fun H locs hP hD hS => ?_)
    obtain ⟨r_30, er_30⟩ : ∃ z : Row, z = findM f 0 := ⟨_, rfl⟩
    rw [← er_30] at hP hD
    exact retI S hr hlk (by have e9 : rOf r pp w = .inl 0 := (by unfold rOf; rw [if_neg c_5]); rw [er_30] at hP; rw [e9, fndM_inl]; exact hP) hS (by have e9 : rOf r pp w = .inl 0 := (by unfold rOf; rw [if_neg c_5]); rw [e9]; decide) dX5_of_33
  · obtain ⟨k_pp, hk_pp, ek_pp⟩ := pot_nat c_5 hn (by omega)
    refine lv_iload_n S.1 S.2.1 dX5_of_8 rfl (lv_at hl 2 rfl) ?_
    refine lv_iconst (v := 0) S.1 S.2.1 dX5_of_9 (by decide) ?_
    refine lv_bipush (v := 12) S.1 S.2.1 dX5_of_10 (by decide) ?_
    refine go_S (run_S (As := [.int w, .int 0, .int 12]) (rest := []) (n := 3) S hK (bl_P hP [] rfl) (bl_D hD [] rfl rfl) (c_X5_within l E w 0 12 ) gS_X5_70 (by decide +kernel) rfl ⟨rfl, rfl⟩ ⟨Nat.le_of_ble_eq_true rfl, Nat.le_of_ble_eq_true rfl⟩ hl.1 (Nat.le_of_ble_eq_true rfl) dX5_of_12 ⟨Nat.zero_le _, Nat.zero_le _⟩) ?_
    refine b_ifeq (tgt := 27) S.1 S.2.1 dX5_of_15 (by decide) (fun c_15 => ?_) (fun c_15 => ?_)
    · refine lv_aload_n S.1 S.2.1 dX5_of_27 rfl (lv_at hl 0 rfl) ?_
      refine lv_ldc (v := (-1000001)) S.1 S.2.1 S.2.2.2.1 (S.2.2.2.2 _ (List.mem_cons_of_mem _ kk_X5_60)) dX5_of_28 ?_
      refine go_I (run_V (As := [.int (-1000001)]) (rest := []) (n := 1) S hK (bl_P hP [0, 2] rfl) (bl_D hD [0, 2] rfl rfl) (c_X5_finding l E am q f (-1000001) 0 (by decide) (by decide)) gV_X5_66 (by decide +kernel) rfl ⟨rfl, rfl⟩ ⟨Nat.le_of_ble_eq_true rfl, Nat.le_of_ble_eq_true rfl⟩ (ci := 5) (q0 := 0) rfl rfl hl.1 (Nat.le_of_ble_eq_true rfl) dX5_of_30 ⟨Nat.zero_le _, Nat.zero_le _⟩) hP hD hS [0, 2] rfl (had_cons rfl (had_cons cell_ad rfl)) (Bs' := [[mObj am q], [(am 1, .inl (E.2.1, 77, .inl (sg r 77)))], [(am 4, .inl (E.2.1, 8, .inl (sg (findM f 0) 8)))]]) rfl (fun H locs hP hD hS => ?_)
      obtain ⟨r_30_1, er_30_1⟩ : ∃ z : Row, z = findM f 0 := ⟨_, rfl⟩
      rw [← er_30_1] at hP hD
      exact retI S hr hlk (by have e9 : rOf r pp w = .inl 0 := (by unfold rOf; rw [if_pos c_5, if_neg c_15]); rw [er_30_1] at hP; rw [e9, fndM_inl]; exact hP) hS (by have e9 : rOf r pp w = .inl 0 := (by unfold rOf; rw [if_pos c_5, if_neg c_15]); rw [e9]; decide) dX5_of_33
    · obtain ⟨k_w, hk_w, ek_w⟩ := nI_of2 (n := 12) (by decide) (Int32.not_lt.mpr c_15.1) c_15.2
      refine lv_aload_n S.1 S.2.1 dX5_of_18 rfl (lv_at hl 0 rfl) ?_
      refine lv_iload_n S.1 S.2.1 dX5_of_19 rfl (lv_at hl 1 rfl) ?_
      refine lv_eqi (y := nI k_pp) ek_pp ?_
      refine lv_iload_n S.1 S.2.1 dX5_of_20 rfl (lv_at hl 2 rfl) ?_
      refine lv_eqi (y := nI k_w) ek_w ?_
      refine go_S (run_V (As := [.int (nI k_pp), .int (nI k_w)]) (rest := []) (n := 2) S hK (bl_P hP [0, 1] rfl) (bl_D hD [0, 1] rfl rfl) (c_X5_told l E am q r k_pp k_w hR (by rw [cntN_eq hn hn8]; exact hk_pp) (by omega)) gV_X5_125 (by decide +kernel) rfl ⟨rfl, rfl⟩ ⟨Nat.le_of_ble_eq_true rfl, Nat.le_of_ble_eq_true rfl⟩ (ci := 5) (q0 := 0) rfl rfl hl.1 (Nat.le_of_ble_eq_true rfl) dX5_of_21 ⟨Nat.zero_le _, Nat.zero_le _⟩) ?_
      refine lv_goto (tgt := 33) S.1 S.2.1 dX5_of_24 (by decide) ?_
      exact retI S hr hlk (by have e9 : rOf r pp w = .inr (r, toldM r k_pp k_w) := (by unfold rOf; rw [if_pos c_5, if_pos c_15]; (try rw [ek_pp]); (try rw [ek_w]); (try rw [tN_nI (k := k_pp) (by omega)]); (try rw [tN_nI (k := k_w) (by omega)]); try with_reducible rfl); rw [e9, rowR_inr, fndM_inr]; exact hP) hS (by have e9 : rOf r pp w = .inr (r, toldM r k_pp k_w) := (by unfold rOf; rw [if_pos c_5, if_pos c_15]; (try rw [ek_pp]); (try rw [ek_w]); (try rw [tN_nI (k := k_pp) (by omega)]); (try rw [tN_nI (k := k_w) (by omega)]); try with_reducible rfl); rw [e9, ansR_inr]) dX5_of_33
set_option maxHeartbeats 800000 in
set_option maxRecDepth 100000 in
theorem c_X5_now (l : Launch) (E : EV) (am : Nat → Nat) (q r f : Row) (w : Int32) (hR : RI r) : Met l yX5_now (wq yX5_now cX5_now 2 (some .int)) ({ frames := 5, cells := 0, slots := 0, locals := 107 }) (preB E [.ref (am 0), .int w] [[mObj am q], [(am 1, .inl (E.2.1, 77, .inl (sg r 77)))], [(am 4, .inl (E.2.1, 8, .inl (sg f 8)))]]) (qI E [[mObj am q], [(am 1, .inl (E.2.1, 77, .inl (sg r 77)))], [(am 4, .inl (E.2.1, 8, .inl (sg f 8)))]] [[mObj am q], [(am 1, .inl (E.2.1, 77, .inl (sg (rowR r (rNow r w)) 77)))], [(am 4, .inl (E.2.1, 8, .inl (sg (fndM f (rNow r w)) 8)))]] (ansR (rNow r w))) 0 0 (inB [[mObj am q], [(am 1, .inl (E.2.1, 77, .inl (sg r 77)))], [(am 4, .inl (E.2.1, 8, .inl (sg f 8)))]]) := by
  refine M_mk RX5 (by decide) rfl (Nat.le_of_ble_eq_true rfl) ?_
  intro p e s m below meth c S hr hlk hK hP hD hS ls hl
  have hl : lv_has ls 2 [(0, .ref (am 0)), (1, .int w)] := hl
  obtain ⟨n, d, hn, hn8, hd, hd5, ho, hso, hli, hsp, hpt⟩ := id hR
  obtain ⟨H, hH⟩ : ∃ z, z = s.heap := ⟨_, rfl⟩
  obtain ⟨locs, hlocs⟩ : ∃ z : List Loc, z = [] := ⟨_, rfl⟩
  have hP : PE E [[mObj am q], [(am 1, .inl (E.2.1, 77, .inl (sg r 77)))], [(am 4, .inl (E.2.1, 8, .inl (sg f 8)))]] H := by rw [hH]; exact hP
  have hS : va_S (inB [[mObj am q], [(am 1, .inl (E.2.1, 77, .inl (sg r 77)))], [(am 4, .inl (E.2.1, 8, .inl (sg f 8)))]]) s.heap H locs := by rw [hH, hlocs]; exact hS
  show W p l e ({ frames := 5, cells := 0, slots := 0, locals := 107 }) s m ([.ref (am 0), .int w] : List Value).toArray below meth c s.heap [] 0 0 _ _
  suffices hgo : W p l e ({ frames := 5, cells := 0, slots := 0, locals := 107 }) s m ([.ref (am 0), .int w] : List Value).toArray below meth c H locs 0 0 (MQ below (qI E [[mObj am q], [(am 1, .inl (E.2.1, 77, .inl (sg r 77)))], [(am 4, .inl (E.2.1, 8, .inl (sg f 8)))]] [[mObj am q], [(am 1, .inl (E.2.1, 77, .inl (sg (rowR r (rNow r w)) 77)))], [(am 4, .inl (E.2.1, 8, .inl (sg (fndM f (rNow r w)) 8)))]] (ansR (rNow r w))) ([.ref (am 0), .int w] : List Value).toArray s 0 0 (inB [[mObj am q], [(am 1, .inl (E.2.1, 77, .inl (sg r 77)))], [(am 4, .inl (E.2.1, 8, .inl (sg f 8)))]])) (F0 m 0 ls []) by rw [hH, hlocs] at hgo; exact hgo
  clear hH hlocs
  refine lv_iload_n S.1 S.2.1 dX5_now_0 rfl (lv_at hl 1 rfl) ?_
  by_cases k_1_0 : w = 0
  · refine lv_tableIn (tgt := 48) S.1 S.2.1 dX5_now_1 (by rw [k_1_0]; decide) (by rw [k_1_0]; decide) (by rw [k_1_0]; rfl) (by decide) ?_
    refine lv_aload_n S.1 S.2.1 dX5_now_48 rfl (lv_at hl 0 rfl) ?_
    refine gf_X5_9 S hK hP 0 0 rfl rfl rfl dX5_now_49 ?_
    refine lv_iconst (v := 0) S.1 S.2.1 dX5_now_52 (by decide) ?_
    refine b_ialdN (i := 0) S hK hP 1 0 rfl rfl (by omega) (by decide) dX5_now_53 ?_
    refine lv_eqi (y := nI d) ((sg_at (by omega)).trans hd) ?_
    exact retI S hr hlk (by have e9 : rNow r w = .inr (r, nI d) := (by unfold rNow; rw [if_pos k_1_0]; (try rw [hd]); (try rw [hn]); try with_reducible rfl); rw [e9, rowR_inr, fndM_inr]; exact hP) hS (by have e9 : rNow r w = .inr (r, nI d) := (by unfold rNow; rw [if_pos k_1_0]; (try rw [hd]); (try rw [hn]); try with_reducible rfl); rw [e9, ansR_inr]) dX5_now_54
  by_cases k_1_1 : w = 1
  · refine lv_tableIn (tgt := 55) S.1 S.2.1 dX5_now_1 (by rw [k_1_1]; decide) (by rw [k_1_1]; decide) (by rw [k_1_1]; rfl) (by decide) ?_
    refine lv_aload_n S.1 S.2.1 dX5_now_55 rfl (lv_at hl 0 rfl) ?_
    refine gf_X5_9 S hK hP 0 0 rfl rfl rfl dX5_now_56 ?_
    refine lv_iconst (v := 4) S.1 S.2.1 dX5_now_59 (by decide) ?_
    refine b_ialdN (i := 4) S hK hP 1 0 rfl rfl (by omega) (by decide) dX5_now_60 ?_
    refine lv_eqi (y := r 4) (sg_at (by omega)) ?_
    exact retI S hr hlk (by have e9 : rNow r w = .inr (r, r 4) := (by unfold rNow; rw [if_neg k_1_0, if_pos k_1_1]; (try rw [hd]); (try rw [hn]); try with_reducible rfl); rw [e9, rowR_inr, fndM_inr]; exact hP) hS (by have e9 : rNow r w = .inr (r, r 4) := (by unfold rNow; rw [if_neg k_1_0, if_pos k_1_1]; (try rw [hd]); (try rw [hn]); try with_reducible rfl); rw [e9, ansR_inr]) dX5_now_61
  by_cases k_1_2 : w = 2
  · refine lv_tableIn (tgt := 62) S.1 S.2.1 dX5_now_1 (by rw [k_1_2]; decide) (by rw [k_1_2]; decide) (by rw [k_1_2]; rfl) (by decide) ?_
    refine lv_aload_n S.1 S.2.1 dX5_now_62 rfl (lv_at hl 0 rfl) ?_
    refine gf_X5_9 S hK hP 0 0 rfl rfl rfl dX5_now_63 ?_
    refine lv_iconst (v := 3) S.1 S.2.1 dX5_now_66 (by decide) ?_
    refine b_ialdN (i := 3) S hK hP 1 0 rfl rfl (by omega) (by decide) dX5_now_67 ?_
    refine lv_eqi (y := r 3) (sg_at (by omega)) ?_
    exact retI S hr hlk (by have e9 : rNow r w = .inr (r, r 3) := (by unfold rNow; rw [if_neg k_1_0, if_neg k_1_1, if_pos k_1_2]; (try rw [hd]); (try rw [hn]); try with_reducible rfl); rw [e9, rowR_inr, fndM_inr]; exact hP) hS (by have e9 : rNow r w = .inr (r, r 3) := (by unfold rNow; rw [if_neg k_1_0, if_neg k_1_1, if_pos k_1_2]; (try rw [hd]); (try rw [hn]); try with_reducible rfl); rw [e9, ansR_inr]) dX5_now_68
  by_cases k_1_3 : w = 3
  · refine lv_tableIn (tgt := 69) S.1 S.2.1 dX5_now_1 (by rw [k_1_3]; decide) (by rw [k_1_3]; decide) (by rw [k_1_3]; rfl) (by decide) ?_
    refine lv_aload_n S.1 S.2.1 dX5_now_69 rfl (lv_at hl 0 rfl) ?_
    refine lv_iconst (v := 5) S.1 S.2.1 dX5_now_70 (by decide) ?_
    refine go_S (run_V (As := [.int 5]) (rest := []) (n := 1) S hK (bl_P hP [0, 1] rfl) (bl_D hD [0, 1] rfl rfl) (c_X5_sumOf l E am q r 5 (by omega) hR) gV_X5_153 (by decide +kernel) rfl ⟨rfl, rfl⟩ ⟨Nat.le_of_ble_eq_true rfl, Nat.le_of_ble_eq_true rfl⟩ (ci := 5) (q0 := 0) rfl rfl hl.1 (Nat.le_of_ble_eq_true rfl) dX5_now_71 ⟨Nat.zero_le _, Nat.zero_le _⟩) ?_
    exact retI S hr hlk (by have e9 : rNow r w = .inr (r, sumR r 5 (cntN r)) := (by unfold rNow; rw [if_neg k_1_0, if_neg k_1_1, if_neg k_1_2, if_pos k_1_3]; (try rw [hd]); (try rw [hn]); try with_reducible rfl); rw [e9, rowR_inr, fndM_inr]; exact hP) hS (by have e9 : rNow r w = .inr (r, sumR r 5 (cntN r)) := (by unfold rNow; rw [if_neg k_1_0, if_neg k_1_1, if_neg k_1_2, if_pos k_1_3]; (try rw [hd]); (try rw [hn]); try with_reducible rfl); rw [e9, ansR_inr]) dX5_now_74
  by_cases k_1_4 : w = 4
  · refine lv_tableIn (tgt := 75) S.1 S.2.1 dX5_now_1 (by rw [k_1_4]; decide) (by rw [k_1_4]; decide) (by rw [k_1_4]; rfl) (by decide) ?_
    refine lv_aload_n S.1 S.2.1 dX5_now_75 rfl (lv_at hl 0 rfl) ?_
    refine lv_bipush (v := 6) S.1 S.2.1 dX5_now_76 (by decide) ?_
    refine go_S (run_V (As := [.int 6]) (rest := []) (n := 1) S hK (bl_P hP [0, 1] rfl) (bl_D hD [0, 1] rfl rfl) (c_X5_sumOf l E am q r 6 (by omega) hR) gV_X5_153 (by decide +kernel) rfl ⟨rfl, rfl⟩ ⟨Nat.le_of_ble_eq_true rfl, Nat.le_of_ble_eq_true rfl⟩ (ci := 5) (q0 := 0) rfl rfl hl.1 (Nat.le_of_ble_eq_true rfl) dX5_now_78 ⟨Nat.zero_le _, Nat.zero_le _⟩) ?_
    exact retI S hr hlk (by have e9 : rNow r w = .inr (r, sumR r 6 (cntN r)) := (by unfold rNow; rw [if_neg k_1_0, if_neg k_1_1, if_neg k_1_2, if_neg k_1_3, if_pos k_1_4]; (try rw [hd]); (try rw [hn]); try with_reducible rfl); rw [e9, rowR_inr, fndM_inr]; exact hP) hS (by have e9 : rNow r w = .inr (r, sumR r 6 (cntN r)) := (by unfold rNow; rw [if_neg k_1_0, if_neg k_1_1, if_neg k_1_2, if_neg k_1_3, if_pos k_1_4]; (try rw [hd]); (try rw [hn]); try with_reducible rfl); rw [e9, ansR_inr]) dX5_now_81
  by_cases k_1_5 : w = 5
  · refine lv_tableIn (tgt := 82) S.1 S.2.1 dX5_now_1 (by rw [k_1_5]; decide) (by rw [k_1_5]; decide) (by rw [k_1_5]; rfl) (by decide) ?_
    refine lv_aload_n S.1 S.2.1 dX5_now_82 rfl (lv_at hl 0 rfl) ?_
    refine go_S (run_V (As := []) (rest := []) (n := 0) S hK (bl_P hP [0, 1] rfl) (bl_D hD [0, 1] rfl rfl) (c_X5_colours l E am q r hR) gV_X5_156 (by decide +kernel) rfl ⟨rfl, rfl⟩ ⟨Nat.le_of_ble_eq_true rfl, Nat.le_of_ble_eq_true rfl⟩ (ci := 5) (q0 := 0) rfl rfl hl.1 (Nat.le_of_ble_eq_true rfl) dX5_now_83 ⟨Nat.zero_le _, Nat.zero_le _⟩) ?_
    exact retI S hr hlk (by have e9 : rNow r w = .inr (r, colR r (cntN r)) := (by unfold rNow; rw [if_neg k_1_0, if_neg k_1_1, if_neg k_1_2, if_neg k_1_3, if_neg k_1_4, if_pos k_1_5]; (try rw [hd]); (try rw [hn]); try with_reducible rfl); rw [e9, rowR_inr, fndM_inr]; exact hP) hS (by have e9 : rNow r w = .inr (r, colR r (cntN r)) := (by unfold rNow; rw [if_neg k_1_0, if_neg k_1_1, if_neg k_1_2, if_neg k_1_3, if_neg k_1_4, if_pos k_1_5]; (try rw [hd]); (try rw [hn]); try with_reducible rfl); rw [e9, ansR_inr]) dX5_now_86
  by_cases k_1_6 : w = 6
  · refine lv_tableIn (tgt := 87) S.1 S.2.1 dX5_now_1 (by rw [k_1_6]; decide) (by rw [k_1_6]; decide) (by rw [k_1_6]; rfl) (by decide) ?_
    refine lv_aload_n S.1 S.2.1 dX5_now_87 rfl (lv_at hl 0 rfl) ?_
    refine go_S (run_V (As := []) (rest := []) (n := 0) S hK (bl_P hP [0, 1] rfl) (bl_D hD [0, 1] rfl rfl) (c_X5_ready l E am q r hR) gV_X5_159 (by decide +kernel) rfl ⟨rfl, rfl⟩ ⟨Nat.le_of_ble_eq_true rfl, Nat.le_of_ble_eq_true rfl⟩ (ci := 5) (q0 := 0) rfl rfl hl.1 (Nat.le_of_ble_eq_true rfl) dX5_now_88 ⟨Nat.zero_le _, Nat.zero_le _⟩) ?_
    exact retI S hr hlk (by have e9 : rNow r w = .inr (r, rdyR r (cntN r)) := (by unfold rNow; rw [if_neg k_1_0, if_neg k_1_1, if_neg k_1_2, if_neg k_1_3, if_neg k_1_4, if_neg k_1_5, if_pos k_1_6]; (try rw [hd]); (try rw [hn]); try with_reducible rfl); rw [e9, rowR_inr, fndM_inr]; exact hP) hS (by have e9 : rNow r w = .inr (r, rdyR r (cntN r)) := (by unfold rNow; rw [if_neg k_1_0, if_neg k_1_1, if_neg k_1_2, if_neg k_1_3, if_neg k_1_4, if_neg k_1_5, if_pos k_1_6]; (try rw [hd]); (try rw [hn]); try with_reducible rfl); rw [e9, ansR_inr]) dX5_now_91
  by_cases k_1_7 : w = 7
  · refine lv_tableIn (tgt := 92) S.1 S.2.1 dX5_now_1 (by rw [k_1_7]; decide) (by rw [k_1_7]; decide) (by rw [k_1_7]; rfl) (by decide) ?_
    refine lv_aload_n S.1 S.2.1 dX5_now_92 rfl (lv_at hl 0 rfl) ?_
    refine go_S (run_V (As := []) (rest := []) (n := 0) S hK (bl_P hP [0, 1] rfl) (bl_D hD [0, 1] rfl rfl) (c_X5_mostRun l E am q r hR) gV_X5_162 (by decide +kernel) rfl ⟨rfl, rfl⟩ ⟨Nat.le_of_ble_eq_true rfl, Nat.le_of_ble_eq_true rfl⟩ (ci := 5) (q0 := 0) rfl rfl hl.1 (Nat.le_of_ble_eq_true rfl) dX5_now_93 ⟨Nat.zero_le _, Nat.zero_le _⟩) ?_
    exact retI S hr hlk (by have e9 : rNow r w = .inr (r, (wetR r (cntN r)).1) := (by unfold rNow; rw [if_neg k_1_0, if_neg k_1_1, if_neg k_1_2, if_neg k_1_3, if_neg k_1_4, if_neg k_1_5, if_neg k_1_6, if_pos k_1_7]; (try rw [hd]); (try rw [hn]); try with_reducible rfl); rw [e9, rowR_inr, fndM_inr]; exact hP) hS (by have e9 : rNow r w = .inr (r, (wetR r (cntN r)).1) := (by unfold rNow; rw [if_neg k_1_0, if_neg k_1_1, if_neg k_1_2, if_neg k_1_3, if_neg k_1_4, if_neg k_1_5, if_neg k_1_6, if_pos k_1_7]; (try rw [hd]); (try rw [hn]); try with_reducible rfl); rw [e9, ansR_inr]) dX5_now_96
  have t_1_0 := ne_toInt (n := 0) (by decide) k_1_0
  have t_1_1 := ne_toInt (n := 1) (by decide) k_1_1
  have t_1_2 := ne_toInt (n := 2) (by decide) k_1_2
  have t_1_3 := ne_toInt (n := 3) (by decide) k_1_3
  have t_1_4 := ne_toInt (n := 4) (by decide) k_1_4
  have t_1_5 := ne_toInt (n := 5) (by decide) k_1_5
  have t_1_6 := ne_toInt (n := 6) (by decide) k_1_6
  have t_1_7 := ne_toInt (n := 7) (by decide) k_1_7
  refine lv_tableOut (tgt := 97) S.1 S.2.1 dX5_now_1 (by omega) (by decide) ?_
  refine lv_aload_n S.1 S.2.1 dX5_now_97 rfl (lv_at hl 0 rfl) ?_
  refine lv_ldc (v := (-1000001)) S.1 S.2.1 S.2.2.2.1 (S.2.2.2.2 _ (List.mem_cons_of_mem _ kk_X5_60)) dX5_now_98 ?_
  refine go_I (run_V (As := [.int (-1000001)]) (rest := []) (n := 1) S hK (bl_P hP [0, 2] rfl) (bl_D hD [0, 2] rfl rfl) (c_X5_finding l E am q f (-1000001) 0 (by decide) (by decide)) gV_X5_66 (by decide +kernel) rfl ⟨rfl, rfl⟩ ⟨Nat.le_of_ble_eq_true rfl, Nat.le_of_ble_eq_true rfl⟩ (ci := 5) (q0 := 0) rfl rfl hl.1 (Nat.le_of_ble_eq_true rfl) dX5_now_100 ⟨Nat.zero_le _, Nat.zero_le _⟩) hP hD hS [0, 2] rfl (had_cons rfl (had_cons cell_ad rfl)) (Bs' := [[mObj am q], [(am 1, .inl (E.2.1, 77, .inl (sg r 77)))], [(am 4, .inl (E.2.1, 8, .inl (sg (findM f 0) 8)))]]) rfl (fun H locs hP hD hS => ?_)
  obtain ⟨r_100, er_100⟩ : ∃ z : Row, z = findM f 0 := ⟨_, rfl⟩
  rw [← er_100] at hP hD
  exact retI S hr hlk (by have e9 : rNow r w = .inl 0 := (by unfold rNow; rw [if_neg k_1_0, if_neg k_1_1, if_neg k_1_2, if_neg k_1_3, if_neg k_1_4, if_neg k_1_5, if_neg k_1_6, if_neg k_1_7]); rw [er_100] at hP; rw [e9, fndM_inl]; exact hP) hS (by have e9 : rNow r w = .inl 0 := (by unfold rNow; rw [if_neg k_1_0, if_neg k_1_1, if_neg k_1_2, if_neg k_1_3, if_neg k_1_4, if_neg k_1_5, if_neg k_1_6, if_neg k_1_7]); rw [e9]; decide) dX5_now_103
set_option maxHeartbeats 800000 in
set_option maxRecDepth 100000 in
theorem c_X5_go (l : Launch) (E : EV) (am : Nat → Nat) (q r f : Row) (n9 : Int32) (hR : RI r) : Met l yX5_go (wq yX5_go cX5_go 2 (some .int)) ({ frames := 7, cells := 0, slots := 0, locals := 149 }) (preB E [.ref (am 0), .int n9] [[mObj am q], [(am 1, .inl (E.2.1, 77, .inl (sg r 77)))], [(am 4, .inl (E.2.1, 8, .inl (sg f 8)))]]) (qI E [[mObj am q], [(am 1, .inl (E.2.1, 77, .inl (sg r 77)))], [(am 4, .inl (E.2.1, 8, .inl (sg f 8)))]] [[mObj am q], [(am 1, .inl (E.2.1, 77, .inl (sg (rowR r (rGo r n9)) 77)))], [(am 4, .inl (E.2.1, 8, .inl (sg (fndM f (rGo r n9)) 8)))]] (ansR (rGo r n9))) 0 0 (inB [[mObj am q], [(am 1, .inl (E.2.1, 77, .inl (sg r 77)))], [(am 4, .inl (E.2.1, 8, .inl (sg f 8)))]]) := by
  refine M_mk RX5 (by decide) rfl (Nat.le_of_ble_eq_true rfl) ?_
  intro p e s m below meth c S hr hlk hK hP hD hS ls hl
  have hl : lv_has ls 2 [(0, .ref (am 0)), (1, .int n9)] := hl
  obtain ⟨n, d, hn, hn8, hd, hd5, ho, hso, hli, hsp, hpt⟩ := id hR
  obtain ⟨H, hH⟩ : ∃ z, z = s.heap := ⟨_, rfl⟩
  obtain ⟨locs, hlocs⟩ : ∃ z : List Loc, z = [] := ⟨_, rfl⟩
  have hP : PE E [[mObj am q], [(am 1, .inl (E.2.1, 77, .inl (sg r 77)))], [(am 4, .inl (E.2.1, 8, .inl (sg f 8)))]] H := by rw [hH]; exact hP
  have hS : va_S (inB [[mObj am q], [(am 1, .inl (E.2.1, 77, .inl (sg r 77)))], [(am 4, .inl (E.2.1, 8, .inl (sg f 8)))]]) s.heap H locs := by rw [hH, hlocs]; exact hS
  show W p l e ({ frames := 7, cells := 0, slots := 0, locals := 149 }) s m ([.ref (am 0), .int n9] : List Value).toArray below meth c s.heap [] 0 0 _ _
  suffices hgo : W p l e ({ frames := 7, cells := 0, slots := 0, locals := 149 }) s m ([.ref (am 0), .int n9] : List Value).toArray below meth c H locs 0 0 (MQ below (qI E [[mObj am q], [(am 1, .inl (E.2.1, 77, .inl (sg r 77)))], [(am 4, .inl (E.2.1, 8, .inl (sg f 8)))]] [[mObj am q], [(am 1, .inl (E.2.1, 77, .inl (sg (rowR r (rGo r n9)) 77)))], [(am 4, .inl (E.2.1, 8, .inl (sg (fndM f (rGo r n9)) 8)))]] (ansR (rGo r n9))) ([.ref (am 0), .int n9] : List Value).toArray s 0 0 (inB [[mObj am q], [(am 1, .inl (E.2.1, 77, .inl (sg r 77)))], [(am 4, .inl (E.2.1, 8, .inl (sg f 8)))]])) (F0 m 0 ls []) by rw [hH, hlocs] at hgo; exact hgo
  clear hH hlocs
  refine lv_iload_n S.1 S.2.1 dX5_go_0 rfl (lv_at hl 1 rfl) ?_
  refine lv_iconst (v := 1) S.1 S.2.1 dX5_go_1 (by decide) ?_
  refine lv_bipush (v := 60) S.1 S.2.1 dX5_go_2 (by decide) ?_
  refine go_S (run_S (As := [.int n9, .int 1, .int 60]) (rest := []) (n := 3) S hK (bl_P hP [] rfl) (bl_D hD [] rfl rfl) (c_X5_within l E n9 1 60 ) gS_X5_70 (by decide +kernel) rfl ⟨rfl, rfl⟩ ⟨Nat.le_of_ble_eq_true rfl, Nat.le_of_ble_eq_true rfl⟩ hl.1 (Nat.le_of_ble_eq_true rfl) dX5_go_4 ⟨Nat.zero_le _, Nat.zero_le _⟩) ?_
  refine b_ifne (tgt := 17) S.1 S.2.1 dX5_go_7 (by decide) (fun c_7 => ?_) (fun c_7 => ?_)
  · obtain ⟨k_n9, hj_n9, hk_n9, ek_n9⟩ := of_rng (lo := 1) (hi := 60) (by decide) (by decide) c_7
    refine lv_aload_n S.1 S.2.1 dX5_go_17 rfl (lv_at hl 0 rfl) ?_
    refine gf_X5_9 S hK hP 0 0 rfl rfl rfl dX5_go_18 ?_
    refine lv_iconst (v := 0) S.1 S.2.1 dX5_go_21 (by decide) ?_
    refine b_ialdN (i := 0) S hK hP 1 0 rfl rfl (by omega) (by decide) dX5_go_22 ?_
    refine lv_eqi (y := nI d) ((sg_at (by omega)).trans hd) ?_
    refine lv_iload_n S.1 S.2.1 dX5_go_23 rfl (lv_at hl 1 rfl) ?_
    refine lv_eqi (y := nI k_n9) ek_n9 ?_
    refine lv_iadd S.1 S.2.1 dX5_go_24 ?_
    refine lv_eqi (y := nI (d + k_n9)) (nI_add d k_n9) ?_
    refine lv_ldc (v := 99999) S.1 S.2.1 S.2.2.2.1 (S.2.2.2.2 _ (List.mem_cons_of_mem _ kk_X5_138)) dX5_go_25 ?_
    refine lv_icmp_le (tgt := 37) S.1 S.2.1 dX5_go_27 (by decide) (fun c_27 => ?_) (fun c_27 => ?_)
    · have n_27 := Int32.not_lt.mpr c_27
      refine lv_aload_n S.1 S.2.1 dX5_go_37 rfl (lv_at hl 0 rfl) ?_
      refine lv_iload_n S.1 S.2.1 dX5_go_38 rfl (lv_at hl 1 rfl) ?_
      refine lv_eqi (y := nI k_n9) ek_n9 ?_
      refine go_V (run_V (As := [.int (nI k_n9)]) (rest := []) (n := 1) S hK (bl_P hP [0, 1] rfl) (bl_D hD [0, 1] rfl rfl) (c_X5_daysGo l E am q r k_n9 (by omega) hR) gV_X5_150 (by decide +kernel) rfl ⟨rfl, rfl⟩ ⟨Nat.le_of_ble_eq_true rfl, Nat.le_of_ble_eq_true rfl⟩ (ci := 5) (q0 := 0) rfl rfl hl.1 (Nat.le_of_ble_eq_true rfl) dX5_go_39 ⟨Nat.zero_le _, Nat.zero_le _⟩) hP hD hS [0, 1] rfl (had_cons rfl (had_cons cell_ad rfl)) (Bs' := [[mObj am q], [(am 1, .inl (E.2.1, 77, .inl (sg (daysF r k_n9) 77)))], [(am 4, .inl (E.2.1, 8, .inl (sg f 8)))]]) rfl (fun H locs hP hD hS => ?_)
      obtain ⟨r_39, er_39⟩ : ∃ z : Row, z = daysF r k_n9 := ⟨_, rfl⟩
      rw [← er_39] at hP hD
      have hr_39_1 : r_39 1 = nI n := by rw [er_39]; exact (daysF_1 r k_n9).trans hn
      have hr_39_RI : RI r_39 := by rw [er_39]; exact daysF_RI hR _
      refine lv_aload_n S.1 S.2.1 dX5_go_42 rfl (lv_at hl 0 rfl) ?_
      refine gf_X5_9 S hK hP 0 0 rfl rfl rfl dX5_go_43 ?_
      refine lv_iconst (v := 4) S.1 S.2.1 dX5_go_46 (by decide) ?_
      refine b_ialdN (i := 4) S hK hP 1 0 rfl rfl (by omega) (by decide) dX5_go_47 ?_
      refine lv_eqi (y := r_39 4) (sg_at (by omega)) ?_
      exact retI S hr hlk (by have e9 : rGo r n9 = .inr (r_39, r_39 4) := (by unfold rGo; rw [if_pos c_7, if_neg (show ¬ 99999 < r 0 + n9 by rw [hd, ek_n9, nI_add]; exact n_27)]; (try rw [ek_n9]); (try rw [tN_nI (k := k_n9) (by omega)]); (try rw [er_39]); (try rw [er_39]); try with_reducible rfl); rw [e9, rowR_inr, fndM_inr]; exact hP) hS (by have e9 : rGo r n9 = .inr (r_39, r_39 4) := (by unfold rGo; rw [if_pos c_7, if_neg (show ¬ 99999 < r 0 + n9 by rw [hd, ek_n9, nI_add]; exact n_27)]; (try rw [ek_n9]); (try rw [tN_nI (k := k_n9) (by omega)]); (try rw [er_39]); (try rw [er_39]); try with_reducible rfl); rw [e9, ansR_inr]) dX5_go_48
    · have n_27 := Int32.not_le.mp c_27
      refine lv_aload_n S.1 S.2.1 dX5_go_30 rfl (lv_at hl 0 rfl) ?_
      refine lv_ldc (v := (-1000005)) S.1 S.2.1 S.2.2.2.1 (S.2.2.2.2 _ (List.mem_cons_of_mem _ kk_X5_149)) dX5_go_31 ?_
      refine go_I (run_V (As := [.int (-1000005)]) (rest := []) (n := 1) S hK (bl_P hP [0, 2] rfl) (bl_D hD [0, 2] rfl rfl) (c_X5_finding l E am q f (-1000005) 4 (by decide) (by decide)) gV_X5_66 (by decide +kernel) rfl ⟨rfl, rfl⟩ ⟨Nat.le_of_ble_eq_true rfl, Nat.le_of_ble_eq_true rfl⟩ (ci := 5) (q0 := 0) rfl rfl hl.1 (Nat.le_of_ble_eq_true rfl) dX5_go_33 ⟨Nat.zero_le _, Nat.zero_le _⟩) hP hD hS [0, 2] rfl (had_cons rfl (had_cons cell_ad rfl)) (Bs' := [[mObj am q], [(am 1, .inl (E.2.1, 77, .inl (sg r 77)))], [(am 4, .inl (E.2.1, 8, .inl (sg (findM f 4) 8)))]]) rfl (fun H locs hP hD hS => ?_)
      obtain ⟨r_33, er_33⟩ : ∃ z : Row, z = findM f 4 := ⟨_, rfl⟩
      rw [← er_33] at hP hD
      exact retI S hr hlk (by have e9 : rGo r n9 = .inl 4 := (by unfold rGo; rw [if_pos c_7, if_pos (show 99999 < r 0 + n9 by rw [hd, ek_n9, nI_add]; exact n_27)]); rw [er_33] at hP; rw [e9, fndM_inl]; exact hP) hS (by have e9 : rGo r n9 = .inl 4 := (by unfold rGo; rw [if_pos c_7, if_pos (show 99999 < r 0 + n9 by rw [hd, ek_n9, nI_add]; exact n_27)]); rw [e9]; decide) dX5_go_36
  · refine lv_aload_n S.1 S.2.1 dX5_go_10 rfl (lv_at hl 0 rfl) ?_
    refine lv_ldc (v := (-1000001)) S.1 S.2.1 S.2.2.2.1 (S.2.2.2.2 _ (List.mem_cons_of_mem _ kk_X5_60)) dX5_go_11 ?_
    refine go_I (run_V (As := [.int (-1000001)]) (rest := []) (n := 1) S hK (bl_P hP [0, 2] rfl) (bl_D hD [0, 2] rfl rfl) (c_X5_finding l E am q f (-1000001) 0 (by decide) (by decide)) gV_X5_66 (by decide +kernel) rfl ⟨rfl, rfl⟩ ⟨Nat.le_of_ble_eq_true rfl, Nat.le_of_ble_eq_true rfl⟩ (ci := 5) (q0 := 0) rfl rfl hl.1 (Nat.le_of_ble_eq_true rfl) dX5_go_13 ⟨Nat.zero_le _, Nat.zero_le _⟩) hP hD hS [0, 2] rfl (had_cons rfl (had_cons cell_ad rfl)) (Bs' := [[mObj am q], [(am 1, .inl (E.2.1, 77, .inl (sg r 77)))], [(am 4, .inl (E.2.1, 8, .inl (sg (findM f 0) 8)))]]) rfl (fun H locs hP hD hS => ?_)
    obtain ⟨r_13, er_13⟩ : ∃ z : Row, z = findM f 0 := ⟨_, rfl⟩
    rw [← er_13] at hP hD
    exact retI S hr hlk (by have e9 : rGo r n9 = .inl 0 := (by unfold rGo; rw [if_neg c_7]); rw [er_13] at hP; rw [e9, fndM_inl]; exact hP) hS (by have e9 : rGo r n9 = .inl 0 := (by unfold rGo; rw [if_neg c_7]); rw [e9]; decide) dX5_go_16
set_option maxHeartbeats 800000 in
set_option maxRecDepth 100000 in
theorem c_X5_change (l : Launch) (E : EV) (am : Nat → Nat) (q r f : Row) (pp w v : Int32) (hR : RI r) : Met l yX5_change (wq yX5_change cX5_change 4 (some .int)) ({ frames := 3, cells := 0, slots := 0, locals := 63 }) (preB E [.ref (am 0), .int pp, .int w, .int v] [[mObj am q], [(am 1, .inl (E.2.1, 77, .inl (sg r 77)))], [(am 4, .inl (E.2.1, 8, .inl (sg f 8)))]]) (qI E [[mObj am q], [(am 1, .inl (E.2.1, 77, .inl (sg r 77)))], [(am 4, .inl (E.2.1, 8, .inl (sg f 8)))]] [[mObj am q], [(am 1, .inl (E.2.1, 77, .inl (sg (rowR r (rChange r pp w v)) 77)))], [(am 4, .inl (E.2.1, 8, .inl (sg (fndM f (rChange r pp w v)) 8)))]] (ansR (rChange r pp w v))) 0 0 (inB [[mObj am q], [(am 1, .inl (E.2.1, 77, .inl (sg r 77)))], [(am 4, .inl (E.2.1, 8, .inl (sg f 8)))]]) := by
  refine M_mk RX5 (by decide) rfl (Nat.le_of_ble_eq_true rfl) ?_
  intro p e s m below meth c S hr hlk hK hP hD hS ls hl
  have hl : lv_has ls 4 [(0, .ref (am 0)), (1, .int pp), (2, .int w), (3, .int v)] := hl
  obtain ⟨n, d, hn, hn8, hd, hd5, ho, hso, hli, hsp, hpt⟩ := id hR
  obtain ⟨H, hH⟩ : ∃ z, z = s.heap := ⟨_, rfl⟩
  obtain ⟨locs, hlocs⟩ : ∃ z : List Loc, z = [] := ⟨_, rfl⟩
  have hP : PE E [[mObj am q], [(am 1, .inl (E.2.1, 77, .inl (sg r 77)))], [(am 4, .inl (E.2.1, 8, .inl (sg f 8)))]] H := by rw [hH]; exact hP
  have hS : va_S (inB [[mObj am q], [(am 1, .inl (E.2.1, 77, .inl (sg r 77)))], [(am 4, .inl (E.2.1, 8, .inl (sg f 8)))]]) s.heap H locs := by rw [hH, hlocs]; exact hS
  show W p l e ({ frames := 3, cells := 0, slots := 0, locals := 63 }) s m ([.ref (am 0), .int pp, .int w, .int v] : List Value).toArray below meth c s.heap [] 0 0 _ _
  suffices hgo : W p l e ({ frames := 3, cells := 0, slots := 0, locals := 63 }) s m ([.ref (am 0), .int pp, .int w, .int v] : List Value).toArray below meth c H locs 0 0 (MQ below (qI E [[mObj am q], [(am 1, .inl (E.2.1, 77, .inl (sg r 77)))], [(am 4, .inl (E.2.1, 8, .inl (sg f 8)))]] [[mObj am q], [(am 1, .inl (E.2.1, 77, .inl (sg (rowR r (rChange r pp w v)) 77)))], [(am 4, .inl (E.2.1, 8, .inl (sg (fndM f (rChange r pp w v)) 8)))]] (ansR (rChange r pp w v))) ([.ref (am 0), .int pp, .int w, .int v] : List Value).toArray s 0 0 (inB [[mObj am q], [(am 1, .inl (E.2.1, 77, .inl (sg r 77)))], [(am 4, .inl (E.2.1, 8, .inl (sg f 8)))]])) (F0 m 0 ls []) by rw [hH, hlocs] at hgo; exact hgo
  clear hH hlocs
  refine lv_aload_n S.1 S.2.1 dX5_change_0 rfl (lv_at hl 0 rfl) ?_
  refine lv_iload_n S.1 S.2.1 dX5_change_1 rfl (lv_at hl 1 rfl) ?_
  refine go_S (run_V (As := [.int pp]) (rest := []) (n := 1) S hK (bl_P hP [0, 1] rfl) (bl_D hD [0, 1] rfl rfl) (c_X5_isPotter l E am q r pp n hn hn8) gV_X5_122 (by decide +kernel) rfl ⟨rfl, rfl⟩ ⟨Nat.le_of_ble_eq_true rfl, Nat.le_of_ble_eq_true rfl⟩ (ci := 5) (q0 := 0) rfl rfl hl.1 (Nat.le_of_ble_eq_true rfl) dX5_change_2 ⟨Nat.zero_le _, Nat.zero_le _⟩) ?_
  refine b_ifeq (tgt := 29) S.1 S.2.1 dX5_change_5 (by decide) (fun c_5 => ?_) (fun c_5 => ?_)
  · refine lv_aload_n S.1 S.2.1 dX5_change_29 rfl (lv_at hl 0 rfl) ?_
    refine lv_ldc (v := (-1000001)) S.1 S.2.1 S.2.2.2.1 (S.2.2.2.2 _ (List.mem_cons_of_mem _ kk_X5_60)) dX5_change_30 ?_
    refine go_I (run_V (As := [.int (-1000001)]) (rest := []) (n := 1) S hK (bl_P hP [0, 2] rfl) (bl_D hD [0, 2] rfl rfl) (c_X5_finding l E am q f (-1000001) 0 (by decide) (by decide)) gV_X5_66 (by decide +kernel) rfl ⟨rfl, rfl⟩ ⟨Nat.le_of_ble_eq_true rfl, Nat.le_of_ble_eq_true rfl⟩ (ci := 5) (q0 := 0) rfl rfl hl.1 (Nat.le_of_ble_eq_true rfl) dX5_change_32 ⟨Nat.zero_le _, Nat.zero_le _⟩) hP hD hS [0, 2] rfl (had_cons rfl (had_cons cell_ad rfl)) (Bs' := [[mObj am q], [(am 1, .inl (E.2.1, 77, .inl (sg r 77)))], [(am 4, .inl (E.2.1, 8, .inl (sg (findM f 0) 8)))]]) rfl (fun H locs hP hD hS => ?_)
    obtain ⟨r_32, er_32⟩ : ∃ z : Row, z = findM f 0 := ⟨_, rfl⟩
    rw [← er_32] at hP hD
    exact retI S hr hlk (by have e9 : rChange r pp w v = .inl 0 := (by unfold rChange; rw [if_neg c_5]); rw [er_32] at hP; rw [e9]; exact hP) hS (by have e9 : rChange r pp w v = .inl 0 := (by unfold rChange; rw [if_neg c_5]); rw [e9]; decide) dX5_change_35
  · obtain ⟨k_pp, hk_pp, ek_pp⟩ := pot_nat c_5 hn (by omega)
    refine lv_iload_n S.1 S.2.1 dX5_change_8 rfl (lv_at hl 2 rfl) ?_
    refine lv_iload_n S.1 S.2.1 dX5_change_9 rfl (lv_at hl 3 rfl) ?_
    refine go_S (run_S (As := [.int w, .int v]) (rest := []) (n := 2) S hK (bl_P hP [] rfl) (bl_D hD [] rfl rfl) (c_X5_isField l E w v ) gS_X5_128 (by decide +kernel) rfl ⟨rfl, rfl⟩ ⟨Nat.le_of_ble_eq_true rfl, Nat.le_of_ble_eq_true rfl⟩ hl.1 (Nat.le_of_ble_eq_true rfl) dX5_change_10 ⟨Nat.zero_le _, Nat.zero_le _⟩) ?_
    refine lv_if_eq (tgt := 29) S.1 S.2.1 dX5_change_13 (by decide) (fun c_13 => ?_) (fun c_13 => ?_)
    · refine lv_aload_n S.1 S.2.1 dX5_change_29 rfl (lv_at hl 0 rfl) ?_
      refine lv_ldc (v := (-1000001)) S.1 S.2.1 S.2.2.2.1 (S.2.2.2.2 _ (List.mem_cons_of_mem _ kk_X5_60)) dX5_change_30 ?_
      refine go_I (run_V (As := [.int (-1000001)]) (rest := []) (n := 1) S hK (bl_P hP [0, 2] rfl) (bl_D hD [0, 2] rfl rfl) (c_X5_finding l E am q f (-1000001) 0 (by decide) (by decide)) gV_X5_66 (by decide +kernel) rfl ⟨rfl, rfl⟩ ⟨Nat.le_of_ble_eq_true rfl, Nat.le_of_ble_eq_true rfl⟩ (ci := 5) (q0 := 0) rfl rfl hl.1 (Nat.le_of_ble_eq_true rfl) dX5_change_32 ⟨Nat.zero_le _, Nat.zero_le _⟩) hP hD hS [0, 2] rfl (had_cons rfl (had_cons cell_ad rfl)) (Bs' := [[mObj am q], [(am 1, .inl (E.2.1, 77, .inl (sg r 77)))], [(am 4, .inl (E.2.1, 8, .inl (sg (findM f 0) 8)))]]) rfl (fun H locs hP hD hS => ?_)
      obtain ⟨r_32_1, er_32_1⟩ : ∃ z : Row, z = findM f 0 := ⟨_, rfl⟩
      rw [← er_32_1] at hP hD
      exact retI S hr hlk (by have e9 : rChange r pp w v = .inl 0 := (by unfold rChange; rw [if_pos c_5, if_pos c_13]); rw [er_32_1] at hP; rw [e9]; exact hP) hS (by have e9 : rChange r pp w v = .inl 0 := (by unfold rChange; rw [if_pos c_5, if_pos c_13]); rw [e9]; decide) dX5_change_35
    · obtain ⟨k_w, hk_w, ek_w, hb_w⟩ := fld_nat c_13
      refine lv_aload_n S.1 S.2.1 dX5_change_16 rfl (lv_at hl 0 rfl) ?_
      refine lv_iload_n S.1 S.2.1 dX5_change_17 rfl (lv_at hl 1 rfl) ?_
      refine lv_eqi (y := nI k_pp) ek_pp ?_
      refine lv_iload_n S.1 S.2.1 dX5_change_18 rfl (lv_at hl 2 rfl) ?_
      refine lv_eqi (y := nI k_w) ek_w ?_
      refine go_S (run_S (As := [.int (nI k_pp), .int (nI k_w)]) (rest := [.ref (am 0)]) (n := 2) S hK (bl_P hP [] rfl) (bl_D hD [] rfl rfl) (c_X5_potterAt l E k_pp k_w ) gS_X5_82 (by decide +kernel) rfl ⟨rfl, rfl⟩ ⟨Nat.le_of_ble_eq_true rfl, Nat.le_of_ble_eq_true rfl⟩ hl.1 (Nat.le_of_ble_eq_true rfl) dX5_change_19 ⟨Nat.zero_le _, Nat.zero_le _⟩) ?_
      refine lv_iload_n S.1 S.2.1 dX5_change_22 rfl (lv_at hl 3 rfl) ?_
      refine go_I (run_V (As := [.int (nI (21 + 7 * k_pp + k_w)), .int v]) (rest := []) (n := 2) S hK (bl_P hP [0, 1] rfl) (bl_D hD [0, 1] rfl rfl) (c_X5_become l E am q r (21 + 7 * k_pp + k_w) v (by omega)) gV_X5_78 (by decide +kernel) rfl ⟨rfl, rfl⟩ ⟨Nat.le_of_ble_eq_true rfl, Nat.le_of_ble_eq_true rfl⟩ (ci := 5) (q0 := 0) rfl rfl hl.1 (Nat.le_of_ble_eq_true rfl) dX5_change_23 ⟨Nat.zero_le _, Nat.zero_le _⟩) hP hD hS [0, 1] rfl (had_cons rfl (had_cons cell_ad rfl)) (Bs' := [[mObj am q], [(am 1, .inl (E.2.1, 77, .inl (sg (upd r (21 + 7 * k_pp + k_w) v) 77)))], [(am 4, .inl (E.2.1, 8, .inl (sg f 8)))]]) rfl (fun H locs hP hD hS => ?_)
      obtain ⟨r_23, er_23⟩ : ∃ z : Row, z = upd r (21 + 7 * k_pp + k_w) v := ⟨_, rfl⟩
      rw [← er_23] at hP hD
      refine lv_goto (tgt := 35) S.1 S.2.1 dX5_change_26 (by decide) ?_
      exact retI S hr hlk (by have e9 : rChange r pp w v = .inr (r_23, r (21 + 7 * k_pp + k_w)) := (by unfold rChange; rw [if_pos c_5, if_neg c_13, ek_pp, ek_w, tN_nI (by omega), tN_nI (by omega), er_23]); rw [e9]; exact hP) hS (by have e9 : rChange r pp w v = .inr (r_23, r (21 + 7 * k_pp + k_w)) := (by unfold rChange; rw [if_pos c_5, if_neg c_13, ek_pp, ek_w, tN_nI (by omega), tN_nI (by omega), er_23]); rw [e9]; rfl) dX5_change_35
