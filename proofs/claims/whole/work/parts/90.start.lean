/-! the law's start: the premise's leaves, the texts, the classes -/
def rfC : Cond → List Cond → List Cond
  | .and a b, acc => rfC a (rfC b acc)
  | c, acc => c :: acc
theorem rfC_of {args : Array Value} {s : State} (T : Cond) : ∀ acc : List Cond, T.before args s = true → (∀ c ∈ acc, c.before args s = true) → ∀ c ∈ rfC T acc, c.before args s = true := by
  induction T with
  | and a b iha ihb =>
    intro acc h hacc
    rw [Cond.before_and, Bool.and_eq_true] at h
    exact iha _ h.1 (ihb _ h.2 hacc)
  | _ =>
    intro acc h hacc c hc
    rcases List.mem_cons.mp hc with rfl | h9
    · exact h
    · exact hacc _ h9
def leaves : List Cond := rfC (Jvm.Cond.and given_1 narrow_1) []
theorem lf_of {args : Array Value} {s : State} (h : (Jvm.Cond.and given_1 narrow_1).before args s = true) : ∀ w ∈ leaves, w.before args s = true := rfC_of _ [] h (fun _ h => absurd h List.not_mem_nil)
def atS (o : String) (k : Nat) (bs : List Int32) : List Cond := [Cond.exactly (.string o k) "java/lang/String", Cond.eq (.field (.string o k) "java/lang/String" "coder" "B") (.int 0), Cond.arrayOf (.field (.string o k) "java/lang/String" "value" "[B") .byte, Cond.eq (.length (.field (.string o k) "java/lang/String" "value" "[B")) (.int (Int32.ofNat bs.length))] ++ (List.range bs.length).map (fun j => Cond.eq (.elem (.field (.string o k) "java/lang/String" "value" "[B") (.int (Int32.ofNat j))) (.int (bs.getD j 0)))
theorem sA_of {args : Array Value} {s : State} {o : String} {k : Nat} {bs : List Int32} {A : Nat → Prop} (hN : bs.length < 2 ^ 31) (h : ∀ w ∈ atS o k bs, w.before args s = true) (hA : ∀ a : Nat, a < s.heap.size → ¬ A a) : ∃ a : Nat, (Term.string o k).eval args s none [] s = some (.ref a) ∧ sA a bs A s s.heap := by
  have hex : (Cond.exactly (.string o k) "java/lang/String").before args s = true := h _ (List.mem_append_left _ (List.mem_of_getElem? (i := 0) rfl))
  have hco : (Cond.eq (.field (.string o k) "java/lang/String" "coder" "B") (.int 0)).before args s = true := h _ (List.mem_append_left _ (List.mem_of_getElem? (i := 1) rfl))
  have har : (Cond.arrayOf (.field (.string o k) "java/lang/String" "value" "[B") .byte).before args s = true := h _ (List.mem_append_left _ (List.mem_of_getElem? (i := 2) rfl))
  have hle : (Cond.eq (.length (.field (.string o k) "java/lang/String" "value" "[B")) (.int (Int32.ofNat bs.length))).before args s = true := h _ (List.mem_append_left _ (List.mem_of_getElem? (i := 3) rfl))
  have hel : ∀ j : Nat, j < bs.length → (Cond.eq (.elem (.field (.string o k) "java/lang/String" "value" "[B") (.int (Int32.ofNat j))) (.int (bs.getD j 0))).before args s = true := fun j hj => h _ (List.mem_append_right _ (List.mem_map.mpr ⟨j, List.mem_range.mpr hj, rfl⟩))
  obtain ⟨a, c, cA, kA, q1, q2, q3, q4, q5, q6, -⟩ := Cond.exactly_spec (args := args) (first := s) (o := none) (s := s) (idx := []) (t := .string o k) (cls := "java/lang/String") hex
  obtain ⟨t, ht, hT⟩ := va_Tof (f := fun j => .int (bs.getD j 0)) (A := A) hN har (va_eqt hle) (fun j hj => va_eqt (hel j hj)) hA
  exact ⟨a, q1, ⟨cA, q3, q5, by rw [q6]; exact q2, hA a (Array.getElem?_eq_some_iff.mp q3).1⟩, vk_OFof q1 (va_eqt hco) hA, t, vk_OFof q1 ht hA, hT⟩
theorem st_0 : (leaves.drop 121).take 10 = atS RX2 113 (tW 0) := by decide +kernel
theorem st_1 : (leaves.drop 43).take 9 = atS RX2 101 (tW 1) := by decide +kernel
theorem st_2 : (leaves.drop 54).take 7 = atS RX2 103 (tW 2) := by decide +kernel
theorem st_3 : (leaves.drop 64).take 11 = atS RX2 105 (tW 3) := by decide +kernel
theorem st_4 : (leaves.drop 79).take 8 = atS RX2 107 (tW 4) := by decide +kernel
theorem st_5 : (leaves.drop 92).take 9 = atS RX2 109 (tW 5) := by decide +kernel
theorem st_6 : (leaves.drop 107).take 7 = atS RX2 111 (tW 6) := by decide +kernel
theorem st_7 : (leaves.drop 139).take 9 = atS RX2 115 (tW 7) := by decide +kernel
theorem st_8 : (leaves.drop 157).take 9 = atS RX2 117 (tW 8) := by decide +kernel
theorem st_9 : (leaves.drop 176).take 7 = atS RX2 119 (tW 9) := by decide +kernel
theorem st_10 : (leaves.drop 21).take 11 = atS RX2 38 (tW 10) := by decide +kernel
theorem st_11 : (leaves.drop 32).take 10 = atS RX2 47 (tW 11) := by decide +kernel
theorem st_12 : (leaves.drop 194).take 10 = atS RX5 27 (tW 0) := by decide +kernel
theorem st_13 : (leaves.drop 216).take 9 = atS RX5 29 (tW 1) := by decide +kernel
theorem st_14 : (leaves.drop 238).take 7 = atS RX5 31 (tW 2) := by decide +kernel
theorem st_15 : (leaves.drop 259).take 11 = atS RX5 33 (tW 3) := by decide +kernel
theorem st_16 : (leaves.drop 285).take 8 = atS RX5 35 (tW 4) := by decide +kernel
theorem st_17 : (leaves.drop 309).take 9 = atS RX5 37 (tW 5) := by decide +kernel
theorem st_18 : (leaves.drop 335).take 7 = atS RX5 39 (tW 6) := by decide +kernel
theorem st_19 : (leaves.drop 360).take 9 = atS RX5 268 (tW 7) := by decide +kernel
theorem st_20 : (leaves.drop 388).take 9 = atS RX5 276 (tW 8) := by decide +kernel
theorem st_21 : (leaves.drop 417).take 7 = atS RX5 278 (tW 9) := by decide +kernel
theorem st_22 : (leaves.drop 445).take 11 = atS RX5 287 (tW 10) := by decide +kernel
theorem st_23 : (leaves.drop 478).take 10 = atS RX5 292 (tW 11) := by decide +kernel
theorem lf_cs : Cond.eq (.static "java/lang/String" "COMPACT_STRINGS" "Z") (.int 1) ∈ leaves := List.mem_of_getElem? (i := 4) (by decide +kernel)
theorem lf_sf : Cond.isRef (.static "jdk/internal/util/Preconditions" "SIOOBE_FORMATTER" "Ljava/util/function/BiFunction;") ∈ leaves := List.mem_of_getElem? (i := 5) (by decide +kernel)
theorem tb1 {w : Cond} (h : w ∈ tables_1_1) : w ∈ lw_tbl := List.mem_append_right _ (List.mem_append_left _ h)
theorem tb2 {w : Cond} (h : w ∈ tables_1_2) : w ∈ lw_tbl := List.mem_append_right _ (List.mem_append_right _ (List.mem_append_left _ h))
theorem tb3 {w : Cond} (h : w ∈ tables_1_3) : w ∈ lw_tbl := List.mem_append_right _ (List.mem_append_right _ (List.mem_append_right _ (List.mem_append_left _ h)))
theorem tb4 {w : Cond} (h : w ∈ tables_1_4) : w ∈ lw_tbl := List.mem_append_right _ (List.mem_append_right _ (List.mem_append_right _ (List.mem_append_right _ (List.mem_append_left _ h))))
theorem tb5 {w : Cond} (h : w ∈ tables_1_5) : w ∈ lw_tbl := List.mem_append_right _ (List.mem_append_right _ (List.mem_append_right _ (List.mem_append_right _ (List.mem_append_right _ (h)))))
theorem st_use {args : Array Value} {s : State} (h : ∀ w ∈ leaves, w.before args s = true) {k n : Nat} {l : List Cond} (e : (leaves.drop k).take n = l) : ∀ w ∈ l, w.before args s = true := fun w hw => h w (List.mem_of_mem_drop (List.mem_of_mem_take (by rw [e]; exact hw)))
theorem st_all {args : Array Value} {s : State} (h : ∀ w ∈ leaves, w.before args s = true) : ∀ q ∈ poolL, ∀ w ∈ atS q.1 q.2.1 (tW (q.2.2.2 % 12)), w.before args s = true := List.forall_mem_cons.mpr ⟨st_use h st_0, List.forall_mem_cons.mpr ⟨st_use h st_1, List.forall_mem_cons.mpr ⟨st_use h st_2, List.forall_mem_cons.mpr ⟨st_use h st_3, List.forall_mem_cons.mpr ⟨st_use h st_4, List.forall_mem_cons.mpr ⟨st_use h st_5, List.forall_mem_cons.mpr ⟨st_use h st_6, List.forall_mem_cons.mpr ⟨st_use h st_7, List.forall_mem_cons.mpr ⟨st_use h st_8, List.forall_mem_cons.mpr ⟨st_use h st_9, List.forall_mem_cons.mpr ⟨st_use h st_10, List.forall_mem_cons.mpr ⟨st_use h st_11, List.forall_mem_cons.mpr ⟨st_use h st_12, List.forall_mem_cons.mpr ⟨st_use h st_13, List.forall_mem_cons.mpr ⟨st_use h st_14, List.forall_mem_cons.mpr ⟨st_use h st_15, List.forall_mem_cons.mpr ⟨st_use h st_16, List.forall_mem_cons.mpr ⟨st_use h st_17, List.forall_mem_cons.mpr ⟨st_use h st_18, List.forall_mem_cons.mpr ⟨st_use h st_19, List.forall_mem_cons.mpr ⟨st_use h st_20, List.forall_mem_cons.mpr ⟨st_use h st_21, List.forall_mem_cons.mpr ⟨st_use h st_22, List.forall_mem_cons.mpr ⟨st_use h st_23, (fun _ h => absurd h List.not_mem_nil)⟩⟩⟩⟩⟩⟩⟩⟩⟩⟩⟩⟩⟩⟩⟩⟩⟩⟩⟩⟩⟩⟩⟩⟩
theorem sr_in : ∀ q ∈ poolL, Cond.stringRef q.1 q.2.1 q.2.2.1 ∈ lw_tbl := List.forall_mem_cons.mpr ⟨tb3 (List.mem_of_getElem? (i := 85) rfl), List.forall_mem_cons.mpr ⟨tb3 (List.mem_of_getElem? (i := 79) rfl), List.forall_mem_cons.mpr ⟨tb3 (List.mem_of_getElem? (i := 80) rfl), List.forall_mem_cons.mpr ⟨tb3 (List.mem_of_getElem? (i := 81) rfl), List.forall_mem_cons.mpr ⟨tb3 (List.mem_of_getElem? (i := 82) rfl), List.forall_mem_cons.mpr ⟨tb3 (List.mem_of_getElem? (i := 83) rfl), List.forall_mem_cons.mpr ⟨tb3 (List.mem_of_getElem? (i := 84) rfl), List.forall_mem_cons.mpr ⟨tb3 (List.mem_of_getElem? (i := 95) rfl), List.forall_mem_cons.mpr ⟨tb3 (List.mem_of_getElem? (i := 96) rfl), List.forall_mem_cons.mpr ⟨tb3 (List.mem_of_getElem? (i := 97) rfl), List.forall_mem_cons.mpr ⟨tb3 (List.mem_of_getElem? (i := 6) rfl), List.forall_mem_cons.mpr ⟨tb3 (List.mem_of_getElem? (i := 67) rfl), List.forall_mem_cons.mpr ⟨tb3 (List.mem_of_getElem? (i := 180) rfl), List.forall_mem_cons.mpr ⟨tb3 (List.mem_of_getElem? (i := 181) rfl), List.forall_mem_cons.mpr ⟨tb3 (List.mem_of_getElem? (i := 182) rfl), List.forall_mem_cons.mpr ⟨tb3 (List.mem_of_getElem? (i := 183) rfl), List.forall_mem_cons.mpr ⟨tb3 (List.mem_of_getElem? (i := 184) rfl), List.forall_mem_cons.mpr ⟨tb3 (List.mem_of_getElem? (i := 185) rfl), List.forall_mem_cons.mpr ⟨tb3 (List.mem_of_getElem? (i := 186) rfl), List.forall_mem_cons.mpr ⟨tb5 (List.mem_of_getElem? (i := 83) rfl), List.forall_mem_cons.mpr ⟨tb5 (List.mem_of_getElem? (i := 92) rfl), List.forall_mem_cons.mpr ⟨tb5 (List.mem_of_getElem? (i := 93) rfl), List.forall_mem_cons.mpr ⟨tb5 (List.mem_of_getElem? (i := 98) rfl), List.forall_mem_cons.mpr ⟨tb5 (List.mem_of_getElem? (i := 103) rfl), (fun _ h => absurd h List.not_mem_nil)⟩⟩⟩⟩⟩⟩⟩⟩⟩⟩⟩⟩⟩⟩⟩⟩⟩⟩⟩⟩⟩⟩⟩⟩
theorem lt_cs : Cond.laysStatic "java/lang/String" "COMPACT_STRINGS" "Z" ∈ lw_tbl := tb3 (List.mem_of_getElem? (i := 20) rfl)
theorem lt_sf : Cond.laysStatic "jdk/internal/util/Preconditions" "SIOOBE_FORMATTER" "Ljava/util/function/BiFunction;" ∈ lw_tbl := tb3 (List.mem_of_getElem? (i := 36) rfl)
theorem nt_cs : Cond.initialized "java/lang/String" ∈ lw_tbl := tb1 (List.mem_of_getElem? (i := 10) rfl)
theorem nt_sf : Cond.initialized "jdk/internal/util/Preconditions" ∈ lw_tbl := tb1 (List.mem_of_getElem? (i := 12) rfl)
theorem ao_P : Cond.arrayOver (.object "WeatherGlaze$Potter") ∈ lw_tbl := tb1 (List.mem_of_getElem? (i := 29) rfl)
theorem ao_S : Cond.arrayOver (.object "WeatherGlaze$Sheet") ∈ lw_tbl := tb1 (List.mem_of_getElem? (i := 108) rfl)
theorem ao_T : Cond.arrayOver (.object "java/lang/String") ∈ lw_tbl := tb3 (List.mem_of_getElem? (i := 179) rfl)
theorem nest_in : Cond.methodLinkNest RX2 89 yX4_mostOf RX4 ∈ lw_tbl := tb3 (List.mem_of_getElem? (i := 98) rfl)
def aS0 (args : Array Value) (s : State) (j : Nat) : Nat := match poolL[j]? with
  | none => 0
  | some q => match (Term.string q.1 q.2.1).eval args s none [] s with
    | some (.ref a) => a
    | _ => 0
theorem aS0_eq {args : Array Value} {s : State} {j a : Nat} {q : String × Nat × String × Nat} (hq : poolL[j]? = some q) (h : (Term.string q.1 q.2.1).eval args s none [] s = some (.ref a)) : aS0 args s j = a := by
  unfold aS0
  simp only [hq, h]
theorem pl_ix : ∀ j : Nat, (hj : j < 24) → (poolL[j]'hj).2.2.2 = j := by decide +kernel
theorem st_S {args : Array Value} {s : State} {A : Nat → Prop} (h : ∀ w ∈ leaves, w.before args s = true) (hA : ∀ a : Nat, a < s.heap.size → ¬ A a) : ∀ j : Nat, (hj : j < 24) → (Term.string (poolL[j]'hj).1 (poolL[j]'hj).2.1).eval args s none [] s = some (.ref (aS0 args s j)) ∧ sA (aS0 args s j) (tW (j % 12)) A s s.heap := by
  intro j hj
  have hb := st_all h (poolL[j]'hj) (List.getElem_mem hj)
  rw [pl_ix j hj] at hb
  obtain ⟨a, h1, h2⟩ := sA_of (A := A) (Nat.lt_of_le_of_lt (tW_len (j % 12) (Nat.mod_lt _ (by decide))).2 (by decide)) hb hA
  rw [aS0_eq (List.getElem?_eq_getElem hj) h1]
  exact ⟨h1, h2⟩
theorem st_X {args : Array Value} {s : State} {A : Nat → Prop} (hts : ∀ w ∈ lw_tbl, w.before args s = true) (hg : (Jvm.Cond.and given_1 narrow_1).before args s = true) (hA : ∀ a : Nat, a < s.heap.size → ¬ A a) : XN (aS0 args s) A s s.heap := by
  have h := lf_of hg
  have hS := st_S (A := A) h hA
  refine ⟨⟨va_AO.of (hts _ ao_P), va_AO.of (hts _ ao_S), va_AO.of (hts _ ao_T)⟩, ⟨va_Zof (hts _ lt_cs) (hts _ nt_cs) (va_eqi (h _ lf_cs)) hA, va_Zqof (hts _ lt_sf) (hts _ nt_sf) (h _ lf_sf) hA⟩, fun i hi => ⟨?_, ?_⟩, fun q hq => ?_, va_Nw.of rfl (hts _ nest_in)⟩
  · have h1 := (hS i (by omega)).2
    rw [Nat.mod_eq_of_lt hi] at h1
    exact h1
  · have h1 := (hS (12 + i) (by omega)).2
    rw [Nat.add_mod_left, Nat.mod_eq_of_lt hi] at h1
    exact h1
  · obtain ⟨j, hj, rfl⟩ := List.getElem_of_mem hq
    have hj2 : j < 24 := hj
    refine vk_R.of (hts _ (sr_in _ hq)) ?_
    rw [show (poolL[j]'hj).2.2.2 = j from pl_ix j hj2]
    exact (hS j hj2).1
theorem st_K {args : Array Value} {s : State} (hts : ∀ w ∈ GW, w.before args s = true) (ho : XA s) : ∃ E : EV, KE E s := by
  obtain ⟨c0, i0, h0⟩ := u_known (C := RX0) (T := TX0) (N := 8) (n := 8) hts inX0 (hts _ tk_X0)
  obtain ⟨c1, i1, h1⟩ := u_known (C := RX1) (T := TX1) (N := 7) (n := 7) hts inX1 (hts _ tk_X1)
  obtain ⟨c2, i2, h2⟩ := u_known (C := RX2) (T := TX2) (N := 6) (n := 6) hts inX2 (hts _ tk_X2)
  obtain ⟨c3, i3, h3⟩ := u_known (C := RX3) (T := TX3) (N := 3) (n := 3) hts inX3 (hts _ tk_X3)
  obtain ⟨c4, i4, h4⟩ := u_known (C := RX4) (T := TX4) (N := 7) (n := 7) hts inX4 (hts _ tk_X4)
  obtain ⟨c5, i5, h5⟩ := u_known (C := RX5) (T := TX5) (N := 22) (n := 22) hts inX5 (hts _ tk_X5)
  obtain ⟨cI, kI, oI, a1, a2, a3⟩ := Cond.arrayClass_spec (hts _ ak_int)
  obtain ⟨cB, kB, oB, b1, b2, b3⟩ := Cond.arrayClass_spec (hts _ ak_byte)
  obtain ⟨oP, cP, kP, p1, p2, p3, p4, p5⟩ := Cond.arrayOver_spec ho.1
  obtain ⟨oS, cS, kS, q1, q2, q3, q4, q5⟩ := Cond.arrayOver_spec ho.2.1
  obtain ⟨oT, cT, kT, t1, t2, t3, t4, t5⟩ := Cond.arrayOver_spec ho.2.2
  refine ⟨((fun k => match k with | 0 => c0 | 1 => c1 | 2 => c2 | 3 => c3 | 4 => c4 | _ => c5, fun k => match k with | 0 => i0 | 1 => i1 | 2 => i2 | 3 => i3 | 4 => i4 | _ => i5), cI, cB, cP, cS, cT), fun k q hq => ?_, fun k q hq => ?_⟩
  · match k, hq with
    | 0, hq => cases hq; exact h0
    | 1, hq => cases hq; exact h1
    | 2, hq => cases hq; exact h2
    | 3, hq => cases hq; exact h3
    | 4, hq => cases hq; exact h4
    | 5, hq => cases hq; exact h5
    | k + 6, hq => simp [vwCl] at hq
  · match k, hq with
    | 0, hq => cases hq; exact ⟨fun N z => ⟨fun k h => (by cases h), kI, a2, oI, a3⟩, a1⟩
    | 1, hq => cases hq; exact ⟨fun N z => ⟨fun k h => (by cases h), kB, b2, oB, b3⟩, b1⟩
    | 2, hq => cases hq; exact ⟨fun N z => ⟨fun k h => (by cases h), kP, p3, oP, p4⟩, kP, oP, p3, p4, p1, p5⟩
    | 3, hq => cases hq; exact ⟨fun N z => ⟨fun k h => (by cases h), kS, q3, oS, q4⟩, kS, oS, q3, q4, q1, q5⟩
    | 4, hq => cases hq; exact ⟨fun N z => ⟨fun k h => (by cases h), kT, t3, oT, t4⟩, kT, oT, t3, t4, t1, t5⟩
    | k + 5, hq => simp [tyE] at hq
theorem inv_0 : Inv 0 r0H r0H z0 z0 z0 0 z0 r0M z0 z0 z0 := by
  have hc : cntN r0H = 0 := by decide +kernel
  have hR : RI r0H := by
    refine ⟨0, 0, rfl, by omega, rfl, by omega, ⟨0, by omega, rfl⟩, ⟨0, by omega, rfl⟩, fun j hj => ⟨0, by omega, ?_⟩, fun j hj => Or.inl ?_, fun i hi => absurd hi (Nat.not_lt_zero i)⟩
    · unfold r0H
      rw [if_neg (by omega), if_neg (by omega), if_pos (by omega)]
      rfl
    · unfold r0H
      rw [if_neg (by omega), if_pos (by omega)]
  refine ⟨fun j hj => ?_, hR, hR, fun h => absurd rfl h, rfl, fun j hj => ⟨0, by omega, rfl⟩, by omega, rfl, fun j hj => absurd hj (Nat.not_lt_zero j), fun j hj => rfl, by decide +kernel⟩
  rw [hc] at hj
  unfold r0H r0M
  by_cases h1 : j = 2
  · rw [if_pos h1, if_pos h1]
  · rw [if_neg h1, if_neg h1]
    by_cases h2 : 11 ≤ j ∧ j < 21
    · rw [if_pos h2, if_pos h2]
    · rw [if_neg h2, if_neg h2, if_pos (by omega)]
