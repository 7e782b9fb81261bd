/-! the class's reading against the reference's -/
def XY (Y : Ys) (w : Int32) : Xs := (Y.1, Y.2.1, sM Y.2.2.1, Y.2.2.2, w)
def fl (b : Bool) : Int32 := match b with | true => 0 | false => 1
abbrev YJ (tp : Row) (len : Nat) (Y : Ys) : Prop := YI len Y ∧ Y.2.2.1 = srt (bt tp len Y.1) ∧ (¬ Y.2.2.1 = 0 → Y.1 < Y.2.1)
theorem sM_1 {s : Nat} (h : s ≤ 4) : sM s = 1 ↔ nI s = 1 := by
  match s, h with
  | 0, _ => decide
  | 1, _ => decide
  | 2, _ => decide
  | 3, _ => decide
  | 4, _ => decide
theorem sM_2 {s : Nat} (h : s ≤ 4) : sM s = 2 ↔ s = 2 := by
  match s, h with
  | 0, _ => decide
  | 1, _ => decide
  | 2, _ => decide
  | 3, _ => decide
  | 4, _ => decide
theorem sM_0 {s : Nat} (h : s ≤ 4) : sM s = 0 ↔ s = 0 := by
  match s, h with
  | 0, _ => decide
  | 1, _ => decide
  | 2, _ => decide
  | 3, _ => decide
  | 4, _ => decide
theorem sM_3 {s : Nat} (h : s ≤ 4) : sM s = 3 ↔ (s = 3 ∨ s = 4) := by
  match s, h with
  | 0, _ => decide
  | 1, _ => decide
  | 2, _ => decide
  | 3, _ => decide
  | 4, _ => decide
theorem nx_J {tp : Row} {len : Nat} {Y : Ys} (h : YI len Y) : YJ tp len (nx tp len Y) := by
  refine ⟨nx_Y h, tk_s, fun q => ?_⟩
  have h1 := (tk_I (tp := tp) 0 h.2.1).1.2.2.1
  refine h1 (fun z => q ?_)
  have h4 : (nx tp len Y).2.2.1 ≤ 4 := (nx_Y (tp := tp) h).2.2.2
  exact (sM_0 h4).mp z
theorem tk0_J {tp : Row} {len : Nat} : YJ tp len (tkF tp len 0) := nx_J (Y := (0, 0, 0, 0)) ⟨Nat.le_refl _, Nat.zero_le _, Nat.zero_le _, Nat.zero_le _⟩
theorem XY_I {tp : Row} {len : Nat} {Y : Ys} {w : Int32} (h : YJ tp len Y) : XI len (XY Y w) := ⟨h.1.1, h.1.2.1, fun q => h.2.2 (fun z => q ((sM_0 h.1.2.2.2).mpr z)), h.1.2.2.1⟩
theorem isX {tp : Row} {len : Nat} {Y : Ys} {w : Nat} (h : YI len Y) : isW tp Y.1 Y.2.1 (sM Y.2.2.1) w ↔ isY tp Y w := by
  have e := sM_1 h.2.2.2
  constructor
  · intro q
    exact isW_y (e.mp (isW_s q)) (isW_l q) (isW_m q)
  · intro q
    exact isW_y (e.mpr (isW_s q)) (isW_l q) (isW_m q)
theorem kw0 {tp : Row} {len : Nat} {Y : Ys} {w : Nat} (h : YI len Y) : kwP tp (XY Y 0) w ↔ isY tp Y w := ⟨fun q => (isX h).mp q.2, fun q => ⟨rfl, (isX h).mpr q⟩⟩
theorem kw1 {tp : Row} {Y : Ys} {w : Nat} : ¬ kwP tp (XY Y 1) w := fun q => absurd (show (1 : Int32) = 0 from q.1) (by decide)
theorem mst0 {tp : Row} {len : Nat} {Y : Ys} {x : Int32} (h : ¬ x = 0) : mstF tp len (XY Y 0) x = XY (nx tp len Y) 0 := if_pos ⟨rfl, h⟩
theorem mst0n {tp : Row} {len : Nat} {Y : Ys} : mstF tp len (XY Y 0) 0 = XY Y 1 := if_neg (fun q => q.2 rfl)
theorem mst1 {tp : Row} {len : Nat} {Y : Ys} {x : Int32} : mstF tp len (XY Y 1) x = XY Y 1 := if_neg (fun q => absurd (show (1 : Int32) = 0 from q.1) (by decide))
theorem kwF0 {tp : Row} {len : Nat} {Y : Ys} {w : Nat} (hY : YI len Y) (h : isY tp Y w) : kwF tp len (XY Y 0) w = XY (nx tp len Y) 0 := (if_pos ((kw0 hY).mpr h)).trans (mst0 (by decide))
theorem kwF0n {tp : Row} {len : Nat} {Y : Ys} {w : Nat} (hY : YI len Y) (h : ¬ isY tp Y w) : kwF tp len (XY Y 0) w = XY Y 0 := if_neg (fun q => h ((kw0 hY).mp q))
theorem kwF1 {tp : Row} {len : Nat} {Y : Ys} {w : Nat} : kwF tp len (XY Y 1) w = XY Y 1 := if_neg kw1
theorem num0 {tp : Row} {len M : Nat} {Y : Ys} {hi : Int32} (hY : YI len Y) (hM : hi = nI M) (hm : M ≤ 1000) (h : okY Y M) : numF tp len (XY Y 0) 0 hi = XY (nx tp len Y) 0 := by
  subst hM
  unfold numF
  rw [show bI ((XY Y 0).2.2.1 = 2 ∧ 0 ≤ nI (XY Y 0).2.2.2.1 ∧ nI (XY Y 0).2.2.2.1 ≤ nI M) = 1 from if_pos ⟨(sM_2 hY.2.2.2).mpr h.1, nI_pos' (Nat.lt_of_le_of_lt hY.2.2.1 (by decide)), nI_le h.2 (by omega)⟩]
  exact mst0 (by decide)
theorem num0n {tp : Row} {len M : Nat} {Y : Ys} {hi : Int32} (hY : YI len Y) (hM : hi = nI M) (hm : M ≤ 1000) (h : ¬ okY Y M) : numF tp len (XY Y 0) 0 hi = XY Y 1 := by
  subst hM
  unfold numF
  rw [show bI ((XY Y 0).2.2.1 = 2 ∧ 0 ≤ nI (XY Y 0).2.2.2.1 ∧ nI (XY Y 0).2.2.2.1 ≤ nI M) = 0 from if_neg (fun q => h ⟨(sM_2 hY.2.2.2).mp q.1, le_of_nI q.2.2 (Nat.lt_of_le_of_lt hY.2.2.1 (by decide)) (by omega)⟩)]
  exact mst0n
theorem num1 {tp : Row} {len : Nat} {Y : Ys} {lo hi : Int32} : numF tp len (XY Y 1) lo hi = XY Y 1 := mst1
theorem uq_all : ∀ i j : Fin 12, (tW i.val).length = (tW j.val).length → (∀ k : Fin 7, k.val < (tW i.val).length → chr ((tW i.val).getD k.val 0) = chr ((tW j.val).getD k.val 0)) → i = j := by decide +kernel
theorem isW_uq {tp : Row} {b e i j : Nat} {s : Int32} (hi : i < 12) (hj : j < 12) (h1 : isW tp b e s i) (h2 : isW tp b e s j) : i = j := by
  have hl : (tW i).length = (tW j).length := (isW_l h1).symm.trans (isW_l h2)
  have h := uq_all ⟨i, hi⟩ ⟨j, hj⟩ hl (fun k hk => (mt_at _ (isW_m h1) k.val hk).symm.trans (mt_at _ (isW_m h2) k.val (by rw [← hl]; exact hk)))
  exact congrArg Fin.val h
theorem kwN_no {tp : Row} {X : Xs} : ∀ n, (∀ k, k < n → ¬ isW tp X.1 X.2.1 X.2.2.1 k) → kwN tp X n = -1
  | 0, _ => rfl
  | n + 1, h => by
    rw [kwN, if_neg (h n (by omega))]
    exact kwN_no n (fun k hk => h k (by omega))
theorem kwN_is {tp : Row} {X : Xs} {k : Nat} (h : isW tp X.1 X.2.1 X.2.2.1 k) : ∀ n, k < n → n ≤ 12 → kwN tp X n = nI k
  | 0, h0, _ => absurd h0 (Nat.not_lt_zero _)
  | n + 1, h1, h2 => by
    rw [kwN]
    by_cases c : isW tp X.1 X.2.1 X.2.2.1 n
    · rw [if_pos c, isW_uq (by omega) (by omega) c h]
    · rw [if_neg c]
      have : k ≠ n := fun q => c (by rw [← q]; exact h)
      exact kwN_is h n (by omega) (by omega)
theorem kwC_is {tp : Row} {Y : Ys} {k : Nat} (hk : k < 7) (h : isY tp Y k) : kwC tp Y = nI k := by
  obtain ⟨b, e, s, v⟩ := Y
  exact kwC_y hk (fun j hj => decide_eq_false (fun q => by have := isW_uq (by omega) (by omega) q h; omega)) (decide_eq_true h)
theorem kwC_no {tp : Row} {Y : Ys} (h : ∀ k, k < 7 → ¬ isY tp Y k) : kwC tp Y = -1 := by
  obtain ⟨b, e, s, v⟩ := Y
  exact kwC_n (fun j hj => decide_eq_false (h j hj))
theorem kwC_cases (tp : Row) (Y : Ys) : (∃ k, k < 7 ∧ isY tp Y k ∧ kwC tp Y = nI k) ∨ ((∀ k, k < 7 → ¬ isY tp Y k) ∧ kwC tp Y = -1) := by
  by_cases c : ∃ k, k < 7 ∧ isY tp Y k
  · obtain ⟨k, hk, h⟩ := c
    exact Or.inl ⟨k, hk, h, kwC_is hk h⟩
  · have h : ∀ k, k < 7 → ¬ isY tp Y k := fun k hk q => c ⟨k, hk, q⟩
    exact Or.inr ⟨h, kwC_no h⟩
/-! items -/
theorem rw_rel {tp t : Row} {len : Nat} {Y : Ys} (hY : YI len Y) : (rdW tp len (XY (nx tp len Y) 0)).1 = XY (rwC tp len Y t).1 (fl (rwC tp len Y t).2.1) ∧ ((rwC tp len Y t).2.1 = true → (rwC tp len Y t).2.2 = upd t (5 + tN (rdW tp len (XY (nx tp len Y) 0)).2.1) (rdW tp len (XY (nx tp len Y) 0)).2.2) := by
  have h1 := nx_Y (tp := tp) hY
  have h2 := nx_Y (tp := tp) h1
  have h3 := nx_Y (tp := tp) h2
  unfold rdW rwC
  by_cases c1 : okY (nx tp len Y) 5
  · rw [if_pos c1, num0 h1 (M := 5) (hi := 5) rfl (by decide) c1]
    by_cases c2 : okY (nx tp len (nx tp len Y)) 9
    · rw [if_pos c2, num0 h2 (M := 9) (hi := 9) rfl (by decide) c2]
      by_cases c3 : okY (nx tp len (nx tp len (nx tp len Y))) 9
      · rw [if_pos c3, num0 h3 (M := 9) (hi := 9) rfl (by decide) c3]
        refine ⟨rfl, fun _ => ?_⟩
        show upd t (5 + (nx tp len Y).2.2.2) _ = upd t (5 + tN (nI (nx tp len Y).2.2.2)) _
        rw [tN_nI (Nat.lt_of_le_of_lt h1.2.2.1 (by decide))]
        rfl
      · rw [if_neg c3, num0n h3 (M := 9) (hi := 9) rfl (by decide) c3]
        exact ⟨rfl, fun q => absurd (show (false : Bool) = true from q) (by decide)⟩
    · rw [if_neg c2, num0n h2 (M := 9) (hi := 9) rfl (by decide) c2, num1]
      exact ⟨rfl, fun q => absurd (show (false : Bool) = true from q) (by decide)⟩
  · rw [if_neg c1, num0n h1 (M := 5) (hi := 5) rfl (by decide) c1, num1, num1]
    exact ⟨rfl, fun q => absurd (show (false : Bool) = true from q) (by decide)⟩
theorem ro_rel {tp t : Row} {len : Nat} {Y : Ys} (hY : YI len Y) : numF tp len (XY (nx tp len Y) 0) 0 99 = XY (roC tp len Y t).1 (fl (roC tp len Y t).2.1) ∧ ((roC tp len Y t).2.1 = true → (roC tp len Y t).2.2 = upd t 3 (nI (XY (nx tp len Y) 0).2.2.2.1)) := by
  have h1 := nx_Y (tp := tp) hY
  unfold roC
  by_cases c1 : okY (nx tp len Y) 99
  · rw [if_pos c1, num0 h1 (M := 99) (hi := 99) rfl (by decide) c1]
    exact ⟨rfl, fun _ => rfl⟩
  · rw [if_neg c1, num0n h1 (M := 99) (hi := 99) rfl (by decide) c1]
    exact ⟨rfl, fun q => absurd (show (false : Bool) = true from q) (by decide)⟩
theorem bnd_1000 {w : Nat} (h1 : 1 ≤ w) (h2 : w ≤ 3) : bnd w ≤ 1000 := by
  match w, h1, h2 with
  | 1, _, _ => decide
  | 2, _, _ => decide
  | 3, _, _ => decide
theorem det_rel {tp t : Row} {len i w : Nat} {Y : Ys} {b : Bool} {hi d : Int32} (hY : YI len Y) (h1 : 1 ≤ w) (h2 : w ≤ 3) (hh : hi = nI (bnd w)) : (optF tp len (XY Y (fl b)) (6 + w) hi d).1 = XY (detF tp len i (Y, b, t) w).1 (fl (detF tp len i (Y, b, t) w).2.1) ∧ ((detF tp len i (Y, b, t) w).2.1 = true → b = true ∧ (t (21 + 7 * i + w) = d → (detF tp len i (Y, b, t) w).2.2 = upd t (21 + 7 * i + w) (optF tp len (XY Y (fl b)) (6 + w) hi d).2)) := by
  have hb := bnd_1000 h1 h2
  have hn := nx_Y (tp := tp) hY
  unfold optF detF
  cases b with
  | false =>
    rw [if_neg (show ¬ kwP tp (XY Y (fl false)) (6 + w) from kw1), if_neg (show ¬ (false : Bool) = true by decide), show kwF tp len (XY Y (fl false)) (6 + w) = XY Y 1 from kwF1]
    exact ⟨rfl, fun q => absurd (show (false : Bool) = true from q) (by decide)⟩
  | true =>
    rw [if_pos (show (true : Bool) = true from rfl)]
    by_cases c : isY tp Y (6 + w)
    · rw [if_pos (show kwP tp (XY Y (fl true)) (6 + w) from (kw0 hY).mpr c), if_pos (show isY tp (Y, true, t).1 (6 + w) from c), show kwF tp len (XY Y (fl true)) (6 + w) = XY (nx tp len Y) 0 from kwF0 hY c]
      by_cases c2 : okY (nx tp len Y) (bnd w)
      · rw [if_pos (show okY (nx tp len (Y, true, t).1) (bnd w) from c2), num0 hn hh hb c2]
        exact ⟨rfl, fun _ => ⟨rfl, fun _ => rfl⟩⟩
      · rw [if_neg (show ¬ okY (nx tp len (Y, true, t).1) (bnd w) from c2), num0n hn hh hb c2]
        exact ⟨rfl, fun q => absurd (show (false : Bool) = true from q) (by decide)⟩
    · rw [if_neg (show ¬ kwP tp (XY Y (fl true)) (6 + w) from fun q => c ((kw0 hY).mp q)), if_neg (show ¬ isY tp (Y, true, t).1 (6 + w) from c), show kwF tp len (XY Y (fl true)) (6 + w) = XY Y 0 from kwF0n hY c]
      exact ⟨rfl, fun _ => ⟨rfl, fun e => by rw [← e]; exact upd_self.symm⟩⟩
theorem add_gr {t : Row} {k g : Int32} : upd (addF t k 10) (21 + 7 * cntN t + 1) g = addF t k g := funext fun j => by
  unfold addF
  unfold upd
  by_cases c1 : j = 21 + 7 * cntN t + 1
  · rw [if_pos c1, if_neg (by omega)]
    rw [c1, putP_at (f := 1) (by decide)]
    rfl
  · rw [if_neg c1]
    by_cases c2 : j = 1
    · rw [if_pos c2, if_pos c2]
    · rw [if_neg c2, if_neg c2]
      unfold putP
      by_cases c3 : 21 + 7 * cntN t ≤ j ∧ j < 21 + 7 * cntN t + 7
      · rw [if_pos c3, if_pos c3]
        obtain ⟨f, hf, e⟩ : ∃ f, f < 7 ∧ j - (21 + 7 * cntN t) = f := ⟨_, by omega, rfl⟩
        rw [e]
        match f, hf with
        | 0, _ => rfl
        | 1, _ => exact absurd (show j = 21 + 7 * cntN t + 1 by omega) c1
        | 2, _ => rfl
        | 3, _ => rfl
        | 4, _ => rfl
        | 5, _ => rfl
        | 6, _ => rfl
      · rw [if_neg c3, if_neg c3]
theorem add_2 {t : Row} {k g : Int32} : addF t k g (21 + 7 * cntN t + 2) = 2 := by
  unfold addF
  rw [upd_ne (by omega), putP_at (f := 2) (by decide)]
  rfl
theorem add_3 {t : Row} {k g : Int32} : addF t k g (21 + 7 * cntN t + 3) = 0 := by
  unfold addF
  rw [upd_ne (by omega), putP_at (f := 3) (by decide)]
  rfl
theorem add_1 {t : Row} {k g : Int32} : addF t k g (21 + 7 * cntN t + 1) = g := by
  unfold addF
  rw [upd_ne (by omega), putP_at (f := 1) (by decide)]
  rfl
theorem rdP_eq {tp : Row} {len pt : Nat} {X X0 : Xs} {o1 o2 o3 : Xs × Int32} (h0 : mstF tp len X (bI (nI pt < 8)) = X0) (h1 : o1 = optF tp len X0 7 99 10) (h2 : o2 = optF tp len o1.1 8 9 2) (h3 : o3 = optF tp len o2.1 9 999 0) : rdP tp len X pt = (o3.1, o1.2, o2.2, o3.2) := by
  subst h3; subst h2; subst h1; subst h0
  rfl
theorem pot_rel {tp t : Row} {len pt : Nat} {Y : Ys} {k : Int32} {P : Xs × Int32 × Int32 × Int32} {D : Ys × Bool × Row} (hY : YI len Y) (hp : pt < 8) (eP : P = rdP tp len (XY Y 0) pt) (eD : D = detN tp len (cntN t) (nx tp len Y, true, addF t k 10) 3) : P.1 = XY D.1 (fl D.2.1) ∧ (D.2.1 = true → D.2.2 = upd (upd (addF t k P.2.1) (21 + 7 * cntN t + 2) P.2.2.1) (21 + 7 * cntN t + 3) P.2.2.2) := by
  have hn := nx_Y (tp := tp) hY
  have e0 : mstF tp len (XY Y 0) (bI (nI pt < 8)) = XY (nx tp len Y) (fl true) := by
    rw [bI, if_pos (show nI pt < 8 from nI_lt (b := 8) hp (by decide))]
    exact mst0 (by decide)
  obtain ⟨o1, h1⟩ : ∃ z, z = optF tp len (XY (nx tp len Y) (fl true)) 7 99 10 := ⟨_, rfl⟩
  obtain ⟨o2, h2⟩ : ∃ z, z = optF tp len o1.1 8 9 2 := ⟨_, rfl⟩
  obtain ⟨o3, h3⟩ : ∃ z, z = optF tp len o2.1 9 999 0 := ⟨_, rfl⟩
  have eP : P = (o3.1, o1.2, o2.2, o3.2) := eP.trans (rdP_eq e0 h1 h2 h3)
  obtain ⟨⟨Y1, b1, t1⟩, g1⟩ : ∃ z, z = detF tp len (cntN t) (nx tp len Y, true, addF t k 10) 1 := ⟨_, rfl⟩
  obtain ⟨⟨Y2, b2, t2⟩, g2⟩ : ∃ z, z = detF tp len (cntN t) (Y1, b1, t1) 2 := ⟨_, rfl⟩
  obtain ⟨⟨Y3, b3, t3⟩, g3⟩ : ∃ z, z = detF tp len (cntN t) (Y2, b2, t2) 3 := ⟨_, rfl⟩
  have eD : D = (Y3, b3, t3) := by
    rw [eD, g3, g2, g1]
    rfl
  have y1 : YI len Y1 := by
    have := det_Y1 (tp := tp) (i := cntN t) (w := 1) (Z := (nx tp len Y, true, addF t k 10)) hn
    rw [← g1] at this
    exact this
  have y2 : YI len Y2 := by
    have := det_Y1 (tp := tp) (i := cntN t) (w := 2) (Z := (Y1, b1, t1)) y1
    rw [← g2] at this
    exact this
  have a := det_rel (tp := tp) (t := addF t k 10) (i := cntN t) (w := 1) (b := true) (hi := 99) (d := 10) hn (by decide) (by decide) (by decide)
  rw [← g1, ← h1] at a
  have a1 : o1.1 = XY Y1 (fl b1) := a.1
  have b := det_rel (tp := tp) (t := t1) (i := cntN t) (w := 2) (b := b1) (hi := 9) (d := 2) y1 (by decide) (by decide) (by decide)
  rw [← g2, ← a1, ← h2] at b
  have b1' : o2.1 = XY Y2 (fl b2) := b.1
  have c := det_rel (tp := tp) (t := t2) (i := cntN t) (w := 3) (b := b2) (hi := 999) (d := 0) y2 (by decide) (by decide) (by decide)
  rw [← g3, ← b1', ← h3] at c
  rw [eP, eD]
  refine ⟨c.1, fun q => ?_⟩
  obtain ⟨q2, d3⟩ := c.2 q
  obtain ⟨q1, c3⟩ := b.2 q2
  obtain ⟨_, a3⟩ := a.2 q1
  have e1 : t1 = addF t k o1.2 := (a3 add_1).trans add_gr
  have e2 : t2 = upd (addF t k o1.2) (21 + 7 * cntN t + 2) o2.2 := by rw [← e1]; exact c3 (by rw [e1]; exact add_2)
  have e3 : t3 = upd t2 (21 + 7 * cntN t + 3) o3.2 := d3 (by rw [e2, upd_ne (by omega)]; exact add_3)
  show t3 = upd (upd (addF t k o1.2) (21 + 7 * cntN t + 2) o2.2) (21 + 7 * cntN t + 3) o3.2
  rw [e3, e2]
theorem rd_full {tp : Row} {len pt : Nat} {Y : Ys} (hp : pt = 8) : (rdP tp len (XY Y 0) pt).1 = XY Y 1 := by
  have o1 : ∀ (w : Nat) (hi d : Int32), optF tp len (XY Y 1) w hi d = (XY Y 1, d) := fun w hi d => by
    unfold optF
    rw [if_neg kw1, kwF1]
  have e0 : mstF tp len (XY Y 0) (bI (nI pt < 8)) = XY Y 1 := by
    subst hp
    rw [bI, if_neg (show ¬ nI 8 < 8 by decide)]
    exact mst0n
  rw [rdP_eq e0 rfl rfl rfl, o1]
  show (optF tp len (optF tp len (XY Y 1, (10 : Int32)).1 8 9 2).1 9 999 0).1 = _
  rw [show (XY Y 1, (10 : Int32)).1 = XY Y 1 from rfl, o1, show (XY Y 1, (2 : Int32)).1 = XY Y 1 from rfl, o1]
theorem tld_1 {t it : Row} {k : Nat} {x0 x1 x2 x3 : Int32} (h10 : ¬ x0 = 10) (h11 : ¬ x0 = 11) : tldF t (itF it k x0 x1 x2 x3) k = upd (upd (addF t x0 x1) (21 + 7 * cntN t + 2) x2) (21 + 7 * cntN t + 3) x3 := by
  unfold tldF
  rw [itF_0, itF_1, itF_2, itF_3, if_neg h10, if_neg h11]
theorem tld_10 {t it : Row} {k : Nat} {x1 x2 x3 : Int32} : tldF t (itF it k 10 x1 x2 x3) k = upd t (5 + tN x1) x2 := by
  unfold tldF
  rw [itF_0, itF_1, itF_2, if_pos rfl]
theorem tld_11 {t it : Row} {k : Nat} {x1 x2 x3 : Int32} : tldF t (itF it k 11 x1 x2 x3) k = upd t 3 x1 := by
  unfold tldF
  rw [itF_0, itF_1, if_neg (by decide), if_pos rfl]
abbrev RZ (t it : Row) (mn : Nat) (R : Xs × Nat × Nat × Row) (Z : Ys × Bool × Row) : Prop := R.1 = XY Z.1 (fl Z.2.1) ∧ (Z.2.1 = true → R.2.1 = mn + 1 ∧ Z.2.2 1 = nI R.2.2.1 ∧ R.2.2.1 ≤ 8 ∧ Z.2.2 = tldF t R.2.2.2 mn ∧ ∀ j, j < 4 * mn → R.2.2.2 j = it j)
theorem RZ_no {t it tt : Row} {mn a b : Nat} {Y : Ys} {X : Xs} {i2 : Row} (h : X = XY Y 1) : RZ t it mn (X, a, b, i2) (Y, false, tt) := ⟨h, fun q => absurd (show (false : Bool) = true from q) (by decide)⟩
theorem RZ_yes {t it tt : Row} {mn b : Nat} {Y : Ys} {X : Xs} {i2 : Row} {bb : Bool} (h : X = XY Y (fl bb)) (h1 : bb = true → tt 1 = nI b) (h2 : b ≤ 8) (h3 : bb = true → tt = tldF t i2 mn) (h4 : ∀ j, j < 4 * mn → i2 j = it j) : RZ t it mn (X, mn + 1, b, i2) (Y, bb, tt) := ⟨h, fun q => ⟨rfl, h1 q, h2, h3 q, h4⟩⟩
theorem rdI_k {tp it : Row} {len mn pt : Nat} {X : Xs} {k : Int32} {P : Xs × Int32 × Int32 × Int32} (hk : kwN tp X 7 = k) (h : 0 ≤ k) (eP : P = rdP tp len X pt) : rdI tp len X mn pt it = (P.1, mn + 1, pt + 1, itF it mn k P.2.1 P.2.2.1 P.2.2.2) := by
  subst hk; subst eP
  exact if_pos h
theorem rdI_w {tp it : Row} {len mn pt : Nat} {X A : Xs} {W : Xs × Int32 × Int32} (h : ¬ 0 ≤ kwN tp X 7) (h2 : kwP tp X 10) (eA : kwF tp len X 10 = A) (eW : W = rdW tp len A) : rdI tp len X mn pt it = (W.1, mn + 1, pt, itF it mn 10 W.2.1 W.2.2 0) := by
  subst eA; subst eW
  exact (if_neg h).trans (if_pos h2)
theorem rdI_o {tp it : Row} {len mn pt : Nat} {X A B : Xs} (h : ¬ 0 ≤ kwN tp X 7) (h2 : ¬ kwP tp X 10) (eA : kwF tp len X 10 = A) (h3 : kwP tp A 11) (eB : kwF tp len A 11 = B) : rdI tp len X mn pt it = (numF tp len B 0 99, mn + 1, pt, itF it mn 11 (nI B.2.2.2.1) 0 0) := by
  subst eA; subst eB
  exact (if_neg h).trans ((if_neg h2).trans (if_pos h3))
theorem rdI_n {tp it : Row} {len mn pt : Nat} {X A B : Xs} (h : ¬ 0 ≤ kwN tp X 7) (h2 : ¬ kwP tp X 10) (eA : kwF tp len X 10 = A) (h3 : ¬ kwP tp A 11) (eB : kwF tp len A 11 = B) : rdI tp len X mn pt it = (mstF tp len B 0, mn, pt, it) := by
  subst eA; subst eB
  exact (if_neg h).trans ((if_neg h2).trans (if_neg h3))
theorem ri_rel {tp t it : Row} {len mn pt : Nat} {Y : Ys} {R : Xs × Nat × Nat × Row} {Z : Ys × Bool × Row} (eR : R = rdI tp len (XY Y 0) mn pt it) (eZ : Z = riC tp len Y t) (hY : YI len Y) (ht : t 1 = nI pt) (hp : pt ≤ 8) : RZ t it mn R Z := by
  have hc : cntN t = pt := cntN_eq ht hp
  rcases kwC_cases tp Y with ⟨k, hk, hw, ek⟩ | ⟨hno, ek⟩
  · have hX : isW tp (XY Y 0).1 (XY Y 0).2.1 (XY Y 0).2.2.1 k := (isX hY).mpr hw
    have eN : kwN tp (XY Y 0) 7 = nI k := kwN_is hX 7 hk (by decide)
    have n10 : ¬ isY tp Y 10 := fun q => by have := isW_uq (by omega) (by decide) hw q; omega
    have n11 : ¬ isY tp Y 11 := fun q => by have := isW_uq (by omega) (by decide) hw q; omega
    have nk : ¬ kwC tp Y = -1 := by
      rw [ek]
      intro q
      exact absurd (show nI k < 0 by rw [q]; decide) (nI_pos (by omega))
    obtain ⟨P, eP⟩ : ∃ z, z = rdP tp len (XY Y 0) pt := ⟨_, rfl⟩
    have eR := eR.trans (rdI_k eN (nI_pos' (by omega)) eP)
    rw [eR]
    by_cases c8 : pt < 8
    · have h8 : ¬ 8 ≤ t 1 := by
        rw [ht]
        exact Int32.not_le.mpr (nI_lt (b := 8) c8 (by decide))
      obtain ⟨D, eD⟩ : ∃ z, z = detN tp len (cntN t) (nx tp len Y, true, addF t (nI k) 10) 3 := ⟨_, rfl⟩
      obtain ⟨p1, p2⟩ := pot_rel hY c8 eP eD
      have d1 : D.2.2 1 = nI (pt + 1) := by
        rw [eD, det_1]
        show addF t (nI k) 10 1 = nI (pt + 1)
        rw [addF_1, hc]
      have e2 : Z = D := by
        rw [eZ, eD, ← ek]
        exact (if_neg n10).trans ((if_neg n11).trans (if_neg (fun q => q.elim nk h8)))
      rw [e2]
      obtain ⟨Y2, b2, t2⟩ := D
      exact RZ_yes p1 (fun _ => d1) c8 (fun q => (p2 q).trans (tld_1 (fun z => absurd ((nI_eq (b := 10) (by omega) (by decide)).mp z) (by omega)) (fun z => absurd ((nI_eq (b := 11) (by omega) (by decide)).mp z) (by omega))).symm) (fun j hj => itF_lo hj)
    · have h8 : 8 ≤ t 1 := by
        rw [ht]
        exact nI_le (a := 8) (by omega) (by omega)
      have e2 : Z = (Y, false, t) := eZ.trans ((if_neg n10).trans ((if_neg n11).trans (if_pos (Or.inr h8))))
      rw [e2]
      exact RZ_no (by rw [eP]; exact rd_full (by omega))
  · have eN : ¬ 0 ≤ kwN tp (XY Y 0) 7 := by
      rw [kwN_no 7 (fun k hk q => hno k hk ((isX hY).mp q))]
      decide
    by_cases c10 : isY tp Y 10
    · obtain ⟨W, eW⟩ : ∃ z, z = rdW tp len (XY (nx tp len Y) 0) := ⟨_, rfl⟩
      obtain ⟨D, eD⟩ : ∃ z, z = rwC tp len Y t := ⟨_, rfl⟩
      obtain ⟨p1, p2⟩ := rw_rel (tp := tp) (t := t) hY
      rw [← eW, ← eD] at p1 p2
      rw [eR.trans (rdI_w eN ((kw0 hY).mpr c10) (kwF0 hY c10) eW), show Z = D from eZ.trans ((if_pos c10).trans eD.symm)]
      obtain ⟨Y2, b2, t2⟩ := D
      exact RZ_yes p1 (fun q => by rw [show t2 = _ from p2 q, upd_ne (by omega)]; exact ht) hp (fun q => (p2 q).trans tld_10.symm) (fun j hj => itF_lo hj)
    · by_cases c11 : isY tp Y 11
      · obtain ⟨D, eD⟩ : ∃ z, z = roC tp len Y t := ⟨_, rfl⟩
        obtain ⟨p1, p2⟩ := ro_rel (tp := tp) (t := t) hY
        rw [← eD] at p1 p2
        rw [eR.trans (rdI_o eN (fun q => c10 ((kw0 hY).mp q)) (kwF0n hY c10) ((kw0 hY).mpr c11) (kwF0 hY c11)), show Z = D from eZ.trans ((if_neg c10).trans ((if_pos c11).trans eD.symm))]
        obtain ⟨Y2, b2, t2⟩ := D
        exact RZ_yes p1 (fun q => by rw [show t2 = _ from p2 q, upd_ne (by decide)]; exact ht) hp (fun q => (p2 q).trans tld_11.symm) (fun j hj => itF_lo hj)
      · rw [eR.trans (rdI_n eN (fun q => c10 ((kw0 hY).mp q)) (kwF0n hY c10) (fun q => c11 ((kw0 hY).mp q)) (kwF0n hY c11)), show Z = (Y, false, t) from eZ.trans ((if_neg c10).trans ((if_neg c11).trans (if_pos (Or.inl ek))))]
        exact RZ_no mst0n
theorem det_J1 {tp : Row} {len i w : Nat} {Z : Ys × Bool × Row} (h : YJ tp len Z.1) : YJ tp len (detF tp len i Z w).1 := by
  unfold detF
  split
  · split
    · split
      · exact nx_J (nx_Y h.1)
      · exact nx_J h.1
    · exact h
  · exact h
theorem det_J {tp : Row} {len i : Nat} {Z : Ys × Bool × Row} (h : YJ tp len Z.1) : ∀ k, YJ tp len (detN tp len i Z k).1
  | 0 => h
  | k + 1 => det_J1 (det_J h k)
theorem ri_J {tp t : Row} {len : Nat} {Y : Ys} (h : YJ tp len Y) : YJ tp len (riC tp len Y t).1 := by
  have h1 := nx_Y (tp := tp) h.1
  have h2 := nx_Y (tp := tp) h1
  have h3 := nx_Y (tp := tp) h2
  unfold riC
  split
  · unfold rwC
    split
    · split
      · split
        · exact nx_J h3
        · exact nx_J h2
      · exact nx_J h1
    · exact nx_J h.1
  · split
    · unfold roC
      split
      · exact nx_J h1
      · exact nx_J h.1
    · split
      · exact h
      · exact det_J (nx_J h.1) 3
theorem tldN_congr {r it it2 : Row} : ∀ k, (∀ j, j < 4 * k → it2 j = it j) → tldN r it2 k = tldN r it k
  | 0, _ => rfl
  | k + 1, h => by
    rw [tldN, tldN, tldN_congr k (fun j hj => h j (by omega))]
    unfold tldF
    rw [h (4 * k) (by omega), h (4 * k + 1) (by omega), h (4 * k + 2) (by omega), h (4 * k + 3) (by omega)]
theorem srt_59 {tp : Row} {len b : Nat} (h : srt (bt tp len b) = 3) : tp b = 59 := by
  unfold srt at h
  by_cases c : bt tp len b < 0
  · rw [if_pos c] at h; exact absurd h (by decide)
  · rw [if_neg c] at h
    by_cases c2 : 97 ≤ bt tp len b ∧ bt tp len b ≤ 122
    · rw [if_pos c2] at h; exact absurd h (by decide)
    · rw [if_neg c2] at h
      by_cases c3 : 48 ≤ bt tp len b ∧ bt tp len b ≤ 57
      · rw [if_pos c3] at h; exact absurd h (by decide)
      · rw [if_neg c3] at h
        by_cases c4 : bt tp len b = 59
        · have := bt_lt (x := 59) (by decide) c4
          rw [← bt_in (tp := tp) this]; exact c4
        · rw [if_neg c4] at h; exact absurd h (by decide)
theorem srt_n59 {tp : Row} {len b : Nat} (h : srt (bt tp len b) = 4) : ¬ tp b = 59 := fun q => by
  unfold srt at h
  by_cases c : b < len
  · rw [bt_in (tp := tp) c, q] at h
    exact absurd h (by decide)
  · rw [bt, if_neg c] at h
    exact absurd h (by decide)
/-- the loop of items -/
theorem rl_rel {tp t0 : Row} {len : Nat} (hl : len ≤ 120) : ∀ (f mn F pt : Nat) (Y : Ys) (t it : Row), mn + f = 120 → YJ tp len Y → mn ≤ Y.1 → t 1 = nI pt → pt ≤ 8 → len < Y.1 + F → t = tldN t0 it mn →
    ((if (mstF tp len (lpN tp len F (rdI tp len (XY Y 0) mn pt it)).1 (bI ((lpN tp len F (rdI tp len (XY Y 0) mn pt it)).1.2.2.1 = 0))).2.2.2.2 = 0 then (rlC tp len f (mn + 1) Y t).1 = nI (lpN tp len F (rdI tp len (XY Y 0) mn pt it)).2.1 ∧ (lpN tp len F (rdI tp len (XY Y 0) mn pt it)).2.1 ≤ 120 ∧ (rlC tp len f (mn + 1) Y t).2.2 = tldN t0 (lpN tp len F (rdI tp len (XY Y 0) mn pt it)).2.2.2 (lpN tp len F (rdI tp len (XY Y 0) mn pt it)).2.1 else (rlC tp len f (mn + 1) Y t).1 = -1 - nI (mstF tp len (lpN tp len F (rdI tp len (XY Y 0) mn pt it)).1 (bI ((lpN tp len F (rdI tp len (XY Y 0) mn pt it)).1.2.2.1 = 0))).1 ∧ (mstF tp len (lpN tp len F (rdI tp len (XY Y 0) mn pt it)).1 (bI ((lpN tp len F (rdI tp len (XY Y 0) mn pt it)).1.2.2.1 = 0))).1 ≤ 120) ∧ True) := by
  intro f
  induction f with
  | zero =>
    intro mn F pt Y t it hf hJ hm ht hp hF hT
    refine ⟨?_, trivial⟩
    have hb : Y.1 = len := by have := hJ.1.1; have := hJ.1.2.1; omega
    have hs0 : Y.2.2.1 = 0 := by
      rw [hJ.2.1, hb, bt, if_neg (Nat.lt_irrefl _)]
      rfl
    have hno : ∀ k, ¬ isY tp Y k := fun k q => by
      have h1 := isW_s q
      rw [hs0] at h1
      exact absurd h1 (by decide)
    have eR : rdI tp len (XY Y 0) mn pt it = (XY Y 1, mn, pt, it) := by
      unfold rdI
      have eN : kwN tp (XY Y 0) 7 = -1 := kwN_no 7 (fun k hk q => hno k ((isX hJ.1).mp q))
      rw [if_neg (show ¬ 0 ≤ kwN tp (XY Y 0) 7 by rw [eN]; decide), if_neg (fun q => hno 10 ((kw0 hJ.1).mp q)), kwF0n hJ.1 (hno 10), if_neg (fun q => hno 11 ((kw0 hJ.1).mp q)), kwF0n hJ.1 (hno 11), mst0n]
    have eL : lpN tp len F (rdI tp len (XY Y 0) mn pt it) = (XY Y 1, mn, pt, it) := by
      rw [eR]
      cases F with
      | zero => rfl
      | succ F => exact if_neg (fun q => absurd (show (1 : Int32) = 0 from q.1) (by decide))
    rw [eL]
    show (if (mstF tp len (XY Y 1) (bI ((XY Y 1).2.2.1 = 0))).2.2.2.2 = 0 then _ else _)
    rw [mst1, if_neg (show ¬ (XY Y 1).2.2.2.2 = 0 from by show ¬ (1 : Int32) = 0; decide)]
    exact ⟨rfl, by show Y.1 ≤ 120; omega⟩
  | succ f ih =>
    intro mn F pt Y t it hf hJ hm ht hp hF hT
    refine ⟨?_, trivial⟩
    obtain ⟨F, rfl⟩ : ∃ F', F = F' + 1 := ⟨F - 1, by have := hJ.1.1; have := hJ.1.2.1; omega⟩
    obtain ⟨p1, p2⟩ := ri_rel (tp := tp) (it := it) (mn := mn) rfl rfl hJ.1 ht hp
    have hge : Y.1 ≤ (rdI tp len (XY Y 0) mn pt it).1.1 := (rdI_ok (tp := tp) (it := it) (n := 0) (pt := pt) (XY_I (w := 0) hJ) hm).2.1
    have hJ2 := ri_J (t := t) hJ
    rw [p1] at hge
    have hge : Y.1 ≤ (riC tp len Y t).1.1 := hge
    generalize hR : rdI tp len (XY Y 0) mn pt it = R at p1 p2 ⊢
    rw [rlC]
    generalize hZ : riC tp len Y t = Z at p1 p2 hJ2 hge ⊢
    obtain ⟨X, mn2, pt2, it2⟩ := R
    obtain ⟨Y2, b2, t2⟩ := Z
    have p1 : X = XY Y2 (fl b2) := p1
    subst p1
    cases b2 with
    | false =>
      rw [if_neg (show ¬ (false : Bool) = true by decide)]
      have eL : lpN tp len (F + 1) (XY Y2 (fl false), mn2, pt2, it2) = (XY Y2 1, mn2, pt2, it2) := if_neg (fun q => absurd (show (1 : Int32) = 0 from q.1) (by decide))
      rw [eL]
      show (if (mstF tp len (XY Y2 1) (bI ((XY Y2 1).2.2.1 = 0))).2.2.2.2 = 0 then _ else _)
      rw [mst1, if_neg (show ¬ (XY Y2 1).2.2.2.2 = 0 from by show ¬ (1 : Int32) = 0; decide)]
      exact ⟨rfl, by have h1 := hJ2.1.1; have h2 := hJ2.1.2.1; show Y2.1 ≤ 120; exact Nat.le_trans h1 (Nat.le_trans h2 hl)⟩
    | true =>
      rw [if_pos (show (true : Bool) = true from rfl)]
      obtain ⟨q1, q2, q3, q4, q5⟩ := p2 rfl
      have q1 : mn2 = mn + 1 := q1
      subst q1
      have q2 : t2 1 = nI pt2 := q2
      have q3 : pt2 ≤ 8 := q3
      have q4 : t2 = tldN t0 it2 (mn + 1) := by
        show t2 = tldF (tldN t0 it2 mn) it2 mn
        rw [tldN_congr mn q5, ← hT]
        exact q4
      have hs4 : Y2.2.2.1 ≤ 4 := hJ2.1.2.2.2
      have hss : Y2.2.2.1 = srt (bt tp len Y2.1) := hJ2.2.1
      have hlt : ¬ Y2.2.2.1 = 0 → Y2.1 < Y2.2.1 := hJ2.2.2
      have hel : Y2.2.1 ≤ len := hJ2.1.2.1
      have hbe : Y2.1 ≤ Y2.2.1 := hJ2.1.1
      have hge : Y.1 ≤ Y2.1 := hge
      by_cases c0 : Y2.2.2.1 = 0
      · rw [if_pos (show (Y2, true, t2).1.2.2.1 = 0 from c0)]
        have eL : lpN tp len (F + 1) (XY Y2 (fl true), mn + 1, pt2, it2) = (XY Y2 0, mn + 1, pt2, it2) := if_neg (fun q => by
          have h1 : sM Y2.2.2.1 = 3 := q.2.1
          rw [c0] at h1
          exact absurd h1 (by decide))
        rw [eL]
        show (if (mstF tp len (XY Y2 0) (bI ((XY Y2 0).2.2.1 = 0))).2.2.2.2 = 0 then _ else _)
        rw [show bI ((XY Y2 0).2.2.1 = 0) = 1 from if_pos ((sM_0 hs4).mpr c0), mst0 (by decide), if_pos (show (XY (nx tp len Y2) 0).2.2.2.2 = 0 from rfl)]
        exact ⟨rfl, by show mn + 1 ≤ 120; omega, q4⟩
      · rw [if_neg (show ¬ (Y2, true, t2).1.2.2.1 = 0 from c0)]
        by_cases c3 : Y2.2.2.1 = 3
        · rw [if_pos (show (Y2, true, t2).1.2.2.1 = 3 from c3)]
          have eL : lpN tp len (F + 1) (XY Y2 (fl true), mn + 1, pt2, it2) = lpN tp len F (rdI tp len (XY (nx tp len Y2) 0) (mn + 1) pt2 it2) := by
            refine (if_pos ⟨rfl, (sM_3 hs4).mpr (Or.inl c3), srt_59 (len := len) (by show srt (bt tp len Y2.1) = 3; rw [← hss]; exact c3)⟩).trans ?_
            show lpN tp len F (rdI tp len (mstF tp len (XY Y2 0) 1) (mn + 1) pt2 it2) = _
            rw [mst0 (by decide)]
          rw [eL]
          have hn1 : Y2.2.1 ≤ (nx tp len Y2).1 := (tk_I (tp := tp) 0 hel).2
          have h9 := hlt c0
          exact (ih (mn + 1) F pt2 (nx tp len Y2) t2 it2 (by omega) (nx_J hJ2.1) (by omega) q2 q3 (by omega) q4).1
        · rw [if_neg (show ¬ (Y2, true, t2).1.2.2.1 = 3 from c3)]
          have eL : lpN tp len (F + 1) (XY Y2 (fl true), mn + 1, pt2, it2) = (XY Y2 0, mn + 1, pt2, it2) := if_neg (fun q => by
            rcases (sM_3 hs4).mp q.2.1 with h | h
            · exact c3 h
            · exact srt_n59 (tp := tp) (len := len) (b := Y2.1) (by rw [← hss]; exact h) q.2.2)
          rw [eL]
          show (if (mstF tp len (XY Y2 0) (bI ((XY Y2 0).2.2.1 = 0))).2.2.2.2 = 0 then _ else _)
          rw [show bI ((XY Y2 0).2.2.1 = 0) = 0 from if_neg (fun q => c0 ((sM_0 hs4).mp q)), mst0n, if_neg (show ¬ (XY Y2 1).2.2.2.2 = 0 from by show ¬ (1 : Int32) = 0; decide)]
          exact ⟨rfl, by show Y2.1 ≤ 120; omega⟩
theorem ev_tldN {t r it : Row} {n mn pt : Nat} (hev : Ev t r) (hr : RI r) (hn : r 1 = nI n) (hn8 : n ≤ 8) (ho : OKI n mn pt it) : ∀ k, k ≤ mn → Ev (tldN t it k) (tldN r it k)
  | 0, _ => hev
  | k + 1, hk => by
    have ih := ev_tldN hev hr hn hn8 ho k (by omega)
    obtain ⟨h1, h2⟩ := tld_ok hr hn hn8 ho k (by omega)
    have hck : cnN it n k ≤ 8 := by
      have a := cnN_le (it := it) (n := n) mn k (by omega)
      have b := ho.1
      have c := ho.2.1
      omega
    have hcr : cntN (tldN r it k) = cnN it n k := cntN_eq h2 hck
    have hct : cntN (tldN t it k) = cntN (tldN r it k) := ih.c.symm
    rw [tldN, tldN]
    unfold tldF
    by_cases c10 : it (4 * k) = 10
    · rw [if_pos c10, if_pos c10]
      exact ih.up (by omega) rfl
    · rw [if_neg c10, if_neg c10]
      by_cases c11 : it (4 * k) = 11
      · rw [if_pos c11, if_pos c11]
        exact ih.up (by decide) rfl
      · rw [if_neg c11, if_neg c11, hct]
        have h8 : cntN (tldN t it k) < 8 := by
          rw [hct, hcr]
          exact it_2 ho (by omega) c10 c11
        exact ((ev_add ih h8).up (by omega) rfl).up (by omega) rfl
