/-! a reading of the reference: what is kept on the way -/
def GE (len : Nat) (X Y : Xs) : Prop := XI len Y ∧ X.1 ≤ Y.1 ∧ (Y.2.2.2.2 = 0 → X.2.2.2.2 = 0)
theorem GE.rf {len : Nat} {X : Xs} (h : XI len X) : GE len X X := ⟨h, Nat.le_refl _, id⟩
theorem GE.tr {len : Nat} {X Y Z : Xs} (h : GE len X Y) (h2 : GE len Y Z) : GE len X Z := ⟨h2.1, Nat.le_trans h.2.1 h2.2.1, fun z => h.2.2 (h2.2.2 z)⟩
theorem mst_w {tp : Row} {len : Nat} {X : Xs} {x : Int32} (h : (mstF tp len X x).2.2.2.2 = 0) : X.2.2.2.2 = 0 ∧ ¬ x = 0 := by
  unfold mstF at h
  by_cases c : X.2.2.2.2 = 0 ∧ ¬ x = 0
  · exact c
  · rw [if_neg c] at h
    exact absurd (show (1 : Int32) = 0 from h) (by decide)
theorem mst_G {tp : Row} {len : Nat} {X : Xs} {x : Int32} (h : XI len X) : GE len X (mstF tp len X x) := ⟨(mst_J h).1, (mst_J h).2.1, fun z => (mst_w z).1⟩
theorem num_G {tp : Row} {len : Nat} {X : Xs} {lo hi : Int32} (h : XI len X) : GE len X (numF tp len X lo hi) := mst_G h
theorem bI_ne0 {P : Prop} [Decidable P] (h : ¬ bI P = 0) : P := by
  by_cases c : P
  · exact c
  · exact absurd (if_neg c) h
theorem num_w {tp : Row} {len : Nat} {X : Xs} {lo hi : Int32} (h : (numF tp len X lo hi).2.2.2.2 = 0) : X.2.2.2.2 = 0 ∧ X.2.2.1 = 2 ∧ lo ≤ nI X.2.2.2.1 ∧ nI X.2.2.2.1 ≤ hi := ⟨(mst_w h).1, bI_ne0 (mst_w h).2⟩
theorem kw_G {tp : Row} {len : Nat} {X : Xs} {w : Nat} (h : XI len X) : GE len X (kwF tp len X w) := by
  unfold kwF
  split
  · exact mst_G h
  · exact GE.rf h
theorem opt_G {tp : Row} {len : Nat} {X : Xs} {w : Nat} {hi d : Int32} (h : XI len X) : GE len X (optF tp len X w hi d).1 := by
  unfold optF
  split
  · exact (kw_G h).tr (num_G (kw_G h).1)
  · exact kw_G h
theorem le9_of {v M : Nat} {hi : Int32} (hM : hi = nI M) (h : nI v ≤ hi) (hv : v ≤ 1000) (hm : M < 2147483648) : le9 (nI v) M := ⟨v, le_of_nI (by rw [← hM]; exact h) (by omega) hm, rfl⟩
theorem opt_v {tp : Row} {len : Nat} {X : Xs} {w M : Nat} {hi d : Int32} (hX : XI len X) (hM : hi = nI M) (hm : M < 2147483648) (hd : le9 d M) (h : (optF tp len X w hi d).1.2.2.2.2 = 0) : le9 (optF tp len X w hi d).2 M := by
  unfold optF at h ⊢
  by_cases c : kwP tp X w
  · rw [if_pos c] at h ⊢
    exact le9_of hM (num_w h).2.2.2 (kw_G hX).1.2.2.2 hm
  · rw [if_neg c]
    exact hd
theorem rdP_G {tp : Row} {len : Nat} {X : Xs} {pt : Nat} (h : XI len X) : GE len (mstF tp len X (bI (nI pt < 8))) (rdP tp len X pt).1 := by
  have h1 := (mst_G (tp := tp) (x := bI (nI pt < 8)) h).1
  exact (opt_G h1).tr ((opt_G (opt_G h1).1).tr (opt_G (opt_G (opt_G h1).1).1))
theorem rdW_G {tp : Row} {len : Nat} {X : Xs} (h : XI len X) : GE len X (rdW tp len X).1 := (num_G h).tr ((num_G (num_G h).1).tr (num_G (num_G (num_G h).1).1))
theorem rdP_ok {tp : Row} {len : Nat} {X : Xs} {pt : Nat} (hX : XI len X) (h : (rdP tp len X pt).1.2.2.2.2 = 0) : nI pt < 8 ∧ le9 (rdP tp len X pt).2.1 99 ∧ le9 (rdP tp len X pt).2.2.1 9 ∧ le9 (rdP tp len X pt).2.2.2 999 ∧ X.2.1 ≤ (rdP tp len X pt).1.1 := by
  have h1 := (mst_G (tp := tp) (x := bI (nI pt < 8)) hX).1
  have g1 := opt_G (tp := tp) (w := 7) (hi := 99) (d := 10) h1
  have g2 := opt_G (tp := tp) (w := 8) (hi := 9) (d := 2) g1.1
  have g3 := opt_G (tp := tp) (w := 9) (hi := 999) (d := 0) g2.1
  have w2 := g3.2.2 h
  have w1 := g2.2.2 w2
  have w0 := g1.2.2 w1
  refine ⟨bI_ne0 (mst_w w0).2, opt_v h1 (M := 99) rfl (by decide) ⟨10, by decide, rfl⟩ w1, opt_v g1.1 (M := 9) rfl (by decide) ⟨2, by decide, rfl⟩ w2, opt_v g2.1 (M := 999) rfl (by decide) ⟨0, by decide, rfl⟩ h, ?_⟩
  exact Nat.le_trans ((mst_J hX).2.2 w0) (rdP_G hX).2.1
theorem rdW_ok {tp : Row} {len : Nat} {X : Xs} (hX : XI len X) (h : (rdW tp len X).1.2.2.2.2 = 0) : le9 (rdW tp len X).2.1 5 ∧ le9 (rdW tp len X).2.2 99 := by
  have g1 := num_G (tp := tp) (lo := 0) (hi := 5) hX
  have g2 := num_G (tp := tp) (lo := 0) (hi := 9) g1.1
  have g3 := num_G (tp := tp) (lo := 0) (hi := 9) g2.1
  have w2 := g3.2.2 h
  have w1 := g2.2.2 w2
  refine ⟨le9_of (M := 5) rfl (num_w w1).2.2.2 hX.2.2.2 (by decide), ?_⟩
  obtain ⟨a, ha, ea⟩ := le9_of (M := 9) (hi := 9) rfl (num_w w2).2.2.2 g1.1.2.2.2 (by decide)
  obtain ⟨b, hb, eb⟩ := le9_of (M := 9) (hi := 9) rfl (num_w h).2.2.2 g2.1.2.2.2 (by decide)
  have ea2 := (nI_eq (Nat.lt_of_le_of_lt g1.1.2.2.2 (by decide)) (by omega)).mp ea
  have eb2 := (nI_eq (Nat.lt_of_le_of_lt g2.1.2.2.2 (by decide)) (by omega)).mp eb
  exact ⟨_, by rw [ea2, eb2]; omega, rfl⟩
/-! items -/
def itOK (x0 x1 x2 x3 : Int32) : Prop := (x0 = 10 ∧ le9 x1 5 ∧ le9 x2 99) ∨ (x0 = 11 ∧ le9 x1 99) ∨ (le9 x0 6 ∧ le9 x1 99 ∧ le9 x2 9 ∧ le9 x3 999)
def cnN (it : Row) (n : Nat) : Nat → Nat
  | 0 => n
  | k + 1 => if it (4 * k) = 10 ∨ it (4 * k) = 11 then cnN it n k else cnN it n k + 1
theorem cnN_congr {it it2 : Row} {n : Nat} : ∀ m, (∀ j, j < 4 * m → it2 j = it j) → cnN it2 n m = cnN it n m
  | 0, _ => rfl
  | m + 1, h => by rw [cnN, cnN, cnN_congr m (fun j hj => h j (by omega)), h (4 * m) (by omega)]
theorem cnN_le {it : Row} {n : Nat} : ∀ m k, k ≤ m → cnN it n k ≤ cnN it n m
  | 0, k, h => by rw [show k = 0 by omega]; exact Nat.le_refl _
  | m + 1, k, h => by
    by_cases e : k = m + 1
    · rw [e]; exact Nat.le_refl _
    · have := cnN_le (it := it) (n := n) m k (by omega)
      rw [cnN]
      split <;> omega
def OKI (n mn pt : Nat) (it : Row) : Prop := pt = cnN it n mn ∧ pt ≤ 8 ∧ ∀ k, k < mn → itOK (it (4 * k)) (it (4 * k + 1)) (it (4 * k + 2)) (it (4 * k + 3))
theorem itF_lo {it : Row} {mn j : Nat} {x0 x1 x2 x3 : Int32} (h : j < 4 * mn) : itF it mn x0 x1 x2 x3 j = it j := by
  unfold itF
  rw [upd_ne (by omega), upd_ne (by omega), upd_ne (by omega), upd_ne (by omega)]
theorem itF_0 {it : Row} {mn : Nat} {x0 x1 x2 x3 : Int32} : itF it mn x0 x1 x2 x3 (4 * mn) = x0 := by
  unfold itF
  rw [upd_ne (by omega), upd_ne (by omega), upd_ne (by omega), upd_at]
theorem itF_1 {it : Row} {mn : Nat} {x0 x1 x2 x3 : Int32} : itF it mn x0 x1 x2 x3 (4 * mn + 1) = x1 := by
  unfold itF
  rw [upd_ne (by omega), upd_ne (by omega), upd_at]
theorem itF_2 {it : Row} {mn : Nat} {x0 x1 x2 x3 : Int32} : itF it mn x0 x1 x2 x3 (4 * mn + 2) = x2 := by
  unfold itF
  rw [upd_ne (by omega), upd_at]
theorem itF_3 {it : Row} {mn : Nat} {x0 x1 x2 x3 : Int32} : itF it mn x0 x1 x2 x3 (4 * mn + 3) = x3 := upd_at
theorem OKI_add {n mn pt pt2 : Nat} {it : Row} {x0 x1 x2 x3 : Int32} (h : OKI n mn pt it) (hx : itOK x0 x1 x2 x3) (hp : pt2 = if x0 = 10 ∨ x0 = 11 then pt else pt + 1) (h8 : pt2 ≤ 8) : OKI n (mn + 1) pt2 (itF it mn x0 x1 x2 x3) := by
  refine ⟨?_, h8, fun k hk => ?_⟩
  · rw [cnN, itF_0, cnN_congr (it := it) mn (fun j hj => itF_lo hj), ← h.1]
    exact hp
  · by_cases e : k = mn
    · subst e
      rw [itF_0, itF_1, itF_2, itF_3]
      exact hx
    · rw [itF_lo (by omega), itF_lo (by omega), itF_lo (by omega), itF_lo (by omega)]
      exact h.2.2 k (by omega)
theorem le6_ne {x : Int32} (h : le9 x 6) : ¬ (x = 10 ∨ x = 11) := by
  obtain ⟨k, hk, rfl⟩ := h
  rintro (h | h)
  · exact absurd ((nI_eq (b := 10) (by omega) (by decide)).mp h) (by omega)
  · exact absurd ((nI_eq (b := 11) (by omega) (by decide)).mp h) (by omega)
theorem rdI_ok {tp it : Row} {len n mn pt : Nat} {X : Xs} (hX : XI len X) (hm : mn ≤ X.1) : XI len (rdI tp len X mn pt it).1 ∧ X.1 ≤ (rdI tp len X mn pt it).1.1 ∧ (rdI tp len X mn pt it).2.1 ≤ mn + 1 ∧ ((rdI tp len X mn pt it).1.2.2.2.2 = 0 → X.2.2.2.2 = 0 ∧ (rdI tp len X mn pt it).2.1 ≤ (rdI tp len X mn pt it).1.1 ∧ (OKI n mn pt it → OKI n (rdI tp len X mn pt it).2.1 (rdI tp len X mn pt it).2.2.1 (rdI tp len X mn pt it).2.2.2)) := by
  unfold rdI
  by_cases c1 : 0 ≤ kwN tp X 7
  · rw [if_pos c1]
    have g := (mst_G (tp := tp) (x := bI (nI pt < 8)) hX).tr (rdP_G hX)
    have hok : (rdP tp len X pt).1.2.2.2.2 = 0 → _ := fun w => rdP_ok hX w
    generalize rdP tp len X pt = Y at g hok ⊢
    refine ⟨g.1, g.2.1, Nat.le_refl _, fun w => ?_⟩
    obtain ⟨h1, h2, h3, h4, h5⟩ := hok w
    obtain ⟨k, k1, k2, k3⟩ := kwN_some 7 (Int32.not_lt.mpr c1)
    have hbe : X.1 < X.2.1 := hX.2.2.1 (by rw [isW_s k2]; decide)
    have hk6 : le9 (kwN tp X 7) 6 := ⟨k, by omega, k3⟩
    refine ⟨g.2.2 w, Nat.le_trans (Nat.succ_le_of_lt (Nat.lt_of_le_of_lt hm hbe)) h5, fun ho => ?_⟩
    have hp8 : pt < 8 := lt_of_nI (b := 8) h1 (by have := ho.2.1; omega) (by decide)
    exact OKI_add ho (Or.inr (Or.inr ⟨hk6, h2, h3, h4⟩)) (by rw [if_neg (le6_ne hk6)]) hp8
  · rw [if_neg c1]
    by_cases c2 : kwP tp X 10
    · rw [if_pos c2]
      have hbe : X.1 < X.2.1 := hX.2.2.1 (by rw [isW_s c2.2]; decide)
      have g0 := kw_G (tp := tp) (w := 10) hX
      have hp : (kwF tp len X 10).2.2.2.2 = 0 → X.2.1 ≤ (kwF tp len X 10).1 := by
        rw [kw_yes c2]
        exact (mst_J hX).2.2
      generalize kwF tp len X 10 = A at g0 hp ⊢
      have g1 := rdW_G (tp := tp) g0.1
      have hok : (rdW tp len A).1.2.2.2.2 = 0 → _ := fun w => rdW_ok g0.1 w
      generalize rdW tp len A = Y at g1 hok ⊢
      have g := g0.tr g1
      refine ⟨g.1, g.2.1, Nat.le_refl _, fun w => ?_⟩
      obtain ⟨h1, h2⟩ := hok w
      have h5 := hp (g1.2.2 w)
      have h6 := g1.2.1
      refine ⟨g.2.2 w, Nat.le_trans (Nat.succ_le_of_lt (Nat.lt_of_le_of_lt hm hbe)) (Nat.le_trans h5 h6), fun ho => ?_⟩
      exact OKI_add ho (Or.inl ⟨rfl, h1, h2⟩) (by rw [if_pos (Or.inl rfl)]) ho.2.1
    · rw [if_neg c2]
      rw [kw_no c2]
      have g1 := kw_G (tp := tp) (w := 11) hX
      by_cases c4 : kwP tp X 11
      · rw [if_pos c4]
        have hbe : X.1 < X.2.1 := hX.2.2.1 (by rw [isW_s c4.2]; decide)
        have hp : (kwF tp len X 11).2.2.2.2 = 0 → X.2.1 ≤ (kwF tp len X 11).1 := by
          rw [kw_yes c4]
          exact (mst_J hX).2.2
        generalize kwF tp len X 11 = A at g1 hp ⊢
        have g2 := num_G (tp := tp) (lo := 0) (hi := 99) g1.1
        have hok : (numF tp len A 0 99).2.2.2.2 = 0 → _ := fun w => num_w w
        generalize numF tp len A 0 99 = Y at g2 hok ⊢
        have g := g1.tr g2
        refine ⟨g.1, g.2.1, Nat.le_refl _, fun w => ?_⟩
        have w1 := hok w
        have h5 := hp w1.1
        have h6 := g2.2.1
        refine ⟨g.2.2 w, Nat.le_trans (Nat.succ_le_of_lt (Nat.lt_of_le_of_lt hm hbe)) (Nat.le_trans h5 h6), fun ho => ?_⟩
        exact OKI_add ho (Or.inr (Or.inl ⟨rfl, le9_of (M := 99) rfl w1.2.2.2 g1.1.2.2.2 (by decide)⟩)) (by rw [if_pos (Or.inr rfl)]) ho.2.1
      · rw [if_neg c4, kw_no c4]
        have g := mst_G (tp := tp) (x := 0) hX
        have hw : ¬ (mstF tp len X 0).2.2.2.2 = 0 := fun w => absurd rfl (mst_w w).2
        generalize mstF tp len X 0 = Y at g hw ⊢
        exact ⟨g.1, g.2.1, Nat.le_succ _, fun w => absurd w hw⟩
/-! what is told by an item, by all -/
def tldF (r it : Row) (k : Nat) : Row := if it (4 * k) = 10 then upd r (5 + tN (it (4 * k + 1))) (it (4 * k + 2)) else if it (4 * k) = 11 then upd r 3 (it (4 * k + 1)) else upd (upd (addF r (it (4 * k)) (it (4 * k + 1))) (21 + 7 * cntN r + 2) (it (4 * k + 2))) (21 + 7 * cntN r + 3) (it (4 * k + 3))
def tldN (r it : Row) : Nat → Row
  | 0 => r
  | k + 1 => tldF (tldN r it k) it k
theorem addF_1 {r : Row} {v w : Int32} : addF r v w 1 = nI (cntN r + 1) := upd_at
theorem RI_add {r : Row} {v w : Int32} (h : RI r) (h8 : cntN r < 8) (hv : le9 v 6) (hw : le9 w 99) : RI (addF r v w) := by
  obtain ⟨n, d, h1, h2, h3, h4, h5, h6, h7, h9, h10⟩ := h
  have hc : cntN r = n := cntN_eq h1 h2
  rw [hc] at h8
  have lo : ∀ j, j < 21 → j ≠ 1 → addF r v w j = r j := fun j hj hn => by
    unfold addF
    rw [upd_ne hn, putP_ne (by omega)]
  refine ⟨n + 1, d, by rw [addF_1, hc], by omega, by rw [lo 0 (by omega) (by omega)]; exact h3, h4, by rw [lo 3 (by omega) (by omega)]; exact h5, by rw [lo 4 (by omega) (by omega)]; exact h6, fun j hj => by rw [lo _ (by omega) (by omega)]; exact h7 j hj, fun j hj => ?_, fun i hi f hf => ?_⟩
  · rw [lo _ (by omega) (by omega)]
    rcases h9 j hj with h | ⟨k, hk, e⟩
    · exact Or.inl h
    · exact Or.inr ⟨k, by omega, e⟩
  · unfold addF
    rw [upd_ne (by omega)]
    by_cases e : i = n
    · subst e
      rw [hc, putP_at hf]
      match f, hf with
      | 0, _ => exact hv
      | 1, _ => exact hw
      | 2, _ => exact ⟨2, by decide, rfl⟩
      | 3, _ => exact ⟨0, by decide, rfl⟩
      | 4, _ => exact ⟨0, by decide, rfl⟩
      | 5, _ => exact ⟨0, by decide, rfl⟩
      | 6, _ => exact ⟨0, by decide, rfl⟩
    · rw [hc, putP_ne (by omega)]
      exact h10 i (by omega) f hf
theorem tld_ok {r it : Row} {n mn pt : Nat} (hr : RI r) (hn : r 1 = nI n) (hn8 : n ≤ 8) (ho : OKI n mn pt it) : ∀ k, k ≤ mn → RI (tldN r it k) ∧ tldN r it k 1 = nI (cnN it n k)
  | 0, _ => ⟨hr, hn⟩
  | k + 1, hk => by
    obtain ⟨h1, h2⟩ := tld_ok hr hn hn8 ho k (by omega)
    have hle : cnN it n (k + 1) ≤ 8 := by
      have a := cnN_le (it := it) (n := n) mn (k + 1) hk
      have b := ho.1
      have c := ho.2.1
      omega
    have hck : cnN it n k ≤ 8 := Nat.le_trans (cnN_le _ _ (Nat.le_succ k)) hle
    have hcn : cntN (tldN r it k) = cnN it n k := cntN_eq h2 hck
    show RI (tldF (tldN r it k) it k) ∧ tldF (tldN r it k) it k 1 = _
    unfold tldF
    rw [cnN] at hle ⊢
    rcases ho.2.2 k (by omega) with ⟨e, ha, hb⟩ | ⟨e, ha⟩ | ⟨hk6, ha, hb, hc⟩
    · rw [if_pos e, if_pos (Or.inl e)]
      obtain ⟨i, hi, ei⟩ := ha
      rw [ei, tN, nI_clamp (by omega)]
      exact ⟨RI_list h1 (by omega) hb, by rw [upd_ne (by omega)]; exact h2⟩
    · have e10 : ¬ it (4 * k) = 10 := by rw [e]; decide
      rw [if_neg e10, if_pos e, if_pos (Or.inr e)]
      exact ⟨RI_3 h1 ha, by rw [upd_ne (by omega)]; exact h2⟩
    · have hne := le6_ne hk6
      rw [if_neg (fun z => hne (Or.inl z)), if_neg (fun z => hne (Or.inr z)), if_neg hne] at *
      have h8 : cntN (tldN r it k) < 8 := by rw [hcn]; omega
      refine ⟨RI_pf (f := 3) (RI_pf (f := 2) (RI_add h1 h8 hk6 ha) (by decide) hb) (by decide) hc, ?_⟩
      rw [upd_ne (by omega), upd_ne (by omega), addF_1, hcn]
