/-! the two sides side by side -/
/-! answers and findings -/
def RR (x y : Res) : Prop := match x, y with
  | .inl a, .inl b => a = b ∧ a < 7
  | .inr p, .inr q => p.2 = q.2
  | _, _ => False
theorem RR_ans {x y : Res} (h : RR x y) : ansR x = ansR y := by
  cases x with
  | inl a => cases y with
    | inl b => rw [h.1]
    | inr q => exact h.elim
  | inr p => cases y with
    | inl b => exact h.elim
    | inr q => exact h
def FR (f f2 : Row) : Prop := (∀ j, j < 7 → f2 (j + 1) = f j) ∧ f2 0 = sm9 f 7
theorem sm9_lt {f : Row} {k : Nat} {v : Int32} : ∀ n, n ≤ k → sm9 (upd f k v) n = sm9 f n
  | 0, _ => rfl
  | n + 1, h => by rw [sm9, sm9, sm9_lt n (by omega), upd_ne (by omega)]
theorem sm9_up {f : Row} {k : Nat} : ∀ n, k < n → sm9 (upd f k (f k + 1)) n = sm9 f n + 1
  | 0, h => absurd h (Nat.not_lt_zero _)
  | n + 1, h => by
    rw [sm9, sm9]
    by_cases e : k = n
    · subst e
      rw [sm9_lt k (Nat.le_refl _), upd_at, Int32.add_assoc]
    · rw [sm9_up n (by omega), upd_ne (Ne.symm e), Int32.add_assoc, Int32.add_comm 1, ← Int32.add_assoc]
theorem FR_up {f f2 : Row} {k : Nat} (h : FR f f2) (hk : k < 7) : FR (upd f k (f k + 1)) (findM f2 k) := by
  unfold findM
  refine ⟨fun j hj => ?_, ?_⟩
  · rw [upd_ne (by omega)]
    by_cases e : j = k
    · subst e
      rw [upd_at, upd_at, h.1 j hj]
    · rw [upd_ne (by omega), upd_ne e, h.1 j hj]
  · rw [upd_at, upd_ne (by omega), h.2, sm9_up 7 hk]
theorem FR_res {f f2 : Row} {x y : Res} (h : FR f f2) (hr : RR x y) : FR (fndC f x) (fndM f2 y) := by
  cases x with
  | inl a => cases y with
    | inl b =>
      obtain ⟨rfl, hk⟩ := hr
      exact FR_up h hk
    | inr q => exact hr.elim
  | inr p => cases y with
    | inl b => exact hr.elim
    | inr q => exact h
def Inv (i : Int32) (r k u tb f : Row) (len : Nat) (q r2 k2 f2 tp : Row) : Prop := Ev r r2 ∧ RI r ∧ RI k ∧ (¬ i = 0 → Ev k k2) ∧ q 0 = i ∧ (∀ j, j < 4 → le9 (u j) 40) ∧ len ≤ 120 ∧ q 3 = nI len ∧ TR tp tb len ∧ FR f f2
abbrev RS (r r2 : Row) (x y : Res) : Prop := RR x y ∧ Ev (rowR r x) (rowR r2 y) ∧ RI (rowR r x)
section IV
variable {i : Int32} {r k u tb f : Row} {len : Nat} {q r2 k2 f2 tp : Row}
theorem inv_row {x y : Res} (h : Inv i r k u tb f len q r2 k2 f2 tp) (hr : RS r r2 x y) : Inv i (rowR r x) k u tb (fndC f x) len q (rowR r2 y) k2 (fndM f2 y) tp := ⟨hr.2.1, hr.2.2, h.2.2.1, h.2.2.2.1, h.2.2.2.2.1, h.2.2.2.2.2.1, h.2.2.2.2.2.2.1, h.2.2.2.2.2.2.2.1, h.2.2.2.2.2.2.2.2.1, FR_res h.2.2.2.2.2.2.2.2.2 hr.1⟩
theorem inv_ans {x y : Res} {q' : Row} (h : Inv i r k u tb f len q r2 k2 f2 tp) (hr : RR x y) (h0 : q' 0 = q 0) (h3 : q' 3 = q 3) : Inv i r k u tb (fndC f x) len q' r2 k2 (fndM f2 y) tp := ⟨h.1, h.2.1, h.2.2.1, h.2.2.2.1, h0.trans h.2.2.2.2.1, h.2.2.2.2.2.1, h.2.2.2.2.2.2.1, h3.trans h.2.2.2.2.2.2.2.1, h.2.2.2.2.2.2.2.2.1, FR_res h.2.2.2.2.2.2.2.2.2 hr⟩
theorem inv_u {u' : Row} (h : Inv i r k u tb f len q r2 k2 f2 tp) (hu : ∀ j, j < 4 → le9 (u' j) 40) : Inv i r k u' tb f len q r2 k2 f2 tp := ⟨h.1, h.2.1, h.2.2.1, h.2.2.2.1, h.2.2.2.2.1, hu, h.2.2.2.2.2.2.1, h.2.2.2.2.2.2.2.1, h.2.2.2.2.2.2.2.2.1, h.2.2.2.2.2.2.2.2.2⟩
theorem inv_r {r' r2' : Row} (h : Inv i r k u tb f len q r2 k2 f2 tp) (h1 : Ev r' r2') (h2 : RI r') : Inv i r' k u tb f len q r2' k2 f2 tp := ⟨h1, h2, h.2.2.1, h.2.2.2.1, h.2.2.2.2.1, h.2.2.2.2.2.1, h.2.2.2.2.2.2.1, h.2.2.2.2.2.2.2.1, h.2.2.2.2.2.2.2.2.1, h.2.2.2.2.2.2.2.2.2⟩
end IV
/-! each answer -/
section RE
variable {r r2 : Row} (hev : Ev r r2) (hR : RI r)
theorem RS_inl {r r2 : Row} (hev : Ev r r2) (hR : RI r) {a : Nat} (h : a < 7) : RS r r2 (.inl a) (.inl a) := ⟨⟨rfl, h⟩, hev, hR⟩
theorem RS_inr {r r2 a b : Row} {v w : Int32} (hv : v = w) (he : Ev a b) (hr : RI a) : RS r r2 (.inr (a, v)) (.inr (b, w)) := ⟨hv, he, hr⟩
theorem rg {v : Int32} {hi : Nat} (h : 0 ≤ v ∧ v ≤ nI hi) (hh : hi < 2147483648) : ∃ k : Nat, k ≤ hi ∧ v = nI k := by
  obtain ⟨k, _, h2, e⟩ := of_rng (lo := 0) (by decide) hh h
  exact ⟨k, h2, e⟩
theorem rgt {v : Int32} {hi : Nat} (h : 0 ≤ v ∧ v ≤ nI hi) (hh : hi < 2147483648) : tN v ≤ hi := by
  obtain ⟨k, hk, rfl⟩ := rg h hh
  rw [tN_nI (by omega)]
  exact hk
theorem pP (hev : Ev r r2) (hR : RI r) {p : Int32} (h : 0 ≤ p ∧ p < r 1) : tN p < cntN r := by
  obtain ⟨n, d, h1, h2, _⟩ := hR
  obtain ⟨k, hk, rfl⟩ := pot_nat h h1 (by omega)
  rw [tN_nI (by omega), cntN_eq h1 h2]
  exact hk
theorem rr_weather (hev : Ev r r2) (hR : RI r) (i v : Int32) : RS r r2 (rWeather r i v) (rWeather r2 i v) := by
  unfold rWeather
  by_cases c : 0 ≤ i ∧ i ≤ 5
  · rw [if_pos c, if_pos c]
    have hi := rgt (hi := 5) c (by decide)
    by_cases c2 : 0 ≤ v ∧ v ≤ 99
    · rw [if_pos c2, if_pos c2]
      exact RS_inr (hev.lo (by omega)) (hev.up (by omega) rfl) (RI_list hR (by omega) (rg (hi := 99) c2 (by decide)))
    · rw [if_neg c2, if_neg c2]; exact RS_inl hev hR (by decide)
  · rw [if_neg c, if_neg c]; exact RS_inl hev hR (by decide)
theorem rr_listed (hev : Ev r r2) (hR : RI r) (i : Int32) : RS r r2 (rListed r i) (rListed r2 i) := by
  unfold rListed
  by_cases c : 0 ≤ i ∧ i ≤ 5
  · rw [if_pos c, if_pos c]
    have hi := rgt (hi := 5) c (by decide)
    exact RS_inr (hev.lo (by omega)) hev hR
  · rw [if_neg c, if_neg c]; exact RS_inl hev hR (by decide)
theorem rr_onions (hev : Ev r r2) (hR : RI r) (v : Int32) : RS r r2 (rOnions r v) (rOnions r2 v) := by
  unfold rOnions
  by_cases c : 0 ≤ v ∧ v ≤ 99
  · rw [if_pos c, if_pos c]
    exact RS_inr (hev.lo (by decide)) (hev.up (by decide) rfl) (RI_3 hR (rg (hi := 99) c (by decide)))
  · rw [if_neg c, if_neg c]; exact RS_inl hev hR (by decide)
theorem rr_potter (hev : Ev r r2) (hR : RI r) (k g : Int32) : RS r r2 (rPotter r k g) (rPotter r2 k g) := by
  unfold rPotter
  rw [← hev.lo (j := 1) (by decide)]
  by_cases c : 0 ≤ k ∧ k ≤ 6
  · rw [if_pos c, if_pos c]
    by_cases c2 : 0 ≤ g ∧ g ≤ 99
    · rw [if_pos c2, if_pos c2]
      by_cases c3 : 8 ≤ r 1
      · rw [if_pos c3, if_pos c3]; exact RS_inl hev hR (by decide)
      · rw [if_neg c3, if_neg c3, hev.c]
        obtain ⟨n, d, h1, h2, _⟩ := id hR
        have h8 : cntN r < 8 := by rw [cntN_eq h1 h2]; exact n_lt8b h1 c3 h2
        exact RS_inr rfl (ev_add hev h8) (RI_add hR h8 (rg (hi := 6) c (by decide)) (rg (hi := 99) c2 (by decide)))
    · rw [if_neg c2, if_neg c2]; exact RS_inl hev hR (by decide)
  · rw [if_neg c, if_neg c]; exact RS_inl hev hR (by decide)
theorem rr_of (hev : Ev r r2) (hR : RI r) (p w : Int32) : RS r r2 (rOf r p w) (rOf r2 p w) := by
  unfold rOf
  rw [← hev.lo (j := 1) (by decide)]
  by_cases c : 0 ≤ p ∧ p < r 1
  · rw [if_pos c, if_pos c]
    by_cases c2 : 0 ≤ w ∧ w ≤ 12
    · rw [if_pos c2, if_pos c2]
      exact RS_inr (ev_told hev (pP hev hR c) (rgt (hi := 12) c2 (by decide))) hev hR
    · rw [if_neg c2, if_neg c2]; exact RS_inl hev hR (by decide)
  · rw [if_neg c, if_neg c]; exact RS_inl hev hR (by decide)
theorem rr_change (hev : Ev r r2) (hR : RI r) (p w v : Int32) : RS r r2 (rChange r p w v) (rChange r2 p w v) := by
  unfold rChange
  rw [← hev.lo (j := 1) (by decide)]
  by_cases c : 0 ≤ p ∧ p < r 1
  · rw [if_pos c, if_pos c]
    by_cases c2 : fldB w v = 0
    · rw [if_pos c2, if_pos c2]; exact RS_inl hev hR (by decide)
    · rw [if_neg c2, if_neg c2]
      obtain ⟨k, hk, e, hv⟩ := fld_nat c2
      rw [e, tN_nI (k := k) (by omega)]
      exact RS_inr (hev.p (pP hev hR c) hk) (hev.up (by omega) rfl) (RI_pf hR hk hv)
  · rw [if_neg c, if_neg c]; exact RS_inl hev hR (by decide)
theorem rr_go (hev : Ev r r2) (hR : RI r) (n : Int32) : RS r r2 (rGo r n) (rGo r2 n) := by
  unfold rGo
  rw [← hev.lo (j := 0) (by decide)]
  by_cases c : 1 ≤ n ∧ n ≤ 60
  · rw [if_pos c, if_pos c]
    by_cases c2 : 99999 < r 0 + n
    · rw [if_pos c2, if_pos c2]; exact RS_inl hev hR (by decide)
    · rw [if_neg c2, if_neg c2]
      exact RS_inr (ev_day4 hev) (ev_days hev _) (daysF_RI hR _)
  · rw [if_neg c, if_neg c]; exact RS_inl hev hR (by decide)
theorem rr_now (hev : Ev r r2) (hR : RI r) (w : Int32) : RS r r2 (rNow r w) (rNow r2 w) := by
  unfold rNow
  rw [hev.c]
  split
  · exact RS_inr (hev.lo (by decide)) hev hR
  · split
    · exact RS_inr (hev.lo (by decide)) hev hR
    · split
      · exact RS_inr (hev.lo (by decide)) hev hR
      · split
        · exact RS_inr (ev_sum hev (by decide) _ (Nat.le_refl _)) hev hR
        · split
          · exact RS_inr (ev_sum hev (by decide) _ (Nat.le_refl _)) hev hR
          · split
            · exact RS_inr (ev_col hev _ (Nat.le_refl _)) hev hR
            · split
              · exact RS_inr (ev_rdy hev _ (Nat.le_refl _)) hev hR
              · split
                · exact RS_inr (by rw [ev_wet hev _ (Nat.le_refl _)]) hev hR
                · exact RS_inl hev hR (by decide)
theorem rr_ahead (hev : Ev r r2) (hR : RI r) (p w n : Int32) : RR (rAhead r p w n) (rAhead r2 p w n) := by
  unfold rAhead
  rw [← hev.lo (j := 1) (by decide)]
  by_cases c : 0 ≤ p ∧ p < r 1
  · rw [if_pos c, if_pos c]
    by_cases c2 : w = 1 ∨ (3 ≤ w ∧ w ≤ 6)
    · rw [if_pos c2, if_pos c2]
      by_cases c3 : 0 ≤ n ∧ n ≤ 100
      · rw [if_pos c3, if_pos c3]
        refine ev_dayP hev (pP hev hR c) ?_
        rcases c2 with rfl | h
        · decide
        · obtain ⟨k, _, h2, rfl⟩ := of_rng (lo := 3) (hi := 6) (by decide) (by decide) h
          rw [tN_nI (by omega)]
          omega
      · rw [if_neg c3, if_neg c3]; exact ⟨rfl, by decide⟩
    · rw [if_neg c2, if_neg c2]; exact ⟨rfl, by decide⟩
  · rw [if_neg c, if_neg c]; exact ⟨rfl, by decide⟩
theorem rr_sold (hev : Ev r r2) (n : Int32) : RR (rSold r n) (rSold r2 n) := by
  unfold rSold
  by_cases c : 0 ≤ n ∧ n ≤ 100
  · rw [if_pos c, if_pos c]; exact ev_day4 hev
  · rw [if_neg c, if_neg c]; exact ⟨rfl, by decide⟩
theorem RR_i {a b : Row} {v : Int32} : RR (.inr (a, v)) (.inr (b, v)) := rfl
theorem rr_fst (c : Nat → Bool) (N : Nat) : RR (fstR r c N) (fstR r2 c N) := by
  unfold fstR
  split
  · rfl
  · exact ⟨rfl, by decide⟩
theorem rr_when (hev : Ev r r2) (hR : RI r) (p v : Int32) : RR (rWhen r p v) (rWhen r2 p v) := by
  unfold rWhen
  rw [← hev.lo (j := 1) (by decide)]
  by_cases c : 0 ≤ p ∧ p < r 1
  · rw [if_pos c, if_pos c]
    by_cases c2 : 0 ≤ v ∧ v ≤ 9999
    · rw [if_pos c2, if_pos c2]
      rw [show (fun k => decide (v ≤ daysF r k (21 + 7 * tN p + 5))) = (fun k => decide (v ≤ daysF r2 k (21 + 7 * tN p + 5))) from funext fun k => by rw [ev_dayP hev (pP hev hR c) (n := k) (f := 5) (by decide)]]
      generalize (201 : Nat) = N9
      exact rr_fst _ _
    · rw [if_neg c2, if_neg c2]; exact ⟨rfl, by decide⟩
  · rw [if_neg c, if_neg c]; exact ⟨rfl, by decide⟩
theorem rr_cracks (hev : Ev r r2) (hR : RI r) (p : Int32) : RR (rCracks r p) (rCracks r2 p) := by
  unfold rCracks
  rw [← hev.lo (j := 1) (by decide)]
  by_cases c : 0 ≤ p ∧ p < r 1
  · rw [if_pos c, if_pos c]
    rw [show (fun k => decide (r (21 + 7 * tN p + 6) + 1 ≤ daysF r k (21 + 7 * tN p + 6))) = (fun k => decide (r2 (21 + 7 * tN p + 6) + 1 ≤ daysF r2 k (21 + 7 * tN p + 6))) from funext fun k => by rw [ev_dayP hev (pP hev hR c) (n := k) (f := 6) (by decide), hev.p (pP hev hR c) (f := 6) (by decide)]]
    generalize (201 : Nat) = N9
    exact rr_fst _ _
  · rw [if_neg c, if_neg c]; exact ⟨rfl, by decide⟩
theorem rr_tinted (hev : Ev r r2) (hR : RI r) (p w : Int32) : RR (rTinted r p w) (rTinted r2 p w) := by
  unfold rTinted
  rw [← hev.lo (j := 1) (by decide)]
  by_cases c : 0 ≤ p ∧ p < r 1
  · rw [if_pos c, if_pos c]
    by_cases c2 : 0 ≤ w ∧ w ≤ 7
    · rw [if_pos c2, if_pos c2]
      rw [show (fun k => decide (0 < daysF r k (21 + 7 * tN p + 5) ∧ daysF r k (21 + 7 * tN p + 4) = w)) = (fun k => decide (0 < daysF r2 k (21 + 7 * tN p + 5) ∧ daysF r2 k (21 + 7 * tN p + 4) = w)) from funext fun k => by rw [ev_dayP hev (pP hev hR c) (n := k) (f := 5) (by decide), ev_dayP hev (pP hev hR c) (n := k) (f := 4) (by decide)]]
      generalize (201 : Nat) = N9
      exact rr_fst _ _
    · rw [if_neg c2, if_neg c2]; exact ⟨rfl, by decide⟩
  · rw [if_neg c, if_neg c]; exact ⟨rfl, by decide⟩
theorem ev_upP (hev : Ev r r2) {k i f n : Nat} {v : Int32} (hk : k ≠ 1) (hi : i < cntN r) (hf : f < 7) : daysF (upd r k v) n (21 + 7 * i + f) = daysF (upd r2 k v) n (21 + 7 * i + f) := ev_dayP (hev.up hk rfl) (by rw [cnt_up hk]; exact hi) hf
theorem rr_hours (hev : Ev r r2) (hR : RI r) (p v n : Int32) : RR (rHours r p v n) (rHours r2 p v n) := by
  unfold rHours
  rw [← hev.lo (j := 1) (by decide)]
  by_cases c : 0 ≤ p ∧ p < r 1
  · rw [if_pos c, if_pos c]
    by_cases c2 : 0 ≤ v ∧ v ≤ 9999
    · rw [if_pos c2, if_pos c2]
      by_cases c3 : 0 ≤ n ∧ n ≤ 60
      · rw [if_pos c3, if_pos c3]
        rw [show (fun k => decide (v ≤ daysF (upd r (21 + 7 * tN p + 2) (nI k)) (tN n) (21 + 7 * tN p + 5))) = (fun k => decide (v ≤ daysF (upd r2 (21 + 7 * tN p + 2) (nI k)) (tN n) (21 + 7 * tN p + 5))) from funext fun k => by rw [ev_upP hev (by omega) (pP hev hR c) (f := 5) (by decide)]]
        generalize (10 : Nat) = N9
        exact rr_fst _ _
      · rw [if_neg c3, if_neg c3]; exact ⟨rfl, by decide⟩
    · rw [if_neg c2, if_neg c2]; exact ⟨rfl, by decide⟩
  · rw [if_neg c, if_neg c]; exact ⟨rfl, by decide⟩
theorem rr_kindFor (hev : Ev r r2) (hR : RI r) (p n : Int32) : RR (rKindFor r p n) (rKindFor r2 p n) := by
  unfold rKindFor
  rw [← hev.lo (j := 1) (by decide)]
  by_cases c : 0 ≤ p ∧ p < r 1
  · rw [if_pos c, if_pos c]
    by_cases c3 : 0 ≤ n ∧ n ≤ 60
    · rw [if_pos c3, if_pos c3]
      rw [show (fun k => daysF (upd r (21 + 7 * tN p) (nI k)) (tN n) 4) = (fun k => daysF (upd r2 (21 + 7 * tN p) (nI k)) (tN n) 4) from funext fun k => ev_day4 (hev.up (by omega) rfl)]
      exact RR_i
    · rw [if_neg c3, if_neg c3]; exact ⟨rfl, by decide⟩
  · rw [if_neg c, if_neg c]; exact ⟨rfl, by decide⟩
theorem rr_griefFor (hev : Ev r r2) (hR : RI r) (p n : Int32) : RR (rGriefFor r p n) (rGriefFor r2 p n) := by
  unfold rGriefFor
  rw [← hev.lo (j := 1) (by decide)]
  by_cases c : 0 ≤ p ∧ p < r 1
  · rw [if_pos c, if_pos c]
    by_cases c3 : 0 ≤ n ∧ n ≤ 60
    · rw [if_pos c3, if_pos c3]
      rw [show (fun k => decide (daysF (upd r (21 + 7 * tN p + 1) (nI k)) (tN n) (21 + 7 * tN p + 6) = r (21 + 7 * tN p + 6))) = (fun k => decide (daysF (upd r2 (21 + 7 * tN p + 1) (nI k)) (tN n) (21 + 7 * tN p + 6) = r2 (21 + 7 * tN p + 6))) from funext fun k => by rw [ev_upP hev (by omega) (pP hev hR c) (f := 6) (by decide), hev.p (pP hev hR c) (f := 6) (by decide)]]
      generalize (100 : Nat) = N9
      exact rr_fst _ _
    · rw [if_neg c3, if_neg c3]; exact ⟨rfl, by decide⟩
  · rw [if_neg c, if_neg c]; exact ⟨rfl, by decide⟩
theorem rr_weatherFor (hev : Ev r r2) (i n : Int32) : RR (rWeatherFor r i n) (rWeatherFor r2 i n) := by
  unfold rWeatherFor
  by_cases c : 0 ≤ i ∧ i ≤ 5
  · rw [if_pos c, if_pos c]
    by_cases c3 : 0 ≤ n ∧ n ≤ 40
    · rw [if_pos c3, if_pos c3]
      rw [show (fun k => daysF (upd r (5 + tN i) (nI k)) (tN n) 4) = (fun k => daysF (upd r2 (5 + tN i) (nI k)) (tN n) 4) from funext fun k => ev_day4 (hev.up (by omega) rfl)]
      exact RR_i
    · rw [if_neg c3, if_neg c3]; exact ⟨rfl, by decide⟩
  · rw [if_neg c, if_neg c]; exact ⟨rfl, by decide⟩
theorem rr_onionsFor (hev : Ev r r2) (v n : Int32) : RR (rOnionsFor r v n) (rOnionsFor r2 v n) := by
  unfold rOnionsFor
  by_cases c : 0 ≤ v ∧ v ≤ 99999
  · rw [if_pos c, if_pos c]
    by_cases c3 : 0 ≤ n ∧ n ≤ 40
    · rw [if_pos c3, if_pos c3]
      rw [show (fun k => decide (v ≤ daysF (upd r 3 (nI k)) (tN n) 4)) = (fun k => decide (v ≤ daysF (upd r2 3 (nI k)) (tN n) 4)) from funext fun k => by rw [ev_day4 (hev.up (k := 3) (by decide) rfl)]]
      generalize (100 : Nat) = N9
      exact rr_fst _ _
    · rw [if_neg c3, if_neg c3]; exact ⟨rfl, by decide⟩
  · rw [if_neg c, if_neg c]; exact ⟨rfl, by decide⟩
theorem rr_orN (v : Int32) : RR (orNR v) (orNR v) := by
  unfold orNR
  split
  · rfl
  · exact ⟨rfl, by decide⟩
theorem rr_stay (hev : Ev r r2) (w n : Int32) : RR (rStayM r w n) (rStayM r2 w n) := by
  unfold rStayM
  by_cases c : 0 ≤ w ∧ w ≤ 7
  · rw [if_pos c, if_pos c]
    by_cases c3 : 0 ≤ n ∧ n ≤ 20
    · rw [if_pos c3, if_pos c3]
      have e : (fun s => decide (noC (daysF (keepR r (nI s) (cntN r)) (tN n)) w)) = (fun s => decide (noC (daysF (keepR r2 (nI s) (cntN r2)) (tN n)) w)) := funext fun s => by
        have h := ev_no (w := w) (ev_days (ev_keep hev (set := nI s) (cntN r)) (tN n))
        rw [hev.c]
        exact decide_eq_decide.mpr h
      rw [e, hev.c]
      exact rr_orN _
    · rw [if_neg c3, if_neg c3]; exact ⟨rfl, by decide⟩
  · rw [if_neg c, if_neg c]; exact ⟨rfl, by decide⟩
theorem rr_lack {z : Row} {s : Int32} {G : Prop} [Decidable G] : RR (.inl (lackK z s G)) (.inl (lackK z s G)) := ⟨rfl, lackK_lt⟩
theorem ev_okU (hev : Ev r r2) {y : Row} {o k i n : Nat} {v : Int32} (hk : k ≠ 1) (hi : i < cntN r) : okN y o (upd r k v) i n = okN y o (upd r2 k v) i n := ev_ok (hev.up hk rfl) (by rw [cnt_up hk]; exact hi) n
theorem rr_fits (hev : Ev r r2) (hR : RI r) (y z u : Row) (s p : Int32) : RR (rFits r y z u s p) (rFits r2 y z u s p) := by
  unfold rFits
  rw [← hev.lo (j := 1) (by decide)]
  by_cases c : lackV z s (0 ≤ p ∧ p < r 1) = 0
  · rw [if_pos c, if_pos c]
    obtain ⟨_, _, _, _, hG⟩ := lack_ok c
    rw [show (fun v => okN y (40 * tN s) (upd r (21 + 7 * tN p + 1) (nI v)) (tN p) (min (tN (u (tN s))) 10)) = (fun v => okN y (40 * tN s) (upd r2 (21 + 7 * tN p + 1) (nI v)) (tN p) (min (tN (u (tN s))) 10)) from funext fun v => ev_okU hev (by omega) (pP hev hR hG)]
    exact RR_i
  · rw [if_neg c, if_neg c]; exact rr_lack
theorem rr_grief (hev : Ev r r2) (hR : RI r) (y z u : Row) (s p : Int32) : RR (rGrief r y z u s p) (rGrief r2 y z u s p) := by
  unfold rGrief
  rw [← hev.lo (j := 1) (by decide)]
  by_cases c : lackV z s (0 ≤ p ∧ p < r 1) = 0
  · rw [if_pos c, if_pos c]
    obtain ⟨_, _, _, _, hG⟩ := lack_ok c
    rw [show (fun v => okN y (40 * tN s) (upd r (21 + 7 * tN p + 1) (nI v)) (tN p) (min (tN (u (tN s))) 10)) = (fun v => okN y (40 * tN s) (upd r2 (21 + 7 * tN p + 1) (nI v)) (tN p) (min (tN (u (tN s))) 10)) from funext fun v => ev_okU hev (by omega) (pP hev hR hG)]
    exact rr_orN _
  · rw [if_neg c, if_neg c]; exact rr_lack
theorem rr_kinds (hev : Ev r r2) (hR : RI r) (y z u : Row) (s p : Int32) : RR (rKinds r y z u s p) (rKinds r2 y z u s p) := by
  unfold rKinds
  rw [← hev.lo (j := 1) (by decide)]
  by_cases c : lackV z s (0 ≤ p ∧ p < r 1) = 0
  · rw [if_pos c, if_pos c]
    obtain ⟨_, _, _, _, hG⟩ := lack_ok c
    rw [show (fun v => okN y (40 * tN s) (upd r (21 + 7 * tN p) (nI v)) (tN p) (min (tN (u (tN s))) 10)) = (fun v => okN y (40 * tN s) (upd r2 (21 + 7 * tN p) (nI v)) (tN p) (min (tN (u (tN s))) 10)) from funext fun v => ev_okU hev (by omega) (pP hev hR hG)]
    exact RR_i
  · rw [if_neg c, if_neg c]; exact rr_lack
theorem stormN_RI (hR : RI r) : ∀ n, RI (stormN r n)
  | 0 => hR
  | n + 1 => stormF_RI (stormN_RI hR n)
theorem rr_storms (hev : Ev r r2) (hR : RI r) (n : Int32) : RS r r2 (rStorms r n) (rStorms r2 n) := by
  unfold rStorms
  rw [← hev.lo (j := 0) (by decide)]
  by_cases c : 1 ≤ n ∧ n ≤ 20
  · rw [if_pos c, if_pos c]
    by_cases c2 : 99999 < r 0 + n
    · rw [if_pos c2, if_pos c2]; exact RS_inl hev hR (by decide)
    · rw [if_neg c2, if_neg c2]
      exact RS_inr ((ev_stormN hev _).lo (by decide)) (ev_stormN hev _) (stormN_RI hR _)
  · rw [if_neg c, if_neg c]; exact RS_inl hev hR (by decide)
theorem rr_odds (hev : Ev r r2) (hR : RI r) (p n w : Int32) : rOdds r2 p n w = rOdds r p n w := by
  unfold rOdds
  rw [← hev.lo (j := 1) (by decide)]
  by_cases c : 0 ≤ p ∧ p < r 1
  · rw [if_pos c, if_pos c, ev_gd hev (pP hev hR c) 100]
  · rw [if_neg c, if_neg c]
theorem odds_lt {p n w : Int32} {a : Nat} (h : rOdds r p n w = .inl a) : a < 7 := by
  unfold rOdds at h
  split at h
  · split at h
    · split at h
      · cases h
      · cases h; decide
    · cases h; decide
  · cases h; decide
theorem rr_hold (hev : Ev r r2) (hR : RI r) (s p : Int32) : RS r r2 (rHold r s p) (rHold r2 s p) := by
  unfold rHold
  rw [← hev.lo (j := 1) (by decide)]
  by_cases c : 0 ≤ s ∧ s ≤ 9
  · rw [if_pos c, if_pos c]
    have hs := rgt (hi := 9) c (by decide)
    by_cases c2 : p = -1 ∨ (0 ≤ p ∧ p < r 1)
    · rw [if_pos c2, if_pos c2]
      refine RS_inr rfl (hev.up (by omega) rfl) (RI_spot hR (by omega) ?_)
      rcases c2 with h | h
      · exact Or.inl h
      · obtain ⟨n, d, h1, h2, _⟩ := hR
        obtain ⟨k, hk, e⟩ := pot_nat h h1 (by omega)
        exact Or.inr ⟨k, by rw [cntN_eq h1 h2]; exact hk, e⟩
    · rw [if_neg c2, if_neg c2]; exact RS_inl hev hR (by decide)
  · rw [if_neg c, if_neg c]; exact RS_inl hev hR (by decide)
theorem as_row {s w : Int32} : rowR r (rAs r s w) = r := by
  unfold rAs
  split
  · split
    · split
      · rfl
      · split <;> rfl
    · rfl
  · rfl
theorem rr_as (hev : Ev r r2) (hR : RI r) (s w : Int32) : RR (rAs r s w) (rAs r2 s w) := by
  unfold rAs
  by_cases c : 0 ≤ s ∧ s ≤ 9
  · rw [if_pos c, if_pos c]
    have hs := rgt (hi := 9) c (by decide)
    rw [← hev.lo (j := 11 + tN s) (by omega)]
    by_cases c2 : 0 ≤ w ∧ w ≤ 6
    · rw [if_pos c2, if_pos c2]
      by_cases c3 : r (11 + tN s) < 0
      · rw [if_pos c3, if_pos c3]; exact ⟨rfl, by decide⟩
      · rw [if_neg c3, if_neg c3]
        obtain ⟨n, d, h1, h2, _, _, _, _, _, h8, _⟩ := hR
        rcases h8 (tN s) (by omega) with e | ⟨k, hk, e⟩
        · exact absurd (show r (11 + tN s) < 0 by rw [e]; decide) c3
        · rw [e, tN_nI (k := k) (by omega), ← hev.p0 (i := k) (by rw [cntN_eq h1 h2]; exact hk)]
          split
          · rfl
          · exact ⟨rfl, by decide⟩
    · rw [if_neg c2, if_neg c2]; exact ⟨rfl, by decide⟩
  · rw [if_neg c, if_neg c]; exact ⟨rfl, by decide⟩
theorem fst_spec {c : Nat → Bool} : ∀ n, fstN c n ≤ n ∧ ∀ j, j < fstN c n → c j = false
  | 0 => ⟨Nat.le_refl _, fun j h => absurd h (Nat.not_lt_zero _)⟩
  | n + 1 => by
    obtain ⟨h1, h2⟩ := fst_spec (c := c) n
    rw [fstN]
    by_cases q : fstN c n < n
    · rw [if_pos q]
      exact ⟨by omega, h2⟩
    · rw [if_neg q]
      have e : fstN c n = n := by omega
      rw [e] at h2
      by_cases q2 : c n = true
      · rw [if_pos q2]
        exact ⟨by omega, h2⟩
      · rw [if_neg q2]
        refine ⟨Nat.le_refl _, fun j hj => ?_⟩
        by_cases ej : j = n
        · rw [ej]; exact Bool.eq_false_iff.mpr q2
        · exact h2 j (by omega)
theorem load_ev (hev : Ev r r2) (hR : RI r) {y : Row} {o : Nat} : ∀ k, k ≤ 6 → (∀ j, j < k → badW y o j = false) → Ev (loadR r y o k) (loadR r2 y o k) ∧ RI (loadR r y o k)
  | 0, _, _ => by rw [loadR_0, loadR_0]; exact ⟨hev, hR⟩
  | k + 1, hk, h => by
    obtain ⟨h1, h2⟩ := load_ev hev hR k (by omega) (fun j hj => h j (by omega))
    rw [← loadR_s, ← loadR_s]
    have hb := h k (by omega)
    have hb : 0 ≤ y (o + k) ∧ y (o + k) ≤ 99 := Classical.byContradiction fun q => by
      unfold badW at hb
      rw [decide_eq_true q] at hb
      exact absurd hb (by decide)
    exact ⟨h1.up (by omega) rfl, RI_list h2 (by omega) (rg (hi := 99) hb (by decide))⟩
theorem rr_load (hev : Ev r r2) (hR : RI r) (y z u : Row) (s : Int32) : RS r r2 (rLoad r y z u s) (rLoad r2 y z u s) := by
  unfold rLoad
  by_cases c : lackV z s True = 0
  · rw [if_pos c, if_pos c]
    obtain ⟨h1, h2⟩ := fst_spec (c := badW y (40 * tN s)) (min (tN (u (tN s))) 6)
    obtain ⟨h3, h4⟩ := load_ev hev hR (y := y) (o := 40 * tN s) _ (by omega) h2
    exact RS_inr rfl h3 h4
  · rw [if_neg c, if_neg c]; exact RS_inl hev hR lackK_lt
theorem rr_judge (hev : Ev r r2) (y z u : Row) (s : Int32) : RR (rJudge r y z u s) (rJudge r2 y z u s) := by
  unfold rJudge
  by_cases c : lackV z s True = 0
  · rw [if_pos c, if_pos c]
    have e : badJ r y (40 * tN s) = badJ r2 y (40 * tN s) := funext fun k => by
      unfold badJ
      rw [hev.c]
      by_cases hk : k < cntN r
      · rw [hev.p hk (f := 4) (by decide)]
      · rw [decide_eq_true (show ¬ (k < cntN r ∧ _) from fun q => hk q.1), decide_eq_true (show ¬ (k < cntN r ∧ _) from fun q => hk q.1)]
    rw [e]
    rfl
  · rw [if_neg c, if_neg c]; exact rr_lack
theorem count_row {t v : Int32} : rowR r (rCount r t v) = r := by
  unfold rCount
  repeat' split
  all_goals rfl
theorem rr_count (hev : Ev r r2) (t v : Int32) : RR (rCount r t v) (rCount r2 t v) := by
  unfold rCount
  rw [hev.c]
  split
  · exact hev.lo (by decide)
  · split
    · exact hev.lo (by decide)
    · split
      · exact hev.lo (by decide)
      · split
        · exact ev_sum hev (by decide) _ (Nat.le_refl _)
        · split
          · exact ev_sum hev (by decide) _ (Nat.le_refl _)
          · split
            · rfl
            · split
              · exact hev.lo (by decide)
              · split
                · exact ev_held hev _ (Nat.le_refl _)
                · exact ⟨rfl, by decide⟩
theorem rr_status {f f2 : Row} (h : FR f f2) (v : Int32) : RR (rStatC f v) (rStatM f2 v) := by
  unfold rStatC rStatM
  by_cases c : v = -1
  · subst c
    rw [if_pos rfl, if_pos (by decide)]
    exact h.2.symm
  · rw [if_neg c]
    by_cases c2 : 0 ≤ v ∧ v ≤ 6
    · obtain ⟨k, hk, rfl⟩ := rg (hi := 6) c2 (by decide)
      rw [if_pos c2, if_pos ⟨Int32.le_trans (by decide) c2.1, c2.2⟩]
      show f (tN (nI k)) = f2 (tN (nI k + 1))
      rw [nI_1, tN_nI (by omega), tN_nI (by omega), h.1 k (by omega)]
    · rw [if_neg c2, if_neg (fun q => c2 ⟨?_, q.2⟩)]
      · exact ⟨rfl, by decide⟩
      · have h1 := Int32.le_iff_toInt_le.mp q.1
        have h2 : ¬ v.toInt = -1 := fun z => c (Int32.toInt_inj.mp z)
        have h3 : (-1 : Int32).toInt = -1 := by decide
        rw [h3] at h1
        exact Int32.le_iff_toInt_le.mpr (by show (0 : Int32).toInt ≤ v.toInt; have : (0 : Int32).toInt = 0 := by decide
                                            omega)
end RE
/-! images, sheets, feeding -/
section IM
variable {i : Int32} {r k u tb f : Row} {len : Nat} {q r2 k2 f2 tp : Row}
theorem rr_undo (h : Inv i r k u tb f len q r2 k2 f2 tp) : RR (rUndo k i) (rUndo k2 (q 0)) := by
  unfold rUndo
  rw [h.2.2.2.2.1]
  by_cases c : i = 0
  · rw [if_pos c, if_pos c]; exact ⟨rfl, by decide⟩
  · rw [if_neg c, if_neg c]; exact (h.2.2.2.1 c).lo (by decide)
theorem inv_undo (h : Inv i r k u tb f len q r2 k2 f2 tp) : Inv i (pick (rUndo k i) r (becF r k)) k u tb (fndC f (rUndo k i)) len q (rowR r2 (rUndo k2 (q 0))) k2 (fndM f2 (rUndo k2 (q 0))) tp := by
  have h0 := inv_ans h (rr_undo h) (q' := q) rfl rfl
  refine inv_r h0 ?_ ?_
  · unfold rUndo
    rw [h.2.2.2.2.1]
    by_cases c : i = 0
    · rw [if_pos c, if_pos c]; exact h.1
    · rw [if_neg c, if_neg c]; exact Ev.bec.tr (h.2.2.2.1 c)
  · unfold rUndo
    by_cases c : i = 0
    · rw [if_pos c]; exact h.2.1
    · rw [if_neg c]; exact RI_ev Ev.bec.sy h.2.2.1
theorem inv_image (h : Inv i r k u tb f len q r2 k2 f2 tp) : Inv 1 r (becF k r) u tb f len (upd q 0 1) r2 r2 f2 tp := ⟨h.1, h.2.1, RI_ev Ev.bec.sy h.2.1, fun _ => Ev.bec.tr h.1, upd_at, h.2.2.2.2.2.1, h.2.2.2.2.2.2.1, (upd_ne (by decide)).trans h.2.2.2.2.2.2.2.1, h.2.2.2.2.2.2.2.2.1, h.2.2.2.2.2.2.2.2.2⟩
theorem inv_tear (h : Inv i r k u tb f len q r2 k2 f2 tp) : Inv 0 r k u tb f len (upd q 0 0) r2 k2 f2 tp := ⟨h.1, h.2.1, h.2.2.1, fun c => absurd rfl c, upd_at, h.2.2.2.2.2.1, h.2.2.2.2.2.2.1, (upd_ne (by decide)).trans h.2.2.2.2.2.2.2.1, h.2.2.2.2.2.2.2.2.1, h.2.2.2.2.2.2.2.2.2⟩
theorem tear_ans (h : Inv i r k u tb f len q r2 k2 f2 tp) : bI (¬ i = 0) = if q 0 = 0 then 0 else 1 := by
  rw [h.2.2.2.2.1]
  by_cases c : i = 0
  · rw [if_pos c, bI, if_neg (fun z => z c)]
  · rw [if_neg c, bI, if_pos c]
theorem inv_wipe (h : Inv i r k u tb f len q r2 k2 f2 tp) : Inv i r k u tb f 0 (upd q 3 0) r2 k2 f2 tp := ⟨h.1, h.2.1, h.2.2.1, h.2.2.2.1, (upd_ne (by decide)).trans h.2.2.2.2.1, h.2.2.2.2.2.1, Nat.zero_le _, upd_at, fun j hj => absurd hj (Nat.not_lt_zero _), h.2.2.2.2.2.2.2.2.2⟩
theorem rr_sheet (s b n : Int32) : RR (rSheet s b n) (rSheet s b n) := by
  unfold rSheet
  split
  · split
    · split
      · exact ⟨rfl, by decide⟩
      · split
        · exact ⟨rfl, by decide⟩
        · rfl
    · exact ⟨rfl, by decide⟩
  · exact ⟨rfl, by decide⟩
theorem sheet_u {s b n : Int32} (hu : ∀ j, j < 4 → le9 (u j) 40) : ∀ j, j < 4 → le9 (pick (rSheet s b n) u (upd u (tN s) (ansR (rSheet s b n))) j) 40 := by
  have key : ∀ v : Int32, le9 v 40 → ∀ j, j < 4 → le9 (upd u (tN s) v j) 40 := fun v hv j hj => by
    unfold upd
    split
    · exact hv
    · exact hu j hj
  unfold rSheet
  split
  · split
    · split
      · exact hu
      · rename_i h0
        split
        · exact hu
        · rename_i h4
          refine key _ ?_
          show le9 (if b = 0 then 0 else n) 40
          split
          · exact ⟨0, by decide, rfl⟩
          · exact rg (hi := 40) ⟨Int32.not_lt.mp h0, Int32.not_lt.mp h4⟩ (by decide)
    · exact hu
  · exact hu
theorem rr_write (y z u : Row) (s i v : Int32) : RR (rWrite y z u s i v) (rWrite y z u s i v) := by
  unfold rWrite
  split
  · split
    · exact ⟨rfl, by decide⟩
    · split
      · rfl
      · exact ⟨rfl, by decide⟩
  · exact ⟨rfl, by decide⟩
theorem rr_copy (z u : Row) (s f t o n : Int32) : RR (rCopy z u s f t o n) (rCopy z u s f t o n) := by
  unfold rCopy
  split
  · split
    · split
      · exact ⟨rfl, by decide⟩
      · split
        · split
          · rfl
          · exact ⟨rfl, by decide⟩
        · exact ⟨rfl, by decide⟩
    · exact ⟨rfl, by decide⟩
  · exact ⟨rfl, by decide⟩
theorem rr_feed (len : Nat) (n : Int32) : RR (rFeed len n) (rFeed len n) := by
  unfold rFeed
  split
  · split
    · exact ⟨rfl, by decide⟩
    · rfl
  · exact ⟨rfl, by decide⟩
theorem fd_at {tp : Row} {v : Int32} {len K : Nat} : ∀ n j, fdN tp v len K n j = if len ≤ j ∧ j < len + n then byteM v (K - 1 - (j - len)) else tp j
  | 0, j => by rw [if_neg (by omega)]; rfl
  | n + 1, j => by
    rw [fdN]
    unfold upd
    by_cases e : j = len + n
    · rw [if_pos e, if_pos (by omega), e, show len + n - len = n by omega]
    · rw [if_neg e, fd_at n j]
      by_cases q : len ≤ j ∧ j < len + n
      · rw [if_pos q, if_pos (by omega)]
      · rw [if_neg q, if_neg (by omega)]
theorem fdC_at {tb : Row} {v : Int32} {len K : Nat} : ∀ n j, fdC tb v len K n j = if len ≤ j ∧ j < len + n then bC (v.toUInt32 >>> ((nI (8 * (K - 1 - (j - len)))).toUInt32 &&& Int32.toUInt32 31)).toInt32 else tb j
  | 0, j => by rw [if_neg (by omega)]; rfl
  | n + 1, j => by
    rw [fdC]
    unfold upd
    by_cases e : j = len + n
    · rw [if_pos e, if_pos (by omega), e, show len + n - len = n by omega]
    · rw [if_neg e, fdC_at n j]
      by_cases q : len ≤ j ∧ j < len + n
      · rw [if_pos q, if_pos (by omega)]
      · rw [if_neg q, if_neg (by omega)]
theorem feed_rel (h : Inv i r k u tb f len q r2 k2 f2 tp) (v n : Int32) : ∃ len2 : Nat, lenF (nI len) (rFeed len n) = nI len2 ∧ Inv i r k u (pick (rFeed len n) tb (fdC tb v len (tN n) (tN n))) (fndC f (rFeed len n)) len2 (pick (rFeed len n) q (upd q 3 (nI (len + tN n)))) r2 k2 (fndM f2 (rFeed len n)) (pick (rFeed len n) tp (fdN tp v len (tN n) (tN n))) := by
  have hl := h.2.2.2.2.2.2.1
  have hf := FR_res h.2.2.2.2.2.2.2.2.2 (rr_feed len n)
  by_cases c : 1 ≤ n ∧ n ≤ 4
  · obtain ⟨a, h1, h2, rfl⟩ := of_rng (lo := 1) (hi := 4) (by decide) (by decide) c
    by_cases c2 : 120 < nI len + nI a
    · have e : rFeed len (nI a) = .inl 1 := by unfold rFeed; rw [if_pos c, if_pos c2]
      rw [e] at hf ⊢
      exact ⟨len, rfl, h.1, h.2.1, h.2.2.1, h.2.2.2.1, h.2.2.2.2.1, h.2.2.2.2.2.1, hl, h.2.2.2.2.2.2.2.1, h.2.2.2.2.2.2.2.2.1, hf⟩
    · have e : rFeed len (nI a) = .inr (fun _ => 0, nI len + nI a) := by unfold rFeed; rw [if_pos c, if_neg c2]
      rw [nI_add] at c2
      have hle : len + a ≤ 120 := Nat.le_of_not_lt (fun z => c2 (nI_lt (a := 120) z (by omega)))
      rw [e] at hf ⊢
      rw [tN_nI (k := a) (by omega)]
      refine ⟨len + a, (show nI len + nI a = nI (len + a) from nI_add _ _), h.1, h.2.1, h.2.2.1, h.2.2.2.1, (upd_ne (by decide)).trans h.2.2.2.2.1, h.2.2.2.2.2.1, hle, upd_at, ?_, hf⟩
      intro j hj
      show (∃ k : Nat, k < 128 ∧ fdN tp v len a a j = nI k ∧ fdC tb v len a a j = nI k) ∨ (∃ k : Nat, 128 ≤ k ∧ k ≤ 255 ∧ fdN tp v len a a j = nI k ∧ fdC tb v len a a j < 0)
      rw [fd_at, fdC_at]
      by_cases q : len ≤ j ∧ j < len + a
      · rw [if_pos q, if_pos q]
        exact byte_rel v (by omega)
      · rw [if_neg q, if_neg q]
        exact h.2.2.2.2.2.2.2.2.1 j (by omega)
  · have e : rFeed len n = .inl 0 := by unfold rFeed; rw [if_neg c]
    rw [e] at hf ⊢
    exact ⟨len, rfl, h.1, h.2.1, h.2.2.1, h.2.2.2.1, h.2.2.2.2.1, h.2.2.2.2.2.1, hl, h.2.2.2.2.2.2.2.1, h.2.2.2.2.2.2.2.2.1, hf⟩
theorem inv_odds (h : Inv i r k u tb f len q r2 k2 f2 tp) (p n w : Int32) : Inv i r k u tb (fndCL f (rOdds r p n w)) len q r2 k2 (fndL f2 (rOdds r2 p n w)) tp := by
  refine ⟨h.1, h.2.1, h.2.2.1, h.2.2.2.1, h.2.2.2.2.1, h.2.2.2.2.2.1, h.2.2.2.2.2.2.1, h.2.2.2.2.2.2.2.1, h.2.2.2.2.2.2.2.2.1, ?_⟩
  rw [rr_odds h.1 h.2.1]
  cases e : rOdds r p n w with
  | inl a => exact FR_up h.2.2.2.2.2.2.2.2.2 (odds_lt e)
  | inr v => exact h.2.2.2.2.2.2.2.2.2
end IM
