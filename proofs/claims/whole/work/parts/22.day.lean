/-! a day, as the code of the hills says it -/
def mn (x y : Int32) : Int32 := if y < x then y else x
def mx (x y : Int32) : Int32 := if x < y then y else x
def cntN (r : Row) : Nat := (r 1).toNatClampNeg
def dayN (r : Row) : Nat := (r 0).toNatClampNeg
def criesR (r : Row) (i : Nat) : Int32 := criesV (r (21 + 7 * i)) (r (21 + 7 * i + 1)) (r (21 + 7 * i + 5)) (r 3)
def weathersR (r : Row) (i : Nat) (w : Int32) : Int32 := weathersV (r (21 + 7 * i)) (r (21 + 7 * i + 2)) w
def needsR (r : Row) (i : Nat) : Int32 := needsV (r (21 + 7 * i))
def tintR (r : Row) (i : Nat) : Int32 := tintV (r (21 + 7 * i)) (r (21 + 7 * i + 1)) (r (21 + 7 * i + 3))
def fetchesR (r : Row) (i : Nat) : Int32 := fetchesV (r (21 + 7 * i)) (r (21 + 7 * i + 4))
def healsR (r : Row) (i : Nat) : Int32 := healsV (r (21 + 7 * i))
def wthr (r : Row) : Int32 := r (5 + dayN r % 6)
def gath1 (r : Row) (i : Nat) (w : Int32) : Row := upd r (21 + 7 * i + 3) (mn (r (21 + 7 * i + 3) + (criesR r i + weathersR r i w)) 999)
def gath2 (r : Row) (i : Nat) : Row := upd r (21 + 7 * i + 1) (mx (r (21 + 7 * i + 1) - healsR r i) 0)
def gath3 (r : Row) (i : Nat) : Row := if r (21 + 7 * i) = 1 then (if r 3 ≤ 0 then r else upd r 3 (r 3 - 1)) else r
def gatherF (r : Row) (i : Nat) (w : Int32) : Row := gath3 (gath2 (gath1 r i w) i) i
def fireA (r : Row) (i : Nat) : Row := upd r (21 + 7 * i + 4) (tintR r i)
def fireB (r : Row) (i : Nat) : Row := upd r (21 + 7 * i + 5) (mn (r (21 + 7 * i + 5) + 1) 9999)
def fireC (r : Row) (i : Nat) : Row := upd r 4 (mn (r 4 + fetchesR r i) 99999)
def fireD (r : Row) (i : Nat) : Row := upd r (21 + 7 * i + 6) (mn (r (21 + 7 * i + 6) + 1) 9999)
def fireE (r : Row) (i : Nat) : Row := upd r (21 + 7 * i + 1) (mn (r (21 + 7 * i + 1) + 15) 99)
def fireF (r : Row) (i : Nat) : Row := upd (if needsR r i ≤ r (21 + 7 * i + 3) then fireC (fireB (fireA r i) i) i else fireE (fireD r i) i) (21 + 7 * i + 3) 0
def gathN (r : Row) (w : Int32) : Nat → Row
  | 0 => r
  | i + 1 => gatherF (gathN r w i) i w
def fireN (r : Row) : Nat → Row
  | 0 => r
  | i + 1 => fireF (fireN r i) i
def dayEnd (r : Row) : Row := upd r 0 (mn (r 0 + 1) 99999)
def dayF (r : Row) : Row := dayEnd (if dayN r % 7 = 6 then fireN (gathN r (wthr r) (cntN r)) (cntN r) else gathN r (wthr r) (cntN r))
def daysF (r : Row) : Nat → Row
  | 0 => r
  | n + 1 => dayF (daysF r n)
/-- what holds of every row of hills: its numbers are within their bounds -/
def bnd (f : Nat) : Nat := match f with | 0 => 6 | 1 => 99 | 2 => 9 | 3 => 999 | 4 => 7 | _ => 9999
def le9 (x : Int32) (b : Nat) : Prop := ∃ k : Nat, k ≤ b ∧ x = nI k
def RI (r : Row) : Prop := ∃ n d : Nat, r 1 = nI n ∧ n ≤ 8 ∧ r 0 = nI d ∧ d ≤ 99999 ∧ le9 (r 3) 99 ∧ le9 (r 4) 99999 ∧ (∀ j, j < 6 → le9 (r (5 + j)) 99) ∧ (∀ j, j < 10 → r (11 + j) = -1 ∨ ∃ k : Nat, k < n ∧ r (11 + j) = nI k) ∧ ∀ i, i < n → ∀ f, f < 7 → le9 (r (21 + 7 * i + f)) (bnd f)
theorem cntN_eq {r : Row} {n : Nat} (h : r 1 = nI n) (hn : n ≤ 8) : cntN r = n := by
  unfold cntN
  rw [h, nI_clamp (by omega)]
theorem dayN_eq {r : Row} {d : Nat} (h : r 0 = nI d) (hd : d ≤ 99999) : dayN r = d := by
  unfold dayN
  rw [h, nI_clamp (by omega)]
theorem gatherF_lo {r : Row} {i : Nat} {w : Int32} {j : Nat} (h : j ≠ 3 ∧ j < 21) : gatherF r i w j = r j := by
  unfold gatherF gath3
  have h2 : gath2 (gath1 r i w) i j = r j := by
    unfold gath2 gath1
    rw [upd_ne (by omega), upd_ne (by omega)]
  split
  · split
    · exact h2
    · rw [upd_ne (by omega)]; exact h2
  · exact h2
theorem fireF_lo {r : Row} {i j : Nat} (h : j ≠ 4 ∧ j < 21) : fireF r i j = r j := by
  unfold fireF
  rw [upd_ne (by omega)]
  split
  · unfold fireC fireB fireA
    rw [upd_ne (by omega), upd_ne (by omega), upd_ne (by omega)]
  · unfold fireE fireD
    rw [upd_ne (by omega), upd_ne (by omega)]
theorem gathN_lo {r : Row} {w : Int32} {j : Nat} (h : j ≠ 3 ∧ j < 21) : ∀ n, gathN r w n j = r j
  | 0 => rfl
  | n + 1 => by
    show gatherF (gathN r w n) n w j = r j
    rw [gatherF_lo h, gathN_lo h n]
theorem fireN_lo {r : Row} {j : Nat} (h : j ≠ 4 ∧ j < 21) : ∀ n, fireN r n j = r j
  | 0 => rfl
  | n + 1 => by
    show fireF (fireN r n) n j = r j
    rw [fireF_lo h, fireN_lo h n]
theorem mn_nat {a b : Nat} (ha : a < 2147483648) (hb : b < 2147483648) : mn (nI a) (nI b) = nI (min a b) := by
  unfold mn
  by_cases h : b < a
  · rw [if_pos (nI_lt h ha), Nat.min_eq_right (by omega)]
  · rw [if_neg (nI_nlt (by omega) hb), Nat.min_eq_left (by omega)]
theorem dayF_1 (r : Row) : dayF r 1 = r 1 := by
  unfold dayF dayEnd
  rw [upd_ne (by decide)]
  split
  · rw [fireN_lo (by decide), gathN_lo (by decide)]
  · rw [gathN_lo (by decide)]
theorem dayF_0 {r : Row} {d : Nat} (h : r 0 = nI d) (hd : d ≤ 99999) : dayF r 0 = nI (min (d + 1) 99999) := by
  unfold dayF dayEnd
  rw [upd_at]
  have e : ∀ x : Row, x 0 = nI d → mn (x 0 + 1) 99999 = nI (min (d + 1) 99999) := fun x hx => by
    rw [hx, nI_1]
    exact mn_nat (b := 99999) (by omega) (by omega)
  apply e
  split
  · rw [fireN_lo (by decide), gathN_lo (by decide), h]
  · rw [gathN_lo (by decide), h]
theorem RI_lo {r r2 : Row} (h : RI r) (h1 : r2 1 = r 1) (h0 : r2 0 = r 0) (h3 : r2 3 = r 3) (h4 : r2 4 = r 4) (hl : ∀ j, j < 6 → r2 (5 + j) = r (5 + j)) (hs : ∀ j, j < 10 → r2 (11 + j) = r (11 + j)) (hp : ∀ i, i < 8 → ∀ f, f < 7 → le9 (r (21 + 7 * i + f)) (bnd f) → le9 (r2 (21 + 7 * i + f)) (bnd f)) : RI r2 := by
  obtain ⟨n, d, a1, a2, a3, a4, a5, a6, a7, a8, a9⟩ := h
  exact ⟨n, d, h1.trans a1, a2, h0.trans a3, a4, by rw [h3]; exact a5, by rw [h4]; exact a6, fun j hj => by rw [hl j hj]; exact a7 j hj, fun j hj => by rw [hs j hj]; exact a8 j hj, fun i hi f hf => hp i (by omega) f hf (a9 i hi f hf)⟩
theorem RI_pf {r : Row} {i f : Nat} {v : Int32} (h : RI r) (hf : f < 7) (hv : le9 v (bnd f)) : RI (upd r (21 + 7 * i + f) v) := by
  refine RI_lo h (upd_ne (by omega)) (upd_ne (by omega)) (upd_ne (by omega)) (upd_ne (by omega)) (fun j hj => upd_ne (by omega)) (fun j hj => upd_ne (by omega)) (fun k hk g hg h9 => ?_)
  by_cases e : 21 + 7 * k + g = 21 + 7 * i + f
  · have e1 : g = f := by omega
    rw [e, upd_at, e1]
    exact hv
  · rw [upd_ne e]
    exact h9
theorem RI_2 {r : Row} {v : Int32} (h : RI r) : RI (upd r 2 v) := RI_lo h (upd_ne (by decide)) (upd_ne (by decide)) (upd_ne (by decide)) (upd_ne (by decide)) (fun j hj => upd_ne (by omega)) (fun j hj => upd_ne (by omega)) (fun k hk g hg h9 => by rw [upd_ne (by omega)]; exact h9)
theorem RI_0 {r : Row} {d : Nat} (h : RI r) (hd : d ≤ 99999) : RI (upd r 0 (nI d)) := by
  obtain ⟨n, d0, a1, a2, a3, a4, a5, a6, a7, a8, a9⟩ := h
  exact ⟨n, d, (upd_ne (by decide)).trans a1, a2, upd_at, hd, by rw [upd_ne (by decide)]; exact a5, by rw [upd_ne (by decide)]; exact a6, fun j hj => by rw [upd_ne (by omega)]; exact a7 j hj, fun j hj => by rw [upd_ne (by omega)]; exact a8 j hj, fun i hi f hf => by rw [upd_ne (by omega)]; exact a9 i hi f hf⟩
theorem RI_3 {r : Row} {v : Int32} (h : RI r) (hv : le9 v 99) : RI (upd r 3 v) := by
  obtain ⟨n, d, a1, a2, a3, a4, a5, a6, a7, a8, a9⟩ := h
  exact ⟨n, d, (upd_ne (by decide)).trans a1, a2, (upd_ne (by decide)).trans a3, a4, by rw [upd_at]; exact hv, by rw [upd_ne (by decide)]; exact a6, fun j hj => by rw [upd_ne (by omega)]; exact a7 j hj, fun j hj => by rw [upd_ne (by omega)]; exact a8 j hj, fun i hi f hf => by rw [upd_ne (by omega)]; exact a9 i hi f hf⟩
theorem RI_4 {r : Row} {v : Int32} (h : RI r) (hv : le9 v 99999) : RI (upd r 4 v) := by
  obtain ⟨n, d, a1, a2, a3, a4, a5, a6, a7, a8, a9⟩ := h
  exact ⟨n, d, (upd_ne (by decide)).trans a1, a2, (upd_ne (by decide)).trans a3, a4, by rw [upd_ne (by decide)]; exact a5, by rw [upd_at]; exact hv, fun j hj => by rw [upd_ne (by omega)]; exact a7 j hj, fun j hj => by rw [upd_ne (by omega)]; exact a8 j hj, fun i hi f hf => by rw [upd_ne (by omega)]; exact a9 i hi f hf⟩
theorem RI_list {r : Row} {j : Nat} {v : Int32} (h : RI r) (hj : j < 6) (hv : le9 v 99) : RI (upd r (5 + j) v) := by
  obtain ⟨n, d, a1, a2, a3, a4, a5, a6, a7, a8, a9⟩ := h
  refine ⟨n, d, (upd_ne (by omega)).trans a1, a2, (upd_ne (by omega)).trans a3, a4, by rw [upd_ne (by omega)]; exact a5, by rw [upd_ne (by omega)]; exact a6, fun k hk => ?_, fun j hj => by rw [upd_ne (by omega)]; exact a8 j hj, fun i hi f hf => by rw [upd_ne (by omega)]; exact a9 i hi f hf⟩
  by_cases e : 5 + k = 5 + j
  · rw [e, upd_at]; exact hv
  · rw [upd_ne e]; exact a7 k hk
theorem RI_spot {r : Row} {j : Nat} {v : Int32} (h : RI r) (hj : j < 10) (hv : v = -1 ∨ ∃ k : Nat, k < cntN r ∧ v = nI k) : RI (upd r (11 + j) v) := by
  obtain ⟨n, d, a1, a2, a3, a4, a5, a6, a7, a8, a9⟩ := h
  rw [cntN_eq a1 a2] at hv
  refine ⟨n, d, (upd_ne (by omega)).trans a1, a2, (upd_ne (by omega)).trans a3, a4, by rw [upd_ne (by omega)]; exact a5, by rw [upd_ne (by omega)]; exact a6, fun k hk => by rw [upd_ne (by omega)]; exact a7 k hk, fun k hk => ?_, fun i hi f hf => by rw [upd_ne (by omega)]; exact a9 i hi f hf⟩
  by_cases e : 11 + k = 11 + j
  · rw [e, upd_at]; exact hv
  · rw [upd_ne e]; exact a8 k hk
/-! numbers of a potter as naturals -/
theorem nI_div10 {g : Nat} (h : g < 2147483648) : nI g / 10 = nI (g / 10) := pk_div (d := 10) h (by decide) (by decide)
theorem criesV_nat {k g t w : Int32} (hg : le9 g 99) : le9 (criesV k g t w) 20 := by
  obtain ⟨g', h1, rfl⟩ := hg
  unfold criesV
  rw [nI_div10 (by omega)]
  have e2 : (2 : Int32) * nI (g' / 10) = nI (2 * (g' / 10)) := pk_mul 2 (g' / 10)
  have e3 : nI (g' / 10) + 3 = nI (g' / 10 + 3) := nI_add _ 3
  have e4 : nI (2 * (g' / 10)) + 2 = nI (2 * (g' / 10) + 2) := nI_add _ 2
  rw [e2, e3, e4]
  repeat' split
  all_goals first | exact ⟨_, by omega, rfl⟩ | exact ⟨0, by omega, rfl⟩
theorem eight_nat {u : Nat} (h : u < 2147483648) : eight (nI u) = nI (u % 8) := pk_rem (d := 8) h (by decide) (by decide)
theorem plainV_nat {h w : Nat} (hh : h ≤ 9) (hw : w ≤ 99) : plainV (nI h) (nI w) = nI (h * (w / 10) / 2 + if h = 0 then 0 else w % 10) := by
  unfold plainV
  have e0 : w / 10 ≤ 9 := by omega
  have e1 : h * (w / 10) ≤ 81 := Nat.le_trans (Nat.mul_le_mul hh e0) (by decide)
  rw [nI_div10 (by omega), pk_mul, show nI (h * (w / 10)) / 2 = nI (h * (w / 10) / 2) from pk_div (d := 2) (by omega) (by decide) (by decide)]
  rw [show nI w - nI (w / 10) * 10 = nI (w % 10) from by rw [← nI_div10 (by omega)]; exact pk_rem (d := 10) (by omega) (by decide) (by decide)]
  by_cases h0 : h = 0
  · subst h0
    rw [if_pos (show nI 0 ≤ 0 by decide), if_pos rfl]
    exact nI_add _ 0
  · rw [if_neg (nI_nle (by omega) (by omega)), if_neg h0]
    exact nI_add _ _
theorem sun_nat {w : Nat} (hw : w ≤ 99) : nI w - nI w / 10 * 10 = nI (w % 10) := pk_rem (d := 10) (by omega) (by decide) (by decide)
theorem plain_le {h w : Nat} (hh : h ≤ 9) (hw : w ≤ 99) : h * (w / 10) / 2 + (if h = 0 then 0 else w % 10) ≤ 49 := by
  have e0 : w / 10 ≤ 9 := by omega
  have e1 : h * (w / 10) ≤ 81 := Nat.le_trans (Nat.mul_le_mul hh e0) (by decide)
  split <;> omega
theorem weathersV_nat {k h w : Int32} (hh : le9 h 9) (hw : le9 w 99) : le9 (weathersV k h w) 98 := by
  obtain ⟨h', a, rfl⟩ := hh
  obtain ⟨w', b, rfl⟩ := hw
  unfold weathersV
  rw [plainV_nat a b, sun_nat b]
  have hp := plain_le a b
  generalize h' * (w' / 10) / 2 + (if h' = 0 then 0 else w' % 10) = p at hp
  have e1 : nI p / 2 = nI (p / 2) := pk_div (d := 2) (by omega) (by decide) (by decide)
  have e2 : (2 : Int32) * nI p = nI (2 * p) := pk_mul 2 p
  rw [e1, e2]
  have hs : w' % 10 ≤ 9 := by omega
  generalize w' % 10 = s at hs
  repeat' split
  all_goals first | exact ⟨_, by omega, rfl⟩ | exact ⟨0, by omega, rfl⟩ | skip
  · rename_i q
    have q2 : s < p := by
      rcases Nat.lt_or_ge s p with z | z
      · exact z
      · exact absurd (nI_le z (by omega)) q
    exact ⟨p - s, by omega, pk_sub (by omega)⟩
theorem needsV_nat (k : Int32) : ∃ x : Nat, 30 ≤ x ∧ x ≤ 60 ∧ needsV k = nI x := by
  unfold needsV
  repeat' split
  · exact ⟨30, by omega, by omega, rfl⟩
  · exact ⟨50, by omega, by omega, rfl⟩
  · exact ⟨50, by omega, by omega, rfl⟩
  · exact ⟨30, by omega, by omega, rfl⟩
  · exact ⟨60, by omega, by omega, rfl⟩
  · exact ⟨50, by omega, by omega, rfl⟩
  · exact ⟨40, by omega, by omega, rfl⟩
theorem tintV_nat {k g u : Int32} (hu : le9 u 999) : le9 (tintV k g u) 7 := by
  obtain ⟨u', a, rfl⟩ := hu
  unfold tintV
  rw [nI_div10 (by omega), eight_nat (by omega), show nI (u' / 10 % 8) + 3 = nI (u' / 10 % 8 + 3) from nI_add _ 3, eight_nat (by omega)]
  repeat' split
  all_goals first | exact ⟨_, by omega, rfl⟩ | exact ⟨0, by omega, rfl⟩ | exact ⟨1, by omega, rfl⟩ | exact ⟨7, by omega, rfl⟩
theorem fetchesV_nat {k o : Int32} (ho : le9 o 7) : le9 (fetchesV k o) 100 := by
  obtain ⟨o', a, rfl⟩ := ho
  unfold fetchesV
  rw [show (20 : Int32) + nI o' = nI (20 + o') from nI_add 20 o', show (3 : Int32) * nI (20 + o') = nI (3 * (20 + o')) from pk_mul 3 _, show (1 : Int32) + nI o' = nI (1 + o') from nI_add 1 o', show (10 : Int32) + nI o' = nI (10 + o') from nI_add 10 o']
  repeat' split
  all_goals first | exact ⟨_, by omega, rfl⟩ | exact ⟨5, by omega, rfl⟩ | exact ⟨100, by omega, rfl⟩ | exact ⟨10, by omega, rfl⟩
theorem healsV_nat (k : Int32) : le9 (healsV k) 5 := by
  unfold healsV
  repeat' split
  all_goals first | exact ⟨2, by omega, rfl⟩ | exact ⟨0, by omega, rfl⟩ | exact ⟨5, by omega, rfl⟩ | exact ⟨1, by omega, rfl⟩
theorem mx_sub {a b : Nat} (ha : a < 1073741824) (hb : b < 1073741824) : mx (nI a - nI b) 0 = nI (a - b) := by
  unfold mx
  by_cases h : a < b
  · rw [if_pos (pk_sneg hb h), show a - b = 0 by omega]; rfl
  · rw [pk_sub (by omega), if_neg (nI_pos (by omega))]
theorem gatherF_RI {r : Row} {i : Nat} {w : Int32} (h : RI r) (hi : i < cntN r) (hw : le9 w 99) : RI (gatherF r i w) := by
  have h' := h
  obtain ⟨n, d, a1, a2, a3, a4, a5, a6, a7, a8, a9⟩ := h'
  rw [cntN_eq a1 a2] at hi
  have hr1 : RI (gath1 r i w) := by
    unfold gath1
    refine RI_pf h (by decide) ?_
    obtain ⟨x, x1, x2⟩ := a9 i hi 3 (by decide)
    obtain ⟨y, y1, y2⟩ := criesV_nat (k := r (21 + 7 * i)) (t := r (21 + 7 * i + 5)) (w := r 3) (a9 i hi 1 (by decide))
    obtain ⟨z, z1, z2⟩ := weathersV_nat (k := r (21 + 7 * i)) (a9 i hi 2 (by decide)) hw
    have x3 : x ≤ 999 := x1
    unfold criesR weathersR
    rw [x2, y2, z2, nI_add, nI_add, show mn (nI (x + (y + z))) 999 = nI (min (x + (y + z)) 999) from mn_nat (b := 999) (by omega) (by decide)]
    exact ⟨_, Nat.min_le_right _ _, rfl⟩
  have hr2 : RI (gath2 (gath1 r i w) i) := by
    unfold gath2
    refine RI_pf (f := 1) hr1 (by decide) ?_
    obtain ⟨y, y1, y2⟩ := healsV_nat (gath1 r i w (21 + 7 * i))
    have e : gath1 r i w (21 + 7 * i + 1) = r (21 + 7 * i + 1) := upd_ne (by omega)
    obtain ⟨x, x1, x2⟩ := a9 i hi 1 (by decide)
    have x3 : x ≤ 99 := x1
    unfold healsR
    rw [e, x2, y2, mx_sub (by omega) (by omega)]
    exact ⟨_, Nat.le_trans (Nat.sub_le _ _) x1, rfl⟩
  unfold gatherF gath3
  have e3 : gath2 (gath1 r i w) i 3 = r 3 := by
    unfold gath2 gath1
    rw [upd_ne (by omega), upd_ne (by omega)]
  split
  · split
    · exact hr2
    · rename_i q
      refine RI_3 hr2 ?_
      obtain ⟨x, x1, x2⟩ := a5
      rw [e3, x2] at q ⊢
      have x0 : 1 ≤ x := by
        rcases Nat.eq_zero_or_pos x with z | z
        · subst z; exact absurd (show nI 0 ≤ 0 by decide) q
        · exact z
      exact ⟨x - 1, by omega, pk_sub (b := 1) x0⟩
  · exact hr2
theorem fireF_RI {r : Row} {i : Nat} (h : RI r) (hi : i < cntN r) : RI (fireF r i) := by
  have h' := h
  obtain ⟨n, d, a1, a2, a3, a4, a5, a6, a7, a8, a9⟩ := h'
  rw [cntN_eq a1 a2] at hi
  unfold fireF
  refine RI_pf (f := 3) ?_ (by decide) ⟨0, by decide, rfl⟩
  split
  · have hA : RI (fireA r i) := RI_pf (f := 4) h (by decide) (tintV_nat (a9 i hi 3 (by decide)))
    have hB : RI (fireB (fireA r i) i) := by
      unfold fireB
      refine RI_pf (f := 5) hA (by decide) ?_
      have e : fireA r i (21 + 7 * i + 5) = r (21 + 7 * i + 5) := upd_ne (by omega)
      obtain ⟨x, x1, x2⟩ := a9 i hi 5 (by decide)
      have x3 : x ≤ 9999 := x1
      rw [e, x2, nI_1, show mn (nI (x + 1)) 9999 = nI (min (x + 1) 9999) from mn_nat (b := 9999) (by omega) (by decide)]
      exact ⟨_, Nat.min_le_right _ _, rfl⟩
    unfold fireC
    refine RI_4 hB ?_
    have e : fireB (fireA r i) i 4 = r 4 := by
      unfold fireB fireA
      rw [upd_ne (by omega), upd_ne (by omega)]
    have e2 : fireB (fireA r i) i (21 + 7 * i + 4) = tintR r i := by
      unfold fireB fireA
      rw [upd_ne (by omega), upd_at]
    obtain ⟨x, x1, x2⟩ := a6
    have ht : le9 (tintR r i) 7 := tintV_nat (a9 i hi 3 (by decide))
    obtain ⟨y, y1, y2⟩ := fetchesV_nat (k := fireB (fireA r i) i (21 + 7 * i)) (by rw [← e2] at ht; exact ht)
    unfold fetchesR
    rw [e, x2, y2, nI_add, show mn (nI (x + y)) 99999 = nI (min (x + y) 99999) from mn_nat (b := 99999) (by omega) (by decide)]
    exact ⟨_, Nat.min_le_right _ _, rfl⟩
  · have hD : RI (fireD r i) := by
      unfold fireD
      refine RI_pf (f := 6) h (by decide) ?_
      obtain ⟨x, x1, x2⟩ := a9 i hi 6 (by decide)
      have x3 : x ≤ 9999 := x1
      rw [x2, nI_1, show mn (nI (x + 1)) 9999 = nI (min (x + 1) 9999) from mn_nat (b := 9999) (by omega) (by decide)]
      exact ⟨_, Nat.min_le_right _ _, rfl⟩
    unfold fireE
    refine RI_pf (f := 1) hD (by decide) ?_
    have e : fireD r i (21 + 7 * i + 1) = r (21 + 7 * i + 1) := upd_ne (by omega)
    obtain ⟨x, x1, x2⟩ := a9 i hi 1 (by decide)
    have x3 : x ≤ 99 := x1
    rw [e, x2, show nI x + 15 = nI (x + 15) from nI_add x 15, show mn (nI (x + 15)) 99 = nI (min (x + 15) 99) from mn_nat (b := 99) (by omega) (by decide)]
    exact ⟨_, Nat.min_le_right _ _, rfl⟩
theorem gathN_RI {r : Row} {w : Int32} (h : RI r) (hw : le9 w 99) : ∀ k, k ≤ cntN r → RI (gathN r w k)
  | 0, _ => h
  | k + 1, hk => gatherF_RI (gathN_RI h hw k (by omega)) (by unfold cntN; rw [gathN_lo (by decide)]; exact hk) hw
theorem fireN_RI {r : Row} (h : RI r) : ∀ k, k ≤ cntN r → RI (fireN r k)
  | 0, _ => h
  | k + 1, hk => fireF_RI (fireN_RI h k (by omega)) (by unfold cntN; rw [fireN_lo (by decide)]; exact hk)
theorem wthr_nat {r : Row} (h : RI r) : le9 (wthr r) 99 := by
  obtain ⟨n, d, a1, a2, a3, a4, a5, a6, a7, a8, a9⟩ := h
  exact a7 _ (Nat.mod_lt _ (by decide))
theorem dayF_RI {r : Row} (h : RI r) : RI (dayF r) := by
  have h' := h
  obtain ⟨n, d, a1, a2, a3, a4, a5, a6, a7, a8, a9⟩ := h'
  have hg := gathN_RI h (wthr_nat h) (cntN r) (Nat.le_refl _)
  have hc : cntN (gathN r (wthr r) (cntN r)) = cntN r := by unfold cntN; rw [gathN_lo (by decide)]
  have key : ∀ x : Row, RI x → x 0 = nI d → RI (dayEnd x) := fun x hx h0 => by
    unfold dayEnd
    rw [h0, nI_1, show mn (nI (d + 1)) 99999 = nI (min (d + 1) 99999) from mn_nat (b := 99999) (by omega) (by decide)]
    exact RI_0 hx (Nat.min_le_right _ _)
  unfold dayF
  apply key
  · split
    · exact fireN_RI hg _ (by rw [hc]; exact Nat.le_refl _)
    · exact hg
  · split
    · rw [fireN_lo (by decide), gathN_lo (by decide), a3]
    · rw [gathN_lo (by decide), a3]
theorem daysF_RI {r : Row} (h : RI r) : ∀ n, RI (daysF r n)
  | 0 => h
  | n + 1 => dayF_RI (daysF_RI h n)
theorem daysF_1 (r : Row) : ∀ n, daysF r n 1 = r 1
  | 0 => rfl
  | n + 1 => by
    show dayF (daysF r n) 1 = r 1
    rw [dayF_1, daysF_1 r n]
