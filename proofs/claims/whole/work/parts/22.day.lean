/-! a day, as the code of the hills says it -/
def mn (x y : Int32) : Int32 := if y < x then y else x
def mx (x y : Int32) : Int32 := if x < y then y else x
def cntN (r : Row) : Nat := (r 1).toNatClampNeg
def dayN (r : Row) : Nat := (r 0).toNatClampNeg
def criesR (r : Row) (i : Nat) : Int32 := criesV (r (21 + 7 * i)) (r (21 + 7 * i + 1)) (r (21 + 7 * i + 5)) (r 3)
def weathersR (r : Row) (i : Nat) (w : Int32) : Int32 := weathersV (r (21 + 7 * i)) (r (21 + 7 * i + 2)) w
def needsR (r : Row) (i : Nat) : Int32 := needsV (r (21 + 7 * i))
def tintR (r : Row) (i : Nat) : Int32 := tintV (r (21 + 7 * i)) (r (21 + 7 * i + 1)) (r (21 + 7 * i + 3))
def fetchesR (r : Row) (i : Nat) : Int32 := fetchesV (r (21 + 7 * i)) (r (21 + 7 * i + 4))
def healsR (r : Row) (i : Nat) : Int32 := healsV (r (21 + 7 * i))
def wthr (r : Row) : Int32 := r (5 + dayN r % 6)
def gath1 (r : Row) (i : Nat) (w : Int32) : Row := upd r (21 + 7 * i + 3) (mn (r (21 + 7 * i + 3) + (criesR r i + weathersR r i w)) 999)
def gath2 (r : Row) (i : Nat) : Row := upd r (21 + 7 * i + 1) (mx (r (21 + 7 * i + 1) - healsR r i) 0)
def gath3 (r : Row) (i : Nat) : Row := if r (21 + 7 * i) = 1 then (if r 3 ≤ 0 then r else upd r 3 (r 3 - 1)) else r
def gatherF (r : Row) (i : Nat) (w : Int32) : Row := gath3 (gath2 (gath1 r i w) i) i
def fireA (r : Row) (i : Nat) : Row := upd r (21 + 7 * i + 4) (tintR r i)
def fireB (r : Row) (i : Nat) : Row := upd r (21 + 7 * i + 5) (mn (r (21 + 7 * i + 5) + 1) 9999)
def fireC (r : Row) (i : Nat) : Row := upd r 4 (mn (r 4 + fetchesR r i) 99999)
def fireD (r : Row) (i : Nat) : Row := upd r (21 + 7 * i + 6) (mn (r (21 + 7 * i + 6) + 1) 9999)
def fireE (r : Row) (i : Nat) : Row := upd r (21 + 7 * i + 1) (mn (r (21 + 7 * i + 1) + 15) 99)
def fireF (r : Row) (i : Nat) : Row := upd (if needsR r i ≤ r (21 + 7 * i + 3) then fireC (fireB (fireA r i) i) i else fireE (fireD r i) i) (21 + 7 * i + 3) 0
def gathN (r : Row) (w : Int32) : Nat → Row
  | 0 => r
  | i + 1 => gatherF (gathN r w i) i w
def fireN (r : Row) : Nat → Row
  | 0 => r
  | i + 1 => fireF (fireN r i) i
def dayEnd (r : Row) : Row := upd r 0 (mn (r 0 + 1) 99999)
def dayF (r : Row) : Row := dayEnd (if dayN r % 7 = 6 then fireN (gathN r (wthr r) (cntN r)) (cntN r) else gathN r (wthr r) (cntN r))
def daysF (r : Row) : Nat → Row
  | 0 => r
  | n + 1 => dayF (daysF r n)
/-- what a walk needs to know of hills: how many potters, which day -/
def RI (r : Row) : Prop := ∃ n d : Nat, r 1 = nI n ∧ n ≤ 8 ∧ r 0 = nI d ∧ d ≤ 99999
theorem cntN_eq {r : Row} {n : Nat} (h : r 1 = nI n) (hn : n ≤ 8) : cntN r = n := by
  unfold cntN
  rw [h, nI_clamp (by omega)]
theorem dayN_eq {r : Row} {d : Nat} (h : r 0 = nI d) (hd : d ≤ 99999) : dayN r = d := by
  unfold dayN
  rw [h, nI_clamp (by omega)]
theorem gatherF_lo {r : Row} {i : Nat} {w : Int32} {j : Nat} (h : j ≠ 3 ∧ j < 21) : gatherF r i w j = r j := by
  unfold gatherF gath3
  have h2 : gath2 (gath1 r i w) i j = r j := by
    unfold gath2 gath1
    rw [upd_ne (by omega), upd_ne (by omega)]
  split
  · split
    · exact h2
    · rw [upd_ne (by omega)]; exact h2
  · exact h2
theorem fireF_lo {r : Row} {i j : Nat} (h : j ≠ 4 ∧ j < 21) : fireF r i j = r j := by
  unfold fireF
  rw [upd_ne (by omega)]
  split
  · unfold fireC fireB fireA
    rw [upd_ne (by omega), upd_ne (by omega), upd_ne (by omega)]
  · unfold fireE fireD
    rw [upd_ne (by omega), upd_ne (by omega)]
theorem gathN_lo {r : Row} {w : Int32} {j : Nat} (h : j ≠ 3 ∧ j < 21) : ∀ n, gathN r w n j = r j
  | 0 => rfl
  | n + 1 => by
    show gatherF (gathN r w n) n w j = r j
    rw [gatherF_lo h, gathN_lo h n]
theorem fireN_lo {r : Row} {j : Nat} (h : j ≠ 4 ∧ j < 21) : ∀ n, fireN r n j = r j
  | 0 => rfl
  | n + 1 => by
    show fireF (fireN r n) n j = r j
    rw [fireF_lo h, fireN_lo h n]
theorem mn_nat {a b : Nat} (ha : a < 2147483648) (hb : b < 2147483648) : mn (nI a) (nI b) = nI (min a b) := by
  unfold mn
  by_cases h : b < a
  · rw [if_pos (nI_lt h ha), Nat.min_eq_right (by omega)]
  · rw [if_neg (nI_nlt (by omega) hb), Nat.min_eq_left (by omega)]
theorem dayF_1 (r : Row) : dayF r 1 = r 1 := by
  unfold dayF dayEnd
  rw [upd_ne (by decide)]
  split
  · rw [fireN_lo (by decide), gathN_lo (by decide)]
  · rw [gathN_lo (by decide)]
theorem dayF_0 {r : Row} {d : Nat} (h : r 0 = nI d) (hd : d ≤ 99999) : dayF r 0 = nI (min (d + 1) 99999) := by
  unfold dayF dayEnd
  rw [upd_at]
  have e : ∀ x : Row, x 0 = nI d → mn (x 0 + 1) 99999 = nI (min (d + 1) 99999) := fun x hx => by
    rw [hx, nI_1]
    exact mn_nat (b := 99999) (by omega) (by omega)
  apply e
  split
  · rw [fireN_lo (by decide), gathN_lo (by decide), h]
  · rw [gathN_lo (by decide), h]
theorem dayF_RI {r : Row} (h : RI r) : RI (dayF r) := by
  obtain ⟨n, d, h1, h2, h3, h4⟩ := h
  exact ⟨n, min (d + 1) 99999, by rw [dayF_1, h1], h2, dayF_0 h3 h4, by omega⟩
theorem daysF_RI {r : Row} (h : RI r) : ∀ n, RI (daysF r n)
  | 0 => h
  | n + 1 => dayF_RI (daysF_RI h n)
