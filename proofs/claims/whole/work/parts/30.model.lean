/-! the reference: its object by the addresses am and its scalars q; its rows of numbers -/
def sg (r : Row) (n : Nat) : Row := fun j => if j < n then r j else 0
theorem sg_at {r : Row} {n i : Nat} (h : i < n) : sg r n i = r i := if_pos h
theorem sg_upd {r : Row} {n i : Nat} {v : Int32} (h : i < n) : upd (sg r n) i v = sg (upd r i v) n := funext fun j => by
  unfold sg upd
  by_cases hj : j = i
  · subst hj
    rw [if_pos rfl, if_pos h, if_pos rfl]
  · rw [if_neg hj, if_neg hj]
theorem sg_congr {r r2 : Row} {n : Nat} (h : ∀ j, j < n → r j = r2 j) : sg r n = sg r2 n := funext fun j => by
  unfold sg
  by_cases hj : j < n
  · rw [if_pos hj, if_pos hj, h j hj]
  · rw [if_neg hj, if_neg hj]
theorem sgs_upd {a : Nat} {c : ClassId} {n : Nat} {r : Row} {i : Nat} {v : Int32} {e : va_E} (h : i < n) : ([(a, e)] : va_W).set 0 (a, .inl (c, n, .inl (upd (sg r n) i v))) = [(a, .inl (c, n, .inl (sg (upd r i v) n)))] := by rw [sg_upd h]; rfl
theorem cell_ad {a : Nat} {e e2 : va_E} : ([(a, e)] : va_W).map Prod.fst = ([(a, e2)] : va_W).map Prod.fst := rfl

def mObj (am : Nat → Nat) (q : Row) : Nat × va_E := (am 0, .inr (5, [.ref (am 1), .ref (am 2), .ref (am 3), .int (q 0), .ref (am 4), .int (q 1), .int (q 2), .ref (am 5), .int (q 3), .int (q 4), .int (q 5), .int (q 6), .int (q 7), .int (q 8), .ref (am 6), .ref (am 7), .int (q 9), .int (q 10), .ref (am 8), .ref (am 9), .ref (am 10), .ref (am 11)]))
theorem mo_ad {am : Nat → Nat} {q q2 : Row} : ([mObj am q] : va_W).map Prod.fst = ([mObj am q2] : va_W).map Prod.fst := rfl
theorem mo_0 {am : Nat → Nat} {q : Row} {v : Int32} : ([mObj am q] : va_W).set 0 (am 0, .inr (5, [.ref (am 1), .ref (am 2), .ref (am 3), .int v, .ref (am 4), .int (q 1), .int (q 2), .ref (am 5), .int (q 3), .int (q 4), .int (q 5), .int (q 6), .int (q 7), .int (q 8), .ref (am 6), .ref (am 7), .int (q 9), .int (q 10), .ref (am 8), .ref (am 9), .ref (am 10), .ref (am 11)])) = [mObj am (upd q 0 v)] := rfl
theorem mo_1 {am : Nat → Nat} {q : Row} {v : Int32} : ([mObj am q] : va_W).set 0 (am 0, .inr (5, [.ref (am 1), .ref (am 2), .ref (am 3), .int (q 0), .ref (am 4), .int v, .int (q 2), .ref (am 5), .int (q 3), .int (q 4), .int (q 5), .int (q 6), .int (q 7), .int (q 8), .ref (am 6), .ref (am 7), .int (q 9), .int (q 10), .ref (am 8), .ref (am 9), .ref (am 10), .ref (am 11)])) = [mObj am (upd q 1 v)] := rfl
theorem mo_2 {am : Nat → Nat} {q : Row} {v : Int32} : ([mObj am q] : va_W).set 0 (am 0, .inr (5, [.ref (am 1), .ref (am 2), .ref (am 3), .int (q 0), .ref (am 4), .int (q 1), .int v, .ref (am 5), .int (q 3), .int (q 4), .int (q 5), .int (q 6), .int (q 7), .int (q 8), .ref (am 6), .ref (am 7), .int (q 9), .int (q 10), .ref (am 8), .ref (am 9), .ref (am 10), .ref (am 11)])) = [mObj am (upd q 2 v)] := rfl
theorem mo_3 {am : Nat → Nat} {q : Row} {v : Int32} : ([mObj am q] : va_W).set 0 (am 0, .inr (5, [.ref (am 1), .ref (am 2), .ref (am 3), .int (q 0), .ref (am 4), .int (q 1), .int (q 2), .ref (am 5), .int v, .int (q 4), .int (q 5), .int (q 6), .int (q 7), .int (q 8), .ref (am 6), .ref (am 7), .int (q 9), .int (q 10), .ref (am 8), .ref (am 9), .ref (am 10), .ref (am 11)])) = [mObj am (upd q 3 v)] := rfl
theorem mo_4 {am : Nat → Nat} {q : Row} {v : Int32} : ([mObj am q] : va_W).set 0 (am 0, .inr (5, [.ref (am 1), .ref (am 2), .ref (am 3), .int (q 0), .ref (am 4), .int (q 1), .int (q 2), .ref (am 5), .int (q 3), .int v, .int (q 5), .int (q 6), .int (q 7), .int (q 8), .ref (am 6), .ref (am 7), .int (q 9), .int (q 10), .ref (am 8), .ref (am 9), .ref (am 10), .ref (am 11)])) = [mObj am (upd q 4 v)] := rfl
theorem mo_5 {am : Nat → Nat} {q : Row} {v : Int32} : ([mObj am q] : va_W).set 0 (am 0, .inr (5, [.ref (am 1), .ref (am 2), .ref (am 3), .int (q 0), .ref (am 4), .int (q 1), .int (q 2), .ref (am 5), .int (q 3), .int (q 4), .int v, .int (q 6), .int (q 7), .int (q 8), .ref (am 6), .ref (am 7), .int (q 9), .int (q 10), .ref (am 8), .ref (am 9), .ref (am 10), .ref (am 11)])) = [mObj am (upd q 5 v)] := rfl
theorem mo_6 {am : Nat → Nat} {q : Row} {v : Int32} : ([mObj am q] : va_W).set 0 (am 0, .inr (5, [.ref (am 1), .ref (am 2), .ref (am 3), .int (q 0), .ref (am 4), .int (q 1), .int (q 2), .ref (am 5), .int (q 3), .int (q 4), .int (q 5), .int v, .int (q 7), .int (q 8), .ref (am 6), .ref (am 7), .int (q 9), .int (q 10), .ref (am 8), .ref (am 9), .ref (am 10), .ref (am 11)])) = [mObj am (upd q 6 v)] := rfl
theorem mo_7 {am : Nat → Nat} {q : Row} {v : Int32} : ([mObj am q] : va_W).set 0 (am 0, .inr (5, [.ref (am 1), .ref (am 2), .ref (am 3), .int (q 0), .ref (am 4), .int (q 1), .int (q 2), .ref (am 5), .int (q 3), .int (q 4), .int (q 5), .int (q 6), .int v, .int (q 8), .ref (am 6), .ref (am 7), .int (q 9), .int (q 10), .ref (am 8), .ref (am 9), .ref (am 10), .ref (am 11)])) = [mObj am (upd q 7 v)] := rfl
theorem mo_8 {am : Nat → Nat} {q : Row} {v : Int32} : ([mObj am q] : va_W).set 0 (am 0, .inr (5, [.ref (am 1), .ref (am 2), .ref (am 3), .int (q 0), .ref (am 4), .int (q 1), .int (q 2), .ref (am 5), .int (q 3), .int (q 4), .int (q 5), .int (q 6), .int (q 7), .int v, .ref (am 6), .ref (am 7), .int (q 9), .int (q 10), .ref (am 8), .ref (am 9), .ref (am 10), .ref (am 11)])) = [mObj am (upd q 8 v)] := rfl
theorem mo_9 {am : Nat → Nat} {q : Row} {v : Int32} : ([mObj am q] : va_W).set 0 (am 0, .inr (5, [.ref (am 1), .ref (am 2), .ref (am 3), .int (q 0), .ref (am 4), .int (q 1), .int (q 2), .ref (am 5), .int (q 3), .int (q 4), .int (q 5), .int (q 6), .int (q 7), .int (q 8), .ref (am 6), .ref (am 7), .int v, .int (q 10), .ref (am 8), .ref (am 9), .ref (am 10), .ref (am 11)])) = [mObj am (upd q 9 v)] := rfl
theorem mo_10 {am : Nat → Nat} {q : Row} {v : Int32} : ([mObj am q] : va_W).set 0 (am 0, .inr (5, [.ref (am 1), .ref (am 2), .ref (am 3), .int (q 0), .ref (am 4), .int (q 1), .int (q 2), .ref (am 5), .int (q 3), .int (q 4), .int (q 5), .int (q 6), .int (q 7), .int (q 8), .ref (am 6), .ref (am 7), .int (q 9), .int v, .ref (am 8), .ref (am 9), .ref (am 10), .ref (am 11)])) = [mObj am (upd q 10 v)] := rfl
