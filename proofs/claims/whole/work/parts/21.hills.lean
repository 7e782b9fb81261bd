/-! the picture of hills: one row of numbers: 0 DAY, 1 how many POTTERS, 2 z, 3 ONIONS, 4 SOLD, 5.. THE LIST, 11.. SPOTS, 21 + 7 i + f: field f of POTTER i -/
abbrev Row : Type := Nat → Int32
def seg (r : Row) (a n : Nat) : Row := fun j => if j < n then r (a + j) else 0
theorem seg_at {r : Row} {a n i : Nat} (h : i < n) : seg r a n i = r (a + i) := if_pos h
theorem upd_ne {r : Row} {k j : Nat} {v : Int32} (h : j ≠ k) : upd r k v j = r j := if_neg h
theorem upd_at {r : Row} {k : Nat} {v : Int32} : upd r k v k = v := if_pos rfl
theorem seg_congr {r r2 : Row} {a n : Nat} (h : ∀ j, j < n → r (a + j) = r2 (a + j)) : seg r a n = seg r2 a n := funext fun j => by
  unfold seg
  by_cases hj : j < n
  · rw [if_pos hj, if_pos hj, h j hj]
  · rw [if_neg hj, if_neg hj]
theorem seg_upd {r : Row} {a n i : Nat} {v : Int32} (h : i < n) : upd (seg r a n) i v = seg (upd r (a + i) v) a n := funext fun j => by
  unfold seg upd
  by_cases hj : j = i
  · subst hj
    rw [if_pos rfl, if_pos h, if_pos rfl]
  · rw [if_neg hj, if_neg (show ¬ a + j = a + i by omega)]
def ptE (r : Row) (i : Nat) : va_E := .inr (1, [.int (r (21 + 7 * i)), .int (r (21 + 7 * i + 1)), .int (r (21 + 7 * i + 2)), .int (r (21 + 7 * i + 3)), .int (r (21 + 7 * i + 4)), .int (r (21 + 7 * i + 5)), .int (r (21 + 7 * i + 6))])
def hillsC (E : EV) (ad : Nat → Nat) (c1 c3 c4 c0 c2 : Int32) (fl fs : Row) (pt : Nat → va_E) : va_W :=
  (ad 0, .inr (0, [.ref (ad 1), .ref (ad 2), .ref (ad 3), .int c1, .int c3, .int c4, .int c0, .int c2])) ::
  (ad 1, .inl (E.2.1, 6, .inl fl)) ::
  (ad 2, .inl (E.2.2.2.1, 8, .inr (.inr (.inr (.inr (fun j => some (ad (4 + j)))))))) ::
  (ad 3, .inl (E.2.1, 10, .inl fs)) ::
  (List.range 8).map (fun i => (ad (4 + i), pt i))
def hillsW (E : EV) (ad : Nat → Nat) (r : Row) : va_W := hillsC E ad (r 1) (r 3) (r 4) (r 0) (r 2) (seg r 5 6) (seg r 11 10) (ptE r)
theorem hw_pot {E : EV} {ad : Nat → Nat} {r : Row} {i : Nat} (hi : i < 8) : (hillsW E ad r)[4 + i]? = some (ad (4 + i), ptE r i) := by
  have h : (hillsW E ad r)[i + 1 + 1 + 1 + 1]? = some (ad (4 + i), ptE r i) := by
    unfold hillsW hillsC
    simp only [List.getElem?_cons_succ]
    rw [List.getElem?_map, List.getElem?_range hi]
    rfl
  rw [show 4 + i = i + 1 + 1 + 1 + 1 by omega]
  rw [show i + 1 + 1 + 1 + 1 = 4 + i by omega] at h ⊢
  exact h
theorem range_set {α : Type} {n i : Nat} {g g' : Nat → α} (hi : i < n) (h : ∀ k, k ≠ i → g' k = g k) : ((List.range n).map g).set i (g' i) = (List.range n).map g' := by
  apply List.ext_getElem?
  intro k
  by_cases hk : k = i
  · subst hk
    rw [List.getElem?_set, if_pos rfl, List.getElem?_map, List.getElem?_range hi, if_pos (by simpa using hi)]
    rfl
  · rw [List.getElem?_set_ne (Ne.symm hk), List.getElem?_map, List.getElem?_map]
    by_cases hn : k < n
    · rw [List.getElem?_range hn]
      simp [h k hk]
    · rw [List.getElem?_eq_none (by simpa using hn)]
      rfl
theorem hw_ad {E : EV} {ad : Nat → Nat} {r r2 : Row} : (hillsW E ad r).map Prod.fst = (hillsW E ad r2).map Prod.fst := rfl
theorem ptE_congr {r r2 : Row} {i : Nat} (h : ∀ f, f < 7 → r (21 + 7 * i + f) = r2 (21 + 7 * i + f)) : ptE r i = ptE r2 i := by
  unfold ptE
  rw [show r (21 + 7 * i) = r2 (21 + 7 * i) from h 0 (by decide), h 1 (by decide), h 2 (by decide), h 3 (by decide), h 4 (by decide), h 5 (by decide), h 6 (by decide)]
/-- a row whose parts are known -/
theorem hw_eq {E : EV} {ad : Nat → Nat} {r : Row} {c1 c3 c4 c0 c2 : Int32} {fl fs : Row} {pt : Nat → va_E} (h1 : r 1 = c1) (h3 : r 3 = c3) (h4 : r 4 = c4) (h0 : r 0 = c0) (h2 : r 2 = c2) (hl : seg r 5 6 = fl) (hs : seg r 11 10 = fs) (hp : ∀ i, ptE r i = pt i) : hillsC E ad c1 c3 c4 c0 c2 fl fs pt = hillsW E ad r := by
  unfold hillsW
  rw [h1, h3, h4, h0, h2, hl, hs, show ptE r = pt from funext hp]

theorem hs_1 {E : EV} {ad : Nat → Nat} {r : Row} {v : Int32} : (hillsW E ad r).set 0 (ad 0, .inr (0, [.ref (ad 1), .ref (ad 2), .ref (ad 3), .int v, .int (r 3), .int (r 4), .int (r 0), .int (r 2)])) = hillsW E ad (upd r 1 v) :=
  (show (hillsW E ad r).set 0 (ad 0, .inr (0, [.ref (ad 1), .ref (ad 2), .ref (ad 3), .int v, .int (r 3), .int (r 4), .int (r 0), .int (r 2)])) = hillsC E ad v (r 3) (r 4) (r 0) (r 2) (seg r 5 6) (seg r 11 10) (ptE r) from rfl).trans (hw_eq upd_at (upd_ne (by decide)) (upd_ne (by decide)) (upd_ne (by decide)) (upd_ne (by decide)) (seg_congr fun j _ => upd_ne (by omega)) (seg_congr fun j _ => upd_ne (by omega)) (fun i => ptE_congr fun f _ => upd_ne (by omega)))
theorem hs_3 {E : EV} {ad : Nat → Nat} {r : Row} {v : Int32} : (hillsW E ad r).set 0 (ad 0, .inr (0, [.ref (ad 1), .ref (ad 2), .ref (ad 3), .int (r 1), .int v, .int (r 4), .int (r 0), .int (r 2)])) = hillsW E ad (upd r 3 v) :=
  (show (hillsW E ad r).set 0 (ad 0, .inr (0, [.ref (ad 1), .ref (ad 2), .ref (ad 3), .int (r 1), .int v, .int (r 4), .int (r 0), .int (r 2)])) = hillsC E ad (r 1) v (r 4) (r 0) (r 2) (seg r 5 6) (seg r 11 10) (ptE r) from rfl).trans (hw_eq (upd_ne (by decide)) upd_at (upd_ne (by decide)) (upd_ne (by decide)) (upd_ne (by decide)) (seg_congr fun j _ => upd_ne (by omega)) (seg_congr fun j _ => upd_ne (by omega)) (fun i => ptE_congr fun f _ => upd_ne (by omega)))
theorem hs_4 {E : EV} {ad : Nat → Nat} {r : Row} {v : Int32} : (hillsW E ad r).set 0 (ad 0, .inr (0, [.ref (ad 1), .ref (ad 2), .ref (ad 3), .int (r 1), .int (r 3), .int v, .int (r 0), .int (r 2)])) = hillsW E ad (upd r 4 v) :=
  (show (hillsW E ad r).set 0 (ad 0, .inr (0, [.ref (ad 1), .ref (ad 2), .ref (ad 3), .int (r 1), .int (r 3), .int v, .int (r 0), .int (r 2)])) = hillsC E ad (r 1) (r 3) v (r 0) (r 2) (seg r 5 6) (seg r 11 10) (ptE r) from rfl).trans (hw_eq (upd_ne (by decide)) (upd_ne (by decide)) upd_at (upd_ne (by decide)) (upd_ne (by decide)) (seg_congr fun j _ => upd_ne (by omega)) (seg_congr fun j _ => upd_ne (by omega)) (fun i => ptE_congr fun f _ => upd_ne (by omega)))
theorem hs_0 {E : EV} {ad : Nat → Nat} {r : Row} {v : Int32} : (hillsW E ad r).set 0 (ad 0, .inr (0, [.ref (ad 1), .ref (ad 2), .ref (ad 3), .int (r 1), .int (r 3), .int (r 4), .int v, .int (r 2)])) = hillsW E ad (upd r 0 v) :=
  (show (hillsW E ad r).set 0 (ad 0, .inr (0, [.ref (ad 1), .ref (ad 2), .ref (ad 3), .int (r 1), .int (r 3), .int (r 4), .int v, .int (r 2)])) = hillsC E ad (r 1) (r 3) (r 4) v (r 2) (seg r 5 6) (seg r 11 10) (ptE r) from rfl).trans (hw_eq (upd_ne (by decide)) (upd_ne (by decide)) (upd_ne (by decide)) upd_at (upd_ne (by decide)) (seg_congr fun j _ => upd_ne (by omega)) (seg_congr fun j _ => upd_ne (by omega)) (fun i => ptE_congr fun f _ => upd_ne (by omega)))
theorem hs_2 {E : EV} {ad : Nat → Nat} {r : Row} {v : Int32} : (hillsW E ad r).set 0 (ad 0, .inr (0, [.ref (ad 1), .ref (ad 2), .ref (ad 3), .int (r 1), .int (r 3), .int (r 4), .int (r 0), .int v])) = hillsW E ad (upd r 2 v) :=
  (show (hillsW E ad r).set 0 (ad 0, .inr (0, [.ref (ad 1), .ref (ad 2), .ref (ad 3), .int (r 1), .int (r 3), .int (r 4), .int (r 0), .int v])) = hillsC E ad (r 1) (r 3) (r 4) (r 0) v (seg r 5 6) (seg r 11 10) (ptE r) from rfl).trans (hw_eq (upd_ne (by decide)) (upd_ne (by decide)) (upd_ne (by decide)) (upd_ne (by decide)) upd_at (seg_congr fun j _ => upd_ne (by omega)) (seg_congr fun j _ => upd_ne (by omega)) (fun i => ptE_congr fun f _ => upd_ne (by omega)))
theorem hs_list {E : EV} {ad : Nat → Nat} {r : Row} {i : Nat} {v : Int32} (hi : i < 6) : (hillsW E ad r).set 1 (ad 1, .inl (E.2.1, 6, .inl (upd (seg r 5 6) i v))) = hillsW E ad (upd r (5 + i) v) :=
  (show (hillsW E ad r).set 1 (ad 1, .inl (E.2.1, 6, .inl (upd (seg r 5 6) i v))) = hillsC E ad (r 1) (r 3) (r 4) (r 0) (r 2) (upd (seg r 5 6) i v) (seg r 11 10) (ptE r) from rfl).trans (hw_eq (upd_ne (by omega)) (upd_ne (by omega)) (upd_ne (by omega)) (upd_ne (by omega)) (upd_ne (by omega)) (seg_upd hi).symm (seg_congr fun j _ => upd_ne (by omega)) (fun i => ptE_congr fun f _ => upd_ne (by omega)))
theorem hs_spot {E : EV} {ad : Nat → Nat} {r : Row} {i : Nat} {v : Int32} (hi : i < 10) : (hillsW E ad r).set 3 (ad 3, .inl (E.2.1, 10, .inl (upd (seg r 11 10) i v))) = hillsW E ad (upd r (11 + i) v) :=
  (show (hillsW E ad r).set 3 (ad 3, .inl (E.2.1, 10, .inl (upd (seg r 11 10) i v))) = hillsC E ad (r 1) (r 3) (r 4) (r 0) (r 2) (seg r 5 6) (upd (seg r 11 10) i v) (ptE r) from rfl).trans (hw_eq (upd_ne (by omega)) (upd_ne (by omega)) (upd_ne (by omega)) (upd_ne (by omega)) (upd_ne (by omega)) (seg_congr fun j _ => upd_ne (by omega)) (seg_upd hi).symm (fun i => ptE_congr fun f _ => upd_ne (by omega)))
/-- a potter's cell changes -/
theorem hs_cell {E : EV} {ad : Nat → Nat} {r r2 : Row} {i : Nat} {e : va_E} (hi : i < 8) (h : ∀ j, ¬ (21 + 7 * i ≤ j ∧ j < 21 + 7 * i + 7) → r2 j = r j) (he : ptE r2 i = e) : (hillsW E ad r).set (4 + i) (ad (4 + i), e) = hillsW E ad r2 := by
  have h0 : (hillsW E ad r).set (4 + i) (ad (4 + i), e) = hillsC E ad (r 1) (r 3) (r 4) (r 0) (r 2) (seg r 5 6) (seg r 11 10) (ptE r2) := by
    rw [Nat.add_comm 4 i]
    unfold hillsW hillsC
    simp only [List.set_cons_succ]
    rw [← he]
    rw [show (ad (i + 4), ptE r2 i) = (fun i => (ad (4 + i), ptE r2 i)) i by rw [Nat.add_comm i 4]]
    rw [range_set (g := fun i => (ad (4 + i), ptE r i)) (g' := fun i => (ad (4 + i), ptE r2 i)) hi (fun k hk => by show (ad (4 + k), ptE r2 k) = (ad (4 + k), ptE r k); rw [ptE_congr (r := r2) (r2 := r) (fun f hf => h _ (by omega))])]
  rw [h0]
  exact hw_eq (h _ (by omega)) (h _ (by omega)) (h _ (by omega)) (h _ (by omega)) (h _ (by omega)) (seg_congr fun j hj => h _ (by omega)) (seg_congr fun j hj => h _ (by omega)) (fun _ => rfl)

theorem hs_p0 {E : EV} {ad : Nat → Nat} {r : Row} {i : Nat} {v : Int32} (hi : i < 8) : (hillsW E ad r).set (4 + i) (ad (4 + i), .inr (1, [.int v, .int (r (21 + 7 * i + 1)), .int (r (21 + 7 * i + 2)), .int (r (21 + 7 * i + 3)), .int (r (21 + 7 * i + 4)), .int (r (21 + 7 * i + 5)), .int (r (21 + 7 * i + 6))])) = hillsW E ad (upd r (21 + 7 * i) v) :=
  hs_cell hi (fun j hj => upd_ne (by omega)) (by unfold ptE; rw [upd_at, upd_ne (show 21 + 7 * i + 1 ≠ 21 + 7 * i by omega), upd_ne (show 21 + 7 * i + 2 ≠ 21 + 7 * i by omega), upd_ne (show 21 + 7 * i + 3 ≠ 21 + 7 * i by omega), upd_ne (show 21 + 7 * i + 4 ≠ 21 + 7 * i by omega), upd_ne (show 21 + 7 * i + 5 ≠ 21 + 7 * i by omega), upd_ne (show 21 + 7 * i + 6 ≠ 21 + 7 * i by omega)])
theorem hs_p1 {E : EV} {ad : Nat → Nat} {r : Row} {i : Nat} {v : Int32} (hi : i < 8) : (hillsW E ad r).set (4 + i) (ad (4 + i), .inr (1, [.int (r (21 + 7 * i)), .int v, .int (r (21 + 7 * i + 2)), .int (r (21 + 7 * i + 3)), .int (r (21 + 7 * i + 4)), .int (r (21 + 7 * i + 5)), .int (r (21 + 7 * i + 6))])) = hillsW E ad (upd r (21 + 7 * i + 1) v) :=
  hs_cell hi (fun j hj => upd_ne (by omega)) (by unfold ptE; rw [upd_ne (show 21 + 7 * i ≠ 21 + 7 * i + 1 by omega), upd_at, upd_ne (show 21 + 7 * i + 2 ≠ 21 + 7 * i + 1 by omega), upd_ne (show 21 + 7 * i + 3 ≠ 21 + 7 * i + 1 by omega), upd_ne (show 21 + 7 * i + 4 ≠ 21 + 7 * i + 1 by omega), upd_ne (show 21 + 7 * i + 5 ≠ 21 + 7 * i + 1 by omega), upd_ne (show 21 + 7 * i + 6 ≠ 21 + 7 * i + 1 by omega)])
theorem hs_p2 {E : EV} {ad : Nat → Nat} {r : Row} {i : Nat} {v : Int32} (hi : i < 8) : (hillsW E ad r).set (4 + i) (ad (4 + i), .inr (1, [.int (r (21 + 7 * i)), .int (r (21 + 7 * i + 1)), .int v, .int (r (21 + 7 * i + 3)), .int (r (21 + 7 * i + 4)), .int (r (21 + 7 * i + 5)), .int (r (21 + 7 * i + 6))])) = hillsW E ad (upd r (21 + 7 * i + 2) v) :=
  hs_cell hi (fun j hj => upd_ne (by omega)) (by unfold ptE; rw [upd_ne (show 21 + 7 * i ≠ 21 + 7 * i + 2 by omega), upd_ne (show 21 + 7 * i + 1 ≠ 21 + 7 * i + 2 by omega), upd_at, upd_ne (show 21 + 7 * i + 3 ≠ 21 + 7 * i + 2 by omega), upd_ne (show 21 + 7 * i + 4 ≠ 21 + 7 * i + 2 by omega), upd_ne (show 21 + 7 * i + 5 ≠ 21 + 7 * i + 2 by omega), upd_ne (show 21 + 7 * i + 6 ≠ 21 + 7 * i + 2 by omega)])
theorem hs_p3 {E : EV} {ad : Nat → Nat} {r : Row} {i : Nat} {v : Int32} (hi : i < 8) : (hillsW E ad r).set (4 + i) (ad (4 + i), .inr (1, [.int (r (21 + 7 * i)), .int (r (21 + 7 * i + 1)), .int (r (21 + 7 * i + 2)), .int v, .int (r (21 + 7 * i + 4)), .int (r (21 + 7 * i + 5)), .int (r (21 + 7 * i + 6))])) = hillsW E ad (upd r (21 + 7 * i + 3) v) :=
  hs_cell hi (fun j hj => upd_ne (by omega)) (by unfold ptE; rw [upd_ne (show 21 + 7 * i ≠ 21 + 7 * i + 3 by omega), upd_ne (show 21 + 7 * i + 1 ≠ 21 + 7 * i + 3 by omega), upd_ne (show 21 + 7 * i + 2 ≠ 21 + 7 * i + 3 by omega), upd_at, upd_ne (show 21 + 7 * i + 4 ≠ 21 + 7 * i + 3 by omega), upd_ne (show 21 + 7 * i + 5 ≠ 21 + 7 * i + 3 by omega), upd_ne (show 21 + 7 * i + 6 ≠ 21 + 7 * i + 3 by omega)])
theorem hs_p4 {E : EV} {ad : Nat → Nat} {r : Row} {i : Nat} {v : Int32} (hi : i < 8) : (hillsW E ad r).set (4 + i) (ad (4 + i), .inr (1, [.int (r (21 + 7 * i)), .int (r (21 + 7 * i + 1)), .int (r (21 + 7 * i + 2)), .int (r (21 + 7 * i + 3)), .int v, .int (r (21 + 7 * i + 5)), .int (r (21 + 7 * i + 6))])) = hillsW E ad (upd r (21 + 7 * i + 4) v) :=
  hs_cell hi (fun j hj => upd_ne (by omega)) (by unfold ptE; rw [upd_ne (show 21 + 7 * i ≠ 21 + 7 * i + 4 by omega), upd_ne (show 21 + 7 * i + 1 ≠ 21 + 7 * i + 4 by omega), upd_ne (show 21 + 7 * i + 2 ≠ 21 + 7 * i + 4 by omega), upd_ne (show 21 + 7 * i + 3 ≠ 21 + 7 * i + 4 by omega), upd_at, upd_ne (show 21 + 7 * i + 5 ≠ 21 + 7 * i + 4 by omega), upd_ne (show 21 + 7 * i + 6 ≠ 21 + 7 * i + 4 by omega)])
theorem hs_p5 {E : EV} {ad : Nat → Nat} {r : Row} {i : Nat} {v : Int32} (hi : i < 8) : (hillsW E ad r).set (4 + i) (ad (4 + i), .inr (1, [.int (r (21 + 7 * i)), .int (r (21 + 7 * i + 1)), .int (r (21 + 7 * i + 2)), .int (r (21 + 7 * i + 3)), .int (r (21 + 7 * i + 4)), .int v, .int (r (21 + 7 * i + 6))])) = hillsW E ad (upd r (21 + 7 * i + 5) v) :=
  hs_cell hi (fun j hj => upd_ne (by omega)) (by unfold ptE; rw [upd_ne (show 21 + 7 * i ≠ 21 + 7 * i + 5 by omega), upd_ne (show 21 + 7 * i + 1 ≠ 21 + 7 * i + 5 by omega), upd_ne (show 21 + 7 * i + 2 ≠ 21 + 7 * i + 5 by omega), upd_ne (show 21 + 7 * i + 3 ≠ 21 + 7 * i + 5 by omega), upd_ne (show 21 + 7 * i + 4 ≠ 21 + 7 * i + 5 by omega), upd_at, upd_ne (show 21 + 7 * i + 6 ≠ 21 + 7 * i + 5 by omega)])
theorem hs_p6 {E : EV} {ad : Nat → Nat} {r : Row} {i : Nat} {v : Int32} (hi : i < 8) : (hillsW E ad r).set (4 + i) (ad (4 + i), .inr (1, [.int (r (21 + 7 * i)), .int (r (21 + 7 * i + 1)), .int (r (21 + 7 * i + 2)), .int (r (21 + 7 * i + 3)), .int (r (21 + 7 * i + 4)), .int (r (21 + 7 * i + 5)), .int v])) = hillsW E ad (upd r (21 + 7 * i + 6) v) :=
  hs_cell hi (fun j hj => upd_ne (by omega)) (by unfold ptE; rw [upd_ne (show 21 + 7 * i ≠ 21 + 7 * i + 6 by omega), upd_ne (show 21 + 7 * i + 1 ≠ 21 + 7 * i + 6 by omega), upd_ne (show 21 + 7 * i + 2 ≠ 21 + 7 * i + 6 by omega), upd_ne (show 21 + 7 * i + 3 ≠ 21 + 7 * i + 6 by omega), upd_ne (show 21 + 7 * i + 4 ≠ 21 + 7 * i + 6 by omega), upd_ne (show 21 + 7 * i + 5 ≠ 21 + 7 * i + 6 by omega), upd_at])
/-- all fields of a potter at once -/
def putP (r : Row) (i : Nat) (vs : Row) : Row := fun j => if 21 + 7 * i ≤ j ∧ j < 21 + 7 * i + 7 then vs (j - (21 + 7 * i)) else r j
theorem putP_at {r vs : Row} {i f : Nat} (hf : f < 7) : putP r i vs (21 + 7 * i + f) = vs f := by
  unfold putP
  rw [if_pos (by omega), show 21 + 7 * i + f - (21 + 7 * i) = f by omega]
theorem putP_ne {r vs : Row} {i j : Nat} (h : ¬ (21 + 7 * i ≤ j ∧ j < 21 + 7 * i + 7)) : putP r i vs j = r j := if_neg h
theorem hs_all {E : EV} {ad : Nat → Nat} {r vs : Row} {i : Nat} (hi : i < 8) : (hillsW E ad r).set (4 + i) (ad (4 + i), .inr (1, [.int (vs 0), .int (vs 1), .int (vs 2), .int (vs 3), .int (vs 4), .int (vs 5), .int (vs 6)])) = hillsW E ad (putP r i vs) :=
  hs_cell hi (fun j hj => putP_ne hj) (by unfold ptE; rw [show putP r i vs (21 + 7 * i) = vs 0 from putP_at (f := 0) (by decide), putP_at (by decide), putP_at (by decide), putP_at (by decide), putP_at (by decide), putP_at (by decide), putP_at (by decide)])
def beginVs (k g : Int32) : Row := fun j => match j with | 0 => k | 1 => g | 2 => 2 | _ => 0
def cpF (r r2 : Row) (a n : Nat) : Row := fun j => if a ≤ j ∧ j < a + n then r2 j else r j

