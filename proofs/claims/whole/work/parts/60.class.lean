/-! the class's object (ag 0), its row of sheets (ag 1), its reader (ag 2) and tape (ag 3), its findings (ag 4), sheet k (ag (5 + k)) and its numbers (ag (9 + k)) -/
def gObj (ag ah az ak : Nat → Nat) (i : Int32) : Nat × va_E := (ag 0, .inr (4, [.ref (ah 0), .ref (az 0), .ref (ak 0), .int i, .ref (ag 1), .ref (ag 2), .ref (ag 4)]))
theorem go_ad {ag ah az ak : Nat → Nat} {i j : Int32} : ([gObj ag ah az ak i] : va_W).map Prod.fst = ([gObj ag ah az ak j] : va_W).map Prod.fst := rfl
def shE (ag : Nat → Nat) (z u : Row) (k : Nat) : va_E := .inr (3, [.ref (ag (9 + k)), .int (z k), .int (u k)])
def shO (E : EV) (ag : Nat → Nat) (z u : Row) : va_W := (ag 1, .inl (E.2.2.2.2.1, 4, .inr (.inr (.inr (.inr (fun j => some (ag (5 + j)))))))) :: (List.range 4).map (fun k => (ag (5 + k), shE ag z u k))
def shN (E : EV) (ag : Nat → Nat) (y : Row) : va_W := (List.range 4).map (fun k => (ag (9 + k), .inl (E.2.1, 40, .inl (seg y (40 * k) 40))))
theorem sO_at {E : EV} {ag : Nat → Nat} {z u : Row} {k : Nat} (hk : k < 4) : (shO E ag z u)[1 + k]? = some (ag (5 + k), shE ag z u k) := by
  match k, hk with
  | 0, _ => rfl
  | 1, _ => rfl
  | 2, _ => rfl
  | 3, _ => rfl
theorem sN_at {E : EV} {ag : Nat → Nat} {y : Row} {k : Nat} (hk : k < 4) : (shN E ag y)[k]? = some (ag (9 + k), .inl (E.2.1, 40, .inl (seg y (40 * k) 40))) := by
  match k, hk with
  | 0, _ => rfl
  | 1, _ => rfl
  | 2, _ => rfl
  | 3, _ => rfl
theorem sO_ad {E : EV} {ag : Nat → Nat} {z u z2 u2 : Row} : (shO E ag z u).map Prod.fst = (shO E ag z2 u2).map Prod.fst := rfl
theorem sN_ad {E : EV} {ag : Nat → Nat} {y y2 : Row} : (shN E ag y).map Prod.fst = (shN E ag y2).map Prod.fst := rfl
theorem sO_set {E : EV} {ag : Nat → Nat} {z u : Row} {k : Nat} {v w : Int32} (hk : k < 4) : (shO E ag z u).set (1 + k) (ag (5 + k), .inr (3, [.ref (ag (9 + k)), .int v, .int w])) = shO E ag (upd z k v) (upd u k w) := by
  match k, hk with
  | 0, _ => rfl
  | 1, _ => rfl
  | 2, _ => rfl
  | 3, _ => rfl
def shNC (E : EV) (ag : Nat → Nat) (f0 f1 f2 f3 : Row) : va_W := [(ag (9 + 0), .inl (E.2.1, 40, .inl f0)), (ag (9 + 1), .inl (E.2.1, 40, .inl f1)), (ag (9 + 2), .inl (E.2.1, 40, .inl f2)), (ag (9 + 3), .inl (E.2.1, 40, .inl f3))]
theorem shN_C {E : EV} {ag : Nat → Nat} {y : Row} : shN E ag y = shNC E ag (seg y (40 * 0) 40) (seg y (40 * 1) 40) (seg y (40 * 2) 40) (seg y (40 * 3) 40) := rfl
theorem sN_set {E : EV} {ag : Nat → Nat} {y y2 g : Row} {k : Nat} (hk : k < 4) (h1 : g = seg y2 (40 * k) 40) (h2 : ∀ k2, k2 < 4 → k2 ≠ k → seg y2 (40 * k2) 40 = seg y (40 * k2) 40) : (shN E ag y).set k (ag (9 + k), .inl (E.2.1, 40, .inl g)) = shN E ag y2 := by
  subst h1
  rw [shN_C, shN_C]
  match k, hk with
  | 0, _ => rw [h2 1 (by decide) (by decide), h2 2 (by decide) (by decide), h2 3 (by decide) (by decide)]; rfl
  | 1, _ => rw [h2 0 (by decide) (by decide), h2 2 (by decide) (by decide), h2 3 (by decide) (by decide)]; rfl
  | 2, _ => rw [h2 0 (by decide) (by decide), h2 1 (by decide) (by decide), h2 3 (by decide) (by decide)]; rfl
  | 3, _ => rw [h2 0 (by decide) (by decide), h2 1 (by decide) (by decide), h2 2 (by decide) (by decide)]; rfl
theorem sN_w {E : EV} {ag : Nat → Nat} {y : Row} {k i : Nat} {v : Int32} (hk : k < 4) (hi : i < 40) : (shN E ag y).set k (ag (9 + k), .inl (E.2.1, 40, .inl (upd (seg y (40 * k) 40) i v))) = shN E ag (upd y (40 * k + i) v) :=
  sN_set hk (seg_upd hi) (fun k2 h2 hne => seg_congr (fun j hj => upd_ne (by omega)))
def rdO (ag : Nat → Nat) (a b c d f : Int32) : Nat × va_E := (ag 2, .inr (2, [.ref (ag 3), .int a, .int b, .int c, .int d, .int f]))
theorem ro_ad {ag : Nat → Nat} {a b c d f a2 b2 c2 d2 f2 : Int32} : ([rdO ag a b c d f] : va_W).map Prod.fst = ([rdO ag a2 b2 c2 d2 f2] : va_W).map Prod.fst := rfl
section GV
variable {p : Program} {l : Launch} {e : Env} {R : Room} {s : State} {m : MethodId} {args : Array Value} {below : List Frame} {meth : Method} {c : Code} {H H0 : Heap} {locs : List Loc} {cells slots : Nat} {Q : State → Prop} {cc : ByteArray} {nL pc : Nat} {ls : Array Slot} {rest : List Value} {c0 : Cond} {own : String} {E : EV} {Bs : List va_W} {A : Nat → Prop} {a : Nat}
/-- behind a call on two cells that wrote in both -/
theorem go_Vcc {st0 : List Value} {av : Array Value} {B B1 B2 B3 : va_W} {Bs' : List va_W} {b j b2 j2 a2 : Nat} {e0 e1 e2 e3 : va_E} (hr : va_Run p l e R s m args below meth c H locs cells slots 0 0 (F0 m pc ls st0) rest (qV E [[(a, e0)], [(a2, e2)]] [[(a, e1)], [(a2, e3)]] av) (inB [[(a, e0)], [(a2, e2)]])) (hP : PE E Bs H) (hD : DE A Bs) (hS : va_S A H0 H locs) (hB : Bs[b]? = some B) (he : B[j]? = some (a, e0)) (hB2 : Bs[b2]? = some B2) (he2 : B2[j2]? = some (a2, e2)) (hne : b ≠ b2) (hB1 : B.set j (a, e1) = B1) (hB3 : B2.set j2 (a2, e3) = B3) (hres : (Bs.set b B1).set b2 B3 = Bs') (kk : ∀ (H1 : Heap) (locs1 : List Loc), PE E Bs' H1 → DE A Bs' → va_S A H0 H1 locs1 → W p l e R s m args below meth c H1 locs1 cells slots Q (F0 m (pc + 3) ls rest)) : W p l e R s m args below meth c H locs cells slots Q (F0 m pc ls st0) := by
  subst hres; subst hB1; subst hB3
  have hpos := fl_get Bs b j B _ hB he
  have hpos2 := fl_get Bs b2 j2 B2 _ hB2 he2
  have hin : ∀ q, inB [[(a, e0)], [(a2, e2)]] q → q = a ∨ q = a2 := by
    rintro q ⟨k, e3, h⟩
    have h := List.mem_of_getElem? h
    simp only [List.flatten_cons, List.flatten_nil, List.append_nil, List.mem_append, List.mem_singleton, Prod.mk.injEq] at h
    rcases h with h | h
    · exact Or.inl h.1
    · exact Or.inr h.1
  have hA : ∀ q, inB [[(a, e0)], [(a2, e2)]] q → A q := fun q h => by
    rcases hin q h with rfl | rfl
    · exact hD.2 _ _ hpos
    · exact hD.2 _ _ hpos2
  refine va_callv hr hS (fun q _ h => hA q h) hA (fun u t H1 locs1 ht hvm hw hB3 hz hk hS1 => ?_)
  subst ht
  have hfl := fl_set Bs b j B (a, e1) hB (List.getElem?_eq_some_iff.mp he).1
  have hB2' : (Bs.set b (B.set j (a, e1)))[b2]? = some B2 := by rw [List.getElem?_set_ne hne]; exact hB2
  have hfl2 := fl_set (Bs.set b (B.set j (a, e1))) b2 j2 B2 (a2, e3) hB2' (List.getElem?_eq_some_iff.mp he2).1
  have hpos3 := fl_get (Bs.set b (B.set j (a, e1))) b2 j2 B2 _ hB2' he2
  have hD1 : DE A (Bs.set b (B.set j (a, e1))) := by show va_D A (Bs.set b (B.set j (a, e1))).flatten; rw [← hfl]; exact hD.set hpos
  refine kk _ _ ?_ (by show va_D A ((Bs.set b (B.set j (a, e1))).set b2 (B2.set j2 (a2, e3))).flatten; rw [← hfl2]; exact hD1.set hpos3) hS1
  show va_P _ _ ((Bs.set b (B.set j (a, e1))).set b2 (B2.set j2 (a2, e3))).flatten _
  rw [← hfl2]
  intro k q hq
  by_cases hk2 : k = fo (Bs.set b (B.set j (a, e1))) b2 + j2
  · subst hk2
    rw [List.getElem?_set, if_pos rfl, if_pos (List.getElem?_eq_some_iff.mp hpos3).1] at hq
    cases hq
    exact hB3 1 _ rfl
  · rw [List.getElem?_set_ne (Ne.symm hk2), ← hfl] at hq
    by_cases hkk : k = fo Bs b + j
    · subst hkk
      rw [List.getElem?_set, if_pos rfl, if_pos (List.getElem?_eq_some_iff.mp hpos).1] at hq
      cases hq
      exact hB3 0 _ rfl
    · rw [List.getElem?_set_ne (Ne.symm hkk)] at hq
      have hat := hP k q hq
      refine hat.kept (hk q.1 hat.lt (fun h => ?_))
      rcases hin _ h with h | h
      · exact hkk (hD.1 k _ q _ hq hpos h)
      · refine hk2 (hD1.1 k _ q (a2, e2) ?_ hpos3 h)
        rw [← hfl, List.getElem?_set_ne (Ne.symm hkk)]
        exact hq
end GV
