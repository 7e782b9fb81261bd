/-! arraycopy in blocks; a call on two cells -/
section CP
variable {p : Program} {l : Launch} {e : Env} {R : Room} {s : State} {m : MethodId} {args : Array Value} {below : List Frame} {meth : Method} {c : Code} {H H0 : Heap} {locs : List Loc} {cells slots : Nat} {Q : State → Prop} {cc : ByteArray} {nL pc : Nat} {ls : Array Slot} {rest : List Value} {c0 : Cond} {own : String} {E : EV} {Bs : List va_W} {A : Nat → Prop} {a : Nat}
theorem b_copyi (S : CallFix p m c cc nL s args (c0 :: GW) own) (hsz : ls.size = nL) (hK : KE E s) (hP : PE E Bs H) (hD : DE A Bs) (hS : va_S A H0 H locs) {index : Nat} (hlink : Cond.methodLink own index arraycopyName ∈ GW) (b0 j0 b1 j1 : Nat) {a0 : Nat} {B0 B B1 : va_W} (hB0 : Bs[b0]? = some B0) (hB : Bs[b1]? = some B) {n0 n1 : Nat} {f g : Nat → Int32} (he0 : B0[j0]? = some (a0, .inl (E.2.1, n0, .inl f))) (he : B[j1]? = some (a, .inl (E.2.1, n1, .inl g))) {sp dp n : Nat} (h4 : sp + n ≤ n0) (h5 : dp + n ≤ n1) (hb0 : n0 < 2147483648) (hb1 : n1 < 2147483648) (hB1 : B.set j1 (a, .inl (E.2.1, n1, .inl (va_cpy f g sp dp n))) = B1) {Bs1 : List va_W} (hBs : Bs.set b1 B1 = Bs1) (hframes : 1 ≤ R.frames) (hlocals : (rest.map fun v => v.category).sum + (nativeFrameWords "java/lang/System" "arraycopy" 5 + 11) ≤ R.locals) (hdg : decode cc pc = .ok (.invokestatic index, 3))
    (kk : ∀ (H1 : Heap) (locs1 : List Loc), PE E Bs1 H1 → DE A Bs1 → va_S A H0 H1 locs1 → W p l e R s m args below meth c H1 locs1 cells slots Q (F0 m (pc + 3) ls rest)) : W p l e R s m args below meth c H locs cells slots Q (F0 m pc ls (.int (nI n) :: .int (nI dp) :: .ref a :: .int (nI sp) :: .ref a0 :: rest)) := by
  subst hBs; subst hB1
  have tb : ∀ w ∈ GW, w.before args s = true := fun w h => S.2.2.2.2 w (List.mem_cons_of_mem _ h)
  refine va_copyi S.1 S.2.1 (S.2.2.1.trans hsz.symm) S.2.2.2.1 (tb _ hlink) (tb _ vk9_arraycopyName) (tb _ sk_arraycopyName) (tb _ nk_J10) hK hP hD hS _ _ 0 0 (fl_get Bs b0 j0 B0 _ hB0 he0) (fl_get Bs b1 j1 B _ hB he) (ty := .int) rfl rfl rfl (nI_pos (by omega)) (nI_pos (by omega)) (nI_pos (by omega)) (by rw [nI_clamp (by omega), nI_clamp (by omega)]; exact h4) (by rw [nI_clamp (by omega), nI_clamp (by omega)]; exact h5) (fun _ _ => rfl) hframes hlocals hdg (fun H1 locs1 hP hD hS => ?_)
  rw [nI_clamp (by omega), nI_clamp (by omega), nI_clamp (by omega)] at hP hD
  rw [fl_set Bs b1 j1 B _ hB (List.getElem?_eq_some_iff.mp he).1] at hP hD
  exact kk H1 locs1 hP hD hS
theorem cell2_P {b j b2 j2 : Nat} {B B2 : va_W} {q q2 : Nat × va_E} (hP : PE E Bs H) (hB : Bs[b]? = some B) (he : B[j]? = some q) (hB2 : Bs[b2]? = some B2) (he2 : B2[j2]? = some q2) : PE E [[q], [q2]] H := by
  intro k x hq
  have h := List.mem_of_getElem? hq
  simp only [List.flatten_cons, List.flatten_nil, List.append_nil, List.mem_append, List.mem_singleton] at h
  rcases h with rfl | rfl
  · exact hP _ _ (fl_get Bs b j B _ hB he)
  · exact hP _ _ (fl_get Bs b2 j2 B2 _ hB2 he2)
theorem cell2_D {b j b2 j2 : Nat} {B B2 : va_W} {q q2 : Nat × va_E} (hD : DE A Bs) (hB : Bs[b]? = some B) (he : B[j]? = some q) (hB2 : Bs[b2]? = some B2) (he2 : B2[j2]? = some q2) (hne : b ≠ b2) : DE (fun _ => True) [[q], [q2]] := by
  have hx : q.1 ≠ q2.1 := fun h => hne (fo_inj Bs b b2 j j2 B B2 hB hB2 (List.getElem?_eq_some_iff.mp he).1 (List.getElem?_eq_some_iff.mp he2).1 (hD.1 _ _ q q2 (fl_get Bs b j B _ hB he) (fl_get Bs b2 j2 B2 _ hB2 he2) h))
  refine ⟨fun i k x y hi hk hxy => ?_, fun _ _ _ => trivial⟩
  have l1 := (List.getElem?_eq_some_iff.mp hi).1
  have l2 := (List.getElem?_eq_some_iff.mp hk).1
  simp only [List.flatten_cons, List.flatten_nil, List.append_nil, List.length_append, List.length_singleton] at l1 l2
  rcases (show i = 0 ∨ i = 1 by omega) with rfl | rfl <;> rcases (show k = 0 ∨ k = 1 by omega) with rfl | rfl
  · rfl
  · cases hi; cases hk; exact absurd hxy hx
  · cases hi; cases hk; exact absurd hxy.symm hx
  · rfl
/-- behind a call on two cells that wrote in the first -/
theorem go_Vc2 {st0 : List Value} {av : Array Value} {B B1 B2 : va_W} {Bs' : List va_W} {b j b2 j2 a2 : Nat} {e0 e1 e2 : va_E} (hr : va_Run p l e R s m args below meth c H locs cells slots 0 0 (F0 m pc ls st0) rest (qV E [[(a, e0)], [(a2, e2)]] [[(a, e1)], [(a2, e2)]] av) (inB [[(a, e0)], [(a2, e2)]])) (hP : PE E Bs H) (hD : DE A Bs) (hS : va_S A H0 H locs) (hB : Bs[b]? = some B) (he : B[j]? = some (a, e0)) (hB2 : Bs[b2]? = some B2) (he2 : B2[j2]? = some (a2, e2)) (hB1 : B.set j (a, e1) = B1) (hres : Bs.set b B1 = Bs') (kk : ∀ (H1 : Heap) (locs1 : List Loc), PE E Bs' H1 → DE A Bs' → va_S A H0 H1 locs1 → W p l e R s m args below meth c H1 locs1 cells slots Q (F0 m (pc + 3) ls rest)) : W p l e R s m args below meth c H locs cells slots Q (F0 m pc ls st0) := by
  subst hres; subst hB1
  have hpos := fl_get Bs b j B _ hB he
  have hpos2 := fl_get Bs b2 j2 B2 _ hB2 he2
  have hin : ∀ q, inB [[(a, e0)], [(a2, e2)]] q → q = a ∨ q = a2 := by
    rintro q ⟨k, e3, h⟩
    have h := List.mem_of_getElem? h
    simp only [List.flatten_cons, List.flatten_nil, List.append_nil, List.mem_append, List.mem_singleton, Prod.mk.injEq] at h
    rcases h with h | h
    · exact Or.inl h.1
    · exact Or.inr h.1
  have hA : ∀ q, inB [[(a, e0)], [(a2, e2)]] q → A q := fun q h => by
    rcases hin q h with rfl | rfl
    · exact hD.2 _ _ hpos
    · exact hD.2 _ _ hpos2
  refine va_callv hr hS (fun q _ h => hA q h) hA (fun u t H1 locs1 ht hvm hw hB3 hz hk hS1 => ?_)
  subst ht
  have hfl := fl_set Bs b j B (a, e1) hB (List.getElem?_eq_some_iff.mp he).1
  refine kk _ _ ?_ (by show va_D A (Bs.set b (B.set j (a, e1))).flatten; rw [← hfl]; exact hD.set hpos) hS1
  show va_P _ _ (Bs.set b (B.set j (a, e1))).flatten _
  rw [← hfl]
  intro k q hq
  by_cases hkk : k = fo Bs b + j
  · subst hkk
    rw [List.getElem?_set, if_pos rfl, if_pos (List.getElem?_eq_some_iff.mp hpos).1] at hq
    cases hq
    exact hB3 0 _ rfl
  · rw [List.getElem?_set_ne (Ne.symm hkk)] at hq
    by_cases hk2 : k = fo Bs b2 + j2
    · subst hk2
      rw [hpos2] at hq
      cases hq
      exact hB3 1 _ rfl
    · have hat := hP k q hq
      refine hat.kept (hk q.1 hat.lt (fun h => ?_))
      rcases hin _ h with h | h
      · exact hkk (hD.1 k _ q _ hq hpos h)
      · exact hk2 (hD.1 k _ q _ hq hpos2 h)
end CP
/-! a hills becomes another -/
def becF (r r2 : Row) : Row := fun j => if j < 21 + 7 * cntN r2 then r2 j else r j
theorem cpy_seg {r r2 : Row} {a n : Nat} : va_cpy (seg r2 a n) (seg r a n) 0 0 n = seg (cpF r r2 a n) a n := funext fun j => by
  unfold va_cpy seg cpF
  by_cases h : j < n
  · rw [if_pos (by omega), if_pos (by omega), if_pos h, if_pos (by omega)]
    congr 1
    omega
  · rw [if_neg (by omega), if_neg h, if_neg h]
theorem hs_cpl {E : EV} {ad : Nat → Nat} {r r2 : Row} : (hillsW E ad r).set 1 (ad 1, .inl (E.2.1, 6, .inl (va_cpy (seg r2 5 6) (seg r 5 6) 0 0 6))) = hillsW E ad (cpF r r2 5 6) := by
  rw [cpy_seg]
  exact (show (hillsW E ad r).set 1 (ad 1, .inl (E.2.1, 6, .inl (seg (cpF r r2 5 6) 5 6))) = hillsC E ad (r 1) (r 3) (r 4) (r 0) (r 2) (seg (cpF r r2 5 6) 5 6) (seg r 11 10) (ptE r) from rfl).trans (hw_eq rfl rfl rfl rfl rfl rfl (seg_congr fun j hj => if_neg (by omega)) (fun i => ptE_congr fun f hf => if_neg (by omega)))
theorem hs_cps {E : EV} {ad : Nat → Nat} {r r2 : Row} : (hillsW E ad r).set 3 (ad 3, .inl (E.2.1, 10, .inl (va_cpy (seg r2 11 10) (seg r 11 10) 0 0 10))) = hillsW E ad (cpF r r2 11 10) := by
  rw [cpy_seg]
  exact (show (hillsW E ad r).set 3 (ad 3, .inl (E.2.1, 10, .inl (seg (cpF r r2 11 10) 11 10))) = hillsC E ad (r 1) (r 3) (r 4) (r 0) (r 2) (seg r 5 6) (seg (cpF r r2 11 10) 11 10) (ptE r) from rfl).trans (hw_eq rfl rfl rfl rfl rfl (seg_congr fun j hj => if_neg (by omega)) rfl (fun i => ptE_congr fun f hf => if_neg (by omega)))
theorem cpF_step {r r2 : Row} {i : Nat} : putP (cpF r r2 21 (7 * i)) i (fun f => r2 (21 + 7 * i + f)) = cpF r r2 21 (7 * (i + 1)) := funext fun j => by
  unfold putP cpF
  by_cases h : 21 + 7 * i ≤ j ∧ j < 21 + 7 * i + 7
  · rw [if_pos h, if_pos (by omega)]
    show r2 (21 + 7 * i + (j - (21 + 7 * i))) = r2 j
    congr 1
    omega
  · rw [if_neg h]
    by_cases h2 : 21 ≤ j ∧ j < 21 + 7 * i
    · rw [if_pos h2, if_pos (by omega)]
    · rw [if_neg h2, if_neg (by omega)]
theorem cpF_0 {r r2 : Row} : cpF r r2 21 (7 * 0) = r := funext fun j => if_neg (by omega)
theorem becF_eq {r r2 : Row} {n : Nat} (hn : cntN r2 = n) : upd (upd (upd (upd (cpF (upd (cpF (cpF r r2 5 6) r2 11 10) 1 (r2 1)) r2 21 (7 * n)) 3 (r2 3)) 4 (r2 4)) 0 (r2 0)) 2 (r2 2) = becF r r2 := funext fun j => by
  simp only [upd, cpF, becF, hn]
  repeat' split
  all_goals first | rfl | (congr 1; omega) | (exfalso; omega)
