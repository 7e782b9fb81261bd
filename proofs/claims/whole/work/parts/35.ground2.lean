/-! ends with a row that nobody needs to know (a scratch row); answers as results -/
abbrev qIx (E : EV) (Bs : List va_W) (Bs' : Row → List va_W) (ans : Int32) : Array Value → State → Outcome → State → Prop := va_Qi (fun (r : Int32) (_ : Row) => r = ans) (fun u t => PE E (Bs' u) t.heap) (inB Bs)
section GX
variable {p : Program} {l : Launch} {e : Env} {R : Room} {s : State} {m : MethodId} {args : Array Value} {below : List Frame} {meth : Method} {c : Code} {H H0 : Heap} {locs : List Loc} {cells slots : Nat} {Q : State → Prop} {cc : ByteArray} {nL pc : Nat} {ls : Array Slot} {rest : List Value} {Ts : List Cond} {own : String} {E : EV} {Bs Bc : List va_W} {A : Nat → Prop} {a : Nat} {st0 : List Value} {av : Array Value}
theorem retIx {Bs' : Row → List va_W} {ans v : Int32} (S : CallFix p m c cc nL s args Ts own) (hr : meth.sig.returnType = some .int) (hlk : meth.locks = false) (u : Row) (hP : PE E (Bs' u) H) (hS : va_S (inB Bs) s.heap H locs) (hv : v = ans) (hdg : decode cc pc = .ok (.ireturn, 1)) : W p l e R s m args below meth c H locs 0 0 (MQ below (qIx E Bs Bs' ans) args s 0 0 (inB Bs)) (F0 m pc ls [.int v]) :=
  W.iret S.1 S.2.1 hr (fun t ht hW => ⟨⟨v, u, rfl, hv, by show PE E (Bs' u) t.heap; rw [ht]; exact hP⟩, hS.F ht⟩) hS.2.2 hdg hlk
theorem retZx {Bs' : Row → List va_W} {ans v : Int32} (S : CallFix p m c cc nL s args Ts own) (hr : meth.sig.returnType = some .boolean) (hlk : meth.locks = false) (hn : narrow .boolean (.int v) = .int v) (u : Row) (hP : PE E (Bs' u) H) (hS : va_S (inB Bs) s.heap H locs) (hv : v = ans) (hdg : decode cc pc = .ok (.ireturn, 1)) : W p l e R s m args below meth c H locs 0 0 (MQ below (qIx E Bs Bs' ans) args s 0 0 (inB Bs)) (F0 m pc ls [.int v]) :=
  W.zret S.1 S.2.1 hr hn (fun t ht hW => ⟨⟨v, u, rfl, hv, by show PE E (Bs' u) t.heap; rw [ht]; exact hP⟩, hS.F ht⟩) hS.2.2 hdg hlk
theorem go_Ix {ans : Int32} {Bc' Bs' : Row → List va_W} (hr : va_Run p l e R s m args below meth c H locs cells slots 0 0 (F0 m pc ls st0) rest (qIx E Bc Bc' ans av) (inB Bc)) (hP : PE E Bs H) (hD : DE A Bs) (hS : va_S A H0 H locs) (is : List Nat) (hsub : is.map (fun i => Bs[i]?) = Bc.map some) (had : ∀ u, (Bc' u).map (fun B => B.map Prod.fst) = Bc.map (fun B => B.map Prod.fst)) (hres : ∀ u, fset Bs is (Bc' u) = Bs' u) (kk : ∀ (u : Row) (H1 : Heap) (locs1 : List Loc), PE E (Bs' u) H1 → DE A (Bs' u) → va_S A H0 H1 locs1 → W p l e R s m args below meth c H1 locs1 cells slots Q (F0 m (pc + 3) ls (.int ans :: rest))) : W p l e R s m args below meth c H locs cells slots Q (F0 m pc ls st0) := by
  refine va_calli hr hS (fun q _ h => inB_D hD is hsub q h) (inB_D hD is hsub) (fun r u t H1 locs1 ht hvm hw hB hz hk hS1 => ?_)
  subst hw; subst ht
  obtain ⟨h1, h2⟩ := bl_back hP hD is hsub (had u) hk hB
  rw [hres u] at h1 h2
  exact kk u _ _ h1 h2 hS1
end GX
theorem pot_nat {v : Int32} {r : Row} {n : Nat} (h : 0 ≤ v ∧ v < r 1) (hn : r 1 = nI n) (hn8 : n < 2147483648) : ∃ k : Nat, k < n ∧ v = nI k := by
  obtain ⟨k, hk, rfl⟩ := nI_of (Int32.not_lt.mpr h.1)
  refine ⟨k, ?_, rfl⟩
  have h2 := h.2
  rw [hn] at h2
  exact (nI_ltI hk hn8).mp h2
/-- a finding by its number, or the row behind and the answer -/
abbrev Res : Type := Nat ⊕ (Row × Int32)
def rowR (r : Row) (x : Res) : Row := match x with | .inl _ => r | .inr y => y.1
def ansR (x : Res) : Int32 := match x with | .inl k => -1000001 - nI k | .inr y => y.2
def fndM (f : Row) (x : Res) : Row := match x with | .inl k => findM f k | .inr _ => f
def fndC (f : Row) (x : Res) : Row := match x with | .inl k => upd f k (f k + 1) | .inr _ => f
theorem ansR_inr {y : Row} {v : Int32} : ansR (.inr (y, v)) = v := rfl
theorem rowR_inr {r y : Row} {v : Int32} : rowR r (.inr (y, v)) = y := rfl
theorem rowR_inl {r : Row} {k : Nat} : rowR r (.inl k) = r := rfl
theorem fndM_inr {f y : Row} {v : Int32} : fndM f (.inr (y, v)) = f := rfl
theorem fndM_inl {f : Row} {k : Nat} : fndM f (.inl k) = findM f k := rfl
theorem fndC_inr {f y : Row} {v : Int32} : fndC f (.inr (y, v)) = f := rfl
theorem fndC_inl {f : Row} {k : Nat} : fndC f (.inl k) = upd f k (f k + 1) := rfl
def isP (r : Row) (v : Int32) : Prop := 0 ≤ v ∧ v < r 1
abbrev tN (v : Int32) : Nat := v.toNatClampNeg
def rWeather (r : Row) (i v : Int32) : Res := if 0 ≤ i ∧ i ≤ 5 then (if 0 ≤ v ∧ v ≤ 99 then .inr (upd r (5 + tN i) v, r (5 + tN i)) else .inl 0) else .inl 0
def rListed (r : Row) (i : Int32) : Res := if 0 ≤ i ∧ i ≤ 5 then .inr (r, r (5 + tN i)) else .inl 0
def rOnions (r : Row) (v : Int32) : Res := if 0 ≤ v ∧ v ≤ 99 then .inr (upd r 3 v, r 3) else .inl 0
def rPotter (r : Row) (k g : Int32) : Res := if 0 ≤ k ∧ k ≤ 6 then (if 0 ≤ g ∧ g ≤ 99 then (if 8 ≤ r 1 then .inl 1 else .inr (addF r k g, nI (cntN r))) else .inl 0) else .inl 0
def rOf (r : Row) (p w : Int32) : Res := if 0 ≤ p ∧ p < r 1 then (if 0 ≤ w ∧ w ≤ 12 then .inr (r, toldM r (tN p) (tN w)) else .inl 0) else .inl 0
def rChange (r : Row) (p w v : Int32) : Res := if 0 ≤ p ∧ p < r 1 then (if fldB w v = 0 then .inl 0 else .inr (upd r (21 + 7 * tN p + tN w) v, r (21 + 7 * tN p + tN w))) else .inl 0
def rGo (r : Row) (n : Int32) : Res := if 1 ≤ n ∧ n ≤ 60 then (if 99999 < r 0 + n then .inl 4 else .inr (daysF r (tN n), daysF r (tN n) 4)) else .inl 0
def rNow (r : Row) (w : Int32) : Res := if w = 0 then .inr (r, r 0) else if w = 1 then .inr (r, r 4) else if w = 2 then .inr (r, r 3) else if w = 3 then .inr (r, sumR r 5 (cntN r)) else if w = 4 then .inr (r, sumR r 6 (cntN r)) else if w = 5 then .inr (r, colR r (cntN r)) else if w = 6 then .inr (r, rdyR r (cntN r)) else if w = 7 then .inr (r, (wetR r (cntN r)).1) else .inl 0
def rAhead (r : Row) (p w n : Int32) : Res := if 0 ≤ p ∧ p < r 1 then (if w = 1 ∨ (3 ≤ w ∧ w ≤ 6) then (if 0 ≤ n ∧ n ≤ 100 then .inr (r, daysF r (tN n) (21 + 7 * tN p + tN w)) else .inl 0) else .inl 0) else .inl 0
def rSold (r : Row) (n : Int32) : Res := if 0 ≤ n ∧ n ≤ 100 then .inr (r, daysF r (tN n) 4) else .inl 0
def fstR (r : Row) (c : Nat → Bool) (N : Nat) : Res := if fstN c N < N then .inr (r, nI (fstN c N)) else .inl 3
def rWhen (r : Row) (p v : Int32) : Res := if 0 ≤ p ∧ p < r 1 then (if 0 ≤ v ∧ v ≤ 9999 then fstR r (fun k => decide (v ≤ daysF r k (21 + 7 * tN p + 5))) 201 else .inl 0) else .inl 0
def rCracks (r : Row) (p : Int32) : Res := if 0 ≤ p ∧ p < r 1 then fstR r (fun k => decide (r (21 + 7 * tN p + 6) + 1 ≤ daysF r k (21 + 7 * tN p + 6))) 201 else .inl 0
def rTinted (r : Row) (p w : Int32) : Res := if 0 ≤ p ∧ p < r 1 then (if 0 ≤ w ∧ w ≤ 7 then fstR r (fun k => decide (0 < daysF r k (21 + 7 * tN p + 5) ∧ daysF r k (21 + 7 * tN p + 4) = w)) 201 else .inl 0) else .inl 0
def rHours (r : Row) (p v n : Int32) : Res := if 0 ≤ p ∧ p < r 1 then (if 0 ≤ v ∧ v ≤ 9999 then (if 0 ≤ n ∧ n ≤ 60 then fstR r (fun h => decide (v ≤ daysF (upd r (21 + 7 * tN p + 2) (nI h)) (tN n) (21 + 7 * tN p + 5))) 10 else .inl 0) else .inl 0) else .inl 0
def rKindFor (r : Row) (p n : Int32) : Res := if 0 ≤ p ∧ p < r 1 then (if 0 ≤ n ∧ n ≤ 60 then .inr (r, (bestN (fun k => daysF (upd r (21 + 7 * tN p) (nI k)) (tN n) 4) 7).1) else .inl 0) else .inl 0
def rGriefFor (r : Row) (p n : Int32) : Res := if 0 ≤ p ∧ p < r 1 then (if 0 ≤ n ∧ n ≤ 60 then fstR r (fun g => decide (daysF (upd r (21 + 7 * tN p + 1) (nI g)) (tN n) (21 + 7 * tN p + 6) = r (21 + 7 * tN p + 6))) 100 else .inl 0) else .inl 0
def rWeatherFor (r : Row) (i n : Int32) : Res := if 0 ≤ i ∧ i ≤ 5 then (if 0 ≤ n ∧ n ≤ 40 then .inr (r, (bestN (fun k => daysF (upd r (5 + tN i) (nI k)) (tN n) 4) 100).1) else .inl 0) else .inl 0
def rOnionsFor (r : Row) (v n : Int32) : Res := if 0 ≤ v ∧ v ≤ 99999 then (if 0 ≤ n ∧ n ≤ 40 then fstR r (fun o => decide (v ≤ daysF (upd r 3 (nI o)) (tN n) 4)) 100 else .inl 0) else .inl 0
def stormN (r : Row) : Nat → Row
  | 0 => r
  | k + 1 => stormF (stormN r k)
def rStorms (r : Row) (n : Int32) : Res := if 1 ≤ n ∧ n ≤ 20 then (if 99999 < r 0 + n then .inl 4 else .inr (stormN r (tN n), stormN r (tN n) 4)) else .inl 0
def rSeed (r : Row) (v : Int32) : Res := .inr (upd r 2 v, r 2)
def rHold (r : Row) (s p : Int32) : Res := if 0 ≤ s ∧ s ≤ 9 then (if p = -1 ∨ (0 ≤ p ∧ p < r 1) then .inr (upd r (11 + tN s) p, 1) else .inl 0) else .inl 0
