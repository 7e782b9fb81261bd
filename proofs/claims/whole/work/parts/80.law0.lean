/-! the law's world and its cases -/
theorem inv_asC {i : Int32} {r k u tb f : Row} {len : Nat} {q r2 k2 f2 tp : Row} {x y : Res} (h : Inv i r k u tb f len q r2 k2 f2 tp) (hr : RR x y) (e : rowR r x = r) : Inv i (rowR r x) k u tb (fndC f x) len q r2 k2 (fndM f2 y) tp := by
  rw [e]
  exact inv_ans h hr rfl rfl
theorem griefQ_0 {q : Row} {c : Nat → Bool} : griefQ q c 0 = q 0 := by
  unfold griefQ
  rw [upd_ne (by decide), upd_ne (by decide)]
theorem griefQ_3 {q : Row} {c : Nat → Bool} : griefQ q c 3 = q 3 := by
  unfold griefQ
  rw [upd_ne (by decide), upd_ne (by decide)]
theorem pickQ_0 {q : Row} {c : Nat → Bool} (x : Res) : pick x q (griefQ q c) 0 = q 0 := by
  cases x with
  | inl a => rfl
  | inr a => exact griefQ_0
theorem pickQ_3 {q : Row} {c : Nat → Bool} (x : Res) : pick x q (griefQ q c) 3 = q 3 := by
  cases x with
  | inl a => rfl
  | inr a => exact griefQ_3
theorem iteQ_0 {q : Row} {c : Nat → Bool} (P : Prop) [Decidable P] : (if P then griefQ q c else q) 0 = q 0 := by
  split
  · exact griefQ_0
  · rfl
theorem iteQ_3 {q : Row} {c : Nat → Bool} (P : Prop) [Decidable P] : (if P then griefQ q c else q) 3 = q 3 := by
  split
  · exact griefQ_3
  · rfl
theorem nI_any (x : Int32) : ∃ n : Nat, x = nI n := ⟨x.toBitVec.toNat, by
  apply Int32.toBitVec_inj.mp
  show x.toBitVec = BitVec.ofNat 32 x.toBitVec.toNat
  rw [BitVec.ofNat_toNat, BitVec.setWidth_eq]⟩
theorem qX_any (q : Row) : ∃ b e v mn pt : Nat, q = qX q (b, e, q 6, v, q 8) mn pt := by
  obtain ⟨b, hb⟩ := nI_any (q 4)
  obtain ⟨e, he⟩ := nI_any (q 5)
  obtain ⟨v, hv⟩ := nI_any (q 7)
  obtain ⟨mn, hm⟩ := nI_any (q 9)
  obtain ⟨pt, hp⟩ := nI_any (q 10)
  refine ⟨b, e, v, mn, pt, funext fun j => ?_⟩
  unfold qX
  by_cases c4 : j = 4
  · rw [if_pos c4, c4, hb]
  · rw [if_neg c4]
    by_cases c5 : j = 5
    · rw [if_pos c5, c5, he]
    · rw [if_neg c5]
      by_cases c6 : j = 6
      · rw [if_pos c6, c6]
      · rw [if_neg c6]
        by_cases c7 : j = 7
        · rw [if_pos c7, c7, hv]
        · rw [if_neg c7]
          by_cases c8 : j = 8
          · rw [if_pos c8, c8]
          · rw [if_neg c8]
            by_cases c9 : j = 9
            · rw [if_pos c9, c9, hm]
            · rw [if_neg c9]
              by_cases c10 : j = 10
              · rw [if_pos c10, c10, hp]
              · rw [if_neg c10]
theorem inv_text {i : Int32} {r k u tb f : Row} {len n : Nat} {q r2 k2 f2 tp x it : Row} {X : Xs} {a b : Nat} (h : Inv i r k u tb f len q r2 k2 f2 tp) (hn : r2 1 = nI n) (hn8 : n ≤ 8) : Inv i (if 0 ≤ (rlC tp len 120 1 (tkF tp len 0) (becF x r)).1 then becF r (rlC tp len 120 1 (tkF tp len 0) (becF x r)).2.2 else r) k u tb f 0 (qX (upd q 3 0) X a b) (txR r2 tp len n it) k2 f2 tp := by
  obtain ⟨C, eC⟩ : ∃ z, z = rlC tp len 120 1 (tkF tp len 0) (becF x r) := ⟨_, rfl⟩
  obtain ⟨t1, t2, t3⟩ := tx_rel it h.2.2.2.2.2.2.1 (Ev.bec.tr h.1) (RI_ev h.1 h.2.1) hn hn8 eC
  rw [← eC]
  have key : Ev (if 0 ≤ C.1 then becF r C.2.2 else r) (txR r2 tp len n it) ∧ RI (if 0 ≤ C.1 then becF r C.2.2 else r) := by
    by_cases c : 0 ≤ C.1
    · rw [if_pos c]
      obtain ⟨e1, e2⟩ := t2 c
      exact ⟨Ev.bec.tr e1, RI_ev (Ev.bec.tr e1).sy e2⟩
    · rw [if_neg c, t3 c]
      exact ⟨h.1, h.2.1⟩
  exact ⟨key.1, key.2, h.2.2.1, h.2.2.2.1, (show upd q 3 0 0 = i from (upd_ne (by decide)).trans h.2.2.2.2.1), h.2.2.2.2.2.1, Nat.zero_le _, (show upd q 3 0 3 = nI 0 from upd_at), fun j hj => absurd hj (Nat.not_lt_zero _), h.2.2.2.2.2.2.2.2.2⟩
/-- all that the law holds: the class's world and the reference's -/
abbrev LW (E : EV) (aS ag ah az ak am : Nat → Nat) (i0 : Int32) (r x k z u y tb f : Row) (len : Nat) (Y : Ys) (q r2 k2 x2 f2 tp it mv : Row) : List va_W := [[gObj ag ah az ak i0], hillsW E ah r, hillsW E az x, hillsW E ak k, shO E ag z u, shN E ag y, [rdY ag len Y], [(ag 3, .inl (E.2.2.1, 120, .inl (sg tb 120)))], [(ag 4, .inl (E.2.1, 7, .inl (sg f 7)))], [mObj am q], [(am 1, .inl (E.2.1, 77, .inl (sg r2 77)))], [(am 2, .inl (E.2.1, 77, .inl (sg k2 77)))], [(am 3, .inl (E.2.1, 77, .inl (sg x2 77)))], [(am 4, .inl (E.2.1, 8, .inl (sg f2 8)))], [(am 5, .inl (E.2.1, 120, .inl (sg tp 120)))], [(am 6, .inl (E.2.2.2.2.2, 7, .inr (.inr (.inr (.inr (fun j => some (aS (12 + j))))))))], [(am 7, .inl (E.2.1, 480, .inl (sg it 480)))], [(am 8, .inl (E.2.1, 4, .inl (sg z 4)))], [(am 9, .inl (E.2.1, 4, .inl (sg u 4)))], [(am 10, .inl (E.2.1, 160, .inl (sg y 160)))], [(am 11, .inl (E.2.1, 40, .inl (sg mv 40)))]]
def KK (p : Program) (l : Launch) (e : Env) (s : State) (m : MethodId) (below : List Frame) (meth : Method) (c : Code) (b : Nat) (E : EV) (aS ag ah az ak am : Nat → Nat) (A : Nat → Prop) (cells slots : Nat) (Q : State → Prop) (i : Nat) : Prop := ∀ (i0 : Int32) (r x k z u y tb f : Row) (len : Nat) (Y : Ys) (q r2 k2 x2 f2 tp it mv : Row) (H : Heap) (locs : List Loc) (ls : Array Slot), Inv i0 r k u tb f len q r2 k2 f2 tp → PE E (LW E aS ag ah az ak am i0 r x k z u y tb f len Y q r2 k2 x2 f2 tp it mv) H → DE A (LW E aS ag ah az ak am i0 r x k z u y tb f len Y q r2 k2 x2 f2 tp it mv) → va_S A s.heap H locs → lv_has ls 4 [(0, .ref b), (1, .ref (ag 0)), (2, .ref (am 0)), (3, .int (nI i))] → W p l e room_1 s m #[Value.ref b] below meth c H locs cells slots Q (F0 m 1399 ls [])
theorem b_sld {p : Program} {l : Launch} {e : Env} {R : Room} {s : State} {m : MethodId} {args : Array Value} {below : List Frame} {meth : Method} {c : Code} {H H0 : Heap} {locs : List Loc} {cells slots : Nat} {Q : State → Prop} {cc : ByteArray} {pc : Nat} {ls : Array Slot} {rest : List Value} {A : Nat → Prop} {b L : Nat} {xs : Nat → Int32} {j : Nat} (hexec : p.tables.exec = Jvm.exec) (hb : c.code = cc) (hX : va_X b L xs s H0) (hbl : b < H0.size) (hbA : ¬ A b) (hS : va_S A H0 H locs) (hj : j < L) (hL : L < 2147483648) (hdg : decode cc pc = .ok (.iaload, 1)) (kk : W p l e R s m args below meth c H locs cells slots Q (F0 m (pc + 1) ls (.int (xs j) :: rest))) : W p l e R s m args below meth c H locs cells slots Q (F0 m pc ls (.int (nI j) :: .ref b :: rest)) := by
  refine va_sld hexec hb hX hbl hbA hS (vp_in_nI hj hL) hdg ?_
  rw [nI_clamp (by omega)]
  exact kk
