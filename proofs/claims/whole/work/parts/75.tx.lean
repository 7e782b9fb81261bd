theorem lp_ok {tp : Row} {len n : Nat} : ∀ (F : Nat) (Y : Xs × Nat × Nat × Row), XI len Y.1 → (Y.1.2.2.2.2 = 0 → Y.2.1 ≤ Y.1.1 ∧ OKI n Y.2.1 Y.2.2.1 Y.2.2.2) → XI len (lpN tp len F Y).1 ∧ ((lpN tp len F Y).1.2.2.2.2 = 0 → (lpN tp len F Y).2.1 ≤ (lpN tp len F Y).1.1 ∧ OKI n (lpN tp len F Y).2.1 (lpN tp len F Y).2.2.1 (lpN tp len F Y).2.2.2)
  | 0, _, h1, h2 => ⟨h1, h2⟩
  | F + 1, Y, h1, h2 => by
    rw [lpN]
    by_cases c : Y.1.2.2.2.2 = 0 ∧ Y.1.2.2.1 = 3 ∧ tp Y.1.1 = 59
    · rw [if_pos c]
      obtain ⟨m1, m2, m3⟩ := mst_J (tp := tp) (x := 1) h1
      obtain ⟨k1, k2⟩ := h2 c.1
      have r := rdI_ok (tp := tp) (it := Y.2.2.2) (n := n) (pt := Y.2.2.1) m1 (Nat.le_trans k1 m2)
      exact lp_ok F _ r.1 (fun w => ⟨(r.2.2.2 w).2.1, (r.2.2.2 w).2.2 k2⟩)
    · rw [if_neg c]
      exact ⟨h1, h2⟩
theorem tx_ok {tp it : Row} {len n : Nat} {T : Xs × Nat × Nat × Row} (eT : T = lpN tp len (len + 1) (rdI tp len (tkX tp len 0 0) 0 n it)) (hn8 : n ≤ 8) {x : Int32} (h : (mstF tp len T.1 x).2.2.2.2 = 0) : OKI n T.2.1 T.2.2.1 T.2.2.2 := by
  have h0 := (tk_I (tp := tp) (len := len) (k := 0) 0 (Nat.zero_le _)).1
  have r := rdI_ok (tp := tp) (it := it) (n := n) (mn := 0) (pt := n) h0 (Nat.zero_le _)
  have k := lp_ok (tp := tp) (n := n) (len + 1) (rdI tp len (tkX tp len 0 0) 0 n it) r.1 (fun w => ⟨(r.2.2.2 w).2.1, (r.2.2.2 w).2.2 (OKI_0 hn8)⟩)
  rw [← eT] at k
  exact (k.2 (mst_w h).1).2
theorem rl_top0 {tp t it : Row} {len n f : Nat} {Y0 : Ys} {R0 T : Xs × Nat × Nat × Row} {C : Int32 × Ys × Row} (hf : 0 + f = 120) (hl : len ≤ 120) (ht : t 1 = nI n) (hn8 : n ≤ 8) (hJ : YJ tp len Y0) (h5 : len < Y0.1 + (len + 1)) (h6 : t = tldN t it 0) (eR : rdI tp len (XY Y0 0) 0 n it = R0) (eT : lpN tp len (len + 1) R0 = T) (eC : rlC tp len f (0 + 1) Y0 t = C) : (if (mstF tp len T.1 (bI (T.1.2.2.1 = 0))).2.2.2.2 = 0 then C.1 = nI T.2.1 ∧ T.2.1 ≤ 120 ∧ C.2.2 = tldN t T.2.2.2 T.2.1 else C.1 = -1 - nI (mstF tp len T.1 (bI (T.1.2.2.1 = 0))).1 ∧ (mstF tp len T.1 (bI (T.1.2.2.1 = 0))).1 ≤ 120) ∧ True := by
  have hh := rl_rel (t0 := t) hl f 0 (len + 1) n Y0 t it hf hJ (Nat.zero_le _) ht hn8 h5 h6
  rw [eR, eT, eC] at hh
  exact hh
theorem tk0_lt {tp : Row} {len : Nat} : len < (tkF tp len 0).1 + (len + 1) := Nat.lt_of_lt_of_le (Nat.lt_succ_self len) (Nat.le_add_left _ _)
theorem tld_0 {t it : Row} : t = tldN t it 0 := rfl
theorem tkX_XY {tp : Row} {len : Nat} : tkX tp len 0 0 = XY (tkF tp len 0) 0 := rfl
theorem tx_rel {tp r t : Row} {len n : Nat} (it : Row) (hl : len ≤ 120) (hev : Ev t r) (hr : RI r) (hn : r 1 = nI n) (hn8 : n ≤ 8) {C : Int32 × Ys × Row} (eC : C = rlC tp len 120 1 (tkF tp len 0) t) : C.1 = txA tp len n it ∧ ((0 ≤ C.1 → Ev C.2.2 (txR r tp len n it) ∧ RI (txR r tp len n it)) ∧ (¬ 0 ≤ C.1 → txR r tp len n it = r)) := by
  have ht : t 1 = nI n := (hev.lo (by decide)).trans hn
  obtain ⟨T, eT⟩ : ∃ z, z = lpN tp len (len + 1) (rdI tp len (tkX tp len 0 0) 0 n it) := ⟨_, rfl⟩
  have eY : txY tp len n it = T := eT.symm
  have h9 := rl_top0 (R0 := rdI tp len (tkX tp len 0 0) 0 n it) (Nat.zero_add 120) hl ht hn8 tk0_J tk0_lt tld_0 (by rw [tkX_XY]) eT.symm eC.symm
  have tok := fun x => tx_ok (x := x) eT hn8
  unfold txA txR txX
  rw [eY]
  clear eY eT
  generalize hM : mstF tp len T.1 (bI (T.1.2.2.1 = 0)) = M at h9 ⊢
  have tok : M.2.2.2.2 = 0 → OKI n T.2.1 T.2.2.1 T.2.2.2 := fun q => tok _ (by rw [hM]; exact q)
  by_cases c : M.2.2.2.2 = 0
  · rw [if_pos c] at h9
    have h := h9.1
    rw [if_pos c, if_pos c]
    have ho := tok c
    refine ⟨h.1, fun _ => ?_, fun q => absurd (by rw [h.1]; exact nI_pos' (by omega)) q⟩
    rw [h.2.2]
    exact ⟨ev_tldN hev hr hn hn8 ho _ (Nat.le_refl _), (tld_ok hr hn hn8 ho _ (Nat.le_refl _)).1⟩
  · rw [if_neg c] at h9
    have h := h9.1
    rw [if_neg c, if_neg c]
    refine ⟨h.1, fun q => ?_, fun _ => rfl⟩
    rw [h.1] at q
    exfalso
    have e : (-1 : Int32) - nI M.1 < 0 := by
      have h2 := h.2
      generalize M.1 = a at h2
      rw [Int32.lt_iff_toInt_lt, Int32.toInt_sub, nI_toInt (show a < 2 ^ 31 by omega)]
      show ((-1 : Int) - (a : Int)).bmod (2 ^ 32) < 0
      have : ((-1 : Int) - (a : Int)).bmod (2 ^ 32) = -1 - (a : Int) := by
        rw [Int.bmod_eq_of_le] <;> omega
      omega
    exact Int32.not_lt.mpr q e
