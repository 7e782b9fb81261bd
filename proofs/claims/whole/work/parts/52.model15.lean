theorem ldcStrW {p : Program} {l : Launch} {e : Env} {R : Room} {s : State} {m : MethodId} {args : Array Value} {below : List Frame} {meth : Method} {c : Code} {T : State} {locs : List Loc} {cells slots : Nat}
    (X : Stand p l e R s m args below meth c T locs cells slots) (hexec : p.tables.exec = Jvm.exec) {own text : String} {index : Nat} {a : Addr} (hown : s.vm.findClass own = some m.cls)
    (hconst : (Cond.stringRef own index text).before args s = true) (hev : (Term.string own index).eval args s none [] s = some (.ref a)) {g : JFrame} (hg : g.method = m) (hdg : decode c.code g.pc = .ok (.ldc_w index, 3)) :
    ∀ target, Steps p.tables e below (T.setTop { g with pc := g.pc + 3, stack := .ref a :: g.stack }) target → Steps p.tables e below (T.setTop g) target := by
  obtain ⟨k, cf, i, a', hk, hcf, hcp, -, hr, hev'⟩ := Cond.stringRef_spec hown hconst
  cases hev.symm.trans hev'
  obtain ⟨k', hk', he⟩ := X.warmed.alike.2.2 _ _ hk
  have hr' : k'.resolved[index]? = some (some (.string a)) := by
    rcases X.warmed.entry hk hk' index with h | ⟨h, -⟩
    · rw [h]; exact hr
    · rw [hr] at h; cases h
  intro target hrest
  subst hg
  jvm_step X.here [hexec, hdg, ldc_w.wp_string (e := e) (s := T) (f := g) X.here.top hk' (by rw [he]; exact hcf) hcp hr']
  exact hrest
theorem va_ldcwS {p : Program} {l : Launch} {e : Env} {R : Room} {s : State} {m : MethodId} {args : Array Value} {below : List Frame} {meth : Method} {c : Code} {H : Heap} {locs : List Loc} {cells slots : Nat} {Q : State → Prop} {cc : ByteArray} {pc : Nat} {ls : Array Slot} {rest : List Value} (hexec : p.tables.exec = Jvm.exec) (hb : c.code = cc) {own tx : String} {index q : Nat} (hown : s.vm.findClass own = some m.cls) (hZ : vk_R own index tx q s) (hdg : decode cc pc = .ok (.ldc_w index, 3))
    (k : W p l e R s m args below meth c H locs cells slots Q (F0 m (pc + 3) ls (.ref q :: rest))) : W p l e R s m args below meth c H locs cells slots Q (F0 m pc ls rest) := by
  intro T hT X
  obtain ⟨t, a1, b1⟩ := k T hT X
  exact ⟨t, ldcStrW X hexec hown (text := tx) (a := q) hZ.1 hZ.2 (g := F0 m pc ls rest) rfl (by rw [hb]; exact hdg) t a1, b1⟩
def mstF (tp : Row) (len : Nat) (X : Xs) (x : Int32) : Xs := if X.2.2.2.2 = 0 ∧ ¬ x = 0 then tkX tp len X.2.1 0 else (X.1, X.2.1, X.2.2.1, X.2.2.2.1, 1)
theorem mst_no {tp : Row} {len b e v : Nat} {s w x : Int32} (h : ¬ w = 0 ∨ x = 0) : mstF tp len (b, e, s, v, w) x = (b, e, s, v, 1) := if_neg (fun z => h.elim (fun a => a z.1) (fun a => z.2 a))
theorem mst_yes {tp : Row} {len b e v : Nat} {s w x : Int32} (h : w = 0) (h2 : ¬ x = 0) : mstF tp len (b, e, s, v, w) x = tkX tp len e 0 := if_pos ⟨h, h2⟩
def numF (tp : Row) (len : Nat) (X : Xs) (lo hi : Int32) : Xs := mstF tp len X (bI (X.2.2.1 = 2 ∧ lo ≤ nI X.2.2.2.1 ∧ nI X.2.2.2.1 ≤ hi))
theorem num_no {tp : Row} {len b e v : Nat} {s w lo hi : Int32} (h : ¬ (s = 2 ∧ lo ≤ nI v ∧ nI v ≤ hi)) : numF tp len (b, e, s, v, w) lo hi = mstF tp len (b, e, s, v, w) 0 := by
  show mstF tp len (b, e, s, v, w) (bI (s = 2 ∧ lo ≤ nI v ∧ nI v ≤ hi)) = _
  rw [bI, if_neg h]
theorem num_yes {tp : Row} {len b e v : Nat} {s w lo hi : Int32} (h : s = 2 ∧ lo ≤ nI v ∧ nI v ≤ hi) : numF tp len (b, e, s, v, w) lo hi = mstF tp len (b, e, s, v, w) 1 := by
  show mstF tp len (b, e, s, v, w) (bI (s = 2 ∧ lo ≤ nI v ∧ nI v ≤ hi)) = _
  rw [bI, if_pos h]
abbrev itF (it : Row) (mn : Nat) (x0 x1 x2 x3 : Int32) : Row := upd (upd (upd (upd it (4 * mn) x0) (4 * mn + 1) x1) (4 * mn + 2) x2) (4 * mn + 3) x3
abbrev kwP (tp : Row) (X : Xs) (w : Nat) : Prop := X.2.2.2.2 = 0 ∧ isW tp X.1 X.2.1 X.2.2.1 w
def kwF (tp : Row) (len : Nat) (X : Xs) (w : Nat) : Xs := if kwP tp X w then mstF tp len X 1 else X
theorem kw_no {tp : Row} {len : Nat} {X : Xs} {w : Nat} (h : ¬ kwP tp X w) : kwF tp len X w = X := if_neg h
theorem kw_yes {tp : Row} {len : Nat} {X : Xs} {w : Nat} (h : kwP tp X w) : kwF tp len X w = mstF tp len X 1 := if_pos h
/-! the reading's bounds -/
theorem skN_le (tp : Row) (len : Nat) : ∀ (f b : Nat), b + f ≤ len → b ≤ skN tp len f b ∧ skN tp len f b ≤ len
  | 0, b, h => ⟨Nat.le_refl _, h⟩
  | f + 1, b, h => by
    rw [skN]
    split
    · have := skN_le tp len f (b + 1) (by omega); omega
    · omega
theorem skF_le {tp : Row} {len b : Nat} (h : b ≤ len) : b ≤ skF tp len b ∧ skF tp len b ≤ len := skN_le tp len _ b (by omega)
theorem enN_le (lo hi : Int32) (tp : Row) (len : Nat) : ∀ (f b : Nat), b + f ≤ len → b ≤ enN lo hi tp len f b ∧ enN lo hi tp len f b ≤ len
  | 0, b, h => ⟨Nat.le_refl _, h⟩
  | f + 1, b, h => by
    rw [enN]
    split
    · have := enN_le lo hi tp len f (b + 1) (by omega); omega
    · omega
theorem enF_le {lo hi : Int32} {tp : Row} {len b : Nat} (h : b ≤ len) : b ≤ enF lo hi tp len b ∧ enF lo hi tp len b ≤ len := enN_le lo hi tp len _ b (by omega)
theorem vaN_le (tp : Row) (len : Nat) : ∀ (f b v : Nat), v ≤ 1000 → vaN tp len f b v ≤ 1000
  | 0, b, v, h => h
  | f + 1, b, v, h => by
    rw [vaN]
    split
    · exact vaN_le tp len f (b + 1) _ (Nat.min_le_left _ _)
    · exact h
theorem srt_in {tp : Row} {len b : Nat} (h : ¬ srt (bt tp len b) = 0) : b + 1 ≤ len := by
  by_cases h1 : b < len
  · exact h1
  · exact absurd (show srt (bt tp len b) = 0 by rw [bt, if_neg h1]; decide) h
abbrev XI (len : Nat) (X : Xs) : Prop := X.1 ≤ X.2.1 ∧ X.2.1 ≤ len ∧ (¬ X.2.2.1 = 0 → X.1 < X.2.1) ∧ X.2.2.2.1 ≤ 1000
theorem tk_I {tp : Row} {len k : Nat} (w : Int32) (h : k ≤ len) : XI len (tkX tp len k w) ∧ k ≤ (tkX tp len k w).1 := by
  have h1 := skF_le (tp := tp) h
  unfold tkX tkF
  by_cases c0 : srt (bt tp len (skF tp len k)) = 0
  · rw [if_pos c0]
    exact ⟨⟨Nat.le_refl _, h1.2, fun z => absurd rfl z, Nat.zero_le _⟩, h1.1⟩
  · have hin := srt_in c0
    rw [if_neg c0]
    by_cases c1 : srt (bt tp len (skF tp len k)) = 1
    · rw [if_pos c1]
      have h2 := enF_le (lo := 97) (hi := 122) (tp := tp) h1.2
      have h3 : skF tp len k < enF 97 122 tp len (skF tp len k) := by
        have hc : 97 ≤ bt tp len (skF tp len k) ∧ bt tp len (skF tp len k) ≤ 122 := by
          revert c1
          unfold srt
          repeat' split
          all_goals first | exact fun _ => ‹_› | (intro z; cases z)
        rw [enF_s hc hin]
        exact (enF_le (lo := 97) (hi := 122) (tp := tp) hin).1
      exact ⟨⟨h2.1, h2.2, fun _ => h3, Nat.zero_le _⟩, h1.1⟩
    · rw [if_neg c1]
      by_cases c2 : srt (bt tp len (skF tp len k)) = 2
      · rw [if_pos c2]
        have h2 := enF_le (lo := 48) (hi := 57) (tp := tp) h1.2
        have h3 : skF tp len k < enF 48 57 tp len (skF tp len k) := by
          have hc : 48 ≤ bt tp len (skF tp len k) ∧ bt tp len (skF tp len k) ≤ 57 := by
            revert c2
            unfold srt
            repeat' split
            all_goals first | exact fun _ => ‹_› | (intro z; cases z)
          rw [enF_s hc hin]
          exact (enF_le (lo := 48) (hi := 57) (tp := tp) hin).1
        exact ⟨⟨h2.1, h2.2, fun _ => h3, vaN_le _ _ _ _ _ (by omega)⟩, h1.1⟩
      · rw [if_neg c2]
        exact ⟨⟨Nat.le_succ _, hin, fun _ => Nat.lt_succ_self _, Nat.zero_le _⟩, h1.1⟩
theorem mst_J {tp : Row} {len : Nat} {X : Xs} {x : Int32} (h : XI len X) : XI len (mstF tp len X x) ∧ X.1 ≤ (mstF tp len X x).1 ∧ ((mstF tp len X x).2.2.2.2 = 0 → X.2.1 ≤ (mstF tp len X x).1) := by
  unfold mstF
  split
  · have h1 := tk_I (tp := tp) 0 h.2.1
    exact ⟨h1.1, Nat.le_trans h.1 h1.2, fun _ => h1.2⟩
  · exact ⟨h, Nat.le_refl _, fun z => absurd (show (1 : Int32) = 0 from z) (by decide)⟩
theorem mst_I {tp : Row} {len : Nat} {X Y : Xs} {x : Int32} (e : Y = mstF tp len X x) (h : XI len X) : XI len Y := by rw [e]; exact (mst_J h).1
theorem num_I {tp : Row} {len : Nat} {X Y : Xs} {lo hi : Int32} (e : Y = numF tp len X lo hi) (h : XI len X) : XI len Y := by rw [e]; exact (mst_J h).1
theorem kw_I {tp : Row} {len : Nat} {X Y : Xs} {w : Nat} (e : Y = kwF tp len X w) (h : XI len X) : XI len Y := by
  rw [e]
  unfold kwF
  split
  · exact (mst_J h).1
  · exact h
def rdW (tp : Row) (len : Nat) (X : Xs) : Xs × Int32 × Int32 := (numF tp len (numF tp len (numF tp len X 0 5) 0 9) 0 9, nI X.2.2.2.1, nI (10 * (numF tp len X 0 5).2.2.2.1 + (numF tp len (numF tp len X 0 5) 0 9).2.2.2.1))
set_option maxHeartbeats 800000 in
set_option maxRecDepth 100000 in
theorem c_X5_must (l : Launch) (E : EV) (am : Nat → Nat) (q tp : Row) (len bb ee vv mn pt : Nat) (ss ww : Int32) (x9 : Int32) (hq3 : q 3 = nI len) (hl9 : len ≤ 120) (he : ee ≤ len) : Met l yX5_must (wq yX5_must cX5_must 2 none) ({ frames := 2, cells := 0, slots := 0, locals := 43 }) (preB E [.ref (am 0), .int x9] [[mObj am (qX q (bb, ee, ss, vv, ww) mn pt)], [(am 5, .inl (E.2.1, 120, .inl (sg tp 120)))]]) (qV E [[mObj am (qX q (bb, ee, ss, vv, ww) mn pt)], [(am 5, .inl (E.2.1, 120, .inl (sg tp 120)))]] [[mObj am (qX q (mstF tp len (bb, ee, ss, vv, ww) x9) mn pt)], [(am 5, .inl (E.2.1, 120, .inl (sg tp 120)))]]) 0 0 (inB [[mObj am (qX q (bb, ee, ss, vv, ww) mn pt)], [(am 5, .inl (E.2.1, 120, .inl (sg tp 120)))]]) := by
  refine M_mk RX5 (by decide) rfl (Nat.le_of_ble_eq_true rfl) ?_
  intro p e s m below meth c S hr hlk hK hP hD hS ls hl
  have hl : lv_has ls 2 [(0, .ref (am 0)), (1, .int x9)] := hl
  obtain ⟨H, hH⟩ : ∃ zz9, zz9 = s.heap := ⟨_, rfl⟩
  obtain ⟨locs, hlocs⟩ : ∃ zz9 : List Loc, zz9 = [] := ⟨_, rfl⟩
  have hP : PE E [[mObj am (qX q (bb, ee, ss, vv, ww) mn pt)], [(am 5, .inl (E.2.1, 120, .inl (sg tp 120)))]] H := by rw [hH]; exact hP
  have hS : va_S (inB [[mObj am (qX q (bb, ee, ss, vv, ww) mn pt)], [(am 5, .inl (E.2.1, 120, .inl (sg tp 120)))]]) s.heap H locs := by rw [hH, hlocs]; exact hS
  show W p l e ({ frames := 2, cells := 0, slots := 0, locals := 43 }) s m ([.ref (am 0), .int x9] : List Value).toArray below meth c s.heap [] 0 0 _ _
  suffices hgo : W p l e ({ frames := 2, cells := 0, slots := 0, locals := 43 }) s m ([.ref (am 0), .int x9] : List Value).toArray below meth c H locs 0 0 (MQ below (qV E [[mObj am (qX q (bb, ee, ss, vv, ww) mn pt)], [(am 5, .inl (E.2.1, 120, .inl (sg tp 120)))]] [[mObj am (qX q (mstF tp len (bb, ee, ss, vv, ww) x9) mn pt)], [(am 5, .inl (E.2.1, 120, .inl (sg tp 120)))]]) ([.ref (am 0), .int x9] : List Value).toArray s 0 0 (inB [[mObj am (qX q (bb, ee, ss, vv, ww) mn pt)], [(am 5, .inl (E.2.1, 120, .inl (sg tp 120)))]])) (F0 m 0 ls []) by rw [hH, hlocs] at hgo; exact hgo
  clear hH hlocs
  refine lv_aload_n S.1 S.2.1 dX5_must_0 rfl (lv_at hl 0 rfl) ?_
  refine lv_aload_n S.1 S.2.1 dX5_must_1 rfl (lv_at hl 0 rfl) ?_
  refine gf_X5_247 S hK hP 0 0 rfl rfl (show _ = some (Value.int ww) from rfl) dX5_must_2 ?_
  refine lv_if_ne (tgt := 12) S.1 S.2.1 dX5_must_5 (by decide) (fun c_5 => ?_) (fun c_5 => ?_)
  · refine lv_iconst (v := 1) S.1 S.2.1 dX5_must_12 (by decide) ?_
    refine lv_goto (tgt := 17) S.1 S.2.1 dX5_must_13 (by decide) ?_
    refine pf_X5_247 S hK hP hD hS 0 0 rfl rfl rfl rfl (Nat.le_of_ble_eq_true rfl) (mo_8.trans (congrArg (fun z => ([mObj am z] : va_W)) qX_8)) (Bs1 := [[mObj am (qX q (bb, ee, ss, vv, 1) mn pt)], [(am 5, .inl (E.2.1, 120, .inl (sg tp 120)))]]) rfl dX5_must_17 (fun H locs hP hD hS => ?_)
    refine lv_aload_n S.1 S.2.1 dX5_must_20 rfl (lv_at hl 0 rfl) ?_
    refine gf_X5_247 S hK hP 0 0 rfl rfl (show _ = some (Value.int 1) from rfl) dX5_must_21 ?_
    refine lv_if_ne (tgt := 31) S.1 S.2.1 dX5_must_24 (by decide) (fun _ => ?_) (fun h => absurd h (by decide))
    exact retV S hr hlk (by rw [mst_no (Or.inl c_5)]; exact hP) hS dX5_must_31
  · refine lv_iload_n S.1 S.2.1 dX5_must_8 rfl (lv_at hl 1 rfl) ?_
    refine lv_if_ne (tgt := 16) S.1 S.2.1 dX5_must_9 (by decide) (fun c_9 => ?_) (fun c_9 => ?_)
    · refine lv_iconst (v := 0) S.1 S.2.1 dX5_must_16 (by decide) ?_
      refine pf_X5_247 S hK hP hD hS 0 0 rfl rfl rfl rfl (Nat.le_of_ble_eq_true rfl) (mo_8.trans (congrArg (fun z => ([mObj am z] : va_W)) qX_8)) (Bs1 := [[mObj am (qX q (bb, ee, ss, vv, 0) mn pt)], [(am 5, .inl (E.2.1, 120, .inl (sg tp 120)))]]) rfl dX5_must_17 (fun H locs hP hD hS => ?_)
      refine lv_aload_n S.1 S.2.1 dX5_must_20 rfl (lv_at hl 0 rfl) ?_
      refine gf_X5_247 S hK hP 0 0 rfl rfl (show _ = some (Value.int 0) from rfl) dX5_must_21 ?_
      refine lv_if_ne (tgt := 31) S.1 S.2.1 dX5_must_24 (by decide) (fun h => absurd h (by decide)) (fun _ => ?_)
      refine lv_aload_n S.1 S.2.1 dX5_must_27 rfl (lv_at hl 0 rfl) ?_
      refine go_V (run_V (As := []) (rest := []) (n := 0) S hK (bl_P hP [0, 1] rfl) (bl_D hD [0, 1] rfl rfl) (c_X5_token l E am q tp len bb ee vv mn pt ss 0 hq3 hl9 (by omega)) gV_X5_251 (by decide +kernel) rfl ⟨rfl, rfl⟩ ⟨Nat.le_of_ble_eq_true rfl, Nat.le_of_ble_eq_true rfl⟩ (ci := 5) (q0 := 0) rfl rfl hl.1 (Nat.le_of_ble_eq_true rfl) dX5_must_28 ⟨Nat.zero_le _, Nat.zero_le _⟩) hP hD hS [0, 1] rfl (had_cons mo_ad (had_cons rfl rfl)) (Bs' := [[mObj am (qX q (tkX tp len ee 0) mn pt)], [(am 5, .inl (E.2.1, 120, .inl (sg tp 120)))]]) rfl (fun H locs hP hD hS => ?_)
      obtain ⟨⟨b_28, e_28, s_28, v_28, w_28⟩, eX_28⟩ : ∃ zz9 : Xs, zz9 = tkX tp len ee 0 := ⟨_, rfl⟩
      rw [← eX_28] at hP hD
      exact retV S hr hlk (by rw [mst_yes c_5 c_9, ← eX_28]; exact hP) hS dX5_must_31
    · refine lv_iconst (v := 1) S.1 S.2.1 dX5_must_12 (by decide) ?_
      refine lv_goto (tgt := 17) S.1 S.2.1 dX5_must_13 (by decide) ?_
      refine pf_X5_247 S hK hP hD hS 0 0 rfl rfl rfl rfl (Nat.le_of_ble_eq_true rfl) (mo_8.trans (congrArg (fun z => ([mObj am z] : va_W)) qX_8)) (Bs1 := [[mObj am (qX q (bb, ee, ss, vv, 1) mn pt)], [(am 5, .inl (E.2.1, 120, .inl (sg tp 120)))]]) rfl dX5_must_17 (fun H locs hP hD hS => ?_)
      refine lv_aload_n S.1 S.2.1 dX5_must_20 rfl (lv_at hl 0 rfl) ?_
      refine gf_X5_247 S hK hP 0 0 rfl rfl (show _ = some (Value.int 1) from rfl) dX5_must_21 ?_
      refine lv_if_ne (tgt := 31) S.1 S.2.1 dX5_must_24 (by decide) (fun _ => ?_) (fun h => absurd h (by decide))
      exact retV S hr hlk (by rw [mst_no (Or.inr c_9)]; exact hP) hS dX5_must_31
set_option maxHeartbeats 800000 in
set_option maxRecDepth 100000 in
theorem c_X5_number (l : Launch) (E : EV) (am : Nat → Nat) (q tp : Row) (len bb ee vv mn pt : Nat) (ss ww : Int32) (lo hi : Int32) (hq3 : q 3 = nI len) (hl9 : len ≤ 120) (he : ee ≤ len) : Met l yX5_number (wq yX5_number cX5_number 4 (some .int)) ({ frames := 3, cells := 0, slots := 0, locals := 64 }) (preB E [.ref (am 0), .int lo, .int hi] [[mObj am (qX q (bb, ee, ss, vv, ww) mn pt)], [(am 5, .inl (E.2.1, 120, .inl (sg tp 120)))]]) (qI E [[mObj am (qX q (bb, ee, ss, vv, ww) mn pt)], [(am 5, .inl (E.2.1, 120, .inl (sg tp 120)))]] [[mObj am (qX q (numF tp len (bb, ee, ss, vv, ww) lo hi) mn pt)], [(am 5, .inl (E.2.1, 120, .inl (sg tp 120)))]] (nI vv)) 0 0 (inB [[mObj am (qX q (bb, ee, ss, vv, ww) mn pt)], [(am 5, .inl (E.2.1, 120, .inl (sg tp 120)))]]) := by
  refine M_mk RX5 (by decide) rfl (Nat.le_of_ble_eq_true rfl) ?_
  intro p e s m below meth c S hr hlk hK hP hD hS ls hl
  have hl : lv_has ls 4 [(0, .ref (am 0)), (1, .int lo), (2, .int hi)] := hl
  obtain ⟨H, hH⟩ : ∃ zz9, zz9 = s.heap := ⟨_, rfl⟩
  obtain ⟨locs, hlocs⟩ : ∃ zz9 : List Loc, zz9 = [] := ⟨_, rfl⟩
  have hP : PE E [[mObj am (qX q (bb, ee, ss, vv, ww) mn pt)], [(am 5, .inl (E.2.1, 120, .inl (sg tp 120)))]] H := by rw [hH]; exact hP
  have hS : va_S (inB [[mObj am (qX q (bb, ee, ss, vv, ww) mn pt)], [(am 5, .inl (E.2.1, 120, .inl (sg tp 120)))]]) s.heap H locs := by rw [hH, hlocs]; exact hS
  show W p l e ({ frames := 3, cells := 0, slots := 0, locals := 64 }) s m ([.ref (am 0), .int lo, .int hi] : List Value).toArray below meth c s.heap [] 0 0 _ _
  suffices hgo : W p l e ({ frames := 3, cells := 0, slots := 0, locals := 64 }) s m ([.ref (am 0), .int lo, .int hi] : List Value).toArray below meth c H locs 0 0 (MQ below (qI E [[mObj am (qX q (bb, ee, ss, vv, ww) mn pt)], [(am 5, .inl (E.2.1, 120, .inl (sg tp 120)))]] [[mObj am (qX q (numF tp len (bb, ee, ss, vv, ww) lo hi) mn pt)], [(am 5, .inl (E.2.1, 120, .inl (sg tp 120)))]] (nI vv)) ([.ref (am 0), .int lo, .int hi] : List Value).toArray s 0 0 (inB [[mObj am (qX q (bb, ee, ss, vv, ww) mn pt)], [(am 5, .inl (E.2.1, 120, .inl (sg tp 120)))]])) (F0 m 0 ls []) by rw [hH, hlocs] at hgo; exact hgo
  clear hH hlocs
  refine lv_aload_n S.1 S.2.1 dX5_number_0 rfl (lv_at hl 0 rfl) ?_
  refine gf_X5_234 S hK hP 0 0 rfl rfl (show _ = some (Value.int (nI vv)) from rfl) dX5_number_1 ?_
  refine lv_istore_n (lv' := [(3, .int (nI vv)), (0, .ref (am 0)), (1, .int lo), (2, .int hi)]) S.1 S.2.1 dX5_number_4 rfl hl (by decide) rfl (fun ls hl => ?_)
  refine lv_aload_n S.1 S.2.1 dX5_number_5 rfl (lv_at hl 1 rfl) ?_
  refine lv_aload_n S.1 S.2.1 dX5_number_6 rfl (lv_at hl 1 rfl) ?_
  refine gf_X5_237 S hK hP 0 0 rfl rfl (show _ = some (Value.int ss) from rfl) dX5_number_7 ?_
  refine lv_iconst (v := 2) S.1 S.2.1 dX5_number_10 (by decide) ?_
  refine lv_icmp_ne (tgt := 27) S.1 S.2.1 dX5_number_11 (by decide) (fun c_11 => ?_) (fun c_11 => ?_)
  · refine lv_iconst (v := 0) S.1 S.2.1 dX5_number_27 (by decide) ?_
    refine go_V (run_V (As := [.int 0]) (rest := []) (n := 1) S hK (bl_P hP [0, 1] rfl) (bl_D hD [0, 1] rfl rfl) (c_X5_must l E am q tp len bb ee vv mn pt ss ww 0 hq3 hl9 (by omega)) gV_X5_254 (by decide +kernel) rfl ⟨rfl, rfl⟩ ⟨Nat.le_of_ble_eq_true rfl, Nat.le_of_ble_eq_true rfl⟩ (ci := 5) (q0 := 0) rfl rfl hl.1 (Nat.le_of_ble_eq_true rfl) dX5_number_28 ⟨Nat.zero_le _, Nat.zero_le _⟩) hP hD hS [0, 1] rfl (had_cons mo_ad (had_cons rfl rfl)) (Bs' := [[mObj am (qX q (mstF tp len (bb, ee, ss, vv, ww) 0) mn pt)], [(am 5, .inl (E.2.1, 120, .inl (sg tp 120)))]]) rfl (fun H locs hP hD hS => ?_)
    obtain ⟨⟨b_28, e_28, s_28, v_28, w_28⟩, eX_28⟩ : ∃ zz9 : Xs, zz9 = mstF tp len (bb, ee, ss, vv, ww) 0 := ⟨_, rfl⟩
    rw [← eX_28] at hP hD
    refine lv_iload_n S.1 S.2.1 dX5_number_31 rfl (lv_at hl 0 rfl) ?_
    exact retI S hr hlk (by rw [num_no (fun z9 => c_11 z9.1), ← eX_28]; exact hP) hS rfl dX5_number_32
  · refine lv_iload_n S.1 S.2.1 dX5_number_14 rfl (lv_at hl 0 rfl) ?_
    refine lv_iload_n S.1 S.2.1 dX5_number_15 rfl (lv_at hl 2 rfl) ?_
    refine lv_iload_n S.1 S.2.1 dX5_number_16 rfl (lv_at hl 3 rfl) ?_
    refine go_S (run_S (As := [.int (nI vv), .int lo, .int hi]) (rest := [.ref (am 0)]) (n := 3) S hK (bl_P hP [] rfl) (bl_D hD [] rfl rfl) (c_X5_within l E (nI vv) lo hi ) gS_X5_70 (by decide +kernel) rfl ⟨rfl, rfl⟩ ⟨Nat.le_of_ble_eq_true rfl, Nat.le_of_ble_eq_true rfl⟩ hl.1 (Nat.le_of_ble_eq_true rfl) dX5_number_17 ⟨Nat.zero_le _, Nat.zero_le _⟩) ?_
    refine b_ifeq (tgt := 27) S.1 S.2.1 dX5_number_20 (by decide) (fun c_20 => ?_) (fun c_20 => ?_)
    · refine lv_iconst (v := 0) S.1 S.2.1 dX5_number_27 (by decide) ?_
      refine go_V (run_V (As := [.int 0]) (rest := []) (n := 1) S hK (bl_P hP [0, 1] rfl) (bl_D hD [0, 1] rfl rfl) (c_X5_must l E am q tp len bb ee vv mn pt ss ww 0 hq3 hl9 (by omega)) gV_X5_254 (by decide +kernel) rfl ⟨rfl, rfl⟩ ⟨Nat.le_of_ble_eq_true rfl, Nat.le_of_ble_eq_true rfl⟩ (ci := 5) (q0 := 0) rfl rfl hl.1 (Nat.le_of_ble_eq_true rfl) dX5_number_28 ⟨Nat.zero_le _, Nat.zero_le _⟩) hP hD hS [0, 1] rfl (had_cons mo_ad (had_cons rfl rfl)) (Bs' := [[mObj am (qX q (mstF tp len (bb, ee, ss, vv, ww) 0) mn pt)], [(am 5, .inl (E.2.1, 120, .inl (sg tp 120)))]]) rfl (fun H locs hP hD hS => ?_)
      obtain ⟨⟨b_28_1, e_28_1, s_28_1, v_28_1, w_28_1⟩, eX_28_1⟩ : ∃ zz9 : Xs, zz9 = mstF tp len (bb, ee, ss, vv, ww) 0 := ⟨_, rfl⟩
      rw [← eX_28_1] at hP hD
      refine lv_iload_n S.1 S.2.1 dX5_number_31 rfl (lv_at hl 0 rfl) ?_
      exact retI S hr hlk (by rw [num_no (fun z9 => c_20 z9.2), ← eX_28_1]; exact hP) hS rfl dX5_number_32
    · refine lv_iconst (v := 1) S.1 S.2.1 dX5_number_23 (by decide) ?_
      refine lv_goto (tgt := 28) S.1 S.2.1 dX5_number_24 (by decide) ?_
      refine go_V (run_V (As := [.int 1]) (rest := []) (n := 1) S hK (bl_P hP [0, 1] rfl) (bl_D hD [0, 1] rfl rfl) (c_X5_must l E am q tp len bb ee vv mn pt ss ww 1 hq3 hl9 (by omega)) gV_X5_254 (by decide +kernel) rfl ⟨rfl, rfl⟩ ⟨Nat.le_of_ble_eq_true rfl, Nat.le_of_ble_eq_true rfl⟩ (ci := 5) (q0 := 0) rfl rfl hl.1 (Nat.le_of_ble_eq_true rfl) dX5_number_28 ⟨Nat.zero_le _, Nat.zero_le _⟩) hP hD hS [0, 1] rfl (had_cons mo_ad (had_cons rfl rfl)) (Bs' := [[mObj am (qX q (mstF tp len (bb, ee, ss, vv, ww) 1) mn pt)], [(am 5, .inl (E.2.1, 120, .inl (sg tp 120)))]]) rfl (fun H locs hP hD hS => ?_)
      obtain ⟨⟨b_28_2, e_28_2, s_28_2, v_28_2, w_28_2⟩, eX_28_2⟩ : ∃ zz9 : Xs, zz9 = mstF tp len (bb, ee, ss, vv, ww) 1 := ⟨_, rfl⟩
      rw [← eX_28_2] at hP hD
      refine lv_iload_n S.1 S.2.1 dX5_number_31 rfl (lv_at hl 0 rfl) ?_
      exact retI S hr hlk (by rw [num_yes ⟨c_11, c_20⟩, ← eX_28_2]; exact hP) hS rfl dX5_number_32
set_option maxHeartbeats 800000 in
set_option maxRecDepth 100000 in
theorem c_X5_addItem (l : Launch) (E : EV) (am : Nat → Nat) (q it : Row) (bb ee vv mn pt : Nat) (ss ww x0 x1 x2 x3 : Int32) (hmn : mn < 120) : Met l yX5_addItem (wq yX5_addItem cX5_addItem 6 none) ({ frames := 0, cells := 0, slots := 0, locals := 0 }) (preB E [.ref (am 0), .int x0, .int x1, .int x2, .int x3] [[mObj am (qX q (bb, ee, ss, vv, ww) mn pt)], [(am 7, .inl (E.2.1, 480, .inl (sg it 480)))]]) (qV E [[mObj am (qX q (bb, ee, ss, vv, ww) mn pt)], [(am 7, .inl (E.2.1, 480, .inl (sg it 480)))]] [[mObj am (qX q (bb, ee, ss, vv, ww) (mn + 1) pt)], [(am 7, .inl (E.2.1, 480, .inl (sg (itF it mn x0 x1 x2 x3) 480)))]]) 0 0 (inB [[mObj am (qX q (bb, ee, ss, vv, ww) mn pt)], [(am 7, .inl (E.2.1, 480, .inl (sg it 480)))]]) := by
  refine M_mk RX5 (by decide) rfl (Nat.le_of_ble_eq_true rfl) ?_
  intro p e s m below meth c S hr hlk hK hP hD hS ls hl
  have hl : lv_has ls 6 [(0, .ref (am 0)), (1, .int x0), (2, .int x1), (3, .int x2), (4, .int x3)] := hl
  obtain ⟨H, hH⟩ : ∃ zz9, zz9 = s.heap := ⟨_, rfl⟩
  obtain ⟨locs, hlocs⟩ : ∃ zz9 : List Loc, zz9 = [] := ⟨_, rfl⟩
  have hP : PE E [[mObj am (qX q (bb, ee, ss, vv, ww) mn pt)], [(am 7, .inl (E.2.1, 480, .inl (sg it 480)))]] H := by rw [hH]; exact hP
  have hS : va_S (inB [[mObj am (qX q (bb, ee, ss, vv, ww) mn pt)], [(am 7, .inl (E.2.1, 480, .inl (sg it 480)))]]) s.heap H locs := by rw [hH, hlocs]; exact hS
  show W p l e ({ frames := 0, cells := 0, slots := 0, locals := 0 }) s m ([.ref (am 0), .int x0, .int x1, .int x2, .int x3] : List Value).toArray below meth c s.heap [] 0 0 _ _
  suffices hgo : W p l e ({ frames := 0, cells := 0, slots := 0, locals := 0 }) s m ([.ref (am 0), .int x0, .int x1, .int x2, .int x3] : List Value).toArray below meth c H locs 0 0 (MQ below (qV E [[mObj am (qX q (bb, ee, ss, vv, ww) mn pt)], [(am 7, .inl (E.2.1, 480, .inl (sg it 480)))]] [[mObj am (qX q (bb, ee, ss, vv, ww) (mn + 1) pt)], [(am 7, .inl (E.2.1, 480, .inl (sg (itF it mn x0 x1 x2 x3) 480)))]]) ([.ref (am 0), .int x0, .int x1, .int x2, .int x3] : List Value).toArray s 0 0 (inB [[mObj am (qX q (bb, ee, ss, vv, ww) mn pt)], [(am 7, .inl (E.2.1, 480, .inl (sg it 480)))]])) (F0 m 0 ls []) by rw [hH, hlocs] at hgo; exact hgo
  clear hH hlocs
  refine lv_iconst (v := 4) S.1 S.2.1 dX5_addItem_0 (by decide) ?_
  refine lv_aload_n S.1 S.2.1 dX5_addItem_1 rfl (lv_at hl 0 rfl) ?_
  refine gf_X5_258 S hK hP 0 0 rfl rfl (show _ = some (Value.int (nI mn)) from rfl) dX5_addItem_2 ?_
  refine lv_imul S.1 S.2.1 dX5_addItem_5 ?_
  refine lv_eqi (y := nI (4 * mn)) (pk_mul 4 mn) ?_
  refine lv_istore (lv' := [(5, .int (nI (4 * mn))), (0, .ref (am 0)), (1, .int x0), (2, .int x1), (3, .int x2), (4, .int x3)]) S.1 S.2.1 dX5_addItem_6 hl (by decide) rfl (fun ls hl => ?_)
  refine lv_aload_n S.1 S.2.1 dX5_addItem_8 rfl (lv_at hl 1 rfl) ?_
  refine gf_X5_45 S hK hP 0 0 rfl rfl rfl dX5_addItem_9 ?_
  refine lv_iload S.1 S.2.1 dX5_addItem_12 (lv_at hl 0 rfl) ?_
  refine lv_iload_n S.1 S.2.1 dX5_addItem_14 rfl (lv_at hl 2 rfl) ?_
  refine b_iastN (i := 4 * mn) S hK hP hD hS 1 0 rfl rfl (by omega) (by decide) (sgs_upd (by omega)) (Bs1 := [[mObj am (qX q (bb, ee, ss, vv, ww) mn pt)], [(am 7, .inl (E.2.1, 480, .inl (sg (upd it (4 * mn) x0) 480)))]]) rfl dX5_addItem_15 (fun H locs hP hD hS => ?_)
  obtain ⟨r_15, er_15⟩ : ∃ zz9, zz9 = upd it (4 * mn) x0 := ⟨_, rfl⟩
  rw [← er_15] at hP hD
  refine lv_aload_n S.1 S.2.1 dX5_addItem_16 rfl (lv_at hl 1 rfl) ?_
  refine gf_X5_45 S hK hP 0 0 rfl rfl rfl dX5_addItem_17 ?_
  refine lv_iload S.1 S.2.1 dX5_addItem_20 (lv_at hl 0 rfl) ?_
  refine lv_iconst (v := 1) S.1 S.2.1 dX5_addItem_22 (by decide) ?_
  refine lv_iadd S.1 S.2.1 dX5_addItem_23 ?_
  refine lv_eqi (y := nI (4 * mn + 1)) (nI_add (4 * mn) 1) ?_
  refine lv_iload_n S.1 S.2.1 dX5_addItem_24 rfl (lv_at hl 3 rfl) ?_
  refine b_iastN (i := 4 * mn + 1) S hK hP hD hS 1 0 rfl rfl (by omega) (by decide) (sgs_upd (by omega)) (Bs1 := [[mObj am (qX q (bb, ee, ss, vv, ww) mn pt)], [(am 7, .inl (E.2.1, 480, .inl (sg (upd r_15 (4 * mn + 1) x1) 480)))]]) rfl dX5_addItem_25 (fun H locs hP hD hS => ?_)
  obtain ⟨r_25, er_25⟩ : ∃ zz9, zz9 = upd r_15 (4 * mn + 1) x1 := ⟨_, rfl⟩
  rw [← er_25] at hP hD
  refine lv_aload_n S.1 S.2.1 dX5_addItem_26 rfl (lv_at hl 1 rfl) ?_
  refine gf_X5_45 S hK hP 0 0 rfl rfl rfl dX5_addItem_27 ?_
  refine lv_iload S.1 S.2.1 dX5_addItem_30 (lv_at hl 0 rfl) ?_
  refine lv_iconst (v := 2) S.1 S.2.1 dX5_addItem_32 (by decide) ?_
  refine lv_iadd S.1 S.2.1 dX5_addItem_33 ?_
  refine lv_eqi (y := nI (4 * mn + 2)) (nI_add (4 * mn) 2) ?_
  refine lv_iload_n S.1 S.2.1 dX5_addItem_34 rfl (lv_at hl 4 rfl) ?_
  refine b_iastN (i := 4 * mn + 2) S hK hP hD hS 1 0 rfl rfl (by omega) (by decide) (sgs_upd (by omega)) (Bs1 := [[mObj am (qX q (bb, ee, ss, vv, ww) mn pt)], [(am 7, .inl (E.2.1, 480, .inl (sg (upd r_25 (4 * mn + 2) x2) 480)))]]) rfl dX5_addItem_35 (fun H locs hP hD hS => ?_)
  obtain ⟨r_35, er_35⟩ : ∃ zz9, zz9 = upd r_25 (4 * mn + 2) x2 := ⟨_, rfl⟩
  rw [← er_35] at hP hD
  refine lv_aload_n S.1 S.2.1 dX5_addItem_36 rfl (lv_at hl 1 rfl) ?_
  refine gf_X5_45 S hK hP 0 0 rfl rfl rfl dX5_addItem_37 ?_
  refine lv_iload S.1 S.2.1 dX5_addItem_40 (lv_at hl 0 rfl) ?_
  refine lv_iconst (v := 3) S.1 S.2.1 dX5_addItem_42 (by decide) ?_
  refine lv_iadd S.1 S.2.1 dX5_addItem_43 ?_
  refine lv_eqi (y := nI (4 * mn + 3)) (nI_add (4 * mn) 3) ?_
  refine lv_iload S.1 S.2.1 dX5_addItem_44 (lv_at hl 5 rfl) ?_
  refine b_iastN (i := 4 * mn + 3) S hK hP hD hS 1 0 rfl rfl (by omega) (by decide) (sgs_upd (by omega)) (Bs1 := [[mObj am (qX q (bb, ee, ss, vv, ww) mn pt)], [(am 7, .inl (E.2.1, 480, .inl (sg (upd r_35 (4 * mn + 3) x3) 480)))]]) rfl dX5_addItem_46 (fun H locs hP hD hS => ?_)
  obtain ⟨r_46, er_46⟩ : ∃ zz9, zz9 = upd r_35 (4 * mn + 3) x3 := ⟨_, rfl⟩
  rw [← er_46] at hP hD
  refine lv_aload_n S.1 S.2.1 dX5_addItem_47 rfl (lv_at hl 1 rfl) ?_
  refine lv_dup S.1 S.2.1 dX5_addItem_48 rfl ?_
  refine gf_X5_258 S hK hP 0 0 rfl rfl (show _ = some (Value.int (nI mn)) from rfl) dX5_addItem_49 ?_
  refine lv_iconst (v := 1) S.1 S.2.1 dX5_addItem_52 (by decide) ?_
  refine lv_iadd S.1 S.2.1 dX5_addItem_53 ?_
  refine lv_eqi (y := nI (mn + 1)) (nI_add mn 1) ?_
  refine pf_X5_258 S hK hP hD hS 0 0 rfl rfl (Nat.le_of_ble_eq_true rfl) (mo_9.trans (congrArg (fun z => ([mObj am z] : va_W)) qX_9)) (Bs1 := [[mObj am (qX q (bb, ee, ss, vv, ww) (mn + 1) pt)], [(am 7, .inl (E.2.1, 480, .inl (sg r_46 480)))]]) rfl dX5_addItem_54 (fun H locs hP hD hS => ?_)
  exact retV S hr hlk (by rw [er_46, er_35, er_25, er_15] at hP; exact hP) hS dX5_addItem_57
set_option maxHeartbeats 800000 in
set_option maxRecDepth 100000 in
theorem c_X5_takesWord (l : Launch) (E : EV) (aS : Nat → Nat) (am : Nat → Nat) (q tp : Row) (len bb ee vv mn pt : Nat) (ss ww : Int32) (w9 : Nat) (hq3 : q 3 = nI len) (hl9 : len ≤ 120) (hw9 : w9 < 12) (hbe : bb ≤ ee) (hee : ee ≤ len) : Met l yX5_takesWord (wq yX5_takesWord cX5_takesWord 3 (some .boolean)) ({ frames := 5, cells := 0, slots := 0, locals := 108 }) (preX E aS [.ref (am 0), .ref (aS (12 + w9))] [[mObj am (qX q (bb, ee, ss, vv, ww) mn pt)], [(am 5, .inl (E.2.1, 120, .inl (sg tp 120)))]]) (qI E [[mObj am (qX q (bb, ee, ss, vv, ww) mn pt)], [(am 5, .inl (E.2.1, 120, .inl (sg tp 120)))]] [[mObj am (qX q (kwF tp len (bb, ee, ss, vv, ww) w9) mn pt)], [(am 5, .inl (E.2.1, 120, .inl (sg tp 120)))]] (bI (kwP tp (bb, ee, ss, vv, ww) w9))) 0 0 (inB [[mObj am (qX q (bb, ee, ss, vv, ww) mn pt)], [(am 5, .inl (E.2.1, 120, .inl (sg tp 120)))]]) := by
  refine M_mkX RX5 (by decide) rfl (Nat.le_of_ble_eq_true rfl) ?_
  intro p e s m below meth c S hr hlk hK hP hD hS hX ls hl
  have hl : lv_has ls 3 [(0, .ref (am 0)), (1, .ref (aS (12 + w9)))] := hl
  obtain ⟨H, hH⟩ : ∃ zz9, zz9 = s.heap := ⟨_, rfl⟩
  obtain ⟨locs, hlocs⟩ : ∃ zz9 : List Loc, zz9 = [] := ⟨_, rfl⟩
  have hP : PE E [[mObj am (qX q (bb, ee, ss, vv, ww) mn pt)], [(am 5, .inl (E.2.1, 120, .inl (sg tp 120)))]] H := by rw [hH]; exact hP
  have hS : va_S (inB [[mObj am (qX q (bb, ee, ss, vv, ww) mn pt)], [(am 5, .inl (E.2.1, 120, .inl (sg tp 120)))]]) s.heap H locs := by rw [hH, hlocs]; exact hS
  show W p l e ({ frames := 5, cells := 0, slots := 0, locals := 108 }) s m ([.ref (am 0), .ref (aS (12 + w9))] : List Value).toArray below meth c s.heap [] 0 0 _ _
  suffices hgo : W p l e ({ frames := 5, cells := 0, slots := 0, locals := 108 }) s m ([.ref (am 0), .ref (aS (12 + w9))] : List Value).toArray below meth c H locs 0 0 (MQ below (qI E [[mObj am (qX q (bb, ee, ss, vv, ww) mn pt)], [(am 5, .inl (E.2.1, 120, .inl (sg tp 120)))]] [[mObj am (qX q (kwF tp len (bb, ee, ss, vv, ww) w9) mn pt)], [(am 5, .inl (E.2.1, 120, .inl (sg tp 120)))]] (bI (kwP tp (bb, ee, ss, vv, ww) w9))) ([.ref (am 0), .ref (aS (12 + w9))] : List Value).toArray s 0 0 (inB [[mObj am (qX q (bb, ee, ss, vv, ww) mn pt)], [(am 5, .inl (E.2.1, 120, .inl (sg tp 120)))]])) (F0 m 0 ls []) by rw [hH, hlocs] at hgo; exact hgo
  clear hH hlocs
  refine lv_aload_n S.1 S.2.1 dX5_takesWord_0 rfl (lv_at hl 0 rfl) ?_
  refine gf_X5_247 S hK hP 0 0 rfl rfl (show _ = some (Value.int ww) from rfl) dX5_takesWord_1 ?_
  refine lv_if_ne (tgt := 19) S.1 S.2.1 dX5_takesWord_4 (by decide) (fun c_4 => ?_) (fun c_4 => ?_)
  · refine lv_iconst (v := 0) S.1 S.2.1 dX5_takesWord_19 (by decide) ?_
    refine lv_istore_n (lv' := [(2, .int 0), (0, .ref (am 0)), (1, .ref (aS (12 + w9)))]) S.1 S.2.1 dX5_takesWord_20 rfl hl (by decide) rfl (fun ls hl => ?_)
    refine lv_iload_n S.1 S.2.1 dX5_takesWord_21 rfl (lv_at hl 0 rfl) ?_
    refine lv_if_eq (tgt := 30) S.1 S.2.1 dX5_takesWord_22 (by decide) (fun _ => ?_) (fun h => absurd h (by decide))
    refine lv_iload_n S.1 S.2.1 dX5_takesWord_30 rfl (lv_at hl 0 rfl) ?_
    exact retZ S hr hlk rfl (by rw [kw_no (fun z9 => c_4 z9.1)]; exact hP) hS (if_neg (fun z9 => c_4 z9.1)).symm dX5_takesWord_31
  · refine lv_aload_n S.1 S.2.1 dX5_takesWord_7 rfl (lv_at hl 0 rfl) ?_
    refine lv_aload_n S.1 S.2.1 dX5_takesWord_8 rfl (lv_at hl 1 rfl) ?_
    refine go_S (run_VX (As := [.ref (aS (12 + w9))]) (rest := []) (n := 1) S hK (bl_P hP [0, 1] rfl) (bl_D hD [0, 1] rfl rfl) (EX_c hX hS hD [0, 1] rfl) (c_X5_isWord l E aS am q tp len bb ee vv mn pt ss ww w9 hq3 hl9 (by omega) (by omega) (by omega)) gV_X5_261 (by decide +kernel) rfl ⟨rfl, rfl⟩ ⟨Nat.le_of_ble_eq_true rfl, Nat.le_of_ble_eq_true rfl⟩ (ci := 5) (q0 := 0) rfl rfl hl.1 (Nat.le_of_ble_eq_true rfl) dX5_takesWord_9 ⟨Nat.zero_le _, Nat.zero_le _⟩) ?_
    refine b_ifeq (tgt := 19) S.1 S.2.1 dX5_takesWord_12 (by decide) (fun c_12 => ?_) (fun c_12 => ?_)
    · refine lv_iconst (v := 0) S.1 S.2.1 dX5_takesWord_19 (by decide) ?_
      refine lv_istore_n (lv' := [(2, .int 0), (0, .ref (am 0)), (1, .ref (aS (12 + w9)))]) S.1 S.2.1 dX5_takesWord_20 rfl hl (by decide) rfl (fun ls hl => ?_)
      refine lv_iload_n S.1 S.2.1 dX5_takesWord_21 rfl (lv_at hl 0 rfl) ?_
      refine lv_if_eq (tgt := 30) S.1 S.2.1 dX5_takesWord_22 (by decide) (fun _ => ?_) (fun h => absurd h (by decide))
      refine lv_iload_n S.1 S.2.1 dX5_takesWord_30 rfl (lv_at hl 0 rfl) ?_
      exact retZ S hr hlk rfl (by rw [kw_no (fun z9 => c_12 z9.2)]; exact hP) hS (if_neg (fun z9 => c_12 z9.2)).symm dX5_takesWord_31
    · refine lv_iconst (v := 1) S.1 S.2.1 dX5_takesWord_15 (by decide) ?_
      refine lv_goto (tgt := 20) S.1 S.2.1 dX5_takesWord_16 (by decide) ?_
      refine lv_istore_n (lv' := [(2, .int 1), (0, .ref (am 0)), (1, .ref (aS (12 + w9)))]) S.1 S.2.1 dX5_takesWord_20 rfl hl (by decide) rfl (fun ls hl => ?_)
      refine lv_iload_n S.1 S.2.1 dX5_takesWord_21 rfl (lv_at hl 0 rfl) ?_
      refine lv_if_eq (tgt := 30) S.1 S.2.1 dX5_takesWord_22 (by decide) (fun h => absurd h (by decide)) (fun _ => ?_)
      refine lv_aload_n S.1 S.2.1 dX5_takesWord_25 rfl (lv_at hl 1 rfl) ?_
      refine lv_iconst (v := 1) S.1 S.2.1 dX5_takesWord_26 (by decide) ?_
      refine go_V (run_V (As := [.int 1]) (rest := []) (n := 1) S hK (bl_P hP [0, 1] rfl) (bl_D hD [0, 1] rfl rfl) (c_X5_must l E am q tp len bb ee vv mn pt ss ww 1 hq3 hl9 hee) gV_X5_254 (by decide +kernel) rfl ⟨rfl, rfl⟩ ⟨Nat.le_of_ble_eq_true rfl, Nat.le_of_ble_eq_true rfl⟩ (ci := 5) (q0 := 0) rfl rfl hl.1 (Nat.le_of_ble_eq_true rfl) dX5_takesWord_27 ⟨Nat.zero_le _, Nat.zero_le _⟩) hP hD hS [0, 1] rfl (had_cons mo_ad (had_cons rfl rfl)) (Bs' := [[mObj am (qX q (mstF tp len (bb, ee, ss, vv, ww) 1) mn pt)], [(am 5, .inl (E.2.1, 120, .inl (sg tp 120)))]]) rfl (fun H locs hP hD hS => ?_)
      obtain ⟨⟨b_27, e_27, s_27, v_27, w_27⟩, eX_27⟩ : ∃ zz9 : Xs, zz9 = mstF tp len (bb, ee, ss, vv, ww) 1 := ⟨_, rfl⟩
      rw [← eX_27] at hP hD
      refine lv_iload_n S.1 S.2.1 dX5_takesWord_30 rfl (lv_at hl 0 rfl) ?_
      exact retZ S hr hlk rfl (by rw [kw_yes ⟨c_4, c_12⟩, ← eX_27]; exact hP) hS (if_pos ⟨c_4, c_12⟩).symm dX5_takesWord_31
set_option maxHeartbeats 800000 in
set_option maxRecDepth 100000 in
theorem c_X5_readWeather (l : Launch) (E : EV) (am : Nat → Nat) (q tp it : Row) (len bb ee vv mn pt : Nat) (ss ww : Int32) (hq3 : q 3 = nI len) (hl9 : len ≤ 120) (hle : XI len (bb, ee, ss, vv, ww)) (hmn : mn < 120) : Met l yX5_readWeather (wq yX5_readWeather cX5_readWeather 3 none) ({ frames := 4, cells := 0, slots := 0, locals := 87 }) (preB E [.ref (am 0)] [[mObj am (qX q (bb, ee, ss, vv, ww) mn pt)], [(am 5, .inl (E.2.1, 120, .inl (sg tp 120)))], [(am 7, .inl (E.2.1, 480, .inl (sg it 480)))]]) (qV E [[mObj am (qX q (bb, ee, ss, vv, ww) mn pt)], [(am 5, .inl (E.2.1, 120, .inl (sg tp 120)))], [(am 7, .inl (E.2.1, 480, .inl (sg it 480)))]] [[mObj am (qX q ((rdW tp len (bb, ee, ss, vv, ww)).1) (mn + 1) pt)], [(am 5, .inl (E.2.1, 120, .inl (sg tp 120)))], [(am 7, .inl (E.2.1, 480, .inl (sg (itF it mn 10 (rdW tp len (bb, ee, ss, vv, ww)).2.1 (rdW tp len (bb, ee, ss, vv, ww)).2.2 0) 480)))]]) 0 0 (inB [[mObj am (qX q (bb, ee, ss, vv, ww) mn pt)], [(am 5, .inl (E.2.1, 120, .inl (sg tp 120)))], [(am 7, .inl (E.2.1, 480, .inl (sg it 480)))]]) := by
  refine M_mk RX5 (by decide) rfl (Nat.le_of_ble_eq_true rfl) ?_
  intro p e s m below meth c S hr hlk hK hP hD hS ls hl
  have hl : lv_has ls 3 [(0, .ref (am 0))] := hl
  have hle8 := hle
  unfold XI at hle8
  obtain ⟨H, hH⟩ : ∃ zz9, zz9 = s.heap := ⟨_, rfl⟩
  obtain ⟨locs, hlocs⟩ : ∃ zz9 : List Loc, zz9 = [] := ⟨_, rfl⟩
  have hP : PE E [[mObj am (qX q (bb, ee, ss, vv, ww) mn pt)], [(am 5, .inl (E.2.1, 120, .inl (sg tp 120)))], [(am 7, .inl (E.2.1, 480, .inl (sg it 480)))]] H := by rw [hH]; exact hP
  have hS : va_S (inB [[mObj am (qX q (bb, ee, ss, vv, ww) mn pt)], [(am 5, .inl (E.2.1, 120, .inl (sg tp 120)))], [(am 7, .inl (E.2.1, 480, .inl (sg it 480)))]]) s.heap H locs := by rw [hH, hlocs]; exact hS
  show W p l e ({ frames := 4, cells := 0, slots := 0, locals := 87 }) s m ([.ref (am 0)] : List Value).toArray below meth c s.heap [] 0 0 _ _
  suffices hgo : W p l e ({ frames := 4, cells := 0, slots := 0, locals := 87 }) s m ([.ref (am 0)] : List Value).toArray below meth c H locs 0 0 (MQ below (qV E [[mObj am (qX q (bb, ee, ss, vv, ww) mn pt)], [(am 5, .inl (E.2.1, 120, .inl (sg tp 120)))], [(am 7, .inl (E.2.1, 480, .inl (sg it 480)))]] [[mObj am (qX q ((rdW tp len (bb, ee, ss, vv, ww)).1) (mn + 1) pt)], [(am 5, .inl (E.2.1, 120, .inl (sg tp 120)))], [(am 7, .inl (E.2.1, 480, .inl (sg (itF it mn 10 (rdW tp len (bb, ee, ss, vv, ww)).2.1 (rdW tp len (bb, ee, ss, vv, ww)).2.2 0) 480)))]]) ([.ref (am 0)] : List Value).toArray s 0 0 (inB [[mObj am (qX q (bb, ee, ss, vv, ww) mn pt)], [(am 5, .inl (E.2.1, 120, .inl (sg tp 120)))], [(am 7, .inl (E.2.1, 480, .inl (sg it 480)))]])) (F0 m 0 ls []) by rw [hH, hlocs] at hgo; exact hgo
  clear hH hlocs
  refine lv_aload_n S.1 S.2.1 dX5_readWeather_0 rfl (lv_at hl 0 rfl) ?_
  refine lv_iconst (v := 0) S.1 S.2.1 dX5_readWeather_1 (by decide) ?_
  refine lv_iconst (v := 5) S.1 S.2.1 dX5_readWeather_2 (by decide) ?_
  refine go_I (run_V (As := [.int 0, .int 5]) (rest := []) (n := 2) S hK (bl_P hP [0, 1] rfl) (bl_D hD [0, 1] rfl rfl) (c_X5_number l E am q tp len bb ee vv mn pt ss ww 0 5 hq3 hl9 (hle).2.1) gV_X5_273 (by decide +kernel) rfl ⟨rfl, rfl⟩ ⟨Nat.le_of_ble_eq_true rfl, Nat.le_of_ble_eq_true rfl⟩ (ci := 5) (q0 := 0) rfl rfl hl.1 (Nat.le_of_ble_eq_true rfl) dX5_readWeather_3 ⟨Nat.zero_le _, Nat.zero_le _⟩) hP hD hS [0, 1] rfl (had_cons mo_ad (had_cons rfl rfl)) (Bs' := [[mObj am (qX q (numF tp len (bb, ee, ss, vv, ww) 0 5) mn pt)], [(am 5, .inl (E.2.1, 120, .inl (sg tp 120)))], [(am 7, .inl (E.2.1, 480, .inl (sg it 480)))]]) rfl (fun H locs hP hD hS => ?_)
  obtain ⟨⟨b_3, e_3, s_3, v_3, w_3⟩, eX_3⟩ : ∃ zz9 : Xs, zz9 = numF tp len (bb, ee, ss, vv, ww) 0 5 := ⟨_, rfl⟩
  rw [← eX_3] at hP hD
  have hle_3 := num_I eX_3 hle
  refine lv_istore_n (lv' := [(1, .int (nI vv)), (0, .ref (am 0))]) S.1 S.2.1 dX5_readWeather_6 rfl hl (by decide) rfl (fun ls hl => ?_)
  refine lv_aload_n S.1 S.2.1 dX5_readWeather_7 rfl (lv_at hl 1 rfl) ?_
  refine lv_iconst (v := 0) S.1 S.2.1 dX5_readWeather_8 (by decide) ?_
  refine lv_bipush (v := 9) S.1 S.2.1 dX5_readWeather_9 (by decide) ?_
  refine go_I (run_V (As := [.int 0, .int 9]) (rest := []) (n := 2) S hK (bl_P hP [0, 1] rfl) (bl_D hD [0, 1] rfl rfl) (c_X5_number l E am q tp len b_3 e_3 v_3 mn pt s_3 w_3 0 9 hq3 hl9 (hle_3).2.1) gV_X5_273 (by decide +kernel) rfl ⟨rfl, rfl⟩ ⟨Nat.le_of_ble_eq_true rfl, Nat.le_of_ble_eq_true rfl⟩ (ci := 5) (q0 := 0) rfl rfl hl.1 (Nat.le_of_ble_eq_true rfl) dX5_readWeather_11 ⟨Nat.zero_le _, Nat.zero_le _⟩) hP hD hS [0, 1] rfl (had_cons mo_ad (had_cons rfl rfl)) (Bs' := [[mObj am (qX q (numF tp len (b_3, e_3, s_3, v_3, w_3) 0 9) mn pt)], [(am 5, .inl (E.2.1, 120, .inl (sg tp 120)))], [(am 7, .inl (E.2.1, 480, .inl (sg it 480)))]]) rfl (fun H locs hP hD hS => ?_)
  obtain ⟨⟨b_11, e_11, s_11, v_11, w_11⟩, eX_11⟩ : ∃ zz9 : Xs, zz9 = numF tp len (b_3, e_3, s_3, v_3, w_3) 0 9 := ⟨_, rfl⟩
  rw [← eX_11] at hP hD
  have hle_11 := num_I eX_11 hle_3
  refine lv_istore_n (lv' := [(2, .int (nI v_3)), (1, .int (nI vv)), (0, .ref (am 0))]) S.1 S.2.1 dX5_readWeather_14 rfl hl (by decide) rfl (fun ls hl => ?_)
  refine lv_aload_n S.1 S.2.1 dX5_readWeather_15 rfl (lv_at hl 2 rfl) ?_
  refine lv_bipush (v := 10) S.1 S.2.1 dX5_readWeather_16 (by decide) ?_
  refine lv_iload_n S.1 S.2.1 dX5_readWeather_18 rfl (lv_at hl 1 rfl) ?_
  refine lv_bipush (v := 10) S.1 S.2.1 dX5_readWeather_19 (by decide) ?_
  refine lv_iload_n S.1 S.2.1 dX5_readWeather_21 rfl (lv_at hl 0 rfl) ?_
  refine lv_imul S.1 S.2.1 dX5_readWeather_22 ?_
  refine lv_eqi (y := nI (10 * v_3)) (pk_mul 10 v_3) ?_
  refine lv_aload_n S.1 S.2.1 dX5_readWeather_23 rfl (lv_at hl 2 rfl) ?_
  refine lv_iconst (v := 0) S.1 S.2.1 dX5_readWeather_24 (by decide) ?_
  refine lv_bipush (v := 9) S.1 S.2.1 dX5_readWeather_25 (by decide) ?_
  refine go_I (run_V (As := [.int 0, .int 9]) (rest := [.int (nI (10 * v_3)), .int (nI vv), .int 10, .ref (am 0)]) (n := 2) S hK (bl_P hP [0, 1] rfl) (bl_D hD [0, 1] rfl rfl) (c_X5_number l E am q tp len b_11 e_11 v_11 mn pt s_11 w_11 0 9 hq3 hl9 (hle_11).2.1) gV_X5_273 (by decide +kernel) rfl ⟨rfl, rfl⟩ ⟨Nat.le_of_ble_eq_true rfl, Nat.le_of_ble_eq_true rfl⟩ (ci := 5) (q0 := 0) rfl rfl hl.1 (Nat.le_of_ble_eq_true rfl) dX5_readWeather_27 ⟨Nat.zero_le _, Nat.zero_le _⟩) hP hD hS [0, 1] rfl (had_cons mo_ad (had_cons rfl rfl)) (Bs' := [[mObj am (qX q (numF tp len (b_11, e_11, s_11, v_11, w_11) 0 9) mn pt)], [(am 5, .inl (E.2.1, 120, .inl (sg tp 120)))], [(am 7, .inl (E.2.1, 480, .inl (sg it 480)))]]) rfl (fun H locs hP hD hS => ?_)
  obtain ⟨⟨b_27, e_27, s_27, v_27, w_27⟩, eX_27⟩ : ∃ zz9 : Xs, zz9 = numF tp len (b_11, e_11, s_11, v_11, w_11) 0 9 := ⟨_, rfl⟩
  rw [← eX_27] at hP hD
  have hle_27 := num_I eX_27 hle_11
  refine lv_iadd S.1 S.2.1 dX5_readWeather_30 ?_
  refine lv_eqi (y := nI (10 * v_3 + v_11)) (nI_add (10 * v_3) v_11) ?_
  refine lv_iconst (v := 0) S.1 S.2.1 dX5_readWeather_31 (by decide) ?_
  refine go_V (run_V (As := [.int 10, .int (nI vv), .int (nI (10 * v_3 + v_11)), .int 0]) (rest := []) (n := 4) S hK (bl_P hP [0, 2] rfl) (bl_D hD [0, 2] rfl rfl) (c_X5_addItem l E am q it b_27 e_27 v_27 mn pt s_27 w_27 10 (nI vv) (nI (10 * v_3 + v_11)) 0 (by omega)) gV_X5_280 (by decide +kernel) rfl ⟨rfl, rfl⟩ ⟨Nat.le_of_ble_eq_true rfl, Nat.le_of_ble_eq_true rfl⟩ (ci := 5) (q0 := 0) rfl rfl hl.1 (Nat.le_of_ble_eq_true rfl) dX5_readWeather_32 ⟨Nat.zero_le _, Nat.zero_le _⟩) hP hD hS [0, 2] rfl (had_cons mo_ad (had_cons cell_ad rfl)) (Bs' := [[mObj am (qX q (b_27, e_27, s_27, v_27, w_27) (mn + 1) pt)], [(am 5, .inl (E.2.1, 120, .inl (sg tp 120)))], [(am 7, .inl (E.2.1, 480, .inl (sg (itF it mn 10 (nI vv) (nI (10 * v_3 + v_11)) 0) 480)))]]) rfl (fun H locs hP hD hS => ?_)
  obtain ⟨r_32_2, er_32_2⟩ : ∃ zz9 : Row, zz9 = itF it mn 10 (nI vv) (nI (10 * v_3 + v_11)) 0 := ⟨_, rfl⟩
  rw [← er_32_2] at hP hD
  exact retV S hr hlk (by have e9 : rdW tp len (bb, ee, ss, vv, ww) = ((b_27, e_27, s_27, v_27, w_27), nI vv, nI (10 * v_3 + v_11)) := (by unfold rdW; rw [← eX_3, ← eX_11, ← eX_27]); rw [e9]; rw [er_32_2] at hP; exact hP) hS dX5_readWeather_35
