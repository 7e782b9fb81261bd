section LWC
variable {p : Program} {l : Launch} {e : Env} {s : State} {m : MethodId} {below : List Frame} {meth : Method} {c : Code} {H : Heap} {locs : List Loc} {cells slots : Nat} {Q : State → Prop} {c0 : Cond} {E : EV} {aS ag ah az ak am : Nat → Nat} {A : Nat → Prop} {b L : Nat} {xs : Nat → Int32}
set_option maxHeartbeats 1600000 in
set_option maxRecDepth 100000 in
theorem law_10 (S : CallFix p m c code 4 s #[Value.ref b] (c0 :: GW) RL) (hK : KE E s) (hX : EX aS A s s.heap) (hXs : va_X b L xs s s.heap) (hbl : b < s.heap.size) (hbA : ¬ A b) (hcc : cells ≤ room_1.cells) (hss : slots ≤ room_1.slots) (hL : L ≤ 3072) (i0 : Int32) (r x k z u y tb f : Row) (len : Nat) (Y : Ys) (q r2 k2 x2 f2 tp it mv : Row) (hI : Inv i0 r k u tb f len q r2 k2 f2 tp) (hP : PE E (LW E aS ag ah az ak am i0 r x k z u y tb f len Y q r2 k2 x2 f2 tp it mv) H) (hD : DE A (LW E aS ag ah az ak am i0 r x k z u y tb f len Y q r2 k2 x2 f2 tp it mv)) (hS : va_S A s.heap H locs) {i : Nat} (hi : i + 6 ≤ L) {ls : Array Slot} (hl : lv_has ls 4 [(0, .ref b), (1, .ref (ag 0)), (2, .ref (am 0)), (3, .int (nI i))]) (kk : KK p l e s m below meth c b E aS ag ah az ak am A cells slots Q i) : W p l e room_1 s m #[Value.ref b] below meth c H locs cells slots Q (F0 m 508 ls []) := by
  obtain ⟨yb, ye, ys, yv⟩ := Y
  have hev := hI.1
  have hR := hI.2.1
  have hR2 := RI_ev hev hR
  have hRk := hI.2.2.1
  have hU := hI.2.2.2.2.2.1
  have hl9 := hI.2.2.2.2.2.2.1
  have hq3 := hI.2.2.2.2.2.2.2.1
  have hT := hI.2.2.2.2.2.2.2.2.1
  have hP : PE E [[gObj ag ah az ak i0], hillsW E ah r, hillsW E az x, hillsW E ak k, shO E ag z u, shN E ag y, [rdO ag (nI len) (nI ys) (nI yb) (nI ye) (nI yv)], [(ag 3, .inl (E.2.2.1, 120, .inl (sg tb 120)))], [(ag 4, .inl (E.2.1, 7, .inl (sg f 7)))], [mObj am q], [(am 1, .inl (E.2.1, 77, .inl (sg r2 77)))], [(am 2, .inl (E.2.1, 77, .inl (sg k2 77)))], [(am 3, .inl (E.2.1, 77, .inl (sg x2 77)))], [(am 4, .inl (E.2.1, 8, .inl (sg f2 8)))], [(am 5, .inl (E.2.1, 120, .inl (sg tp 120)))], [(am 6, .inl (E.2.2.2.2.2, 7, .inr (.inr (.inr (.inr (fun j => some (aS (12 + j))))))))], [(am 7, .inl (E.2.1, 480, .inl (sg it 480)))], [(am 8, .inl (E.2.1, 4, .inl (sg z 4)))], [(am 9, .inl (E.2.1, 4, .inl (sg u 4)))], [(am 10, .inl (E.2.1, 160, .inl (sg y 160)))], [(am 11, .inl (E.2.1, 40, .inl (sg mv 40)))]] H := hP
  have hD : DE A [[gObj ag ah az ak i0], hillsW E ah r, hillsW E az x, hillsW E ak k, shO E ag z u, shN E ag y, [rdO ag (nI len) (nI ys) (nI yb) (nI ye) (nI yv)], [(ag 3, .inl (E.2.2.1, 120, .inl (sg tb 120)))], [(ag 4, .inl (E.2.1, 7, .inl (sg f 7)))], [mObj am q], [(am 1, .inl (E.2.1, 77, .inl (sg r2 77)))], [(am 2, .inl (E.2.1, 77, .inl (sg k2 77)))], [(am 3, .inl (E.2.1, 77, .inl (sg x2 77)))], [(am 4, .inl (E.2.1, 8, .inl (sg f2 8)))], [(am 5, .inl (E.2.1, 120, .inl (sg tp 120)))], [(am 6, .inl (E.2.2.2.2.2, 7, .inr (.inr (.inr (.inr (fun j => some (aS (12 + j))))))))], [(am 7, .inl (E.2.1, 480, .inl (sg it 480)))], [(am 8, .inl (E.2.1, 4, .inl (sg z 4)))], [(am 9, .inl (E.2.1, 4, .inl (sg u 4)))], [(am 10, .inl (E.2.1, 160, .inl (sg y 160)))], [(am 11, .inl (E.2.1, 40, .inl (sg mv 40)))]] := hD
  refine lv_aload_n S.1 S.2.1 dL_law_508 rfl (lv_at hl 1 rfl) ?_
  refine lv_aload_n S.1 S.2.1 dL_law_509 rfl (lv_at hl 0 rfl) ?_
  refine lv_iload_n S.1 S.2.1 dL_law_510 rfl (lv_at hl 3 rfl) ?_
  refine lv_iconst (v := 1) S.1 S.2.1 dL_law_511 (by decide) ?_
  refine lv_iadd S.1 S.2.1 dL_law_512 ?_
  refine lv_eqi (y := nI (i + 1)) (nI_add i 1) ?_
  refine b_sld (j := i + 1) S.1 S.2.1 hXs hbl hbA hS (by omega) (by omega) dL_law_513 ?_
  refine lv_aload_n S.1 S.2.1 dL_law_514 rfl (lv_at hl 0 rfl) ?_
  refine lv_iload_n S.1 S.2.1 dL_law_515 rfl (lv_at hl 3 rfl) ?_
  refine lv_iconst (v := 2) S.1 S.2.1 dL_law_516 (by decide) ?_
  refine lv_iadd S.1 S.2.1 dL_law_517 ?_
  refine lv_eqi (y := nI (i + 2)) (nI_add i 2) ?_
  refine b_sld (j := i + 2) S.1 S.2.1 hXs hbl hbA hS (by omega) (by omega) dL_law_518 ?_
  refine go_Ix (run_V (As := [.int (xs (i + 1)), .int (xs (i + 2))]) (rest := []) (n := 2) S hK (bl_P hP [0, 1, 8, 2] rfl) (bl_D hD [0, 1, 8, 2] rfl rfl) (c_X4_when l E ag ah az ak i0 r f x (xs (i + 1)) (xs (i + 2)) hR) gV_L_56 (by decide +kernel) rfl ⟨rfl, rfl⟩ ⟨Nat.le_of_ble_eq_true rfl, Nat.le_of_ble_eq_true rfl⟩ (ci := 4) (q0 := 0) rfl rfl hl.1 (Nat.le_of_ble_eq_true rfl) dL_law_519 ⟨hcc, hss⟩) hP hD hS [0, 1, 8, 2] rfl (fun _ => (had_cons rfl (had_cons rfl (had_cons cell_ad (had_cons hw_ad rfl))))) (Bs' := fun u9 => [[gObj ag ah az ak i0], hillsW E ah r, hillsW E az u9, hillsW E ak k, shO E ag z u, shN E ag y, [rdO ag (nI len) (nI ys) (nI yb) (nI ye) (nI yv)], [(ag 3, .inl (E.2.2.1, 120, .inl (sg tb 120)))], [(ag 4, .inl (E.2.1, 7, .inl (sg (fndC f (rWhen r (xs (i + 1)) (xs (i + 2)))) 7)))], [mObj am q], [(am 1, .inl (E.2.1, 77, .inl (sg r2 77)))], [(am 2, .inl (E.2.1, 77, .inl (sg k2 77)))], [(am 3, .inl (E.2.1, 77, .inl (sg x2 77)))], [(am 4, .inl (E.2.1, 8, .inl (sg f2 8)))], [(am 5, .inl (E.2.1, 120, .inl (sg tp 120)))], [(am 6, .inl (E.2.2.2.2.2, 7, .inr (.inr (.inr (.inr (fun j => some (aS (12 + j))))))))], [(am 7, .inl (E.2.1, 480, .inl (sg it 480)))], [(am 8, .inl (E.2.1, 4, .inl (sg z 4)))], [(am 9, .inl (E.2.1, 4, .inl (sg u 4)))], [(am 10, .inl (E.2.1, 160, .inl (sg y 160)))], [(am 11, .inl (E.2.1, 40, .inl (sg mv 40)))]]) (fun _ => rfl) (fun u_1 H locs hP hD hS => ?_)
  refine lv_aload_n S.1 S.2.1 dL_law_522 rfl (lv_at hl 2 rfl) ?_
  refine lv_aload_n S.1 S.2.1 dL_law_523 rfl (lv_at hl 0 rfl) ?_
  refine lv_iload_n S.1 S.2.1 dL_law_524 rfl (lv_at hl 3 rfl) ?_
  refine lv_iconst (v := 1) S.1 S.2.1 dL_law_525 (by decide) ?_
  refine lv_iadd S.1 S.2.1 dL_law_526 ?_
  refine lv_eqi (y := nI (i + 1)) (nI_add i 1) ?_
  refine b_sld (j := i + 1) S.1 S.2.1 hXs hbl hbA hS (by omega) (by omega) dL_law_527 ?_
  refine lv_aload_n S.1 S.2.1 dL_law_528 rfl (lv_at hl 0 rfl) ?_
  refine lv_iload_n S.1 S.2.1 dL_law_529 rfl (lv_at hl 3 rfl) ?_
  refine lv_iconst (v := 2) S.1 S.2.1 dL_law_530 (by decide) ?_
  refine lv_iadd S.1 S.2.1 dL_law_531 ?_
  refine lv_eqi (y := nI (i + 2)) (nI_add i 2) ?_
  refine b_sld (j := i + 2) S.1 S.2.1 hXs hbl hbA hS (by omega) (by omega) dL_law_532 ?_
  refine go_Ix (run_V (As := [.int (xs (i + 1)), .int (xs (i + 2))]) (rest := [.int (ansR (rWhen r (xs (i + 1)) (xs (i + 2))))]) (n := 2) S hK (bl_P hP [9, 10, 13, 12] rfl) (bl_D hD [9, 10, 13, 12] rfl rfl) (c_X5_when l E am q r2 f2 x2 (xs (i + 1)) (xs (i + 2)) hR2) gV_L_59 (by decide +kernel) rfl ⟨rfl, rfl⟩ ⟨Nat.le_of_ble_eq_true rfl, Nat.le_of_ble_eq_true rfl⟩ (ci := 5) (q0 := 0) rfl rfl hl.1 (Nat.le_of_ble_eq_true rfl) dL_law_533 ⟨hcc, hss⟩) hP hD hS [9, 10, 13, 12] rfl (fun _ => (had_cons rfl (had_cons rfl (had_cons cell_ad (had_cons cell_ad rfl))))) (Bs' := fun u9 => [[gObj ag ah az ak i0], hillsW E ah r, hillsW E az u_1, hillsW E ak k, shO E ag z u, shN E ag y, [rdO ag (nI len) (nI ys) (nI yb) (nI ye) (nI yv)], [(ag 3, .inl (E.2.2.1, 120, .inl (sg tb 120)))], [(ag 4, .inl (E.2.1, 7, .inl (sg (fndC f (rWhen r (xs (i + 1)) (xs (i + 2)))) 7)))], [mObj am q], [(am 1, .inl (E.2.1, 77, .inl (sg r2 77)))], [(am 2, .inl (E.2.1, 77, .inl (sg k2 77)))], [(am 3, .inl (E.2.1, 77, .inl (sg u9 77)))], [(am 4, .inl (E.2.1, 8, .inl (sg (fndM f2 (rWhen r2 (xs (i + 1)) (xs (i + 2)))) 8)))], [(am 5, .inl (E.2.1, 120, .inl (sg tp 120)))], [(am 6, .inl (E.2.2.2.2.2, 7, .inr (.inr (.inr (.inr (fun j => some (aS (12 + j))))))))], [(am 7, .inl (E.2.1, 480, .inl (sg it 480)))], [(am 8, .inl (E.2.1, 4, .inl (sg z 4)))], [(am 9, .inl (E.2.1, 4, .inl (sg u 4)))], [(am 10, .inl (E.2.1, 160, .inl (sg y 160)))], [(am 11, .inl (E.2.1, 40, .inl (sg mv 40)))]]) (fun _ => rfl) (fun u_2 H locs hP hD hS => ?_)
  refine lv_icmp_eq (tgt := 1399) S.1 S.2.1 dL_law_536 (by decide) (fun _ => ?_) (fun h => absurd (RR_ans (rr_when hev hR (xs (i + 1)) (xs (i + 2)))) h)
  exact kk i0 r u_1 k z u y tb (fndC f (rWhen r (xs (i + 1)) (xs (i + 2)))) len (yb, ye, ys, yv) q r2 k2 u_2 (fndM f2 (rWhen r2 (xs (i + 1)) (xs (i + 2)))) tp it mv H locs ls (inv_ans hI (rr_when hev hR (xs (i + 1)) (xs (i + 2))) rfl rfl) hP hD hS (lv_sub hl [0, 1, 2, 3] rfl)
set_option maxHeartbeats 1600000 in
set_option maxRecDepth 100000 in
theorem law_11 (S : CallFix p m c code 4 s #[Value.ref b] (c0 :: GW) RL) (hK : KE E s) (hX : EX aS A s s.heap) (hXs : va_X b L xs s s.heap) (hbl : b < s.heap.size) (hbA : ¬ A b) (hcc : cells ≤ room_1.cells) (hss : slots ≤ room_1.slots) (hL : L ≤ 3072) (i0 : Int32) (r x k z u y tb f : Row) (len : Nat) (Y : Ys) (q r2 k2 x2 f2 tp it mv : Row) (hI : Inv i0 r k u tb f len q r2 k2 f2 tp) (hP : PE E (LW E aS ag ah az ak am i0 r x k z u y tb f len Y q r2 k2 x2 f2 tp it mv) H) (hD : DE A (LW E aS ag ah az ak am i0 r x k z u y tb f len Y q r2 k2 x2 f2 tp it mv)) (hS : va_S A s.heap H locs) {i : Nat} (hi : i + 6 ≤ L) {ls : Array Slot} (hl : lv_has ls 4 [(0, .ref b), (1, .ref (ag 0)), (2, .ref (am 0)), (3, .int (nI i))]) (kk : KK p l e s m below meth c b E aS ag ah az ak am A cells slots Q i) : W p l e room_1 s m #[Value.ref b] below meth c H locs cells slots Q (F0 m 541 ls []) := by
  obtain ⟨yb, ye, ys, yv⟩ := Y
  have hev := hI.1
  have hR := hI.2.1
  have hR2 := RI_ev hev hR
  have hRk := hI.2.2.1
  have hU := hI.2.2.2.2.2.1
  have hl9 := hI.2.2.2.2.2.2.1
  have hq3 := hI.2.2.2.2.2.2.2.1
  have hT := hI.2.2.2.2.2.2.2.2.1
  have hP : PE E [[gObj ag ah az ak i0], hillsW E ah r, hillsW E az x, hillsW E ak k, shO E ag z u, shN E ag y, [rdO ag (nI len) (nI ys) (nI yb) (nI ye) (nI yv)], [(ag 3, .inl (E.2.2.1, 120, .inl (sg tb 120)))], [(ag 4, .inl (E.2.1, 7, .inl (sg f 7)))], [mObj am q], [(am 1, .inl (E.2.1, 77, .inl (sg r2 77)))], [(am 2, .inl (E.2.1, 77, .inl (sg k2 77)))], [(am 3, .inl (E.2.1, 77, .inl (sg x2 77)))], [(am 4, .inl (E.2.1, 8, .inl (sg f2 8)))], [(am 5, .inl (E.2.1, 120, .inl (sg tp 120)))], [(am 6, .inl (E.2.2.2.2.2, 7, .inr (.inr (.inr (.inr (fun j => some (aS (12 + j))))))))], [(am 7, .inl (E.2.1, 480, .inl (sg it 480)))], [(am 8, .inl (E.2.1, 4, .inl (sg z 4)))], [(am 9, .inl (E.2.1, 4, .inl (sg u 4)))], [(am 10, .inl (E.2.1, 160, .inl (sg y 160)))], [(am 11, .inl (E.2.1, 40, .inl (sg mv 40)))]] H := hP
  have hD : DE A [[gObj ag ah az ak i0], hillsW E ah r, hillsW E az x, hillsW E ak k, shO E ag z u, shN E ag y, [rdO ag (nI len) (nI ys) (nI yb) (nI ye) (nI yv)], [(ag 3, .inl (E.2.2.1, 120, .inl (sg tb 120)))], [(ag 4, .inl (E.2.1, 7, .inl (sg f 7)))], [mObj am q], [(am 1, .inl (E.2.1, 77, .inl (sg r2 77)))], [(am 2, .inl (E.2.1, 77, .inl (sg k2 77)))], [(am 3, .inl (E.2.1, 77, .inl (sg x2 77)))], [(am 4, .inl (E.2.1, 8, .inl (sg f2 8)))], [(am 5, .inl (E.2.1, 120, .inl (sg tp 120)))], [(am 6, .inl (E.2.2.2.2.2, 7, .inr (.inr (.inr (.inr (fun j => some (aS (12 + j))))))))], [(am 7, .inl (E.2.1, 480, .inl (sg it 480)))], [(am 8, .inl (E.2.1, 4, .inl (sg z 4)))], [(am 9, .inl (E.2.1, 4, .inl (sg u 4)))], [(am 10, .inl (E.2.1, 160, .inl (sg y 160)))], [(am 11, .inl (E.2.1, 40, .inl (sg mv 40)))]] := hD
  refine lv_aload_n S.1 S.2.1 dL_law_541 rfl (lv_at hl 1 rfl) ?_
  refine lv_aload_n S.1 S.2.1 dL_law_542 rfl (lv_at hl 0 rfl) ?_
  refine lv_iload_n S.1 S.2.1 dL_law_543 rfl (lv_at hl 3 rfl) ?_
  refine lv_iconst (v := 1) S.1 S.2.1 dL_law_544 (by decide) ?_
  refine lv_iadd S.1 S.2.1 dL_law_545 ?_
  refine lv_eqi (y := nI (i + 1)) (nI_add i 1) ?_
  refine b_sld (j := i + 1) S.1 S.2.1 hXs hbl hbA hS (by omega) (by omega) dL_law_546 ?_
  refine go_Ix (run_V (As := [.int (xs (i + 1))]) (rest := []) (n := 1) S hK (bl_P hP [0, 1, 8, 2] rfl) (bl_D hD [0, 1, 8, 2] rfl rfl) (c_X4_cracks l E ag ah az ak i0 r f x (xs (i + 1)) hR) gV_L_60 (by decide +kernel) rfl ⟨rfl, rfl⟩ ⟨Nat.le_of_ble_eq_true rfl, Nat.le_of_ble_eq_true rfl⟩ (ci := 4) (q0 := 0) rfl rfl hl.1 (Nat.le_of_ble_eq_true rfl) dL_law_547 ⟨hcc, hss⟩) hP hD hS [0, 1, 8, 2] rfl (fun _ => (had_cons rfl (had_cons rfl (had_cons cell_ad (had_cons hw_ad rfl))))) (Bs' := fun u9 => [[gObj ag ah az ak i0], hillsW E ah r, hillsW E az u9, hillsW E ak k, shO E ag z u, shN E ag y, [rdO ag (nI len) (nI ys) (nI yb) (nI ye) (nI yv)], [(ag 3, .inl (E.2.2.1, 120, .inl (sg tb 120)))], [(ag 4, .inl (E.2.1, 7, .inl (sg (fndC f (rCracks r (xs (i + 1)))) 7)))], [mObj am q], [(am 1, .inl (E.2.1, 77, .inl (sg r2 77)))], [(am 2, .inl (E.2.1, 77, .inl (sg k2 77)))], [(am 3, .inl (E.2.1, 77, .inl (sg x2 77)))], [(am 4, .inl (E.2.1, 8, .inl (sg f2 8)))], [(am 5, .inl (E.2.1, 120, .inl (sg tp 120)))], [(am 6, .inl (E.2.2.2.2.2, 7, .inr (.inr (.inr (.inr (fun j => some (aS (12 + j))))))))], [(am 7, .inl (E.2.1, 480, .inl (sg it 480)))], [(am 8, .inl (E.2.1, 4, .inl (sg z 4)))], [(am 9, .inl (E.2.1, 4, .inl (sg u 4)))], [(am 10, .inl (E.2.1, 160, .inl (sg y 160)))], [(am 11, .inl (E.2.1, 40, .inl (sg mv 40)))]]) (fun _ => rfl) (fun u_1 H locs hP hD hS => ?_)
  refine lv_aload_n S.1 S.2.1 dL_law_550 rfl (lv_at hl 2 rfl) ?_
  refine lv_aload_n S.1 S.2.1 dL_law_551 rfl (lv_at hl 0 rfl) ?_
  refine lv_iload_n S.1 S.2.1 dL_law_552 rfl (lv_at hl 3 rfl) ?_
  refine lv_iconst (v := 1) S.1 S.2.1 dL_law_553 (by decide) ?_
  refine lv_iadd S.1 S.2.1 dL_law_554 ?_
  refine lv_eqi (y := nI (i + 1)) (nI_add i 1) ?_
  refine b_sld (j := i + 1) S.1 S.2.1 hXs hbl hbA hS (by omega) (by omega) dL_law_555 ?_
  refine go_Ix (run_V (As := [.int (xs (i + 1))]) (rest := [.int (ansR (rCracks r (xs (i + 1))))]) (n := 1) S hK (bl_P hP [9, 10, 13, 12] rfl) (bl_D hD [9, 10, 13, 12] rfl rfl) (c_X5_cracks l E am q r2 f2 x2 (xs (i + 1)) hR2) gV_L_63 (by decide +kernel) rfl ⟨rfl, rfl⟩ ⟨Nat.le_of_ble_eq_true rfl, Nat.le_of_ble_eq_true rfl⟩ (ci := 5) (q0 := 0) rfl rfl hl.1 (Nat.le_of_ble_eq_true rfl) dL_law_556 ⟨hcc, hss⟩) hP hD hS [9, 10, 13, 12] rfl (fun _ => (had_cons rfl (had_cons rfl (had_cons cell_ad (had_cons cell_ad rfl))))) (Bs' := fun u9 => [[gObj ag ah az ak i0], hillsW E ah r, hillsW E az u_1, hillsW E ak k, shO E ag z u, shN E ag y, [rdO ag (nI len) (nI ys) (nI yb) (nI ye) (nI yv)], [(ag 3, .inl (E.2.2.1, 120, .inl (sg tb 120)))], [(ag 4, .inl (E.2.1, 7, .inl (sg (fndC f (rCracks r (xs (i + 1)))) 7)))], [mObj am q], [(am 1, .inl (E.2.1, 77, .inl (sg r2 77)))], [(am 2, .inl (E.2.1, 77, .inl (sg k2 77)))], [(am 3, .inl (E.2.1, 77, .inl (sg u9 77)))], [(am 4, .inl (E.2.1, 8, .inl (sg (fndM f2 (rCracks r2 (xs (i + 1)))) 8)))], [(am 5, .inl (E.2.1, 120, .inl (sg tp 120)))], [(am 6, .inl (E.2.2.2.2.2, 7, .inr (.inr (.inr (.inr (fun j => some (aS (12 + j))))))))], [(am 7, .inl (E.2.1, 480, .inl (sg it 480)))], [(am 8, .inl (E.2.1, 4, .inl (sg z 4)))], [(am 9, .inl (E.2.1, 4, .inl (sg u 4)))], [(am 10, .inl (E.2.1, 160, .inl (sg y 160)))], [(am 11, .inl (E.2.1, 40, .inl (sg mv 40)))]]) (fun _ => rfl) (fun u_2 H locs hP hD hS => ?_)
  refine lv_icmp_eq (tgt := 1399) S.1 S.2.1 dL_law_559 (by decide) (fun _ => ?_) (fun h => absurd (RR_ans (rr_cracks hev hR (xs (i + 1)))) h)
  exact kk i0 r u_1 k z u y tb (fndC f (rCracks r (xs (i + 1)))) len (yb, ye, ys, yv) q r2 k2 u_2 (fndM f2 (rCracks r2 (xs (i + 1)))) tp it mv H locs ls (inv_ans hI (rr_cracks hev hR (xs (i + 1))) rfl rfl) hP hD hS (lv_sub hl [0, 1, 2, 3] rfl)
set_option maxHeartbeats 1600000 in
set_option maxRecDepth 100000 in
theorem law_12 (S : CallFix p m c code 4 s #[Value.ref b] (c0 :: GW) RL) (hK : KE E s) (hX : EX aS A s s.heap) (hXs : va_X b L xs s s.heap) (hbl : b < s.heap.size) (hbA : ¬ A b) (hcc : cells ≤ room_1.cells) (hss : slots ≤ room_1.slots) (hL : L ≤ 3072) (i0 : Int32) (r x k z u y tb f : Row) (len : Nat) (Y : Ys) (q r2 k2 x2 f2 tp it mv : Row) (hI : Inv i0 r k u tb f len q r2 k2 f2 tp) (hP : PE E (LW E aS ag ah az ak am i0 r x k z u y tb f len Y q r2 k2 x2 f2 tp it mv) H) (hD : DE A (LW E aS ag ah az ak am i0 r x k z u y tb f len Y q r2 k2 x2 f2 tp it mv)) (hS : va_S A s.heap H locs) {i : Nat} (hi : i + 6 ≤ L) {ls : Array Slot} (hl : lv_has ls 4 [(0, .ref b), (1, .ref (ag 0)), (2, .ref (am 0)), (3, .int (nI i))]) (kk : KK p l e s m below meth c b E aS ag ah az ak am A cells slots Q i) : W p l e room_1 s m #[Value.ref b] below meth c H locs cells slots Q (F0 m 564 ls []) := by
  obtain ⟨yb, ye, ys, yv⟩ := Y
  have hev := hI.1
  have hR := hI.2.1
  have hR2 := RI_ev hev hR
  have hRk := hI.2.2.1
  have hU := hI.2.2.2.2.2.1
  have hl9 := hI.2.2.2.2.2.2.1
  have hq3 := hI.2.2.2.2.2.2.2.1
  have hT := hI.2.2.2.2.2.2.2.2.1
  have hP : PE E [[gObj ag ah az ak i0], hillsW E ah r, hillsW E az x, hillsW E ak k, shO E ag z u, shN E ag y, [rdO ag (nI len) (nI ys) (nI yb) (nI ye) (nI yv)], [(ag 3, .inl (E.2.2.1, 120, .inl (sg tb 120)))], [(ag 4, .inl (E.2.1, 7, .inl (sg f 7)))], [mObj am q], [(am 1, .inl (E.2.1, 77, .inl (sg r2 77)))], [(am 2, .inl (E.2.1, 77, .inl (sg k2 77)))], [(am 3, .inl (E.2.1, 77, .inl (sg x2 77)))], [(am 4, .inl (E.2.1, 8, .inl (sg f2 8)))], [(am 5, .inl (E.2.1, 120, .inl (sg tp 120)))], [(am 6, .inl (E.2.2.2.2.2, 7, .inr (.inr (.inr (.inr (fun j => some (aS (12 + j))))))))], [(am 7, .inl (E.2.1, 480, .inl (sg it 480)))], [(am 8, .inl (E.2.1, 4, .inl (sg z 4)))], [(am 9, .inl (E.2.1, 4, .inl (sg u 4)))], [(am 10, .inl (E.2.1, 160, .inl (sg y 160)))], [(am 11, .inl (E.2.1, 40, .inl (sg mv 40)))]] H := hP
  have hD : DE A [[gObj ag ah az ak i0], hillsW E ah r, hillsW E az x, hillsW E ak k, shO E ag z u, shN E ag y, [rdO ag (nI len) (nI ys) (nI yb) (nI ye) (nI yv)], [(ag 3, .inl (E.2.2.1, 120, .inl (sg tb 120)))], [(ag 4, .inl (E.2.1, 7, .inl (sg f 7)))], [mObj am q], [(am 1, .inl (E.2.1, 77, .inl (sg r2 77)))], [(am 2, .inl (E.2.1, 77, .inl (sg k2 77)))], [(am 3, .inl (E.2.1, 77, .inl (sg x2 77)))], [(am 4, .inl (E.2.1, 8, .inl (sg f2 8)))], [(am 5, .inl (E.2.1, 120, .inl (sg tp 120)))], [(am 6, .inl (E.2.2.2.2.2, 7, .inr (.inr (.inr (.inr (fun j => some (aS (12 + j))))))))], [(am 7, .inl (E.2.1, 480, .inl (sg it 480)))], [(am 8, .inl (E.2.1, 4, .inl (sg z 4)))], [(am 9, .inl (E.2.1, 4, .inl (sg u 4)))], [(am 10, .inl (E.2.1, 160, .inl (sg y 160)))], [(am 11, .inl (E.2.1, 40, .inl (sg mv 40)))]] := hD
  refine lv_aload_n S.1 S.2.1 dL_law_564 rfl (lv_at hl 1 rfl) ?_
  refine lv_aload_n S.1 S.2.1 dL_law_565 rfl (lv_at hl 0 rfl) ?_
  refine lv_iload_n S.1 S.2.1 dL_law_566 rfl (lv_at hl 3 rfl) ?_
  refine lv_iconst (v := 1) S.1 S.2.1 dL_law_567 (by decide) ?_
  refine lv_iadd S.1 S.2.1 dL_law_568 ?_
  refine lv_eqi (y := nI (i + 1)) (nI_add i 1) ?_
  refine b_sld (j := i + 1) S.1 S.2.1 hXs hbl hbA hS (by omega) (by omega) dL_law_569 ?_
  refine lv_aload_n S.1 S.2.1 dL_law_570 rfl (lv_at hl 0 rfl) ?_
  refine lv_iload_n S.1 S.2.1 dL_law_571 rfl (lv_at hl 3 rfl) ?_
  refine lv_iconst (v := 2) S.1 S.2.1 dL_law_572 (by decide) ?_
  refine lv_iadd S.1 S.2.1 dL_law_573 ?_
  refine lv_eqi (y := nI (i + 2)) (nI_add i 2) ?_
  refine b_sld (j := i + 2) S.1 S.2.1 hXs hbl hbA hS (by omega) (by omega) dL_law_574 ?_
  refine go_Ix (run_V (As := [.int (xs (i + 1)), .int (xs (i + 2))]) (rest := []) (n := 2) S hK (bl_P hP [0, 1, 8, 2] rfl) (bl_D hD [0, 1, 8, 2] rfl rfl) (c_X4_tinted l E ag ah az ak i0 r f x (xs (i + 1)) (xs (i + 2)) hR) gV_L_64 (by decide +kernel) rfl ⟨rfl, rfl⟩ ⟨Nat.le_of_ble_eq_true rfl, Nat.le_of_ble_eq_true rfl⟩ (ci := 4) (q0 := 0) rfl rfl hl.1 (Nat.le_of_ble_eq_true rfl) dL_law_575 ⟨hcc, hss⟩) hP hD hS [0, 1, 8, 2] rfl (fun _ => (had_cons rfl (had_cons rfl (had_cons cell_ad (had_cons hw_ad rfl))))) (Bs' := fun u9 => [[gObj ag ah az ak i0], hillsW E ah r, hillsW E az u9, hillsW E ak k, shO E ag z u, shN E ag y, [rdO ag (nI len) (nI ys) (nI yb) (nI ye) (nI yv)], [(ag 3, .inl (E.2.2.1, 120, .inl (sg tb 120)))], [(ag 4, .inl (E.2.1, 7, .inl (sg (fndC f (rTinted r (xs (i + 1)) (xs (i + 2)))) 7)))], [mObj am q], [(am 1, .inl (E.2.1, 77, .inl (sg r2 77)))], [(am 2, .inl (E.2.1, 77, .inl (sg k2 77)))], [(am 3, .inl (E.2.1, 77, .inl (sg x2 77)))], [(am 4, .inl (E.2.1, 8, .inl (sg f2 8)))], [(am 5, .inl (E.2.1, 120, .inl (sg tp 120)))], [(am 6, .inl (E.2.2.2.2.2, 7, .inr (.inr (.inr (.inr (fun j => some (aS (12 + j))))))))], [(am 7, .inl (E.2.1, 480, .inl (sg it 480)))], [(am 8, .inl (E.2.1, 4, .inl (sg z 4)))], [(am 9, .inl (E.2.1, 4, .inl (sg u 4)))], [(am 10, .inl (E.2.1, 160, .inl (sg y 160)))], [(am 11, .inl (E.2.1, 40, .inl (sg mv 40)))]]) (fun _ => rfl) (fun u_1 H locs hP hD hS => ?_)
  refine lv_aload_n S.1 S.2.1 dL_law_578 rfl (lv_at hl 2 rfl) ?_
  refine lv_aload_n S.1 S.2.1 dL_law_579 rfl (lv_at hl 0 rfl) ?_
  refine lv_iload_n S.1 S.2.1 dL_law_580 rfl (lv_at hl 3 rfl) ?_
  refine lv_iconst (v := 1) S.1 S.2.1 dL_law_581 (by decide) ?_
  refine lv_iadd S.1 S.2.1 dL_law_582 ?_
  refine lv_eqi (y := nI (i + 1)) (nI_add i 1) ?_
  refine b_sld (j := i + 1) S.1 S.2.1 hXs hbl hbA hS (by omega) (by omega) dL_law_583 ?_
  refine lv_aload_n S.1 S.2.1 dL_law_584 rfl (lv_at hl 0 rfl) ?_
  refine lv_iload_n S.1 S.2.1 dL_law_585 rfl (lv_at hl 3 rfl) ?_
  refine lv_iconst (v := 2) S.1 S.2.1 dL_law_586 (by decide) ?_
  refine lv_iadd S.1 S.2.1 dL_law_587 ?_
  refine lv_eqi (y := nI (i + 2)) (nI_add i 2) ?_
  refine b_sld (j := i + 2) S.1 S.2.1 hXs hbl hbA hS (by omega) (by omega) dL_law_588 ?_
  refine go_Ix (run_V (As := [.int (xs (i + 1)), .int (xs (i + 2))]) (rest := [.int (ansR (rTinted r (xs (i + 1)) (xs (i + 2))))]) (n := 2) S hK (bl_P hP [9, 10, 13, 12] rfl) (bl_D hD [9, 10, 13, 12] rfl rfl) (c_X5_tinted l E am q r2 f2 x2 (xs (i + 1)) (xs (i + 2)) hR2) gV_L_67 (by decide +kernel) rfl ⟨rfl, rfl⟩ ⟨Nat.le_of_ble_eq_true rfl, Nat.le_of_ble_eq_true rfl⟩ (ci := 5) (q0 := 0) rfl rfl hl.1 (Nat.le_of_ble_eq_true rfl) dL_law_589 ⟨hcc, hss⟩) hP hD hS [9, 10, 13, 12] rfl (fun _ => (had_cons rfl (had_cons rfl (had_cons cell_ad (had_cons cell_ad rfl))))) (Bs' := fun u9 => [[gObj ag ah az ak i0], hillsW E ah r, hillsW E az u_1, hillsW E ak k, shO E ag z u, shN E ag y, [rdO ag (nI len) (nI ys) (nI yb) (nI ye) (nI yv)], [(ag 3, .inl (E.2.2.1, 120, .inl (sg tb 120)))], [(ag 4, .inl (E.2.1, 7, .inl (sg (fndC f (rTinted r (xs (i + 1)) (xs (i + 2)))) 7)))], [mObj am q], [(am 1, .inl (E.2.1, 77, .inl (sg r2 77)))], [(am 2, .inl (E.2.1, 77, .inl (sg k2 77)))], [(am 3, .inl (E.2.1, 77, .inl (sg u9 77)))], [(am 4, .inl (E.2.1, 8, .inl (sg (fndM f2 (rTinted r2 (xs (i + 1)) (xs (i + 2)))) 8)))], [(am 5, .inl (E.2.1, 120, .inl (sg tp 120)))], [(am 6, .inl (E.2.2.2.2.2, 7, .inr (.inr (.inr (.inr (fun j => some (aS (12 + j))))))))], [(am 7, .inl (E.2.1, 480, .inl (sg it 480)))], [(am 8, .inl (E.2.1, 4, .inl (sg z 4)))], [(am 9, .inl (E.2.1, 4, .inl (sg u 4)))], [(am 10, .inl (E.2.1, 160, .inl (sg y 160)))], [(am 11, .inl (E.2.1, 40, .inl (sg mv 40)))]]) (fun _ => rfl) (fun u_2 H locs hP hD hS => ?_)
  refine lv_icmp_eq (tgt := 1399) S.1 S.2.1 dL_law_592 (by decide) (fun _ => ?_) (fun h => absurd (RR_ans (rr_tinted hev hR (xs (i + 1)) (xs (i + 2)))) h)
  exact kk i0 r u_1 k z u y tb (fndC f (rTinted r (xs (i + 1)) (xs (i + 2)))) len (yb, ye, ys, yv) q r2 k2 u_2 (fndM f2 (rTinted r2 (xs (i + 1)) (xs (i + 2)))) tp it mv H locs ls (inv_ans hI (rr_tinted hev hR (xs (i + 1)) (xs (i + 2))) rfl rfl) hP hD hS (lv_sub hl [0, 1, 2, 3] rfl)
set_option maxHeartbeats 1600000 in
set_option maxRecDepth 100000 in
theorem law_13 (S : CallFix p m c code 4 s #[Value.ref b] (c0 :: GW) RL) (hK : KE E s) (hX : EX aS A s s.heap) (hXs : va_X b L xs s s.heap) (hbl : b < s.heap.size) (hbA : ¬ A b) (hcc : cells ≤ room_1.cells) (hss : slots ≤ room_1.slots) (hL : L ≤ 3072) (i0 : Int32) (r x k z u y tb f : Row) (len : Nat) (Y : Ys) (q r2 k2 x2 f2 tp it mv : Row) (hI : Inv i0 r k u tb f len q r2 k2 f2 tp) (hP : PE E (LW E aS ag ah az ak am i0 r x k z u y tb f len Y q r2 k2 x2 f2 tp it mv) H) (hD : DE A (LW E aS ag ah az ak am i0 r x k z u y tb f len Y q r2 k2 x2 f2 tp it mv)) (hS : va_S A s.heap H locs) {i : Nat} (hi : i + 6 ≤ L) {ls : Array Slot} (hl : lv_has ls 4 [(0, .ref b), (1, .ref (ag 0)), (2, .ref (am 0)), (3, .int (nI i))]) (kk : KK p l e s m below meth c b E aS ag ah az ak am A cells slots Q i) : W p l e room_1 s m #[Value.ref b] below meth c H locs cells slots Q (F0 m 597 ls []) := by
  obtain ⟨yb, ye, ys, yv⟩ := Y
  have hev := hI.1
  have hR := hI.2.1
  have hR2 := RI_ev hev hR
  have hRk := hI.2.2.1
  have hU := hI.2.2.2.2.2.1
  have hl9 := hI.2.2.2.2.2.2.1
  have hq3 := hI.2.2.2.2.2.2.2.1
  have hT := hI.2.2.2.2.2.2.2.2.1
  have hP : PE E [[gObj ag ah az ak i0], hillsW E ah r, hillsW E az x, hillsW E ak k, shO E ag z u, shN E ag y, [rdO ag (nI len) (nI ys) (nI yb) (nI ye) (nI yv)], [(ag 3, .inl (E.2.2.1, 120, .inl (sg tb 120)))], [(ag 4, .inl (E.2.1, 7, .inl (sg f 7)))], [mObj am q], [(am 1, .inl (E.2.1, 77, .inl (sg r2 77)))], [(am 2, .inl (E.2.1, 77, .inl (sg k2 77)))], [(am 3, .inl (E.2.1, 77, .inl (sg x2 77)))], [(am 4, .inl (E.2.1, 8, .inl (sg f2 8)))], [(am 5, .inl (E.2.1, 120, .inl (sg tp 120)))], [(am 6, .inl (E.2.2.2.2.2, 7, .inr (.inr (.inr (.inr (fun j => some (aS (12 + j))))))))], [(am 7, .inl (E.2.1, 480, .inl (sg it 480)))], [(am 8, .inl (E.2.1, 4, .inl (sg z 4)))], [(am 9, .inl (E.2.1, 4, .inl (sg u 4)))], [(am 10, .inl (E.2.1, 160, .inl (sg y 160)))], [(am 11, .inl (E.2.1, 40, .inl (sg mv 40)))]] H := hP
  have hD : DE A [[gObj ag ah az ak i0], hillsW E ah r, hillsW E az x, hillsW E ak k, shO E ag z u, shN E ag y, [rdO ag (nI len) (nI ys) (nI yb) (nI ye) (nI yv)], [(ag 3, .inl (E.2.2.1, 120, .inl (sg tb 120)))], [(ag 4, .inl (E.2.1, 7, .inl (sg f 7)))], [mObj am q], [(am 1, .inl (E.2.1, 77, .inl (sg r2 77)))], [(am 2, .inl (E.2.1, 77, .inl (sg k2 77)))], [(am 3, .inl (E.2.1, 77, .inl (sg x2 77)))], [(am 4, .inl (E.2.1, 8, .inl (sg f2 8)))], [(am 5, .inl (E.2.1, 120, .inl (sg tp 120)))], [(am 6, .inl (E.2.2.2.2.2, 7, .inr (.inr (.inr (.inr (fun j => some (aS (12 + j))))))))], [(am 7, .inl (E.2.1, 480, .inl (sg it 480)))], [(am 8, .inl (E.2.1, 4, .inl (sg z 4)))], [(am 9, .inl (E.2.1, 4, .inl (sg u 4)))], [(am 10, .inl (E.2.1, 160, .inl (sg y 160)))], [(am 11, .inl (E.2.1, 40, .inl (sg mv 40)))]] := hD
  refine lv_aload_n S.1 S.2.1 dL_law_597 rfl (lv_at hl 1 rfl) ?_
  refine lv_aload_n S.1 S.2.1 dL_law_598 rfl (lv_at hl 0 rfl) ?_
  refine lv_iload_n S.1 S.2.1 dL_law_599 rfl (lv_at hl 3 rfl) ?_
  refine lv_iconst (v := 1) S.1 S.2.1 dL_law_600 (by decide) ?_
  refine lv_iadd S.1 S.2.1 dL_law_601 ?_
  refine lv_eqi (y := nI (i + 1)) (nI_add i 1) ?_
  refine b_sld (j := i + 1) S.1 S.2.1 hXs hbl hbA hS (by omega) (by omega) dL_law_602 ?_
  refine lv_aload_n S.1 S.2.1 dL_law_603 rfl (lv_at hl 0 rfl) ?_
  refine lv_iload_n S.1 S.2.1 dL_law_604 rfl (lv_at hl 3 rfl) ?_
  refine lv_iconst (v := 2) S.1 S.2.1 dL_law_605 (by decide) ?_
  refine lv_iadd S.1 S.2.1 dL_law_606 ?_
  refine lv_eqi (y := nI (i + 2)) (nI_add i 2) ?_
  refine b_sld (j := i + 2) S.1 S.2.1 hXs hbl hbA hS (by omega) (by omega) dL_law_607 ?_
  refine lv_aload_n S.1 S.2.1 dL_law_608 rfl (lv_at hl 0 rfl) ?_
  refine lv_iload_n S.1 S.2.1 dL_law_609 rfl (lv_at hl 3 rfl) ?_
  refine lv_iconst (v := 3) S.1 S.2.1 dL_law_610 (by decide) ?_
  refine lv_iadd S.1 S.2.1 dL_law_611 ?_
  refine lv_eqi (y := nI (i + 3)) (nI_add i 3) ?_
  refine b_sld (j := i + 3) S.1 S.2.1 hXs hbl hbA hS (by omega) (by omega) dL_law_612 ?_
  refine go_Ix (run_V (As := [.int (xs (i + 1)), .int (xs (i + 2)), .int (xs (i + 3))]) (rest := []) (n := 3) S hK (bl_P hP [0, 1, 8, 2] rfl) (bl_D hD [0, 1, 8, 2] rfl rfl) (c_X4_hoursFor l E ag ah az ak i0 r f x (xs (i + 1)) (xs (i + 2)) (xs (i + 3)) hR) gV_L_68 (by decide +kernel) rfl ⟨rfl, rfl⟩ ⟨Nat.le_of_ble_eq_true rfl, Nat.le_of_ble_eq_true rfl⟩ (ci := 4) (q0 := 0) rfl rfl hl.1 (Nat.le_of_ble_eq_true rfl) dL_law_613 ⟨hcc, hss⟩) hP hD hS [0, 1, 8, 2] rfl (fun _ => (had_cons rfl (had_cons rfl (had_cons cell_ad (had_cons hw_ad rfl))))) (Bs' := fun u9 => [[gObj ag ah az ak i0], hillsW E ah r, hillsW E az u9, hillsW E ak k, shO E ag z u, shN E ag y, [rdO ag (nI len) (nI ys) (nI yb) (nI ye) (nI yv)], [(ag 3, .inl (E.2.2.1, 120, .inl (sg tb 120)))], [(ag 4, .inl (E.2.1, 7, .inl (sg (fndC f (rHours r (xs (i + 1)) (xs (i + 2)) (xs (i + 3)))) 7)))], [mObj am q], [(am 1, .inl (E.2.1, 77, .inl (sg r2 77)))], [(am 2, .inl (E.2.1, 77, .inl (sg k2 77)))], [(am 3, .inl (E.2.1, 77, .inl (sg x2 77)))], [(am 4, .inl (E.2.1, 8, .inl (sg f2 8)))], [(am 5, .inl (E.2.1, 120, .inl (sg tp 120)))], [(am 6, .inl (E.2.2.2.2.2, 7, .inr (.inr (.inr (.inr (fun j => some (aS (12 + j))))))))], [(am 7, .inl (E.2.1, 480, .inl (sg it 480)))], [(am 8, .inl (E.2.1, 4, .inl (sg z 4)))], [(am 9, .inl (E.2.1, 4, .inl (sg u 4)))], [(am 10, .inl (E.2.1, 160, .inl (sg y 160)))], [(am 11, .inl (E.2.1, 40, .inl (sg mv 40)))]]) (fun _ => rfl) (fun u_1 H locs hP hD hS => ?_)
  refine lv_aload_n S.1 S.2.1 dL_law_616 rfl (lv_at hl 2 rfl) ?_
  refine lv_aload_n S.1 S.2.1 dL_law_617 rfl (lv_at hl 0 rfl) ?_
  refine lv_iload_n S.1 S.2.1 dL_law_618 rfl (lv_at hl 3 rfl) ?_
  refine lv_iconst (v := 1) S.1 S.2.1 dL_law_619 (by decide) ?_
  refine lv_iadd S.1 S.2.1 dL_law_620 ?_
  refine lv_eqi (y := nI (i + 1)) (nI_add i 1) ?_
  refine b_sld (j := i + 1) S.1 S.2.1 hXs hbl hbA hS (by omega) (by omega) dL_law_621 ?_
  refine lv_aload_n S.1 S.2.1 dL_law_622 rfl (lv_at hl 0 rfl) ?_
  refine lv_iload_n S.1 S.2.1 dL_law_623 rfl (lv_at hl 3 rfl) ?_
  refine lv_iconst (v := 2) S.1 S.2.1 dL_law_624 (by decide) ?_
  refine lv_iadd S.1 S.2.1 dL_law_625 ?_
  refine lv_eqi (y := nI (i + 2)) (nI_add i 2) ?_
  refine b_sld (j := i + 2) S.1 S.2.1 hXs hbl hbA hS (by omega) (by omega) dL_law_626 ?_
  refine lv_aload_n S.1 S.2.1 dL_law_627 rfl (lv_at hl 0 rfl) ?_
  refine lv_iload_n S.1 S.2.1 dL_law_628 rfl (lv_at hl 3 rfl) ?_
  refine lv_iconst (v := 3) S.1 S.2.1 dL_law_629 (by decide) ?_
  refine lv_iadd S.1 S.2.1 dL_law_630 ?_
  refine lv_eqi (y := nI (i + 3)) (nI_add i 3) ?_
  refine b_sld (j := i + 3) S.1 S.2.1 hXs hbl hbA hS (by omega) (by omega) dL_law_631 ?_
  refine go_Ix (run_V (As := [.int (xs (i + 1)), .int (xs (i + 2)), .int (xs (i + 3))]) (rest := [.int (ansR (rHours r (xs (i + 1)) (xs (i + 2)) (xs (i + 3))))]) (n := 3) S hK (bl_P hP [9, 10, 13, 12] rfl) (bl_D hD [9, 10, 13, 12] rfl rfl) (c_X5_hoursFor l E am q r2 f2 x2 (xs (i + 1)) (xs (i + 2)) (xs (i + 3)) hR2) gV_L_71 (by decide +kernel) rfl ⟨rfl, rfl⟩ ⟨Nat.le_of_ble_eq_true rfl, Nat.le_of_ble_eq_true rfl⟩ (ci := 5) (q0 := 0) rfl rfl hl.1 (Nat.le_of_ble_eq_true rfl) dL_law_632 ⟨hcc, hss⟩) hP hD hS [9, 10, 13, 12] rfl (fun _ => (had_cons rfl (had_cons rfl (had_cons cell_ad (had_cons cell_ad rfl))))) (Bs' := fun u9 => [[gObj ag ah az ak i0], hillsW E ah r, hillsW E az u_1, hillsW E ak k, shO E ag z u, shN E ag y, [rdO ag (nI len) (nI ys) (nI yb) (nI ye) (nI yv)], [(ag 3, .inl (E.2.2.1, 120, .inl (sg tb 120)))], [(ag 4, .inl (E.2.1, 7, .inl (sg (fndC f (rHours r (xs (i + 1)) (xs (i + 2)) (xs (i + 3)))) 7)))], [mObj am q], [(am 1, .inl (E.2.1, 77, .inl (sg r2 77)))], [(am 2, .inl (E.2.1, 77, .inl (sg k2 77)))], [(am 3, .inl (E.2.1, 77, .inl (sg u9 77)))], [(am 4, .inl (E.2.1, 8, .inl (sg (fndM f2 (rHours r2 (xs (i + 1)) (xs (i + 2)) (xs (i + 3)))) 8)))], [(am 5, .inl (E.2.1, 120, .inl (sg tp 120)))], [(am 6, .inl (E.2.2.2.2.2, 7, .inr (.inr (.inr (.inr (fun j => some (aS (12 + j))))))))], [(am 7, .inl (E.2.1, 480, .inl (sg it 480)))], [(am 8, .inl (E.2.1, 4, .inl (sg z 4)))], [(am 9, .inl (E.2.1, 4, .inl (sg u 4)))], [(am 10, .inl (E.2.1, 160, .inl (sg y 160)))], [(am 11, .inl (E.2.1, 40, .inl (sg mv 40)))]]) (fun _ => rfl) (fun u_2 H locs hP hD hS => ?_)
  refine lv_icmp_eq (tgt := 1399) S.1 S.2.1 dL_law_635 (by decide) (fun _ => ?_) (fun h => absurd (RR_ans (rr_hours hev hR (xs (i + 1)) (xs (i + 2)) (xs (i + 3)))) h)
  exact kk i0 r u_1 k z u y tb (fndC f (rHours r (xs (i + 1)) (xs (i + 2)) (xs (i + 3)))) len (yb, ye, ys, yv) q r2 k2 u_2 (fndM f2 (rHours r2 (xs (i + 1)) (xs (i + 2)) (xs (i + 3)))) tp it mv H locs ls (inv_ans hI (rr_hours hev hR (xs (i + 1)) (xs (i + 2)) (xs (i + 3))) rfl rfl) hP hD hS (lv_sub hl [0, 1, 2, 3] rfl)
set_option maxHeartbeats 1600000 in
set_option maxRecDepth 100000 in
theorem law_14 (S : CallFix p m c code 4 s #[Value.ref b] (c0 :: GW) RL) (hK : KE E s) (hX : EX aS A s s.heap) (hXs : va_X b L xs s s.heap) (hbl : b < s.heap.size) (hbA : ¬ A b) (hcc : cells ≤ room_1.cells) (hss : slots ≤ room_1.slots) (hL : L ≤ 3072) (i0 : Int32) (r x k z u y tb f : Row) (len : Nat) (Y : Ys) (q r2 k2 x2 f2 tp it mv : Row) (hI : Inv i0 r k u tb f len q r2 k2 f2 tp) (hP : PE E (LW E aS ag ah az ak am i0 r x k z u y tb f len Y q r2 k2 x2 f2 tp it mv) H) (hD : DE A (LW E aS ag ah az ak am i0 r x k z u y tb f len Y q r2 k2 x2 f2 tp it mv)) (hS : va_S A s.heap H locs) {i : Nat} (hi : i + 6 ≤ L) {ls : Array Slot} (hl : lv_has ls 4 [(0, .ref b), (1, .ref (ag 0)), (2, .ref (am 0)), (3, .int (nI i))]) (kk : KK p l e s m below meth c b E aS ag ah az ak am A cells slots Q i) : W p l e room_1 s m #[Value.ref b] below meth c H locs cells slots Q (F0 m 640 ls []) := by
  obtain ⟨yb, ye, ys, yv⟩ := Y
  have hev := hI.1
  have hR := hI.2.1
  have hR2 := RI_ev hev hR
  have hRk := hI.2.2.1
  have hU := hI.2.2.2.2.2.1
  have hl9 := hI.2.2.2.2.2.2.1
  have hq3 := hI.2.2.2.2.2.2.2.1
  have hT := hI.2.2.2.2.2.2.2.2.1
  have hP : PE E [[gObj ag ah az ak i0], hillsW E ah r, hillsW E az x, hillsW E ak k, shO E ag z u, shN E ag y, [rdO ag (nI len) (nI ys) (nI yb) (nI ye) (nI yv)], [(ag 3, .inl (E.2.2.1, 120, .inl (sg tb 120)))], [(ag 4, .inl (E.2.1, 7, .inl (sg f 7)))], [mObj am q], [(am 1, .inl (E.2.1, 77, .inl (sg r2 77)))], [(am 2, .inl (E.2.1, 77, .inl (sg k2 77)))], [(am 3, .inl (E.2.1, 77, .inl (sg x2 77)))], [(am 4, .inl (E.2.1, 8, .inl (sg f2 8)))], [(am 5, .inl (E.2.1, 120, .inl (sg tp 120)))], [(am 6, .inl (E.2.2.2.2.2, 7, .inr (.inr (.inr (.inr (fun j => some (aS (12 + j))))))))], [(am 7, .inl (E.2.1, 480, .inl (sg it 480)))], [(am 8, .inl (E.2.1, 4, .inl (sg z 4)))], [(am 9, .inl (E.2.1, 4, .inl (sg u 4)))], [(am 10, .inl (E.2.1, 160, .inl (sg y 160)))], [(am 11, .inl (E.2.1, 40, .inl (sg mv 40)))]] H := hP
  have hD : DE A [[gObj ag ah az ak i0], hillsW E ah r, hillsW E az x, hillsW E ak k, shO E ag z u, shN E ag y, [rdO ag (nI len) (nI ys) (nI yb) (nI ye) (nI yv)], [(ag 3, .inl (E.2.2.1, 120, .inl (sg tb 120)))], [(ag 4, .inl (E.2.1, 7, .inl (sg f 7)))], [mObj am q], [(am 1, .inl (E.2.1, 77, .inl (sg r2 77)))], [(am 2, .inl (E.2.1, 77, .inl (sg k2 77)))], [(am 3, .inl (E.2.1, 77, .inl (sg x2 77)))], [(am 4, .inl (E.2.1, 8, .inl (sg f2 8)))], [(am 5, .inl (E.2.1, 120, .inl (sg tp 120)))], [(am 6, .inl (E.2.2.2.2.2, 7, .inr (.inr (.inr (.inr (fun j => some (aS (12 + j))))))))], [(am 7, .inl (E.2.1, 480, .inl (sg it 480)))], [(am 8, .inl (E.2.1, 4, .inl (sg z 4)))], [(am 9, .inl (E.2.1, 4, .inl (sg u 4)))], [(am 10, .inl (E.2.1, 160, .inl (sg y 160)))], [(am 11, .inl (E.2.1, 40, .inl (sg mv 40)))]] := hD
  refine lv_aload_n S.1 S.2.1 dL_law_640 rfl (lv_at hl 1 rfl) ?_
  refine lv_aload_n S.1 S.2.1 dL_law_641 rfl (lv_at hl 0 rfl) ?_
  refine lv_iload_n S.1 S.2.1 dL_law_642 rfl (lv_at hl 3 rfl) ?_
  refine lv_iconst (v := 1) S.1 S.2.1 dL_law_643 (by decide) ?_
  refine lv_iadd S.1 S.2.1 dL_law_644 ?_
  refine lv_eqi (y := nI (i + 1)) (nI_add i 1) ?_
  refine b_sld (j := i + 1) S.1 S.2.1 hXs hbl hbA hS (by omega) (by omega) dL_law_645 ?_
  refine lv_aload_n S.1 S.2.1 dL_law_646 rfl (lv_at hl 0 rfl) ?_
  refine lv_iload_n S.1 S.2.1 dL_law_647 rfl (lv_at hl 3 rfl) ?_
  refine lv_iconst (v := 2) S.1 S.2.1 dL_law_648 (by decide) ?_
  refine lv_iadd S.1 S.2.1 dL_law_649 ?_
  refine lv_eqi (y := nI (i + 2)) (nI_add i 2) ?_
  refine b_sld (j := i + 2) S.1 S.2.1 hXs hbl hbA hS (by omega) (by omega) dL_law_650 ?_
  refine go_Ix (run_V (As := [.int (xs (i + 1)), .int (xs (i + 2))]) (rest := []) (n := 2) S hK (bl_P hP [0, 1, 8, 2] rfl) (bl_D hD [0, 1, 8, 2] rfl rfl) (c_X4_kindFor l E ag ah az ak i0 r f x (xs (i + 1)) (xs (i + 2)) hR) gV_L_72 (by decide +kernel) rfl ⟨rfl, rfl⟩ ⟨Nat.le_of_ble_eq_true rfl, Nat.le_of_ble_eq_true rfl⟩ (ci := 4) (q0 := 0) rfl rfl hl.1 (Nat.le_of_ble_eq_true rfl) dL_law_651 ⟨hcc, hss⟩) hP hD hS [0, 1, 8, 2] rfl (fun _ => (had_cons rfl (had_cons rfl (had_cons cell_ad (had_cons hw_ad rfl))))) (Bs' := fun u9 => [[gObj ag ah az ak i0], hillsW E ah r, hillsW E az u9, hillsW E ak k, shO E ag z u, shN E ag y, [rdO ag (nI len) (nI ys) (nI yb) (nI ye) (nI yv)], [(ag 3, .inl (E.2.2.1, 120, .inl (sg tb 120)))], [(ag 4, .inl (E.2.1, 7, .inl (sg (fndC f (rKindFor r (xs (i + 1)) (xs (i + 2)))) 7)))], [mObj am q], [(am 1, .inl (E.2.1, 77, .inl (sg r2 77)))], [(am 2, .inl (E.2.1, 77, .inl (sg k2 77)))], [(am 3, .inl (E.2.1, 77, .inl (sg x2 77)))], [(am 4, .inl (E.2.1, 8, .inl (sg f2 8)))], [(am 5, .inl (E.2.1, 120, .inl (sg tp 120)))], [(am 6, .inl (E.2.2.2.2.2, 7, .inr (.inr (.inr (.inr (fun j => some (aS (12 + j))))))))], [(am 7, .inl (E.2.1, 480, .inl (sg it 480)))], [(am 8, .inl (E.2.1, 4, .inl (sg z 4)))], [(am 9, .inl (E.2.1, 4, .inl (sg u 4)))], [(am 10, .inl (E.2.1, 160, .inl (sg y 160)))], [(am 11, .inl (E.2.1, 40, .inl (sg mv 40)))]]) (fun _ => rfl) (fun u_1 H locs hP hD hS => ?_)
  refine lv_aload_n S.1 S.2.1 dL_law_654 rfl (lv_at hl 2 rfl) ?_
  refine lv_aload_n S.1 S.2.1 dL_law_655 rfl (lv_at hl 0 rfl) ?_
  refine lv_iload_n S.1 S.2.1 dL_law_656 rfl (lv_at hl 3 rfl) ?_
  refine lv_iconst (v := 1) S.1 S.2.1 dL_law_657 (by decide) ?_
  refine lv_iadd S.1 S.2.1 dL_law_658 ?_
  refine lv_eqi (y := nI (i + 1)) (nI_add i 1) ?_
  refine b_sld (j := i + 1) S.1 S.2.1 hXs hbl hbA hS (by omega) (by omega) dL_law_659 ?_
  refine lv_aload_n S.1 S.2.1 dL_law_660 rfl (lv_at hl 0 rfl) ?_
  refine lv_iload_n S.1 S.2.1 dL_law_661 rfl (lv_at hl 3 rfl) ?_
  refine lv_iconst (v := 2) S.1 S.2.1 dL_law_662 (by decide) ?_
  refine lv_iadd S.1 S.2.1 dL_law_663 ?_
  refine lv_eqi (y := nI (i + 2)) (nI_add i 2) ?_
  refine b_sld (j := i + 2) S.1 S.2.1 hXs hbl hbA hS (by omega) (by omega) dL_law_664 ?_
  refine go_Ix (run_V (As := [.int (xs (i + 1)), .int (xs (i + 2))]) (rest := [.int (ansR (rKindFor r (xs (i + 1)) (xs (i + 2))))]) (n := 2) S hK (bl_P hP [9, 10, 13, 12] rfl) (bl_D hD [9, 10, 13, 12] rfl rfl) (c_X5_kindFor l E am q r2 f2 x2 (xs (i + 1)) (xs (i + 2)) hR2) gV_L_75 (by decide +kernel) rfl ⟨rfl, rfl⟩ ⟨Nat.le_of_ble_eq_true rfl, Nat.le_of_ble_eq_true rfl⟩ (ci := 5) (q0 := 0) rfl rfl hl.1 (Nat.le_of_ble_eq_true rfl) dL_law_665 ⟨hcc, hss⟩) hP hD hS [9, 10, 13, 12] rfl (fun _ => (had_cons rfl (had_cons rfl (had_cons cell_ad (had_cons cell_ad rfl))))) (Bs' := fun u9 => [[gObj ag ah az ak i0], hillsW E ah r, hillsW E az u_1, hillsW E ak k, shO E ag z u, shN E ag y, [rdO ag (nI len) (nI ys) (nI yb) (nI ye) (nI yv)], [(ag 3, .inl (E.2.2.1, 120, .inl (sg tb 120)))], [(ag 4, .inl (E.2.1, 7, .inl (sg (fndC f (rKindFor r (xs (i + 1)) (xs (i + 2)))) 7)))], [mObj am q], [(am 1, .inl (E.2.1, 77, .inl (sg r2 77)))], [(am 2, .inl (E.2.1, 77, .inl (sg k2 77)))], [(am 3, .inl (E.2.1, 77, .inl (sg u9 77)))], [(am 4, .inl (E.2.1, 8, .inl (sg (fndM f2 (rKindFor r2 (xs (i + 1)) (xs (i + 2)))) 8)))], [(am 5, .inl (E.2.1, 120, .inl (sg tp 120)))], [(am 6, .inl (E.2.2.2.2.2, 7, .inr (.inr (.inr (.inr (fun j => some (aS (12 + j))))))))], [(am 7, .inl (E.2.1, 480, .inl (sg it 480)))], [(am 8, .inl (E.2.1, 4, .inl (sg z 4)))], [(am 9, .inl (E.2.1, 4, .inl (sg u 4)))], [(am 10, .inl (E.2.1, 160, .inl (sg y 160)))], [(am 11, .inl (E.2.1, 40, .inl (sg mv 40)))]]) (fun _ => rfl) (fun u_2 H locs hP hD hS => ?_)
  refine lv_icmp_eq (tgt := 1399) S.1 S.2.1 dL_law_668 (by decide) (fun _ => ?_) (fun h => absurd (RR_ans (rr_kindFor hev hR (xs (i + 1)) (xs (i + 2)))) h)
  exact kk i0 r u_1 k z u y tb (fndC f (rKindFor r (xs (i + 1)) (xs (i + 2)))) len (yb, ye, ys, yv) q r2 k2 u_2 (fndM f2 (rKindFor r2 (xs (i + 1)) (xs (i + 2)))) tp it mv H locs ls (inv_ans hI (rr_kindFor hev hR (xs (i + 1)) (xs (i + 2))) rfl rfl) hP hD hS (lv_sub hl [0, 1, 2, 3] rfl)
set_option maxHeartbeats 1600000 in
set_option maxRecDepth 100000 in
theorem law_15 (S : CallFix p m c code 4 s #[Value.ref b] (c0 :: GW) RL) (hK : KE E s) (hX : EX aS A s s.heap) (hXs : va_X b L xs s s.heap) (hbl : b < s.heap.size) (hbA : ¬ A b) (hcc : cells ≤ room_1.cells) (hss : slots ≤ room_1.slots) (hL : L ≤ 3072) (i0 : Int32) (r x k z u y tb f : Row) (len : Nat) (Y : Ys) (q r2 k2 x2 f2 tp it mv : Row) (hI : Inv i0 r k u tb f len q r2 k2 f2 tp) (hP : PE E (LW E aS ag ah az ak am i0 r x k z u y tb f len Y q r2 k2 x2 f2 tp it mv) H) (hD : DE A (LW E aS ag ah az ak am i0 r x k z u y tb f len Y q r2 k2 x2 f2 tp it mv)) (hS : va_S A s.heap H locs) {i : Nat} (hi : i + 6 ≤ L) {ls : Array Slot} (hl : lv_has ls 4 [(0, .ref b), (1, .ref (ag 0)), (2, .ref (am 0)), (3, .int (nI i))]) (kk : KK p l e s m below meth c b E aS ag ah az ak am A cells slots Q i) : W p l e room_1 s m #[Value.ref b] below meth c H locs cells slots Q (F0 m 673 ls []) := by
  obtain ⟨yb, ye, ys, yv⟩ := Y
  have hev := hI.1
  have hR := hI.2.1
  have hR2 := RI_ev hev hR
  have hRk := hI.2.2.1
  have hU := hI.2.2.2.2.2.1
  have hl9 := hI.2.2.2.2.2.2.1
  have hq3 := hI.2.2.2.2.2.2.2.1
  have hT := hI.2.2.2.2.2.2.2.2.1
  have hP : PE E [[gObj ag ah az ak i0], hillsW E ah r, hillsW E az x, hillsW E ak k, shO E ag z u, shN E ag y, [rdO ag (nI len) (nI ys) (nI yb) (nI ye) (nI yv)], [(ag 3, .inl (E.2.2.1, 120, .inl (sg tb 120)))], [(ag 4, .inl (E.2.1, 7, .inl (sg f 7)))], [mObj am q], [(am 1, .inl (E.2.1, 77, .inl (sg r2 77)))], [(am 2, .inl (E.2.1, 77, .inl (sg k2 77)))], [(am 3, .inl (E.2.1, 77, .inl (sg x2 77)))], [(am 4, .inl (E.2.1, 8, .inl (sg f2 8)))], [(am 5, .inl (E.2.1, 120, .inl (sg tp 120)))], [(am 6, .inl (E.2.2.2.2.2, 7, .inr (.inr (.inr (.inr (fun j => some (aS (12 + j))))))))], [(am 7, .inl (E.2.1, 480, .inl (sg it 480)))], [(am 8, .inl (E.2.1, 4, .inl (sg z 4)))], [(am 9, .inl (E.2.1, 4, .inl (sg u 4)))], [(am 10, .inl (E.2.1, 160, .inl (sg y 160)))], [(am 11, .inl (E.2.1, 40, .inl (sg mv 40)))]] H := hP
  have hD : DE A [[gObj ag ah az ak i0], hillsW E ah r, hillsW E az x, hillsW E ak k, shO E ag z u, shN E ag y, [rdO ag (nI len) (nI ys) (nI yb) (nI ye) (nI yv)], [(ag 3, .inl (E.2.2.1, 120, .inl (sg tb 120)))], [(ag 4, .inl (E.2.1, 7, .inl (sg f 7)))], [mObj am q], [(am 1, .inl (E.2.1, 77, .inl (sg r2 77)))], [(am 2, .inl (E.2.1, 77, .inl (sg k2 77)))], [(am 3, .inl (E.2.1, 77, .inl (sg x2 77)))], [(am 4, .inl (E.2.1, 8, .inl (sg f2 8)))], [(am 5, .inl (E.2.1, 120, .inl (sg tp 120)))], [(am 6, .inl (E.2.2.2.2.2, 7, .inr (.inr (.inr (.inr (fun j => some (aS (12 + j))))))))], [(am 7, .inl (E.2.1, 480, .inl (sg it 480)))], [(am 8, .inl (E.2.1, 4, .inl (sg z 4)))], [(am 9, .inl (E.2.1, 4, .inl (sg u 4)))], [(am 10, .inl (E.2.1, 160, .inl (sg y 160)))], [(am 11, .inl (E.2.1, 40, .inl (sg mv 40)))]] := hD
  refine lv_aload_n S.1 S.2.1 dL_law_673 rfl (lv_at hl 1 rfl) ?_
  refine lv_aload_n S.1 S.2.1 dL_law_674 rfl (lv_at hl 0 rfl) ?_
  refine lv_iload_n S.1 S.2.1 dL_law_675 rfl (lv_at hl 3 rfl) ?_
  refine lv_iconst (v := 1) S.1 S.2.1 dL_law_676 (by decide) ?_
  refine lv_iadd S.1 S.2.1 dL_law_677 ?_
  refine lv_eqi (y := nI (i + 1)) (nI_add i 1) ?_
  refine b_sld (j := i + 1) S.1 S.2.1 hXs hbl hbA hS (by omega) (by omega) dL_law_678 ?_
  refine lv_aload_n S.1 S.2.1 dL_law_679 rfl (lv_at hl 0 rfl) ?_
  refine lv_iload_n S.1 S.2.1 dL_law_680 rfl (lv_at hl 3 rfl) ?_
  refine lv_iconst (v := 2) S.1 S.2.1 dL_law_681 (by decide) ?_
  refine lv_iadd S.1 S.2.1 dL_law_682 ?_
  refine lv_eqi (y := nI (i + 2)) (nI_add i 2) ?_
  refine b_sld (j := i + 2) S.1 S.2.1 hXs hbl hbA hS (by omega) (by omega) dL_law_683 ?_
  refine go_Ix (run_V (As := [.int (xs (i + 1)), .int (xs (i + 2))]) (rest := []) (n := 2) S hK (bl_P hP [0, 1, 8, 2] rfl) (bl_D hD [0, 1, 8, 2] rfl rfl) (c_X4_griefFor l E ag ah az ak i0 r f x (xs (i + 1)) (xs (i + 2)) hR) gV_L_76 (by decide +kernel) rfl ⟨rfl, rfl⟩ ⟨Nat.le_of_ble_eq_true rfl, Nat.le_of_ble_eq_true rfl⟩ (ci := 4) (q0 := 0) rfl rfl hl.1 (Nat.le_of_ble_eq_true rfl) dL_law_684 ⟨hcc, hss⟩) hP hD hS [0, 1, 8, 2] rfl (fun _ => (had_cons rfl (had_cons rfl (had_cons cell_ad (had_cons hw_ad rfl))))) (Bs' := fun u9 => [[gObj ag ah az ak i0], hillsW E ah r, hillsW E az u9, hillsW E ak k, shO E ag z u, shN E ag y, [rdO ag (nI len) (nI ys) (nI yb) (nI ye) (nI yv)], [(ag 3, .inl (E.2.2.1, 120, .inl (sg tb 120)))], [(ag 4, .inl (E.2.1, 7, .inl (sg (fndC f (rGriefFor r (xs (i + 1)) (xs (i + 2)))) 7)))], [mObj am q], [(am 1, .inl (E.2.1, 77, .inl (sg r2 77)))], [(am 2, .inl (E.2.1, 77, .inl (sg k2 77)))], [(am 3, .inl (E.2.1, 77, .inl (sg x2 77)))], [(am 4, .inl (E.2.1, 8, .inl (sg f2 8)))], [(am 5, .inl (E.2.1, 120, .inl (sg tp 120)))], [(am 6, .inl (E.2.2.2.2.2, 7, .inr (.inr (.inr (.inr (fun j => some (aS (12 + j))))))))], [(am 7, .inl (E.2.1, 480, .inl (sg it 480)))], [(am 8, .inl (E.2.1, 4, .inl (sg z 4)))], [(am 9, .inl (E.2.1, 4, .inl (sg u 4)))], [(am 10, .inl (E.2.1, 160, .inl (sg y 160)))], [(am 11, .inl (E.2.1, 40, .inl (sg mv 40)))]]) (fun _ => rfl) (fun u_1 H locs hP hD hS => ?_)
  refine lv_aload_n S.1 S.2.1 dL_law_687 rfl (lv_at hl 2 rfl) ?_
  refine lv_aload_n S.1 S.2.1 dL_law_688 rfl (lv_at hl 0 rfl) ?_
  refine lv_iload_n S.1 S.2.1 dL_law_689 rfl (lv_at hl 3 rfl) ?_
  refine lv_iconst (v := 1) S.1 S.2.1 dL_law_690 (by decide) ?_
  refine lv_iadd S.1 S.2.1 dL_law_691 ?_
  refine lv_eqi (y := nI (i + 1)) (nI_add i 1) ?_
  refine b_sld (j := i + 1) S.1 S.2.1 hXs hbl hbA hS (by omega) (by omega) dL_law_692 ?_
  refine lv_aload_n S.1 S.2.1 dL_law_693 rfl (lv_at hl 0 rfl) ?_
  refine lv_iload_n S.1 S.2.1 dL_law_694 rfl (lv_at hl 3 rfl) ?_
  refine lv_iconst (v := 2) S.1 S.2.1 dL_law_695 (by decide) ?_
  refine lv_iadd S.1 S.2.1 dL_law_696 ?_
  refine lv_eqi (y := nI (i + 2)) (nI_add i 2) ?_
  refine b_sld (j := i + 2) S.1 S.2.1 hXs hbl hbA hS (by omega) (by omega) dL_law_697 ?_
  refine go_Ix (run_V (As := [.int (xs (i + 1)), .int (xs (i + 2))]) (rest := [.int (ansR (rGriefFor r (xs (i + 1)) (xs (i + 2))))]) (n := 2) S hK (bl_P hP [9, 10, 13, 12] rfl) (bl_D hD [9, 10, 13, 12] rfl rfl) (c_X5_griefFor l E am q r2 f2 x2 (xs (i + 1)) (xs (i + 2)) hR2) gV_L_79 (by decide +kernel) rfl ⟨rfl, rfl⟩ ⟨Nat.le_of_ble_eq_true rfl, Nat.le_of_ble_eq_true rfl⟩ (ci := 5) (q0 := 0) rfl rfl hl.1 (Nat.le_of_ble_eq_true rfl) dL_law_698 ⟨hcc, hss⟩) hP hD hS [9, 10, 13, 12] rfl (fun _ => (had_cons rfl (had_cons rfl (had_cons cell_ad (had_cons cell_ad rfl))))) (Bs' := fun u9 => [[gObj ag ah az ak i0], hillsW E ah r, hillsW E az u_1, hillsW E ak k, shO E ag z u, shN E ag y, [rdO ag (nI len) (nI ys) (nI yb) (nI ye) (nI yv)], [(ag 3, .inl (E.2.2.1, 120, .inl (sg tb 120)))], [(ag 4, .inl (E.2.1, 7, .inl (sg (fndC f (rGriefFor r (xs (i + 1)) (xs (i + 2)))) 7)))], [mObj am q], [(am 1, .inl (E.2.1, 77, .inl (sg r2 77)))], [(am 2, .inl (E.2.1, 77, .inl (sg k2 77)))], [(am 3, .inl (E.2.1, 77, .inl (sg u9 77)))], [(am 4, .inl (E.2.1, 8, .inl (sg (fndM f2 (rGriefFor r2 (xs (i + 1)) (xs (i + 2)))) 8)))], [(am 5, .inl (E.2.1, 120, .inl (sg tp 120)))], [(am 6, .inl (E.2.2.2.2.2, 7, .inr (.inr (.inr (.inr (fun j => some (aS (12 + j))))))))], [(am 7, .inl (E.2.1, 480, .inl (sg it 480)))], [(am 8, .inl (E.2.1, 4, .inl (sg z 4)))], [(am 9, .inl (E.2.1, 4, .inl (sg u 4)))], [(am 10, .inl (E.2.1, 160, .inl (sg y 160)))], [(am 11, .inl (E.2.1, 40, .inl (sg mv 40)))]]) (fun _ => rfl) (fun u_2 H locs hP hD hS => ?_)
  refine lv_icmp_eq (tgt := 1399) S.1 S.2.1 dL_law_701 (by decide) (fun _ => ?_) (fun h => absurd (RR_ans (rr_griefFor hev hR (xs (i + 1)) (xs (i + 2)))) h)
  exact kk i0 r u_1 k z u y tb (fndC f (rGriefFor r (xs (i + 1)) (xs (i + 2)))) len (yb, ye, ys, yv) q r2 k2 u_2 (fndM f2 (rGriefFor r2 (xs (i + 1)) (xs (i + 2)))) tp it mv H locs ls (inv_ans hI (rr_griefFor hev hR (xs (i + 1)) (xs (i + 2))) rfl rfl) hP hD hS (lv_sub hl [0, 1, 2, 3] rfl)
set_option maxHeartbeats 1600000 in
set_option maxRecDepth 100000 in
theorem law_16 (S : CallFix p m c code 4 s #[Value.ref b] (c0 :: GW) RL) (hK : KE E s) (hX : EX aS A s s.heap) (hXs : va_X b L xs s s.heap) (hbl : b < s.heap.size) (hbA : ¬ A b) (hcc : cells ≤ room_1.cells) (hss : slots ≤ room_1.slots) (hL : L ≤ 3072) (i0 : Int32) (r x k z u y tb f : Row) (len : Nat) (Y : Ys) (q r2 k2 x2 f2 tp it mv : Row) (hI : Inv i0 r k u tb f len q r2 k2 f2 tp) (hP : PE E (LW E aS ag ah az ak am i0 r x k z u y tb f len Y q r2 k2 x2 f2 tp it mv) H) (hD : DE A (LW E aS ag ah az ak am i0 r x k z u y tb f len Y q r2 k2 x2 f2 tp it mv)) (hS : va_S A s.heap H locs) {i : Nat} (hi : i + 6 ≤ L) {ls : Array Slot} (hl : lv_has ls 4 [(0, .ref b), (1, .ref (ag 0)), (2, .ref (am 0)), (3, .int (nI i))]) (kk : KK p l e s m below meth c b E aS ag ah az ak am A cells slots Q i) : W p l e room_1 s m #[Value.ref b] below meth c H locs cells slots Q (F0 m 706 ls []) := by
  obtain ⟨yb, ye, ys, yv⟩ := Y
  have hev := hI.1
  have hR := hI.2.1
  have hR2 := RI_ev hev hR
  have hRk := hI.2.2.1
  have hU := hI.2.2.2.2.2.1
  have hl9 := hI.2.2.2.2.2.2.1
  have hq3 := hI.2.2.2.2.2.2.2.1
  have hT := hI.2.2.2.2.2.2.2.2.1
  have hP : PE E [[gObj ag ah az ak i0], hillsW E ah r, hillsW E az x, hillsW E ak k, shO E ag z u, shN E ag y, [rdO ag (nI len) (nI ys) (nI yb) (nI ye) (nI yv)], [(ag 3, .inl (E.2.2.1, 120, .inl (sg tb 120)))], [(ag 4, .inl (E.2.1, 7, .inl (sg f 7)))], [mObj am q], [(am 1, .inl (E.2.1, 77, .inl (sg r2 77)))], [(am 2, .inl (E.2.1, 77, .inl (sg k2 77)))], [(am 3, .inl (E.2.1, 77, .inl (sg x2 77)))], [(am 4, .inl (E.2.1, 8, .inl (sg f2 8)))], [(am 5, .inl (E.2.1, 120, .inl (sg tp 120)))], [(am 6, .inl (E.2.2.2.2.2, 7, .inr (.inr (.inr (.inr (fun j => some (aS (12 + j))))))))], [(am 7, .inl (E.2.1, 480, .inl (sg it 480)))], [(am 8, .inl (E.2.1, 4, .inl (sg z 4)))], [(am 9, .inl (E.2.1, 4, .inl (sg u 4)))], [(am 10, .inl (E.2.1, 160, .inl (sg y 160)))], [(am 11, .inl (E.2.1, 40, .inl (sg mv 40)))]] H := hP
  have hD : DE A [[gObj ag ah az ak i0], hillsW E ah r, hillsW E az x, hillsW E ak k, shO E ag z u, shN E ag y, [rdO ag (nI len) (nI ys) (nI yb) (nI ye) (nI yv)], [(ag 3, .inl (E.2.2.1, 120, .inl (sg tb 120)))], [(ag 4, .inl (E.2.1, 7, .inl (sg f 7)))], [mObj am q], [(am 1, .inl (E.2.1, 77, .inl (sg r2 77)))], [(am 2, .inl (E.2.1, 77, .inl (sg k2 77)))], [(am 3, .inl (E.2.1, 77, .inl (sg x2 77)))], [(am 4, .inl (E.2.1, 8, .inl (sg f2 8)))], [(am 5, .inl (E.2.1, 120, .inl (sg tp 120)))], [(am 6, .inl (E.2.2.2.2.2, 7, .inr (.inr (.inr (.inr (fun j => some (aS (12 + j))))))))], [(am 7, .inl (E.2.1, 480, .inl (sg it 480)))], [(am 8, .inl (E.2.1, 4, .inl (sg z 4)))], [(am 9, .inl (E.2.1, 4, .inl (sg u 4)))], [(am 10, .inl (E.2.1, 160, .inl (sg y 160)))], [(am 11, .inl (E.2.1, 40, .inl (sg mv 40)))]] := hD
  refine lv_aload_n S.1 S.2.1 dL_law_706 rfl (lv_at hl 1 rfl) ?_
  refine lv_aload_n S.1 S.2.1 dL_law_707 rfl (lv_at hl 0 rfl) ?_
  refine lv_iload_n S.1 S.2.1 dL_law_708 rfl (lv_at hl 3 rfl) ?_
  refine lv_iconst (v := 1) S.1 S.2.1 dL_law_709 (by decide) ?_
  refine lv_iadd S.1 S.2.1 dL_law_710 ?_
  refine lv_eqi (y := nI (i + 1)) (nI_add i 1) ?_
  refine b_sld (j := i + 1) S.1 S.2.1 hXs hbl hbA hS (by omega) (by omega) dL_law_711 ?_
  refine lv_aload_n S.1 S.2.1 dL_law_712 rfl (lv_at hl 0 rfl) ?_
  refine lv_iload_n S.1 S.2.1 dL_law_713 rfl (lv_at hl 3 rfl) ?_
  refine lv_iconst (v := 2) S.1 S.2.1 dL_law_714 (by decide) ?_
  refine lv_iadd S.1 S.2.1 dL_law_715 ?_
  refine lv_eqi (y := nI (i + 2)) (nI_add i 2) ?_
  refine b_sld (j := i + 2) S.1 S.2.1 hXs hbl hbA hS (by omega) (by omega) dL_law_716 ?_
  refine go_Ix (run_V (As := [.int (xs (i + 1)), .int (xs (i + 2))]) (rest := []) (n := 2) S hK (bl_P hP [0, 1, 8, 2] rfl) (bl_D hD [0, 1, 8, 2] rfl rfl) (c_X4_weatherFor l E ag ah az ak i0 r f x (xs (i + 1)) (xs (i + 2)) hR) gV_L_80 (by decide +kernel) rfl ⟨rfl, rfl⟩ ⟨Nat.le_of_ble_eq_true rfl, Nat.le_of_ble_eq_true rfl⟩ (ci := 4) (q0 := 0) rfl rfl hl.1 (Nat.le_of_ble_eq_true rfl) dL_law_717 ⟨hcc, hss⟩) hP hD hS [0, 1, 8, 2] rfl (fun _ => (had_cons rfl (had_cons rfl (had_cons cell_ad (had_cons hw_ad rfl))))) (Bs' := fun u9 => [[gObj ag ah az ak i0], hillsW E ah r, hillsW E az u9, hillsW E ak k, shO E ag z u, shN E ag y, [rdO ag (nI len) (nI ys) (nI yb) (nI ye) (nI yv)], [(ag 3, .inl (E.2.2.1, 120, .inl (sg tb 120)))], [(ag 4, .inl (E.2.1, 7, .inl (sg (fndC f (rWeatherFor r (xs (i + 1)) (xs (i + 2)))) 7)))], [mObj am q], [(am 1, .inl (E.2.1, 77, .inl (sg r2 77)))], [(am 2, .inl (E.2.1, 77, .inl (sg k2 77)))], [(am 3, .inl (E.2.1, 77, .inl (sg x2 77)))], [(am 4, .inl (E.2.1, 8, .inl (sg f2 8)))], [(am 5, .inl (E.2.1, 120, .inl (sg tp 120)))], [(am 6, .inl (E.2.2.2.2.2, 7, .inr (.inr (.inr (.inr (fun j => some (aS (12 + j))))))))], [(am 7, .inl (E.2.1, 480, .inl (sg it 480)))], [(am 8, .inl (E.2.1, 4, .inl (sg z 4)))], [(am 9, .inl (E.2.1, 4, .inl (sg u 4)))], [(am 10, .inl (E.2.1, 160, .inl (sg y 160)))], [(am 11, .inl (E.2.1, 40, .inl (sg mv 40)))]]) (fun _ => rfl) (fun u_1 H locs hP hD hS => ?_)
  refine lv_aload_n S.1 S.2.1 dL_law_720 rfl (lv_at hl 2 rfl) ?_
  refine lv_aload_n S.1 S.2.1 dL_law_721 rfl (lv_at hl 0 rfl) ?_
  refine lv_iload_n S.1 S.2.1 dL_law_722 rfl (lv_at hl 3 rfl) ?_
  refine lv_iconst (v := 1) S.1 S.2.1 dL_law_723 (by decide) ?_
  refine lv_iadd S.1 S.2.1 dL_law_724 ?_
  refine lv_eqi (y := nI (i + 1)) (nI_add i 1) ?_
  refine b_sld (j := i + 1) S.1 S.2.1 hXs hbl hbA hS (by omega) (by omega) dL_law_725 ?_
  refine lv_aload_n S.1 S.2.1 dL_law_726 rfl (lv_at hl 0 rfl) ?_
  refine lv_iload_n S.1 S.2.1 dL_law_727 rfl (lv_at hl 3 rfl) ?_
  refine lv_iconst (v := 2) S.1 S.2.1 dL_law_728 (by decide) ?_
  refine lv_iadd S.1 S.2.1 dL_law_729 ?_
  refine lv_eqi (y := nI (i + 2)) (nI_add i 2) ?_
  refine b_sld (j := i + 2) S.1 S.2.1 hXs hbl hbA hS (by omega) (by omega) dL_law_730 ?_
  refine go_Ix (run_V (As := [.int (xs (i + 1)), .int (xs (i + 2))]) (rest := [.int (ansR (rWeatherFor r (xs (i + 1)) (xs (i + 2))))]) (n := 2) S hK (bl_P hP [9, 10, 13, 12] rfl) (bl_D hD [9, 10, 13, 12] rfl rfl) (c_X5_weatherFor l E am q r2 f2 x2 (xs (i + 1)) (xs (i + 2)) hR2) gV_L_83 (by decide +kernel) rfl ⟨rfl, rfl⟩ ⟨Nat.le_of_ble_eq_true rfl, Nat.le_of_ble_eq_true rfl⟩ (ci := 5) (q0 := 0) rfl rfl hl.1 (Nat.le_of_ble_eq_true rfl) dL_law_731 ⟨hcc, hss⟩) hP hD hS [9, 10, 13, 12] rfl (fun _ => (had_cons rfl (had_cons rfl (had_cons cell_ad (had_cons cell_ad rfl))))) (Bs' := fun u9 => [[gObj ag ah az ak i0], hillsW E ah r, hillsW E az u_1, hillsW E ak k, shO E ag z u, shN E ag y, [rdO ag (nI len) (nI ys) (nI yb) (nI ye) (nI yv)], [(ag 3, .inl (E.2.2.1, 120, .inl (sg tb 120)))], [(ag 4, .inl (E.2.1, 7, .inl (sg (fndC f (rWeatherFor r (xs (i + 1)) (xs (i + 2)))) 7)))], [mObj am q], [(am 1, .inl (E.2.1, 77, .inl (sg r2 77)))], [(am 2, .inl (E.2.1, 77, .inl (sg k2 77)))], [(am 3, .inl (E.2.1, 77, .inl (sg u9 77)))], [(am 4, .inl (E.2.1, 8, .inl (sg (fndM f2 (rWeatherFor r2 (xs (i + 1)) (xs (i + 2)))) 8)))], [(am 5, .inl (E.2.1, 120, .inl (sg tp 120)))], [(am 6, .inl (E.2.2.2.2.2, 7, .inr (.inr (.inr (.inr (fun j => some (aS (12 + j))))))))], [(am 7, .inl (E.2.1, 480, .inl (sg it 480)))], [(am 8, .inl (E.2.1, 4, .inl (sg z 4)))], [(am 9, .inl (E.2.1, 4, .inl (sg u 4)))], [(am 10, .inl (E.2.1, 160, .inl (sg y 160)))], [(am 11, .inl (E.2.1, 40, .inl (sg mv 40)))]]) (fun _ => rfl) (fun u_2 H locs hP hD hS => ?_)
  refine lv_icmp_eq (tgt := 1399) S.1 S.2.1 dL_law_734 (by decide) (fun _ => ?_) (fun h => absurd (RR_ans (rr_weatherFor hev (xs (i + 1)) (xs (i + 2)))) h)
  exact kk i0 r u_1 k z u y tb (fndC f (rWeatherFor r (xs (i + 1)) (xs (i + 2)))) len (yb, ye, ys, yv) q r2 k2 u_2 (fndM f2 (rWeatherFor r2 (xs (i + 1)) (xs (i + 2)))) tp it mv H locs ls (inv_ans hI (rr_weatherFor hev (xs (i + 1)) (xs (i + 2))) rfl rfl) hP hD hS (lv_sub hl [0, 1, 2, 3] rfl)
set_option maxHeartbeats 1600000 in
set_option maxRecDepth 100000 in
theorem law_17 (S : CallFix p m c code 4 s #[Value.ref b] (c0 :: GW) RL) (hK : KE E s) (hX : EX aS A s s.heap) (hXs : va_X b L xs s s.heap) (hbl : b < s.heap.size) (hbA : ¬ A b) (hcc : cells ≤ room_1.cells) (hss : slots ≤ room_1.slots) (hL : L ≤ 3072) (i0 : Int32) (r x k z u y tb f : Row) (len : Nat) (Y : Ys) (q r2 k2 x2 f2 tp it mv : Row) (hI : Inv i0 r k u tb f len q r2 k2 f2 tp) (hP : PE E (LW E aS ag ah az ak am i0 r x k z u y tb f len Y q r2 k2 x2 f2 tp it mv) H) (hD : DE A (LW E aS ag ah az ak am i0 r x k z u y tb f len Y q r2 k2 x2 f2 tp it mv)) (hS : va_S A s.heap H locs) {i : Nat} (hi : i + 6 ≤ L) {ls : Array Slot} (hl : lv_has ls 4 [(0, .ref b), (1, .ref (ag 0)), (2, .ref (am 0)), (3, .int (nI i))]) (kk : KK p l e s m below meth c b E aS ag ah az ak am A cells slots Q i) : W p l e room_1 s m #[Value.ref b] below meth c H locs cells slots Q (F0 m 739 ls []) := by
  obtain ⟨yb, ye, ys, yv⟩ := Y
  have hev := hI.1
  have hR := hI.2.1
  have hR2 := RI_ev hev hR
  have hRk := hI.2.2.1
  have hU := hI.2.2.2.2.2.1
  have hl9 := hI.2.2.2.2.2.2.1
  have hq3 := hI.2.2.2.2.2.2.2.1
  have hT := hI.2.2.2.2.2.2.2.2.1
  have hP : PE E [[gObj ag ah az ak i0], hillsW E ah r, hillsW E az x, hillsW E ak k, shO E ag z u, shN E ag y, [rdO ag (nI len) (nI ys) (nI yb) (nI ye) (nI yv)], [(ag 3, .inl (E.2.2.1, 120, .inl (sg tb 120)))], [(ag 4, .inl (E.2.1, 7, .inl (sg f 7)))], [mObj am q], [(am 1, .inl (E.2.1, 77, .inl (sg r2 77)))], [(am 2, .inl (E.2.1, 77, .inl (sg k2 77)))], [(am 3, .inl (E.2.1, 77, .inl (sg x2 77)))], [(am 4, .inl (E.2.1, 8, .inl (sg f2 8)))], [(am 5, .inl (E.2.1, 120, .inl (sg tp 120)))], [(am 6, .inl (E.2.2.2.2.2, 7, .inr (.inr (.inr (.inr (fun j => some (aS (12 + j))))))))], [(am 7, .inl (E.2.1, 480, .inl (sg it 480)))], [(am 8, .inl (E.2.1, 4, .inl (sg z 4)))], [(am 9, .inl (E.2.1, 4, .inl (sg u 4)))], [(am 10, .inl (E.2.1, 160, .inl (sg y 160)))], [(am 11, .inl (E.2.1, 40, .inl (sg mv 40)))]] H := hP
  have hD : DE A [[gObj ag ah az ak i0], hillsW E ah r, hillsW E az x, hillsW E ak k, shO E ag z u, shN E ag y, [rdO ag (nI len) (nI ys) (nI yb) (nI ye) (nI yv)], [(ag 3, .inl (E.2.2.1, 120, .inl (sg tb 120)))], [(ag 4, .inl (E.2.1, 7, .inl (sg f 7)))], [mObj am q], [(am 1, .inl (E.2.1, 77, .inl (sg r2 77)))], [(am 2, .inl (E.2.1, 77, .inl (sg k2 77)))], [(am 3, .inl (E.2.1, 77, .inl (sg x2 77)))], [(am 4, .inl (E.2.1, 8, .inl (sg f2 8)))], [(am 5, .inl (E.2.1, 120, .inl (sg tp 120)))], [(am 6, .inl (E.2.2.2.2.2, 7, .inr (.inr (.inr (.inr (fun j => some (aS (12 + j))))))))], [(am 7, .inl (E.2.1, 480, .inl (sg it 480)))], [(am 8, .inl (E.2.1, 4, .inl (sg z 4)))], [(am 9, .inl (E.2.1, 4, .inl (sg u 4)))], [(am 10, .inl (E.2.1, 160, .inl (sg y 160)))], [(am 11, .inl (E.2.1, 40, .inl (sg mv 40)))]] := hD
  refine lv_aload_n S.1 S.2.1 dL_law_739 rfl (lv_at hl 1 rfl) ?_
  refine lv_aload_n S.1 S.2.1 dL_law_740 rfl (lv_at hl 0 rfl) ?_
  refine lv_iload_n S.1 S.2.1 dL_law_741 rfl (lv_at hl 3 rfl) ?_
  refine lv_iconst (v := 1) S.1 S.2.1 dL_law_742 (by decide) ?_
  refine lv_iadd S.1 S.2.1 dL_law_743 ?_
  refine lv_eqi (y := nI (i + 1)) (nI_add i 1) ?_
  refine b_sld (j := i + 1) S.1 S.2.1 hXs hbl hbA hS (by omega) (by omega) dL_law_744 ?_
  refine lv_aload_n S.1 S.2.1 dL_law_745 rfl (lv_at hl 0 rfl) ?_
  refine lv_iload_n S.1 S.2.1 dL_law_746 rfl (lv_at hl 3 rfl) ?_
  refine lv_iconst (v := 2) S.1 S.2.1 dL_law_747 (by decide) ?_
  refine lv_iadd S.1 S.2.1 dL_law_748 ?_
  refine lv_eqi (y := nI (i + 2)) (nI_add i 2) ?_
  refine b_sld (j := i + 2) S.1 S.2.1 hXs hbl hbA hS (by omega) (by omega) dL_law_749 ?_
  refine go_Ix (run_V (As := [.int (xs (i + 1)), .int (xs (i + 2))]) (rest := []) (n := 2) S hK (bl_P hP [0, 1, 8, 2] rfl) (bl_D hD [0, 1, 8, 2] rfl rfl) (c_X4_onionsFor l E ag ah az ak i0 r f x (xs (i + 1)) (xs (i + 2)) hR) gV_L_84 (by decide +kernel) rfl ⟨rfl, rfl⟩ ⟨Nat.le_of_ble_eq_true rfl, Nat.le_of_ble_eq_true rfl⟩ (ci := 4) (q0 := 0) rfl rfl hl.1 (Nat.le_of_ble_eq_true rfl) dL_law_750 ⟨hcc, hss⟩) hP hD hS [0, 1, 8, 2] rfl (fun _ => (had_cons rfl (had_cons rfl (had_cons cell_ad (had_cons hw_ad rfl))))) (Bs' := fun u9 => [[gObj ag ah az ak i0], hillsW E ah r, hillsW E az u9, hillsW E ak k, shO E ag z u, shN E ag y, [rdO ag (nI len) (nI ys) (nI yb) (nI ye) (nI yv)], [(ag 3, .inl (E.2.2.1, 120, .inl (sg tb 120)))], [(ag 4, .inl (E.2.1, 7, .inl (sg (fndC f (rOnionsFor r (xs (i + 1)) (xs (i + 2)))) 7)))], [mObj am q], [(am 1, .inl (E.2.1, 77, .inl (sg r2 77)))], [(am 2, .inl (E.2.1, 77, .inl (sg k2 77)))], [(am 3, .inl (E.2.1, 77, .inl (sg x2 77)))], [(am 4, .inl (E.2.1, 8, .inl (sg f2 8)))], [(am 5, .inl (E.2.1, 120, .inl (sg tp 120)))], [(am 6, .inl (E.2.2.2.2.2, 7, .inr (.inr (.inr (.inr (fun j => some (aS (12 + j))))))))], [(am 7, .inl (E.2.1, 480, .inl (sg it 480)))], [(am 8, .inl (E.2.1, 4, .inl (sg z 4)))], [(am 9, .inl (E.2.1, 4, .inl (sg u 4)))], [(am 10, .inl (E.2.1, 160, .inl (sg y 160)))], [(am 11, .inl (E.2.1, 40, .inl (sg mv 40)))]]) (fun _ => rfl) (fun u_1 H locs hP hD hS => ?_)
  refine lv_aload_n S.1 S.2.1 dL_law_753 rfl (lv_at hl 2 rfl) ?_
  refine lv_aload_n S.1 S.2.1 dL_law_754 rfl (lv_at hl 0 rfl) ?_
  refine lv_iload_n S.1 S.2.1 dL_law_755 rfl (lv_at hl 3 rfl) ?_
  refine lv_iconst (v := 1) S.1 S.2.1 dL_law_756 (by decide) ?_
  refine lv_iadd S.1 S.2.1 dL_law_757 ?_
  refine lv_eqi (y := nI (i + 1)) (nI_add i 1) ?_
  refine b_sld (j := i + 1) S.1 S.2.1 hXs hbl hbA hS (by omega) (by omega) dL_law_758 ?_
  refine lv_aload_n S.1 S.2.1 dL_law_759 rfl (lv_at hl 0 rfl) ?_
  refine lv_iload_n S.1 S.2.1 dL_law_760 rfl (lv_at hl 3 rfl) ?_
  refine lv_iconst (v := 2) S.1 S.2.1 dL_law_761 (by decide) ?_
  refine lv_iadd S.1 S.2.1 dL_law_762 ?_
  refine lv_eqi (y := nI (i + 2)) (nI_add i 2) ?_
  refine b_sld (j := i + 2) S.1 S.2.1 hXs hbl hbA hS (by omega) (by omega) dL_law_763 ?_
  refine go_Ix (run_V (As := [.int (xs (i + 1)), .int (xs (i + 2))]) (rest := [.int (ansR (rOnionsFor r (xs (i + 1)) (xs (i + 2))))]) (n := 2) S hK (bl_P hP [9, 10, 13, 12] rfl) (bl_D hD [9, 10, 13, 12] rfl rfl) (c_X5_onionsFor l E am q r2 f2 x2 (xs (i + 1)) (xs (i + 2)) hR2) gV_L_87 (by decide +kernel) rfl ⟨rfl, rfl⟩ ⟨Nat.le_of_ble_eq_true rfl, Nat.le_of_ble_eq_true rfl⟩ (ci := 5) (q0 := 0) rfl rfl hl.1 (Nat.le_of_ble_eq_true rfl) dL_law_764 ⟨hcc, hss⟩) hP hD hS [9, 10, 13, 12] rfl (fun _ => (had_cons rfl (had_cons rfl (had_cons cell_ad (had_cons cell_ad rfl))))) (Bs' := fun u9 => [[gObj ag ah az ak i0], hillsW E ah r, hillsW E az u_1, hillsW E ak k, shO E ag z u, shN E ag y, [rdO ag (nI len) (nI ys) (nI yb) (nI ye) (nI yv)], [(ag 3, .inl (E.2.2.1, 120, .inl (sg tb 120)))], [(ag 4, .inl (E.2.1, 7, .inl (sg (fndC f (rOnionsFor r (xs (i + 1)) (xs (i + 2)))) 7)))], [mObj am q], [(am 1, .inl (E.2.1, 77, .inl (sg r2 77)))], [(am 2, .inl (E.2.1, 77, .inl (sg k2 77)))], [(am 3, .inl (E.2.1, 77, .inl (sg u9 77)))], [(am 4, .inl (E.2.1, 8, .inl (sg (fndM f2 (rOnionsFor r2 (xs (i + 1)) (xs (i + 2)))) 8)))], [(am 5, .inl (E.2.1, 120, .inl (sg tp 120)))], [(am 6, .inl (E.2.2.2.2.2, 7, .inr (.inr (.inr (.inr (fun j => some (aS (12 + j))))))))], [(am 7, .inl (E.2.1, 480, .inl (sg it 480)))], [(am 8, .inl (E.2.1, 4, .inl (sg z 4)))], [(am 9, .inl (E.2.1, 4, .inl (sg u 4)))], [(am 10, .inl (E.2.1, 160, .inl (sg y 160)))], [(am 11, .inl (E.2.1, 40, .inl (sg mv 40)))]]) (fun _ => rfl) (fun u_2 H locs hP hD hS => ?_)
  refine lv_icmp_eq (tgt := 1399) S.1 S.2.1 dL_law_767 (by decide) (fun _ => ?_) (fun h => absurd (RR_ans (rr_onionsFor hev (xs (i + 1)) (xs (i + 2)))) h)
  exact kk i0 r u_1 k z u y tb (fndC f (rOnionsFor r (xs (i + 1)) (xs (i + 2)))) len (yb, ye, ys, yv) q r2 k2 u_2 (fndM f2 (rOnionsFor r2 (xs (i + 1)) (xs (i + 2)))) tp it mv H locs ls (inv_ans hI (rr_onionsFor hev (xs (i + 1)) (xs (i + 2))) rfl rfl) hP hD hS (lv_sub hl [0, 1, 2, 3] rfl)
set_option maxHeartbeats 1600000 in
set_option maxRecDepth 100000 in
theorem law_18 (S : CallFix p m c code 4 s #[Value.ref b] (c0 :: GW) RL) (hK : KE E s) (hX : EX aS A s s.heap) (hXs : va_X b L xs s s.heap) (hbl : b < s.heap.size) (hbA : ¬ A b) (hcc : cells ≤ room_1.cells) (hss : slots ≤ room_1.slots) (hL : L ≤ 3072) (i0 : Int32) (r x k z u y tb f : Row) (len : Nat) (Y : Ys) (q r2 k2 x2 f2 tp it mv : Row) (hI : Inv i0 r k u tb f len q r2 k2 f2 tp) (hP : PE E (LW E aS ag ah az ak am i0 r x k z u y tb f len Y q r2 k2 x2 f2 tp it mv) H) (hD : DE A (LW E aS ag ah az ak am i0 r x k z u y tb f len Y q r2 k2 x2 f2 tp it mv)) (hS : va_S A s.heap H locs) {i : Nat} (hi : i + 6 ≤ L) {ls : Array Slot} (hl : lv_has ls 4 [(0, .ref b), (1, .ref (ag 0)), (2, .ref (am 0)), (3, .int (nI i))]) (kk : KK p l e s m below meth c b E aS ag ah az ak am A cells slots Q i) : W p l e room_1 s m #[Value.ref b] below meth c H locs cells slots Q (F0 m 772 ls []) := by
  obtain ⟨yb, ye, ys, yv⟩ := Y
  have hev := hI.1
  have hR := hI.2.1
  have hR2 := RI_ev hev hR
  have hRk := hI.2.2.1
  have hU := hI.2.2.2.2.2.1
  have hl9 := hI.2.2.2.2.2.2.1
  have hq3 := hI.2.2.2.2.2.2.2.1
  have hT := hI.2.2.2.2.2.2.2.2.1
  have hP : PE E [[gObj ag ah az ak i0], hillsW E ah r, hillsW E az x, hillsW E ak k, shO E ag z u, shN E ag y, [rdO ag (nI len) (nI ys) (nI yb) (nI ye) (nI yv)], [(ag 3, .inl (E.2.2.1, 120, .inl (sg tb 120)))], [(ag 4, .inl (E.2.1, 7, .inl (sg f 7)))], [mObj am q], [(am 1, .inl (E.2.1, 77, .inl (sg r2 77)))], [(am 2, .inl (E.2.1, 77, .inl (sg k2 77)))], [(am 3, .inl (E.2.1, 77, .inl (sg x2 77)))], [(am 4, .inl (E.2.1, 8, .inl (sg f2 8)))], [(am 5, .inl (E.2.1, 120, .inl (sg tp 120)))], [(am 6, .inl (E.2.2.2.2.2, 7, .inr (.inr (.inr (.inr (fun j => some (aS (12 + j))))))))], [(am 7, .inl (E.2.1, 480, .inl (sg it 480)))], [(am 8, .inl (E.2.1, 4, .inl (sg z 4)))], [(am 9, .inl (E.2.1, 4, .inl (sg u 4)))], [(am 10, .inl (E.2.1, 160, .inl (sg y 160)))], [(am 11, .inl (E.2.1, 40, .inl (sg mv 40)))]] H := hP
  have hD : DE A [[gObj ag ah az ak i0], hillsW E ah r, hillsW E az x, hillsW E ak k, shO E ag z u, shN E ag y, [rdO ag (nI len) (nI ys) (nI yb) (nI ye) (nI yv)], [(ag 3, .inl (E.2.2.1, 120, .inl (sg tb 120)))], [(ag 4, .inl (E.2.1, 7, .inl (sg f 7)))], [mObj am q], [(am 1, .inl (E.2.1, 77, .inl (sg r2 77)))], [(am 2, .inl (E.2.1, 77, .inl (sg k2 77)))], [(am 3, .inl (E.2.1, 77, .inl (sg x2 77)))], [(am 4, .inl (E.2.1, 8, .inl (sg f2 8)))], [(am 5, .inl (E.2.1, 120, .inl (sg tp 120)))], [(am 6, .inl (E.2.2.2.2.2, 7, .inr (.inr (.inr (.inr (fun j => some (aS (12 + j))))))))], [(am 7, .inl (E.2.1, 480, .inl (sg it 480)))], [(am 8, .inl (E.2.1, 4, .inl (sg z 4)))], [(am 9, .inl (E.2.1, 4, .inl (sg u 4)))], [(am 10, .inl (E.2.1, 160, .inl (sg y 160)))], [(am 11, .inl (E.2.1, 40, .inl (sg mv 40)))]] := hD
  refine lv_aload_n S.1 S.2.1 dL_law_772 rfl (lv_at hl 1 rfl) ?_
  refine lv_aload_n S.1 S.2.1 dL_law_773 rfl (lv_at hl 0 rfl) ?_
  refine lv_iload_n S.1 S.2.1 dL_law_774 rfl (lv_at hl 3 rfl) ?_
  refine lv_iconst (v := 1) S.1 S.2.1 dL_law_775 (by decide) ?_
  refine lv_iadd S.1 S.2.1 dL_law_776 ?_
  refine lv_eqi (y := nI (i + 1)) (nI_add i 1) ?_
  refine b_sld (j := i + 1) S.1 S.2.1 hXs hbl hbA hS (by omega) (by omega) dL_law_777 ?_
  refine lv_aload_n S.1 S.2.1 dL_law_778 rfl (lv_at hl 0 rfl) ?_
  refine lv_iload_n S.1 S.2.1 dL_law_779 rfl (lv_at hl 3 rfl) ?_
  refine lv_iconst (v := 2) S.1 S.2.1 dL_law_780 (by decide) ?_
  refine lv_iadd S.1 S.2.1 dL_law_781 ?_
  refine lv_eqi (y := nI (i + 2)) (nI_add i 2) ?_
  refine b_sld (j := i + 2) S.1 S.2.1 hXs hbl hbA hS (by omega) (by omega) dL_law_782 ?_
  refine go_Ix (run_V (As := [.int (xs (i + 1)), .int (xs (i + 2))]) (rest := []) (n := 2) S hK (bl_P hP [0, 1, 8, 2] rfl) (bl_D hD [0, 1, 8, 2] rfl rfl) (c_X4_stayIn l E ag ah az ak i0 r f x (xs (i + 1)) (xs (i + 2)) hR) gV_L_88 (by decide +kernel) rfl ⟨rfl, rfl⟩ ⟨Nat.le_of_ble_eq_true rfl, Nat.le_of_ble_eq_true rfl⟩ (ci := 4) (q0 := 0) rfl rfl hl.1 (Nat.le_of_ble_eq_true rfl) dL_law_783 ⟨hcc, hss⟩) hP hD hS [0, 1, 8, 2] rfl (fun _ => (had_cons rfl (had_cons rfl (had_cons cell_ad (had_cons hw_ad rfl))))) (Bs' := fun u9 => [[gObj ag ah az ak i0], hillsW E ah r, hillsW E az u9, hillsW E ak k, shO E ag z u, shN E ag y, [rdO ag (nI len) (nI ys) (nI yb) (nI ye) (nI yv)], [(ag 3, .inl (E.2.2.1, 120, .inl (sg tb 120)))], [(ag 4, .inl (E.2.1, 7, .inl (sg (fndC f (rStayM r (xs (i + 1)) (xs (i + 2)))) 7)))], [mObj am q], [(am 1, .inl (E.2.1, 77, .inl (sg r2 77)))], [(am 2, .inl (E.2.1, 77, .inl (sg k2 77)))], [(am 3, .inl (E.2.1, 77, .inl (sg x2 77)))], [(am 4, .inl (E.2.1, 8, .inl (sg f2 8)))], [(am 5, .inl (E.2.1, 120, .inl (sg tp 120)))], [(am 6, .inl (E.2.2.2.2.2, 7, .inr (.inr (.inr (.inr (fun j => some (aS (12 + j))))))))], [(am 7, .inl (E.2.1, 480, .inl (sg it 480)))], [(am 8, .inl (E.2.1, 4, .inl (sg z 4)))], [(am 9, .inl (E.2.1, 4, .inl (sg u 4)))], [(am 10, .inl (E.2.1, 160, .inl (sg y 160)))], [(am 11, .inl (E.2.1, 40, .inl (sg mv 40)))]]) (fun _ => rfl) (fun u_1 H locs hP hD hS => ?_)
  refine lv_aload_n S.1 S.2.1 dL_law_786 rfl (lv_at hl 2 rfl) ?_
  refine lv_aload_n S.1 S.2.1 dL_law_787 rfl (lv_at hl 0 rfl) ?_
  refine lv_iload_n S.1 S.2.1 dL_law_788 rfl (lv_at hl 3 rfl) ?_
  refine lv_iconst (v := 1) S.1 S.2.1 dL_law_789 (by decide) ?_
  refine lv_iadd S.1 S.2.1 dL_law_790 ?_
  refine lv_eqi (y := nI (i + 1)) (nI_add i 1) ?_
  refine b_sld (j := i + 1) S.1 S.2.1 hXs hbl hbA hS (by omega) (by omega) dL_law_791 ?_
  refine lv_aload_n S.1 S.2.1 dL_law_792 rfl (lv_at hl 0 rfl) ?_
  refine lv_iload_n S.1 S.2.1 dL_law_793 rfl (lv_at hl 3 rfl) ?_
  refine lv_iconst (v := 2) S.1 S.2.1 dL_law_794 (by decide) ?_
  refine lv_iadd S.1 S.2.1 dL_law_795 ?_
  refine lv_eqi (y := nI (i + 2)) (nI_add i 2) ?_
  refine b_sld (j := i + 2) S.1 S.2.1 hXs hbl hbA hS (by omega) (by omega) dL_law_796 ?_
  refine go_Ix (run_V (As := [.int (xs (i + 1)), .int (xs (i + 2))]) (rest := [.int (ansR (rStayM r (xs (i + 1)) (xs (i + 2))))]) (n := 2) S hK (bl_P hP [9, 10, 13, 12] rfl) (bl_D hD [9, 10, 13, 12] rfl rfl) (c_X5_stayIn l E am q r2 f2 x2 (xs (i + 1)) (xs (i + 2)) hR2) gV_L_91 (by decide +kernel) rfl ⟨rfl, rfl⟩ ⟨Nat.le_of_ble_eq_true rfl, Nat.le_of_ble_eq_true rfl⟩ (ci := 5) (q0 := 0) rfl rfl hl.1 (Nat.le_of_ble_eq_true rfl) dL_law_797 ⟨hcc, hss⟩) hP hD hS [9, 10, 13, 12] rfl (fun _ => (had_cons rfl (had_cons rfl (had_cons cell_ad (had_cons cell_ad rfl))))) (Bs' := fun u9 => [[gObj ag ah az ak i0], hillsW E ah r, hillsW E az u_1, hillsW E ak k, shO E ag z u, shN E ag y, [rdO ag (nI len) (nI ys) (nI yb) (nI ye) (nI yv)], [(ag 3, .inl (E.2.2.1, 120, .inl (sg tb 120)))], [(ag 4, .inl (E.2.1, 7, .inl (sg (fndC f (rStayM r (xs (i + 1)) (xs (i + 2)))) 7)))], [mObj am q], [(am 1, .inl (E.2.1, 77, .inl (sg r2 77)))], [(am 2, .inl (E.2.1, 77, .inl (sg k2 77)))], [(am 3, .inl (E.2.1, 77, .inl (sg u9 77)))], [(am 4, .inl (E.2.1, 8, .inl (sg (fndM f2 (rStayM r2 (xs (i + 1)) (xs (i + 2)))) 8)))], [(am 5, .inl (E.2.1, 120, .inl (sg tp 120)))], [(am 6, .inl (E.2.2.2.2.2, 7, .inr (.inr (.inr (.inr (fun j => some (aS (12 + j))))))))], [(am 7, .inl (E.2.1, 480, .inl (sg it 480)))], [(am 8, .inl (E.2.1, 4, .inl (sg z 4)))], [(am 9, .inl (E.2.1, 4, .inl (sg u 4)))], [(am 10, .inl (E.2.1, 160, .inl (sg y 160)))], [(am 11, .inl (E.2.1, 40, .inl (sg mv 40)))]]) (fun _ => rfl) (fun u_2 H locs hP hD hS => ?_)
  refine lv_icmp_eq (tgt := 1399) S.1 S.2.1 dL_law_800 (by decide) (fun _ => ?_) (fun h => absurd (RR_ans (rr_stay hev (xs (i + 1)) (xs (i + 2)))) h)
  exact kk i0 r u_1 k z u y tb (fndC f (rStayM r (xs (i + 1)) (xs (i + 2)))) len (yb, ye, ys, yv) q r2 k2 u_2 (fndM f2 (rStayM r2 (xs (i + 1)) (xs (i + 2)))) tp it mv H locs ls (inv_ans hI (rr_stay hev (xs (i + 1)) (xs (i + 2))) rfl rfl) hP hD hS (lv_sub hl [0, 1, 2, 3] rfl)
set_option maxHeartbeats 1600000 in
set_option maxRecDepth 100000 in
theorem law_19 (S : CallFix p m c code 4 s #[Value.ref b] (c0 :: GW) RL) (hK : KE E s) (hX : EX aS A s s.heap) (hXs : va_X b L xs s s.heap) (hbl : b < s.heap.size) (hbA : ¬ A b) (hcc : cells ≤ room_1.cells) (hss : slots ≤ room_1.slots) (hL : L ≤ 3072) (i0 : Int32) (r x k z u y tb f : Row) (len : Nat) (Y : Ys) (q r2 k2 x2 f2 tp it mv : Row) (hI : Inv i0 r k u tb f len q r2 k2 f2 tp) (hP : PE E (LW E aS ag ah az ak am i0 r x k z u y tb f len Y q r2 k2 x2 f2 tp it mv) H) (hD : DE A (LW E aS ag ah az ak am i0 r x k z u y tb f len Y q r2 k2 x2 f2 tp it mv)) (hS : va_S A s.heap H locs) {i : Nat} (hi : i + 6 ≤ L) {ls : Array Slot} (hl : lv_has ls 4 [(0, .ref b), (1, .ref (ag 0)), (2, .ref (am 0)), (3, .int (nI i))]) (kk : KK p l e s m below meth c b E aS ag ah az ak am A cells slots Q i) : W p l e room_1 s m #[Value.ref b] below meth c H locs cells slots Q (F0 m 805 ls []) := by
  obtain ⟨yb, ye, ys, yv⟩ := Y
  have hev := hI.1
  have hR := hI.2.1
  have hR2 := RI_ev hev hR
  have hRk := hI.2.2.1
  have hU := hI.2.2.2.2.2.1
  have hl9 := hI.2.2.2.2.2.2.1
  have hq3 := hI.2.2.2.2.2.2.2.1
  have hT := hI.2.2.2.2.2.2.2.2.1
  have hP : PE E [[gObj ag ah az ak i0], hillsW E ah r, hillsW E az x, hillsW E ak k, shO E ag z u, shN E ag y, [rdO ag (nI len) (nI ys) (nI yb) (nI ye) (nI yv)], [(ag 3, .inl (E.2.2.1, 120, .inl (sg tb 120)))], [(ag 4, .inl (E.2.1, 7, .inl (sg f 7)))], [mObj am q], [(am 1, .inl (E.2.1, 77, .inl (sg r2 77)))], [(am 2, .inl (E.2.1, 77, .inl (sg k2 77)))], [(am 3, .inl (E.2.1, 77, .inl (sg x2 77)))], [(am 4, .inl (E.2.1, 8, .inl (sg f2 8)))], [(am 5, .inl (E.2.1, 120, .inl (sg tp 120)))], [(am 6, .inl (E.2.2.2.2.2, 7, .inr (.inr (.inr (.inr (fun j => some (aS (12 + j))))))))], [(am 7, .inl (E.2.1, 480, .inl (sg it 480)))], [(am 8, .inl (E.2.1, 4, .inl (sg z 4)))], [(am 9, .inl (E.2.1, 4, .inl (sg u 4)))], [(am 10, .inl (E.2.1, 160, .inl (sg y 160)))], [(am 11, .inl (E.2.1, 40, .inl (sg mv 40)))]] H := hP
  have hD : DE A [[gObj ag ah az ak i0], hillsW E ah r, hillsW E az x, hillsW E ak k, shO E ag z u, shN E ag y, [rdO ag (nI len) (nI ys) (nI yb) (nI ye) (nI yv)], [(ag 3, .inl (E.2.2.1, 120, .inl (sg tb 120)))], [(ag 4, .inl (E.2.1, 7, .inl (sg f 7)))], [mObj am q], [(am 1, .inl (E.2.1, 77, .inl (sg r2 77)))], [(am 2, .inl (E.2.1, 77, .inl (sg k2 77)))], [(am 3, .inl (E.2.1, 77, .inl (sg x2 77)))], [(am 4, .inl (E.2.1, 8, .inl (sg f2 8)))], [(am 5, .inl (E.2.1, 120, .inl (sg tp 120)))], [(am 6, .inl (E.2.2.2.2.2, 7, .inr (.inr (.inr (.inr (fun j => some (aS (12 + j))))))))], [(am 7, .inl (E.2.1, 480, .inl (sg it 480)))], [(am 8, .inl (E.2.1, 4, .inl (sg z 4)))], [(am 9, .inl (E.2.1, 4, .inl (sg u 4)))], [(am 10, .inl (E.2.1, 160, .inl (sg y 160)))], [(am 11, .inl (E.2.1, 40, .inl (sg mv 40)))]] := hD
  refine lv_aload_n S.1 S.2.1 dL_law_805 rfl (lv_at hl 1 rfl) ?_
  refine lv_aload_n S.1 S.2.1 dL_law_806 rfl (lv_at hl 0 rfl) ?_
  refine lv_iload_n S.1 S.2.1 dL_law_807 rfl (lv_at hl 3 rfl) ?_
  refine lv_iconst (v := 1) S.1 S.2.1 dL_law_808 (by decide) ?_
  refine lv_iadd S.1 S.2.1 dL_law_809 ?_
  refine lv_eqi (y := nI (i + 1)) (nI_add i 1) ?_
  refine b_sld (j := i + 1) S.1 S.2.1 hXs hbl hbA hS (by omega) (by omega) dL_law_810 ?_
  refine lv_aload_n S.1 S.2.1 dL_law_811 rfl (lv_at hl 0 rfl) ?_
  refine lv_iload_n S.1 S.2.1 dL_law_812 rfl (lv_at hl 3 rfl) ?_
  refine lv_iconst (v := 2) S.1 S.2.1 dL_law_813 (by decide) ?_
  refine lv_iadd S.1 S.2.1 dL_law_814 ?_
  refine lv_eqi (y := nI (i + 2)) (nI_add i 2) ?_
  refine b_sld (j := i + 2) S.1 S.2.1 hXs hbl hbA hS (by omega) (by omega) dL_law_815 ?_
  refine go_Ix (run_V (As := [.int (xs (i + 1)), .int (xs (i + 2))]) (rest := []) (n := 2) S hK (bl_P hP [0, 1, 8, 2, 4, 5] rfl) (bl_D hD [0, 1, 8, 2, 4, 5] rfl rfl) (c_X4_fits l E ag ah az ak i0 r f x z u y (xs (i + 1)) (xs (i + 2)) hR hU) gV_L_92 (by decide +kernel) rfl ⟨rfl, rfl⟩ ⟨Nat.le_of_ble_eq_true rfl, Nat.le_of_ble_eq_true rfl⟩ (ci := 4) (q0 := 0) rfl rfl hl.1 (Nat.le_of_ble_eq_true rfl) dL_law_816 ⟨hcc, hss⟩) hP hD hS [0, 1, 8, 2, 4, 5] rfl (fun _ => (had_cons rfl (had_cons rfl (had_cons cell_ad (had_cons hw_ad (had_cons rfl (had_cons rfl rfl))))))) (Bs' := fun u9 => [[gObj ag ah az ak i0], hillsW E ah r, hillsW E az u9, hillsW E ak k, shO E ag z u, shN E ag y, [rdO ag (nI len) (nI ys) (nI yb) (nI ye) (nI yv)], [(ag 3, .inl (E.2.2.1, 120, .inl (sg tb 120)))], [(ag 4, .inl (E.2.1, 7, .inl (sg (fndC f (rFits r y z u (xs (i + 1)) (xs (i + 2)))) 7)))], [mObj am q], [(am 1, .inl (E.2.1, 77, .inl (sg r2 77)))], [(am 2, .inl (E.2.1, 77, .inl (sg k2 77)))], [(am 3, .inl (E.2.1, 77, .inl (sg x2 77)))], [(am 4, .inl (E.2.1, 8, .inl (sg f2 8)))], [(am 5, .inl (E.2.1, 120, .inl (sg tp 120)))], [(am 6, .inl (E.2.2.2.2.2, 7, .inr (.inr (.inr (.inr (fun j => some (aS (12 + j))))))))], [(am 7, .inl (E.2.1, 480, .inl (sg it 480)))], [(am 8, .inl (E.2.1, 4, .inl (sg z 4)))], [(am 9, .inl (E.2.1, 4, .inl (sg u 4)))], [(am 10, .inl (E.2.1, 160, .inl (sg y 160)))], [(am 11, .inl (E.2.1, 40, .inl (sg mv 40)))]]) (fun _ => rfl) (fun u_1 H locs hP hD hS => ?_)
  refine lv_aload_n S.1 S.2.1 dL_law_819 rfl (lv_at hl 2 rfl) ?_
  refine lv_aload_n S.1 S.2.1 dL_law_820 rfl (lv_at hl 0 rfl) ?_
  refine lv_iload_n S.1 S.2.1 dL_law_821 rfl (lv_at hl 3 rfl) ?_
  refine lv_iconst (v := 1) S.1 S.2.1 dL_law_822 (by decide) ?_
  refine lv_iadd S.1 S.2.1 dL_law_823 ?_
  refine lv_eqi (y := nI (i + 1)) (nI_add i 1) ?_
  refine b_sld (j := i + 1) S.1 S.2.1 hXs hbl hbA hS (by omega) (by omega) dL_law_824 ?_
  refine lv_aload_n S.1 S.2.1 dL_law_825 rfl (lv_at hl 0 rfl) ?_
  refine lv_iload_n S.1 S.2.1 dL_law_826 rfl (lv_at hl 3 rfl) ?_
  refine lv_iconst (v := 2) S.1 S.2.1 dL_law_827 (by decide) ?_
  refine lv_iadd S.1 S.2.1 dL_law_828 ?_
  refine lv_eqi (y := nI (i + 2)) (nI_add i 2) ?_
  refine b_sld (j := i + 2) S.1 S.2.1 hXs hbl hbA hS (by omega) (by omega) dL_law_829 ?_
  refine go_Ix (run_V (As := [.int (xs (i + 1)), .int (xs (i + 2))]) (rest := [.int (ansR (rFits r y z u (xs (i + 1)) (xs (i + 2))))]) (n := 2) S hK (bl_P hP [9, 10, 13, 12, 17, 18, 19] rfl) (bl_D hD [9, 10, 13, 12, 17, 18, 19] rfl rfl) (c_X5_fits l E am q r2 f2 x2 z u y (xs (i + 1)) (xs (i + 2)) hR2 hU) gV_L_95 (by decide +kernel) rfl ⟨rfl, rfl⟩ ⟨Nat.le_of_ble_eq_true rfl, Nat.le_of_ble_eq_true rfl⟩ (ci := 5) (q0 := 0) rfl rfl hl.1 (Nat.le_of_ble_eq_true rfl) dL_law_830 ⟨hcc, hss⟩) hP hD hS [9, 10, 13, 12, 17, 18, 19] rfl (fun _ => (had_cons mo_ad (had_cons rfl (had_cons cell_ad (had_cons cell_ad (had_cons rfl (had_cons rfl (had_cons rfl rfl)))))))) (Bs' := fun u9 => [[gObj ag ah az ak i0], hillsW E ah r, hillsW E az u_1, hillsW E ak k, shO E ag z u, shN E ag y, [rdO ag (nI len) (nI ys) (nI yb) (nI ye) (nI yv)], [(ag 3, .inl (E.2.2.1, 120, .inl (sg tb 120)))], [(ag 4, .inl (E.2.1, 7, .inl (sg (fndC f (rFits r y z u (xs (i + 1)) (xs (i + 2)))) 7)))], [mObj am (pick (rFits r2 y z u (xs (i + 1)) (xs (i + 2))) q (griefQ q (fun v => okN y (40 * tN (xs (i + 1))) (upd r2 (21 + 7 * tN (xs (i + 2)) + 1) (nI v)) (tN (xs (i + 2))) (min (tN (u (tN (xs (i + 1))))) 10))))], [(am 1, .inl (E.2.1, 77, .inl (sg r2 77)))], [(am 2, .inl (E.2.1, 77, .inl (sg k2 77)))], [(am 3, .inl (E.2.1, 77, .inl (sg u9 77)))], [(am 4, .inl (E.2.1, 8, .inl (sg (fndM f2 (rFits r2 y z u (xs (i + 1)) (xs (i + 2)))) 8)))], [(am 5, .inl (E.2.1, 120, .inl (sg tp 120)))], [(am 6, .inl (E.2.2.2.2.2, 7, .inr (.inr (.inr (.inr (fun j => some (aS (12 + j))))))))], [(am 7, .inl (E.2.1, 480, .inl (sg it 480)))], [(am 8, .inl (E.2.1, 4, .inl (sg z 4)))], [(am 9, .inl (E.2.1, 4, .inl (sg u 4)))], [(am 10, .inl (E.2.1, 160, .inl (sg y 160)))], [(am 11, .inl (E.2.1, 40, .inl (sg mv 40)))]]) (fun _ => rfl) (fun u_2 H locs hP hD hS => ?_)
  refine lv_icmp_eq (tgt := 1399) S.1 S.2.1 dL_law_833 (by decide) (fun _ => ?_) (fun h => absurd (RR_ans (rr_fits hev hR y z u (xs (i + 1)) (xs (i + 2)))) h)
  exact kk i0 r u_1 k z u y tb (fndC f (rFits r y z u (xs (i + 1)) (xs (i + 2)))) len (yb, ye, ys, yv) (pick (rFits r2 y z u (xs (i + 1)) (xs (i + 2))) q (griefQ q (fun v => okN y (40 * tN (xs (i + 1))) (upd r2 (21 + 7 * tN (xs (i + 2)) + 1) (nI v)) (tN (xs (i + 2))) (min (tN (u (tN (xs (i + 1))))) 10)))) r2 k2 u_2 (fndM f2 (rFits r2 y z u (xs (i + 1)) (xs (i + 2)))) tp it mv H locs ls (inv_ans hI (rr_fits hev hR y z u (xs (i + 1)) (xs (i + 2))) (pickQ_0 _) (pickQ_3 _)) hP hD hS (lv_sub hl [0, 1, 2, 3] rfl)
end LWC
