section LWC
variable {p : Program} {l : Launch} {e : Env} {s : State} {m : MethodId} {below : List Frame} {meth : Method} {c : Code} {H : Heap} {locs : List Loc} {cells slots : Nat} {Q : State → Prop} {c0 : Cond} {E : EV} {aS ag ah az ak am : Nat → Nat} {A : Nat → Prop} {b L : Nat} {xs : Nat → Int32}
set_option maxHeartbeats 1600000 in
set_option maxRecDepth 100000 in
theorem law_20 (S : CallFix p m c code 4 s #[Value.ref b] (c0 :: GW) RL) (hK : KE E s) (hX : EX aS A s s.heap) (hXs : va_X b L xs s s.heap) (hbl : b < s.heap.size) (hbA : ¬ A b) (hcc : cells ≤ room_1.cells) (hss : slots ≤ room_1.slots) (hL : L ≤ 3072) (i0 : Int32) (r x k z u y tb f : Row) (len : Nat) (Y : Ys) (q r2 k2 x2 f2 tp it mv : Row) (hI : Inv i0 r k u tb f len q r2 k2 f2 tp) (hP : PE E (LW E aS ag ah az ak am i0 r x k z u y tb f len Y q r2 k2 x2 f2 tp it mv) H) (hD : DE A (LW E aS ag ah az ak am i0 r x k z u y tb f len Y q r2 k2 x2 f2 tp it mv)) (hS : va_S A s.heap H locs) {i : Nat} (hi : i + 6 ≤ L) {ls : Array Slot} (hl : lv_has ls 4 [(0, .ref b), (1, .ref (ag 0)), (2, .ref (am 0)), (3, .int (nI i))]) (kk : KK p l e s m below meth c b E aS ag ah az ak am A cells slots Q i) : W p l e room_1 s m #[Value.ref b] below meth c H locs cells slots Q (F0 m 838 ls []) := by
  obtain ⟨yb, ye, ys, yv⟩ := Y
  have hev := hI.1
  have hR := hI.2.1
  have hR2 := RI_ev hev hR
  have hRk := hI.2.2.1
  have hU := hI.2.2.2.2.2.1
  have hl9 := hI.2.2.2.2.2.2.1
  have hq3 := hI.2.2.2.2.2.2.2.1
  have hT := hI.2.2.2.2.2.2.2.2.1
  have hP : PE E [[gObj ag ah az ak i0], hillsW E ah r, hillsW E az x, hillsW E ak k, shO E ag z u, shN E ag y, [rdO ag (nI len) (nI ys) (nI yb) (nI ye) (nI yv)], [(ag 3, .inl (E.2.2.1, 120, .inl (sg tb 120)))], [(ag 4, .inl (E.2.1, 7, .inl (sg f 7)))], [mObj am q], [(am 1, .inl (E.2.1, 77, .inl (sg r2 77)))], [(am 2, .inl (E.2.1, 77, .inl (sg k2 77)))], [(am 3, .inl (E.2.1, 77, .inl (sg x2 77)))], [(am 4, .inl (E.2.1, 8, .inl (sg f2 8)))], [(am 5, .inl (E.2.1, 120, .inl (sg tp 120)))], [(am 6, .inl (E.2.2.2.2.2, 7, .inr (.inr (.inr (.inr (fun j => some (aS (12 + j))))))))], [(am 7, .inl (E.2.1, 480, .inl (sg it 480)))], [(am 8, .inl (E.2.1, 4, .inl (sg z 4)))], [(am 9, .inl (E.2.1, 4, .inl (sg u 4)))], [(am 10, .inl (E.2.1, 160, .inl (sg y 160)))], [(am 11, .inl (E.2.1, 40, .inl (sg mv 40)))]] H := hP
  have hD : DE A [[gObj ag ah az ak i0], hillsW E ah r, hillsW E az x, hillsW E ak k, shO E ag z u, shN E ag y, [rdO ag (nI len) (nI ys) (nI yb) (nI ye) (nI yv)], [(ag 3, .inl (E.2.2.1, 120, .inl (sg tb 120)))], [(ag 4, .inl (E.2.1, 7, .inl (sg f 7)))], [mObj am q], [(am 1, .inl (E.2.1, 77, .inl (sg r2 77)))], [(am 2, .inl (E.2.1, 77, .inl (sg k2 77)))], [(am 3, .inl (E.2.1, 77, .inl (sg x2 77)))], [(am 4, .inl (E.2.1, 8, .inl (sg f2 8)))], [(am 5, .inl (E.2.1, 120, .inl (sg tp 120)))], [(am 6, .inl (E.2.2.2.2.2, 7, .inr (.inr (.inr (.inr (fun j => some (aS (12 + j))))))))], [(am 7, .inl (E.2.1, 480, .inl (sg it 480)))], [(am 8, .inl (E.2.1, 4, .inl (sg z 4)))], [(am 9, .inl (E.2.1, 4, .inl (sg u 4)))], [(am 10, .inl (E.2.1, 160, .inl (sg y 160)))], [(am 11, .inl (E.2.1, 40, .inl (sg mv 40)))]] := hD
  refine lv_aload_n S.1 S.2.1 dL_law_838 rfl (lv_at hl 1 rfl) ?_
  refine lv_aload_n S.1 S.2.1 dL_law_839 rfl (lv_at hl 0 rfl) ?_
  refine lv_iload_n S.1 S.2.1 dL_law_840 rfl (lv_at hl 3 rfl) ?_
  refine lv_iconst (v := 1) S.1 S.2.1 dL_law_841 (by decide) ?_
  refine lv_iadd S.1 S.2.1 dL_law_842 ?_
  refine lv_eqi (y := nI (i + 1)) (nI_add i 1) ?_
  refine b_sld (j := i + 1) S.1 S.2.1 hXs hbl hbA hS (by omega) (by omega) dL_law_843 ?_
  refine lv_aload_n S.1 S.2.1 dL_law_844 rfl (lv_at hl 0 rfl) ?_
  refine lv_iload_n S.1 S.2.1 dL_law_845 rfl (lv_at hl 3 rfl) ?_
  refine lv_iconst (v := 2) S.1 S.2.1 dL_law_846 (by decide) ?_
  refine lv_iadd S.1 S.2.1 dL_law_847 ?_
  refine lv_eqi (y := nI (i + 2)) (nI_add i 2) ?_
  refine b_sld (j := i + 2) S.1 S.2.1 hXs hbl hbA hS (by omega) (by omega) dL_law_848 ?_
  refine go_Ix (run_V (As := [.int (xs (i + 1)), .int (xs (i + 2))]) (rest := []) (n := 2) S hK (bl_P hP [0, 1, 8, 2, 4, 5] rfl) (bl_D hD [0, 1, 8, 2, 4, 5] rfl rfl) (c_X4_grief l E ag ah az ak i0 r f x z u y (xs (i + 1)) (xs (i + 2)) hR hU) gV_L_96 (by decide +kernel) rfl ⟨rfl, rfl⟩ ⟨Nat.le_of_ble_eq_true rfl, Nat.le_of_ble_eq_true rfl⟩ (ci := 4) (q0 := 0) rfl rfl hl.1 (Nat.le_of_ble_eq_true rfl) dL_law_849 ⟨hcc, hss⟩) hP hD hS [0, 1, 8, 2, 4, 5] rfl (fun _ => (had_cons rfl (had_cons rfl (had_cons cell_ad (had_cons hw_ad (had_cons rfl (had_cons rfl rfl))))))) (Bs' := fun u9 => [[gObj ag ah az ak i0], hillsW E ah r, hillsW E az u9, hillsW E ak k, shO E ag z u, shN E ag y, [rdO ag (nI len) (nI ys) (nI yb) (nI ye) (nI yv)], [(ag 3, .inl (E.2.2.1, 120, .inl (sg tb 120)))], [(ag 4, .inl (E.2.1, 7, .inl (sg (fndC f (rGrief r y z u (xs (i + 1)) (xs (i + 2)))) 7)))], [mObj am q], [(am 1, .inl (E.2.1, 77, .inl (sg r2 77)))], [(am 2, .inl (E.2.1, 77, .inl (sg k2 77)))], [(am 3, .inl (E.2.1, 77, .inl (sg x2 77)))], [(am 4, .inl (E.2.1, 8, .inl (sg f2 8)))], [(am 5, .inl (E.2.1, 120, .inl (sg tp 120)))], [(am 6, .inl (E.2.2.2.2.2, 7, .inr (.inr (.inr (.inr (fun j => some (aS (12 + j))))))))], [(am 7, .inl (E.2.1, 480, .inl (sg it 480)))], [(am 8, .inl (E.2.1, 4, .inl (sg z 4)))], [(am 9, .inl (E.2.1, 4, .inl (sg u 4)))], [(am 10, .inl (E.2.1, 160, .inl (sg y 160)))], [(am 11, .inl (E.2.1, 40, .inl (sg mv 40)))]]) (fun _ => rfl) (fun u_1 H locs hP hD hS => ?_)
  refine lv_aload_n S.1 S.2.1 dL_law_852 rfl (lv_at hl 2 rfl) ?_
  refine lv_aload_n S.1 S.2.1 dL_law_853 rfl (lv_at hl 0 rfl) ?_
  refine lv_iload_n S.1 S.2.1 dL_law_854 rfl (lv_at hl 3 rfl) ?_
  refine lv_iconst (v := 1) S.1 S.2.1 dL_law_855 (by decide) ?_
  refine lv_iadd S.1 S.2.1 dL_law_856 ?_
  refine lv_eqi (y := nI (i + 1)) (nI_add i 1) ?_
  refine b_sld (j := i + 1) S.1 S.2.1 hXs hbl hbA hS (by omega) (by omega) dL_law_857 ?_
  refine lv_aload_n S.1 S.2.1 dL_law_858 rfl (lv_at hl 0 rfl) ?_
  refine lv_iload_n S.1 S.2.1 dL_law_859 rfl (lv_at hl 3 rfl) ?_
  refine lv_iconst (v := 2) S.1 S.2.1 dL_law_860 (by decide) ?_
  refine lv_iadd S.1 S.2.1 dL_law_861 ?_
  refine lv_eqi (y := nI (i + 2)) (nI_add i 2) ?_
  refine b_sld (j := i + 2) S.1 S.2.1 hXs hbl hbA hS (by omega) (by omega) dL_law_862 ?_
  refine go_Ix (run_V (As := [.int (xs (i + 1)), .int (xs (i + 2))]) (rest := [.int (ansR (rGrief r y z u (xs (i + 1)) (xs (i + 2))))]) (n := 2) S hK (bl_P hP [9, 10, 13, 12, 17, 18, 19] rfl) (bl_D hD [9, 10, 13, 12, 17, 18, 19] rfl rfl) (c_X5_grief l E am q r2 f2 x2 z u y (xs (i + 1)) (xs (i + 2)) hR2 hU) gV_L_99 (by decide +kernel) rfl ⟨rfl, rfl⟩ ⟨Nat.le_of_ble_eq_true rfl, Nat.le_of_ble_eq_true rfl⟩ (ci := 5) (q0 := 0) rfl rfl hl.1 (Nat.le_of_ble_eq_true rfl) dL_law_863 ⟨hcc, hss⟩) hP hD hS [9, 10, 13, 12, 17, 18, 19] rfl (fun _ => (had_cons mo_ad (had_cons rfl (had_cons cell_ad (had_cons cell_ad (had_cons rfl (had_cons rfl (had_cons rfl rfl)))))))) (Bs' := fun u9 => [[gObj ag ah az ak i0], hillsW E ah r, hillsW E az u_1, hillsW E ak k, shO E ag z u, shN E ag y, [rdO ag (nI len) (nI ys) (nI yb) (nI ye) (nI yv)], [(ag 3, .inl (E.2.2.1, 120, .inl (sg tb 120)))], [(ag 4, .inl (E.2.1, 7, .inl (sg (fndC f (rGrief r y z u (xs (i + 1)) (xs (i + 2)))) 7)))], [mObj am (if lackV z (xs (i + 1)) (0 ≤ (xs (i + 2)) ∧ (xs (i + 2)) < r2 1) = 0 then griefQ q (fun v => okN y (40 * tN (xs (i + 1))) (upd r2 (21 + 7 * tN (xs (i + 2)) + 1) (nI v)) (tN (xs (i + 2))) (min (tN (u (tN (xs (i + 1))))) 10)) else q)], [(am 1, .inl (E.2.1, 77, .inl (sg r2 77)))], [(am 2, .inl (E.2.1, 77, .inl (sg k2 77)))], [(am 3, .inl (E.2.1, 77, .inl (sg u9 77)))], [(am 4, .inl (E.2.1, 8, .inl (sg (fndM f2 (rGrief r2 y z u (xs (i + 1)) (xs (i + 2)))) 8)))], [(am 5, .inl (E.2.1, 120, .inl (sg tp 120)))], [(am 6, .inl (E.2.2.2.2.2, 7, .inr (.inr (.inr (.inr (fun j => some (aS (12 + j))))))))], [(am 7, .inl (E.2.1, 480, .inl (sg it 480)))], [(am 8, .inl (E.2.1, 4, .inl (sg z 4)))], [(am 9, .inl (E.2.1, 4, .inl (sg u 4)))], [(am 10, .inl (E.2.1, 160, .inl (sg y 160)))], [(am 11, .inl (E.2.1, 40, .inl (sg mv 40)))]]) (fun _ => rfl) (fun u_2 H locs hP hD hS => ?_)
  refine lv_icmp_eq (tgt := 1399) S.1 S.2.1 dL_law_866 (by decide) (fun _ => ?_) (fun h => absurd (RR_ans (rr_grief hev hR y z u (xs (i + 1)) (xs (i + 2)))) h)
  exact kk i0 r u_1 k z u y tb (fndC f (rGrief r y z u (xs (i + 1)) (xs (i + 2)))) len (yb, ye, ys, yv) (if lackV z (xs (i + 1)) (0 ≤ (xs (i + 2)) ∧ (xs (i + 2)) < r2 1) = 0 then griefQ q (fun v => okN y (40 * tN (xs (i + 1))) (upd r2 (21 + 7 * tN (xs (i + 2)) + 1) (nI v)) (tN (xs (i + 2))) (min (tN (u (tN (xs (i + 1))))) 10)) else q) r2 k2 u_2 (fndM f2 (rGrief r2 y z u (xs (i + 1)) (xs (i + 2)))) tp it mv H locs ls (inv_ans hI (rr_grief hev hR y z u (xs (i + 1)) (xs (i + 2))) (iteQ_0 _) (iteQ_3 _)) hP hD hS (lv_sub hl [0, 1, 2, 3] rfl)
set_option maxHeartbeats 1600000 in
set_option maxRecDepth 100000 in
theorem law_21 (S : CallFix p m c code 4 s #[Value.ref b] (c0 :: GW) RL) (hK : KE E s) (hX : EX aS A s s.heap) (hXs : va_X b L xs s s.heap) (hbl : b < s.heap.size) (hbA : ¬ A b) (hcc : cells ≤ room_1.cells) (hss : slots ≤ room_1.slots) (hL : L ≤ 3072) (i0 : Int32) (r x k z u y tb f : Row) (len : Nat) (Y : Ys) (q r2 k2 x2 f2 tp it mv : Row) (hI : Inv i0 r k u tb f len q r2 k2 f2 tp) (hP : PE E (LW E aS ag ah az ak am i0 r x k z u y tb f len Y q r2 k2 x2 f2 tp it mv) H) (hD : DE A (LW E aS ag ah az ak am i0 r x k z u y tb f len Y q r2 k2 x2 f2 tp it mv)) (hS : va_S A s.heap H locs) {i : Nat} (hi : i + 6 ≤ L) {ls : Array Slot} (hl : lv_has ls 4 [(0, .ref b), (1, .ref (ag 0)), (2, .ref (am 0)), (3, .int (nI i))]) (kk : KK p l e s m below meth c b E aS ag ah az ak am A cells slots Q i) : W p l e room_1 s m #[Value.ref b] below meth c H locs cells slots Q (F0 m 871 ls []) := by
  obtain ⟨yb, ye, ys, yv⟩ := Y
  have hev := hI.1
  have hR := hI.2.1
  have hR2 := RI_ev hev hR
  have hRk := hI.2.2.1
  have hU := hI.2.2.2.2.2.1
  have hl9 := hI.2.2.2.2.2.2.1
  have hq3 := hI.2.2.2.2.2.2.2.1
  have hT := hI.2.2.2.2.2.2.2.2.1
  have hP : PE E [[gObj ag ah az ak i0], hillsW E ah r, hillsW E az x, hillsW E ak k, shO E ag z u, shN E ag y, [rdO ag (nI len) (nI ys) (nI yb) (nI ye) (nI yv)], [(ag 3, .inl (E.2.2.1, 120, .inl (sg tb 120)))], [(ag 4, .inl (E.2.1, 7, .inl (sg f 7)))], [mObj am q], [(am 1, .inl (E.2.1, 77, .inl (sg r2 77)))], [(am 2, .inl (E.2.1, 77, .inl (sg k2 77)))], [(am 3, .inl (E.2.1, 77, .inl (sg x2 77)))], [(am 4, .inl (E.2.1, 8, .inl (sg f2 8)))], [(am 5, .inl (E.2.1, 120, .inl (sg tp 120)))], [(am 6, .inl (E.2.2.2.2.2, 7, .inr (.inr (.inr (.inr (fun j => some (aS (12 + j))))))))], [(am 7, .inl (E.2.1, 480, .inl (sg it 480)))], [(am 8, .inl (E.2.1, 4, .inl (sg z 4)))], [(am 9, .inl (E.2.1, 4, .inl (sg u 4)))], [(am 10, .inl (E.2.1, 160, .inl (sg y 160)))], [(am 11, .inl (E.2.1, 40, .inl (sg mv 40)))]] H := hP
  have hD : DE A [[gObj ag ah az ak i0], hillsW E ah r, hillsW E az x, hillsW E ak k, shO E ag z u, shN E ag y, [rdO ag (nI len) (nI ys) (nI yb) (nI ye) (nI yv)], [(ag 3, .inl (E.2.2.1, 120, .inl (sg tb 120)))], [(ag 4, .inl (E.2.1, 7, .inl (sg f 7)))], [mObj am q], [(am 1, .inl (E.2.1, 77, .inl (sg r2 77)))], [(am 2, .inl (E.2.1, 77, .inl (sg k2 77)))], [(am 3, .inl (E.2.1, 77, .inl (sg x2 77)))], [(am 4, .inl (E.2.1, 8, .inl (sg f2 8)))], [(am 5, .inl (E.2.1, 120, .inl (sg tp 120)))], [(am 6, .inl (E.2.2.2.2.2, 7, .inr (.inr (.inr (.inr (fun j => some (aS (12 + j))))))))], [(am 7, .inl (E.2.1, 480, .inl (sg it 480)))], [(am 8, .inl (E.2.1, 4, .inl (sg z 4)))], [(am 9, .inl (E.2.1, 4, .inl (sg u 4)))], [(am 10, .inl (E.2.1, 160, .inl (sg y 160)))], [(am 11, .inl (E.2.1, 40, .inl (sg mv 40)))]] := hD
  refine lv_aload_n S.1 S.2.1 dL_law_871 rfl (lv_at hl 1 rfl) ?_
  refine lv_aload_n S.1 S.2.1 dL_law_872 rfl (lv_at hl 0 rfl) ?_
  refine lv_iload_n S.1 S.2.1 dL_law_873 rfl (lv_at hl 3 rfl) ?_
  refine lv_iconst (v := 1) S.1 S.2.1 dL_law_874 (by decide) ?_
  refine lv_iadd S.1 S.2.1 dL_law_875 ?_
  refine lv_eqi (y := nI (i + 1)) (nI_add i 1) ?_
  refine b_sld (j := i + 1) S.1 S.2.1 hXs hbl hbA hS (by omega) (by omega) dL_law_876 ?_
  refine lv_aload_n S.1 S.2.1 dL_law_877 rfl (lv_at hl 0 rfl) ?_
  refine lv_iload_n S.1 S.2.1 dL_law_878 rfl (lv_at hl 3 rfl) ?_
  refine lv_iconst (v := 2) S.1 S.2.1 dL_law_879 (by decide) ?_
  refine lv_iadd S.1 S.2.1 dL_law_880 ?_
  refine lv_eqi (y := nI (i + 2)) (nI_add i 2) ?_
  refine b_sld (j := i + 2) S.1 S.2.1 hXs hbl hbA hS (by omega) (by omega) dL_law_881 ?_
  refine go_Ix (run_V (As := [.int (xs (i + 1)), .int (xs (i + 2))]) (rest := []) (n := 2) S hK (bl_P hP [0, 1, 8, 2, 4, 5] rfl) (bl_D hD [0, 1, 8, 2, 4, 5] rfl rfl) (c_X4_kinds l E ag ah az ak i0 r f x z u y (xs (i + 1)) (xs (i + 2)) hR hU) gV_L_100 (by decide +kernel) rfl ⟨rfl, rfl⟩ ⟨Nat.le_of_ble_eq_true rfl, Nat.le_of_ble_eq_true rfl⟩ (ci := 4) (q0 := 0) rfl rfl hl.1 (Nat.le_of_ble_eq_true rfl) dL_law_882 ⟨hcc, hss⟩) hP hD hS [0, 1, 8, 2, 4, 5] rfl (fun _ => (had_cons rfl (had_cons rfl (had_cons cell_ad (had_cons hw_ad (had_cons rfl (had_cons rfl rfl))))))) (Bs' := fun u9 => [[gObj ag ah az ak i0], hillsW E ah r, hillsW E az u9, hillsW E ak k, shO E ag z u, shN E ag y, [rdO ag (nI len) (nI ys) (nI yb) (nI ye) (nI yv)], [(ag 3, .inl (E.2.2.1, 120, .inl (sg tb 120)))], [(ag 4, .inl (E.2.1, 7, .inl (sg (fndC f (rKinds r y z u (xs (i + 1)) (xs (i + 2)))) 7)))], [mObj am q], [(am 1, .inl (E.2.1, 77, .inl (sg r2 77)))], [(am 2, .inl (E.2.1, 77, .inl (sg k2 77)))], [(am 3, .inl (E.2.1, 77, .inl (sg x2 77)))], [(am 4, .inl (E.2.1, 8, .inl (sg f2 8)))], [(am 5, .inl (E.2.1, 120, .inl (sg tp 120)))], [(am 6, .inl (E.2.2.2.2.2, 7, .inr (.inr (.inr (.inr (fun j => some (aS (12 + j))))))))], [(am 7, .inl (E.2.1, 480, .inl (sg it 480)))], [(am 8, .inl (E.2.1, 4, .inl (sg z 4)))], [(am 9, .inl (E.2.1, 4, .inl (sg u 4)))], [(am 10, .inl (E.2.1, 160, .inl (sg y 160)))], [(am 11, .inl (E.2.1, 40, .inl (sg mv 40)))]]) (fun _ => rfl) (fun u_1 H locs hP hD hS => ?_)
  refine lv_aload_n S.1 S.2.1 dL_law_885 rfl (lv_at hl 2 rfl) ?_
  refine lv_aload_n S.1 S.2.1 dL_law_886 rfl (lv_at hl 0 rfl) ?_
  refine lv_iload_n S.1 S.2.1 dL_law_887 rfl (lv_at hl 3 rfl) ?_
  refine lv_iconst (v := 1) S.1 S.2.1 dL_law_888 (by decide) ?_
  refine lv_iadd S.1 S.2.1 dL_law_889 ?_
  refine lv_eqi (y := nI (i + 1)) (nI_add i 1) ?_
  refine b_sld (j := i + 1) S.1 S.2.1 hXs hbl hbA hS (by omega) (by omega) dL_law_890 ?_
  refine lv_aload_n S.1 S.2.1 dL_law_891 rfl (lv_at hl 0 rfl) ?_
  refine lv_iload_n S.1 S.2.1 dL_law_892 rfl (lv_at hl 3 rfl) ?_
  refine lv_iconst (v := 2) S.1 S.2.1 dL_law_893 (by decide) ?_
  refine lv_iadd S.1 S.2.1 dL_law_894 ?_
  refine lv_eqi (y := nI (i + 2)) (nI_add i 2) ?_
  refine b_sld (j := i + 2) S.1 S.2.1 hXs hbl hbA hS (by omega) (by omega) dL_law_895 ?_
  refine go_Ix (run_V (As := [.int (xs (i + 1)), .int (xs (i + 2))]) (rest := [.int (ansR (rKinds r y z u (xs (i + 1)) (xs (i + 2))))]) (n := 2) S hK (bl_P hP [9, 10, 13, 12, 17, 18, 19] rfl) (bl_D hD [9, 10, 13, 12, 17, 18, 19] rfl rfl) (c_X5_kinds l E am q r2 f2 x2 z u y (xs (i + 1)) (xs (i + 2)) hR2 hU) gV_L_103 (by decide +kernel) rfl ⟨rfl, rfl⟩ ⟨Nat.le_of_ble_eq_true rfl, Nat.le_of_ble_eq_true rfl⟩ (ci := 5) (q0 := 0) rfl rfl hl.1 (Nat.le_of_ble_eq_true rfl) dL_law_896 ⟨hcc, hss⟩) hP hD hS [9, 10, 13, 12, 17, 18, 19] rfl (fun _ => (had_cons rfl (had_cons rfl (had_cons cell_ad (had_cons cell_ad (had_cons rfl (had_cons rfl (had_cons rfl rfl)))))))) (Bs' := fun u9 => [[gObj ag ah az ak i0], hillsW E ah r, hillsW E az u_1, hillsW E ak k, shO E ag z u, shN E ag y, [rdO ag (nI len) (nI ys) (nI yb) (nI ye) (nI yv)], [(ag 3, .inl (E.2.2.1, 120, .inl (sg tb 120)))], [(ag 4, .inl (E.2.1, 7, .inl (sg (fndC f (rKinds r y z u (xs (i + 1)) (xs (i + 2)))) 7)))], [mObj am q], [(am 1, .inl (E.2.1, 77, .inl (sg r2 77)))], [(am 2, .inl (E.2.1, 77, .inl (sg k2 77)))], [(am 3, .inl (E.2.1, 77, .inl (sg u9 77)))], [(am 4, .inl (E.2.1, 8, .inl (sg (fndM f2 (rKinds r2 y z u (xs (i + 1)) (xs (i + 2)))) 8)))], [(am 5, .inl (E.2.1, 120, .inl (sg tp 120)))], [(am 6, .inl (E.2.2.2.2.2, 7, .inr (.inr (.inr (.inr (fun j => some (aS (12 + j))))))))], [(am 7, .inl (E.2.1, 480, .inl (sg it 480)))], [(am 8, .inl (E.2.1, 4, .inl (sg z 4)))], [(am 9, .inl (E.2.1, 4, .inl (sg u 4)))], [(am 10, .inl (E.2.1, 160, .inl (sg y 160)))], [(am 11, .inl (E.2.1, 40, .inl (sg mv 40)))]]) (fun _ => rfl) (fun u_2 H locs hP hD hS => ?_)
  refine lv_icmp_eq (tgt := 1399) S.1 S.2.1 dL_law_899 (by decide) (fun _ => ?_) (fun h => absurd (RR_ans (rr_kinds hev hR y z u (xs (i + 1)) (xs (i + 2)))) h)
  exact kk i0 r u_1 k z u y tb (fndC f (rKinds r y z u (xs (i + 1)) (xs (i + 2)))) len (yb, ye, ys, yv) q r2 k2 u_2 (fndM f2 (rKinds r2 y z u (xs (i + 1)) (xs (i + 2)))) tp it mv H locs ls (inv_ans hI (rr_kinds hev hR y z u (xs (i + 1)) (xs (i + 2))) rfl rfl) hP hD hS (lv_sub hl [0, 1, 2, 3] rfl)
set_option maxHeartbeats 1600000 in
set_option maxRecDepth 100000 in
theorem law_22 (S : CallFix p m c code 4 s #[Value.ref b] (c0 :: GW) RL) (hK : KE E s) (hX : EX aS A s s.heap) (hXs : va_X b L xs s s.heap) (hbl : b < s.heap.size) (hbA : ¬ A b) (hcc : cells ≤ room_1.cells) (hss : slots ≤ room_1.slots) (hL : L ≤ 3072) (i0 : Int32) (r x k z u y tb f : Row) (len : Nat) (Y : Ys) (q r2 k2 x2 f2 tp it mv : Row) (hI : Inv i0 r k u tb f len q r2 k2 f2 tp) (hP : PE E (LW E aS ag ah az ak am i0 r x k z u y tb f len Y q r2 k2 x2 f2 tp it mv) H) (hD : DE A (LW E aS ag ah az ak am i0 r x k z u y tb f len Y q r2 k2 x2 f2 tp it mv)) (hS : va_S A s.heap H locs) {i : Nat} (hi : i + 6 ≤ L) {ls : Array Slot} (hl : lv_has ls 4 [(0, .ref b), (1, .ref (ag 0)), (2, .ref (am 0)), (3, .int (nI i))]) (kk : KK p l e s m below meth c b E aS ag ah az ak am A cells slots Q i) : W p l e room_1 s m #[Value.ref b] below meth c H locs cells slots Q (F0 m 904 ls []) := by
  obtain ⟨yb, ye, ys, yv⟩ := Y
  have hev := hI.1
  have hR := hI.2.1
  have hR2 := RI_ev hev hR
  have hRk := hI.2.2.1
  have hU := hI.2.2.2.2.2.1
  have hl9 := hI.2.2.2.2.2.2.1
  have hq3 := hI.2.2.2.2.2.2.2.1
  have hT := hI.2.2.2.2.2.2.2.2.1
  have hP : PE E [[gObj ag ah az ak i0], hillsW E ah r, hillsW E az x, hillsW E ak k, shO E ag z u, shN E ag y, [rdO ag (nI len) (nI ys) (nI yb) (nI ye) (nI yv)], [(ag 3, .inl (E.2.2.1, 120, .inl (sg tb 120)))], [(ag 4, .inl (E.2.1, 7, .inl (sg f 7)))], [mObj am q], [(am 1, .inl (E.2.1, 77, .inl (sg r2 77)))], [(am 2, .inl (E.2.1, 77, .inl (sg k2 77)))], [(am 3, .inl (E.2.1, 77, .inl (sg x2 77)))], [(am 4, .inl (E.2.1, 8, .inl (sg f2 8)))], [(am 5, .inl (E.2.1, 120, .inl (sg tp 120)))], [(am 6, .inl (E.2.2.2.2.2, 7, .inr (.inr (.inr (.inr (fun j => some (aS (12 + j))))))))], [(am 7, .inl (E.2.1, 480, .inl (sg it 480)))], [(am 8, .inl (E.2.1, 4, .inl (sg z 4)))], [(am 9, .inl (E.2.1, 4, .inl (sg u 4)))], [(am 10, .inl (E.2.1, 160, .inl (sg y 160)))], [(am 11, .inl (E.2.1, 40, .inl (sg mv 40)))]] H := hP
  have hD : DE A [[gObj ag ah az ak i0], hillsW E ah r, hillsW E az x, hillsW E ak k, shO E ag z u, shN E ag y, [rdO ag (nI len) (nI ys) (nI yb) (nI ye) (nI yv)], [(ag 3, .inl (E.2.2.1, 120, .inl (sg tb 120)))], [(ag 4, .inl (E.2.1, 7, .inl (sg f 7)))], [mObj am q], [(am 1, .inl (E.2.1, 77, .inl (sg r2 77)))], [(am 2, .inl (E.2.1, 77, .inl (sg k2 77)))], [(am 3, .inl (E.2.1, 77, .inl (sg x2 77)))], [(am 4, .inl (E.2.1, 8, .inl (sg f2 8)))], [(am 5, .inl (E.2.1, 120, .inl (sg tp 120)))], [(am 6, .inl (E.2.2.2.2.2, 7, .inr (.inr (.inr (.inr (fun j => some (aS (12 + j))))))))], [(am 7, .inl (E.2.1, 480, .inl (sg it 480)))], [(am 8, .inl (E.2.1, 4, .inl (sg z 4)))], [(am 9, .inl (E.2.1, 4, .inl (sg u 4)))], [(am 10, .inl (E.2.1, 160, .inl (sg y 160)))], [(am 11, .inl (E.2.1, 40, .inl (sg mv 40)))]] := hD
  refine lv_aload_n S.1 S.2.1 dL_law_904 rfl (lv_at hl 1 rfl) ?_
  refine lv_aload_n S.1 S.2.1 dL_law_905 rfl (lv_at hl 0 rfl) ?_
  refine lv_iload_n S.1 S.2.1 dL_law_906 rfl (lv_at hl 3 rfl) ?_
  refine lv_iconst (v := 1) S.1 S.2.1 dL_law_907 (by decide) ?_
  refine lv_iadd S.1 S.2.1 dL_law_908 ?_
  refine lv_eqi (y := nI (i + 1)) (nI_add i 1) ?_
  refine b_sld (j := i + 1) S.1 S.2.1 hXs hbl hbA hS (by omega) (by omega) dL_law_909 ?_
  refine go_I (run_V (As := [.int (xs (i + 1))]) (rest := []) (n := 1) S hK (bl_P hP [0, 1, 8] rfl) (bl_D hD [0, 1, 8] rfl rfl) (c_X4_storms l E ag ah az ak i0 r f (xs (i + 1)) hR) gV_L_104 (by decide +kernel) rfl ⟨rfl, rfl⟩ ⟨Nat.le_of_ble_eq_true rfl, Nat.le_of_ble_eq_true rfl⟩ (ci := 4) (q0 := 0) rfl rfl hl.1 (Nat.le_of_ble_eq_true rfl) dL_law_910 ⟨hcc, hss⟩) hP hD hS [0, 1, 8] rfl (had_cons rfl (had_cons hw_ad (had_cons cell_ad rfl))) (Bs' := [[gObj ag ah az ak i0], hillsW E ah (rowR r (rStorms r (xs (i + 1)))), hillsW E az x, hillsW E ak k, shO E ag z u, shN E ag y, [rdO ag (nI len) (nI ys) (nI yb) (nI ye) (nI yv)], [(ag 3, .inl (E.2.2.1, 120, .inl (sg tb 120)))], [(ag 4, .inl (E.2.1, 7, .inl (sg (fndC f (rStorms r (xs (i + 1)))) 7)))], [mObj am q], [(am 1, .inl (E.2.1, 77, .inl (sg r2 77)))], [(am 2, .inl (E.2.1, 77, .inl (sg k2 77)))], [(am 3, .inl (E.2.1, 77, .inl (sg x2 77)))], [(am 4, .inl (E.2.1, 8, .inl (sg f2 8)))], [(am 5, .inl (E.2.1, 120, .inl (sg tp 120)))], [(am 6, .inl (E.2.2.2.2.2, 7, .inr (.inr (.inr (.inr (fun j => some (aS (12 + j))))))))], [(am 7, .inl (E.2.1, 480, .inl (sg it 480)))], [(am 8, .inl (E.2.1, 4, .inl (sg z 4)))], [(am 9, .inl (E.2.1, 4, .inl (sg u 4)))], [(am 10, .inl (E.2.1, 160, .inl (sg y 160)))], [(am 11, .inl (E.2.1, 40, .inl (sg mv 40)))]]) rfl (fun H locs hP hD hS => ?_)
  refine lv_aload_n S.1 S.2.1 dL_law_913 rfl (lv_at hl 2 rfl) ?_
  refine lv_aload_n S.1 S.2.1 dL_law_914 rfl (lv_at hl 0 rfl) ?_
  refine lv_iload_n S.1 S.2.1 dL_law_915 rfl (lv_at hl 3 rfl) ?_
  refine lv_iconst (v := 1) S.1 S.2.1 dL_law_916 (by decide) ?_
  refine lv_iadd S.1 S.2.1 dL_law_917 ?_
  refine lv_eqi (y := nI (i + 1)) (nI_add i 1) ?_
  refine b_sld (j := i + 1) S.1 S.2.1 hXs hbl hbA hS (by omega) (by omega) dL_law_918 ?_
  refine go_I (run_V (As := [.int (xs (i + 1))]) (rest := [.int (ansR (rStorms r (xs (i + 1))))]) (n := 1) S hK (bl_P hP [9, 10, 13] rfl) (bl_D hD [9, 10, 13] rfl rfl) (c_X5_storms l E am q r2 f2 (xs (i + 1)) hR2) gV_L_107 (by decide +kernel) rfl ⟨rfl, rfl⟩ ⟨Nat.le_of_ble_eq_true rfl, Nat.le_of_ble_eq_true rfl⟩ (ci := 5) (q0 := 0) rfl rfl hl.1 (Nat.le_of_ble_eq_true rfl) dL_law_919 ⟨hcc, hss⟩) hP hD hS [9, 10, 13] rfl (had_cons rfl (had_cons cell_ad (had_cons cell_ad rfl))) (Bs' := [[gObj ag ah az ak i0], hillsW E ah (rowR r (rStorms r (xs (i + 1)))), hillsW E az x, hillsW E ak k, shO E ag z u, shN E ag y, [rdO ag (nI len) (nI ys) (nI yb) (nI ye) (nI yv)], [(ag 3, .inl (E.2.2.1, 120, .inl (sg tb 120)))], [(ag 4, .inl (E.2.1, 7, .inl (sg (fndC f (rStorms r (xs (i + 1)))) 7)))], [mObj am q], [(am 1, .inl (E.2.1, 77, .inl (sg (rowR r2 (rStorms r2 (xs (i + 1)))) 77)))], [(am 2, .inl (E.2.1, 77, .inl (sg k2 77)))], [(am 3, .inl (E.2.1, 77, .inl (sg x2 77)))], [(am 4, .inl (E.2.1, 8, .inl (sg (fndM f2 (rStorms r2 (xs (i + 1)))) 8)))], [(am 5, .inl (E.2.1, 120, .inl (sg tp 120)))], [(am 6, .inl (E.2.2.2.2.2, 7, .inr (.inr (.inr (.inr (fun j => some (aS (12 + j))))))))], [(am 7, .inl (E.2.1, 480, .inl (sg it 480)))], [(am 8, .inl (E.2.1, 4, .inl (sg z 4)))], [(am 9, .inl (E.2.1, 4, .inl (sg u 4)))], [(am 10, .inl (E.2.1, 160, .inl (sg y 160)))], [(am 11, .inl (E.2.1, 40, .inl (sg mv 40)))]]) rfl (fun H locs hP hD hS => ?_)
  refine lv_icmp_eq (tgt := 1399) S.1 S.2.1 dL_law_922 (by decide) (fun _ => ?_) (fun h => absurd (RR_ans (rr_storms hev hR (xs (i + 1))).1) h)
  exact kk i0 (rowR r (rStorms r (xs (i + 1)))) x k z u y tb (fndC f (rStorms r (xs (i + 1)))) len (yb, ye, ys, yv) q (rowR r2 (rStorms r2 (xs (i + 1)))) k2 x2 (fndM f2 (rStorms r2 (xs (i + 1)))) tp it mv H locs ls (inv_row hI (rr_storms hev hR (xs (i + 1)))) hP hD hS (lv_sub hl [0, 1, 2, 3] rfl)
set_option maxHeartbeats 1600000 in
set_option maxRecDepth 100000 in
theorem law_23 (S : CallFix p m c code 4 s #[Value.ref b] (c0 :: GW) RL) (hK : KE E s) (hX : EX aS A s s.heap) (hXs : va_X b L xs s s.heap) (hbl : b < s.heap.size) (hbA : ¬ A b) (hcc : cells ≤ room_1.cells) (hss : slots ≤ room_1.slots) (hL : L ≤ 3072) (i0 : Int32) (r x k z u y tb f : Row) (len : Nat) (Y : Ys) (q r2 k2 x2 f2 tp it mv : Row) (hI : Inv i0 r k u tb f len q r2 k2 f2 tp) (hP : PE E (LW E aS ag ah az ak am i0 r x k z u y tb f len Y q r2 k2 x2 f2 tp it mv) H) (hD : DE A (LW E aS ag ah az ak am i0 r x k z u y tb f len Y q r2 k2 x2 f2 tp it mv)) (hS : va_S A s.heap H locs) {i : Nat} (hi : i + 6 ≤ L) {ls : Array Slot} (hl : lv_has ls 4 [(0, .ref b), (1, .ref (ag 0)), (2, .ref (am 0)), (3, .int (nI i))]) (kk : KK p l e s m below meth c b E aS ag ah az ak am A cells slots Q i) : W p l e room_1 s m #[Value.ref b] below meth c H locs cells slots Q (F0 m 927 ls []) := by
  obtain ⟨yb, ye, ys, yv⟩ := Y
  have hev := hI.1
  have hR := hI.2.1
  have hR2 := RI_ev hev hR
  have hRk := hI.2.2.1
  have hU := hI.2.2.2.2.2.1
  have hl9 := hI.2.2.2.2.2.2.1
  have hq3 := hI.2.2.2.2.2.2.2.1
  have hT := hI.2.2.2.2.2.2.2.2.1
  have hP : PE E [[gObj ag ah az ak i0], hillsW E ah r, hillsW E az x, hillsW E ak k, shO E ag z u, shN E ag y, [rdO ag (nI len) (nI ys) (nI yb) (nI ye) (nI yv)], [(ag 3, .inl (E.2.2.1, 120, .inl (sg tb 120)))], [(ag 4, .inl (E.2.1, 7, .inl (sg f 7)))], [mObj am q], [(am 1, .inl (E.2.1, 77, .inl (sg r2 77)))], [(am 2, .inl (E.2.1, 77, .inl (sg k2 77)))], [(am 3, .inl (E.2.1, 77, .inl (sg x2 77)))], [(am 4, .inl (E.2.1, 8, .inl (sg f2 8)))], [(am 5, .inl (E.2.1, 120, .inl (sg tp 120)))], [(am 6, .inl (E.2.2.2.2.2, 7, .inr (.inr (.inr (.inr (fun j => some (aS (12 + j))))))))], [(am 7, .inl (E.2.1, 480, .inl (sg it 480)))], [(am 8, .inl (E.2.1, 4, .inl (sg z 4)))], [(am 9, .inl (E.2.1, 4, .inl (sg u 4)))], [(am 10, .inl (E.2.1, 160, .inl (sg y 160)))], [(am 11, .inl (E.2.1, 40, .inl (sg mv 40)))]] H := hP
  have hD : DE A [[gObj ag ah az ak i0], hillsW E ah r, hillsW E az x, hillsW E ak k, shO E ag z u, shN E ag y, [rdO ag (nI len) (nI ys) (nI yb) (nI ye) (nI yv)], [(ag 3, .inl (E.2.2.1, 120, .inl (sg tb 120)))], [(ag 4, .inl (E.2.1, 7, .inl (sg f 7)))], [mObj am q], [(am 1, .inl (E.2.1, 77, .inl (sg r2 77)))], [(am 2, .inl (E.2.1, 77, .inl (sg k2 77)))], [(am 3, .inl (E.2.1, 77, .inl (sg x2 77)))], [(am 4, .inl (E.2.1, 8, .inl (sg f2 8)))], [(am 5, .inl (E.2.1, 120, .inl (sg tp 120)))], [(am 6, .inl (E.2.2.2.2.2, 7, .inr (.inr (.inr (.inr (fun j => some (aS (12 + j))))))))], [(am 7, .inl (E.2.1, 480, .inl (sg it 480)))], [(am 8, .inl (E.2.1, 4, .inl (sg z 4)))], [(am 9, .inl (E.2.1, 4, .inl (sg u 4)))], [(am 10, .inl (E.2.1, 160, .inl (sg y 160)))], [(am 11, .inl (E.2.1, 40, .inl (sg mv 40)))]] := hD
  refine lv_aload_n S.1 S.2.1 dL_law_927 rfl (lv_at hl 1 rfl) ?_
  refine lv_aload_n S.1 S.2.1 dL_law_928 rfl (lv_at hl 0 rfl) ?_
  refine lv_iload_n S.1 S.2.1 dL_law_929 rfl (lv_at hl 3 rfl) ?_
  refine lv_iconst (v := 1) S.1 S.2.1 dL_law_930 (by decide) ?_
  refine lv_iadd S.1 S.2.1 dL_law_931 ?_
  refine lv_eqi (y := nI (i + 1)) (nI_add i 1) ?_
  refine b_sld (j := i + 1) S.1 S.2.1 hXs hbl hbA hS (by omega) (by omega) dL_law_932 ?_
  refine lv_aload_n S.1 S.2.1 dL_law_933 rfl (lv_at hl 0 rfl) ?_
  refine lv_iload_n S.1 S.2.1 dL_law_934 rfl (lv_at hl 3 rfl) ?_
  refine lv_iconst (v := 2) S.1 S.2.1 dL_law_935 (by decide) ?_
  refine lv_iadd S.1 S.2.1 dL_law_936 ?_
  refine lv_eqi (y := nI (i + 2)) (nI_add i 2) ?_
  refine b_sld (j := i + 2) S.1 S.2.1 hXs hbl hbA hS (by omega) (by omega) dL_law_937 ?_
  refine lv_aload_n S.1 S.2.1 dL_law_938 rfl (lv_at hl 0 rfl) ?_
  refine lv_iload_n S.1 S.2.1 dL_law_939 rfl (lv_at hl 3 rfl) ?_
  refine lv_iconst (v := 3) S.1 S.2.1 dL_law_940 (by decide) ?_
  refine lv_iadd S.1 S.2.1 dL_law_941 ?_
  refine lv_eqi (y := nI (i + 3)) (nI_add i 3) ?_
  refine b_sld (j := i + 3) S.1 S.2.1 hXs hbl hbA hS (by omega) (by omega) dL_law_942 ?_
  refine go_L (run_V (As := [.int (xs (i + 1)), .int (xs (i + 2)), .int (xs (i + 3))]) (rest := []) (n := 3) S hK (bl_P hP [0, 1, 8] rfl) (bl_D hD [0, 1, 8] rfl rfl) (c_X4_odds l E ag ah az ak i0 r f (xs (i + 1)) (xs (i + 2)) (xs (i + 3)) hR) gV_L_108 (by decide +kernel) rfl ⟨rfl, rfl⟩ ⟨Nat.le_of_ble_eq_true rfl, Nat.le_of_ble_eq_true rfl⟩ (ci := 4) (q0 := 0) rfl rfl hl.1 (Nat.le_of_ble_eq_true rfl) dL_law_943 ⟨hcc, hss⟩) hP hD hS [0, 1, 8] rfl (had_cons rfl (had_cons rfl (had_cons cell_ad rfl))) (Bs' := [[gObj ag ah az ak i0], hillsW E ah r, hillsW E az x, hillsW E ak k, shO E ag z u, shN E ag y, [rdO ag (nI len) (nI ys) (nI yb) (nI ye) (nI yv)], [(ag 3, .inl (E.2.2.1, 120, .inl (sg tb 120)))], [(ag 4, .inl (E.2.1, 7, .inl (sg (fndCL f (rOdds r (xs (i + 1)) (xs (i + 2)) (xs (i + 3)))) 7)))], [mObj am q], [(am 1, .inl (E.2.1, 77, .inl (sg r2 77)))], [(am 2, .inl (E.2.1, 77, .inl (sg k2 77)))], [(am 3, .inl (E.2.1, 77, .inl (sg x2 77)))], [(am 4, .inl (E.2.1, 8, .inl (sg f2 8)))], [(am 5, .inl (E.2.1, 120, .inl (sg tp 120)))], [(am 6, .inl (E.2.2.2.2.2, 7, .inr (.inr (.inr (.inr (fun j => some (aS (12 + j))))))))], [(am 7, .inl (E.2.1, 480, .inl (sg it 480)))], [(am 8, .inl (E.2.1, 4, .inl (sg z 4)))], [(am 9, .inl (E.2.1, 4, .inl (sg u 4)))], [(am 10, .inl (E.2.1, 160, .inl (sg y 160)))], [(am 11, .inl (E.2.1, 40, .inl (sg mv 40)))]]) rfl (fun H locs hP hD hS => ?_)
  refine lv_aload_n S.1 S.2.1 dL_law_946 rfl (lv_at hl 2 rfl) ?_
  refine lv_aload_n S.1 S.2.1 dL_law_947 rfl (lv_at hl 0 rfl) ?_
  refine lv_iload_n S.1 S.2.1 dL_law_948 rfl (lv_at hl 3 rfl) ?_
  refine lv_iconst (v := 1) S.1 S.2.1 dL_law_949 (by decide) ?_
  refine lv_iadd S.1 S.2.1 dL_law_950 ?_
  refine lv_eqi (y := nI (i + 1)) (nI_add i 1) ?_
  refine b_sld (j := i + 1) S.1 S.2.1 hXs hbl hbA hS (by omega) (by omega) dL_law_951 ?_
  refine lv_aload_n S.1 S.2.1 dL_law_952 rfl (lv_at hl 0 rfl) ?_
  refine lv_iload_n S.1 S.2.1 dL_law_953 rfl (lv_at hl 3 rfl) ?_
  refine lv_iconst (v := 2) S.1 S.2.1 dL_law_954 (by decide) ?_
  refine lv_iadd S.1 S.2.1 dL_law_955 ?_
  refine lv_eqi (y := nI (i + 2)) (nI_add i 2) ?_
  refine b_sld (j := i + 2) S.1 S.2.1 hXs hbl hbA hS (by omega) (by omega) dL_law_956 ?_
  refine lv_aload_n S.1 S.2.1 dL_law_957 rfl (lv_at hl 0 rfl) ?_
  refine lv_iload_n S.1 S.2.1 dL_law_958 rfl (lv_at hl 3 rfl) ?_
  refine lv_iconst (v := 3) S.1 S.2.1 dL_law_959 (by decide) ?_
  refine lv_iadd S.1 S.2.1 dL_law_960 ?_
  refine lv_eqi (y := nI (i + 3)) (nI_add i 3) ?_
  refine b_sld (j := i + 3) S.1 S.2.1 hXs hbl hbA hS (by omega) (by omega) dL_law_961 ?_
  refine go_L (run_V (As := [.int (xs (i + 1)), .int (xs (i + 2)), .int (xs (i + 3))]) (rest := [.long (ansL (rOdds r (xs (i + 1)) (xs (i + 2)) (xs (i + 3))))]) (n := 3) S hK (bl_P hP [9, 10, 13] rfl) (bl_D hD [9, 10, 13] rfl rfl) (c_X5_odds l E am q r2 f2 (xs (i + 1)) (xs (i + 2)) (xs (i + 3)) hR2) gV_L_112 (by decide +kernel) rfl ⟨rfl, rfl⟩ ⟨Nat.le_of_ble_eq_true rfl, Nat.le_of_ble_eq_true rfl⟩ (ci := 5) (q0 := 0) rfl rfl hl.1 (Nat.le_of_ble_eq_true rfl) dL_law_962 ⟨hcc, hss⟩) hP hD hS [9, 10, 13] rfl (had_cons rfl (had_cons rfl (had_cons cell_ad rfl))) (Bs' := [[gObj ag ah az ak i0], hillsW E ah r, hillsW E az x, hillsW E ak k, shO E ag z u, shN E ag y, [rdO ag (nI len) (nI ys) (nI yb) (nI ye) (nI yv)], [(ag 3, .inl (E.2.2.1, 120, .inl (sg tb 120)))], [(ag 4, .inl (E.2.1, 7, .inl (sg (fndCL f (rOdds r (xs (i + 1)) (xs (i + 2)) (xs (i + 3)))) 7)))], [mObj am q], [(am 1, .inl (E.2.1, 77, .inl (sg r2 77)))], [(am 2, .inl (E.2.1, 77, .inl (sg k2 77)))], [(am 3, .inl (E.2.1, 77, .inl (sg x2 77)))], [(am 4, .inl (E.2.1, 8, .inl (sg (fndL f2 (rOdds r2 (xs (i + 1)) (xs (i + 2)) (xs (i + 3)))) 8)))], [(am 5, .inl (E.2.1, 120, .inl (sg tp 120)))], [(am 6, .inl (E.2.2.2.2.2, 7, .inr (.inr (.inr (.inr (fun j => some (aS (12 + j))))))))], [(am 7, .inl (E.2.1, 480, .inl (sg it 480)))], [(am 8, .inl (E.2.1, 4, .inl (sg z 4)))], [(am 9, .inl (E.2.1, 4, .inl (sg u 4)))], [(am 10, .inl (E.2.1, 160, .inl (sg y 160)))], [(am 11, .inl (E.2.1, 40, .inl (sg mv 40)))]]) rfl (fun H locs hP hD hS => ?_)
  refine W.lcmp S.1 S.2.1 dL_law_965 ?_
  refine lv_if_eq (tgt := 1399) S.1 S.2.1 dL_law_966 (by decide) (fun _ => ?_) (fun h => absurd ((lg_cmp_eq _ _).mpr (by rw [rr_odds hev hR])) h)
  exact kk i0 r x k z u y tb (fndCL f (rOdds r (xs (i + 1)) (xs (i + 2)) (xs (i + 3)))) len (yb, ye, ys, yv) q r2 k2 x2 (fndL f2 (rOdds r2 (xs (i + 1)) (xs (i + 2)) (xs (i + 3)))) tp it mv H locs ls (inv_odds hI (xs (i + 1)) (xs (i + 2)) (xs (i + 3))) hP hD hS (lv_sub hl [0, 1, 2, 3] rfl)
set_option maxHeartbeats 1600000 in
set_option maxRecDepth 100000 in
theorem law_24 (S : CallFix p m c code 4 s #[Value.ref b] (c0 :: GW) RL) (hK : KE E s) (hX : EX aS A s s.heap) (hXs : va_X b L xs s s.heap) (hbl : b < s.heap.size) (hbA : ¬ A b) (hcc : cells ≤ room_1.cells) (hss : slots ≤ room_1.slots) (hL : L ≤ 3072) (i0 : Int32) (r x k z u y tb f : Row) (len : Nat) (Y : Ys) (q r2 k2 x2 f2 tp it mv : Row) (hI : Inv i0 r k u tb f len q r2 k2 f2 tp) (hP : PE E (LW E aS ag ah az ak am i0 r x k z u y tb f len Y q r2 k2 x2 f2 tp it mv) H) (hD : DE A (LW E aS ag ah az ak am i0 r x k z u y tb f len Y q r2 k2 x2 f2 tp it mv)) (hS : va_S A s.heap H locs) {i : Nat} (hi : i + 6 ≤ L) {ls : Array Slot} (hl : lv_has ls 4 [(0, .ref b), (1, .ref (ag 0)), (2, .ref (am 0)), (3, .int (nI i))]) (kk : KK p l e s m below meth c b E aS ag ah az ak am A cells slots Q i) : W p l e room_1 s m #[Value.ref b] below meth c H locs cells slots Q (F0 m 971 ls []) := by
  obtain ⟨yb, ye, ys, yv⟩ := Y
  have hev := hI.1
  have hR := hI.2.1
  have hR2 := RI_ev hev hR
  have hRk := hI.2.2.1
  have hU := hI.2.2.2.2.2.1
  have hl9 := hI.2.2.2.2.2.2.1
  have hq3 := hI.2.2.2.2.2.2.2.1
  have hT := hI.2.2.2.2.2.2.2.2.1
  have hP : PE E [[gObj ag ah az ak i0], hillsW E ah r, hillsW E az x, hillsW E ak k, shO E ag z u, shN E ag y, [rdO ag (nI len) (nI ys) (nI yb) (nI ye) (nI yv)], [(ag 3, .inl (E.2.2.1, 120, .inl (sg tb 120)))], [(ag 4, .inl (E.2.1, 7, .inl (sg f 7)))], [mObj am q], [(am 1, .inl (E.2.1, 77, .inl (sg r2 77)))], [(am 2, .inl (E.2.1, 77, .inl (sg k2 77)))], [(am 3, .inl (E.2.1, 77, .inl (sg x2 77)))], [(am 4, .inl (E.2.1, 8, .inl (sg f2 8)))], [(am 5, .inl (E.2.1, 120, .inl (sg tp 120)))], [(am 6, .inl (E.2.2.2.2.2, 7, .inr (.inr (.inr (.inr (fun j => some (aS (12 + j))))))))], [(am 7, .inl (E.2.1, 480, .inl (sg it 480)))], [(am 8, .inl (E.2.1, 4, .inl (sg z 4)))], [(am 9, .inl (E.2.1, 4, .inl (sg u 4)))], [(am 10, .inl (E.2.1, 160, .inl (sg y 160)))], [(am 11, .inl (E.2.1, 40, .inl (sg mv 40)))]] H := hP
  have hD : DE A [[gObj ag ah az ak i0], hillsW E ah r, hillsW E az x, hillsW E ak k, shO E ag z u, shN E ag y, [rdO ag (nI len) (nI ys) (nI yb) (nI ye) (nI yv)], [(ag 3, .inl (E.2.2.1, 120, .inl (sg tb 120)))], [(ag 4, .inl (E.2.1, 7, .inl (sg f 7)))], [mObj am q], [(am 1, .inl (E.2.1, 77, .inl (sg r2 77)))], [(am 2, .inl (E.2.1, 77, .inl (sg k2 77)))], [(am 3, .inl (E.2.1, 77, .inl (sg x2 77)))], [(am 4, .inl (E.2.1, 8, .inl (sg f2 8)))], [(am 5, .inl (E.2.1, 120, .inl (sg tp 120)))], [(am 6, .inl (E.2.2.2.2.2, 7, .inr (.inr (.inr (.inr (fun j => some (aS (12 + j))))))))], [(am 7, .inl (E.2.1, 480, .inl (sg it 480)))], [(am 8, .inl (E.2.1, 4, .inl (sg z 4)))], [(am 9, .inl (E.2.1, 4, .inl (sg u 4)))], [(am 10, .inl (E.2.1, 160, .inl (sg y 160)))], [(am 11, .inl (E.2.1, 40, .inl (sg mv 40)))]] := hD
  refine lv_aload_n S.1 S.2.1 dL_law_971 rfl (lv_at hl 1 rfl) ?_
  refine lv_aload_n S.1 S.2.1 dL_law_972 rfl (lv_at hl 0 rfl) ?_
  refine lv_iload_n S.1 S.2.1 dL_law_973 rfl (lv_at hl 3 rfl) ?_
  refine lv_iconst (v := 1) S.1 S.2.1 dL_law_974 (by decide) ?_
  refine lv_iadd S.1 S.2.1 dL_law_975 ?_
  refine lv_eqi (y := nI (i + 1)) (nI_add i 1) ?_
  refine b_sld (j := i + 1) S.1 S.2.1 hXs hbl hbA hS (by omega) (by omega) dL_law_976 ?_
  refine go_I (run_V (As := [.int (xs (i + 1))]) (rest := []) (n := 1) S hK (bl_P hP [0, 1] rfl) (bl_D hD [0, 1] rfl rfl) (c_X4_seed l E ag ah az ak i0 r (xs (i + 1)) ) gV_L_113 (by decide +kernel) rfl ⟨rfl, rfl⟩ ⟨Nat.le_of_ble_eq_true rfl, Nat.le_of_ble_eq_true rfl⟩ (ci := 4) (q0 := 0) rfl rfl hl.1 (Nat.le_of_ble_eq_true rfl) dL_law_977 ⟨hcc, hss⟩) hP hD hS [0, 1] rfl (had_cons rfl (had_cons hw_ad rfl)) (Bs' := [[gObj ag ah az ak i0], hillsW E ah (upd r 2 (xs (i + 1))), hillsW E az x, hillsW E ak k, shO E ag z u, shN E ag y, [rdO ag (nI len) (nI ys) (nI yb) (nI ye) (nI yv)], [(ag 3, .inl (E.2.2.1, 120, .inl (sg tb 120)))], [(ag 4, .inl (E.2.1, 7, .inl (sg f 7)))], [mObj am q], [(am 1, .inl (E.2.1, 77, .inl (sg r2 77)))], [(am 2, .inl (E.2.1, 77, .inl (sg k2 77)))], [(am 3, .inl (E.2.1, 77, .inl (sg x2 77)))], [(am 4, .inl (E.2.1, 8, .inl (sg f2 8)))], [(am 5, .inl (E.2.1, 120, .inl (sg tp 120)))], [(am 6, .inl (E.2.2.2.2.2, 7, .inr (.inr (.inr (.inr (fun j => some (aS (12 + j))))))))], [(am 7, .inl (E.2.1, 480, .inl (sg it 480)))], [(am 8, .inl (E.2.1, 4, .inl (sg z 4)))], [(am 9, .inl (E.2.1, 4, .inl (sg u 4)))], [(am 10, .inl (E.2.1, 160, .inl (sg y 160)))], [(am 11, .inl (E.2.1, 40, .inl (sg mv 40)))]]) rfl (fun H locs hP hD hS => ?_)
  refine lv_aload_n S.1 S.2.1 dL_law_980 rfl (lv_at hl 2 rfl) ?_
  refine lv_aload_n S.1 S.2.1 dL_law_981 rfl (lv_at hl 0 rfl) ?_
  refine lv_iload_n S.1 S.2.1 dL_law_982 rfl (lv_at hl 3 rfl) ?_
  refine lv_iconst (v := 1) S.1 S.2.1 dL_law_983 (by decide) ?_
  refine lv_iadd S.1 S.2.1 dL_law_984 ?_
  refine lv_eqi (y := nI (i + 1)) (nI_add i 1) ?_
  refine b_sld (j := i + 1) S.1 S.2.1 hXs hbl hbA hS (by omega) (by omega) dL_law_985 ?_
  refine go_I (run_V (As := [.int (xs (i + 1))]) (rest := [.int (r 2)]) (n := 1) S hK (bl_P hP [9, 10] rfl) (bl_D hD [9, 10] rfl rfl) (c_X5_seed l E am q r2 (xs (i + 1)) ) gV_L_116 (by decide +kernel) rfl ⟨rfl, rfl⟩ ⟨Nat.le_of_ble_eq_true rfl, Nat.le_of_ble_eq_true rfl⟩ (ci := 5) (q0 := 0) rfl rfl hl.1 (Nat.le_of_ble_eq_true rfl) dL_law_986 ⟨hcc, hss⟩) hP hD hS [9, 10] rfl (had_cons rfl (had_cons cell_ad rfl)) (Bs' := [[gObj ag ah az ak i0], hillsW E ah (upd r 2 (xs (i + 1))), hillsW E az x, hillsW E ak k, shO E ag z u, shN E ag y, [rdO ag (nI len) (nI ys) (nI yb) (nI ye) (nI yv)], [(ag 3, .inl (E.2.2.1, 120, .inl (sg tb 120)))], [(ag 4, .inl (E.2.1, 7, .inl (sg f 7)))], [mObj am q], [(am 1, .inl (E.2.1, 77, .inl (sg (upd r2 2 (xs (i + 1))) 77)))], [(am 2, .inl (E.2.1, 77, .inl (sg k2 77)))], [(am 3, .inl (E.2.1, 77, .inl (sg x2 77)))], [(am 4, .inl (E.2.1, 8, .inl (sg f2 8)))], [(am 5, .inl (E.2.1, 120, .inl (sg tp 120)))], [(am 6, .inl (E.2.2.2.2.2, 7, .inr (.inr (.inr (.inr (fun j => some (aS (12 + j))))))))], [(am 7, .inl (E.2.1, 480, .inl (sg it 480)))], [(am 8, .inl (E.2.1, 4, .inl (sg z 4)))], [(am 9, .inl (E.2.1, 4, .inl (sg u 4)))], [(am 10, .inl (E.2.1, 160, .inl (sg y 160)))], [(am 11, .inl (E.2.1, 40, .inl (sg mv 40)))]]) rfl (fun H locs hP hD hS => ?_)
  refine lv_icmp_eq (tgt := 1399) S.1 S.2.1 dL_law_989 (by decide) (fun _ => ?_) (fun h => absurd (hev.lo (by decide)) h)
  exact kk i0 (upd r 2 (xs (i + 1))) x k z u y tb f len (yb, ye, ys, yv) q (upd r2 2 (xs (i + 1))) k2 x2 f2 tp it mv H locs ls (inv_r hI (hev.up (k := 2) (by decide) rfl) (RI_2 hR)) hP hD hS (lv_sub hl [0, 1, 2, 3] rfl)
set_option maxHeartbeats 1600000 in
set_option maxRecDepth 100000 in
theorem law_25 (S : CallFix p m c code 4 s #[Value.ref b] (c0 :: GW) RL) (hK : KE E s) (hX : EX aS A s s.heap) (hXs : va_X b L xs s s.heap) (hbl : b < s.heap.size) (hbA : ¬ A b) (hcc : cells ≤ room_1.cells) (hss : slots ≤ room_1.slots) (hL : L ≤ 3072) (i0 : Int32) (r x k z u y tb f : Row) (len : Nat) (Y : Ys) (q r2 k2 x2 f2 tp it mv : Row) (hI : Inv i0 r k u tb f len q r2 k2 f2 tp) (hP : PE E (LW E aS ag ah az ak am i0 r x k z u y tb f len Y q r2 k2 x2 f2 tp it mv) H) (hD : DE A (LW E aS ag ah az ak am i0 r x k z u y tb f len Y q r2 k2 x2 f2 tp it mv)) (hS : va_S A s.heap H locs) {i : Nat} (hi : i + 6 ≤ L) {ls : Array Slot} (hl : lv_has ls 4 [(0, .ref b), (1, .ref (ag 0)), (2, .ref (am 0)), (3, .int (nI i))]) (kk : KK p l e s m below meth c b E aS ag ah az ak am A cells slots Q i) : W p l e room_1 s m #[Value.ref b] below meth c H locs cells slots Q (F0 m 994 ls []) := by
  obtain ⟨yb, ye, ys, yv⟩ := Y
  have hev := hI.1
  have hR := hI.2.1
  have hR2 := RI_ev hev hR
  have hRk := hI.2.2.1
  have hU := hI.2.2.2.2.2.1
  have hl9 := hI.2.2.2.2.2.2.1
  have hq3 := hI.2.2.2.2.2.2.2.1
  have hT := hI.2.2.2.2.2.2.2.2.1
  have hP : PE E [[gObj ag ah az ak i0], hillsW E ah r, hillsW E az x, hillsW E ak k, shO E ag z u, shN E ag y, [rdO ag (nI len) (nI ys) (nI yb) (nI ye) (nI yv)], [(ag 3, .inl (E.2.2.1, 120, .inl (sg tb 120)))], [(ag 4, .inl (E.2.1, 7, .inl (sg f 7)))], [mObj am q], [(am 1, .inl (E.2.1, 77, .inl (sg r2 77)))], [(am 2, .inl (E.2.1, 77, .inl (sg k2 77)))], [(am 3, .inl (E.2.1, 77, .inl (sg x2 77)))], [(am 4, .inl (E.2.1, 8, .inl (sg f2 8)))], [(am 5, .inl (E.2.1, 120, .inl (sg tp 120)))], [(am 6, .inl (E.2.2.2.2.2, 7, .inr (.inr (.inr (.inr (fun j => some (aS (12 + j))))))))], [(am 7, .inl (E.2.1, 480, .inl (sg it 480)))], [(am 8, .inl (E.2.1, 4, .inl (sg z 4)))], [(am 9, .inl (E.2.1, 4, .inl (sg u 4)))], [(am 10, .inl (E.2.1, 160, .inl (sg y 160)))], [(am 11, .inl (E.2.1, 40, .inl (sg mv 40)))]] H := hP
  have hD : DE A [[gObj ag ah az ak i0], hillsW E ah r, hillsW E az x, hillsW E ak k, shO E ag z u, shN E ag y, [rdO ag (nI len) (nI ys) (nI yb) (nI ye) (nI yv)], [(ag 3, .inl (E.2.2.1, 120, .inl (sg tb 120)))], [(ag 4, .inl (E.2.1, 7, .inl (sg f 7)))], [mObj am q], [(am 1, .inl (E.2.1, 77, .inl (sg r2 77)))], [(am 2, .inl (E.2.1, 77, .inl (sg k2 77)))], [(am 3, .inl (E.2.1, 77, .inl (sg x2 77)))], [(am 4, .inl (E.2.1, 8, .inl (sg f2 8)))], [(am 5, .inl (E.2.1, 120, .inl (sg tp 120)))], [(am 6, .inl (E.2.2.2.2.2, 7, .inr (.inr (.inr (.inr (fun j => some (aS (12 + j))))))))], [(am 7, .inl (E.2.1, 480, .inl (sg it 480)))], [(am 8, .inl (E.2.1, 4, .inl (sg z 4)))], [(am 9, .inl (E.2.1, 4, .inl (sg u 4)))], [(am 10, .inl (E.2.1, 160, .inl (sg y 160)))], [(am 11, .inl (E.2.1, 40, .inl (sg mv 40)))]] := hD
  refine lv_aload_n S.1 S.2.1 dL_law_994 rfl (lv_at hl 1 rfl) ?_
  refine lv_aload_n S.1 S.2.1 dL_law_995 rfl (lv_at hl 0 rfl) ?_
  refine lv_iload_n S.1 S.2.1 dL_law_996 rfl (lv_at hl 3 rfl) ?_
  refine lv_iconst (v := 1) S.1 S.2.1 dL_law_997 (by decide) ?_
  refine lv_iadd S.1 S.2.1 dL_law_998 ?_
  refine lv_eqi (y := nI (i + 1)) (nI_add i 1) ?_
  refine b_sld (j := i + 1) S.1 S.2.1 hXs hbl hbA hS (by omega) (by omega) dL_law_999 ?_
  refine lv_aload_n S.1 S.2.1 dL_law_1000 rfl (lv_at hl 0 rfl) ?_
  refine lv_iload_n S.1 S.2.1 dL_law_1001 rfl (lv_at hl 3 rfl) ?_
  refine lv_iconst (v := 2) S.1 S.2.1 dL_law_1002 (by decide) ?_
  refine lv_iadd S.1 S.2.1 dL_law_1003 ?_
  refine lv_eqi (y := nI (i + 2)) (nI_add i 2) ?_
  refine b_sld (j := i + 2) S.1 S.2.1 hXs hbl hbA hS (by omega) (by omega) dL_law_1004 ?_
  refine go_I (run_V (As := [.int (xs (i + 1)), .int (xs (i + 2))]) (rest := []) (n := 2) S hK (bl_P hP [0, 8, 6, 7] rfl) (bl_D hD [0, 8, 6, 7] rfl rfl) (c_X4_feed l E ag ah az ak i0 f tb len (nI ys) (nI yb) (nI ye) (nI yv) (xs (i + 1)) (xs (i + 2)) hl9) gV_L_117 (by decide +kernel) rfl ⟨rfl, rfl⟩ ⟨Nat.le_of_ble_eq_true rfl, Nat.le_of_ble_eq_true rfl⟩ (ci := 4) (q0 := 0) rfl rfl hl.1 (Nat.le_of_ble_eq_true rfl) dL_law_1005 ⟨hcc, hss⟩) hP hD hS [0, 8, 6, 7] rfl (had_cons rfl (had_cons cell_ad (had_cons ro_ad (had_cons cell_ad rfl)))) (Bs' := [[gObj ag ah az ak i0], hillsW E ah r, hillsW E az x, hillsW E ak k, shO E ag z u, shN E ag y, [rdO ag (lenF (nI len) (rFeed len (xs (i + 2)))) (nI ys) (nI yb) (nI ye) (nI yv)], [(ag 3, .inl (E.2.2.1, 120, .inl (sg (pick (rFeed len (xs (i + 2))) tb (fdC tb (xs (i + 1)) len (tN (xs (i + 2))) (tN (xs (i + 2))))) 120)))], [(ag 4, .inl (E.2.1, 7, .inl (sg (fndC f (rFeed len (xs (i + 2)))) 7)))], [mObj am q], [(am 1, .inl (E.2.1, 77, .inl (sg r2 77)))], [(am 2, .inl (E.2.1, 77, .inl (sg k2 77)))], [(am 3, .inl (E.2.1, 77, .inl (sg x2 77)))], [(am 4, .inl (E.2.1, 8, .inl (sg f2 8)))], [(am 5, .inl (E.2.1, 120, .inl (sg tp 120)))], [(am 6, .inl (E.2.2.2.2.2, 7, .inr (.inr (.inr (.inr (fun j => some (aS (12 + j))))))))], [(am 7, .inl (E.2.1, 480, .inl (sg it 480)))], [(am 8, .inl (E.2.1, 4, .inl (sg z 4)))], [(am 9, .inl (E.2.1, 4, .inl (sg u 4)))], [(am 10, .inl (E.2.1, 160, .inl (sg y 160)))], [(am 11, .inl (E.2.1, 40, .inl (sg mv 40)))]]) rfl (fun H locs hP hD hS => ?_)
  refine lv_aload_n S.1 S.2.1 dL_law_1008 rfl (lv_at hl 2 rfl) ?_
  refine lv_aload_n S.1 S.2.1 dL_law_1009 rfl (lv_at hl 0 rfl) ?_
  refine lv_iload_n S.1 S.2.1 dL_law_1010 rfl (lv_at hl 3 rfl) ?_
  refine lv_iconst (v := 1) S.1 S.2.1 dL_law_1011 (by decide) ?_
  refine lv_iadd S.1 S.2.1 dL_law_1012 ?_
  refine lv_eqi (y := nI (i + 1)) (nI_add i 1) ?_
  refine b_sld (j := i + 1) S.1 S.2.1 hXs hbl hbA hS (by omega) (by omega) dL_law_1013 ?_
  refine lv_aload_n S.1 S.2.1 dL_law_1014 rfl (lv_at hl 0 rfl) ?_
  refine lv_iload_n S.1 S.2.1 dL_law_1015 rfl (lv_at hl 3 rfl) ?_
  refine lv_iconst (v := 2) S.1 S.2.1 dL_law_1016 (by decide) ?_
  refine lv_iadd S.1 S.2.1 dL_law_1017 ?_
  refine lv_eqi (y := nI (i + 2)) (nI_add i 2) ?_
  refine b_sld (j := i + 2) S.1 S.2.1 hXs hbl hbA hS (by omega) (by omega) dL_law_1018 ?_
  refine go_I (run_V (As := [.int (xs (i + 1)), .int (xs (i + 2))]) (rest := [.int (ansR (rFeed len (xs (i + 2))))]) (n := 2) S hK (bl_P hP [9, 13, 14] rfl) (bl_D hD [9, 13, 14] rfl rfl) (c_X5_feed l E am q f2 tp len (xs (i + 1)) (xs (i + 2)) hq3 hl9) gV_L_120 (by decide +kernel) rfl ⟨rfl, rfl⟩ ⟨Nat.le_of_ble_eq_true rfl, Nat.le_of_ble_eq_true rfl⟩ (ci := 5) (q0 := 0) rfl rfl hl.1 (Nat.le_of_ble_eq_true rfl) dL_law_1019 ⟨hcc, hss⟩) hP hD hS [9, 13, 14] rfl (had_cons mo_ad (had_cons cell_ad (had_cons cell_ad rfl))) (Bs' := [[gObj ag ah az ak i0], hillsW E ah r, hillsW E az x, hillsW E ak k, shO E ag z u, shN E ag y, [rdO ag (lenF (nI len) (rFeed len (xs (i + 2)))) (nI ys) (nI yb) (nI ye) (nI yv)], [(ag 3, .inl (E.2.2.1, 120, .inl (sg (pick (rFeed len (xs (i + 2))) tb (fdC tb (xs (i + 1)) len (tN (xs (i + 2))) (tN (xs (i + 2))))) 120)))], [(ag 4, .inl (E.2.1, 7, .inl (sg (fndC f (rFeed len (xs (i + 2)))) 7)))], [mObj am (pick (rFeed len (xs (i + 2))) q (upd q 3 (nI (len + tN (xs (i + 2))))))], [(am 1, .inl (E.2.1, 77, .inl (sg r2 77)))], [(am 2, .inl (E.2.1, 77, .inl (sg k2 77)))], [(am 3, .inl (E.2.1, 77, .inl (sg x2 77)))], [(am 4, .inl (E.2.1, 8, .inl (sg (fndM f2 (rFeed len (xs (i + 2)))) 8)))], [(am 5, .inl (E.2.1, 120, .inl (sg (pick (rFeed len (xs (i + 2))) tp (fdN tp (xs (i + 1)) len (tN (xs (i + 2))) (tN (xs (i + 2))))) 120)))], [(am 6, .inl (E.2.2.2.2.2, 7, .inr (.inr (.inr (.inr (fun j => some (aS (12 + j))))))))], [(am 7, .inl (E.2.1, 480, .inl (sg it 480)))], [(am 8, .inl (E.2.1, 4, .inl (sg z 4)))], [(am 9, .inl (E.2.1, 4, .inl (sg u 4)))], [(am 10, .inl (E.2.1, 160, .inl (sg y 160)))], [(am 11, .inl (E.2.1, 40, .inl (sg mv 40)))]]) rfl (fun H locs hP hD hS => ?_)
  obtain ⟨len2, el2, hI2⟩ := feed_rel hI (xs (i + 1)) (xs (i + 2))
  rw [el2] at hP hD
  refine lv_icmp_eq (tgt := 1399) S.1 S.2.1 dL_law_1022 (by decide) (fun _ => ?_) (fun h => absurd (RR_ans (rr_feed len (xs (i + 2)))) h)
  exact kk i0 r x k z u y (pick (rFeed len (xs (i + 2))) tb (fdC tb (xs (i + 1)) len (tN (xs (i + 2))) (tN (xs (i + 2))))) (fndC f (rFeed len (xs (i + 2)))) len2 (yb, ye, ys, yv) (pick (rFeed len (xs (i + 2))) q (upd q 3 (nI (len + tN (xs (i + 2)))))) r2 k2 x2 (fndM f2 (rFeed len (xs (i + 2)))) (pick (rFeed len (xs (i + 2))) tp (fdN tp (xs (i + 1)) len (tN (xs (i + 2))) (tN (xs (i + 2))))) it mv H locs ls (hI2) hP hD hS (lv_sub hl [0, 1, 2, 3] rfl)
set_option maxHeartbeats 1600000 in
set_option maxRecDepth 100000 in
theorem law_26 (S : CallFix p m c code 4 s #[Value.ref b] (c0 :: GW) RL) (hK : KE E s) (hX : EX aS A s s.heap) (hXs : va_X b L xs s s.heap) (hbl : b < s.heap.size) (hbA : ¬ A b) (hcc : cells ≤ room_1.cells) (hss : slots ≤ room_1.slots) (hL : L ≤ 3072) (i0 : Int32) (r x k z u y tb f : Row) (len : Nat) (Y : Ys) (q r2 k2 x2 f2 tp it mv : Row) (hI : Inv i0 r k u tb f len q r2 k2 f2 tp) (hP : PE E (LW E aS ag ah az ak am i0 r x k z u y tb f len Y q r2 k2 x2 f2 tp it mv) H) (hD : DE A (LW E aS ag ah az ak am i0 r x k z u y tb f len Y q r2 k2 x2 f2 tp it mv)) (hS : va_S A s.heap H locs) {i : Nat} (hi : i + 6 ≤ L) {ls : Array Slot} (hl : lv_has ls 4 [(0, .ref b), (1, .ref (ag 0)), (2, .ref (am 0)), (3, .int (nI i))]) (kk : KK p l e s m below meth c b E aS ag ah az ak am A cells slots Q i) : W p l e room_1 s m #[Value.ref b] below meth c H locs cells slots Q (F0 m 1027 ls []) := by
  obtain ⟨yb, ye, ys, yv⟩ := Y
  have hev := hI.1
  have hR := hI.2.1
  have hR2 := RI_ev hev hR
  have hRk := hI.2.2.1
  have hU := hI.2.2.2.2.2.1
  have hl9 := hI.2.2.2.2.2.2.1
  have hq3 := hI.2.2.2.2.2.2.2.1
  have hT := hI.2.2.2.2.2.2.2.2.1
  have hP : PE E [[gObj ag ah az ak i0], hillsW E ah r, hillsW E az x, hillsW E ak k, shO E ag z u, shN E ag y, [rdO ag (nI len) (nI ys) (nI yb) (nI ye) (nI yv)], [(ag 3, .inl (E.2.2.1, 120, .inl (sg tb 120)))], [(ag 4, .inl (E.2.1, 7, .inl (sg f 7)))], [mObj am q], [(am 1, .inl (E.2.1, 77, .inl (sg r2 77)))], [(am 2, .inl (E.2.1, 77, .inl (sg k2 77)))], [(am 3, .inl (E.2.1, 77, .inl (sg x2 77)))], [(am 4, .inl (E.2.1, 8, .inl (sg f2 8)))], [(am 5, .inl (E.2.1, 120, .inl (sg tp 120)))], [(am 6, .inl (E.2.2.2.2.2, 7, .inr (.inr (.inr (.inr (fun j => some (aS (12 + j))))))))], [(am 7, .inl (E.2.1, 480, .inl (sg it 480)))], [(am 8, .inl (E.2.1, 4, .inl (sg z 4)))], [(am 9, .inl (E.2.1, 4, .inl (sg u 4)))], [(am 10, .inl (E.2.1, 160, .inl (sg y 160)))], [(am 11, .inl (E.2.1, 40, .inl (sg mv 40)))]] H := hP
  have hD : DE A [[gObj ag ah az ak i0], hillsW E ah r, hillsW E az x, hillsW E ak k, shO E ag z u, shN E ag y, [rdO ag (nI len) (nI ys) (nI yb) (nI ye) (nI yv)], [(ag 3, .inl (E.2.2.1, 120, .inl (sg tb 120)))], [(ag 4, .inl (E.2.1, 7, .inl (sg f 7)))], [mObj am q], [(am 1, .inl (E.2.1, 77, .inl (sg r2 77)))], [(am 2, .inl (E.2.1, 77, .inl (sg k2 77)))], [(am 3, .inl (E.2.1, 77, .inl (sg x2 77)))], [(am 4, .inl (E.2.1, 8, .inl (sg f2 8)))], [(am 5, .inl (E.2.1, 120, .inl (sg tp 120)))], [(am 6, .inl (E.2.2.2.2.2, 7, .inr (.inr (.inr (.inr (fun j => some (aS (12 + j))))))))], [(am 7, .inl (E.2.1, 480, .inl (sg it 480)))], [(am 8, .inl (E.2.1, 4, .inl (sg z 4)))], [(am 9, .inl (E.2.1, 4, .inl (sg u 4)))], [(am 10, .inl (E.2.1, 160, .inl (sg y 160)))], [(am 11, .inl (E.2.1, 40, .inl (sg mv 40)))]] := hD
  refine lv_aload_n S.1 S.2.1 dL_law_1027 rfl (lv_at hl 1 rfl) ?_
  refine go_I (run_V (As := []) (rest := []) (n := 0) S hK (bl_P hP [0, 6] rfl) (bl_D hD [0, 6] rfl rfl) (c_X4_wipe l E ag ah az ak i0 len (nI ys) (nI yb) (nI ye) (nI yv) ) gV_L_121 (by decide +kernel) rfl ⟨rfl, rfl⟩ ⟨Nat.le_of_ble_eq_true rfl, Nat.le_of_ble_eq_true rfl⟩ (ci := 4) (q0 := 0) rfl rfl hl.1 (Nat.le_of_ble_eq_true rfl) dL_law_1028 ⟨hcc, hss⟩) hP hD hS [0, 6] rfl (had_cons rfl (had_cons ro_ad rfl)) (Bs' := [[gObj ag ah az ak i0], hillsW E ah r, hillsW E az x, hillsW E ak k, shO E ag z u, shN E ag y, [rdO ag 0 (nI ys) (nI yb) (nI ye) (nI yv)], [(ag 3, .inl (E.2.2.1, 120, .inl (sg tb 120)))], [(ag 4, .inl (E.2.1, 7, .inl (sg f 7)))], [mObj am q], [(am 1, .inl (E.2.1, 77, .inl (sg r2 77)))], [(am 2, .inl (E.2.1, 77, .inl (sg k2 77)))], [(am 3, .inl (E.2.1, 77, .inl (sg x2 77)))], [(am 4, .inl (E.2.1, 8, .inl (sg f2 8)))], [(am 5, .inl (E.2.1, 120, .inl (sg tp 120)))], [(am 6, .inl (E.2.2.2.2.2, 7, .inr (.inr (.inr (.inr (fun j => some (aS (12 + j))))))))], [(am 7, .inl (E.2.1, 480, .inl (sg it 480)))], [(am 8, .inl (E.2.1, 4, .inl (sg z 4)))], [(am 9, .inl (E.2.1, 4, .inl (sg u 4)))], [(am 10, .inl (E.2.1, 160, .inl (sg y 160)))], [(am 11, .inl (E.2.1, 40, .inl (sg mv 40)))]]) rfl (fun H locs hP hD hS => ?_)
  refine lv_aload_n S.1 S.2.1 dL_law_1031 rfl (lv_at hl 2 rfl) ?_
  refine go_I (run_V (As := []) (rest := [.int (nI len)]) (n := 0) S hK (bl_P hP [9] rfl) (bl_D hD [9] rfl rfl) (c_X5_wipe l E am q ) gV_L_125 (by decide +kernel) rfl ⟨rfl, rfl⟩ ⟨Nat.le_of_ble_eq_true rfl, Nat.le_of_ble_eq_true rfl⟩ (ci := 5) (q0 := 0) rfl rfl hl.1 (Nat.le_of_ble_eq_true rfl) dL_law_1032 ⟨hcc, hss⟩) hP hD hS [9] rfl (had_cons mo_ad rfl) (Bs' := [[gObj ag ah az ak i0], hillsW E ah r, hillsW E az x, hillsW E ak k, shO E ag z u, shN E ag y, [rdO ag 0 (nI ys) (nI yb) (nI ye) (nI yv)], [(ag 3, .inl (E.2.2.1, 120, .inl (sg tb 120)))], [(ag 4, .inl (E.2.1, 7, .inl (sg f 7)))], [mObj am (upd q 3 0)], [(am 1, .inl (E.2.1, 77, .inl (sg r2 77)))], [(am 2, .inl (E.2.1, 77, .inl (sg k2 77)))], [(am 3, .inl (E.2.1, 77, .inl (sg x2 77)))], [(am 4, .inl (E.2.1, 8, .inl (sg f2 8)))], [(am 5, .inl (E.2.1, 120, .inl (sg tp 120)))], [(am 6, .inl (E.2.2.2.2.2, 7, .inr (.inr (.inr (.inr (fun j => some (aS (12 + j))))))))], [(am 7, .inl (E.2.1, 480, .inl (sg it 480)))], [(am 8, .inl (E.2.1, 4, .inl (sg z 4)))], [(am 9, .inl (E.2.1, 4, .inl (sg u 4)))], [(am 10, .inl (E.2.1, 160, .inl (sg y 160)))], [(am 11, .inl (E.2.1, 40, .inl (sg mv 40)))]]) rfl (fun H locs hP hD hS => ?_)
  refine lv_icmp_eq (tgt := 1399) S.1 S.2.1 dL_law_1035 (by decide) (fun _ => ?_) (fun h => absurd (hq3.symm) h)
  exact kk i0 r x k z u y tb f 0 (yb, ye, ys, yv) (upd q 3 0) r2 k2 x2 f2 tp it mv H locs ls (inv_wipe hI) hP hD hS (lv_sub hl [0, 1, 2, 3] rfl)
set_option maxHeartbeats 1600000 in
set_option maxRecDepth 100000 in
theorem law_27 (S : CallFix p m c code 4 s #[Value.ref b] (c0 :: GW) RL) (hK : KE E s) (hX : EX aS A s s.heap) (hXs : va_X b L xs s s.heap) (hbl : b < s.heap.size) (hbA : ¬ A b) (hcc : cells ≤ room_1.cells) (hss : slots ≤ room_1.slots) (hL : L ≤ 3072) (i0 : Int32) (r x k z u y tb f : Row) (len : Nat) (Y : Ys) (q r2 k2 x2 f2 tp it mv : Row) (hI : Inv i0 r k u tb f len q r2 k2 f2 tp) (hP : PE E (LW E aS ag ah az ak am i0 r x k z u y tb f len Y q r2 k2 x2 f2 tp it mv) H) (hD : DE A (LW E aS ag ah az ak am i0 r x k z u y tb f len Y q r2 k2 x2 f2 tp it mv)) (hS : va_S A s.heap H locs) {i : Nat} (hi : i + 6 ≤ L) {ls : Array Slot} (hl : lv_has ls 4 [(0, .ref b), (1, .ref (ag 0)), (2, .ref (am 0)), (3, .int (nI i))]) (kk : KK p l e s m below meth c b E aS ag ah az ak am A cells slots Q i) : W p l e room_1 s m #[Value.ref b] below meth c H locs cells slots Q (F0 m 1040 ls []) := by
  obtain ⟨yb, ye, ys, yv⟩ := Y
  have hev := hI.1
  have hR := hI.2.1
  have hR2 := RI_ev hev hR
  have hRk := hI.2.2.1
  have hU := hI.2.2.2.2.2.1
  have hl9 := hI.2.2.2.2.2.2.1
  have hq3 := hI.2.2.2.2.2.2.2.1
  have hT := hI.2.2.2.2.2.2.2.2.1
  obtain ⟨n, d9, hn, hn8, _⟩ := id hR2
  obtain ⟨mb, me, mv9, mmn, mpt, eq9⟩ := qX_any q
  rw [eq9] at hP hD
  have hP : PE E [[gObj ag ah az ak i0], hillsW E ah r, hillsW E az x, hillsW E ak k, shO E ag z u, shN E ag y, [rdY ag len (yb, ye, ys, yv)], [(ag 3, .inl (E.2.2.1, 120, .inl (sg tb 120)))], [(ag 4, .inl (E.2.1, 7, .inl (sg f 7)))], [mObj am (qX q (mb, me, q 6, mv9, q 8) mmn mpt)], [(am 1, .inl (E.2.1, 77, .inl (sg r2 77)))], [(am 2, .inl (E.2.1, 77, .inl (sg k2 77)))], [(am 3, .inl (E.2.1, 77, .inl (sg x2 77)))], [(am 4, .inl (E.2.1, 8, .inl (sg f2 8)))], [(am 5, .inl (E.2.1, 120, .inl (sg tp 120)))], [(am 6, .inl (E.2.2.2.2.2, 7, .inr (.inr (.inr (.inr (fun j => some (aS (12 + j))))))))], [(am 7, .inl (E.2.1, 480, .inl (sg it 480)))], [(am 8, .inl (E.2.1, 4, .inl (sg z 4)))], [(am 9, .inl (E.2.1, 4, .inl (sg u 4)))], [(am 10, .inl (E.2.1, 160, .inl (sg y 160)))], [(am 11, .inl (E.2.1, 40, .inl (sg mv 40)))]] H := hP
  have hD : DE A [[gObj ag ah az ak i0], hillsW E ah r, hillsW E az x, hillsW E ak k, shO E ag z u, shN E ag y, [rdY ag len (yb, ye, ys, yv)], [(ag 3, .inl (E.2.2.1, 120, .inl (sg tb 120)))], [(ag 4, .inl (E.2.1, 7, .inl (sg f 7)))], [mObj am (qX q (mb, me, q 6, mv9, q 8) mmn mpt)], [(am 1, .inl (E.2.1, 77, .inl (sg r2 77)))], [(am 2, .inl (E.2.1, 77, .inl (sg k2 77)))], [(am 3, .inl (E.2.1, 77, .inl (sg x2 77)))], [(am 4, .inl (E.2.1, 8, .inl (sg f2 8)))], [(am 5, .inl (E.2.1, 120, .inl (sg tp 120)))], [(am 6, .inl (E.2.2.2.2.2, 7, .inr (.inr (.inr (.inr (fun j => some (aS (12 + j))))))))], [(am 7, .inl (E.2.1, 480, .inl (sg it 480)))], [(am 8, .inl (E.2.1, 4, .inl (sg z 4)))], [(am 9, .inl (E.2.1, 4, .inl (sg u 4)))], [(am 10, .inl (E.2.1, 160, .inl (sg y 160)))], [(am 11, .inl (E.2.1, 40, .inl (sg mv 40)))]] := hD
  refine lv_aload_n S.1 S.2.1 dL_law_1040 rfl (lv_at hl 1 rfl) ?_
  refine go_I (run_VX (As := []) (rest := []) (n := 0) S hK (bl_P hP [0, 1, 2, 6, 7] rfl) (bl_D hD [0, 1, 2, 6, 7] rfl rfl) (EX_c hX hS hD [0, 1, 2, 6, 7] rfl) (c_X4_text l E aS ag ah az ak i0 r x tp tb len yb ye ys yv hT hl9 hR) gV_L_126 (by decide +kernel) rfl ⟨rfl, rfl⟩ ⟨Nat.le_of_ble_eq_true rfl, Nat.le_of_ble_eq_true rfl⟩ (ci := 4) (q0 := 0) rfl rfl hl.1 (Nat.le_of_ble_eq_true rfl) dL_law_1041 ⟨hcc, hss⟩) hP hD hS [0, 1, 2, 6, 7] rfl (had_cons rfl (had_cons hw_ad (had_cons hw_ad (had_cons ry_ad (had_cons rfl rfl))))) (Bs' := [[gObj ag ah az ak i0], hillsW E ah (if 0 ≤ (rlC tp len 120 1 (tkF tp len 0) (becF x r)).1 then becF r (rlC tp len 120 1 (tkF tp len 0) (becF x r)).2.2 else r), hillsW E az ((rlC tp len 120 1 (tkF tp len 0) (becF x r)).2.2), hillsW E ak k, shO E ag z u, shN E ag y, [rdY ag 0 ((rlC tp len 120 1 (tkF tp len 0) (becF x r)).2.1)], [(ag 3, .inl (E.2.2.1, 120, .inl (sg tb 120)))], [(ag 4, .inl (E.2.1, 7, .inl (sg f 7)))], [mObj am (qX q (mb, me, q 6, mv9, q 8) mmn mpt)], [(am 1, .inl (E.2.1, 77, .inl (sg r2 77)))], [(am 2, .inl (E.2.1, 77, .inl (sg k2 77)))], [(am 3, .inl (E.2.1, 77, .inl (sg x2 77)))], [(am 4, .inl (E.2.1, 8, .inl (sg f2 8)))], [(am 5, .inl (E.2.1, 120, .inl (sg tp 120)))], [(am 6, .inl (E.2.2.2.2.2, 7, .inr (.inr (.inr (.inr (fun j => some (aS (12 + j))))))))], [(am 7, .inl (E.2.1, 480, .inl (sg it 480)))], [(am 8, .inl (E.2.1, 4, .inl (sg z 4)))], [(am 9, .inl (E.2.1, 4, .inl (sg u 4)))], [(am 10, .inl (E.2.1, 160, .inl (sg y 160)))], [(am 11, .inl (E.2.1, 40, .inl (sg mv 40)))]]) rfl (fun H locs hP hD hS => ?_)
  refine lv_aload_n S.1 S.2.1 dL_law_1044 rfl (lv_at hl 2 rfl) ?_
  refine go_I (run_VX (As := []) (rest := [.int ((rlC tp len 120 1 (tkF tp len 0) (becF x r)).1)]) (n := 0) S hK (bl_P hP [9, 10, 14, 16, 15] rfl) (bl_D hD [9, 10, 14, 16, 15] rfl rfl) (EX_c hX hS hD [9, 10, 14, 16, 15] rfl) (c_X5_text l E aS (fun j => some (aS (12 + j))) am q r2 tp it len mb me mv9 mmn mpt n (q 6) (q 8) hq3 hl9 hR2 hn hn8 (fun _ _ => rfl)) gV_L_129 (by decide +kernel) rfl ⟨rfl, rfl⟩ ⟨Nat.le_of_ble_eq_true rfl, Nat.le_of_ble_eq_true rfl⟩ (ci := 5) (q0 := 0) rfl rfl hl.1 (Nat.le_of_ble_eq_true rfl) dL_law_1045 ⟨hcc, hss⟩) hP hD hS [9, 10, 14, 16, 15] rfl (had_cons mo_ad (had_cons cell_ad (had_cons rfl (had_cons cell_ad (had_cons rfl rfl))))) (Bs' := [[gObj ag ah az ak i0], hillsW E ah (if 0 ≤ (rlC tp len 120 1 (tkF tp len 0) (becF x r)).1 then becF r (rlC tp len 120 1 (tkF tp len 0) (becF x r)).2.2 else r), hillsW E az ((rlC tp len 120 1 (tkF tp len 0) (becF x r)).2.2), hillsW E ak k, shO E ag z u, shN E ag y, [rdY ag 0 ((rlC tp len 120 1 (tkF tp len 0) (becF x r)).2.1)], [(ag 3, .inl (E.2.2.1, 120, .inl (sg tb 120)))], [(ag 4, .inl (E.2.1, 7, .inl (sg f 7)))], [mObj am (qX (upd q 3 0) (txX tp len n it) ((txY tp len n it).2.1) ((txY tp len n it).2.2.1))], [(am 1, .inl (E.2.1, 77, .inl (sg (txR r2 tp len n it) 77)))], [(am 2, .inl (E.2.1, 77, .inl (sg k2 77)))], [(am 3, .inl (E.2.1, 77, .inl (sg x2 77)))], [(am 4, .inl (E.2.1, 8, .inl (sg f2 8)))], [(am 5, .inl (E.2.1, 120, .inl (sg tp 120)))], [(am 6, .inl (E.2.2.2.2.2, 7, .inr (.inr (.inr (.inr (fun j => some (aS (12 + j))))))))], [(am 7, .inl (E.2.1, 480, .inl (sg ((txY tp len n it).2.2.2) 480)))], [(am 8, .inl (E.2.1, 4, .inl (sg z 4)))], [(am 9, .inl (E.2.1, 4, .inl (sg u 4)))], [(am 10, .inl (E.2.1, 160, .inl (sg y 160)))], [(am 11, .inl (E.2.1, 40, .inl (sg mv 40)))]]) rfl (fun H locs hP hD hS => ?_)
  refine lv_icmp_eq (tgt := 1399) S.1 S.2.1 dL_law_1048 (by decide) (fun _ => ?_) (fun h => absurd ((tx_rel it hl9 (Ev.bec.tr hev) hR2 hn hn8 rfl).1) h)
  exact kk i0 (if 0 ≤ (rlC tp len 120 1 (tkF tp len 0) (becF x r)).1 then becF r (rlC tp len 120 1 (tkF tp len 0) (becF x r)).2.2 else r) ((rlC tp len 120 1 (tkF tp len 0) (becF x r)).2.2) k z u y tb f 0 ((rlC tp len 120 1 (tkF tp len 0) (becF x r)).2.1) (qX (upd q 3 0) (txX tp len n it) ((txY tp len n it).2.1) ((txY tp len n it).2.2.1)) (txR r2 tp len n it) k2 x2 f2 tp ((txY tp len n it).2.2.2) mv H locs ls (inv_text hI hn hn8) hP hD hS (lv_sub hl [0, 1, 2, 3] rfl)
set_option maxHeartbeats 1600000 in
set_option maxRecDepth 100000 in
theorem law_28 (S : CallFix p m c code 4 s #[Value.ref b] (c0 :: GW) RL) (hK : KE E s) (hX : EX aS A s s.heap) (hXs : va_X b L xs s s.heap) (hbl : b < s.heap.size) (hbA : ¬ A b) (hcc : cells ≤ room_1.cells) (hss : slots ≤ room_1.slots) (hL : L ≤ 3072) (i0 : Int32) (r x k z u y tb f : Row) (len : Nat) (Y : Ys) (q r2 k2 x2 f2 tp it mv : Row) (hI : Inv i0 r k u tb f len q r2 k2 f2 tp) (hP : PE E (LW E aS ag ah az ak am i0 r x k z u y tb f len Y q r2 k2 x2 f2 tp it mv) H) (hD : DE A (LW E aS ag ah az ak am i0 r x k z u y tb f len Y q r2 k2 x2 f2 tp it mv)) (hS : va_S A s.heap H locs) {i : Nat} (hi : i + 6 ≤ L) {ls : Array Slot} (hl : lv_has ls 4 [(0, .ref b), (1, .ref (ag 0)), (2, .ref (am 0)), (3, .int (nI i))]) (kk : KK p l e s m below meth c b E aS ag ah az ak am A cells slots Q i) : W p l e room_1 s m #[Value.ref b] below meth c H locs cells slots Q (F0 m 1053 ls []) := by
  obtain ⟨yb, ye, ys, yv⟩ := Y
  have hev := hI.1
  have hR := hI.2.1
  have hR2 := RI_ev hev hR
  have hRk := hI.2.2.1
  have hU := hI.2.2.2.2.2.1
  have hl9 := hI.2.2.2.2.2.2.1
  have hq3 := hI.2.2.2.2.2.2.2.1
  have hT := hI.2.2.2.2.2.2.2.2.1
  have hP : PE E [[gObj ag ah az ak i0], hillsW E ah r, hillsW E az x, hillsW E ak k, shO E ag z u, shN E ag y, [rdO ag (nI len) (nI ys) (nI yb) (nI ye) (nI yv)], [(ag 3, .inl (E.2.2.1, 120, .inl (sg tb 120)))], [(ag 4, .inl (E.2.1, 7, .inl (sg f 7)))], [mObj am q], [(am 1, .inl (E.2.1, 77, .inl (sg r2 77)))], [(am 2, .inl (E.2.1, 77, .inl (sg k2 77)))], [(am 3, .inl (E.2.1, 77, .inl (sg x2 77)))], [(am 4, .inl (E.2.1, 8, .inl (sg f2 8)))], [(am 5, .inl (E.2.1, 120, .inl (sg tp 120)))], [(am 6, .inl (E.2.2.2.2.2, 7, .inr (.inr (.inr (.inr (fun j => some (aS (12 + j))))))))], [(am 7, .inl (E.2.1, 480, .inl (sg it 480)))], [(am 8, .inl (E.2.1, 4, .inl (sg z 4)))], [(am 9, .inl (E.2.1, 4, .inl (sg u 4)))], [(am 10, .inl (E.2.1, 160, .inl (sg y 160)))], [(am 11, .inl (E.2.1, 40, .inl (sg mv 40)))]] H := hP
  have hD : DE A [[gObj ag ah az ak i0], hillsW E ah r, hillsW E az x, hillsW E ak k, shO E ag z u, shN E ag y, [rdO ag (nI len) (nI ys) (nI yb) (nI ye) (nI yv)], [(ag 3, .inl (E.2.2.1, 120, .inl (sg tb 120)))], [(ag 4, .inl (E.2.1, 7, .inl (sg f 7)))], [mObj am q], [(am 1, .inl (E.2.1, 77, .inl (sg r2 77)))], [(am 2, .inl (E.2.1, 77, .inl (sg k2 77)))], [(am 3, .inl (E.2.1, 77, .inl (sg x2 77)))], [(am 4, .inl (E.2.1, 8, .inl (sg f2 8)))], [(am 5, .inl (E.2.1, 120, .inl (sg tp 120)))], [(am 6, .inl (E.2.2.2.2.2, 7, .inr (.inr (.inr (.inr (fun j => some (aS (12 + j))))))))], [(am 7, .inl (E.2.1, 480, .inl (sg it 480)))], [(am 8, .inl (E.2.1, 4, .inl (sg z 4)))], [(am 9, .inl (E.2.1, 4, .inl (sg u 4)))], [(am 10, .inl (E.2.1, 160, .inl (sg y 160)))], [(am 11, .inl (E.2.1, 40, .inl (sg mv 40)))]] := hD
  refine lv_aload_n S.1 S.2.1 dL_law_1053 rfl (lv_at hl 1 rfl) ?_
  refine lv_aload_n S.1 S.2.1 dL_law_1054 rfl (lv_at hl 0 rfl) ?_
  refine lv_iload_n S.1 S.2.1 dL_law_1055 rfl (lv_at hl 3 rfl) ?_
  refine lv_iconst (v := 1) S.1 S.2.1 dL_law_1056 (by decide) ?_
  refine lv_iadd S.1 S.2.1 dL_law_1057 ?_
  refine lv_eqi (y := nI (i + 1)) (nI_add i 1) ?_
  refine b_sld (j := i + 1) S.1 S.2.1 hXs hbl hbA hS (by omega) (by omega) dL_law_1058 ?_
  refine lv_aload_n S.1 S.2.1 dL_law_1059 rfl (lv_at hl 0 rfl) ?_
  refine lv_iload_n S.1 S.2.1 dL_law_1060 rfl (lv_at hl 3 rfl) ?_
  refine lv_iconst (v := 2) S.1 S.2.1 dL_law_1061 (by decide) ?_
  refine lv_iadd S.1 S.2.1 dL_law_1062 ?_
  refine lv_eqi (y := nI (i + 2)) (nI_add i 2) ?_
  refine b_sld (j := i + 2) S.1 S.2.1 hXs hbl hbA hS (by omega) (by omega) dL_law_1063 ?_
  refine go_I (run_V (As := [.int (xs (i + 1)), .int (xs (i + 2))]) (rest := []) (n := 2) S hK (bl_P hP [0, 1, 8] rfl) (bl_D hD [0, 1, 8] rfl rfl) (c_X4_hold l E ag ah az ak i0 r f (xs (i + 1)) (xs (i + 2)) hR) gV_L_130 (by decide +kernel) rfl ⟨rfl, rfl⟩ ⟨Nat.le_of_ble_eq_true rfl, Nat.le_of_ble_eq_true rfl⟩ (ci := 4) (q0 := 0) rfl rfl hl.1 (Nat.le_of_ble_eq_true rfl) dL_law_1064 ⟨hcc, hss⟩) hP hD hS [0, 1, 8] rfl (had_cons rfl (had_cons hw_ad (had_cons cell_ad rfl))) (Bs' := [[gObj ag ah az ak i0], hillsW E ah (rowR r (rHold r (xs (i + 1)) (xs (i + 2)))), hillsW E az x, hillsW E ak k, shO E ag z u, shN E ag y, [rdO ag (nI len) (nI ys) (nI yb) (nI ye) (nI yv)], [(ag 3, .inl (E.2.2.1, 120, .inl (sg tb 120)))], [(ag 4, .inl (E.2.1, 7, .inl (sg (fndC f (rHold r (xs (i + 1)) (xs (i + 2)))) 7)))], [mObj am q], [(am 1, .inl (E.2.1, 77, .inl (sg r2 77)))], [(am 2, .inl (E.2.1, 77, .inl (sg k2 77)))], [(am 3, .inl (E.2.1, 77, .inl (sg x2 77)))], [(am 4, .inl (E.2.1, 8, .inl (sg f2 8)))], [(am 5, .inl (E.2.1, 120, .inl (sg tp 120)))], [(am 6, .inl (E.2.2.2.2.2, 7, .inr (.inr (.inr (.inr (fun j => some (aS (12 + j))))))))], [(am 7, .inl (E.2.1, 480, .inl (sg it 480)))], [(am 8, .inl (E.2.1, 4, .inl (sg z 4)))], [(am 9, .inl (E.2.1, 4, .inl (sg u 4)))], [(am 10, .inl (E.2.1, 160, .inl (sg y 160)))], [(am 11, .inl (E.2.1, 40, .inl (sg mv 40)))]]) rfl (fun H locs hP hD hS => ?_)
  refine lv_aload_n S.1 S.2.1 dL_law_1067 rfl (lv_at hl 2 rfl) ?_
  refine lv_aload_n S.1 S.2.1 dL_law_1068 rfl (lv_at hl 0 rfl) ?_
  refine lv_iload_n S.1 S.2.1 dL_law_1069 rfl (lv_at hl 3 rfl) ?_
  refine lv_iconst (v := 1) S.1 S.2.1 dL_law_1070 (by decide) ?_
  refine lv_iadd S.1 S.2.1 dL_law_1071 ?_
  refine lv_eqi (y := nI (i + 1)) (nI_add i 1) ?_
  refine b_sld (j := i + 1) S.1 S.2.1 hXs hbl hbA hS (by omega) (by omega) dL_law_1072 ?_
  refine lv_aload_n S.1 S.2.1 dL_law_1073 rfl (lv_at hl 0 rfl) ?_
  refine lv_iload_n S.1 S.2.1 dL_law_1074 rfl (lv_at hl 3 rfl) ?_
  refine lv_iconst (v := 2) S.1 S.2.1 dL_law_1075 (by decide) ?_
  refine lv_iadd S.1 S.2.1 dL_law_1076 ?_
  refine lv_eqi (y := nI (i + 2)) (nI_add i 2) ?_
  refine b_sld (j := i + 2) S.1 S.2.1 hXs hbl hbA hS (by omega) (by omega) dL_law_1077 ?_
  refine go_I (run_V (As := [.int (xs (i + 1)), .int (xs (i + 2))]) (rest := [.int (ansR (rHold r (xs (i + 1)) (xs (i + 2))))]) (n := 2) S hK (bl_P hP [9, 10, 13] rfl) (bl_D hD [9, 10, 13] rfl rfl) (c_X5_hold l E am q r2 f2 (xs (i + 1)) (xs (i + 2)) hR2) gV_L_133 (by decide +kernel) rfl ⟨rfl, rfl⟩ ⟨Nat.le_of_ble_eq_true rfl, Nat.le_of_ble_eq_true rfl⟩ (ci := 5) (q0 := 0) rfl rfl hl.1 (Nat.le_of_ble_eq_true rfl) dL_law_1078 ⟨hcc, hss⟩) hP hD hS [9, 10, 13] rfl (had_cons rfl (had_cons cell_ad (had_cons cell_ad rfl))) (Bs' := [[gObj ag ah az ak i0], hillsW E ah (rowR r (rHold r (xs (i + 1)) (xs (i + 2)))), hillsW E az x, hillsW E ak k, shO E ag z u, shN E ag y, [rdO ag (nI len) (nI ys) (nI yb) (nI ye) (nI yv)], [(ag 3, .inl (E.2.2.1, 120, .inl (sg tb 120)))], [(ag 4, .inl (E.2.1, 7, .inl (sg (fndC f (rHold r (xs (i + 1)) (xs (i + 2)))) 7)))], [mObj am q], [(am 1, .inl (E.2.1, 77, .inl (sg (rowR r2 (rHold r2 (xs (i + 1)) (xs (i + 2)))) 77)))], [(am 2, .inl (E.2.1, 77, .inl (sg k2 77)))], [(am 3, .inl (E.2.1, 77, .inl (sg x2 77)))], [(am 4, .inl (E.2.1, 8, .inl (sg (fndM f2 (rHold r2 (xs (i + 1)) (xs (i + 2)))) 8)))], [(am 5, .inl (E.2.1, 120, .inl (sg tp 120)))], [(am 6, .inl (E.2.2.2.2.2, 7, .inr (.inr (.inr (.inr (fun j => some (aS (12 + j))))))))], [(am 7, .inl (E.2.1, 480, .inl (sg it 480)))], [(am 8, .inl (E.2.1, 4, .inl (sg z 4)))], [(am 9, .inl (E.2.1, 4, .inl (sg u 4)))], [(am 10, .inl (E.2.1, 160, .inl (sg y 160)))], [(am 11, .inl (E.2.1, 40, .inl (sg mv 40)))]]) rfl (fun H locs hP hD hS => ?_)
  refine lv_icmp_eq (tgt := 1399) S.1 S.2.1 dL_law_1081 (by decide) (fun _ => ?_) (fun h => absurd (RR_ans (rr_hold hev hR (xs (i + 1)) (xs (i + 2))).1) h)
  exact kk i0 (rowR r (rHold r (xs (i + 1)) (xs (i + 2)))) x k z u y tb (fndC f (rHold r (xs (i + 1)) (xs (i + 2)))) len (yb, ye, ys, yv) q (rowR r2 (rHold r2 (xs (i + 1)) (xs (i + 2)))) k2 x2 (fndM f2 (rHold r2 (xs (i + 1)) (xs (i + 2)))) tp it mv H locs ls (inv_row hI (rr_hold hev hR (xs (i + 1)) (xs (i + 2)))) hP hD hS (lv_sub hl [0, 1, 2, 3] rfl)
set_option maxHeartbeats 1600000 in
set_option maxRecDepth 100000 in
theorem law_29 (S : CallFix p m c code 4 s #[Value.ref b] (c0 :: GW) RL) (hK : KE E s) (hX : EX aS A s s.heap) (hXs : va_X b L xs s s.heap) (hbl : b < s.heap.size) (hbA : ¬ A b) (hcc : cells ≤ room_1.cells) (hss : slots ≤ room_1.slots) (hL : L ≤ 3072) (i0 : Int32) (r x k z u y tb f : Row) (len : Nat) (Y : Ys) (q r2 k2 x2 f2 tp it mv : Row) (hI : Inv i0 r k u tb f len q r2 k2 f2 tp) (hP : PE E (LW E aS ag ah az ak am i0 r x k z u y tb f len Y q r2 k2 x2 f2 tp it mv) H) (hD : DE A (LW E aS ag ah az ak am i0 r x k z u y tb f len Y q r2 k2 x2 f2 tp it mv)) (hS : va_S A s.heap H locs) {i : Nat} (hi : i + 6 ≤ L) {ls : Array Slot} (hl : lv_has ls 4 [(0, .ref b), (1, .ref (ag 0)), (2, .ref (am 0)), (3, .int (nI i))]) (kk : KK p l e s m below meth c b E aS ag ah az ak am A cells slots Q i) : W p l e room_1 s m #[Value.ref b] below meth c H locs cells slots Q (F0 m 1086 ls []) := by
  obtain ⟨yb, ye, ys, yv⟩ := Y
  have hev := hI.1
  have hR := hI.2.1
  have hR2 := RI_ev hev hR
  have hRk := hI.2.2.1
  have hU := hI.2.2.2.2.2.1
  have hl9 := hI.2.2.2.2.2.2.1
  have hq3 := hI.2.2.2.2.2.2.2.1
  have hT := hI.2.2.2.2.2.2.2.2.1
  have hP : PE E [[gObj ag ah az ak i0], hillsW E ah r, hillsW E az x, hillsW E ak k, shO E ag z u, shN E ag y, [rdO ag (nI len) (nI ys) (nI yb) (nI ye) (nI yv)], [(ag 3, .inl (E.2.2.1, 120, .inl (sg tb 120)))], [(ag 4, .inl (E.2.1, 7, .inl (sg f 7)))], [mObj am q], [(am 1, .inl (E.2.1, 77, .inl (sg r2 77)))], [(am 2, .inl (E.2.1, 77, .inl (sg k2 77)))], [(am 3, .inl (E.2.1, 77, .inl (sg x2 77)))], [(am 4, .inl (E.2.1, 8, .inl (sg f2 8)))], [(am 5, .inl (E.2.1, 120, .inl (sg tp 120)))], [(am 6, .inl (E.2.2.2.2.2, 7, .inr (.inr (.inr (.inr (fun j => some (aS (12 + j))))))))], [(am 7, .inl (E.2.1, 480, .inl (sg it 480)))], [(am 8, .inl (E.2.1, 4, .inl (sg z 4)))], [(am 9, .inl (E.2.1, 4, .inl (sg u 4)))], [(am 10, .inl (E.2.1, 160, .inl (sg y 160)))], [(am 11, .inl (E.2.1, 40, .inl (sg mv 40)))]] H := hP
  have hD : DE A [[gObj ag ah az ak i0], hillsW E ah r, hillsW E az x, hillsW E ak k, shO E ag z u, shN E ag y, [rdO ag (nI len) (nI ys) (nI yb) (nI ye) (nI yv)], [(ag 3, .inl (E.2.2.1, 120, .inl (sg tb 120)))], [(ag 4, .inl (E.2.1, 7, .inl (sg f 7)))], [mObj am q], [(am 1, .inl (E.2.1, 77, .inl (sg r2 77)))], [(am 2, .inl (E.2.1, 77, .inl (sg k2 77)))], [(am 3, .inl (E.2.1, 77, .inl (sg x2 77)))], [(am 4, .inl (E.2.1, 8, .inl (sg f2 8)))], [(am 5, .inl (E.2.1, 120, .inl (sg tp 120)))], [(am 6, .inl (E.2.2.2.2.2, 7, .inr (.inr (.inr (.inr (fun j => some (aS (12 + j))))))))], [(am 7, .inl (E.2.1, 480, .inl (sg it 480)))], [(am 8, .inl (E.2.1, 4, .inl (sg z 4)))], [(am 9, .inl (E.2.1, 4, .inl (sg u 4)))], [(am 10, .inl (E.2.1, 160, .inl (sg y 160)))], [(am 11, .inl (E.2.1, 40, .inl (sg mv 40)))]] := hD
  refine lv_aload_n S.1 S.2.1 dL_law_1086 rfl (lv_at hl 1 rfl) ?_
  refine lv_aload_n S.1 S.2.1 dL_law_1087 rfl (lv_at hl 0 rfl) ?_
  refine lv_iload_n S.1 S.2.1 dL_law_1088 rfl (lv_at hl 3 rfl) ?_
  refine lv_iconst (v := 1) S.1 S.2.1 dL_law_1089 (by decide) ?_
  refine lv_iadd S.1 S.2.1 dL_law_1090 ?_
  refine lv_eqi (y := nI (i + 1)) (nI_add i 1) ?_
  refine b_sld (j := i + 1) S.1 S.2.1 hXs hbl hbA hS (by omega) (by omega) dL_law_1091 ?_
  refine lv_aload_n S.1 S.2.1 dL_law_1092 rfl (lv_at hl 0 rfl) ?_
  refine lv_iload_n S.1 S.2.1 dL_law_1093 rfl (lv_at hl 3 rfl) ?_
  refine lv_iconst (v := 2) S.1 S.2.1 dL_law_1094 (by decide) ?_
  refine lv_iadd S.1 S.2.1 dL_law_1095 ?_
  refine lv_eqi (y := nI (i + 2)) (nI_add i 2) ?_
  refine b_sld (j := i + 2) S.1 S.2.1 hXs hbl hbA hS (by omega) (by omega) dL_law_1096 ?_
  refine go_I (run_V (As := [.int (xs (i + 1)), .int (xs (i + 2))]) (rest := []) (n := 2) S hK (bl_P hP [0, 1, 8] rfl) (bl_D hD [0, 1, 8] rfl rfl) (c_X4_as l E ag ah az ak i0 r f (xs (i + 1)) (xs (i + 2)) hR) gV_L_134 (by decide +kernel) rfl ⟨rfl, rfl⟩ ⟨Nat.le_of_ble_eq_true rfl, Nat.le_of_ble_eq_true rfl⟩ (ci := 4) (q0 := 0) rfl rfl hl.1 (Nat.le_of_ble_eq_true rfl) dL_law_1097 ⟨hcc, hss⟩) hP hD hS [0, 1, 8] rfl (had_cons rfl (had_cons hw_ad (had_cons cell_ad rfl))) (Bs' := [[gObj ag ah az ak i0], hillsW E ah (rowR r (rAs r (xs (i + 1)) (xs (i + 2)))), hillsW E az x, hillsW E ak k, shO E ag z u, shN E ag y, [rdO ag (nI len) (nI ys) (nI yb) (nI ye) (nI yv)], [(ag 3, .inl (E.2.2.1, 120, .inl (sg tb 120)))], [(ag 4, .inl (E.2.1, 7, .inl (sg (fndC f (rAs r (xs (i + 1)) (xs (i + 2)))) 7)))], [mObj am q], [(am 1, .inl (E.2.1, 77, .inl (sg r2 77)))], [(am 2, .inl (E.2.1, 77, .inl (sg k2 77)))], [(am 3, .inl (E.2.1, 77, .inl (sg x2 77)))], [(am 4, .inl (E.2.1, 8, .inl (sg f2 8)))], [(am 5, .inl (E.2.1, 120, .inl (sg tp 120)))], [(am 6, .inl (E.2.2.2.2.2, 7, .inr (.inr (.inr (.inr (fun j => some (aS (12 + j))))))))], [(am 7, .inl (E.2.1, 480, .inl (sg it 480)))], [(am 8, .inl (E.2.1, 4, .inl (sg z 4)))], [(am 9, .inl (E.2.1, 4, .inl (sg u 4)))], [(am 10, .inl (E.2.1, 160, .inl (sg y 160)))], [(am 11, .inl (E.2.1, 40, .inl (sg mv 40)))]]) rfl (fun H locs hP hD hS => ?_)
  refine lv_aload_n S.1 S.2.1 dL_law_1100 rfl (lv_at hl 2 rfl) ?_
  refine lv_aload_n S.1 S.2.1 dL_law_1101 rfl (lv_at hl 0 rfl) ?_
  refine lv_iload_n S.1 S.2.1 dL_law_1102 rfl (lv_at hl 3 rfl) ?_
  refine lv_iconst (v := 1) S.1 S.2.1 dL_law_1103 (by decide) ?_
  refine lv_iadd S.1 S.2.1 dL_law_1104 ?_
  refine lv_eqi (y := nI (i + 1)) (nI_add i 1) ?_
  refine b_sld (j := i + 1) S.1 S.2.1 hXs hbl hbA hS (by omega) (by omega) dL_law_1105 ?_
  refine lv_aload_n S.1 S.2.1 dL_law_1106 rfl (lv_at hl 0 rfl) ?_
  refine lv_iload_n S.1 S.2.1 dL_law_1107 rfl (lv_at hl 3 rfl) ?_
  refine lv_iconst (v := 2) S.1 S.2.1 dL_law_1108 (by decide) ?_
  refine lv_iadd S.1 S.2.1 dL_law_1109 ?_
  refine lv_eqi (y := nI (i + 2)) (nI_add i 2) ?_
  refine b_sld (j := i + 2) S.1 S.2.1 hXs hbl hbA hS (by omega) (by omega) dL_law_1110 ?_
  refine go_I (run_V (As := [.int (xs (i + 1)), .int (xs (i + 2))]) (rest := [.int (ansR (rAs r (xs (i + 1)) (xs (i + 2))))]) (n := 2) S hK (bl_P hP [9, 10, 13] rfl) (bl_D hD [9, 10, 13] rfl rfl) (c_X5_as l E am q r2 f2 (xs (i + 1)) (xs (i + 2)) hR2) gV_L_137 (by decide +kernel) rfl ⟨rfl, rfl⟩ ⟨Nat.le_of_ble_eq_true rfl, Nat.le_of_ble_eq_true rfl⟩ (ci := 5) (q0 := 0) rfl rfl hl.1 (Nat.le_of_ble_eq_true rfl) dL_law_1111 ⟨hcc, hss⟩) hP hD hS [9, 10, 13] rfl (had_cons rfl (had_cons rfl (had_cons cell_ad rfl))) (Bs' := [[gObj ag ah az ak i0], hillsW E ah (rowR r (rAs r (xs (i + 1)) (xs (i + 2)))), hillsW E az x, hillsW E ak k, shO E ag z u, shN E ag y, [rdO ag (nI len) (nI ys) (nI yb) (nI ye) (nI yv)], [(ag 3, .inl (E.2.2.1, 120, .inl (sg tb 120)))], [(ag 4, .inl (E.2.1, 7, .inl (sg (fndC f (rAs r (xs (i + 1)) (xs (i + 2)))) 7)))], [mObj am q], [(am 1, .inl (E.2.1, 77, .inl (sg r2 77)))], [(am 2, .inl (E.2.1, 77, .inl (sg k2 77)))], [(am 3, .inl (E.2.1, 77, .inl (sg x2 77)))], [(am 4, .inl (E.2.1, 8, .inl (sg (fndM f2 (rAs r2 (xs (i + 1)) (xs (i + 2)))) 8)))], [(am 5, .inl (E.2.1, 120, .inl (sg tp 120)))], [(am 6, .inl (E.2.2.2.2.2, 7, .inr (.inr (.inr (.inr (fun j => some (aS (12 + j))))))))], [(am 7, .inl (E.2.1, 480, .inl (sg it 480)))], [(am 8, .inl (E.2.1, 4, .inl (sg z 4)))], [(am 9, .inl (E.2.1, 4, .inl (sg u 4)))], [(am 10, .inl (E.2.1, 160, .inl (sg y 160)))], [(am 11, .inl (E.2.1, 40, .inl (sg mv 40)))]]) rfl (fun H locs hP hD hS => ?_)
  refine lv_icmp_eq (tgt := 1399) S.1 S.2.1 dL_law_1114 (by decide) (fun _ => ?_) (fun h => absurd (RR_ans (rr_as hev hR (xs (i + 1)) (xs (i + 2)))) h)
  exact kk i0 (rowR r (rAs r (xs (i + 1)) (xs (i + 2)))) x k z u y tb (fndC f (rAs r (xs (i + 1)) (xs (i + 2)))) len (yb, ye, ys, yv) q r2 k2 x2 (fndM f2 (rAs r2 (xs (i + 1)) (xs (i + 2)))) tp it mv H locs ls (inv_asC hI (rr_as hev hR (xs (i + 1)) (xs (i + 2))) as_row) hP hD hS (lv_sub hl [0, 1, 2, 3] rfl)
end LWC
