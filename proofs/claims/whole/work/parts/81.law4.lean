section LWC
variable {p : Program} {l : Launch} {e : Env} {s : State} {m : MethodId} {below : List Frame} {meth : Method} {c : Code} {H : Heap} {locs : List Loc} {cells slots : Nat} {Q : State → Prop} {c0 : Cond} {E : EV} {aS ag ah az ak am : Nat → Nat} {A : Nat → Prop} {b L : Nat} {xs : Nat → Int32}
set_option maxHeartbeats 1600000 in
set_option maxRecDepth 100000 in
theorem law_30 (S : CallFix p m c code 4 s #[Value.ref b] (c0 :: GW) RL) (hK : KE E s) (hX : EX aS A s s.heap) (hXs : va_X b L xs s s.heap) (hbl : b < s.heap.size) (hbA : ¬ A b) (hcc : cells ≤ room_1.cells) (hss : slots ≤ room_1.slots) (hL : L ≤ 3072) (i0 : Int32) (r x k z u y tb f : Row) (len : Nat) (Y : Ys) (q r2 k2 x2 f2 tp it mv : Row) (hI : Inv i0 r k u tb f len q r2 k2 f2 tp) (hP : PE E (LW E aS ag ah az ak am i0 r x k z u y tb f len Y q r2 k2 x2 f2 tp it mv) H) (hD : DE A (LW E aS ag ah az ak am i0 r x k z u y tb f len Y q r2 k2 x2 f2 tp it mv)) (hS : va_S A s.heap H locs) {i : Nat} (hi : i + 6 ≤ L) {ls : Array Slot} (hl : lv_has ls 4 [(0, .ref b), (1, .ref (ag 0)), (2, .ref (am 0)), (3, .int (nI i))]) (kk : KK p l e s m below meth c b E aS ag ah az ak am A cells slots Q i) : W p l e room_1 s m #[Value.ref b] below meth c H locs cells slots Q (F0 m 1119 ls []) := by
  obtain ⟨yb, ye, ys, yv⟩ := Y
  have hev := hI.1
  have hR := hI.2.1
  have hR2 := RI_ev hev hR
  have hRk := hI.2.2.1
  have hU := hI.2.2.2.2.2.1
  have hl9 := hI.2.2.2.2.2.2.1
  have hq3 := hI.2.2.2.2.2.2.2.1
  have hT := hI.2.2.2.2.2.2.2.2.1
  have hP : PE E [[gObj ag ah az ak i0], hillsW E ah r, hillsW E az x, hillsW E ak k, shO E ag z u, shN E ag y, [rdO ag (nI len) (nI ys) (nI yb) (nI ye) (nI yv)], [(ag 3, .inl (E.2.2.1, 120, .inl (sg tb 120)))], [(ag 4, .inl (E.2.1, 7, .inl (sg f 7)))], [mObj am q], [(am 1, .inl (E.2.1, 77, .inl (sg r2 77)))], [(am 2, .inl (E.2.1, 77, .inl (sg k2 77)))], [(am 3, .inl (E.2.1, 77, .inl (sg x2 77)))], [(am 4, .inl (E.2.1, 8, .inl (sg f2 8)))], [(am 5, .inl (E.2.1, 120, .inl (sg tp 120)))], [(am 6, .inl (E.2.2.2.2.2, 7, .inr (.inr (.inr (.inr (fun j => some (aS (12 + j))))))))], [(am 7, .inl (E.2.1, 480, .inl (sg it 480)))], [(am 8, .inl (E.2.1, 4, .inl (sg z 4)))], [(am 9, .inl (E.2.1, 4, .inl (sg u 4)))], [(am 10, .inl (E.2.1, 160, .inl (sg y 160)))], [(am 11, .inl (E.2.1, 40, .inl (sg mv 40)))]] H := hP
  have hD : DE A [[gObj ag ah az ak i0], hillsW E ah r, hillsW E az x, hillsW E ak k, shO E ag z u, shN E ag y, [rdO ag (nI len) (nI ys) (nI yb) (nI ye) (nI yv)], [(ag 3, .inl (E.2.2.1, 120, .inl (sg tb 120)))], [(ag 4, .inl (E.2.1, 7, .inl (sg f 7)))], [mObj am q], [(am 1, .inl (E.2.1, 77, .inl (sg r2 77)))], [(am 2, .inl (E.2.1, 77, .inl (sg k2 77)))], [(am 3, .inl (E.2.1, 77, .inl (sg x2 77)))], [(am 4, .inl (E.2.1, 8, .inl (sg f2 8)))], [(am 5, .inl (E.2.1, 120, .inl (sg tp 120)))], [(am 6, .inl (E.2.2.2.2.2, 7, .inr (.inr (.inr (.inr (fun j => some (aS (12 + j))))))))], [(am 7, .inl (E.2.1, 480, .inl (sg it 480)))], [(am 8, .inl (E.2.1, 4, .inl (sg z 4)))], [(am 9, .inl (E.2.1, 4, .inl (sg u 4)))], [(am 10, .inl (E.2.1, 160, .inl (sg y 160)))], [(am 11, .inl (E.2.1, 40, .inl (sg mv 40)))]] := hD
  refine lv_aload_n S.1 S.2.1 dL_law_1119 rfl (lv_at hl 1 rfl) ?_
  refine lv_aload_n S.1 S.2.1 dL_law_1120 rfl (lv_at hl 0 rfl) ?_
  refine lv_iload_n S.1 S.2.1 dL_law_1121 rfl (lv_at hl 3 rfl) ?_
  refine lv_iconst (v := 1) S.1 S.2.1 dL_law_1122 (by decide) ?_
  refine lv_iadd S.1 S.2.1 dL_law_1123 ?_
  refine lv_eqi (y := nI (i + 1)) (nI_add i 1) ?_
  refine b_sld (j := i + 1) S.1 S.2.1 hXs hbl hbA hS (by omega) (by omega) dL_law_1124 ?_
  refine lv_aload_n S.1 S.2.1 dL_law_1125 rfl (lv_at hl 0 rfl) ?_
  refine lv_iload_n S.1 S.2.1 dL_law_1126 rfl (lv_at hl 3 rfl) ?_
  refine lv_iconst (v := 2) S.1 S.2.1 dL_law_1127 (by decide) ?_
  refine lv_iadd S.1 S.2.1 dL_law_1128 ?_
  refine lv_eqi (y := nI (i + 2)) (nI_add i 2) ?_
  refine b_sld (j := i + 2) S.1 S.2.1 hXs hbl hbA hS (by omega) (by omega) dL_law_1129 ?_
  refine lv_aload_n S.1 S.2.1 dL_law_1130 rfl (lv_at hl 0 rfl) ?_
  refine lv_iload_n S.1 S.2.1 dL_law_1131 rfl (lv_at hl 3 rfl) ?_
  refine lv_iconst (v := 3) S.1 S.2.1 dL_law_1132 (by decide) ?_
  refine lv_iadd S.1 S.2.1 dL_law_1133 ?_
  refine lv_eqi (y := nI (i + 3)) (nI_add i 3) ?_
  refine b_sld (j := i + 3) S.1 S.2.1 hXs hbl hbA hS (by omega) (by omega) dL_law_1134 ?_
  refine go_I (run_V (As := [.int (xs (i + 1)), .int (xs (i + 2)), .int (xs (i + 3))]) (rest := []) (n := 3) S hK (bl_P hP [0, 8, 4, 5] rfl) (bl_D hD [0, 8, 4, 5] rfl rfl) (c_X4_sheet l E ag ah az ak i0 f z u y (xs (i + 1)) (xs (i + 2)) (xs (i + 3)) ) gV_L_138 (by decide +kernel) rfl ⟨rfl, rfl⟩ ⟨Nat.le_of_ble_eq_true rfl, Nat.le_of_ble_eq_true rfl⟩ (ci := 4) (q0 := 0) rfl rfl hl.1 (Nat.le_of_ble_eq_true rfl) dL_law_1135 ⟨hcc, hss⟩) hP hD hS [0, 8, 4, 5] rfl (had_cons rfl (had_cons cell_ad (had_cons sO_ad (had_cons sN_ad rfl)))) (Bs' := [[gObj ag ah az ak i0], hillsW E ah r, hillsW E az x, hillsW E ak k, shO E ag (pick (rSheet (xs (i + 1)) (xs (i + 2)) (xs (i + 3))) z (upd z (tN (xs (i + 1))) (xs (i + 2)))) (pick (rSheet (xs (i + 1)) (xs (i + 2)) (xs (i + 3))) u (upd u (tN (xs (i + 1))) (ansR (rSheet (xs (i + 1)) (xs (i + 2)) (xs (i + 3)))))), shN E ag (pick (rSheet (xs (i + 1)) (xs (i + 2)) (xs (i + 3))) y (clrS y (tN (xs (i + 1))) 40)), [rdO ag (nI len) (nI ys) (nI yb) (nI ye) (nI yv)], [(ag 3, .inl (E.2.2.1, 120, .inl (sg tb 120)))], [(ag 4, .inl (E.2.1, 7, .inl (sg (fndC f (rSheet (xs (i + 1)) (xs (i + 2)) (xs (i + 3)))) 7)))], [mObj am q], [(am 1, .inl (E.2.1, 77, .inl (sg r2 77)))], [(am 2, .inl (E.2.1, 77, .inl (sg k2 77)))], [(am 3, .inl (E.2.1, 77, .inl (sg x2 77)))], [(am 4, .inl (E.2.1, 8, .inl (sg f2 8)))], [(am 5, .inl (E.2.1, 120, .inl (sg tp 120)))], [(am 6, .inl (E.2.2.2.2.2, 7, .inr (.inr (.inr (.inr (fun j => some (aS (12 + j))))))))], [(am 7, .inl (E.2.1, 480, .inl (sg it 480)))], [(am 8, .inl (E.2.1, 4, .inl (sg z 4)))], [(am 9, .inl (E.2.1, 4, .inl (sg u 4)))], [(am 10, .inl (E.2.1, 160, .inl (sg y 160)))], [(am 11, .inl (E.2.1, 40, .inl (sg mv 40)))]]) rfl (fun H locs hP hD hS => ?_)
  refine lv_aload_n S.1 S.2.1 dL_law_1138 rfl (lv_at hl 2 rfl) ?_
  refine lv_aload_n S.1 S.2.1 dL_law_1139 rfl (lv_at hl 0 rfl) ?_
  refine lv_iload_n S.1 S.2.1 dL_law_1140 rfl (lv_at hl 3 rfl) ?_
  refine lv_iconst (v := 1) S.1 S.2.1 dL_law_1141 (by decide) ?_
  refine lv_iadd S.1 S.2.1 dL_law_1142 ?_
  refine lv_eqi (y := nI (i + 1)) (nI_add i 1) ?_
  refine b_sld (j := i + 1) S.1 S.2.1 hXs hbl hbA hS (by omega) (by omega) dL_law_1143 ?_
  refine lv_aload_n S.1 S.2.1 dL_law_1144 rfl (lv_at hl 0 rfl) ?_
  refine lv_iload_n S.1 S.2.1 dL_law_1145 rfl (lv_at hl 3 rfl) ?_
  refine lv_iconst (v := 2) S.1 S.2.1 dL_law_1146 (by decide) ?_
  refine lv_iadd S.1 S.2.1 dL_law_1147 ?_
  refine lv_eqi (y := nI (i + 2)) (nI_add i 2) ?_
  refine b_sld (j := i + 2) S.1 S.2.1 hXs hbl hbA hS (by omega) (by omega) dL_law_1148 ?_
  refine lv_aload_n S.1 S.2.1 dL_law_1149 rfl (lv_at hl 0 rfl) ?_
  refine lv_iload_n S.1 S.2.1 dL_law_1150 rfl (lv_at hl 3 rfl) ?_
  refine lv_iconst (v := 3) S.1 S.2.1 dL_law_1151 (by decide) ?_
  refine lv_iadd S.1 S.2.1 dL_law_1152 ?_
  refine lv_eqi (y := nI (i + 3)) (nI_add i 3) ?_
  refine b_sld (j := i + 3) S.1 S.2.1 hXs hbl hbA hS (by omega) (by omega) dL_law_1153 ?_
  refine go_I (run_V (As := [.int (xs (i + 1)), .int (xs (i + 2)), .int (xs (i + 3))]) (rest := [.int (ansR (rSheet (xs (i + 1)) (xs (i + 2)) (xs (i + 3))))]) (n := 3) S hK (bl_P hP [9, 13, 17, 18, 19] rfl) (bl_D hD [9, 13, 17, 18, 19] rfl rfl) (c_X5_sheet l E am q f2 z u y (xs (i + 1)) (xs (i + 2)) (xs (i + 3)) ) gV_L_141 (by decide +kernel) rfl ⟨rfl, rfl⟩ ⟨Nat.le_of_ble_eq_true rfl, Nat.le_of_ble_eq_true rfl⟩ (ci := 5) (q0 := 0) rfl rfl hl.1 (Nat.le_of_ble_eq_true rfl) dL_law_1154 ⟨hcc, hss⟩) hP hD hS [9, 13, 17, 18, 19] rfl (had_cons rfl (had_cons cell_ad (had_cons cell_ad (had_cons cell_ad (had_cons cell_ad rfl))))) (Bs' := [[gObj ag ah az ak i0], hillsW E ah r, hillsW E az x, hillsW E ak k, shO E ag (pick (rSheet (xs (i + 1)) (xs (i + 2)) (xs (i + 3))) z (upd z (tN (xs (i + 1))) (xs (i + 2)))) (pick (rSheet (xs (i + 1)) (xs (i + 2)) (xs (i + 3))) u (upd u (tN (xs (i + 1))) (ansR (rSheet (xs (i + 1)) (xs (i + 2)) (xs (i + 3)))))), shN E ag (pick (rSheet (xs (i + 1)) (xs (i + 2)) (xs (i + 3))) y (clrS y (tN (xs (i + 1))) 40)), [rdO ag (nI len) (nI ys) (nI yb) (nI ye) (nI yv)], [(ag 3, .inl (E.2.2.1, 120, .inl (sg tb 120)))], [(ag 4, .inl (E.2.1, 7, .inl (sg (fndC f (rSheet (xs (i + 1)) (xs (i + 2)) (xs (i + 3)))) 7)))], [mObj am q], [(am 1, .inl (E.2.1, 77, .inl (sg r2 77)))], [(am 2, .inl (E.2.1, 77, .inl (sg k2 77)))], [(am 3, .inl (E.2.1, 77, .inl (sg x2 77)))], [(am 4, .inl (E.2.1, 8, .inl (sg (fndM f2 (rSheet (xs (i + 1)) (xs (i + 2)) (xs (i + 3)))) 8)))], [(am 5, .inl (E.2.1, 120, .inl (sg tp 120)))], [(am 6, .inl (E.2.2.2.2.2, 7, .inr (.inr (.inr (.inr (fun j => some (aS (12 + j))))))))], [(am 7, .inl (E.2.1, 480, .inl (sg it 480)))], [(am 8, .inl (E.2.1, 4, .inl (sg (pick (rSheet (xs (i + 1)) (xs (i + 2)) (xs (i + 3))) z (upd z (tN (xs (i + 1))) (xs (i + 2)))) 4)))], [(am 9, .inl (E.2.1, 4, .inl (sg (pick (rSheet (xs (i + 1)) (xs (i + 2)) (xs (i + 3))) u (upd u (tN (xs (i + 1))) (ansR (rSheet (xs (i + 1)) (xs (i + 2)) (xs (i + 3)))))) 4)))], [(am 10, .inl (E.2.1, 160, .inl (sg (pick (rSheet (xs (i + 1)) (xs (i + 2)) (xs (i + 3))) y (clrS y (tN (xs (i + 1))) 40)) 160)))], [(am 11, .inl (E.2.1, 40, .inl (sg mv 40)))]]) rfl (fun H locs hP hD hS => ?_)
  refine lv_icmp_eq (tgt := 1399) S.1 S.2.1 dL_law_1157 (by decide) (fun _ => ?_) (fun h => absurd (rfl) h)
  exact kk i0 r x k (pick (rSheet (xs (i + 1)) (xs (i + 2)) (xs (i + 3))) z (upd z (tN (xs (i + 1))) (xs (i + 2)))) (pick (rSheet (xs (i + 1)) (xs (i + 2)) (xs (i + 3))) u (upd u (tN (xs (i + 1))) (ansR (rSheet (xs (i + 1)) (xs (i + 2)) (xs (i + 3)))))) (pick (rSheet (xs (i + 1)) (xs (i + 2)) (xs (i + 3))) y (clrS y (tN (xs (i + 1))) 40)) tb (fndC f (rSheet (xs (i + 1)) (xs (i + 2)) (xs (i + 3)))) len (yb, ye, ys, yv) q r2 k2 x2 (fndM f2 (rSheet (xs (i + 1)) (xs (i + 2)) (xs (i + 3)))) tp it mv H locs ls (inv_u (inv_ans hI (rr_sheet (xs (i + 1)) (xs (i + 2)) (xs (i + 3))) rfl rfl) (sheet_u hU)) hP hD hS (lv_sub hl [0, 1, 2, 3] rfl)
set_option maxHeartbeats 1600000 in
set_option maxRecDepth 100000 in
theorem law_31 (S : CallFix p m c code 4 s #[Value.ref b] (c0 :: GW) RL) (hK : KE E s) (hX : EX aS A s s.heap) (hXs : va_X b L xs s s.heap) (hbl : b < s.heap.size) (hbA : ¬ A b) (hcc : cells ≤ room_1.cells) (hss : slots ≤ room_1.slots) (hL : L ≤ 3072) (i0 : Int32) (r x k z u y tb f : Row) (len : Nat) (Y : Ys) (q r2 k2 x2 f2 tp it mv : Row) (hI : Inv i0 r k u tb f len q r2 k2 f2 tp) (hP : PE E (LW E aS ag ah az ak am i0 r x k z u y tb f len Y q r2 k2 x2 f2 tp it mv) H) (hD : DE A (LW E aS ag ah az ak am i0 r x k z u y tb f len Y q r2 k2 x2 f2 tp it mv)) (hS : va_S A s.heap H locs) {i : Nat} (hi : i + 6 ≤ L) {ls : Array Slot} (hl : lv_has ls 4 [(0, .ref b), (1, .ref (ag 0)), (2, .ref (am 0)), (3, .int (nI i))]) (kk : KK p l e s m below meth c b E aS ag ah az ak am A cells slots Q i) : W p l e room_1 s m #[Value.ref b] below meth c H locs cells slots Q (F0 m 1162 ls []) := by
  obtain ⟨yb, ye, ys, yv⟩ := Y
  have hev := hI.1
  have hR := hI.2.1
  have hR2 := RI_ev hev hR
  have hRk := hI.2.2.1
  have hU := hI.2.2.2.2.2.1
  have hl9 := hI.2.2.2.2.2.2.1
  have hq3 := hI.2.2.2.2.2.2.2.1
  have hT := hI.2.2.2.2.2.2.2.2.1
  have hP : PE E [[gObj ag ah az ak i0], hillsW E ah r, hillsW E az x, hillsW E ak k, shO E ag z u, shN E ag y, [rdO ag (nI len) (nI ys) (nI yb) (nI ye) (nI yv)], [(ag 3, .inl (E.2.2.1, 120, .inl (sg tb 120)))], [(ag 4, .inl (E.2.1, 7, .inl (sg f 7)))], [mObj am q], [(am 1, .inl (E.2.1, 77, .inl (sg r2 77)))], [(am 2, .inl (E.2.1, 77, .inl (sg k2 77)))], [(am 3, .inl (E.2.1, 77, .inl (sg x2 77)))], [(am 4, .inl (E.2.1, 8, .inl (sg f2 8)))], [(am 5, .inl (E.2.1, 120, .inl (sg tp 120)))], [(am 6, .inl (E.2.2.2.2.2, 7, .inr (.inr (.inr (.inr (fun j => some (aS (12 + j))))))))], [(am 7, .inl (E.2.1, 480, .inl (sg it 480)))], [(am 8, .inl (E.2.1, 4, .inl (sg z 4)))], [(am 9, .inl (E.2.1, 4, .inl (sg u 4)))], [(am 10, .inl (E.2.1, 160, .inl (sg y 160)))], [(am 11, .inl (E.2.1, 40, .inl (sg mv 40)))]] H := hP
  have hD : DE A [[gObj ag ah az ak i0], hillsW E ah r, hillsW E az x, hillsW E ak k, shO E ag z u, shN E ag y, [rdO ag (nI len) (nI ys) (nI yb) (nI ye) (nI yv)], [(ag 3, .inl (E.2.2.1, 120, .inl (sg tb 120)))], [(ag 4, .inl (E.2.1, 7, .inl (sg f 7)))], [mObj am q], [(am 1, .inl (E.2.1, 77, .inl (sg r2 77)))], [(am 2, .inl (E.2.1, 77, .inl (sg k2 77)))], [(am 3, .inl (E.2.1, 77, .inl (sg x2 77)))], [(am 4, .inl (E.2.1, 8, .inl (sg f2 8)))], [(am 5, .inl (E.2.1, 120, .inl (sg tp 120)))], [(am 6, .inl (E.2.2.2.2.2, 7, .inr (.inr (.inr (.inr (fun j => some (aS (12 + j))))))))], [(am 7, .inl (E.2.1, 480, .inl (sg it 480)))], [(am 8, .inl (E.2.1, 4, .inl (sg z 4)))], [(am 9, .inl (E.2.1, 4, .inl (sg u 4)))], [(am 10, .inl (E.2.1, 160, .inl (sg y 160)))], [(am 11, .inl (E.2.1, 40, .inl (sg mv 40)))]] := hD
  refine lv_aload_n S.1 S.2.1 dL_law_1162 rfl (lv_at hl 1 rfl) ?_
  refine lv_aload_n S.1 S.2.1 dL_law_1163 rfl (lv_at hl 0 rfl) ?_
  refine lv_iload_n S.1 S.2.1 dL_law_1164 rfl (lv_at hl 3 rfl) ?_
  refine lv_iconst (v := 1) S.1 S.2.1 dL_law_1165 (by decide) ?_
  refine lv_iadd S.1 S.2.1 dL_law_1166 ?_
  refine lv_eqi (y := nI (i + 1)) (nI_add i 1) ?_
  refine b_sld (j := i + 1) S.1 S.2.1 hXs hbl hbA hS (by omega) (by omega) dL_law_1167 ?_
  refine lv_aload_n S.1 S.2.1 dL_law_1168 rfl (lv_at hl 0 rfl) ?_
  refine lv_iload_n S.1 S.2.1 dL_law_1169 rfl (lv_at hl 3 rfl) ?_
  refine lv_iconst (v := 2) S.1 S.2.1 dL_law_1170 (by decide) ?_
  refine lv_iadd S.1 S.2.1 dL_law_1171 ?_
  refine lv_eqi (y := nI (i + 2)) (nI_add i 2) ?_
  refine b_sld (j := i + 2) S.1 S.2.1 hXs hbl hbA hS (by omega) (by omega) dL_law_1172 ?_
  refine lv_aload_n S.1 S.2.1 dL_law_1173 rfl (lv_at hl 0 rfl) ?_
  refine lv_iload_n S.1 S.2.1 dL_law_1174 rfl (lv_at hl 3 rfl) ?_
  refine lv_iconst (v := 3) S.1 S.2.1 dL_law_1175 (by decide) ?_
  refine lv_iadd S.1 S.2.1 dL_law_1176 ?_
  refine lv_eqi (y := nI (i + 3)) (nI_add i 3) ?_
  refine b_sld (j := i + 3) S.1 S.2.1 hXs hbl hbA hS (by omega) (by omega) dL_law_1177 ?_
  refine go_I (run_V (As := [.int (xs (i + 1)), .int (xs (i + 2)), .int (xs (i + 3))]) (rest := []) (n := 3) S hK (bl_P hP [0, 8, 4, 5] rfl) (bl_D hD [0, 8, 4, 5] rfl rfl) (c_X4_write l E ag ah az ak i0 f z u y (xs (i + 1)) (xs (i + 2)) (xs (i + 3)) hU) gV_L_142 (by decide +kernel) rfl ⟨rfl, rfl⟩ ⟨Nat.le_of_ble_eq_true rfl, Nat.le_of_ble_eq_true rfl⟩ (ci := 4) (q0 := 0) rfl rfl hl.1 (Nat.le_of_ble_eq_true rfl) dL_law_1178 ⟨hcc, hss⟩) hP hD hS [0, 8, 4, 5] rfl (had_cons rfl (had_cons cell_ad (had_cons rfl (had_cons sN_ad rfl)))) (Bs' := [[gObj ag ah az ak i0], hillsW E ah r, hillsW E az x, hillsW E ak k, shO E ag z u, shN E ag (rowR y (rWrite y z u (xs (i + 1)) (xs (i + 2)) (xs (i + 3)))), [rdO ag (nI len) (nI ys) (nI yb) (nI ye) (nI yv)], [(ag 3, .inl (E.2.2.1, 120, .inl (sg tb 120)))], [(ag 4, .inl (E.2.1, 7, .inl (sg (fndC f (rWrite y z u (xs (i + 1)) (xs (i + 2)) (xs (i + 3)))) 7)))], [mObj am q], [(am 1, .inl (E.2.1, 77, .inl (sg r2 77)))], [(am 2, .inl (E.2.1, 77, .inl (sg k2 77)))], [(am 3, .inl (E.2.1, 77, .inl (sg x2 77)))], [(am 4, .inl (E.2.1, 8, .inl (sg f2 8)))], [(am 5, .inl (E.2.1, 120, .inl (sg tp 120)))], [(am 6, .inl (E.2.2.2.2.2, 7, .inr (.inr (.inr (.inr (fun j => some (aS (12 + j))))))))], [(am 7, .inl (E.2.1, 480, .inl (sg it 480)))], [(am 8, .inl (E.2.1, 4, .inl (sg z 4)))], [(am 9, .inl (E.2.1, 4, .inl (sg u 4)))], [(am 10, .inl (E.2.1, 160, .inl (sg y 160)))], [(am 11, .inl (E.2.1, 40, .inl (sg mv 40)))]]) rfl (fun H locs hP hD hS => ?_)
  refine lv_aload_n S.1 S.2.1 dL_law_1181 rfl (lv_at hl 2 rfl) ?_
  refine lv_aload_n S.1 S.2.1 dL_law_1182 rfl (lv_at hl 0 rfl) ?_
  refine lv_iload_n S.1 S.2.1 dL_law_1183 rfl (lv_at hl 3 rfl) ?_
  refine lv_iconst (v := 1) S.1 S.2.1 dL_law_1184 (by decide) ?_
  refine lv_iadd S.1 S.2.1 dL_law_1185 ?_
  refine lv_eqi (y := nI (i + 1)) (nI_add i 1) ?_
  refine b_sld (j := i + 1) S.1 S.2.1 hXs hbl hbA hS (by omega) (by omega) dL_law_1186 ?_
  refine lv_aload_n S.1 S.2.1 dL_law_1187 rfl (lv_at hl 0 rfl) ?_
  refine lv_iload_n S.1 S.2.1 dL_law_1188 rfl (lv_at hl 3 rfl) ?_
  refine lv_iconst (v := 2) S.1 S.2.1 dL_law_1189 (by decide) ?_
  refine lv_iadd S.1 S.2.1 dL_law_1190 ?_
  refine lv_eqi (y := nI (i + 2)) (nI_add i 2) ?_
  refine b_sld (j := i + 2) S.1 S.2.1 hXs hbl hbA hS (by omega) (by omega) dL_law_1191 ?_
  refine lv_aload_n S.1 S.2.1 dL_law_1192 rfl (lv_at hl 0 rfl) ?_
  refine lv_iload_n S.1 S.2.1 dL_law_1193 rfl (lv_at hl 3 rfl) ?_
  refine lv_iconst (v := 3) S.1 S.2.1 dL_law_1194 (by decide) ?_
  refine lv_iadd S.1 S.2.1 dL_law_1195 ?_
  refine lv_eqi (y := nI (i + 3)) (nI_add i 3) ?_
  refine b_sld (j := i + 3) S.1 S.2.1 hXs hbl hbA hS (by omega) (by omega) dL_law_1196 ?_
  refine go_I (run_V (As := [.int (xs (i + 1)), .int (xs (i + 2)), .int (xs (i + 3))]) (rest := [.int (ansR (rWrite y z u (xs (i + 1)) (xs (i + 2)) (xs (i + 3))))]) (n := 3) S hK (bl_P hP [9, 13, 17, 18, 19] rfl) (bl_D hD [9, 13, 17, 18, 19] rfl rfl) (c_X5_write l E am q f2 z u y (xs (i + 1)) (xs (i + 2)) (xs (i + 3)) hU) gV_L_145 (by decide +kernel) rfl ⟨rfl, rfl⟩ ⟨Nat.le_of_ble_eq_true rfl, Nat.le_of_ble_eq_true rfl⟩ (ci := 5) (q0 := 0) rfl rfl hl.1 (Nat.le_of_ble_eq_true rfl) dL_law_1197 ⟨hcc, hss⟩) hP hD hS [9, 13, 17, 18, 19] rfl (had_cons rfl (had_cons cell_ad (had_cons rfl (had_cons rfl (had_cons cell_ad rfl))))) (Bs' := [[gObj ag ah az ak i0], hillsW E ah r, hillsW E az x, hillsW E ak k, shO E ag z u, shN E ag (rowR y (rWrite y z u (xs (i + 1)) (xs (i + 2)) (xs (i + 3)))), [rdO ag (nI len) (nI ys) (nI yb) (nI ye) (nI yv)], [(ag 3, .inl (E.2.2.1, 120, .inl (sg tb 120)))], [(ag 4, .inl (E.2.1, 7, .inl (sg (fndC f (rWrite y z u (xs (i + 1)) (xs (i + 2)) (xs (i + 3)))) 7)))], [mObj am q], [(am 1, .inl (E.2.1, 77, .inl (sg r2 77)))], [(am 2, .inl (E.2.1, 77, .inl (sg k2 77)))], [(am 3, .inl (E.2.1, 77, .inl (sg x2 77)))], [(am 4, .inl (E.2.1, 8, .inl (sg (fndM f2 (rWrite y z u (xs (i + 1)) (xs (i + 2)) (xs (i + 3)))) 8)))], [(am 5, .inl (E.2.1, 120, .inl (sg tp 120)))], [(am 6, .inl (E.2.2.2.2.2, 7, .inr (.inr (.inr (.inr (fun j => some (aS (12 + j))))))))], [(am 7, .inl (E.2.1, 480, .inl (sg it 480)))], [(am 8, .inl (E.2.1, 4, .inl (sg z 4)))], [(am 9, .inl (E.2.1, 4, .inl (sg u 4)))], [(am 10, .inl (E.2.1, 160, .inl (sg (rowR y (rWrite y z u (xs (i + 1)) (xs (i + 2)) (xs (i + 3)))) 160)))], [(am 11, .inl (E.2.1, 40, .inl (sg mv 40)))]]) rfl (fun H locs hP hD hS => ?_)
  refine lv_icmp_eq (tgt := 1399) S.1 S.2.1 dL_law_1200 (by decide) (fun _ => ?_) (fun h => absurd (rfl) h)
  exact kk i0 r x k z u (rowR y (rWrite y z u (xs (i + 1)) (xs (i + 2)) (xs (i + 3)))) tb (fndC f (rWrite y z u (xs (i + 1)) (xs (i + 2)) (xs (i + 3)))) len (yb, ye, ys, yv) q r2 k2 x2 (fndM f2 (rWrite y z u (xs (i + 1)) (xs (i + 2)) (xs (i + 3)))) tp it mv H locs ls (inv_ans hI (rr_write y z u (xs (i + 1)) (xs (i + 2)) (xs (i + 3))) rfl rfl) hP hD hS (lv_sub hl [0, 1, 2, 3] rfl)
set_option maxHeartbeats 1600000 in
set_option maxRecDepth 100000 in
theorem law_32 (S : CallFix p m c code 4 s #[Value.ref b] (c0 :: GW) RL) (hK : KE E s) (hX : EX aS A s s.heap) (hXs : va_X b L xs s s.heap) (hbl : b < s.heap.size) (hbA : ¬ A b) (hcc : cells ≤ room_1.cells) (hss : slots ≤ room_1.slots) (hL : L ≤ 3072) (i0 : Int32) (r x k z u y tb f : Row) (len : Nat) (Y : Ys) (q r2 k2 x2 f2 tp it mv : Row) (hI : Inv i0 r k u tb f len q r2 k2 f2 tp) (hP : PE E (LW E aS ag ah az ak am i0 r x k z u y tb f len Y q r2 k2 x2 f2 tp it mv) H) (hD : DE A (LW E aS ag ah az ak am i0 r x k z u y tb f len Y q r2 k2 x2 f2 tp it mv)) (hS : va_S A s.heap H locs) {i : Nat} (hi : i + 6 ≤ L) {ls : Array Slot} (hl : lv_has ls 4 [(0, .ref b), (1, .ref (ag 0)), (2, .ref (am 0)), (3, .int (nI i))]) (kk : KK p l e s m below meth c b E aS ag ah az ak am A cells slots Q i) : W p l e room_1 s m #[Value.ref b] below meth c H locs cells slots Q (F0 m 1205 ls []) := by
  obtain ⟨yb, ye, ys, yv⟩ := Y
  have hev := hI.1
  have hR := hI.2.1
  have hR2 := RI_ev hev hR
  have hRk := hI.2.2.1
  have hU := hI.2.2.2.2.2.1
  have hl9 := hI.2.2.2.2.2.2.1
  have hq3 := hI.2.2.2.2.2.2.2.1
  have hT := hI.2.2.2.2.2.2.2.2.1
  have hP : PE E [[gObj ag ah az ak i0], hillsW E ah r, hillsW E az x, hillsW E ak k, shO E ag z u, shN E ag y, [rdO ag (nI len) (nI ys) (nI yb) (nI ye) (nI yv)], [(ag 3, .inl (E.2.2.1, 120, .inl (sg tb 120)))], [(ag 4, .inl (E.2.1, 7, .inl (sg f 7)))], [mObj am q], [(am 1, .inl (E.2.1, 77, .inl (sg r2 77)))], [(am 2, .inl (E.2.1, 77, .inl (sg k2 77)))], [(am 3, .inl (E.2.1, 77, .inl (sg x2 77)))], [(am 4, .inl (E.2.1, 8, .inl (sg f2 8)))], [(am 5, .inl (E.2.1, 120, .inl (sg tp 120)))], [(am 6, .inl (E.2.2.2.2.2, 7, .inr (.inr (.inr (.inr (fun j => some (aS (12 + j))))))))], [(am 7, .inl (E.2.1, 480, .inl (sg it 480)))], [(am 8, .inl (E.2.1, 4, .inl (sg z 4)))], [(am 9, .inl (E.2.1, 4, .inl (sg u 4)))], [(am 10, .inl (E.2.1, 160, .inl (sg y 160)))], [(am 11, .inl (E.2.1, 40, .inl (sg mv 40)))]] H := hP
  have hD : DE A [[gObj ag ah az ak i0], hillsW E ah r, hillsW E az x, hillsW E ak k, shO E ag z u, shN E ag y, [rdO ag (nI len) (nI ys) (nI yb) (nI ye) (nI yv)], [(ag 3, .inl (E.2.2.1, 120, .inl (sg tb 120)))], [(ag 4, .inl (E.2.1, 7, .inl (sg f 7)))], [mObj am q], [(am 1, .inl (E.2.1, 77, .inl (sg r2 77)))], [(am 2, .inl (E.2.1, 77, .inl (sg k2 77)))], [(am 3, .inl (E.2.1, 77, .inl (sg x2 77)))], [(am 4, .inl (E.2.1, 8, .inl (sg f2 8)))], [(am 5, .inl (E.2.1, 120, .inl (sg tp 120)))], [(am 6, .inl (E.2.2.2.2.2, 7, .inr (.inr (.inr (.inr (fun j => some (aS (12 + j))))))))], [(am 7, .inl (E.2.1, 480, .inl (sg it 480)))], [(am 8, .inl (E.2.1, 4, .inl (sg z 4)))], [(am 9, .inl (E.2.1, 4, .inl (sg u 4)))], [(am 10, .inl (E.2.1, 160, .inl (sg y 160)))], [(am 11, .inl (E.2.1, 40, .inl (sg mv 40)))]] := hD
  refine lv_aload_n S.1 S.2.1 dL_law_1205 rfl (lv_at hl 1 rfl) ?_
  refine lv_aload_n S.1 S.2.1 dL_law_1206 rfl (lv_at hl 0 rfl) ?_
  refine lv_iload_n S.1 S.2.1 dL_law_1207 rfl (lv_at hl 3 rfl) ?_
  refine lv_iconst (v := 1) S.1 S.2.1 dL_law_1208 (by decide) ?_
  refine lv_iadd S.1 S.2.1 dL_law_1209 ?_
  refine lv_eqi (y := nI (i + 1)) (nI_add i 1) ?_
  refine b_sld (j := i + 1) S.1 S.2.1 hXs hbl hbA hS (by omega) (by omega) dL_law_1210 ?_
  refine lv_aload_n S.1 S.2.1 dL_law_1211 rfl (lv_at hl 0 rfl) ?_
  refine lv_iload_n S.1 S.2.1 dL_law_1212 rfl (lv_at hl 3 rfl) ?_
  refine lv_iconst (v := 2) S.1 S.2.1 dL_law_1213 (by decide) ?_
  refine lv_iadd S.1 S.2.1 dL_law_1214 ?_
  refine lv_eqi (y := nI (i + 2)) (nI_add i 2) ?_
  refine b_sld (j := i + 2) S.1 S.2.1 hXs hbl hbA hS (by omega) (by omega) dL_law_1215 ?_
  refine lv_aload_n S.1 S.2.1 dL_law_1216 rfl (lv_at hl 0 rfl) ?_
  refine lv_iload_n S.1 S.2.1 dL_law_1217 rfl (lv_at hl 3 rfl) ?_
  refine lv_iconst (v := 3) S.1 S.2.1 dL_law_1218 (by decide) ?_
  refine lv_iadd S.1 S.2.1 dL_law_1219 ?_
  refine lv_eqi (y := nI (i + 3)) (nI_add i 3) ?_
  refine b_sld (j := i + 3) S.1 S.2.1 hXs hbl hbA hS (by omega) (by omega) dL_law_1220 ?_
  refine lv_aload_n S.1 S.2.1 dL_law_1221 rfl (lv_at hl 0 rfl) ?_
  refine lv_iload_n S.1 S.2.1 dL_law_1222 rfl (lv_at hl 3 rfl) ?_
  refine lv_iconst (v := 4) S.1 S.2.1 dL_law_1223 (by decide) ?_
  refine lv_iadd S.1 S.2.1 dL_law_1224 ?_
  refine lv_eqi (y := nI (i + 4)) (nI_add i 4) ?_
  refine b_sld (j := i + 4) S.1 S.2.1 hXs hbl hbA hS (by omega) (by omega) dL_law_1225 ?_
  refine lv_aload_n S.1 S.2.1 dL_law_1226 rfl (lv_at hl 0 rfl) ?_
  refine lv_iload_n S.1 S.2.1 dL_law_1227 rfl (lv_at hl 3 rfl) ?_
  refine lv_iconst (v := 5) S.1 S.2.1 dL_law_1228 (by decide) ?_
  refine lv_iadd S.1 S.2.1 dL_law_1229 ?_
  refine lv_eqi (y := nI (i + 5)) (nI_add i 5) ?_
  refine b_sld (j := i + 5) S.1 S.2.1 hXs hbl hbA hS (by omega) (by omega) dL_law_1230 ?_
  refine go_I (run_V (As := [.int (xs (i + 1)), .int (xs (i + 2)), .int (xs (i + 3)), .int (xs (i + 4)), .int (xs (i + 5))]) (rest := []) (n := 5) S hK (bl_P hP [0, 8, 4, 5] rfl) (bl_D hD [0, 8, 4, 5] rfl rfl) (c_X4_copy l E ag ah az ak i0 f z u y (xs (i + 1)) (xs (i + 2)) (xs (i + 3)) (xs (i + 4)) (xs (i + 5)) hU) gV_L_146 (by decide +kernel) rfl ⟨rfl, rfl⟩ ⟨Nat.le_of_ble_eq_true rfl, Nat.le_of_ble_eq_true rfl⟩ (ci := 4) (q0 := 0) rfl rfl hl.1 (Nat.le_of_ble_eq_true rfl) dL_law_1231 ⟨hcc, hss⟩) hP hD hS [0, 8, 4, 5] rfl (had_cons rfl (had_cons cell_ad (had_cons rfl (had_cons sN_ad rfl)))) (Bs' := [[gObj ag ah az ak i0], hillsW E ah r, hillsW E az x, hillsW E ak k, shO E ag z u, shN E ag (pick (rCopy z u (xs (i + 1)) (xs (i + 2)) (xs (i + 3)) (xs (i + 4)) (xs (i + 5))) y (cpS y (40 * tN (xs (i + 1)) + tN (xs (i + 2))) (40 * tN (xs (i + 3)) + tN (xs (i + 4))) (tN (xs (i + 5))))), [rdO ag (nI len) (nI ys) (nI yb) (nI ye) (nI yv)], [(ag 3, .inl (E.2.2.1, 120, .inl (sg tb 120)))], [(ag 4, .inl (E.2.1, 7, .inl (sg (fndC f (rCopy z u (xs (i + 1)) (xs (i + 2)) (xs (i + 3)) (xs (i + 4)) (xs (i + 5)))) 7)))], [mObj am q], [(am 1, .inl (E.2.1, 77, .inl (sg r2 77)))], [(am 2, .inl (E.2.1, 77, .inl (sg k2 77)))], [(am 3, .inl (E.2.1, 77, .inl (sg x2 77)))], [(am 4, .inl (E.2.1, 8, .inl (sg f2 8)))], [(am 5, .inl (E.2.1, 120, .inl (sg tp 120)))], [(am 6, .inl (E.2.2.2.2.2, 7, .inr (.inr (.inr (.inr (fun j => some (aS (12 + j))))))))], [(am 7, .inl (E.2.1, 480, .inl (sg it 480)))], [(am 8, .inl (E.2.1, 4, .inl (sg z 4)))], [(am 9, .inl (E.2.1, 4, .inl (sg u 4)))], [(am 10, .inl (E.2.1, 160, .inl (sg y 160)))], [(am 11, .inl (E.2.1, 40, .inl (sg mv 40)))]]) rfl (fun H locs hP hD hS => ?_)
  refine lv_aload_n S.1 S.2.1 dL_law_1234 rfl (lv_at hl 2 rfl) ?_
  refine lv_aload_n S.1 S.2.1 dL_law_1235 rfl (lv_at hl 0 rfl) ?_
  refine lv_iload_n S.1 S.2.1 dL_law_1236 rfl (lv_at hl 3 rfl) ?_
  refine lv_iconst (v := 1) S.1 S.2.1 dL_law_1237 (by decide) ?_
  refine lv_iadd S.1 S.2.1 dL_law_1238 ?_
  refine lv_eqi (y := nI (i + 1)) (nI_add i 1) ?_
  refine b_sld (j := i + 1) S.1 S.2.1 hXs hbl hbA hS (by omega) (by omega) dL_law_1239 ?_
  refine lv_aload_n S.1 S.2.1 dL_law_1240 rfl (lv_at hl 0 rfl) ?_
  refine lv_iload_n S.1 S.2.1 dL_law_1241 rfl (lv_at hl 3 rfl) ?_
  refine lv_iconst (v := 2) S.1 S.2.1 dL_law_1242 (by decide) ?_
  refine lv_iadd S.1 S.2.1 dL_law_1243 ?_
  refine lv_eqi (y := nI (i + 2)) (nI_add i 2) ?_
  refine b_sld (j := i + 2) S.1 S.2.1 hXs hbl hbA hS (by omega) (by omega) dL_law_1244 ?_
  refine lv_aload_n S.1 S.2.1 dL_law_1245 rfl (lv_at hl 0 rfl) ?_
  refine lv_iload_n S.1 S.2.1 dL_law_1246 rfl (lv_at hl 3 rfl) ?_
  refine lv_iconst (v := 3) S.1 S.2.1 dL_law_1247 (by decide) ?_
  refine lv_iadd S.1 S.2.1 dL_law_1248 ?_
  refine lv_eqi (y := nI (i + 3)) (nI_add i 3) ?_
  refine b_sld (j := i + 3) S.1 S.2.1 hXs hbl hbA hS (by omega) (by omega) dL_law_1249 ?_
  refine lv_aload_n S.1 S.2.1 dL_law_1250 rfl (lv_at hl 0 rfl) ?_
  refine lv_iload_n S.1 S.2.1 dL_law_1251 rfl (lv_at hl 3 rfl) ?_
  refine lv_iconst (v := 4) S.1 S.2.1 dL_law_1252 (by decide) ?_
  refine lv_iadd S.1 S.2.1 dL_law_1253 ?_
  refine lv_eqi (y := nI (i + 4)) (nI_add i 4) ?_
  refine b_sld (j := i + 4) S.1 S.2.1 hXs hbl hbA hS (by omega) (by omega) dL_law_1254 ?_
  refine lv_aload_n S.1 S.2.1 dL_law_1255 rfl (lv_at hl 0 rfl) ?_
  refine lv_iload_n S.1 S.2.1 dL_law_1256 rfl (lv_at hl 3 rfl) ?_
  refine lv_iconst (v := 5) S.1 S.2.1 dL_law_1257 (by decide) ?_
  refine lv_iadd S.1 S.2.1 dL_law_1258 ?_
  refine lv_eqi (y := nI (i + 5)) (nI_add i 5) ?_
  refine b_sld (j := i + 5) S.1 S.2.1 hXs hbl hbA hS (by omega) (by omega) dL_law_1259 ?_
  refine go_Ix (run_V (As := [.int (xs (i + 1)), .int (xs (i + 2)), .int (xs (i + 3)), .int (xs (i + 4)), .int (xs (i + 5))]) (rest := [.int (ansR (rCopy z u (xs (i + 1)) (xs (i + 2)) (xs (i + 3)) (xs (i + 4)) (xs (i + 5))))]) (n := 5) S hK (bl_P hP [9, 13, 17, 18, 19, 20] rfl) (bl_D hD [9, 13, 17, 18, 19, 20] rfl rfl) (c_X5_copy l E am q f2 z u y mv (xs (i + 1)) (xs (i + 2)) (xs (i + 3)) (xs (i + 4)) (xs (i + 5)) hU) gV_L_150 (by decide +kernel) rfl ⟨rfl, rfl⟩ ⟨Nat.le_of_ble_eq_true rfl, Nat.le_of_ble_eq_true rfl⟩ (ci := 5) (q0 := 0) rfl rfl hl.1 (Nat.le_of_ble_eq_true rfl) dL_law_1260 ⟨hcc, hss⟩) hP hD hS [9, 13, 17, 18, 19, 20] rfl (fun _ => (had_cons rfl (had_cons cell_ad (had_cons rfl (had_cons rfl (had_cons cell_ad (had_cons cell_ad rfl))))))) (Bs' := fun u9 => [[gObj ag ah az ak i0], hillsW E ah r, hillsW E az x, hillsW E ak k, shO E ag z u, shN E ag (pick (rCopy z u (xs (i + 1)) (xs (i + 2)) (xs (i + 3)) (xs (i + 4)) (xs (i + 5))) y (cpS y (40 * tN (xs (i + 1)) + tN (xs (i + 2))) (40 * tN (xs (i + 3)) + tN (xs (i + 4))) (tN (xs (i + 5))))), [rdO ag (nI len) (nI ys) (nI yb) (nI ye) (nI yv)], [(ag 3, .inl (E.2.2.1, 120, .inl (sg tb 120)))], [(ag 4, .inl (E.2.1, 7, .inl (sg (fndC f (rCopy z u (xs (i + 1)) (xs (i + 2)) (xs (i + 3)) (xs (i + 4)) (xs (i + 5)))) 7)))], [mObj am q], [(am 1, .inl (E.2.1, 77, .inl (sg r2 77)))], [(am 2, .inl (E.2.1, 77, .inl (sg k2 77)))], [(am 3, .inl (E.2.1, 77, .inl (sg x2 77)))], [(am 4, .inl (E.2.1, 8, .inl (sg (fndM f2 (rCopy z u (xs (i + 1)) (xs (i + 2)) (xs (i + 3)) (xs (i + 4)) (xs (i + 5)))) 8)))], [(am 5, .inl (E.2.1, 120, .inl (sg tp 120)))], [(am 6, .inl (E.2.2.2.2.2, 7, .inr (.inr (.inr (.inr (fun j => some (aS (12 + j))))))))], [(am 7, .inl (E.2.1, 480, .inl (sg it 480)))], [(am 8, .inl (E.2.1, 4, .inl (sg z 4)))], [(am 9, .inl (E.2.1, 4, .inl (sg u 4)))], [(am 10, .inl (E.2.1, 160, .inl (sg (pick (rCopy z u (xs (i + 1)) (xs (i + 2)) (xs (i + 3)) (xs (i + 4)) (xs (i + 5))) y (cpS y (40 * tN (xs (i + 1)) + tN (xs (i + 2))) (40 * tN (xs (i + 3)) + tN (xs (i + 4))) (tN (xs (i + 5))))) 160)))], [(am 11, .inl (E.2.1, 40, .inl (sg u9 40)))]]) (fun _ => rfl) (fun u_1 H locs hP hD hS => ?_)
  refine lv_icmp_eq (tgt := 1399) S.1 S.2.1 dL_law_1263 (by decide) (fun _ => ?_) (fun h => absurd (rfl) h)
  exact kk i0 r x k z u (pick (rCopy z u (xs (i + 1)) (xs (i + 2)) (xs (i + 3)) (xs (i + 4)) (xs (i + 5))) y (cpS y (40 * tN (xs (i + 1)) + tN (xs (i + 2))) (40 * tN (xs (i + 3)) + tN (xs (i + 4))) (tN (xs (i + 5))))) tb (fndC f (rCopy z u (xs (i + 1)) (xs (i + 2)) (xs (i + 3)) (xs (i + 4)) (xs (i + 5)))) len (yb, ye, ys, yv) q r2 k2 x2 (fndM f2 (rCopy z u (xs (i + 1)) (xs (i + 2)) (xs (i + 3)) (xs (i + 4)) (xs (i + 5)))) tp it u_1 H locs ls (inv_ans hI (rr_copy z u (xs (i + 1)) (xs (i + 2)) (xs (i + 3)) (xs (i + 4)) (xs (i + 5))) rfl rfl) hP hD hS (lv_sub hl [0, 1, 2, 3] rfl)
set_option maxHeartbeats 1600000 in
set_option maxRecDepth 100000 in
theorem law_33 (S : CallFix p m c code 4 s #[Value.ref b] (c0 :: GW) RL) (hK : KE E s) (hX : EX aS A s s.heap) (hXs : va_X b L xs s s.heap) (hbl : b < s.heap.size) (hbA : ¬ A b) (hcc : cells ≤ room_1.cells) (hss : slots ≤ room_1.slots) (hL : L ≤ 3072) (i0 : Int32) (r x k z u y tb f : Row) (len : Nat) (Y : Ys) (q r2 k2 x2 f2 tp it mv : Row) (hI : Inv i0 r k u tb f len q r2 k2 f2 tp) (hP : PE E (LW E aS ag ah az ak am i0 r x k z u y tb f len Y q r2 k2 x2 f2 tp it mv) H) (hD : DE A (LW E aS ag ah az ak am i0 r x k z u y tb f len Y q r2 k2 x2 f2 tp it mv)) (hS : va_S A s.heap H locs) {i : Nat} (hi : i + 6 ≤ L) {ls : Array Slot} (hl : lv_has ls 4 [(0, .ref b), (1, .ref (ag 0)), (2, .ref (am 0)), (3, .int (nI i))]) (kk : KK p l e s m below meth c b E aS ag ah az ak am A cells slots Q i) : W p l e room_1 s m #[Value.ref b] below meth c H locs cells slots Q (F0 m 1268 ls []) := by
  obtain ⟨yb, ye, ys, yv⟩ := Y
  have hev := hI.1
  have hR := hI.2.1
  have hR2 := RI_ev hev hR
  have hRk := hI.2.2.1
  have hU := hI.2.2.2.2.2.1
  have hl9 := hI.2.2.2.2.2.2.1
  have hq3 := hI.2.2.2.2.2.2.2.1
  have hT := hI.2.2.2.2.2.2.2.2.1
  have hP : PE E [[gObj ag ah az ak i0], hillsW E ah r, hillsW E az x, hillsW E ak k, shO E ag z u, shN E ag y, [rdO ag (nI len) (nI ys) (nI yb) (nI ye) (nI yv)], [(ag 3, .inl (E.2.2.1, 120, .inl (sg tb 120)))], [(ag 4, .inl (E.2.1, 7, .inl (sg f 7)))], [mObj am q], [(am 1, .inl (E.2.1, 77, .inl (sg r2 77)))], [(am 2, .inl (E.2.1, 77, .inl (sg k2 77)))], [(am 3, .inl (E.2.1, 77, .inl (sg x2 77)))], [(am 4, .inl (E.2.1, 8, .inl (sg f2 8)))], [(am 5, .inl (E.2.1, 120, .inl (sg tp 120)))], [(am 6, .inl (E.2.2.2.2.2, 7, .inr (.inr (.inr (.inr (fun j => some (aS (12 + j))))))))], [(am 7, .inl (E.2.1, 480, .inl (sg it 480)))], [(am 8, .inl (E.2.1, 4, .inl (sg z 4)))], [(am 9, .inl (E.2.1, 4, .inl (sg u 4)))], [(am 10, .inl (E.2.1, 160, .inl (sg y 160)))], [(am 11, .inl (E.2.1, 40, .inl (sg mv 40)))]] H := hP
  have hD : DE A [[gObj ag ah az ak i0], hillsW E ah r, hillsW E az x, hillsW E ak k, shO E ag z u, shN E ag y, [rdO ag (nI len) (nI ys) (nI yb) (nI ye) (nI yv)], [(ag 3, .inl (E.2.2.1, 120, .inl (sg tb 120)))], [(ag 4, .inl (E.2.1, 7, .inl (sg f 7)))], [mObj am q], [(am 1, .inl (E.2.1, 77, .inl (sg r2 77)))], [(am 2, .inl (E.2.1, 77, .inl (sg k2 77)))], [(am 3, .inl (E.2.1, 77, .inl (sg x2 77)))], [(am 4, .inl (E.2.1, 8, .inl (sg f2 8)))], [(am 5, .inl (E.2.1, 120, .inl (sg tp 120)))], [(am 6, .inl (E.2.2.2.2.2, 7, .inr (.inr (.inr (.inr (fun j => some (aS (12 + j))))))))], [(am 7, .inl (E.2.1, 480, .inl (sg it 480)))], [(am 8, .inl (E.2.1, 4, .inl (sg z 4)))], [(am 9, .inl (E.2.1, 4, .inl (sg u 4)))], [(am 10, .inl (E.2.1, 160, .inl (sg y 160)))], [(am 11, .inl (E.2.1, 40, .inl (sg mv 40)))]] := hD
  refine lv_aload_n S.1 S.2.1 dL_law_1268 rfl (lv_at hl 1 rfl) ?_
  refine lv_aload_n S.1 S.2.1 dL_law_1269 rfl (lv_at hl 0 rfl) ?_
  refine lv_iload_n S.1 S.2.1 dL_law_1270 rfl (lv_at hl 3 rfl) ?_
  refine lv_iconst (v := 1) S.1 S.2.1 dL_law_1271 (by decide) ?_
  refine lv_iadd S.1 S.2.1 dL_law_1272 ?_
  refine lv_eqi (y := nI (i + 1)) (nI_add i 1) ?_
  refine b_sld (j := i + 1) S.1 S.2.1 hXs hbl hbA hS (by omega) (by omega) dL_law_1273 ?_
  refine go_I (run_V (As := [.int (xs (i + 1))]) (rest := []) (n := 1) S hK (bl_P hP [0, 1, 8, 4, 5] rfl) (bl_D hD [0, 1, 8, 4, 5] rfl rfl) (c_X4_load l E ag ah az ak i0 r f z u y (xs (i + 1)) hR hU) gV_L_151 (by decide +kernel) rfl ⟨rfl, rfl⟩ ⟨Nat.le_of_ble_eq_true rfl, Nat.le_of_ble_eq_true rfl⟩ (ci := 4) (q0 := 0) rfl rfl hl.1 (Nat.le_of_ble_eq_true rfl) dL_law_1274 ⟨hcc, hss⟩) hP hD hS [0, 1, 8, 4, 5] rfl (had_cons rfl (had_cons hw_ad (had_cons cell_ad (had_cons rfl (had_cons rfl rfl))))) (Bs' := [[gObj ag ah az ak i0], hillsW E ah (rowR r (rLoad r y z u (xs (i + 1)))), hillsW E az x, hillsW E ak k, shO E ag z u, shN E ag y, [rdO ag (nI len) (nI ys) (nI yb) (nI ye) (nI yv)], [(ag 3, .inl (E.2.2.1, 120, .inl (sg tb 120)))], [(ag 4, .inl (E.2.1, 7, .inl (sg (fndC f (rLoad r y z u (xs (i + 1)))) 7)))], [mObj am q], [(am 1, .inl (E.2.1, 77, .inl (sg r2 77)))], [(am 2, .inl (E.2.1, 77, .inl (sg k2 77)))], [(am 3, .inl (E.2.1, 77, .inl (sg x2 77)))], [(am 4, .inl (E.2.1, 8, .inl (sg f2 8)))], [(am 5, .inl (E.2.1, 120, .inl (sg tp 120)))], [(am 6, .inl (E.2.2.2.2.2, 7, .inr (.inr (.inr (.inr (fun j => some (aS (12 + j))))))))], [(am 7, .inl (E.2.1, 480, .inl (sg it 480)))], [(am 8, .inl (E.2.1, 4, .inl (sg z 4)))], [(am 9, .inl (E.2.1, 4, .inl (sg u 4)))], [(am 10, .inl (E.2.1, 160, .inl (sg y 160)))], [(am 11, .inl (E.2.1, 40, .inl (sg mv 40)))]]) rfl (fun H locs hP hD hS => ?_)
  refine lv_aload_n S.1 S.2.1 dL_law_1277 rfl (lv_at hl 2 rfl) ?_
  refine lv_aload_n S.1 S.2.1 dL_law_1278 rfl (lv_at hl 0 rfl) ?_
  refine lv_iload_n S.1 S.2.1 dL_law_1279 rfl (lv_at hl 3 rfl) ?_
  refine lv_iconst (v := 1) S.1 S.2.1 dL_law_1280 (by decide) ?_
  refine lv_iadd S.1 S.2.1 dL_law_1281 ?_
  refine lv_eqi (y := nI (i + 1)) (nI_add i 1) ?_
  refine b_sld (j := i + 1) S.1 S.2.1 hXs hbl hbA hS (by omega) (by omega) dL_law_1282 ?_
  refine go_I (run_V (As := [.int (xs (i + 1))]) (rest := [.int (ansR (rLoad r y z u (xs (i + 1))))]) (n := 1) S hK (bl_P hP [9, 10, 13, 17, 18, 19] rfl) (bl_D hD [9, 10, 13, 17, 18, 19] rfl rfl) (c_X5_load l E am q r2 f2 z u y (xs (i + 1)) hR2 hU) gV_L_154 (by decide +kernel) rfl ⟨rfl, rfl⟩ ⟨Nat.le_of_ble_eq_true rfl, Nat.le_of_ble_eq_true rfl⟩ (ci := 5) (q0 := 0) rfl rfl hl.1 (Nat.le_of_ble_eq_true rfl) dL_law_1283 ⟨hcc, hss⟩) hP hD hS [9, 10, 13, 17, 18, 19] rfl (had_cons rfl (had_cons cell_ad (had_cons cell_ad (had_cons rfl (had_cons rfl (had_cons rfl rfl)))))) (Bs' := [[gObj ag ah az ak i0], hillsW E ah (rowR r (rLoad r y z u (xs (i + 1)))), hillsW E az x, hillsW E ak k, shO E ag z u, shN E ag y, [rdO ag (nI len) (nI ys) (nI yb) (nI ye) (nI yv)], [(ag 3, .inl (E.2.2.1, 120, .inl (sg tb 120)))], [(ag 4, .inl (E.2.1, 7, .inl (sg (fndC f (rLoad r y z u (xs (i + 1)))) 7)))], [mObj am q], [(am 1, .inl (E.2.1, 77, .inl (sg (rowR r2 (rLoad r2 y z u (xs (i + 1)))) 77)))], [(am 2, .inl (E.2.1, 77, .inl (sg k2 77)))], [(am 3, .inl (E.2.1, 77, .inl (sg x2 77)))], [(am 4, .inl (E.2.1, 8, .inl (sg (fndM f2 (rLoad r2 y z u (xs (i + 1)))) 8)))], [(am 5, .inl (E.2.1, 120, .inl (sg tp 120)))], [(am 6, .inl (E.2.2.2.2.2, 7, .inr (.inr (.inr (.inr (fun j => some (aS (12 + j))))))))], [(am 7, .inl (E.2.1, 480, .inl (sg it 480)))], [(am 8, .inl (E.2.1, 4, .inl (sg z 4)))], [(am 9, .inl (E.2.1, 4, .inl (sg u 4)))], [(am 10, .inl (E.2.1, 160, .inl (sg y 160)))], [(am 11, .inl (E.2.1, 40, .inl (sg mv 40)))]]) rfl (fun H locs hP hD hS => ?_)
  refine lv_icmp_eq (tgt := 1399) S.1 S.2.1 dL_law_1286 (by decide) (fun _ => ?_) (fun h => absurd (RR_ans (rr_load hev hR y z u (xs (i + 1))).1) h)
  exact kk i0 (rowR r (rLoad r y z u (xs (i + 1)))) x k z u y tb (fndC f (rLoad r y z u (xs (i + 1)))) len (yb, ye, ys, yv) q (rowR r2 (rLoad r2 y z u (xs (i + 1)))) k2 x2 (fndM f2 (rLoad r2 y z u (xs (i + 1)))) tp it mv H locs ls (inv_row hI (rr_load hev hR y z u (xs (i + 1)))) hP hD hS (lv_sub hl [0, 1, 2, 3] rfl)
set_option maxHeartbeats 1600000 in
set_option maxRecDepth 100000 in
theorem law_34 (S : CallFix p m c code 4 s #[Value.ref b] (c0 :: GW) RL) (hK : KE E s) (hX : EX aS A s s.heap) (hXs : va_X b L xs s s.heap) (hbl : b < s.heap.size) (hbA : ¬ A b) (hcc : cells ≤ room_1.cells) (hss : slots ≤ room_1.slots) (hL : L ≤ 3072) (i0 : Int32) (r x k z u y tb f : Row) (len : Nat) (Y : Ys) (q r2 k2 x2 f2 tp it mv : Row) (hI : Inv i0 r k u tb f len q r2 k2 f2 tp) (hP : PE E (LW E aS ag ah az ak am i0 r x k z u y tb f len Y q r2 k2 x2 f2 tp it mv) H) (hD : DE A (LW E aS ag ah az ak am i0 r x k z u y tb f len Y q r2 k2 x2 f2 tp it mv)) (hS : va_S A s.heap H locs) {i : Nat} (hi : i + 6 ≤ L) {ls : Array Slot} (hl : lv_has ls 4 [(0, .ref b), (1, .ref (ag 0)), (2, .ref (am 0)), (3, .int (nI i))]) (kk : KK p l e s m below meth c b E aS ag ah az ak am A cells slots Q i) : W p l e room_1 s m #[Value.ref b] below meth c H locs cells slots Q (F0 m 1291 ls []) := by
  obtain ⟨yb, ye, ys, yv⟩ := Y
  have hev := hI.1
  have hR := hI.2.1
  have hR2 := RI_ev hev hR
  have hRk := hI.2.2.1
  have hU := hI.2.2.2.2.2.1
  have hl9 := hI.2.2.2.2.2.2.1
  have hq3 := hI.2.2.2.2.2.2.2.1
  have hT := hI.2.2.2.2.2.2.2.2.1
  have hP : PE E [[gObj ag ah az ak i0], hillsW E ah r, hillsW E az x, hillsW E ak k, shO E ag z u, shN E ag y, [rdO ag (nI len) (nI ys) (nI yb) (nI ye) (nI yv)], [(ag 3, .inl (E.2.2.1, 120, .inl (sg tb 120)))], [(ag 4, .inl (E.2.1, 7, .inl (sg f 7)))], [mObj am q], [(am 1, .inl (E.2.1, 77, .inl (sg r2 77)))], [(am 2, .inl (E.2.1, 77, .inl (sg k2 77)))], [(am 3, .inl (E.2.1, 77, .inl (sg x2 77)))], [(am 4, .inl (E.2.1, 8, .inl (sg f2 8)))], [(am 5, .inl (E.2.1, 120, .inl (sg tp 120)))], [(am 6, .inl (E.2.2.2.2.2, 7, .inr (.inr (.inr (.inr (fun j => some (aS (12 + j))))))))], [(am 7, .inl (E.2.1, 480, .inl (sg it 480)))], [(am 8, .inl (E.2.1, 4, .inl (sg z 4)))], [(am 9, .inl (E.2.1, 4, .inl (sg u 4)))], [(am 10, .inl (E.2.1, 160, .inl (sg y 160)))], [(am 11, .inl (E.2.1, 40, .inl (sg mv 40)))]] H := hP
  have hD : DE A [[gObj ag ah az ak i0], hillsW E ah r, hillsW E az x, hillsW E ak k, shO E ag z u, shN E ag y, [rdO ag (nI len) (nI ys) (nI yb) (nI ye) (nI yv)], [(ag 3, .inl (E.2.2.1, 120, .inl (sg tb 120)))], [(ag 4, .inl (E.2.1, 7, .inl (sg f 7)))], [mObj am q], [(am 1, .inl (E.2.1, 77, .inl (sg r2 77)))], [(am 2, .inl (E.2.1, 77, .inl (sg k2 77)))], [(am 3, .inl (E.2.1, 77, .inl (sg x2 77)))], [(am 4, .inl (E.2.1, 8, .inl (sg f2 8)))], [(am 5, .inl (E.2.1, 120, .inl (sg tp 120)))], [(am 6, .inl (E.2.2.2.2.2, 7, .inr (.inr (.inr (.inr (fun j => some (aS (12 + j))))))))], [(am 7, .inl (E.2.1, 480, .inl (sg it 480)))], [(am 8, .inl (E.2.1, 4, .inl (sg z 4)))], [(am 9, .inl (E.2.1, 4, .inl (sg u 4)))], [(am 10, .inl (E.2.1, 160, .inl (sg y 160)))], [(am 11, .inl (E.2.1, 40, .inl (sg mv 40)))]] := hD
  refine lv_aload_n S.1 S.2.1 dL_law_1291 rfl (lv_at hl 1 rfl) ?_
  refine lv_aload_n S.1 S.2.1 dL_law_1292 rfl (lv_at hl 0 rfl) ?_
  refine lv_iload_n S.1 S.2.1 dL_law_1293 rfl (lv_at hl 3 rfl) ?_
  refine lv_iconst (v := 1) S.1 S.2.1 dL_law_1294 (by decide) ?_
  refine lv_iadd S.1 S.2.1 dL_law_1295 ?_
  refine lv_eqi (y := nI (i + 1)) (nI_add i 1) ?_
  refine b_sld (j := i + 1) S.1 S.2.1 hXs hbl hbA hS (by omega) (by omega) dL_law_1296 ?_
  refine go_I (run_V (As := [.int (xs (i + 1))]) (rest := []) (n := 1) S hK (bl_P hP [0, 1, 8, 4, 5] rfl) (bl_D hD [0, 1, 8, 4, 5] rfl rfl) (c_X4_judge l E ag ah az ak i0 r f z u y (xs (i + 1)) hR hU) gV_L_155 (by decide +kernel) rfl ⟨rfl, rfl⟩ ⟨Nat.le_of_ble_eq_true rfl, Nat.le_of_ble_eq_true rfl⟩ (ci := 4) (q0 := 0) rfl rfl hl.1 (Nat.le_of_ble_eq_true rfl) dL_law_1297 ⟨hcc, hss⟩) hP hD hS [0, 1, 8, 4, 5] rfl (had_cons rfl (had_cons rfl (had_cons cell_ad (had_cons rfl (had_cons rfl rfl))))) (Bs' := [[gObj ag ah az ak i0], hillsW E ah r, hillsW E az x, hillsW E ak k, shO E ag z u, shN E ag y, [rdO ag (nI len) (nI ys) (nI yb) (nI ye) (nI yv)], [(ag 3, .inl (E.2.2.1, 120, .inl (sg tb 120)))], [(ag 4, .inl (E.2.1, 7, .inl (sg (fndC f (rJudge r y z u (xs (i + 1)))) 7)))], [mObj am q], [(am 1, .inl (E.2.1, 77, .inl (sg r2 77)))], [(am 2, .inl (E.2.1, 77, .inl (sg k2 77)))], [(am 3, .inl (E.2.1, 77, .inl (sg x2 77)))], [(am 4, .inl (E.2.1, 8, .inl (sg f2 8)))], [(am 5, .inl (E.2.1, 120, .inl (sg tp 120)))], [(am 6, .inl (E.2.2.2.2.2, 7, .inr (.inr (.inr (.inr (fun j => some (aS (12 + j))))))))], [(am 7, .inl (E.2.1, 480, .inl (sg it 480)))], [(am 8, .inl (E.2.1, 4, .inl (sg z 4)))], [(am 9, .inl (E.2.1, 4, .inl (sg u 4)))], [(am 10, .inl (E.2.1, 160, .inl (sg y 160)))], [(am 11, .inl (E.2.1, 40, .inl (sg mv 40)))]]) rfl (fun H locs hP hD hS => ?_)
  refine lv_aload_n S.1 S.2.1 dL_law_1300 rfl (lv_at hl 2 rfl) ?_
  refine lv_aload_n S.1 S.2.1 dL_law_1301 rfl (lv_at hl 0 rfl) ?_
  refine lv_iload_n S.1 S.2.1 dL_law_1302 rfl (lv_at hl 3 rfl) ?_
  refine lv_iconst (v := 1) S.1 S.2.1 dL_law_1303 (by decide) ?_
  refine lv_iadd S.1 S.2.1 dL_law_1304 ?_
  refine lv_eqi (y := nI (i + 1)) (nI_add i 1) ?_
  refine b_sld (j := i + 1) S.1 S.2.1 hXs hbl hbA hS (by omega) (by omega) dL_law_1305 ?_
  refine go_I (run_V (As := [.int (xs (i + 1))]) (rest := [.int (ansR (rJudge r y z u (xs (i + 1))))]) (n := 1) S hK (bl_P hP [9, 10, 13, 17, 18, 19] rfl) (bl_D hD [9, 10, 13, 17, 18, 19] rfl rfl) (c_X5_judge l E am q r2 f2 z u y (xs (i + 1)) hR2 hU) gV_L_158 (by decide +kernel) rfl ⟨rfl, rfl⟩ ⟨Nat.le_of_ble_eq_true rfl, Nat.le_of_ble_eq_true rfl⟩ (ci := 5) (q0 := 0) rfl rfl hl.1 (Nat.le_of_ble_eq_true rfl) dL_law_1306 ⟨hcc, hss⟩) hP hD hS [9, 10, 13, 17, 18, 19] rfl (had_cons rfl (had_cons rfl (had_cons cell_ad (had_cons rfl (had_cons rfl (had_cons rfl rfl)))))) (Bs' := [[gObj ag ah az ak i0], hillsW E ah r, hillsW E az x, hillsW E ak k, shO E ag z u, shN E ag y, [rdO ag (nI len) (nI ys) (nI yb) (nI ye) (nI yv)], [(ag 3, .inl (E.2.2.1, 120, .inl (sg tb 120)))], [(ag 4, .inl (E.2.1, 7, .inl (sg (fndC f (rJudge r y z u (xs (i + 1)))) 7)))], [mObj am q], [(am 1, .inl (E.2.1, 77, .inl (sg r2 77)))], [(am 2, .inl (E.2.1, 77, .inl (sg k2 77)))], [(am 3, .inl (E.2.1, 77, .inl (sg x2 77)))], [(am 4, .inl (E.2.1, 8, .inl (sg (fndM f2 (rJudge r2 y z u (xs (i + 1)))) 8)))], [(am 5, .inl (E.2.1, 120, .inl (sg tp 120)))], [(am 6, .inl (E.2.2.2.2.2, 7, .inr (.inr (.inr (.inr (fun j => some (aS (12 + j))))))))], [(am 7, .inl (E.2.1, 480, .inl (sg it 480)))], [(am 8, .inl (E.2.1, 4, .inl (sg z 4)))], [(am 9, .inl (E.2.1, 4, .inl (sg u 4)))], [(am 10, .inl (E.2.1, 160, .inl (sg y 160)))], [(am 11, .inl (E.2.1, 40, .inl (sg mv 40)))]]) rfl (fun H locs hP hD hS => ?_)
  refine lv_icmp_eq (tgt := 1399) S.1 S.2.1 dL_law_1309 (by decide) (fun _ => ?_) (fun h => absurd (RR_ans (rr_judge hev y z u (xs (i + 1)))) h)
  exact kk i0 r x k z u y tb (fndC f (rJudge r y z u (xs (i + 1)))) len (yb, ye, ys, yv) q r2 k2 x2 (fndM f2 (rJudge r2 y z u (xs (i + 1)))) tp it mv H locs ls (inv_ans hI (rr_judge hev y z u (xs (i + 1))) rfl rfl) hP hD hS (lv_sub hl [0, 1, 2, 3] rfl)
set_option maxHeartbeats 1600000 in
set_option maxRecDepth 100000 in
theorem law_35 (S : CallFix p m c code 4 s #[Value.ref b] (c0 :: GW) RL) (hK : KE E s) (hX : EX aS A s s.heap) (hXs : va_X b L xs s s.heap) (hbl : b < s.heap.size) (hbA : ¬ A b) (hcc : cells ≤ room_1.cells) (hss : slots ≤ room_1.slots) (hL : L ≤ 3072) (i0 : Int32) (r x k z u y tb f : Row) (len : Nat) (Y : Ys) (q r2 k2 x2 f2 tp it mv : Row) (hI : Inv i0 r k u tb f len q r2 k2 f2 tp) (hP : PE E (LW E aS ag ah az ak am i0 r x k z u y tb f len Y q r2 k2 x2 f2 tp it mv) H) (hD : DE A (LW E aS ag ah az ak am i0 r x k z u y tb f len Y q r2 k2 x2 f2 tp it mv)) (hS : va_S A s.heap H locs) {i : Nat} (hi : i + 6 ≤ L) {ls : Array Slot} (hl : lv_has ls 4 [(0, .ref b), (1, .ref (ag 0)), (2, .ref (am 0)), (3, .int (nI i))]) (kk : KK p l e s m below meth c b E aS ag ah az ak am A cells slots Q i) : W p l e room_1 s m #[Value.ref b] below meth c H locs cells slots Q (F0 m 1314 ls []) := by
  obtain ⟨yb, ye, ys, yv⟩ := Y
  have hev := hI.1
  have hR := hI.2.1
  have hR2 := RI_ev hev hR
  have hRk := hI.2.2.1
  have hU := hI.2.2.2.2.2.1
  have hl9 := hI.2.2.2.2.2.2.1
  have hq3 := hI.2.2.2.2.2.2.2.1
  have hT := hI.2.2.2.2.2.2.2.2.1
  have hP : PE E [[gObj ag ah az ak i0], hillsW E ah r, hillsW E az x, hillsW E ak k, shO E ag z u, shN E ag y, [rdO ag (nI len) (nI ys) (nI yb) (nI ye) (nI yv)], [(ag 3, .inl (E.2.2.1, 120, .inl (sg tb 120)))], [(ag 4, .inl (E.2.1, 7, .inl (sg f 7)))], [mObj am q], [(am 1, .inl (E.2.1, 77, .inl (sg r2 77)))], [(am 2, .inl (E.2.1, 77, .inl (sg k2 77)))], [(am 3, .inl (E.2.1, 77, .inl (sg x2 77)))], [(am 4, .inl (E.2.1, 8, .inl (sg f2 8)))], [(am 5, .inl (E.2.1, 120, .inl (sg tp 120)))], [(am 6, .inl (E.2.2.2.2.2, 7, .inr (.inr (.inr (.inr (fun j => some (aS (12 + j))))))))], [(am 7, .inl (E.2.1, 480, .inl (sg it 480)))], [(am 8, .inl (E.2.1, 4, .inl (sg z 4)))], [(am 9, .inl (E.2.1, 4, .inl (sg u 4)))], [(am 10, .inl (E.2.1, 160, .inl (sg y 160)))], [(am 11, .inl (E.2.1, 40, .inl (sg mv 40)))]] H := hP
  have hD : DE A [[gObj ag ah az ak i0], hillsW E ah r, hillsW E az x, hillsW E ak k, shO E ag z u, shN E ag y, [rdO ag (nI len) (nI ys) (nI yb) (nI ye) (nI yv)], [(ag 3, .inl (E.2.2.1, 120, .inl (sg tb 120)))], [(ag 4, .inl (E.2.1, 7, .inl (sg f 7)))], [mObj am q], [(am 1, .inl (E.2.1, 77, .inl (sg r2 77)))], [(am 2, .inl (E.2.1, 77, .inl (sg k2 77)))], [(am 3, .inl (E.2.1, 77, .inl (sg x2 77)))], [(am 4, .inl (E.2.1, 8, .inl (sg f2 8)))], [(am 5, .inl (E.2.1, 120, .inl (sg tp 120)))], [(am 6, .inl (E.2.2.2.2.2, 7, .inr (.inr (.inr (.inr (fun j => some (aS (12 + j))))))))], [(am 7, .inl (E.2.1, 480, .inl (sg it 480)))], [(am 8, .inl (E.2.1, 4, .inl (sg z 4)))], [(am 9, .inl (E.2.1, 4, .inl (sg u 4)))], [(am 10, .inl (E.2.1, 160, .inl (sg y 160)))], [(am 11, .inl (E.2.1, 40, .inl (sg mv 40)))]] := hD
  refine lv_aload_n S.1 S.2.1 dL_law_1314 rfl (lv_at hl 1 rfl) ?_
  refine go_I (run_V (As := []) (rest := []) (n := 0) S hK (bl_P hP [0, 1, 3] rfl) (bl_D hD [0, 1, 3] rfl rfl) (c_X4_image l E ag ah az ak i0 r k hR) gV_L_159 (by decide +kernel) rfl ⟨rfl, rfl⟩ ⟨Nat.le_of_ble_eq_true rfl, Nat.le_of_ble_eq_true rfl⟩ (ci := 4) (q0 := 0) rfl rfl hl.1 (Nat.le_of_ble_eq_true rfl) dL_law_1315 ⟨hcc, hss⟩) hP hD hS [0, 1, 3] rfl (had_cons go_ad (had_cons rfl (had_cons hw_ad rfl))) (Bs' := [[gObj ag ah az ak 1], hillsW E ah r, hillsW E az x, hillsW E ak (becF k r), shO E ag z u, shN E ag y, [rdO ag (nI len) (nI ys) (nI yb) (nI ye) (nI yv)], [(ag 3, .inl (E.2.2.1, 120, .inl (sg tb 120)))], [(ag 4, .inl (E.2.1, 7, .inl (sg f 7)))], [mObj am q], [(am 1, .inl (E.2.1, 77, .inl (sg r2 77)))], [(am 2, .inl (E.2.1, 77, .inl (sg k2 77)))], [(am 3, .inl (E.2.1, 77, .inl (sg x2 77)))], [(am 4, .inl (E.2.1, 8, .inl (sg f2 8)))], [(am 5, .inl (E.2.1, 120, .inl (sg tp 120)))], [(am 6, .inl (E.2.2.2.2.2, 7, .inr (.inr (.inr (.inr (fun j => some (aS (12 + j))))))))], [(am 7, .inl (E.2.1, 480, .inl (sg it 480)))], [(am 8, .inl (E.2.1, 4, .inl (sg z 4)))], [(am 9, .inl (E.2.1, 4, .inl (sg u 4)))], [(am 10, .inl (E.2.1, 160, .inl (sg y 160)))], [(am 11, .inl (E.2.1, 40, .inl (sg mv 40)))]]) rfl (fun H locs hP hD hS => ?_)
  refine lv_aload_n S.1 S.2.1 dL_law_1318 rfl (lv_at hl 2 rfl) ?_
  refine go_I (run_V (As := []) (rest := [.int 1]) (n := 0) S hK (bl_P hP [9, 10, 11] rfl) (bl_D hD [9, 10, 11] rfl rfl) (c_X5_image l E am q r2 k2 ) gV_L_162 (by decide +kernel) rfl ⟨rfl, rfl⟩ ⟨Nat.le_of_ble_eq_true rfl, Nat.le_of_ble_eq_true rfl⟩ (ci := 5) (q0 := 0) rfl rfl hl.1 (Nat.le_of_ble_eq_true rfl) dL_law_1319 ⟨hcc, hss⟩) hP hD hS [9, 10, 11] rfl (had_cons mo_ad (had_cons rfl (had_cons cell_ad rfl))) (Bs' := [[gObj ag ah az ak 1], hillsW E ah r, hillsW E az x, hillsW E ak (becF k r), shO E ag z u, shN E ag y, [rdO ag (nI len) (nI ys) (nI yb) (nI ye) (nI yv)], [(ag 3, .inl (E.2.2.1, 120, .inl (sg tb 120)))], [(ag 4, .inl (E.2.1, 7, .inl (sg f 7)))], [mObj am (upd q 0 1)], [(am 1, .inl (E.2.1, 77, .inl (sg r2 77)))], [(am 2, .inl (E.2.1, 77, .inl (sg r2 77)))], [(am 3, .inl (E.2.1, 77, .inl (sg x2 77)))], [(am 4, .inl (E.2.1, 8, .inl (sg f2 8)))], [(am 5, .inl (E.2.1, 120, .inl (sg tp 120)))], [(am 6, .inl (E.2.2.2.2.2, 7, .inr (.inr (.inr (.inr (fun j => some (aS (12 + j))))))))], [(am 7, .inl (E.2.1, 480, .inl (sg it 480)))], [(am 8, .inl (E.2.1, 4, .inl (sg z 4)))], [(am 9, .inl (E.2.1, 4, .inl (sg u 4)))], [(am 10, .inl (E.2.1, 160, .inl (sg y 160)))], [(am 11, .inl (E.2.1, 40, .inl (sg mv 40)))]]) rfl (fun H locs hP hD hS => ?_)
  refine lv_icmp_eq (tgt := 1399) S.1 S.2.1 dL_law_1322 (by decide) (fun _ => ?_) (fun h => absurd (rfl) h)
  exact kk 1 r x (becF k r) z u y tb f len (yb, ye, ys, yv) (upd q 0 1) r2 r2 x2 f2 tp it mv H locs ls (inv_image hI) hP hD hS (lv_sub hl [0, 1, 2, 3] rfl)
set_option maxHeartbeats 1600000 in
set_option maxRecDepth 100000 in
theorem law_36 (S : CallFix p m c code 4 s #[Value.ref b] (c0 :: GW) RL) (hK : KE E s) (hX : EX aS A s s.heap) (hXs : va_X b L xs s s.heap) (hbl : b < s.heap.size) (hbA : ¬ A b) (hcc : cells ≤ room_1.cells) (hss : slots ≤ room_1.slots) (hL : L ≤ 3072) (i0 : Int32) (r x k z u y tb f : Row) (len : Nat) (Y : Ys) (q r2 k2 x2 f2 tp it mv : Row) (hI : Inv i0 r k u tb f len q r2 k2 f2 tp) (hP : PE E (LW E aS ag ah az ak am i0 r x k z u y tb f len Y q r2 k2 x2 f2 tp it mv) H) (hD : DE A (LW E aS ag ah az ak am i0 r x k z u y tb f len Y q r2 k2 x2 f2 tp it mv)) (hS : va_S A s.heap H locs) {i : Nat} (hi : i + 6 ≤ L) {ls : Array Slot} (hl : lv_has ls 4 [(0, .ref b), (1, .ref (ag 0)), (2, .ref (am 0)), (3, .int (nI i))]) (kk : KK p l e s m below meth c b E aS ag ah az ak am A cells slots Q i) : W p l e room_1 s m #[Value.ref b] below meth c H locs cells slots Q (F0 m 1327 ls []) := by
  obtain ⟨yb, ye, ys, yv⟩ := Y
  have hev := hI.1
  have hR := hI.2.1
  have hR2 := RI_ev hev hR
  have hRk := hI.2.2.1
  have hU := hI.2.2.2.2.2.1
  have hl9 := hI.2.2.2.2.2.2.1
  have hq3 := hI.2.2.2.2.2.2.2.1
  have hT := hI.2.2.2.2.2.2.2.2.1
  have hP : PE E [[gObj ag ah az ak i0], hillsW E ah r, hillsW E az x, hillsW E ak k, shO E ag z u, shN E ag y, [rdO ag (nI len) (nI ys) (nI yb) (nI ye) (nI yv)], [(ag 3, .inl (E.2.2.1, 120, .inl (sg tb 120)))], [(ag 4, .inl (E.2.1, 7, .inl (sg f 7)))], [mObj am q], [(am 1, .inl (E.2.1, 77, .inl (sg r2 77)))], [(am 2, .inl (E.2.1, 77, .inl (sg k2 77)))], [(am 3, .inl (E.2.1, 77, .inl (sg x2 77)))], [(am 4, .inl (E.2.1, 8, .inl (sg f2 8)))], [(am 5, .inl (E.2.1, 120, .inl (sg tp 120)))], [(am 6, .inl (E.2.2.2.2.2, 7, .inr (.inr (.inr (.inr (fun j => some (aS (12 + j))))))))], [(am 7, .inl (E.2.1, 480, .inl (sg it 480)))], [(am 8, .inl (E.2.1, 4, .inl (sg z 4)))], [(am 9, .inl (E.2.1, 4, .inl (sg u 4)))], [(am 10, .inl (E.2.1, 160, .inl (sg y 160)))], [(am 11, .inl (E.2.1, 40, .inl (sg mv 40)))]] H := hP
  have hD : DE A [[gObj ag ah az ak i0], hillsW E ah r, hillsW E az x, hillsW E ak k, shO E ag z u, shN E ag y, [rdO ag (nI len) (nI ys) (nI yb) (nI ye) (nI yv)], [(ag 3, .inl (E.2.2.1, 120, .inl (sg tb 120)))], [(ag 4, .inl (E.2.1, 7, .inl (sg f 7)))], [mObj am q], [(am 1, .inl (E.2.1, 77, .inl (sg r2 77)))], [(am 2, .inl (E.2.1, 77, .inl (sg k2 77)))], [(am 3, .inl (E.2.1, 77, .inl (sg x2 77)))], [(am 4, .inl (E.2.1, 8, .inl (sg f2 8)))], [(am 5, .inl (E.2.1, 120, .inl (sg tp 120)))], [(am 6, .inl (E.2.2.2.2.2, 7, .inr (.inr (.inr (.inr (fun j => some (aS (12 + j))))))))], [(am 7, .inl (E.2.1, 480, .inl (sg it 480)))], [(am 8, .inl (E.2.1, 4, .inl (sg z 4)))], [(am 9, .inl (E.2.1, 4, .inl (sg u 4)))], [(am 10, .inl (E.2.1, 160, .inl (sg y 160)))], [(am 11, .inl (E.2.1, 40, .inl (sg mv 40)))]] := hD
  refine lv_aload_n S.1 S.2.1 dL_law_1327 rfl (lv_at hl 1 rfl) ?_
  refine go_I (run_V (As := []) (rest := []) (n := 0) S hK (bl_P hP [0, 1, 8, 3] rfl) (bl_D hD [0, 1, 8, 3] rfl rfl) (c_X4_undo l E ag ah az ak i0 r k f hRk) gV_L_163 (by decide +kernel) rfl ⟨rfl, rfl⟩ ⟨Nat.le_of_ble_eq_true rfl, Nat.le_of_ble_eq_true rfl⟩ (ci := 4) (q0 := 0) rfl rfl hl.1 (Nat.le_of_ble_eq_true rfl) dL_law_1328 ⟨hcc, hss⟩) hP hD hS [0, 1, 8, 3] rfl (had_cons rfl (had_cons hw_ad (had_cons cell_ad (had_cons rfl rfl)))) (Bs' := [[gObj ag ah az ak i0], hillsW E ah (pick (rUndo k i0) r (becF r k)), hillsW E az x, hillsW E ak k, shO E ag z u, shN E ag y, [rdO ag (nI len) (nI ys) (nI yb) (nI ye) (nI yv)], [(ag 3, .inl (E.2.2.1, 120, .inl (sg tb 120)))], [(ag 4, .inl (E.2.1, 7, .inl (sg (fndC f (rUndo k i0)) 7)))], [mObj am q], [(am 1, .inl (E.2.1, 77, .inl (sg r2 77)))], [(am 2, .inl (E.2.1, 77, .inl (sg k2 77)))], [(am 3, .inl (E.2.1, 77, .inl (sg x2 77)))], [(am 4, .inl (E.2.1, 8, .inl (sg f2 8)))], [(am 5, .inl (E.2.1, 120, .inl (sg tp 120)))], [(am 6, .inl (E.2.2.2.2.2, 7, .inr (.inr (.inr (.inr (fun j => some (aS (12 + j))))))))], [(am 7, .inl (E.2.1, 480, .inl (sg it 480)))], [(am 8, .inl (E.2.1, 4, .inl (sg z 4)))], [(am 9, .inl (E.2.1, 4, .inl (sg u 4)))], [(am 10, .inl (E.2.1, 160, .inl (sg y 160)))], [(am 11, .inl (E.2.1, 40, .inl (sg mv 40)))]]) rfl (fun H locs hP hD hS => ?_)
  refine lv_aload_n S.1 S.2.1 dL_law_1331 rfl (lv_at hl 2 rfl) ?_
  refine go_I (run_V (As := []) (rest := [.int (ansR (rUndo k i0))]) (n := 0) S hK (bl_P hP [9, 10, 11, 13] rfl) (bl_D hD [9, 10, 11, 13] rfl rfl) (c_X5_undo l E am q r2 k2 f2 ) gV_L_166 (by decide +kernel) rfl ⟨rfl, rfl⟩ ⟨Nat.le_of_ble_eq_true rfl, Nat.le_of_ble_eq_true rfl⟩ (ci := 5) (q0 := 0) rfl rfl hl.1 (Nat.le_of_ble_eq_true rfl) dL_law_1332 ⟨hcc, hss⟩) hP hD hS [9, 10, 11, 13] rfl (had_cons rfl (had_cons cell_ad (had_cons rfl (had_cons cell_ad rfl)))) (Bs' := [[gObj ag ah az ak i0], hillsW E ah (pick (rUndo k i0) r (becF r k)), hillsW E az x, hillsW E ak k, shO E ag z u, shN E ag y, [rdO ag (nI len) (nI ys) (nI yb) (nI ye) (nI yv)], [(ag 3, .inl (E.2.2.1, 120, .inl (sg tb 120)))], [(ag 4, .inl (E.2.1, 7, .inl (sg (fndC f (rUndo k i0)) 7)))], [mObj am q], [(am 1, .inl (E.2.1, 77, .inl (sg (rowR r2 (rUndo k2 (q 0))) 77)))], [(am 2, .inl (E.2.1, 77, .inl (sg k2 77)))], [(am 3, .inl (E.2.1, 77, .inl (sg x2 77)))], [(am 4, .inl (E.2.1, 8, .inl (sg (fndM f2 (rUndo k2 (q 0))) 8)))], [(am 5, .inl (E.2.1, 120, .inl (sg tp 120)))], [(am 6, .inl (E.2.2.2.2.2, 7, .inr (.inr (.inr (.inr (fun j => some (aS (12 + j))))))))], [(am 7, .inl (E.2.1, 480, .inl (sg it 480)))], [(am 8, .inl (E.2.1, 4, .inl (sg z 4)))], [(am 9, .inl (E.2.1, 4, .inl (sg u 4)))], [(am 10, .inl (E.2.1, 160, .inl (sg y 160)))], [(am 11, .inl (E.2.1, 40, .inl (sg mv 40)))]]) rfl (fun H locs hP hD hS => ?_)
  refine lv_icmp_eq (tgt := 1399) S.1 S.2.1 dL_law_1335 (by decide) (fun _ => ?_) (fun h => absurd (RR_ans (rr_undo hI)) h)
  exact kk i0 (pick (rUndo k i0) r (becF r k)) x k z u y tb (fndC f (rUndo k i0)) len (yb, ye, ys, yv) q (rowR r2 (rUndo k2 (q 0))) k2 x2 (fndM f2 (rUndo k2 (q 0))) tp it mv H locs ls (inv_undo hI) hP hD hS (lv_sub hl [0, 1, 2, 3] rfl)
set_option maxHeartbeats 1600000 in
set_option maxRecDepth 100000 in
theorem law_37 (S : CallFix p m c code 4 s #[Value.ref b] (c0 :: GW) RL) (hK : KE E s) (hX : EX aS A s s.heap) (hXs : va_X b L xs s s.heap) (hbl : b < s.heap.size) (hbA : ¬ A b) (hcc : cells ≤ room_1.cells) (hss : slots ≤ room_1.slots) (hL : L ≤ 3072) (i0 : Int32) (r x k z u y tb f : Row) (len : Nat) (Y : Ys) (q r2 k2 x2 f2 tp it mv : Row) (hI : Inv i0 r k u tb f len q r2 k2 f2 tp) (hP : PE E (LW E aS ag ah az ak am i0 r x k z u y tb f len Y q r2 k2 x2 f2 tp it mv) H) (hD : DE A (LW E aS ag ah az ak am i0 r x k z u y tb f len Y q r2 k2 x2 f2 tp it mv)) (hS : va_S A s.heap H locs) {i : Nat} (hi : i + 6 ≤ L) {ls : Array Slot} (hl : lv_has ls 4 [(0, .ref b), (1, .ref (ag 0)), (2, .ref (am 0)), (3, .int (nI i))]) (kk : KK p l e s m below meth c b E aS ag ah az ak am A cells slots Q i) : W p l e room_1 s m #[Value.ref b] below meth c H locs cells slots Q (F0 m 1340 ls []) := by
  obtain ⟨yb, ye, ys, yv⟩ := Y
  have hev := hI.1
  have hR := hI.2.1
  have hR2 := RI_ev hev hR
  have hRk := hI.2.2.1
  have hU := hI.2.2.2.2.2.1
  have hl9 := hI.2.2.2.2.2.2.1
  have hq3 := hI.2.2.2.2.2.2.2.1
  have hT := hI.2.2.2.2.2.2.2.2.1
  have hP : PE E [[gObj ag ah az ak i0], hillsW E ah r, hillsW E az x, hillsW E ak k, shO E ag z u, shN E ag y, [rdO ag (nI len) (nI ys) (nI yb) (nI ye) (nI yv)], [(ag 3, .inl (E.2.2.1, 120, .inl (sg tb 120)))], [(ag 4, .inl (E.2.1, 7, .inl (sg f 7)))], [mObj am q], [(am 1, .inl (E.2.1, 77, .inl (sg r2 77)))], [(am 2, .inl (E.2.1, 77, .inl (sg k2 77)))], [(am 3, .inl (E.2.1, 77, .inl (sg x2 77)))], [(am 4, .inl (E.2.1, 8, .inl (sg f2 8)))], [(am 5, .inl (E.2.1, 120, .inl (sg tp 120)))], [(am 6, .inl (E.2.2.2.2.2, 7, .inr (.inr (.inr (.inr (fun j => some (aS (12 + j))))))))], [(am 7, .inl (E.2.1, 480, .inl (sg it 480)))], [(am 8, .inl (E.2.1, 4, .inl (sg z 4)))], [(am 9, .inl (E.2.1, 4, .inl (sg u 4)))], [(am 10, .inl (E.2.1, 160, .inl (sg y 160)))], [(am 11, .inl (E.2.1, 40, .inl (sg mv 40)))]] H := hP
  have hD : DE A [[gObj ag ah az ak i0], hillsW E ah r, hillsW E az x, hillsW E ak k, shO E ag z u, shN E ag y, [rdO ag (nI len) (nI ys) (nI yb) (nI ye) (nI yv)], [(ag 3, .inl (E.2.2.1, 120, .inl (sg tb 120)))], [(ag 4, .inl (E.2.1, 7, .inl (sg f 7)))], [mObj am q], [(am 1, .inl (E.2.1, 77, .inl (sg r2 77)))], [(am 2, .inl (E.2.1, 77, .inl (sg k2 77)))], [(am 3, .inl (E.2.1, 77, .inl (sg x2 77)))], [(am 4, .inl (E.2.1, 8, .inl (sg f2 8)))], [(am 5, .inl (E.2.1, 120, .inl (sg tp 120)))], [(am 6, .inl (E.2.2.2.2.2, 7, .inr (.inr (.inr (.inr (fun j => some (aS (12 + j))))))))], [(am 7, .inl (E.2.1, 480, .inl (sg it 480)))], [(am 8, .inl (E.2.1, 4, .inl (sg z 4)))], [(am 9, .inl (E.2.1, 4, .inl (sg u 4)))], [(am 10, .inl (E.2.1, 160, .inl (sg y 160)))], [(am 11, .inl (E.2.1, 40, .inl (sg mv 40)))]] := hD
  refine lv_aload_n S.1 S.2.1 dL_law_1340 rfl (lv_at hl 1 rfl) ?_
  refine go_I (run_V (As := []) (rest := []) (n := 0) S hK (bl_P hP [0] rfl) (bl_D hD [0] rfl rfl) (c_X4_tear l E ag ah az ak i0 ) gV_L_167 (by decide +kernel) rfl ⟨rfl, rfl⟩ ⟨Nat.le_of_ble_eq_true rfl, Nat.le_of_ble_eq_true rfl⟩ (ci := 4) (q0 := 0) rfl rfl hl.1 (Nat.le_of_ble_eq_true rfl) dL_law_1341 ⟨hcc, hss⟩) hP hD hS [0] rfl (had_cons go_ad rfl) (Bs' := [[gObj ag ah az ak 0], hillsW E ah r, hillsW E az x, hillsW E ak k, shO E ag z u, shN E ag y, [rdO ag (nI len) (nI ys) (nI yb) (nI ye) (nI yv)], [(ag 3, .inl (E.2.2.1, 120, .inl (sg tb 120)))], [(ag 4, .inl (E.2.1, 7, .inl (sg f 7)))], [mObj am q], [(am 1, .inl (E.2.1, 77, .inl (sg r2 77)))], [(am 2, .inl (E.2.1, 77, .inl (sg k2 77)))], [(am 3, .inl (E.2.1, 77, .inl (sg x2 77)))], [(am 4, .inl (E.2.1, 8, .inl (sg f2 8)))], [(am 5, .inl (E.2.1, 120, .inl (sg tp 120)))], [(am 6, .inl (E.2.2.2.2.2, 7, .inr (.inr (.inr (.inr (fun j => some (aS (12 + j))))))))], [(am 7, .inl (E.2.1, 480, .inl (sg it 480)))], [(am 8, .inl (E.2.1, 4, .inl (sg z 4)))], [(am 9, .inl (E.2.1, 4, .inl (sg u 4)))], [(am 10, .inl (E.2.1, 160, .inl (sg y 160)))], [(am 11, .inl (E.2.1, 40, .inl (sg mv 40)))]]) rfl (fun H locs hP hD hS => ?_)
  refine lv_aload_n S.1 S.2.1 dL_law_1344 rfl (lv_at hl 2 rfl) ?_
  refine go_I (run_V (As := []) (rest := [.int (bI (¬ i0 = 0))]) (n := 0) S hK (bl_P hP [9] rfl) (bl_D hD [9] rfl rfl) (c_X5_tear l E am q ) gV_L_170 (by decide +kernel) rfl ⟨rfl, rfl⟩ ⟨Nat.le_of_ble_eq_true rfl, Nat.le_of_ble_eq_true rfl⟩ (ci := 5) (q0 := 0) rfl rfl hl.1 (Nat.le_of_ble_eq_true rfl) dL_law_1345 ⟨hcc, hss⟩) hP hD hS [9] rfl (had_cons mo_ad rfl) (Bs' := [[gObj ag ah az ak 0], hillsW E ah r, hillsW E az x, hillsW E ak k, shO E ag z u, shN E ag y, [rdO ag (nI len) (nI ys) (nI yb) (nI ye) (nI yv)], [(ag 3, .inl (E.2.2.1, 120, .inl (sg tb 120)))], [(ag 4, .inl (E.2.1, 7, .inl (sg f 7)))], [mObj am (upd q 0 0)], [(am 1, .inl (E.2.1, 77, .inl (sg r2 77)))], [(am 2, .inl (E.2.1, 77, .inl (sg k2 77)))], [(am 3, .inl (E.2.1, 77, .inl (sg x2 77)))], [(am 4, .inl (E.2.1, 8, .inl (sg f2 8)))], [(am 5, .inl (E.2.1, 120, .inl (sg tp 120)))], [(am 6, .inl (E.2.2.2.2.2, 7, .inr (.inr (.inr (.inr (fun j => some (aS (12 + j))))))))], [(am 7, .inl (E.2.1, 480, .inl (sg it 480)))], [(am 8, .inl (E.2.1, 4, .inl (sg z 4)))], [(am 9, .inl (E.2.1, 4, .inl (sg u 4)))], [(am 10, .inl (E.2.1, 160, .inl (sg y 160)))], [(am 11, .inl (E.2.1, 40, .inl (sg mv 40)))]]) rfl (fun H locs hP hD hS => ?_)
  refine lv_icmp_eq (tgt := 1399) S.1 S.2.1 dL_law_1348 (by decide) (fun _ => ?_) (fun h => absurd (tear_ans hI) h)
  exact kk 0 r x k z u y tb f len (yb, ye, ys, yv) (upd q 0 0) r2 k2 x2 f2 tp it mv H locs ls (inv_tear hI) hP hD hS (lv_sub hl [0, 1, 2, 3] rfl)
set_option maxHeartbeats 1600000 in
set_option maxRecDepth 100000 in
theorem law_38 (S : CallFix p m c code 4 s #[Value.ref b] (c0 :: GW) RL) (hK : KE E s) (hX : EX aS A s s.heap) (hXs : va_X b L xs s s.heap) (hbl : b < s.heap.size) (hbA : ¬ A b) (hcc : cells ≤ room_1.cells) (hss : slots ≤ room_1.slots) (hL : L ≤ 3072) (i0 : Int32) (r x k z u y tb f : Row) (len : Nat) (Y : Ys) (q r2 k2 x2 f2 tp it mv : Row) (hI : Inv i0 r k u tb f len q r2 k2 f2 tp) (hP : PE E (LW E aS ag ah az ak am i0 r x k z u y tb f len Y q r2 k2 x2 f2 tp it mv) H) (hD : DE A (LW E aS ag ah az ak am i0 r x k z u y tb f len Y q r2 k2 x2 f2 tp it mv)) (hS : va_S A s.heap H locs) {i : Nat} (hi : i + 6 ≤ L) {ls : Array Slot} (hl : lv_has ls 4 [(0, .ref b), (1, .ref (ag 0)), (2, .ref (am 0)), (3, .int (nI i))]) (kk : KK p l e s m below meth c b E aS ag ah az ak am A cells slots Q i) : W p l e room_1 s m #[Value.ref b] below meth c H locs cells slots Q (F0 m 1353 ls []) := by
  obtain ⟨yb, ye, ys, yv⟩ := Y
  have hev := hI.1
  have hR := hI.2.1
  have hR2 := RI_ev hev hR
  have hRk := hI.2.2.1
  have hU := hI.2.2.2.2.2.1
  have hl9 := hI.2.2.2.2.2.2.1
  have hq3 := hI.2.2.2.2.2.2.2.1
  have hT := hI.2.2.2.2.2.2.2.2.1
  have hP : PE E [[gObj ag ah az ak i0], hillsW E ah r, hillsW E az x, hillsW E ak k, shO E ag z u, shN E ag y, [rdO ag (nI len) (nI ys) (nI yb) (nI ye) (nI yv)], [(ag 3, .inl (E.2.2.1, 120, .inl (sg tb 120)))], [(ag 4, .inl (E.2.1, 7, .inl (sg f 7)))], [mObj am q], [(am 1, .inl (E.2.1, 77, .inl (sg r2 77)))], [(am 2, .inl (E.2.1, 77, .inl (sg k2 77)))], [(am 3, .inl (E.2.1, 77, .inl (sg x2 77)))], [(am 4, .inl (E.2.1, 8, .inl (sg f2 8)))], [(am 5, .inl (E.2.1, 120, .inl (sg tp 120)))], [(am 6, .inl (E.2.2.2.2.2, 7, .inr (.inr (.inr (.inr (fun j => some (aS (12 + j))))))))], [(am 7, .inl (E.2.1, 480, .inl (sg it 480)))], [(am 8, .inl (E.2.1, 4, .inl (sg z 4)))], [(am 9, .inl (E.2.1, 4, .inl (sg u 4)))], [(am 10, .inl (E.2.1, 160, .inl (sg y 160)))], [(am 11, .inl (E.2.1, 40, .inl (sg mv 40)))]] H := hP
  have hD : DE A [[gObj ag ah az ak i0], hillsW E ah r, hillsW E az x, hillsW E ak k, shO E ag z u, shN E ag y, [rdO ag (nI len) (nI ys) (nI yb) (nI ye) (nI yv)], [(ag 3, .inl (E.2.2.1, 120, .inl (sg tb 120)))], [(ag 4, .inl (E.2.1, 7, .inl (sg f 7)))], [mObj am q], [(am 1, .inl (E.2.1, 77, .inl (sg r2 77)))], [(am 2, .inl (E.2.1, 77, .inl (sg k2 77)))], [(am 3, .inl (E.2.1, 77, .inl (sg x2 77)))], [(am 4, .inl (E.2.1, 8, .inl (sg f2 8)))], [(am 5, .inl (E.2.1, 120, .inl (sg tp 120)))], [(am 6, .inl (E.2.2.2.2.2, 7, .inr (.inr (.inr (.inr (fun j => some (aS (12 + j))))))))], [(am 7, .inl (E.2.1, 480, .inl (sg it 480)))], [(am 8, .inl (E.2.1, 4, .inl (sg z 4)))], [(am 9, .inl (E.2.1, 4, .inl (sg u 4)))], [(am 10, .inl (E.2.1, 160, .inl (sg y 160)))], [(am 11, .inl (E.2.1, 40, .inl (sg mv 40)))]] := hD
  refine lv_aload_n S.1 S.2.1 dL_law_1353 rfl (lv_at hl 1 rfl) ?_
  refine lv_aload_n S.1 S.2.1 dL_law_1354 rfl (lv_at hl 0 rfl) ?_
  refine lv_iload_n S.1 S.2.1 dL_law_1355 rfl (lv_at hl 3 rfl) ?_
  refine lv_iconst (v := 1) S.1 S.2.1 dL_law_1356 (by decide) ?_
  refine lv_iadd S.1 S.2.1 dL_law_1357 ?_
  refine lv_eqi (y := nI (i + 1)) (nI_add i 1) ?_
  refine b_sld (j := i + 1) S.1 S.2.1 hXs hbl hbA hS (by omega) (by omega) dL_law_1358 ?_
  refine go_I (run_V (As := [.int (xs (i + 1))]) (rest := []) (n := 1) S hK (bl_P hP [0, 1, 8, 6] rfl) (bl_D hD [0, 1, 8, 6] rfl rfl) (c_X4_count l E ag ah az ak i0 r f len (nI ys) (nI yb) (nI ye) (nI yv) (xs (i + 1)) hR) gV_L_171 (by decide +kernel) rfl ⟨rfl, rfl⟩ ⟨Nat.le_of_ble_eq_true rfl, Nat.le_of_ble_eq_true rfl⟩ (ci := 4) (q0 := 0) rfl rfl hl.1 (Nat.le_of_ble_eq_true rfl) dL_law_1359 ⟨hcc, hss⟩) hP hD hS [0, 1, 8, 6] rfl (had_cons rfl (had_cons hw_ad (had_cons cell_ad (had_cons rfl rfl)))) (Bs' := [[gObj ag ah az ak i0], hillsW E ah (rowR r (rCount r (nI len) (xs (i + 1)))), hillsW E az x, hillsW E ak k, shO E ag z u, shN E ag y, [rdO ag (nI len) (nI ys) (nI yb) (nI ye) (nI yv)], [(ag 3, .inl (E.2.2.1, 120, .inl (sg tb 120)))], [(ag 4, .inl (E.2.1, 7, .inl (sg (fndC f (rCount r (nI len) (xs (i + 1)))) 7)))], [mObj am q], [(am 1, .inl (E.2.1, 77, .inl (sg r2 77)))], [(am 2, .inl (E.2.1, 77, .inl (sg k2 77)))], [(am 3, .inl (E.2.1, 77, .inl (sg x2 77)))], [(am 4, .inl (E.2.1, 8, .inl (sg f2 8)))], [(am 5, .inl (E.2.1, 120, .inl (sg tp 120)))], [(am 6, .inl (E.2.2.2.2.2, 7, .inr (.inr (.inr (.inr (fun j => some (aS (12 + j))))))))], [(am 7, .inl (E.2.1, 480, .inl (sg it 480)))], [(am 8, .inl (E.2.1, 4, .inl (sg z 4)))], [(am 9, .inl (E.2.1, 4, .inl (sg u 4)))], [(am 10, .inl (E.2.1, 160, .inl (sg y 160)))], [(am 11, .inl (E.2.1, 40, .inl (sg mv 40)))]]) rfl (fun H locs hP hD hS => ?_)
  refine lv_aload_n S.1 S.2.1 dL_law_1362 rfl (lv_at hl 2 rfl) ?_
  refine lv_aload_n S.1 S.2.1 dL_law_1363 rfl (lv_at hl 0 rfl) ?_
  refine lv_iload_n S.1 S.2.1 dL_law_1364 rfl (lv_at hl 3 rfl) ?_
  refine lv_iconst (v := 1) S.1 S.2.1 dL_law_1365 (by decide) ?_
  refine lv_iadd S.1 S.2.1 dL_law_1366 ?_
  refine lv_eqi (y := nI (i + 1)) (nI_add i 1) ?_
  refine b_sld (j := i + 1) S.1 S.2.1 hXs hbl hbA hS (by omega) (by omega) dL_law_1367 ?_
  refine go_I (run_V (As := [.int (xs (i + 1))]) (rest := [.int (ansR (rCount r (nI len) (xs (i + 1))))]) (n := 1) S hK (bl_P hP [9, 10, 13] rfl) (bl_D hD [9, 10, 13] rfl rfl) (c_X5_count l E am q r2 f2 (xs (i + 1)) hR2) gV_L_174 (by decide +kernel) rfl ⟨rfl, rfl⟩ ⟨Nat.le_of_ble_eq_true rfl, Nat.le_of_ble_eq_true rfl⟩ (ci := 5) (q0 := 0) rfl rfl hl.1 (Nat.le_of_ble_eq_true rfl) dL_law_1368 ⟨hcc, hss⟩) hP hD hS [9, 10, 13] rfl (had_cons rfl (had_cons rfl (had_cons cell_ad rfl))) (Bs' := [[gObj ag ah az ak i0], hillsW E ah (rowR r (rCount r (nI len) (xs (i + 1)))), hillsW E az x, hillsW E ak k, shO E ag z u, shN E ag y, [rdO ag (nI len) (nI ys) (nI yb) (nI ye) (nI yv)], [(ag 3, .inl (E.2.2.1, 120, .inl (sg tb 120)))], [(ag 4, .inl (E.2.1, 7, .inl (sg (fndC f (rCount r (nI len) (xs (i + 1)))) 7)))], [mObj am q], [(am 1, .inl (E.2.1, 77, .inl (sg r2 77)))], [(am 2, .inl (E.2.1, 77, .inl (sg k2 77)))], [(am 3, .inl (E.2.1, 77, .inl (sg x2 77)))], [(am 4, .inl (E.2.1, 8, .inl (sg (fndM f2 (rCount r2 (q 3) (xs (i + 1)))) 8)))], [(am 5, .inl (E.2.1, 120, .inl (sg tp 120)))], [(am 6, .inl (E.2.2.2.2.2, 7, .inr (.inr (.inr (.inr (fun j => some (aS (12 + j))))))))], [(am 7, .inl (E.2.1, 480, .inl (sg it 480)))], [(am 8, .inl (E.2.1, 4, .inl (sg z 4)))], [(am 9, .inl (E.2.1, 4, .inl (sg u 4)))], [(am 10, .inl (E.2.1, 160, .inl (sg y 160)))], [(am 11, .inl (E.2.1, 40, .inl (sg mv 40)))]]) rfl (fun H locs hP hD hS => ?_)
  refine lv_icmp_eq (tgt := 1399) S.1 S.2.1 dL_law_1371 (by decide) (fun _ => ?_) (fun h => absurd (by rw [hq3]; exact RR_ans (rr_count hev (nI len) (xs (i + 1)))) h)
  exact kk i0 (rowR r (rCount r (nI len) (xs (i + 1)))) x k z u y tb (fndC f (rCount r (nI len) (xs (i + 1)))) len (yb, ye, ys, yv) q r2 k2 x2 (fndM f2 (rCount r2 (q 3) (xs (i + 1)))) tp it mv H locs ls (inv_asC hI (by rw [hq3]; exact rr_count hev (nI len) (xs (i + 1))) count_row) hP hD hS (lv_sub hl [0, 1, 2, 3] rfl)
set_option maxHeartbeats 1600000 in
set_option maxRecDepth 100000 in
theorem law_39 (S : CallFix p m c code 4 s #[Value.ref b] (c0 :: GW) RL) (hK : KE E s) (hX : EX aS A s s.heap) (hXs : va_X b L xs s s.heap) (hbl : b < s.heap.size) (hbA : ¬ A b) (hcc : cells ≤ room_1.cells) (hss : slots ≤ room_1.slots) (hL : L ≤ 3072) (i0 : Int32) (r x k z u y tb f : Row) (len : Nat) (Y : Ys) (q r2 k2 x2 f2 tp it mv : Row) (hI : Inv i0 r k u tb f len q r2 k2 f2 tp) (hP : PE E (LW E aS ag ah az ak am i0 r x k z u y tb f len Y q r2 k2 x2 f2 tp it mv) H) (hD : DE A (LW E aS ag ah az ak am i0 r x k z u y tb f len Y q r2 k2 x2 f2 tp it mv)) (hS : va_S A s.heap H locs) {i : Nat} (hi : i + 6 ≤ L) {ls : Array Slot} (hl : lv_has ls 4 [(0, .ref b), (1, .ref (ag 0)), (2, .ref (am 0)), (3, .int (nI i))]) (kk : KK p l e s m below meth c b E aS ag ah az ak am A cells slots Q i) : W p l e room_1 s m #[Value.ref b] below meth c H locs cells slots Q (F0 m 1376 ls []) := by
  obtain ⟨yb, ye, ys, yv⟩ := Y
  have hev := hI.1
  have hR := hI.2.1
  have hR2 := RI_ev hev hR
  have hRk := hI.2.2.1
  have hU := hI.2.2.2.2.2.1
  have hl9 := hI.2.2.2.2.2.2.1
  have hq3 := hI.2.2.2.2.2.2.2.1
  have hT := hI.2.2.2.2.2.2.2.2.1
  have hP : PE E [[gObj ag ah az ak i0], hillsW E ah r, hillsW E az x, hillsW E ak k, shO E ag z u, shN E ag y, [rdO ag (nI len) (nI ys) (nI yb) (nI ye) (nI yv)], [(ag 3, .inl (E.2.2.1, 120, .inl (sg tb 120)))], [(ag 4, .inl (E.2.1, 7, .inl (sg f 7)))], [mObj am q], [(am 1, .inl (E.2.1, 77, .inl (sg r2 77)))], [(am 2, .inl (E.2.1, 77, .inl (sg k2 77)))], [(am 3, .inl (E.2.1, 77, .inl (sg x2 77)))], [(am 4, .inl (E.2.1, 8, .inl (sg f2 8)))], [(am 5, .inl (E.2.1, 120, .inl (sg tp 120)))], [(am 6, .inl (E.2.2.2.2.2, 7, .inr (.inr (.inr (.inr (fun j => some (aS (12 + j))))))))], [(am 7, .inl (E.2.1, 480, .inl (sg it 480)))], [(am 8, .inl (E.2.1, 4, .inl (sg z 4)))], [(am 9, .inl (E.2.1, 4, .inl (sg u 4)))], [(am 10, .inl (E.2.1, 160, .inl (sg y 160)))], [(am 11, .inl (E.2.1, 40, .inl (sg mv 40)))]] H := hP
  have hD : DE A [[gObj ag ah az ak i0], hillsW E ah r, hillsW E az x, hillsW E ak k, shO E ag z u, shN E ag y, [rdO ag (nI len) (nI ys) (nI yb) (nI ye) (nI yv)], [(ag 3, .inl (E.2.2.1, 120, .inl (sg tb 120)))], [(ag 4, .inl (E.2.1, 7, .inl (sg f 7)))], [mObj am q], [(am 1, .inl (E.2.1, 77, .inl (sg r2 77)))], [(am 2, .inl (E.2.1, 77, .inl (sg k2 77)))], [(am 3, .inl (E.2.1, 77, .inl (sg x2 77)))], [(am 4, .inl (E.2.1, 8, .inl (sg f2 8)))], [(am 5, .inl (E.2.1, 120, .inl (sg tp 120)))], [(am 6, .inl (E.2.2.2.2.2, 7, .inr (.inr (.inr (.inr (fun j => some (aS (12 + j))))))))], [(am 7, .inl (E.2.1, 480, .inl (sg it 480)))], [(am 8, .inl (E.2.1, 4, .inl (sg z 4)))], [(am 9, .inl (E.2.1, 4, .inl (sg u 4)))], [(am 10, .inl (E.2.1, 160, .inl (sg y 160)))], [(am 11, .inl (E.2.1, 40, .inl (sg mv 40)))]] := hD
  refine lv_aload_n S.1 S.2.1 dL_law_1376 rfl (lv_at hl 1 rfl) ?_
  refine lv_aload_n S.1 S.2.1 dL_law_1377 rfl (lv_at hl 0 rfl) ?_
  refine lv_iload_n S.1 S.2.1 dL_law_1378 rfl (lv_at hl 3 rfl) ?_
  refine lv_iconst (v := 1) S.1 S.2.1 dL_law_1379 (by decide) ?_
  refine lv_iadd S.1 S.2.1 dL_law_1380 ?_
  refine lv_eqi (y := nI (i + 1)) (nI_add i 1) ?_
  refine b_sld (j := i + 1) S.1 S.2.1 hXs hbl hbA hS (by omega) (by omega) dL_law_1381 ?_
  refine go_I (run_V (As := [.int (xs (i + 1))]) (rest := []) (n := 1) S hK (bl_P hP [0, 8] rfl) (bl_D hD [0, 8] rfl rfl) (c_X4_status l E ag ah az ak i0 f (xs (i + 1)) ) gV_L_175 (by decide +kernel) rfl ⟨rfl, rfl⟩ ⟨Nat.le_of_ble_eq_true rfl, Nat.le_of_ble_eq_true rfl⟩ (ci := 4) (q0 := 0) rfl rfl hl.1 (Nat.le_of_ble_eq_true rfl) dL_law_1382 ⟨hcc, hss⟩) hP hD hS [0, 8] rfl (had_cons rfl (had_cons cell_ad rfl)) (Bs' := [[gObj ag ah az ak i0], hillsW E ah r, hillsW E az x, hillsW E ak k, shO E ag z u, shN E ag y, [rdO ag (nI len) (nI ys) (nI yb) (nI ye) (nI yv)], [(ag 3, .inl (E.2.2.1, 120, .inl (sg tb 120)))], [(ag 4, .inl (E.2.1, 7, .inl (sg (fndC f (rStatC f (xs (i + 1)))) 7)))], [mObj am q], [(am 1, .inl (E.2.1, 77, .inl (sg r2 77)))], [(am 2, .inl (E.2.1, 77, .inl (sg k2 77)))], [(am 3, .inl (E.2.1, 77, .inl (sg x2 77)))], [(am 4, .inl (E.2.1, 8, .inl (sg f2 8)))], [(am 5, .inl (E.2.1, 120, .inl (sg tp 120)))], [(am 6, .inl (E.2.2.2.2.2, 7, .inr (.inr (.inr (.inr (fun j => some (aS (12 + j))))))))], [(am 7, .inl (E.2.1, 480, .inl (sg it 480)))], [(am 8, .inl (E.2.1, 4, .inl (sg z 4)))], [(am 9, .inl (E.2.1, 4, .inl (sg u 4)))], [(am 10, .inl (E.2.1, 160, .inl (sg y 160)))], [(am 11, .inl (E.2.1, 40, .inl (sg mv 40)))]]) rfl (fun H locs hP hD hS => ?_)
  refine lv_aload_n S.1 S.2.1 dL_law_1385 rfl (lv_at hl 2 rfl) ?_
  refine lv_aload_n S.1 S.2.1 dL_law_1386 rfl (lv_at hl 0 rfl) ?_
  refine lv_iload_n S.1 S.2.1 dL_law_1387 rfl (lv_at hl 3 rfl) ?_
  refine lv_iconst (v := 1) S.1 S.2.1 dL_law_1388 (by decide) ?_
  refine lv_iadd S.1 S.2.1 dL_law_1389 ?_
  refine lv_eqi (y := nI (i + 1)) (nI_add i 1) ?_
  refine b_sld (j := i + 1) S.1 S.2.1 hXs hbl hbA hS (by omega) (by omega) dL_law_1390 ?_
  refine go_I (run_V (As := [.int (xs (i + 1))]) (rest := [.int (ansR (rStatC f (xs (i + 1))))]) (n := 1) S hK (bl_P hP [9, 13] rfl) (bl_D hD [9, 13] rfl rfl) (c_X5_status l E am q f2 (xs (i + 1)) ) gV_L_178 (by decide +kernel) rfl ⟨rfl, rfl⟩ ⟨Nat.le_of_ble_eq_true rfl, Nat.le_of_ble_eq_true rfl⟩ (ci := 5) (q0 := 0) rfl rfl hl.1 (Nat.le_of_ble_eq_true rfl) dL_law_1391 ⟨hcc, hss⟩) hP hD hS [9, 13] rfl (had_cons rfl (had_cons cell_ad rfl)) (Bs' := [[gObj ag ah az ak i0], hillsW E ah r, hillsW E az x, hillsW E ak k, shO E ag z u, shN E ag y, [rdO ag (nI len) (nI ys) (nI yb) (nI ye) (nI yv)], [(ag 3, .inl (E.2.2.1, 120, .inl (sg tb 120)))], [(ag 4, .inl (E.2.1, 7, .inl (sg (fndC f (rStatC f (xs (i + 1)))) 7)))], [mObj am q], [(am 1, .inl (E.2.1, 77, .inl (sg r2 77)))], [(am 2, .inl (E.2.1, 77, .inl (sg k2 77)))], [(am 3, .inl (E.2.1, 77, .inl (sg x2 77)))], [(am 4, .inl (E.2.1, 8, .inl (sg (fndM f2 (rStatM f2 (xs (i + 1)))) 8)))], [(am 5, .inl (E.2.1, 120, .inl (sg tp 120)))], [(am 6, .inl (E.2.2.2.2.2, 7, .inr (.inr (.inr (.inr (fun j => some (aS (12 + j))))))))], [(am 7, .inl (E.2.1, 480, .inl (sg it 480)))], [(am 8, .inl (E.2.1, 4, .inl (sg z 4)))], [(am 9, .inl (E.2.1, 4, .inl (sg u 4)))], [(am 10, .inl (E.2.1, 160, .inl (sg y 160)))], [(am 11, .inl (E.2.1, 40, .inl (sg mv 40)))]]) rfl (fun H locs hP hD hS => ?_)
  refine lv_icmp_eq (tgt := 1399) S.1 S.2.1 dL_law_1394 (by decide) (fun _ => ?_) (fun h => absurd (RR_ans (rr_status hI.2.2.2.2.2.2.2.2.2 (xs (i + 1)))) h)
  exact kk i0 r x k z u y tb (fndC f (rStatC f (xs (i + 1)))) len (yb, ye, ys, yv) q r2 k2 x2 (fndM f2 (rStatM f2 (xs (i + 1)))) tp it mv H locs ls (inv_ans hI (rr_status hI.2.2.2.2.2.2.2.2.2 (xs (i + 1))) rfl rfl) hP hD hS (lv_sub hl [0, 1, 2, 3] rfl)
end LWC
