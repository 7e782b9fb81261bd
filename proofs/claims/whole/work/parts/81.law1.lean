section LWC
variable {p : Program} {l : Launch} {e : Env} {s : State} {m : MethodId} {below : List Frame} {meth : Method} {c : Code} {H : Heap} {locs : List Loc} {cells slots : Nat} {Q : State → Prop} {c0 : Cond} {E : EV} {aS ag ah az ak am : Nat → Nat} {A : Nat → Prop} {b L : Nat} {xs : Nat → Int32}
set_option maxHeartbeats 1600000 in
set_option maxRecDepth 100000 in
theorem law_0 (S : CallFix p m c code 4 s #[Value.ref b] (c0 :: GW) RL) (hK : KE E s) (hX : EX aS A s s.heap) (hXs : va_X b L xs s s.heap) (hbl : b < s.heap.size) (hbA : ¬ A b) (hcc : cells ≤ room_1.cells) (hss : slots ≤ room_1.slots) (hL : L ≤ 3072) (i0 : Int32) (r x k z u y tb f : Row) (len : Nat) (Y : Ys) (q r2 k2 x2 f2 tp it mv : Row) (hI : Inv i0 r k u tb f len q r2 k2 f2 tp) (hP : PE E (LW E aS ag ah az ak am i0 r x k z u y tb f len Y q r2 k2 x2 f2 tp it mv) H) (hD : DE A (LW E aS ag ah az ak am i0 r x k z u y tb f len Y q r2 k2 x2 f2 tp it mv)) (hS : va_S A s.heap H locs) {i : Nat} (hi : i + 6 ≤ L) {ls : Array Slot} (hl : lv_has ls 4 [(0, .ref b), (1, .ref (ag 0)), (2, .ref (am 0)), (3, .int (nI i))]) (kk : KK p l e s m below meth c b E aS ag ah az ak am A cells slots Q i) : W p l e room_1 s m #[Value.ref b] below meth c H locs cells slots Q (F0 m 208 ls []) := by
  obtain ⟨yb, ye, ys, yv⟩ := Y
  have hev := hI.1
  have hR := hI.2.1
  have hR2 := RI_ev hev hR
  have hRk := hI.2.2.1
  have hU := hI.2.2.2.2.2.1
  have hl9 := hI.2.2.2.2.2.2.1
  have hq3 := hI.2.2.2.2.2.2.2.1
  have hT := hI.2.2.2.2.2.2.2.2.1
  have hP : PE E [[gObj ag ah az ak i0], hillsW E ah r, hillsW E az x, hillsW E ak k, shO E ag z u, shN E ag y, [rdO ag (nI len) (nI ys) (nI yb) (nI ye) (nI yv)], [(ag 3, .inl (E.2.2.1, 120, .inl (sg tb 120)))], [(ag 4, .inl (E.2.1, 7, .inl (sg f 7)))], [mObj am q], [(am 1, .inl (E.2.1, 77, .inl (sg r2 77)))], [(am 2, .inl (E.2.1, 77, .inl (sg k2 77)))], [(am 3, .inl (E.2.1, 77, .inl (sg x2 77)))], [(am 4, .inl (E.2.1, 8, .inl (sg f2 8)))], [(am 5, .inl (E.2.1, 120, .inl (sg tp 120)))], [(am 6, .inl (E.2.2.2.2.2, 7, .inr (.inr (.inr (.inr (fun j => some (aS (12 + j))))))))], [(am 7, .inl (E.2.1, 480, .inl (sg it 480)))], [(am 8, .inl (E.2.1, 4, .inl (sg z 4)))], [(am 9, .inl (E.2.1, 4, .inl (sg u 4)))], [(am 10, .inl (E.2.1, 160, .inl (sg y 160)))], [(am 11, .inl (E.2.1, 40, .inl (sg mv 40)))]] H := hP
  have hD : DE A [[gObj ag ah az ak i0], hillsW E ah r, hillsW E az x, hillsW E ak k, shO E ag z u, shN E ag y, [rdO ag (nI len) (nI ys) (nI yb) (nI ye) (nI yv)], [(ag 3, .inl (E.2.2.1, 120, .inl (sg tb 120)))], [(ag 4, .inl (E.2.1, 7, .inl (sg f 7)))], [mObj am q], [(am 1, .inl (E.2.1, 77, .inl (sg r2 77)))], [(am 2, .inl (E.2.1, 77, .inl (sg k2 77)))], [(am 3, .inl (E.2.1, 77, .inl (sg x2 77)))], [(am 4, .inl (E.2.1, 8, .inl (sg f2 8)))], [(am 5, .inl (E.2.1, 120, .inl (sg tp 120)))], [(am 6, .inl (E.2.2.2.2.2, 7, .inr (.inr (.inr (.inr (fun j => some (aS (12 + j))))))))], [(am 7, .inl (E.2.1, 480, .inl (sg it 480)))], [(am 8, .inl (E.2.1, 4, .inl (sg z 4)))], [(am 9, .inl (E.2.1, 4, .inl (sg u 4)))], [(am 10, .inl (E.2.1, 160, .inl (sg y 160)))], [(am 11, .inl (E.2.1, 40, .inl (sg mv 40)))]] := hD
  refine lv_aload_n S.1 S.2.1 dL_law_208 rfl (lv_at hl 1 rfl) ?_
  refine lv_aload_n S.1 S.2.1 dL_law_209 rfl (lv_at hl 0 rfl) ?_
  refine lv_iload_n S.1 S.2.1 dL_law_210 rfl (lv_at hl 3 rfl) ?_
  refine lv_iconst (v := 1) S.1 S.2.1 dL_law_211 (by decide) ?_
  refine lv_iadd S.1 S.2.1 dL_law_212 ?_
  refine lv_eqi (y := nI (i + 1)) (nI_add i 1) ?_
  refine b_sld (j := i + 1) S.1 S.2.1 hXs hbl hbA hS (by omega) (by omega) dL_law_213 ?_
  refine lv_aload_n S.1 S.2.1 dL_law_214 rfl (lv_at hl 0 rfl) ?_
  refine lv_iload_n S.1 S.2.1 dL_law_215 rfl (lv_at hl 3 rfl) ?_
  refine lv_iconst (v := 2) S.1 S.2.1 dL_law_216 (by decide) ?_
  refine lv_iadd S.1 S.2.1 dL_law_217 ?_
  refine lv_eqi (y := nI (i + 2)) (nI_add i 2) ?_
  refine b_sld (j := i + 2) S.1 S.2.1 hXs hbl hbA hS (by omega) (by omega) dL_law_218 ?_
  refine go_I (run_V (As := [.int (xs (i + 1)), .int (xs (i + 2))]) (rest := []) (n := 2) S hK (bl_P hP [0, 1, 8] rfl) (bl_D hD [0, 1, 8] rfl rfl) (c_X4_weather l E ag ah az ak i0 r f (xs (i + 1)) (xs (i + 2)) hR) gV_L_13 (by decide +kernel) rfl ⟨rfl, rfl⟩ ⟨Nat.le_of_ble_eq_true rfl, Nat.le_of_ble_eq_true rfl⟩ (ci := 4) (q0 := 0) rfl rfl hl.1 (Nat.le_of_ble_eq_true rfl) dL_law_219 ⟨hcc, hss⟩) hP hD hS [0, 1, 8] rfl (had_cons rfl (had_cons hw_ad (had_cons cell_ad rfl))) (Bs' := [[gObj ag ah az ak i0], hillsW E ah (rowR r (rWeather r (xs (i + 1)) (xs (i + 2)))), hillsW E az x, hillsW E ak k, shO E ag z u, shN E ag y, [rdO ag (nI len) (nI ys) (nI yb) (nI ye) (nI yv)], [(ag 3, .inl (E.2.2.1, 120, .inl (sg tb 120)))], [(ag 4, .inl (E.2.1, 7, .inl (sg (fndC f (rWeather r (xs (i + 1)) (xs (i + 2)))) 7)))], [mObj am q], [(am 1, .inl (E.2.1, 77, .inl (sg r2 77)))], [(am 2, .inl (E.2.1, 77, .inl (sg k2 77)))], [(am 3, .inl (E.2.1, 77, .inl (sg x2 77)))], [(am 4, .inl (E.2.1, 8, .inl (sg f2 8)))], [(am 5, .inl (E.2.1, 120, .inl (sg tp 120)))], [(am 6, .inl (E.2.2.2.2.2, 7, .inr (.inr (.inr (.inr (fun j => some (aS (12 + j))))))))], [(am 7, .inl (E.2.1, 480, .inl (sg it 480)))], [(am 8, .inl (E.2.1, 4, .inl (sg z 4)))], [(am 9, .inl (E.2.1, 4, .inl (sg u 4)))], [(am 10, .inl (E.2.1, 160, .inl (sg y 160)))], [(am 11, .inl (E.2.1, 40, .inl (sg mv 40)))]]) rfl (fun H locs hP hD hS => ?_)
  refine lv_aload_n S.1 S.2.1 dL_law_222 rfl (lv_at hl 2 rfl) ?_
  refine lv_aload_n S.1 S.2.1 dL_law_223 rfl (lv_at hl 0 rfl) ?_
  refine lv_iload_n S.1 S.2.1 dL_law_224 rfl (lv_at hl 3 rfl) ?_
  refine lv_iconst (v := 1) S.1 S.2.1 dL_law_225 (by decide) ?_
  refine lv_iadd S.1 S.2.1 dL_law_226 ?_
  refine lv_eqi (y := nI (i + 1)) (nI_add i 1) ?_
  refine b_sld (j := i + 1) S.1 S.2.1 hXs hbl hbA hS (by omega) (by omega) dL_law_227 ?_
  refine lv_aload_n S.1 S.2.1 dL_law_228 rfl (lv_at hl 0 rfl) ?_
  refine lv_iload_n S.1 S.2.1 dL_law_229 rfl (lv_at hl 3 rfl) ?_
  refine lv_iconst (v := 2) S.1 S.2.1 dL_law_230 (by decide) ?_
  refine lv_iadd S.1 S.2.1 dL_law_231 ?_
  refine lv_eqi (y := nI (i + 2)) (nI_add i 2) ?_
  refine b_sld (j := i + 2) S.1 S.2.1 hXs hbl hbA hS (by omega) (by omega) dL_law_232 ?_
  refine go_I (run_V (As := [.int (xs (i + 1)), .int (xs (i + 2))]) (rest := [.int (ansR (rWeather r (xs (i + 1)) (xs (i + 2))))]) (n := 2) S hK (bl_P hP [9, 10, 13] rfl) (bl_D hD [9, 10, 13] rfl rfl) (c_X5_weather l E am q r2 f2 (xs (i + 1)) (xs (i + 2)) hR2) gV_L_17 (by decide +kernel) rfl ⟨rfl, rfl⟩ ⟨Nat.le_of_ble_eq_true rfl, Nat.le_of_ble_eq_true rfl⟩ (ci := 5) (q0 := 0) rfl rfl hl.1 (Nat.le_of_ble_eq_true rfl) dL_law_233 ⟨hcc, hss⟩) hP hD hS [9, 10, 13] rfl (had_cons rfl (had_cons cell_ad (had_cons cell_ad rfl))) (Bs' := [[gObj ag ah az ak i0], hillsW E ah (rowR r (rWeather r (xs (i + 1)) (xs (i + 2)))), hillsW E az x, hillsW E ak k, shO E ag z u, shN E ag y, [rdO ag (nI len) (nI ys) (nI yb) (nI ye) (nI yv)], [(ag 3, .inl (E.2.2.1, 120, .inl (sg tb 120)))], [(ag 4, .inl (E.2.1, 7, .inl (sg (fndC f (rWeather r (xs (i + 1)) (xs (i + 2)))) 7)))], [mObj am q], [(am 1, .inl (E.2.1, 77, .inl (sg (rowR r2 (rWeather r2 (xs (i + 1)) (xs (i + 2)))) 77)))], [(am 2, .inl (E.2.1, 77, .inl (sg k2 77)))], [(am 3, .inl (E.2.1, 77, .inl (sg x2 77)))], [(am 4, .inl (E.2.1, 8, .inl (sg (fndM f2 (rWeather r2 (xs (i + 1)) (xs (i + 2)))) 8)))], [(am 5, .inl (E.2.1, 120, .inl (sg tp 120)))], [(am 6, .inl (E.2.2.2.2.2, 7, .inr (.inr (.inr (.inr (fun j => some (aS (12 + j))))))))], [(am 7, .inl (E.2.1, 480, .inl (sg it 480)))], [(am 8, .inl (E.2.1, 4, .inl (sg z 4)))], [(am 9, .inl (E.2.1, 4, .inl (sg u 4)))], [(am 10, .inl (E.2.1, 160, .inl (sg y 160)))], [(am 11, .inl (E.2.1, 40, .inl (sg mv 40)))]]) rfl (fun H locs hP hD hS => ?_)
  refine lv_icmp_eq (tgt := 1399) S.1 S.2.1 dL_law_236 (by decide) (fun _ => ?_) (fun h => absurd (RR_ans (rr_weather hev hR (xs (i + 1)) (xs (i + 2))).1) h)
  exact kk i0 (rowR r (rWeather r (xs (i + 1)) (xs (i + 2)))) x k z u y tb (fndC f (rWeather r (xs (i + 1)) (xs (i + 2)))) len (yb, ye, ys, yv) q (rowR r2 (rWeather r2 (xs (i + 1)) (xs (i + 2)))) k2 x2 (fndM f2 (rWeather r2 (xs (i + 1)) (xs (i + 2)))) tp it mv H locs ls (inv_row hI (rr_weather hev hR (xs (i + 1)) (xs (i + 2)))) hP hD hS (lv_sub hl [0, 1, 2, 3] rfl)
set_option maxHeartbeats 1600000 in
set_option maxRecDepth 100000 in
theorem law_1 (S : CallFix p m c code 4 s #[Value.ref b] (c0 :: GW) RL) (hK : KE E s) (hX : EX aS A s s.heap) (hXs : va_X b L xs s s.heap) (hbl : b < s.heap.size) (hbA : ¬ A b) (hcc : cells ≤ room_1.cells) (hss : slots ≤ room_1.slots) (hL : L ≤ 3072) (i0 : Int32) (r x k z u y tb f : Row) (len : Nat) (Y : Ys) (q r2 k2 x2 f2 tp it mv : Row) (hI : Inv i0 r k u tb f len q r2 k2 f2 tp) (hP : PE E (LW E aS ag ah az ak am i0 r x k z u y tb f len Y q r2 k2 x2 f2 tp it mv) H) (hD : DE A (LW E aS ag ah az ak am i0 r x k z u y tb f len Y q r2 k2 x2 f2 tp it mv)) (hS : va_S A s.heap H locs) {i : Nat} (hi : i + 6 ≤ L) {ls : Array Slot} (hl : lv_has ls 4 [(0, .ref b), (1, .ref (ag 0)), (2, .ref (am 0)), (3, .int (nI i))]) (kk : KK p l e s m below meth c b E aS ag ah az ak am A cells slots Q i) : W p l e room_1 s m #[Value.ref b] below meth c H locs cells slots Q (F0 m 241 ls []) := by
  obtain ⟨yb, ye, ys, yv⟩ := Y
  have hev := hI.1
  have hR := hI.2.1
  have hR2 := RI_ev hev hR
  have hRk := hI.2.2.1
  have hU := hI.2.2.2.2.2.1
  have hl9 := hI.2.2.2.2.2.2.1
  have hq3 := hI.2.2.2.2.2.2.2.1
  have hT := hI.2.2.2.2.2.2.2.2.1
  have hP : PE E [[gObj ag ah az ak i0], hillsW E ah r, hillsW E az x, hillsW E ak k, shO E ag z u, shN E ag y, [rdO ag (nI len) (nI ys) (nI yb) (nI ye) (nI yv)], [(ag 3, .inl (E.2.2.1, 120, .inl (sg tb 120)))], [(ag 4, .inl (E.2.1, 7, .inl (sg f 7)))], [mObj am q], [(am 1, .inl (E.2.1, 77, .inl (sg r2 77)))], [(am 2, .inl (E.2.1, 77, .inl (sg k2 77)))], [(am 3, .inl (E.2.1, 77, .inl (sg x2 77)))], [(am 4, .inl (E.2.1, 8, .inl (sg f2 8)))], [(am 5, .inl (E.2.1, 120, .inl (sg tp 120)))], [(am 6, .inl (E.2.2.2.2.2, 7, .inr (.inr (.inr (.inr (fun j => some (aS (12 + j))))))))], [(am 7, .inl (E.2.1, 480, .inl (sg it 480)))], [(am 8, .inl (E.2.1, 4, .inl (sg z 4)))], [(am 9, .inl (E.2.1, 4, .inl (sg u 4)))], [(am 10, .inl (E.2.1, 160, .inl (sg y 160)))], [(am 11, .inl (E.2.1, 40, .inl (sg mv 40)))]] H := hP
  have hD : DE A [[gObj ag ah az ak i0], hillsW E ah r, hillsW E az x, hillsW E ak k, shO E ag z u, shN E ag y, [rdO ag (nI len) (nI ys) (nI yb) (nI ye) (nI yv)], [(ag 3, .inl (E.2.2.1, 120, .inl (sg tb 120)))], [(ag 4, .inl (E.2.1, 7, .inl (sg f 7)))], [mObj am q], [(am 1, .inl (E.2.1, 77, .inl (sg r2 77)))], [(am 2, .inl (E.2.1, 77, .inl (sg k2 77)))], [(am 3, .inl (E.2.1, 77, .inl (sg x2 77)))], [(am 4, .inl (E.2.1, 8, .inl (sg f2 8)))], [(am 5, .inl (E.2.1, 120, .inl (sg tp 120)))], [(am 6, .inl (E.2.2.2.2.2, 7, .inr (.inr (.inr (.inr (fun j => some (aS (12 + j))))))))], [(am 7, .inl (E.2.1, 480, .inl (sg it 480)))], [(am 8, .inl (E.2.1, 4, .inl (sg z 4)))], [(am 9, .inl (E.2.1, 4, .inl (sg u 4)))], [(am 10, .inl (E.2.1, 160, .inl (sg y 160)))], [(am 11, .inl (E.2.1, 40, .inl (sg mv 40)))]] := hD
  refine lv_aload_n S.1 S.2.1 dL_law_241 rfl (lv_at hl 1 rfl) ?_
  refine lv_aload_n S.1 S.2.1 dL_law_242 rfl (lv_at hl 0 rfl) ?_
  refine lv_iload_n S.1 S.2.1 dL_law_243 rfl (lv_at hl 3 rfl) ?_
  refine lv_iconst (v := 1) S.1 S.2.1 dL_law_244 (by decide) ?_
  refine lv_iadd S.1 S.2.1 dL_law_245 ?_
  refine lv_eqi (y := nI (i + 1)) (nI_add i 1) ?_
  refine b_sld (j := i + 1) S.1 S.2.1 hXs hbl hbA hS (by omega) (by omega) dL_law_246 ?_
  refine go_I (run_V (As := [.int (xs (i + 1))]) (rest := []) (n := 1) S hK (bl_P hP [0, 1, 8] rfl) (bl_D hD [0, 1, 8] rfl rfl) (c_X4_listed l E ag ah az ak i0 r f (xs (i + 1)) hR) gV_L_18 (by decide +kernel) rfl ⟨rfl, rfl⟩ ⟨Nat.le_of_ble_eq_true rfl, Nat.le_of_ble_eq_true rfl⟩ (ci := 4) (q0 := 0) rfl rfl hl.1 (Nat.le_of_ble_eq_true rfl) dL_law_247 ⟨hcc, hss⟩) hP hD hS [0, 1, 8] rfl (had_cons rfl (had_cons hw_ad (had_cons cell_ad rfl))) (Bs' := [[gObj ag ah az ak i0], hillsW E ah (rowR r (rListed r (xs (i + 1)))), hillsW E az x, hillsW E ak k, shO E ag z u, shN E ag y, [rdO ag (nI len) (nI ys) (nI yb) (nI ye) (nI yv)], [(ag 3, .inl (E.2.2.1, 120, .inl (sg tb 120)))], [(ag 4, .inl (E.2.1, 7, .inl (sg (fndC f (rListed r (xs (i + 1)))) 7)))], [mObj am q], [(am 1, .inl (E.2.1, 77, .inl (sg r2 77)))], [(am 2, .inl (E.2.1, 77, .inl (sg k2 77)))], [(am 3, .inl (E.2.1, 77, .inl (sg x2 77)))], [(am 4, .inl (E.2.1, 8, .inl (sg f2 8)))], [(am 5, .inl (E.2.1, 120, .inl (sg tp 120)))], [(am 6, .inl (E.2.2.2.2.2, 7, .inr (.inr (.inr (.inr (fun j => some (aS (12 + j))))))))], [(am 7, .inl (E.2.1, 480, .inl (sg it 480)))], [(am 8, .inl (E.2.1, 4, .inl (sg z 4)))], [(am 9, .inl (E.2.1, 4, .inl (sg u 4)))], [(am 10, .inl (E.2.1, 160, .inl (sg y 160)))], [(am 11, .inl (E.2.1, 40, .inl (sg mv 40)))]]) rfl (fun H locs hP hD hS => ?_)
  refine lv_aload_n S.1 S.2.1 dL_law_250 rfl (lv_at hl 2 rfl) ?_
  refine lv_aload_n S.1 S.2.1 dL_law_251 rfl (lv_at hl 0 rfl) ?_
  refine lv_iload_n S.1 S.2.1 dL_law_252 rfl (lv_at hl 3 rfl) ?_
  refine lv_iconst (v := 1) S.1 S.2.1 dL_law_253 (by decide) ?_
  refine lv_iadd S.1 S.2.1 dL_law_254 ?_
  refine lv_eqi (y := nI (i + 1)) (nI_add i 1) ?_
  refine b_sld (j := i + 1) S.1 S.2.1 hXs hbl hbA hS (by omega) (by omega) dL_law_255 ?_
  refine go_I (run_V (As := [.int (xs (i + 1))]) (rest := [.int (ansR (rListed r (xs (i + 1))))]) (n := 1) S hK (bl_P hP [9, 10, 13] rfl) (bl_D hD [9, 10, 13] rfl rfl) (c_X5_listed l E am q r2 f2 (xs (i + 1)) hR2) gV_L_22 (by decide +kernel) rfl ⟨rfl, rfl⟩ ⟨Nat.le_of_ble_eq_true rfl, Nat.le_of_ble_eq_true rfl⟩ (ci := 5) (q0 := 0) rfl rfl hl.1 (Nat.le_of_ble_eq_true rfl) dL_law_256 ⟨hcc, hss⟩) hP hD hS [9, 10, 13] rfl (had_cons rfl (had_cons cell_ad (had_cons cell_ad rfl))) (Bs' := [[gObj ag ah az ak i0], hillsW E ah (rowR r (rListed r (xs (i + 1)))), hillsW E az x, hillsW E ak k, shO E ag z u, shN E ag y, [rdO ag (nI len) (nI ys) (nI yb) (nI ye) (nI yv)], [(ag 3, .inl (E.2.2.1, 120, .inl (sg tb 120)))], [(ag 4, .inl (E.2.1, 7, .inl (sg (fndC f (rListed r (xs (i + 1)))) 7)))], [mObj am q], [(am 1, .inl (E.2.1, 77, .inl (sg (rowR r2 (rListed r2 (xs (i + 1)))) 77)))], [(am 2, .inl (E.2.1, 77, .inl (sg k2 77)))], [(am 3, .inl (E.2.1, 77, .inl (sg x2 77)))], [(am 4, .inl (E.2.1, 8, .inl (sg (fndM f2 (rListed r2 (xs (i + 1)))) 8)))], [(am 5, .inl (E.2.1, 120, .inl (sg tp 120)))], [(am 6, .inl (E.2.2.2.2.2, 7, .inr (.inr (.inr (.inr (fun j => some (aS (12 + j))))))))], [(am 7, .inl (E.2.1, 480, .inl (sg it 480)))], [(am 8, .inl (E.2.1, 4, .inl (sg z 4)))], [(am 9, .inl (E.2.1, 4, .inl (sg u 4)))], [(am 10, .inl (E.2.1, 160, .inl (sg y 160)))], [(am 11, .inl (E.2.1, 40, .inl (sg mv 40)))]]) rfl (fun H locs hP hD hS => ?_)
  refine lv_icmp_eq (tgt := 1399) S.1 S.2.1 dL_law_259 (by decide) (fun _ => ?_) (fun h => absurd (RR_ans (rr_listed hev hR (xs (i + 1))).1) h)
  exact kk i0 (rowR r (rListed r (xs (i + 1)))) x k z u y tb (fndC f (rListed r (xs (i + 1)))) len (yb, ye, ys, yv) q (rowR r2 (rListed r2 (xs (i + 1)))) k2 x2 (fndM f2 (rListed r2 (xs (i + 1)))) tp it mv H locs ls (inv_row hI (rr_listed hev hR (xs (i + 1)))) hP hD hS (lv_sub hl [0, 1, 2, 3] rfl)
set_option maxHeartbeats 1600000 in
set_option maxRecDepth 100000 in
theorem law_2 (S : CallFix p m c code 4 s #[Value.ref b] (c0 :: GW) RL) (hK : KE E s) (hX : EX aS A s s.heap) (hXs : va_X b L xs s s.heap) (hbl : b < s.heap.size) (hbA : ¬ A b) (hcc : cells ≤ room_1.cells) (hss : slots ≤ room_1.slots) (hL : L ≤ 3072) (i0 : Int32) (r x k z u y tb f : Row) (len : Nat) (Y : Ys) (q r2 k2 x2 f2 tp it mv : Row) (hI : Inv i0 r k u tb f len q r2 k2 f2 tp) (hP : PE E (LW E aS ag ah az ak am i0 r x k z u y tb f len Y q r2 k2 x2 f2 tp it mv) H) (hD : DE A (LW E aS ag ah az ak am i0 r x k z u y tb f len Y q r2 k2 x2 f2 tp it mv)) (hS : va_S A s.heap H locs) {i : Nat} (hi : i + 6 ≤ L) {ls : Array Slot} (hl : lv_has ls 4 [(0, .ref b), (1, .ref (ag 0)), (2, .ref (am 0)), (3, .int (nI i))]) (kk : KK p l e s m below meth c b E aS ag ah az ak am A cells slots Q i) : W p l e room_1 s m #[Value.ref b] below meth c H locs cells slots Q (F0 m 264 ls []) := by
  obtain ⟨yb, ye, ys, yv⟩ := Y
  have hev := hI.1
  have hR := hI.2.1
  have hR2 := RI_ev hev hR
  have hRk := hI.2.2.1
  have hU := hI.2.2.2.2.2.1
  have hl9 := hI.2.2.2.2.2.2.1
  have hq3 := hI.2.2.2.2.2.2.2.1
  have hT := hI.2.2.2.2.2.2.2.2.1
  have hP : PE E [[gObj ag ah az ak i0], hillsW E ah r, hillsW E az x, hillsW E ak k, shO E ag z u, shN E ag y, [rdO ag (nI len) (nI ys) (nI yb) (nI ye) (nI yv)], [(ag 3, .inl (E.2.2.1, 120, .inl (sg tb 120)))], [(ag 4, .inl (E.2.1, 7, .inl (sg f 7)))], [mObj am q], [(am 1, .inl (E.2.1, 77, .inl (sg r2 77)))], [(am 2, .inl (E.2.1, 77, .inl (sg k2 77)))], [(am 3, .inl (E.2.1, 77, .inl (sg x2 77)))], [(am 4, .inl (E.2.1, 8, .inl (sg f2 8)))], [(am 5, .inl (E.2.1, 120, .inl (sg tp 120)))], [(am 6, .inl (E.2.2.2.2.2, 7, .inr (.inr (.inr (.inr (fun j => some (aS (12 + j))))))))], [(am 7, .inl (E.2.1, 480, .inl (sg it 480)))], [(am 8, .inl (E.2.1, 4, .inl (sg z 4)))], [(am 9, .inl (E.2.1, 4, .inl (sg u 4)))], [(am 10, .inl (E.2.1, 160, .inl (sg y 160)))], [(am 11, .inl (E.2.1, 40, .inl (sg mv 40)))]] H := hP
  have hD : DE A [[gObj ag ah az ak i0], hillsW E ah r, hillsW E az x, hillsW E ak k, shO E ag z u, shN E ag y, [rdO ag (nI len) (nI ys) (nI yb) (nI ye) (nI yv)], [(ag 3, .inl (E.2.2.1, 120, .inl (sg tb 120)))], [(ag 4, .inl (E.2.1, 7, .inl (sg f 7)))], [mObj am q], [(am 1, .inl (E.2.1, 77, .inl (sg r2 77)))], [(am 2, .inl (E.2.1, 77, .inl (sg k2 77)))], [(am 3, .inl (E.2.1, 77, .inl (sg x2 77)))], [(am 4, .inl (E.2.1, 8, .inl (sg f2 8)))], [(am 5, .inl (E.2.1, 120, .inl (sg tp 120)))], [(am 6, .inl (E.2.2.2.2.2, 7, .inr (.inr (.inr (.inr (fun j => some (aS (12 + j))))))))], [(am 7, .inl (E.2.1, 480, .inl (sg it 480)))], [(am 8, .inl (E.2.1, 4, .inl (sg z 4)))], [(am 9, .inl (E.2.1, 4, .inl (sg u 4)))], [(am 10, .inl (E.2.1, 160, .inl (sg y 160)))], [(am 11, .inl (E.2.1, 40, .inl (sg mv 40)))]] := hD
  refine lv_aload_n S.1 S.2.1 dL_law_264 rfl (lv_at hl 1 rfl) ?_
  refine lv_aload_n S.1 S.2.1 dL_law_265 rfl (lv_at hl 0 rfl) ?_
  refine lv_iload_n S.1 S.2.1 dL_law_266 rfl (lv_at hl 3 rfl) ?_
  refine lv_iconst (v := 1) S.1 S.2.1 dL_law_267 (by decide) ?_
  refine lv_iadd S.1 S.2.1 dL_law_268 ?_
  refine lv_eqi (y := nI (i + 1)) (nI_add i 1) ?_
  refine b_sld (j := i + 1) S.1 S.2.1 hXs hbl hbA hS (by omega) (by omega) dL_law_269 ?_
  refine go_I (run_V (As := [.int (xs (i + 1))]) (rest := []) (n := 1) S hK (bl_P hP [0, 1, 8] rfl) (bl_D hD [0, 1, 8] rfl rfl) (c_X4_onions l E ag ah az ak i0 r f (xs (i + 1)) hR) gV_L_23 (by decide +kernel) rfl ⟨rfl, rfl⟩ ⟨Nat.le_of_ble_eq_true rfl, Nat.le_of_ble_eq_true rfl⟩ (ci := 4) (q0 := 0) rfl rfl hl.1 (Nat.le_of_ble_eq_true rfl) dL_law_270 ⟨hcc, hss⟩) hP hD hS [0, 1, 8] rfl (had_cons rfl (had_cons hw_ad (had_cons cell_ad rfl))) (Bs' := [[gObj ag ah az ak i0], hillsW E ah (rowR r (rOnions r (xs (i + 1)))), hillsW E az x, hillsW E ak k, shO E ag z u, shN E ag y, [rdO ag (nI len) (nI ys) (nI yb) (nI ye) (nI yv)], [(ag 3, .inl (E.2.2.1, 120, .inl (sg tb 120)))], [(ag 4, .inl (E.2.1, 7, .inl (sg (fndC f (rOnions r (xs (i + 1)))) 7)))], [mObj am q], [(am 1, .inl (E.2.1, 77, .inl (sg r2 77)))], [(am 2, .inl (E.2.1, 77, .inl (sg k2 77)))], [(am 3, .inl (E.2.1, 77, .inl (sg x2 77)))], [(am 4, .inl (E.2.1, 8, .inl (sg f2 8)))], [(am 5, .inl (E.2.1, 120, .inl (sg tp 120)))], [(am 6, .inl (E.2.2.2.2.2, 7, .inr (.inr (.inr (.inr (fun j => some (aS (12 + j))))))))], [(am 7, .inl (E.2.1, 480, .inl (sg it 480)))], [(am 8, .inl (E.2.1, 4, .inl (sg z 4)))], [(am 9, .inl (E.2.1, 4, .inl (sg u 4)))], [(am 10, .inl (E.2.1, 160, .inl (sg y 160)))], [(am 11, .inl (E.2.1, 40, .inl (sg mv 40)))]]) rfl (fun H locs hP hD hS => ?_)
  refine lv_aload_n S.1 S.2.1 dL_law_273 rfl (lv_at hl 2 rfl) ?_
  refine lv_aload_n S.1 S.2.1 dL_law_274 rfl (lv_at hl 0 rfl) ?_
  refine lv_iload_n S.1 S.2.1 dL_law_275 rfl (lv_at hl 3 rfl) ?_
  refine lv_iconst (v := 1) S.1 S.2.1 dL_law_276 (by decide) ?_
  refine lv_iadd S.1 S.2.1 dL_law_277 ?_
  refine lv_eqi (y := nI (i + 1)) (nI_add i 1) ?_
  refine b_sld (j := i + 1) S.1 S.2.1 hXs hbl hbA hS (by omega) (by omega) dL_law_278 ?_
  refine go_I (run_V (As := [.int (xs (i + 1))]) (rest := [.int (ansR (rOnions r (xs (i + 1))))]) (n := 1) S hK (bl_P hP [9, 10, 13] rfl) (bl_D hD [9, 10, 13] rfl rfl) (c_X5_onions l E am q r2 f2 (xs (i + 1)) hR2) gV_L_26 (by decide +kernel) rfl ⟨rfl, rfl⟩ ⟨Nat.le_of_ble_eq_true rfl, Nat.le_of_ble_eq_true rfl⟩ (ci := 5) (q0 := 0) rfl rfl hl.1 (Nat.le_of_ble_eq_true rfl) dL_law_279 ⟨hcc, hss⟩) hP hD hS [9, 10, 13] rfl (had_cons rfl (had_cons cell_ad (had_cons cell_ad rfl))) (Bs' := [[gObj ag ah az ak i0], hillsW E ah (rowR r (rOnions r (xs (i + 1)))), hillsW E az x, hillsW E ak k, shO E ag z u, shN E ag y, [rdO ag (nI len) (nI ys) (nI yb) (nI ye) (nI yv)], [(ag 3, .inl (E.2.2.1, 120, .inl (sg tb 120)))], [(ag 4, .inl (E.2.1, 7, .inl (sg (fndC f (rOnions r (xs (i + 1)))) 7)))], [mObj am q], [(am 1, .inl (E.2.1, 77, .inl (sg (rowR r2 (rOnions r2 (xs (i + 1)))) 77)))], [(am 2, .inl (E.2.1, 77, .inl (sg k2 77)))], [(am 3, .inl (E.2.1, 77, .inl (sg x2 77)))], [(am 4, .inl (E.2.1, 8, .inl (sg (fndM f2 (rOnions r2 (xs (i + 1)))) 8)))], [(am 5, .inl (E.2.1, 120, .inl (sg tp 120)))], [(am 6, .inl (E.2.2.2.2.2, 7, .inr (.inr (.inr (.inr (fun j => some (aS (12 + j))))))))], [(am 7, .inl (E.2.1, 480, .inl (sg it 480)))], [(am 8, .inl (E.2.1, 4, .inl (sg z 4)))], [(am 9, .inl (E.2.1, 4, .inl (sg u 4)))], [(am 10, .inl (E.2.1, 160, .inl (sg y 160)))], [(am 11, .inl (E.2.1, 40, .inl (sg mv 40)))]]) rfl (fun H locs hP hD hS => ?_)
  refine lv_icmp_eq (tgt := 1399) S.1 S.2.1 dL_law_282 (by decide) (fun _ => ?_) (fun h => absurd (RR_ans (rr_onions hev hR (xs (i + 1))).1) h)
  exact kk i0 (rowR r (rOnions r (xs (i + 1)))) x k z u y tb (fndC f (rOnions r (xs (i + 1)))) len (yb, ye, ys, yv) q (rowR r2 (rOnions r2 (xs (i + 1)))) k2 x2 (fndM f2 (rOnions r2 (xs (i + 1)))) tp it mv H locs ls (inv_row hI (rr_onions hev hR (xs (i + 1)))) hP hD hS (lv_sub hl [0, 1, 2, 3] rfl)
set_option maxHeartbeats 1600000 in
set_option maxRecDepth 100000 in
theorem law_3 (S : CallFix p m c code 4 s #[Value.ref b] (c0 :: GW) RL) (hK : KE E s) (hX : EX aS A s s.heap) (hXs : va_X b L xs s s.heap) (hbl : b < s.heap.size) (hbA : ¬ A b) (hcc : cells ≤ room_1.cells) (hss : slots ≤ room_1.slots) (hL : L ≤ 3072) (i0 : Int32) (r x k z u y tb f : Row) (len : Nat) (Y : Ys) (q r2 k2 x2 f2 tp it mv : Row) (hI : Inv i0 r k u tb f len q r2 k2 f2 tp) (hP : PE E (LW E aS ag ah az ak am i0 r x k z u y tb f len Y q r2 k2 x2 f2 tp it mv) H) (hD : DE A (LW E aS ag ah az ak am i0 r x k z u y tb f len Y q r2 k2 x2 f2 tp it mv)) (hS : va_S A s.heap H locs) {i : Nat} (hi : i + 6 ≤ L) {ls : Array Slot} (hl : lv_has ls 4 [(0, .ref b), (1, .ref (ag 0)), (2, .ref (am 0)), (3, .int (nI i))]) (kk : KK p l e s m below meth c b E aS ag ah az ak am A cells slots Q i) : W p l e room_1 s m #[Value.ref b] below meth c H locs cells slots Q (F0 m 287 ls []) := by
  obtain ⟨yb, ye, ys, yv⟩ := Y
  have hev := hI.1
  have hR := hI.2.1
  have hR2 := RI_ev hev hR
  have hRk := hI.2.2.1
  have hU := hI.2.2.2.2.2.1
  have hl9 := hI.2.2.2.2.2.2.1
  have hq3 := hI.2.2.2.2.2.2.2.1
  have hT := hI.2.2.2.2.2.2.2.2.1
  have hP : PE E [[gObj ag ah az ak i0], hillsW E ah r, hillsW E az x, hillsW E ak k, shO E ag z u, shN E ag y, [rdO ag (nI len) (nI ys) (nI yb) (nI ye) (nI yv)], [(ag 3, .inl (E.2.2.1, 120, .inl (sg tb 120)))], [(ag 4, .inl (E.2.1, 7, .inl (sg f 7)))], [mObj am q], [(am 1, .inl (E.2.1, 77, .inl (sg r2 77)))], [(am 2, .inl (E.2.1, 77, .inl (sg k2 77)))], [(am 3, .inl (E.2.1, 77, .inl (sg x2 77)))], [(am 4, .inl (E.2.1, 8, .inl (sg f2 8)))], [(am 5, .inl (E.2.1, 120, .inl (sg tp 120)))], [(am 6, .inl (E.2.2.2.2.2, 7, .inr (.inr (.inr (.inr (fun j => some (aS (12 + j))))))))], [(am 7, .inl (E.2.1, 480, .inl (sg it 480)))], [(am 8, .inl (E.2.1, 4, .inl (sg z 4)))], [(am 9, .inl (E.2.1, 4, .inl (sg u 4)))], [(am 10, .inl (E.2.1, 160, .inl (sg y 160)))], [(am 11, .inl (E.2.1, 40, .inl (sg mv 40)))]] H := hP
  have hD : DE A [[gObj ag ah az ak i0], hillsW E ah r, hillsW E az x, hillsW E ak k, shO E ag z u, shN E ag y, [rdO ag (nI len) (nI ys) (nI yb) (nI ye) (nI yv)], [(ag 3, .inl (E.2.2.1, 120, .inl (sg tb 120)))], [(ag 4, .inl (E.2.1, 7, .inl (sg f 7)))], [mObj am q], [(am 1, .inl (E.2.1, 77, .inl (sg r2 77)))], [(am 2, .inl (E.2.1, 77, .inl (sg k2 77)))], [(am 3, .inl (E.2.1, 77, .inl (sg x2 77)))], [(am 4, .inl (E.2.1, 8, .inl (sg f2 8)))], [(am 5, .inl (E.2.1, 120, .inl (sg tp 120)))], [(am 6, .inl (E.2.2.2.2.2, 7, .inr (.inr (.inr (.inr (fun j => some (aS (12 + j))))))))], [(am 7, .inl (E.2.1, 480, .inl (sg it 480)))], [(am 8, .inl (E.2.1, 4, .inl (sg z 4)))], [(am 9, .inl (E.2.1, 4, .inl (sg u 4)))], [(am 10, .inl (E.2.1, 160, .inl (sg y 160)))], [(am 11, .inl (E.2.1, 40, .inl (sg mv 40)))]] := hD
  refine lv_aload_n S.1 S.2.1 dL_law_287 rfl (lv_at hl 1 rfl) ?_
  refine lv_aload_n S.1 S.2.1 dL_law_288 rfl (lv_at hl 0 rfl) ?_
  refine lv_iload_n S.1 S.2.1 dL_law_289 rfl (lv_at hl 3 rfl) ?_
  refine lv_iconst (v := 1) S.1 S.2.1 dL_law_290 (by decide) ?_
  refine lv_iadd S.1 S.2.1 dL_law_291 ?_
  refine lv_eqi (y := nI (i + 1)) (nI_add i 1) ?_
  refine b_sld (j := i + 1) S.1 S.2.1 hXs hbl hbA hS (by omega) (by omega) dL_law_292 ?_
  refine lv_aload_n S.1 S.2.1 dL_law_293 rfl (lv_at hl 0 rfl) ?_
  refine lv_iload_n S.1 S.2.1 dL_law_294 rfl (lv_at hl 3 rfl) ?_
  refine lv_iconst (v := 2) S.1 S.2.1 dL_law_295 (by decide) ?_
  refine lv_iadd S.1 S.2.1 dL_law_296 ?_
  refine lv_eqi (y := nI (i + 2)) (nI_add i 2) ?_
  refine b_sld (j := i + 2) S.1 S.2.1 hXs hbl hbA hS (by omega) (by omega) dL_law_297 ?_
  refine go_I (run_V (As := [.int (xs (i + 1)), .int (xs (i + 2))]) (rest := []) (n := 2) S hK (bl_P hP [0, 1, 8] rfl) (bl_D hD [0, 1, 8] rfl rfl) (c_X4_potter l E ag ah az ak i0 r f (xs (i + 1)) (xs (i + 2)) hR) gV_L_27 (by decide +kernel) rfl ⟨rfl, rfl⟩ ⟨Nat.le_of_ble_eq_true rfl, Nat.le_of_ble_eq_true rfl⟩ (ci := 4) (q0 := 0) rfl rfl hl.1 (Nat.le_of_ble_eq_true rfl) dL_law_298 ⟨hcc, hss⟩) hP hD hS [0, 1, 8] rfl (had_cons rfl (had_cons hw_ad (had_cons cell_ad rfl))) (Bs' := [[gObj ag ah az ak i0], hillsW E ah (rowR r (rPotter r (xs (i + 1)) (xs (i + 2)))), hillsW E az x, hillsW E ak k, shO E ag z u, shN E ag y, [rdO ag (nI len) (nI ys) (nI yb) (nI ye) (nI yv)], [(ag 3, .inl (E.2.2.1, 120, .inl (sg tb 120)))], [(ag 4, .inl (E.2.1, 7, .inl (sg (fndC f (rPotter r (xs (i + 1)) (xs (i + 2)))) 7)))], [mObj am q], [(am 1, .inl (E.2.1, 77, .inl (sg r2 77)))], [(am 2, .inl (E.2.1, 77, .inl (sg k2 77)))], [(am 3, .inl (E.2.1, 77, .inl (sg x2 77)))], [(am 4, .inl (E.2.1, 8, .inl (sg f2 8)))], [(am 5, .inl (E.2.1, 120, .inl (sg tp 120)))], [(am 6, .inl (E.2.2.2.2.2, 7, .inr (.inr (.inr (.inr (fun j => some (aS (12 + j))))))))], [(am 7, .inl (E.2.1, 480, .inl (sg it 480)))], [(am 8, .inl (E.2.1, 4, .inl (sg z 4)))], [(am 9, .inl (E.2.1, 4, .inl (sg u 4)))], [(am 10, .inl (E.2.1, 160, .inl (sg y 160)))], [(am 11, .inl (E.2.1, 40, .inl (sg mv 40)))]]) rfl (fun H locs hP hD hS => ?_)
  refine lv_aload_n S.1 S.2.1 dL_law_301 rfl (lv_at hl 2 rfl) ?_
  refine lv_aload_n S.1 S.2.1 dL_law_302 rfl (lv_at hl 0 rfl) ?_
  refine lv_iload_n S.1 S.2.1 dL_law_303 rfl (lv_at hl 3 rfl) ?_
  refine lv_iconst (v := 1) S.1 S.2.1 dL_law_304 (by decide) ?_
  refine lv_iadd S.1 S.2.1 dL_law_305 ?_
  refine lv_eqi (y := nI (i + 1)) (nI_add i 1) ?_
  refine b_sld (j := i + 1) S.1 S.2.1 hXs hbl hbA hS (by omega) (by omega) dL_law_306 ?_
  refine lv_aload_n S.1 S.2.1 dL_law_307 rfl (lv_at hl 0 rfl) ?_
  refine lv_iload_n S.1 S.2.1 dL_law_308 rfl (lv_at hl 3 rfl) ?_
  refine lv_iconst (v := 2) S.1 S.2.1 dL_law_309 (by decide) ?_
  refine lv_iadd S.1 S.2.1 dL_law_310 ?_
  refine lv_eqi (y := nI (i + 2)) (nI_add i 2) ?_
  refine b_sld (j := i + 2) S.1 S.2.1 hXs hbl hbA hS (by omega) (by omega) dL_law_311 ?_
  refine go_I (run_V (As := [.int (xs (i + 1)), .int (xs (i + 2))]) (rest := [.int (ansR (rPotter r (xs (i + 1)) (xs (i + 2))))]) (n := 2) S hK (bl_P hP [9, 10, 13] rfl) (bl_D hD [9, 10, 13] rfl rfl) (c_X5_potter l E am q r2 f2 (xs (i + 1)) (xs (i + 2)) hR2) gV_L_30 (by decide +kernel) rfl ⟨rfl, rfl⟩ ⟨Nat.le_of_ble_eq_true rfl, Nat.le_of_ble_eq_true rfl⟩ (ci := 5) (q0 := 0) rfl rfl hl.1 (Nat.le_of_ble_eq_true rfl) dL_law_312 ⟨hcc, hss⟩) hP hD hS [9, 10, 13] rfl (had_cons rfl (had_cons cell_ad (had_cons cell_ad rfl))) (Bs' := [[gObj ag ah az ak i0], hillsW E ah (rowR r (rPotter r (xs (i + 1)) (xs (i + 2)))), hillsW E az x, hillsW E ak k, shO E ag z u, shN E ag y, [rdO ag (nI len) (nI ys) (nI yb) (nI ye) (nI yv)], [(ag 3, .inl (E.2.2.1, 120, .inl (sg tb 120)))], [(ag 4, .inl (E.2.1, 7, .inl (sg (fndC f (rPotter r (xs (i + 1)) (xs (i + 2)))) 7)))], [mObj am q], [(am 1, .inl (E.2.1, 77, .inl (sg (rowR r2 (rPotter r2 (xs (i + 1)) (xs (i + 2)))) 77)))], [(am 2, .inl (E.2.1, 77, .inl (sg k2 77)))], [(am 3, .inl (E.2.1, 77, .inl (sg x2 77)))], [(am 4, .inl (E.2.1, 8, .inl (sg (fndM f2 (rPotter r2 (xs (i + 1)) (xs (i + 2)))) 8)))], [(am 5, .inl (E.2.1, 120, .inl (sg tp 120)))], [(am 6, .inl (E.2.2.2.2.2, 7, .inr (.inr (.inr (.inr (fun j => some (aS (12 + j))))))))], [(am 7, .inl (E.2.1, 480, .inl (sg it 480)))], [(am 8, .inl (E.2.1, 4, .inl (sg z 4)))], [(am 9, .inl (E.2.1, 4, .inl (sg u 4)))], [(am 10, .inl (E.2.1, 160, .inl (sg y 160)))], [(am 11, .inl (E.2.1, 40, .inl (sg mv 40)))]]) rfl (fun H locs hP hD hS => ?_)
  refine lv_icmp_eq (tgt := 1399) S.1 S.2.1 dL_law_315 (by decide) (fun _ => ?_) (fun h => absurd (RR_ans (rr_potter hev hR (xs (i + 1)) (xs (i + 2))).1) h)
  exact kk i0 (rowR r (rPotter r (xs (i + 1)) (xs (i + 2)))) x k z u y tb (fndC f (rPotter r (xs (i + 1)) (xs (i + 2)))) len (yb, ye, ys, yv) q (rowR r2 (rPotter r2 (xs (i + 1)) (xs (i + 2)))) k2 x2 (fndM f2 (rPotter r2 (xs (i + 1)) (xs (i + 2)))) tp it mv H locs ls (inv_row hI (rr_potter hev hR (xs (i + 1)) (xs (i + 2)))) hP hD hS (lv_sub hl [0, 1, 2, 3] rfl)
set_option maxHeartbeats 1600000 in
set_option maxRecDepth 100000 in
theorem law_4 (S : CallFix p m c code 4 s #[Value.ref b] (c0 :: GW) RL) (hK : KE E s) (hX : EX aS A s s.heap) (hXs : va_X b L xs s s.heap) (hbl : b < s.heap.size) (hbA : ¬ A b) (hcc : cells ≤ room_1.cells) (hss : slots ≤ room_1.slots) (hL : L ≤ 3072) (i0 : Int32) (r x k z u y tb f : Row) (len : Nat) (Y : Ys) (q r2 k2 x2 f2 tp it mv : Row) (hI : Inv i0 r k u tb f len q r2 k2 f2 tp) (hP : PE E (LW E aS ag ah az ak am i0 r x k z u y tb f len Y q r2 k2 x2 f2 tp it mv) H) (hD : DE A (LW E aS ag ah az ak am i0 r x k z u y tb f len Y q r2 k2 x2 f2 tp it mv)) (hS : va_S A s.heap H locs) {i : Nat} (hi : i + 6 ≤ L) {ls : Array Slot} (hl : lv_has ls 4 [(0, .ref b), (1, .ref (ag 0)), (2, .ref (am 0)), (3, .int (nI i))]) (kk : KK p l e s m below meth c b E aS ag ah az ak am A cells slots Q i) : W p l e room_1 s m #[Value.ref b] below meth c H locs cells slots Q (F0 m 320 ls []) := by
  obtain ⟨yb, ye, ys, yv⟩ := Y
  have hev := hI.1
  have hR := hI.2.1
  have hR2 := RI_ev hev hR
  have hRk := hI.2.2.1
  have hU := hI.2.2.2.2.2.1
  have hl9 := hI.2.2.2.2.2.2.1
  have hq3 := hI.2.2.2.2.2.2.2.1
  have hT := hI.2.2.2.2.2.2.2.2.1
  have hP : PE E [[gObj ag ah az ak i0], hillsW E ah r, hillsW E az x, hillsW E ak k, shO E ag z u, shN E ag y, [rdO ag (nI len) (nI ys) (nI yb) (nI ye) (nI yv)], [(ag 3, .inl (E.2.2.1, 120, .inl (sg tb 120)))], [(ag 4, .inl (E.2.1, 7, .inl (sg f 7)))], [mObj am q], [(am 1, .inl (E.2.1, 77, .inl (sg r2 77)))], [(am 2, .inl (E.2.1, 77, .inl (sg k2 77)))], [(am 3, .inl (E.2.1, 77, .inl (sg x2 77)))], [(am 4, .inl (E.2.1, 8, .inl (sg f2 8)))], [(am 5, .inl (E.2.1, 120, .inl (sg tp 120)))], [(am 6, .inl (E.2.2.2.2.2, 7, .inr (.inr (.inr (.inr (fun j => some (aS (12 + j))))))))], [(am 7, .inl (E.2.1, 480, .inl (sg it 480)))], [(am 8, .inl (E.2.1, 4, .inl (sg z 4)))], [(am 9, .inl (E.2.1, 4, .inl (sg u 4)))], [(am 10, .inl (E.2.1, 160, .inl (sg y 160)))], [(am 11, .inl (E.2.1, 40, .inl (sg mv 40)))]] H := hP
  have hD : DE A [[gObj ag ah az ak i0], hillsW E ah r, hillsW E az x, hillsW E ak k, shO E ag z u, shN E ag y, [rdO ag (nI len) (nI ys) (nI yb) (nI ye) (nI yv)], [(ag 3, .inl (E.2.2.1, 120, .inl (sg tb 120)))], [(ag 4, .inl (E.2.1, 7, .inl (sg f 7)))], [mObj am q], [(am 1, .inl (E.2.1, 77, .inl (sg r2 77)))], [(am 2, .inl (E.2.1, 77, .inl (sg k2 77)))], [(am 3, .inl (E.2.1, 77, .inl (sg x2 77)))], [(am 4, .inl (E.2.1, 8, .inl (sg f2 8)))], [(am 5, .inl (E.2.1, 120, .inl (sg tp 120)))], [(am 6, .inl (E.2.2.2.2.2, 7, .inr (.inr (.inr (.inr (fun j => some (aS (12 + j))))))))], [(am 7, .inl (E.2.1, 480, .inl (sg it 480)))], [(am 8, .inl (E.2.1, 4, .inl (sg z 4)))], [(am 9, .inl (E.2.1, 4, .inl (sg u 4)))], [(am 10, .inl (E.2.1, 160, .inl (sg y 160)))], [(am 11, .inl (E.2.1, 40, .inl (sg mv 40)))]] := hD
  refine lv_aload_n S.1 S.2.1 dL_law_320 rfl (lv_at hl 1 rfl) ?_
  refine lv_aload_n S.1 S.2.1 dL_law_321 rfl (lv_at hl 0 rfl) ?_
  refine lv_iload_n S.1 S.2.1 dL_law_322 rfl (lv_at hl 3 rfl) ?_
  refine lv_iconst (v := 1) S.1 S.2.1 dL_law_323 (by decide) ?_
  refine lv_iadd S.1 S.2.1 dL_law_324 ?_
  refine lv_eqi (y := nI (i + 1)) (nI_add i 1) ?_
  refine b_sld (j := i + 1) S.1 S.2.1 hXs hbl hbA hS (by omega) (by omega) dL_law_325 ?_
  refine lv_aload_n S.1 S.2.1 dL_law_326 rfl (lv_at hl 0 rfl) ?_
  refine lv_iload_n S.1 S.2.1 dL_law_327 rfl (lv_at hl 3 rfl) ?_
  refine lv_iconst (v := 2) S.1 S.2.1 dL_law_328 (by decide) ?_
  refine lv_iadd S.1 S.2.1 dL_law_329 ?_
  refine lv_eqi (y := nI (i + 2)) (nI_add i 2) ?_
  refine b_sld (j := i + 2) S.1 S.2.1 hXs hbl hbA hS (by omega) (by omega) dL_law_330 ?_
  refine go_I (run_V (As := [.int (xs (i + 1)), .int (xs (i + 2))]) (rest := []) (n := 2) S hK (bl_P hP [0, 1, 8] rfl) (bl_D hD [0, 1, 8] rfl rfl) (c_X4_of l E ag ah az ak i0 r f (xs (i + 1)) (xs (i + 2)) hR) gV_L_31 (by decide +kernel) rfl ⟨rfl, rfl⟩ ⟨Nat.le_of_ble_eq_true rfl, Nat.le_of_ble_eq_true rfl⟩ (ci := 4) (q0 := 0) rfl rfl hl.1 (Nat.le_of_ble_eq_true rfl) dL_law_331 ⟨hcc, hss⟩) hP hD hS [0, 1, 8] rfl (had_cons rfl (had_cons hw_ad (had_cons cell_ad rfl))) (Bs' := [[gObj ag ah az ak i0], hillsW E ah (rowR r (rOf r (xs (i + 1)) (xs (i + 2)))), hillsW E az x, hillsW E ak k, shO E ag z u, shN E ag y, [rdO ag (nI len) (nI ys) (nI yb) (nI ye) (nI yv)], [(ag 3, .inl (E.2.2.1, 120, .inl (sg tb 120)))], [(ag 4, .inl (E.2.1, 7, .inl (sg (fndC f (rOf r (xs (i + 1)) (xs (i + 2)))) 7)))], [mObj am q], [(am 1, .inl (E.2.1, 77, .inl (sg r2 77)))], [(am 2, .inl (E.2.1, 77, .inl (sg k2 77)))], [(am 3, .inl (E.2.1, 77, .inl (sg x2 77)))], [(am 4, .inl (E.2.1, 8, .inl (sg f2 8)))], [(am 5, .inl (E.2.1, 120, .inl (sg tp 120)))], [(am 6, .inl (E.2.2.2.2.2, 7, .inr (.inr (.inr (.inr (fun j => some (aS (12 + j))))))))], [(am 7, .inl (E.2.1, 480, .inl (sg it 480)))], [(am 8, .inl (E.2.1, 4, .inl (sg z 4)))], [(am 9, .inl (E.2.1, 4, .inl (sg u 4)))], [(am 10, .inl (E.2.1, 160, .inl (sg y 160)))], [(am 11, .inl (E.2.1, 40, .inl (sg mv 40)))]]) rfl (fun H locs hP hD hS => ?_)
  refine lv_aload_n S.1 S.2.1 dL_law_334 rfl (lv_at hl 2 rfl) ?_
  refine lv_aload_n S.1 S.2.1 dL_law_335 rfl (lv_at hl 0 rfl) ?_
  refine lv_iload_n S.1 S.2.1 dL_law_336 rfl (lv_at hl 3 rfl) ?_
  refine lv_iconst (v := 1) S.1 S.2.1 dL_law_337 (by decide) ?_
  refine lv_iadd S.1 S.2.1 dL_law_338 ?_
  refine lv_eqi (y := nI (i + 1)) (nI_add i 1) ?_
  refine b_sld (j := i + 1) S.1 S.2.1 hXs hbl hbA hS (by omega) (by omega) dL_law_339 ?_
  refine lv_aload_n S.1 S.2.1 dL_law_340 rfl (lv_at hl 0 rfl) ?_
  refine lv_iload_n S.1 S.2.1 dL_law_341 rfl (lv_at hl 3 rfl) ?_
  refine lv_iconst (v := 2) S.1 S.2.1 dL_law_342 (by decide) ?_
  refine lv_iadd S.1 S.2.1 dL_law_343 ?_
  refine lv_eqi (y := nI (i + 2)) (nI_add i 2) ?_
  refine b_sld (j := i + 2) S.1 S.2.1 hXs hbl hbA hS (by omega) (by omega) dL_law_344 ?_
  refine go_I (run_V (As := [.int (xs (i + 1)), .int (xs (i + 2))]) (rest := [.int (ansR (rOf r (xs (i + 1)) (xs (i + 2))))]) (n := 2) S hK (bl_P hP [9, 10, 13] rfl) (bl_D hD [9, 10, 13] rfl rfl) (c_X5_of l E am q r2 f2 (xs (i + 1)) (xs (i + 2)) hR2) gV_L_34 (by decide +kernel) rfl ⟨rfl, rfl⟩ ⟨Nat.le_of_ble_eq_true rfl, Nat.le_of_ble_eq_true rfl⟩ (ci := 5) (q0 := 0) rfl rfl hl.1 (Nat.le_of_ble_eq_true rfl) dL_law_345 ⟨hcc, hss⟩) hP hD hS [9, 10, 13] rfl (had_cons rfl (had_cons cell_ad (had_cons cell_ad rfl))) (Bs' := [[gObj ag ah az ak i0], hillsW E ah (rowR r (rOf r (xs (i + 1)) (xs (i + 2)))), hillsW E az x, hillsW E ak k, shO E ag z u, shN E ag y, [rdO ag (nI len) (nI ys) (nI yb) (nI ye) (nI yv)], [(ag 3, .inl (E.2.2.1, 120, .inl (sg tb 120)))], [(ag 4, .inl (E.2.1, 7, .inl (sg (fndC f (rOf r (xs (i + 1)) (xs (i + 2)))) 7)))], [mObj am q], [(am 1, .inl (E.2.1, 77, .inl (sg (rowR r2 (rOf r2 (xs (i + 1)) (xs (i + 2)))) 77)))], [(am 2, .inl (E.2.1, 77, .inl (sg k2 77)))], [(am 3, .inl (E.2.1, 77, .inl (sg x2 77)))], [(am 4, .inl (E.2.1, 8, .inl (sg (fndM f2 (rOf r2 (xs (i + 1)) (xs (i + 2)))) 8)))], [(am 5, .inl (E.2.1, 120, .inl (sg tp 120)))], [(am 6, .inl (E.2.2.2.2.2, 7, .inr (.inr (.inr (.inr (fun j => some (aS (12 + j))))))))], [(am 7, .inl (E.2.1, 480, .inl (sg it 480)))], [(am 8, .inl (E.2.1, 4, .inl (sg z 4)))], [(am 9, .inl (E.2.1, 4, .inl (sg u 4)))], [(am 10, .inl (E.2.1, 160, .inl (sg y 160)))], [(am 11, .inl (E.2.1, 40, .inl (sg mv 40)))]]) rfl (fun H locs hP hD hS => ?_)
  refine lv_icmp_eq (tgt := 1399) S.1 S.2.1 dL_law_348 (by decide) (fun _ => ?_) (fun h => absurd (RR_ans (rr_of hev hR (xs (i + 1)) (xs (i + 2))).1) h)
  exact kk i0 (rowR r (rOf r (xs (i + 1)) (xs (i + 2)))) x k z u y tb (fndC f (rOf r (xs (i + 1)) (xs (i + 2)))) len (yb, ye, ys, yv) q (rowR r2 (rOf r2 (xs (i + 1)) (xs (i + 2)))) k2 x2 (fndM f2 (rOf r2 (xs (i + 1)) (xs (i + 2)))) tp it mv H locs ls (inv_row hI (rr_of hev hR (xs (i + 1)) (xs (i + 2)))) hP hD hS (lv_sub hl [0, 1, 2, 3] rfl)
set_option maxHeartbeats 1600000 in
set_option maxRecDepth 100000 in
theorem law_5 (S : CallFix p m c code 4 s #[Value.ref b] (c0 :: GW) RL) (hK : KE E s) (hX : EX aS A s s.heap) (hXs : va_X b L xs s s.heap) (hbl : b < s.heap.size) (hbA : ¬ A b) (hcc : cells ≤ room_1.cells) (hss : slots ≤ room_1.slots) (hL : L ≤ 3072) (i0 : Int32) (r x k z u y tb f : Row) (len : Nat) (Y : Ys) (q r2 k2 x2 f2 tp it mv : Row) (hI : Inv i0 r k u tb f len q r2 k2 f2 tp) (hP : PE E (LW E aS ag ah az ak am i0 r x k z u y tb f len Y q r2 k2 x2 f2 tp it mv) H) (hD : DE A (LW E aS ag ah az ak am i0 r x k z u y tb f len Y q r2 k2 x2 f2 tp it mv)) (hS : va_S A s.heap H locs) {i : Nat} (hi : i + 6 ≤ L) {ls : Array Slot} (hl : lv_has ls 4 [(0, .ref b), (1, .ref (ag 0)), (2, .ref (am 0)), (3, .int (nI i))]) (kk : KK p l e s m below meth c b E aS ag ah az ak am A cells slots Q i) : W p l e room_1 s m #[Value.ref b] below meth c H locs cells slots Q (F0 m 353 ls []) := by
  obtain ⟨yb, ye, ys, yv⟩ := Y
  have hev := hI.1
  have hR := hI.2.1
  have hR2 := RI_ev hev hR
  have hRk := hI.2.2.1
  have hU := hI.2.2.2.2.2.1
  have hl9 := hI.2.2.2.2.2.2.1
  have hq3 := hI.2.2.2.2.2.2.2.1
  have hT := hI.2.2.2.2.2.2.2.2.1
  have hP : PE E [[gObj ag ah az ak i0], hillsW E ah r, hillsW E az x, hillsW E ak k, shO E ag z u, shN E ag y, [rdO ag (nI len) (nI ys) (nI yb) (nI ye) (nI yv)], [(ag 3, .inl (E.2.2.1, 120, .inl (sg tb 120)))], [(ag 4, .inl (E.2.1, 7, .inl (sg f 7)))], [mObj am q], [(am 1, .inl (E.2.1, 77, .inl (sg r2 77)))], [(am 2, .inl (E.2.1, 77, .inl (sg k2 77)))], [(am 3, .inl (E.2.1, 77, .inl (sg x2 77)))], [(am 4, .inl (E.2.1, 8, .inl (sg f2 8)))], [(am 5, .inl (E.2.1, 120, .inl (sg tp 120)))], [(am 6, .inl (E.2.2.2.2.2, 7, .inr (.inr (.inr (.inr (fun j => some (aS (12 + j))))))))], [(am 7, .inl (E.2.1, 480, .inl (sg it 480)))], [(am 8, .inl (E.2.1, 4, .inl (sg z 4)))], [(am 9, .inl (E.2.1, 4, .inl (sg u 4)))], [(am 10, .inl (E.2.1, 160, .inl (sg y 160)))], [(am 11, .inl (E.2.1, 40, .inl (sg mv 40)))]] H := hP
  have hD : DE A [[gObj ag ah az ak i0], hillsW E ah r, hillsW E az x, hillsW E ak k, shO E ag z u, shN E ag y, [rdO ag (nI len) (nI ys) (nI yb) (nI ye) (nI yv)], [(ag 3, .inl (E.2.2.1, 120, .inl (sg tb 120)))], [(ag 4, .inl (E.2.1, 7, .inl (sg f 7)))], [mObj am q], [(am 1, .inl (E.2.1, 77, .inl (sg r2 77)))], [(am 2, .inl (E.2.1, 77, .inl (sg k2 77)))], [(am 3, .inl (E.2.1, 77, .inl (sg x2 77)))], [(am 4, .inl (E.2.1, 8, .inl (sg f2 8)))], [(am 5, .inl (E.2.1, 120, .inl (sg tp 120)))], [(am 6, .inl (E.2.2.2.2.2, 7, .inr (.inr (.inr (.inr (fun j => some (aS (12 + j))))))))], [(am 7, .inl (E.2.1, 480, .inl (sg it 480)))], [(am 8, .inl (E.2.1, 4, .inl (sg z 4)))], [(am 9, .inl (E.2.1, 4, .inl (sg u 4)))], [(am 10, .inl (E.2.1, 160, .inl (sg y 160)))], [(am 11, .inl (E.2.1, 40, .inl (sg mv 40)))]] := hD
  refine lv_aload_n S.1 S.2.1 dL_law_353 rfl (lv_at hl 1 rfl) ?_
  refine lv_aload_n S.1 S.2.1 dL_law_354 rfl (lv_at hl 0 rfl) ?_
  refine lv_iload_n S.1 S.2.1 dL_law_355 rfl (lv_at hl 3 rfl) ?_
  refine lv_iconst (v := 1) S.1 S.2.1 dL_law_356 (by decide) ?_
  refine lv_iadd S.1 S.2.1 dL_law_357 ?_
  refine lv_eqi (y := nI (i + 1)) (nI_add i 1) ?_
  refine b_sld (j := i + 1) S.1 S.2.1 hXs hbl hbA hS (by omega) (by omega) dL_law_358 ?_
  refine lv_aload_n S.1 S.2.1 dL_law_359 rfl (lv_at hl 0 rfl) ?_
  refine lv_iload_n S.1 S.2.1 dL_law_360 rfl (lv_at hl 3 rfl) ?_
  refine lv_iconst (v := 2) S.1 S.2.1 dL_law_361 (by decide) ?_
  refine lv_iadd S.1 S.2.1 dL_law_362 ?_
  refine lv_eqi (y := nI (i + 2)) (nI_add i 2) ?_
  refine b_sld (j := i + 2) S.1 S.2.1 hXs hbl hbA hS (by omega) (by omega) dL_law_363 ?_
  refine lv_aload_n S.1 S.2.1 dL_law_364 rfl (lv_at hl 0 rfl) ?_
  refine lv_iload_n S.1 S.2.1 dL_law_365 rfl (lv_at hl 3 rfl) ?_
  refine lv_iconst (v := 3) S.1 S.2.1 dL_law_366 (by decide) ?_
  refine lv_iadd S.1 S.2.1 dL_law_367 ?_
  refine lv_eqi (y := nI (i + 3)) (nI_add i 3) ?_
  refine b_sld (j := i + 3) S.1 S.2.1 hXs hbl hbA hS (by omega) (by omega) dL_law_368 ?_
  refine go_I (run_V (As := [.int (xs (i + 1)), .int (xs (i + 2)), .int (xs (i + 3))]) (rest := []) (n := 3) S hK (bl_P hP [0, 1, 8] rfl) (bl_D hD [0, 1, 8] rfl rfl) (c_X4_change l E ag ah az ak i0 r f (xs (i + 1)) (xs (i + 2)) (xs (i + 3)) hR) gV_L_35 (by decide +kernel) rfl ⟨rfl, rfl⟩ ⟨Nat.le_of_ble_eq_true rfl, Nat.le_of_ble_eq_true rfl⟩ (ci := 4) (q0 := 0) rfl rfl hl.1 (Nat.le_of_ble_eq_true rfl) dL_law_369 ⟨hcc, hss⟩) hP hD hS [0, 1, 8] rfl (had_cons rfl (had_cons hw_ad (had_cons cell_ad rfl))) (Bs' := [[gObj ag ah az ak i0], hillsW E ah (rowR r (rChange r (xs (i + 1)) (xs (i + 2)) (xs (i + 3)))), hillsW E az x, hillsW E ak k, shO E ag z u, shN E ag y, [rdO ag (nI len) (nI ys) (nI yb) (nI ye) (nI yv)], [(ag 3, .inl (E.2.2.1, 120, .inl (sg tb 120)))], [(ag 4, .inl (E.2.1, 7, .inl (sg (fndC f (rChange r (xs (i + 1)) (xs (i + 2)) (xs (i + 3)))) 7)))], [mObj am q], [(am 1, .inl (E.2.1, 77, .inl (sg r2 77)))], [(am 2, .inl (E.2.1, 77, .inl (sg k2 77)))], [(am 3, .inl (E.2.1, 77, .inl (sg x2 77)))], [(am 4, .inl (E.2.1, 8, .inl (sg f2 8)))], [(am 5, .inl (E.2.1, 120, .inl (sg tp 120)))], [(am 6, .inl (E.2.2.2.2.2, 7, .inr (.inr (.inr (.inr (fun j => some (aS (12 + j))))))))], [(am 7, .inl (E.2.1, 480, .inl (sg it 480)))], [(am 8, .inl (E.2.1, 4, .inl (sg z 4)))], [(am 9, .inl (E.2.1, 4, .inl (sg u 4)))], [(am 10, .inl (E.2.1, 160, .inl (sg y 160)))], [(am 11, .inl (E.2.1, 40, .inl (sg mv 40)))]]) rfl (fun H locs hP hD hS => ?_)
  refine lv_aload_n S.1 S.2.1 dL_law_372 rfl (lv_at hl 2 rfl) ?_
  refine lv_aload_n S.1 S.2.1 dL_law_373 rfl (lv_at hl 0 rfl) ?_
  refine lv_iload_n S.1 S.2.1 dL_law_374 rfl (lv_at hl 3 rfl) ?_
  refine lv_iconst (v := 1) S.1 S.2.1 dL_law_375 (by decide) ?_
  refine lv_iadd S.1 S.2.1 dL_law_376 ?_
  refine lv_eqi (y := nI (i + 1)) (nI_add i 1) ?_
  refine b_sld (j := i + 1) S.1 S.2.1 hXs hbl hbA hS (by omega) (by omega) dL_law_377 ?_
  refine lv_aload_n S.1 S.2.1 dL_law_378 rfl (lv_at hl 0 rfl) ?_
  refine lv_iload_n S.1 S.2.1 dL_law_379 rfl (lv_at hl 3 rfl) ?_
  refine lv_iconst (v := 2) S.1 S.2.1 dL_law_380 (by decide) ?_
  refine lv_iadd S.1 S.2.1 dL_law_381 ?_
  refine lv_eqi (y := nI (i + 2)) (nI_add i 2) ?_
  refine b_sld (j := i + 2) S.1 S.2.1 hXs hbl hbA hS (by omega) (by omega) dL_law_382 ?_
  refine lv_aload_n S.1 S.2.1 dL_law_383 rfl (lv_at hl 0 rfl) ?_
  refine lv_iload_n S.1 S.2.1 dL_law_384 rfl (lv_at hl 3 rfl) ?_
  refine lv_iconst (v := 3) S.1 S.2.1 dL_law_385 (by decide) ?_
  refine lv_iadd S.1 S.2.1 dL_law_386 ?_
  refine lv_eqi (y := nI (i + 3)) (nI_add i 3) ?_
  refine b_sld (j := i + 3) S.1 S.2.1 hXs hbl hbA hS (by omega) (by omega) dL_law_387 ?_
  refine go_I (run_V (As := [.int (xs (i + 1)), .int (xs (i + 2)), .int (xs (i + 3))]) (rest := [.int (ansR (rChange r (xs (i + 1)) (xs (i + 2)) (xs (i + 3))))]) (n := 3) S hK (bl_P hP [9, 10, 13] rfl) (bl_D hD [9, 10, 13] rfl rfl) (c_X5_change l E am q r2 f2 (xs (i + 1)) (xs (i + 2)) (xs (i + 3)) hR2) gV_L_39 (by decide +kernel) rfl ⟨rfl, rfl⟩ ⟨Nat.le_of_ble_eq_true rfl, Nat.le_of_ble_eq_true rfl⟩ (ci := 5) (q0 := 0) rfl rfl hl.1 (Nat.le_of_ble_eq_true rfl) dL_law_388 ⟨hcc, hss⟩) hP hD hS [9, 10, 13] rfl (had_cons rfl (had_cons cell_ad (had_cons cell_ad rfl))) (Bs' := [[gObj ag ah az ak i0], hillsW E ah (rowR r (rChange r (xs (i + 1)) (xs (i + 2)) (xs (i + 3)))), hillsW E az x, hillsW E ak k, shO E ag z u, shN E ag y, [rdO ag (nI len) (nI ys) (nI yb) (nI ye) (nI yv)], [(ag 3, .inl (E.2.2.1, 120, .inl (sg tb 120)))], [(ag 4, .inl (E.2.1, 7, .inl (sg (fndC f (rChange r (xs (i + 1)) (xs (i + 2)) (xs (i + 3)))) 7)))], [mObj am q], [(am 1, .inl (E.2.1, 77, .inl (sg (rowR r2 (rChange r2 (xs (i + 1)) (xs (i + 2)) (xs (i + 3)))) 77)))], [(am 2, .inl (E.2.1, 77, .inl (sg k2 77)))], [(am 3, .inl (E.2.1, 77, .inl (sg x2 77)))], [(am 4, .inl (E.2.1, 8, .inl (sg (fndM f2 (rChange r2 (xs (i + 1)) (xs (i + 2)) (xs (i + 3)))) 8)))], [(am 5, .inl (E.2.1, 120, .inl (sg tp 120)))], [(am 6, .inl (E.2.2.2.2.2, 7, .inr (.inr (.inr (.inr (fun j => some (aS (12 + j))))))))], [(am 7, .inl (E.2.1, 480, .inl (sg it 480)))], [(am 8, .inl (E.2.1, 4, .inl (sg z 4)))], [(am 9, .inl (E.2.1, 4, .inl (sg u 4)))], [(am 10, .inl (E.2.1, 160, .inl (sg y 160)))], [(am 11, .inl (E.2.1, 40, .inl (sg mv 40)))]]) rfl (fun H locs hP hD hS => ?_)
  refine lv_icmp_eq (tgt := 1399) S.1 S.2.1 dL_law_391 (by decide) (fun _ => ?_) (fun h => absurd (RR_ans (rr_change hev hR (xs (i + 1)) (xs (i + 2)) (xs (i + 3))).1) h)
  exact kk i0 (rowR r (rChange r (xs (i + 1)) (xs (i + 2)) (xs (i + 3)))) x k z u y tb (fndC f (rChange r (xs (i + 1)) (xs (i + 2)) (xs (i + 3)))) len (yb, ye, ys, yv) q (rowR r2 (rChange r2 (xs (i + 1)) (xs (i + 2)) (xs (i + 3)))) k2 x2 (fndM f2 (rChange r2 (xs (i + 1)) (xs (i + 2)) (xs (i + 3)))) tp it mv H locs ls (inv_row hI (rr_change hev hR (xs (i + 1)) (xs (i + 2)) (xs (i + 3)))) hP hD hS (lv_sub hl [0, 1, 2, 3] rfl)
set_option maxHeartbeats 1600000 in
set_option maxRecDepth 100000 in
theorem law_6 (S : CallFix p m c code 4 s #[Value.ref b] (c0 :: GW) RL) (hK : KE E s) (hX : EX aS A s s.heap) (hXs : va_X b L xs s s.heap) (hbl : b < s.heap.size) (hbA : ¬ A b) (hcc : cells ≤ room_1.cells) (hss : slots ≤ room_1.slots) (hL : L ≤ 3072) (i0 : Int32) (r x k z u y tb f : Row) (len : Nat) (Y : Ys) (q r2 k2 x2 f2 tp it mv : Row) (hI : Inv i0 r k u tb f len q r2 k2 f2 tp) (hP : PE E (LW E aS ag ah az ak am i0 r x k z u y tb f len Y q r2 k2 x2 f2 tp it mv) H) (hD : DE A (LW E aS ag ah az ak am i0 r x k z u y tb f len Y q r2 k2 x2 f2 tp it mv)) (hS : va_S A s.heap H locs) {i : Nat} (hi : i + 6 ≤ L) {ls : Array Slot} (hl : lv_has ls 4 [(0, .ref b), (1, .ref (ag 0)), (2, .ref (am 0)), (3, .int (nI i))]) (kk : KK p l e s m below meth c b E aS ag ah az ak am A cells slots Q i) : W p l e room_1 s m #[Value.ref b] below meth c H locs cells slots Q (F0 m 396 ls []) := by
  obtain ⟨yb, ye, ys, yv⟩ := Y
  have hev := hI.1
  have hR := hI.2.1
  have hR2 := RI_ev hev hR
  have hRk := hI.2.2.1
  have hU := hI.2.2.2.2.2.1
  have hl9 := hI.2.2.2.2.2.2.1
  have hq3 := hI.2.2.2.2.2.2.2.1
  have hT := hI.2.2.2.2.2.2.2.2.1
  have hP : PE E [[gObj ag ah az ak i0], hillsW E ah r, hillsW E az x, hillsW E ak k, shO E ag z u, shN E ag y, [rdO ag (nI len) (nI ys) (nI yb) (nI ye) (nI yv)], [(ag 3, .inl (E.2.2.1, 120, .inl (sg tb 120)))], [(ag 4, .inl (E.2.1, 7, .inl (sg f 7)))], [mObj am q], [(am 1, .inl (E.2.1, 77, .inl (sg r2 77)))], [(am 2, .inl (E.2.1, 77, .inl (sg k2 77)))], [(am 3, .inl (E.2.1, 77, .inl (sg x2 77)))], [(am 4, .inl (E.2.1, 8, .inl (sg f2 8)))], [(am 5, .inl (E.2.1, 120, .inl (sg tp 120)))], [(am 6, .inl (E.2.2.2.2.2, 7, .inr (.inr (.inr (.inr (fun j => some (aS (12 + j))))))))], [(am 7, .inl (E.2.1, 480, .inl (sg it 480)))], [(am 8, .inl (E.2.1, 4, .inl (sg z 4)))], [(am 9, .inl (E.2.1, 4, .inl (sg u 4)))], [(am 10, .inl (E.2.1, 160, .inl (sg y 160)))], [(am 11, .inl (E.2.1, 40, .inl (sg mv 40)))]] H := hP
  have hD : DE A [[gObj ag ah az ak i0], hillsW E ah r, hillsW E az x, hillsW E ak k, shO E ag z u, shN E ag y, [rdO ag (nI len) (nI ys) (nI yb) (nI ye) (nI yv)], [(ag 3, .inl (E.2.2.1, 120, .inl (sg tb 120)))], [(ag 4, .inl (E.2.1, 7, .inl (sg f 7)))], [mObj am q], [(am 1, .inl (E.2.1, 77, .inl (sg r2 77)))], [(am 2, .inl (E.2.1, 77, .inl (sg k2 77)))], [(am 3, .inl (E.2.1, 77, .inl (sg x2 77)))], [(am 4, .inl (E.2.1, 8, .inl (sg f2 8)))], [(am 5, .inl (E.2.1, 120, .inl (sg tp 120)))], [(am 6, .inl (E.2.2.2.2.2, 7, .inr (.inr (.inr (.inr (fun j => some (aS (12 + j))))))))], [(am 7, .inl (E.2.1, 480, .inl (sg it 480)))], [(am 8, .inl (E.2.1, 4, .inl (sg z 4)))], [(am 9, .inl (E.2.1, 4, .inl (sg u 4)))], [(am 10, .inl (E.2.1, 160, .inl (sg y 160)))], [(am 11, .inl (E.2.1, 40, .inl (sg mv 40)))]] := hD
  refine lv_aload_n S.1 S.2.1 dL_law_396 rfl (lv_at hl 1 rfl) ?_
  refine lv_aload_n S.1 S.2.1 dL_law_397 rfl (lv_at hl 0 rfl) ?_
  refine lv_iload_n S.1 S.2.1 dL_law_398 rfl (lv_at hl 3 rfl) ?_
  refine lv_iconst (v := 1) S.1 S.2.1 dL_law_399 (by decide) ?_
  refine lv_iadd S.1 S.2.1 dL_law_400 ?_
  refine lv_eqi (y := nI (i + 1)) (nI_add i 1) ?_
  refine b_sld (j := i + 1) S.1 S.2.1 hXs hbl hbA hS (by omega) (by omega) dL_law_401 ?_
  refine go_I (run_V (As := [.int (xs (i + 1))]) (rest := []) (n := 1) S hK (bl_P hP [0, 1, 8] rfl) (bl_D hD [0, 1, 8] rfl rfl) (c_X4_go l E ag ah az ak i0 r f (xs (i + 1)) hR) gV_L_40 (by decide +kernel) rfl ⟨rfl, rfl⟩ ⟨Nat.le_of_ble_eq_true rfl, Nat.le_of_ble_eq_true rfl⟩ (ci := 4) (q0 := 0) rfl rfl hl.1 (Nat.le_of_ble_eq_true rfl) dL_law_402 ⟨hcc, hss⟩) hP hD hS [0, 1, 8] rfl (had_cons rfl (had_cons hw_ad (had_cons cell_ad rfl))) (Bs' := [[gObj ag ah az ak i0], hillsW E ah (rowR r (rGo r (xs (i + 1)))), hillsW E az x, hillsW E ak k, shO E ag z u, shN E ag y, [rdO ag (nI len) (nI ys) (nI yb) (nI ye) (nI yv)], [(ag 3, .inl (E.2.2.1, 120, .inl (sg tb 120)))], [(ag 4, .inl (E.2.1, 7, .inl (sg (fndC f (rGo r (xs (i + 1)))) 7)))], [mObj am q], [(am 1, .inl (E.2.1, 77, .inl (sg r2 77)))], [(am 2, .inl (E.2.1, 77, .inl (sg k2 77)))], [(am 3, .inl (E.2.1, 77, .inl (sg x2 77)))], [(am 4, .inl (E.2.1, 8, .inl (sg f2 8)))], [(am 5, .inl (E.2.1, 120, .inl (sg tp 120)))], [(am 6, .inl (E.2.2.2.2.2, 7, .inr (.inr (.inr (.inr (fun j => some (aS (12 + j))))))))], [(am 7, .inl (E.2.1, 480, .inl (sg it 480)))], [(am 8, .inl (E.2.1, 4, .inl (sg z 4)))], [(am 9, .inl (E.2.1, 4, .inl (sg u 4)))], [(am 10, .inl (E.2.1, 160, .inl (sg y 160)))], [(am 11, .inl (E.2.1, 40, .inl (sg mv 40)))]]) rfl (fun H locs hP hD hS => ?_)
  refine lv_aload_n S.1 S.2.1 dL_law_405 rfl (lv_at hl 2 rfl) ?_
  refine lv_aload_n S.1 S.2.1 dL_law_406 rfl (lv_at hl 0 rfl) ?_
  refine lv_iload_n S.1 S.2.1 dL_law_407 rfl (lv_at hl 3 rfl) ?_
  refine lv_iconst (v := 1) S.1 S.2.1 dL_law_408 (by decide) ?_
  refine lv_iadd S.1 S.2.1 dL_law_409 ?_
  refine lv_eqi (y := nI (i + 1)) (nI_add i 1) ?_
  refine b_sld (j := i + 1) S.1 S.2.1 hXs hbl hbA hS (by omega) (by omega) dL_law_410 ?_
  refine go_I (run_V (As := [.int (xs (i + 1))]) (rest := [.int (ansR (rGo r (xs (i + 1))))]) (n := 1) S hK (bl_P hP [9, 10, 13] rfl) (bl_D hD [9, 10, 13] rfl rfl) (c_X5_go l E am q r2 f2 (xs (i + 1)) hR2) gV_L_43 (by decide +kernel) rfl ⟨rfl, rfl⟩ ⟨Nat.le_of_ble_eq_true rfl, Nat.le_of_ble_eq_true rfl⟩ (ci := 5) (q0 := 0) rfl rfl hl.1 (Nat.le_of_ble_eq_true rfl) dL_law_411 ⟨hcc, hss⟩) hP hD hS [9, 10, 13] rfl (had_cons rfl (had_cons cell_ad (had_cons cell_ad rfl))) (Bs' := [[gObj ag ah az ak i0], hillsW E ah (rowR r (rGo r (xs (i + 1)))), hillsW E az x, hillsW E ak k, shO E ag z u, shN E ag y, [rdO ag (nI len) (nI ys) (nI yb) (nI ye) (nI yv)], [(ag 3, .inl (E.2.2.1, 120, .inl (sg tb 120)))], [(ag 4, .inl (E.2.1, 7, .inl (sg (fndC f (rGo r (xs (i + 1)))) 7)))], [mObj am q], [(am 1, .inl (E.2.1, 77, .inl (sg (rowR r2 (rGo r2 (xs (i + 1)))) 77)))], [(am 2, .inl (E.2.1, 77, .inl (sg k2 77)))], [(am 3, .inl (E.2.1, 77, .inl (sg x2 77)))], [(am 4, .inl (E.2.1, 8, .inl (sg (fndM f2 (rGo r2 (xs (i + 1)))) 8)))], [(am 5, .inl (E.2.1, 120, .inl (sg tp 120)))], [(am 6, .inl (E.2.2.2.2.2, 7, .inr (.inr (.inr (.inr (fun j => some (aS (12 + j))))))))], [(am 7, .inl (E.2.1, 480, .inl (sg it 480)))], [(am 8, .inl (E.2.1, 4, .inl (sg z 4)))], [(am 9, .inl (E.2.1, 4, .inl (sg u 4)))], [(am 10, .inl (E.2.1, 160, .inl (sg y 160)))], [(am 11, .inl (E.2.1, 40, .inl (sg mv 40)))]]) rfl (fun H locs hP hD hS => ?_)
  refine lv_icmp_eq (tgt := 1399) S.1 S.2.1 dL_law_414 (by decide) (fun _ => ?_) (fun h => absurd (RR_ans (rr_go hev hR (xs (i + 1))).1) h)
  exact kk i0 (rowR r (rGo r (xs (i + 1)))) x k z u y tb (fndC f (rGo r (xs (i + 1)))) len (yb, ye, ys, yv) q (rowR r2 (rGo r2 (xs (i + 1)))) k2 x2 (fndM f2 (rGo r2 (xs (i + 1)))) tp it mv H locs ls (inv_row hI (rr_go hev hR (xs (i + 1)))) hP hD hS (lv_sub hl [0, 1, 2, 3] rfl)
set_option maxHeartbeats 1600000 in
set_option maxRecDepth 100000 in
theorem law_7 (S : CallFix p m c code 4 s #[Value.ref b] (c0 :: GW) RL) (hK : KE E s) (hX : EX aS A s s.heap) (hXs : va_X b L xs s s.heap) (hbl : b < s.heap.size) (hbA : ¬ A b) (hcc : cells ≤ room_1.cells) (hss : slots ≤ room_1.slots) (hL : L ≤ 3072) (i0 : Int32) (r x k z u y tb f : Row) (len : Nat) (Y : Ys) (q r2 k2 x2 f2 tp it mv : Row) (hI : Inv i0 r k u tb f len q r2 k2 f2 tp) (hP : PE E (LW E aS ag ah az ak am i0 r x k z u y tb f len Y q r2 k2 x2 f2 tp it mv) H) (hD : DE A (LW E aS ag ah az ak am i0 r x k z u y tb f len Y q r2 k2 x2 f2 tp it mv)) (hS : va_S A s.heap H locs) {i : Nat} (hi : i + 6 ≤ L) {ls : Array Slot} (hl : lv_has ls 4 [(0, .ref b), (1, .ref (ag 0)), (2, .ref (am 0)), (3, .int (nI i))]) (kk : KK p l e s m below meth c b E aS ag ah az ak am A cells slots Q i) : W p l e room_1 s m #[Value.ref b] below meth c H locs cells slots Q (F0 m 419 ls []) := by
  obtain ⟨yb, ye, ys, yv⟩ := Y
  have hev := hI.1
  have hR := hI.2.1
  have hR2 := RI_ev hev hR
  have hRk := hI.2.2.1
  have hU := hI.2.2.2.2.2.1
  have hl9 := hI.2.2.2.2.2.2.1
  have hq3 := hI.2.2.2.2.2.2.2.1
  have hT := hI.2.2.2.2.2.2.2.2.1
  have hP : PE E [[gObj ag ah az ak i0], hillsW E ah r, hillsW E az x, hillsW E ak k, shO E ag z u, shN E ag y, [rdO ag (nI len) (nI ys) (nI yb) (nI ye) (nI yv)], [(ag 3, .inl (E.2.2.1, 120, .inl (sg tb 120)))], [(ag 4, .inl (E.2.1, 7, .inl (sg f 7)))], [mObj am q], [(am 1, .inl (E.2.1, 77, .inl (sg r2 77)))], [(am 2, .inl (E.2.1, 77, .inl (sg k2 77)))], [(am 3, .inl (E.2.1, 77, .inl (sg x2 77)))], [(am 4, .inl (E.2.1, 8, .inl (sg f2 8)))], [(am 5, .inl (E.2.1, 120, .inl (sg tp 120)))], [(am 6, .inl (E.2.2.2.2.2, 7, .inr (.inr (.inr (.inr (fun j => some (aS (12 + j))))))))], [(am 7, .inl (E.2.1, 480, .inl (sg it 480)))], [(am 8, .inl (E.2.1, 4, .inl (sg z 4)))], [(am 9, .inl (E.2.1, 4, .inl (sg u 4)))], [(am 10, .inl (E.2.1, 160, .inl (sg y 160)))], [(am 11, .inl (E.2.1, 40, .inl (sg mv 40)))]] H := hP
  have hD : DE A [[gObj ag ah az ak i0], hillsW E ah r, hillsW E az x, hillsW E ak k, shO E ag z u, shN E ag y, [rdO ag (nI len) (nI ys) (nI yb) (nI ye) (nI yv)], [(ag 3, .inl (E.2.2.1, 120, .inl (sg tb 120)))], [(ag 4, .inl (E.2.1, 7, .inl (sg f 7)))], [mObj am q], [(am 1, .inl (E.2.1, 77, .inl (sg r2 77)))], [(am 2, .inl (E.2.1, 77, .inl (sg k2 77)))], [(am 3, .inl (E.2.1, 77, .inl (sg x2 77)))], [(am 4, .inl (E.2.1, 8, .inl (sg f2 8)))], [(am 5, .inl (E.2.1, 120, .inl (sg tp 120)))], [(am 6, .inl (E.2.2.2.2.2, 7, .inr (.inr (.inr (.inr (fun j => some (aS (12 + j))))))))], [(am 7, .inl (E.2.1, 480, .inl (sg it 480)))], [(am 8, .inl (E.2.1, 4, .inl (sg z 4)))], [(am 9, .inl (E.2.1, 4, .inl (sg u 4)))], [(am 10, .inl (E.2.1, 160, .inl (sg y 160)))], [(am 11, .inl (E.2.1, 40, .inl (sg mv 40)))]] := hD
  refine lv_aload_n S.1 S.2.1 dL_law_419 rfl (lv_at hl 1 rfl) ?_
  refine lv_aload_n S.1 S.2.1 dL_law_420 rfl (lv_at hl 0 rfl) ?_
  refine lv_iload_n S.1 S.2.1 dL_law_421 rfl (lv_at hl 3 rfl) ?_
  refine lv_iconst (v := 1) S.1 S.2.1 dL_law_422 (by decide) ?_
  refine lv_iadd S.1 S.2.1 dL_law_423 ?_
  refine lv_eqi (y := nI (i + 1)) (nI_add i 1) ?_
  refine b_sld (j := i + 1) S.1 S.2.1 hXs hbl hbA hS (by omega) (by omega) dL_law_424 ?_
  refine go_I (run_V (As := [.int (xs (i + 1))]) (rest := []) (n := 1) S hK (bl_P hP [0, 1, 8] rfl) (bl_D hD [0, 1, 8] rfl rfl) (c_X4_now l E ag ah az ak i0 r f (xs (i + 1)) hR) gV_L_44 (by decide +kernel) rfl ⟨rfl, rfl⟩ ⟨Nat.le_of_ble_eq_true rfl, Nat.le_of_ble_eq_true rfl⟩ (ci := 4) (q0 := 0) rfl rfl hl.1 (Nat.le_of_ble_eq_true rfl) dL_law_425 ⟨hcc, hss⟩) hP hD hS [0, 1, 8] rfl (had_cons rfl (had_cons hw_ad (had_cons cell_ad rfl))) (Bs' := [[gObj ag ah az ak i0], hillsW E ah (rowR r (rNow r (xs (i + 1)))), hillsW E az x, hillsW E ak k, shO E ag z u, shN E ag y, [rdO ag (nI len) (nI ys) (nI yb) (nI ye) (nI yv)], [(ag 3, .inl (E.2.2.1, 120, .inl (sg tb 120)))], [(ag 4, .inl (E.2.1, 7, .inl (sg (fndC f (rNow r (xs (i + 1)))) 7)))], [mObj am q], [(am 1, .inl (E.2.1, 77, .inl (sg r2 77)))], [(am 2, .inl (E.2.1, 77, .inl (sg k2 77)))], [(am 3, .inl (E.2.1, 77, .inl (sg x2 77)))], [(am 4, .inl (E.2.1, 8, .inl (sg f2 8)))], [(am 5, .inl (E.2.1, 120, .inl (sg tp 120)))], [(am 6, .inl (E.2.2.2.2.2, 7, .inr (.inr (.inr (.inr (fun j => some (aS (12 + j))))))))], [(am 7, .inl (E.2.1, 480, .inl (sg it 480)))], [(am 8, .inl (E.2.1, 4, .inl (sg z 4)))], [(am 9, .inl (E.2.1, 4, .inl (sg u 4)))], [(am 10, .inl (E.2.1, 160, .inl (sg y 160)))], [(am 11, .inl (E.2.1, 40, .inl (sg mv 40)))]]) rfl (fun H locs hP hD hS => ?_)
  refine lv_aload_n S.1 S.2.1 dL_law_428 rfl (lv_at hl 2 rfl) ?_
  refine lv_aload_n S.1 S.2.1 dL_law_429 rfl (lv_at hl 0 rfl) ?_
  refine lv_iload_n S.1 S.2.1 dL_law_430 rfl (lv_at hl 3 rfl) ?_
  refine lv_iconst (v := 1) S.1 S.2.1 dL_law_431 (by decide) ?_
  refine lv_iadd S.1 S.2.1 dL_law_432 ?_
  refine lv_eqi (y := nI (i + 1)) (nI_add i 1) ?_
  refine b_sld (j := i + 1) S.1 S.2.1 hXs hbl hbA hS (by omega) (by omega) dL_law_433 ?_
  refine go_I (run_V (As := [.int (xs (i + 1))]) (rest := [.int (ansR (rNow r (xs (i + 1))))]) (n := 1) S hK (bl_P hP [9, 10, 13] rfl) (bl_D hD [9, 10, 13] rfl rfl) (c_X5_now l E am q r2 f2 (xs (i + 1)) hR2) gV_L_47 (by decide +kernel) rfl ⟨rfl, rfl⟩ ⟨Nat.le_of_ble_eq_true rfl, Nat.le_of_ble_eq_true rfl⟩ (ci := 5) (q0 := 0) rfl rfl hl.1 (Nat.le_of_ble_eq_true rfl) dL_law_434 ⟨hcc, hss⟩) hP hD hS [9, 10, 13] rfl (had_cons rfl (had_cons cell_ad (had_cons cell_ad rfl))) (Bs' := [[gObj ag ah az ak i0], hillsW E ah (rowR r (rNow r (xs (i + 1)))), hillsW E az x, hillsW E ak k, shO E ag z u, shN E ag y, [rdO ag (nI len) (nI ys) (nI yb) (nI ye) (nI yv)], [(ag 3, .inl (E.2.2.1, 120, .inl (sg tb 120)))], [(ag 4, .inl (E.2.1, 7, .inl (sg (fndC f (rNow r (xs (i + 1)))) 7)))], [mObj am q], [(am 1, .inl (E.2.1, 77, .inl (sg (rowR r2 (rNow r2 (xs (i + 1)))) 77)))], [(am 2, .inl (E.2.1, 77, .inl (sg k2 77)))], [(am 3, .inl (E.2.1, 77, .inl (sg x2 77)))], [(am 4, .inl (E.2.1, 8, .inl (sg (fndM f2 (rNow r2 (xs (i + 1)))) 8)))], [(am 5, .inl (E.2.1, 120, .inl (sg tp 120)))], [(am 6, .inl (E.2.2.2.2.2, 7, .inr (.inr (.inr (.inr (fun j => some (aS (12 + j))))))))], [(am 7, .inl (E.2.1, 480, .inl (sg it 480)))], [(am 8, .inl (E.2.1, 4, .inl (sg z 4)))], [(am 9, .inl (E.2.1, 4, .inl (sg u 4)))], [(am 10, .inl (E.2.1, 160, .inl (sg y 160)))], [(am 11, .inl (E.2.1, 40, .inl (sg mv 40)))]]) rfl (fun H locs hP hD hS => ?_)
  refine lv_icmp_eq (tgt := 1399) S.1 S.2.1 dL_law_437 (by decide) (fun _ => ?_) (fun h => absurd (RR_ans (rr_now hev hR (xs (i + 1))).1) h)
  exact kk i0 (rowR r (rNow r (xs (i + 1)))) x k z u y tb (fndC f (rNow r (xs (i + 1)))) len (yb, ye, ys, yv) q (rowR r2 (rNow r2 (xs (i + 1)))) k2 x2 (fndM f2 (rNow r2 (xs (i + 1)))) tp it mv H locs ls (inv_row hI (rr_now hev hR (xs (i + 1)))) hP hD hS (lv_sub hl [0, 1, 2, 3] rfl)
set_option maxHeartbeats 1600000 in
set_option maxRecDepth 100000 in
theorem law_8 (S : CallFix p m c code 4 s #[Value.ref b] (c0 :: GW) RL) (hK : KE E s) (hX : EX aS A s s.heap) (hXs : va_X b L xs s s.heap) (hbl : b < s.heap.size) (hbA : ¬ A b) (hcc : cells ≤ room_1.cells) (hss : slots ≤ room_1.slots) (hL : L ≤ 3072) (i0 : Int32) (r x k z u y tb f : Row) (len : Nat) (Y : Ys) (q r2 k2 x2 f2 tp it mv : Row) (hI : Inv i0 r k u tb f len q r2 k2 f2 tp) (hP : PE E (LW E aS ag ah az ak am i0 r x k z u y tb f len Y q r2 k2 x2 f2 tp it mv) H) (hD : DE A (LW E aS ag ah az ak am i0 r x k z u y tb f len Y q r2 k2 x2 f2 tp it mv)) (hS : va_S A s.heap H locs) {i : Nat} (hi : i + 6 ≤ L) {ls : Array Slot} (hl : lv_has ls 4 [(0, .ref b), (1, .ref (ag 0)), (2, .ref (am 0)), (3, .int (nI i))]) (kk : KK p l e s m below meth c b E aS ag ah az ak am A cells slots Q i) : W p l e room_1 s m #[Value.ref b] below meth c H locs cells slots Q (F0 m 442 ls []) := by
  obtain ⟨yb, ye, ys, yv⟩ := Y
  have hev := hI.1
  have hR := hI.2.1
  have hR2 := RI_ev hev hR
  have hRk := hI.2.2.1
  have hU := hI.2.2.2.2.2.1
  have hl9 := hI.2.2.2.2.2.2.1
  have hq3 := hI.2.2.2.2.2.2.2.1
  have hT := hI.2.2.2.2.2.2.2.2.1
  have hP : PE E [[gObj ag ah az ak i0], hillsW E ah r, hillsW E az x, hillsW E ak k, shO E ag z u, shN E ag y, [rdO ag (nI len) (nI ys) (nI yb) (nI ye) (nI yv)], [(ag 3, .inl (E.2.2.1, 120, .inl (sg tb 120)))], [(ag 4, .inl (E.2.1, 7, .inl (sg f 7)))], [mObj am q], [(am 1, .inl (E.2.1, 77, .inl (sg r2 77)))], [(am 2, .inl (E.2.1, 77, .inl (sg k2 77)))], [(am 3, .inl (E.2.1, 77, .inl (sg x2 77)))], [(am 4, .inl (E.2.1, 8, .inl (sg f2 8)))], [(am 5, .inl (E.2.1, 120, .inl (sg tp 120)))], [(am 6, .inl (E.2.2.2.2.2, 7, .inr (.inr (.inr (.inr (fun j => some (aS (12 + j))))))))], [(am 7, .inl (E.2.1, 480, .inl (sg it 480)))], [(am 8, .inl (E.2.1, 4, .inl (sg z 4)))], [(am 9, .inl (E.2.1, 4, .inl (sg u 4)))], [(am 10, .inl (E.2.1, 160, .inl (sg y 160)))], [(am 11, .inl (E.2.1, 40, .inl (sg mv 40)))]] H := hP
  have hD : DE A [[gObj ag ah az ak i0], hillsW E ah r, hillsW E az x, hillsW E ak k, shO E ag z u, shN E ag y, [rdO ag (nI len) (nI ys) (nI yb) (nI ye) (nI yv)], [(ag 3, .inl (E.2.2.1, 120, .inl (sg tb 120)))], [(ag 4, .inl (E.2.1, 7, .inl (sg f 7)))], [mObj am q], [(am 1, .inl (E.2.1, 77, .inl (sg r2 77)))], [(am 2, .inl (E.2.1, 77, .inl (sg k2 77)))], [(am 3, .inl (E.2.1, 77, .inl (sg x2 77)))], [(am 4, .inl (E.2.1, 8, .inl (sg f2 8)))], [(am 5, .inl (E.2.1, 120, .inl (sg tp 120)))], [(am 6, .inl (E.2.2.2.2.2, 7, .inr (.inr (.inr (.inr (fun j => some (aS (12 + j))))))))], [(am 7, .inl (E.2.1, 480, .inl (sg it 480)))], [(am 8, .inl (E.2.1, 4, .inl (sg z 4)))], [(am 9, .inl (E.2.1, 4, .inl (sg u 4)))], [(am 10, .inl (E.2.1, 160, .inl (sg y 160)))], [(am 11, .inl (E.2.1, 40, .inl (sg mv 40)))]] := hD
  refine lv_aload_n S.1 S.2.1 dL_law_442 rfl (lv_at hl 1 rfl) ?_
  refine lv_aload_n S.1 S.2.1 dL_law_443 rfl (lv_at hl 0 rfl) ?_
  refine lv_iload_n S.1 S.2.1 dL_law_444 rfl (lv_at hl 3 rfl) ?_
  refine lv_iconst (v := 1) S.1 S.2.1 dL_law_445 (by decide) ?_
  refine lv_iadd S.1 S.2.1 dL_law_446 ?_
  refine lv_eqi (y := nI (i + 1)) (nI_add i 1) ?_
  refine b_sld (j := i + 1) S.1 S.2.1 hXs hbl hbA hS (by omega) (by omega) dL_law_447 ?_
  refine lv_aload_n S.1 S.2.1 dL_law_448 rfl (lv_at hl 0 rfl) ?_
  refine lv_iload_n S.1 S.2.1 dL_law_449 rfl (lv_at hl 3 rfl) ?_
  refine lv_iconst (v := 2) S.1 S.2.1 dL_law_450 (by decide) ?_
  refine lv_iadd S.1 S.2.1 dL_law_451 ?_
  refine lv_eqi (y := nI (i + 2)) (nI_add i 2) ?_
  refine b_sld (j := i + 2) S.1 S.2.1 hXs hbl hbA hS (by omega) (by omega) dL_law_452 ?_
  refine lv_aload_n S.1 S.2.1 dL_law_453 rfl (lv_at hl 0 rfl) ?_
  refine lv_iload_n S.1 S.2.1 dL_law_454 rfl (lv_at hl 3 rfl) ?_
  refine lv_iconst (v := 3) S.1 S.2.1 dL_law_455 (by decide) ?_
  refine lv_iadd S.1 S.2.1 dL_law_456 ?_
  refine lv_eqi (y := nI (i + 3)) (nI_add i 3) ?_
  refine b_sld (j := i + 3) S.1 S.2.1 hXs hbl hbA hS (by omega) (by omega) dL_law_457 ?_
  refine go_Ix (run_V (As := [.int (xs (i + 1)), .int (xs (i + 2)), .int (xs (i + 3))]) (rest := []) (n := 3) S hK (bl_P hP [0, 1, 8, 2] rfl) (bl_D hD [0, 1, 8, 2] rfl rfl) (c_X4_ahead l E ag ah az ak i0 r f x (xs (i + 1)) (xs (i + 2)) (xs (i + 3)) hR) gV_L_48 (by decide +kernel) rfl ⟨rfl, rfl⟩ ⟨Nat.le_of_ble_eq_true rfl, Nat.le_of_ble_eq_true rfl⟩ (ci := 4) (q0 := 0) rfl rfl hl.1 (Nat.le_of_ble_eq_true rfl) dL_law_458 ⟨hcc, hss⟩) hP hD hS [0, 1, 8, 2] rfl (fun _ => (had_cons rfl (had_cons rfl (had_cons cell_ad (had_cons hw_ad rfl))))) (Bs' := fun u9 => [[gObj ag ah az ak i0], hillsW E ah r, hillsW E az u9, hillsW E ak k, shO E ag z u, shN E ag y, [rdO ag (nI len) (nI ys) (nI yb) (nI ye) (nI yv)], [(ag 3, .inl (E.2.2.1, 120, .inl (sg tb 120)))], [(ag 4, .inl (E.2.1, 7, .inl (sg (fndC f (rAhead r (xs (i + 1)) (xs (i + 2)) (xs (i + 3)))) 7)))], [mObj am q], [(am 1, .inl (E.2.1, 77, .inl (sg r2 77)))], [(am 2, .inl (E.2.1, 77, .inl (sg k2 77)))], [(am 3, .inl (E.2.1, 77, .inl (sg x2 77)))], [(am 4, .inl (E.2.1, 8, .inl (sg f2 8)))], [(am 5, .inl (E.2.1, 120, .inl (sg tp 120)))], [(am 6, .inl (E.2.2.2.2.2, 7, .inr (.inr (.inr (.inr (fun j => some (aS (12 + j))))))))], [(am 7, .inl (E.2.1, 480, .inl (sg it 480)))], [(am 8, .inl (E.2.1, 4, .inl (sg z 4)))], [(am 9, .inl (E.2.1, 4, .inl (sg u 4)))], [(am 10, .inl (E.2.1, 160, .inl (sg y 160)))], [(am 11, .inl (E.2.1, 40, .inl (sg mv 40)))]]) (fun _ => rfl) (fun u_1 H locs hP hD hS => ?_)
  refine lv_aload_n S.1 S.2.1 dL_law_461 rfl (lv_at hl 2 rfl) ?_
  refine lv_aload_n S.1 S.2.1 dL_law_462 rfl (lv_at hl 0 rfl) ?_
  refine lv_iload_n S.1 S.2.1 dL_law_463 rfl (lv_at hl 3 rfl) ?_
  refine lv_iconst (v := 1) S.1 S.2.1 dL_law_464 (by decide) ?_
  refine lv_iadd S.1 S.2.1 dL_law_465 ?_
  refine lv_eqi (y := nI (i + 1)) (nI_add i 1) ?_
  refine b_sld (j := i + 1) S.1 S.2.1 hXs hbl hbA hS (by omega) (by omega) dL_law_466 ?_
  refine lv_aload_n S.1 S.2.1 dL_law_467 rfl (lv_at hl 0 rfl) ?_
  refine lv_iload_n S.1 S.2.1 dL_law_468 rfl (lv_at hl 3 rfl) ?_
  refine lv_iconst (v := 2) S.1 S.2.1 dL_law_469 (by decide) ?_
  refine lv_iadd S.1 S.2.1 dL_law_470 ?_
  refine lv_eqi (y := nI (i + 2)) (nI_add i 2) ?_
  refine b_sld (j := i + 2) S.1 S.2.1 hXs hbl hbA hS (by omega) (by omega) dL_law_471 ?_
  refine lv_aload_n S.1 S.2.1 dL_law_472 rfl (lv_at hl 0 rfl) ?_
  refine lv_iload_n S.1 S.2.1 dL_law_473 rfl (lv_at hl 3 rfl) ?_
  refine lv_iconst (v := 3) S.1 S.2.1 dL_law_474 (by decide) ?_
  refine lv_iadd S.1 S.2.1 dL_law_475 ?_
  refine lv_eqi (y := nI (i + 3)) (nI_add i 3) ?_
  refine b_sld (j := i + 3) S.1 S.2.1 hXs hbl hbA hS (by omega) (by omega) dL_law_476 ?_
  refine go_Ix (run_V (As := [.int (xs (i + 1)), .int (xs (i + 2)), .int (xs (i + 3))]) (rest := [.int (ansR (rAhead r (xs (i + 1)) (xs (i + 2)) (xs (i + 3))))]) (n := 3) S hK (bl_P hP [9, 10, 13, 12] rfl) (bl_D hD [9, 10, 13, 12] rfl rfl) (c_X5_ahead l E am q r2 f2 x2 (xs (i + 1)) (xs (i + 2)) (xs (i + 3)) hR2) gV_L_51 (by decide +kernel) rfl ⟨rfl, rfl⟩ ⟨Nat.le_of_ble_eq_true rfl, Nat.le_of_ble_eq_true rfl⟩ (ci := 5) (q0 := 0) rfl rfl hl.1 (Nat.le_of_ble_eq_true rfl) dL_law_477 ⟨hcc, hss⟩) hP hD hS [9, 10, 13, 12] rfl (fun _ => (had_cons rfl (had_cons rfl (had_cons cell_ad (had_cons cell_ad rfl))))) (Bs' := fun u9 => [[gObj ag ah az ak i0], hillsW E ah r, hillsW E az u_1, hillsW E ak k, shO E ag z u, shN E ag y, [rdO ag (nI len) (nI ys) (nI yb) (nI ye) (nI yv)], [(ag 3, .inl (E.2.2.1, 120, .inl (sg tb 120)))], [(ag 4, .inl (E.2.1, 7, .inl (sg (fndC f (rAhead r (xs (i + 1)) (xs (i + 2)) (xs (i + 3)))) 7)))], [mObj am q], [(am 1, .inl (E.2.1, 77, .inl (sg r2 77)))], [(am 2, .inl (E.2.1, 77, .inl (sg k2 77)))], [(am 3, .inl (E.2.1, 77, .inl (sg u9 77)))], [(am 4, .inl (E.2.1, 8, .inl (sg (fndM f2 (rAhead r2 (xs (i + 1)) (xs (i + 2)) (xs (i + 3)))) 8)))], [(am 5, .inl (E.2.1, 120, .inl (sg tp 120)))], [(am 6, .inl (E.2.2.2.2.2, 7, .inr (.inr (.inr (.inr (fun j => some (aS (12 + j))))))))], [(am 7, .inl (E.2.1, 480, .inl (sg it 480)))], [(am 8, .inl (E.2.1, 4, .inl (sg z 4)))], [(am 9, .inl (E.2.1, 4, .inl (sg u 4)))], [(am 10, .inl (E.2.1, 160, .inl (sg y 160)))], [(am 11, .inl (E.2.1, 40, .inl (sg mv 40)))]]) (fun _ => rfl) (fun u_2 H locs hP hD hS => ?_)
  refine lv_icmp_eq (tgt := 1399) S.1 S.2.1 dL_law_480 (by decide) (fun _ => ?_) (fun h => absurd (RR_ans (rr_ahead hev hR (xs (i + 1)) (xs (i + 2)) (xs (i + 3)))) h)
  exact kk i0 r u_1 k z u y tb (fndC f (rAhead r (xs (i + 1)) (xs (i + 2)) (xs (i + 3)))) len (yb, ye, ys, yv) q r2 k2 u_2 (fndM f2 (rAhead r2 (xs (i + 1)) (xs (i + 2)) (xs (i + 3)))) tp it mv H locs ls (inv_ans hI (rr_ahead hev hR (xs (i + 1)) (xs (i + 2)) (xs (i + 3))) rfl rfl) hP hD hS (lv_sub hl [0, 1, 2, 3] rfl)
set_option maxHeartbeats 1600000 in
set_option maxRecDepth 100000 in
theorem law_9 (S : CallFix p m c code 4 s #[Value.ref b] (c0 :: GW) RL) (hK : KE E s) (hX : EX aS A s s.heap) (hXs : va_X b L xs s s.heap) (hbl : b < s.heap.size) (hbA : ¬ A b) (hcc : cells ≤ room_1.cells) (hss : slots ≤ room_1.slots) (hL : L ≤ 3072) (i0 : Int32) (r x k z u y tb f : Row) (len : Nat) (Y : Ys) (q r2 k2 x2 f2 tp it mv : Row) (hI : Inv i0 r k u tb f len q r2 k2 f2 tp) (hP : PE E (LW E aS ag ah az ak am i0 r x k z u y tb f len Y q r2 k2 x2 f2 tp it mv) H) (hD : DE A (LW E aS ag ah az ak am i0 r x k z u y tb f len Y q r2 k2 x2 f2 tp it mv)) (hS : va_S A s.heap H locs) {i : Nat} (hi : i + 6 ≤ L) {ls : Array Slot} (hl : lv_has ls 4 [(0, .ref b), (1, .ref (ag 0)), (2, .ref (am 0)), (3, .int (nI i))]) (kk : KK p l e s m below meth c b E aS ag ah az ak am A cells slots Q i) : W p l e room_1 s m #[Value.ref b] below meth c H locs cells slots Q (F0 m 485 ls []) := by
  obtain ⟨yb, ye, ys, yv⟩ := Y
  have hev := hI.1
  have hR := hI.2.1
  have hR2 := RI_ev hev hR
  have hRk := hI.2.2.1
  have hU := hI.2.2.2.2.2.1
  have hl9 := hI.2.2.2.2.2.2.1
  have hq3 := hI.2.2.2.2.2.2.2.1
  have hT := hI.2.2.2.2.2.2.2.2.1
  have hP : PE E [[gObj ag ah az ak i0], hillsW E ah r, hillsW E az x, hillsW E ak k, shO E ag z u, shN E ag y, [rdO ag (nI len) (nI ys) (nI yb) (nI ye) (nI yv)], [(ag 3, .inl (E.2.2.1, 120, .inl (sg tb 120)))], [(ag 4, .inl (E.2.1, 7, .inl (sg f 7)))], [mObj am q], [(am 1, .inl (E.2.1, 77, .inl (sg r2 77)))], [(am 2, .inl (E.2.1, 77, .inl (sg k2 77)))], [(am 3, .inl (E.2.1, 77, .inl (sg x2 77)))], [(am 4, .inl (E.2.1, 8, .inl (sg f2 8)))], [(am 5, .inl (E.2.1, 120, .inl (sg tp 120)))], [(am 6, .inl (E.2.2.2.2.2, 7, .inr (.inr (.inr (.inr (fun j => some (aS (12 + j))))))))], [(am 7, .inl (E.2.1, 480, .inl (sg it 480)))], [(am 8, .inl (E.2.1, 4, .inl (sg z 4)))], [(am 9, .inl (E.2.1, 4, .inl (sg u 4)))], [(am 10, .inl (E.2.1, 160, .inl (sg y 160)))], [(am 11, .inl (E.2.1, 40, .inl (sg mv 40)))]] H := hP
  have hD : DE A [[gObj ag ah az ak i0], hillsW E ah r, hillsW E az x, hillsW E ak k, shO E ag z u, shN E ag y, [rdO ag (nI len) (nI ys) (nI yb) (nI ye) (nI yv)], [(ag 3, .inl (E.2.2.1, 120, .inl (sg tb 120)))], [(ag 4, .inl (E.2.1, 7, .inl (sg f 7)))], [mObj am q], [(am 1, .inl (E.2.1, 77, .inl (sg r2 77)))], [(am 2, .inl (E.2.1, 77, .inl (sg k2 77)))], [(am 3, .inl (E.2.1, 77, .inl (sg x2 77)))], [(am 4, .inl (E.2.1, 8, .inl (sg f2 8)))], [(am 5, .inl (E.2.1, 120, .inl (sg tp 120)))], [(am 6, .inl (E.2.2.2.2.2, 7, .inr (.inr (.inr (.inr (fun j => some (aS (12 + j))))))))], [(am 7, .inl (E.2.1, 480, .inl (sg it 480)))], [(am 8, .inl (E.2.1, 4, .inl (sg z 4)))], [(am 9, .inl (E.2.1, 4, .inl (sg u 4)))], [(am 10, .inl (E.2.1, 160, .inl (sg y 160)))], [(am 11, .inl (E.2.1, 40, .inl (sg mv 40)))]] := hD
  refine lv_aload_n S.1 S.2.1 dL_law_485 rfl (lv_at hl 1 rfl) ?_
  refine lv_aload_n S.1 S.2.1 dL_law_486 rfl (lv_at hl 0 rfl) ?_
  refine lv_iload_n S.1 S.2.1 dL_law_487 rfl (lv_at hl 3 rfl) ?_
  refine lv_iconst (v := 1) S.1 S.2.1 dL_law_488 (by decide) ?_
  refine lv_iadd S.1 S.2.1 dL_law_489 ?_
  refine lv_eqi (y := nI (i + 1)) (nI_add i 1) ?_
  refine b_sld (j := i + 1) S.1 S.2.1 hXs hbl hbA hS (by omega) (by omega) dL_law_490 ?_
  refine go_Ix (run_V (As := [.int (xs (i + 1))]) (rest := []) (n := 1) S hK (bl_P hP [0, 1, 8, 2] rfl) (bl_D hD [0, 1, 8, 2] rfl rfl) (c_X4_sold l E ag ah az ak i0 r f x (xs (i + 1)) hR) gV_L_52 (by decide +kernel) rfl ⟨rfl, rfl⟩ ⟨Nat.le_of_ble_eq_true rfl, Nat.le_of_ble_eq_true rfl⟩ (ci := 4) (q0 := 0) rfl rfl hl.1 (Nat.le_of_ble_eq_true rfl) dL_law_491 ⟨hcc, hss⟩) hP hD hS [0, 1, 8, 2] rfl (fun _ => (had_cons rfl (had_cons rfl (had_cons cell_ad (had_cons hw_ad rfl))))) (Bs' := fun u9 => [[gObj ag ah az ak i0], hillsW E ah r, hillsW E az u9, hillsW E ak k, shO E ag z u, shN E ag y, [rdO ag (nI len) (nI ys) (nI yb) (nI ye) (nI yv)], [(ag 3, .inl (E.2.2.1, 120, .inl (sg tb 120)))], [(ag 4, .inl (E.2.1, 7, .inl (sg (fndC f (rSold r (xs (i + 1)))) 7)))], [mObj am q], [(am 1, .inl (E.2.1, 77, .inl (sg r2 77)))], [(am 2, .inl (E.2.1, 77, .inl (sg k2 77)))], [(am 3, .inl (E.2.1, 77, .inl (sg x2 77)))], [(am 4, .inl (E.2.1, 8, .inl (sg f2 8)))], [(am 5, .inl (E.2.1, 120, .inl (sg tp 120)))], [(am 6, .inl (E.2.2.2.2.2, 7, .inr (.inr (.inr (.inr (fun j => some (aS (12 + j))))))))], [(am 7, .inl (E.2.1, 480, .inl (sg it 480)))], [(am 8, .inl (E.2.1, 4, .inl (sg z 4)))], [(am 9, .inl (E.2.1, 4, .inl (sg u 4)))], [(am 10, .inl (E.2.1, 160, .inl (sg y 160)))], [(am 11, .inl (E.2.1, 40, .inl (sg mv 40)))]]) (fun _ => rfl) (fun u_1 H locs hP hD hS => ?_)
  refine lv_aload_n S.1 S.2.1 dL_law_494 rfl (lv_at hl 2 rfl) ?_
  refine lv_aload_n S.1 S.2.1 dL_law_495 rfl (lv_at hl 0 rfl) ?_
  refine lv_iload_n S.1 S.2.1 dL_law_496 rfl (lv_at hl 3 rfl) ?_
  refine lv_iconst (v := 1) S.1 S.2.1 dL_law_497 (by decide) ?_
  refine lv_iadd S.1 S.2.1 dL_law_498 ?_
  refine lv_eqi (y := nI (i + 1)) (nI_add i 1) ?_
  refine b_sld (j := i + 1) S.1 S.2.1 hXs hbl hbA hS (by omega) (by omega) dL_law_499 ?_
  refine go_Ix (run_V (As := [.int (xs (i + 1))]) (rest := [.int (ansR (rSold r (xs (i + 1))))]) (n := 1) S hK (bl_P hP [9, 10, 13, 12] rfl) (bl_D hD [9, 10, 13, 12] rfl rfl) (c_X5_sold l E am q r2 f2 x2 (xs (i + 1)) hR2) gV_L_55 (by decide +kernel) rfl ⟨rfl, rfl⟩ ⟨Nat.le_of_ble_eq_true rfl, Nat.le_of_ble_eq_true rfl⟩ (ci := 5) (q0 := 0) rfl rfl hl.1 (Nat.le_of_ble_eq_true rfl) dL_law_500 ⟨hcc, hss⟩) hP hD hS [9, 10, 13, 12] rfl (fun _ => (had_cons rfl (had_cons rfl (had_cons cell_ad (had_cons cell_ad rfl))))) (Bs' := fun u9 => [[gObj ag ah az ak i0], hillsW E ah r, hillsW E az u_1, hillsW E ak k, shO E ag z u, shN E ag y, [rdO ag (nI len) (nI ys) (nI yb) (nI ye) (nI yv)], [(ag 3, .inl (E.2.2.1, 120, .inl (sg tb 120)))], [(ag 4, .inl (E.2.1, 7, .inl (sg (fndC f (rSold r (xs (i + 1)))) 7)))], [mObj am q], [(am 1, .inl (E.2.1, 77, .inl (sg r2 77)))], [(am 2, .inl (E.2.1, 77, .inl (sg k2 77)))], [(am 3, .inl (E.2.1, 77, .inl (sg u9 77)))], [(am 4, .inl (E.2.1, 8, .inl (sg (fndM f2 (rSold r2 (xs (i + 1)))) 8)))], [(am 5, .inl (E.2.1, 120, .inl (sg tp 120)))], [(am 6, .inl (E.2.2.2.2.2, 7, .inr (.inr (.inr (.inr (fun j => some (aS (12 + j))))))))], [(am 7, .inl (E.2.1, 480, .inl (sg it 480)))], [(am 8, .inl (E.2.1, 4, .inl (sg z 4)))], [(am 9, .inl (E.2.1, 4, .inl (sg u 4)))], [(am 10, .inl (E.2.1, 160, .inl (sg y 160)))], [(am 11, .inl (E.2.1, 40, .inl (sg mv 40)))]]) (fun _ => rfl) (fun u_2 H locs hP hD hS => ?_)
  refine lv_icmp_eq (tgt := 1399) S.1 S.2.1 dL_law_503 (by decide) (fun _ => ?_) (fun h => absurd (RR_ans (rr_sold hev (xs (i + 1)))) h)
  exact kk i0 r u_1 k z u y tb (fndC f (rSold r (xs (i + 1)))) len (yb, ye, ys, yv) q r2 k2 u_2 (fndM f2 (rSold r2 (xs (i + 1)))) tp it mv H locs ls (inv_ans hI (rr_sold hev (xs (i + 1))) rfl rfl) hP hD hS (lv_sub hl [0, 1, 2, 3] rfl)
end LWC
