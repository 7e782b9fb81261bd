def putV0 (k v w : Int32) : Int32 := if v = 0 then w else k
def putV1 (k v w : Int32) : Int32 := if v = 1 then w else k
def putV2 (k v w : Int32) : Int32 := if v = 2 then w else k
def putV3 (k v w : Int32) : Int32 := if v = 3 then w else k
def putV4 (k v w : Int32) : Int32 := if v = 4 then w else k
def putV5 (k v w : Int32) : Int32 := if v = 5 then w else k
def putV6 (k v w : Int32) : Int32 := if v = 0 then k else if v = 1 then k else if v = 2 then k else if v = 3 then k else if v = 4 then k else if v = 5 then k else w
/-! what the kinds do, as the code says it -/
def toldV (k g h u o t x w : Int32) : Int32 := if w = 0 then k else if w = 1 then g else if w = 2 then h else if w = 3 then u else if w = 4 then o else if w = 5 then t else x
def criesV (k g t w : Int32) : Int32 := if k = 1 then (if w ≤ 0 then g / 10 else g / 10 + 3) else if k = 2 then 2 * (g / 10) else if k = 3 then 2 * (g / 10) + 2 else if k = 4 then (if t < 50 then 2 * (g / 10) + 2 else 0) else if k = 5 then 0 else if k = 6 then 0 else g / 10
def plainV (h w : Int32) : Int32 := h * (w / 10) / 2 + (if h ≤ 0 then 0 else w - w / 10 * 10)
def weathersV (k h w : Int32) : Int32 := if k = 2 then plainV h w / 2 else if k = 3 then plainV h w / 2 else if k = 4 then plainV h w / 2 else if k = 5 then (if plainV h w ≤ w - w / 10 * 10 then 0 else plainV h w - (w - w / 10 * 10)) else if k = 6 then (if w / 10 < 8 then plainV h w else 2 * plainV h w) else plainV h w
def needsV (k : Int32) : Int32 := if k = 1 then 30 else if k = 2 then 50 else if k = 3 then 50 else if k = 4 then 30 else if k = 5 then 60 else if k = 6 then 50 else 40
def eight (x : Int32) : Int32 := x - x / 8 * 8
def tintV (k g u : Int32) : Int32 := if k = 2 then eight (eight (u / 10) + 3) else if k = 3 then eight (eight (u / 10) + 3) else if k = 4 then (if g < 50 then 0 else 1) else if k = 6 then (if u < 100 then eight (u / 10) else 7) else eight (u / 10)
def fetchesV (k o : Int32) : Int32 := if k = 1 then 5 else if k = 2 then 20 + o else if k = 3 then 20 + o else if k = 4 then 3 * (20 + o) else if k = 5 then 1 + o else if k = 6 then (if o = 7 then 100 else 10) else 10 + o
def healsV (k : Int32) : Int32 := if k = 1 then 2 else if k = 3 then 0 else if k = 4 then 0 else if k = 5 then 5 else if k = 6 then 2 else 1
set_option maxHeartbeats 4000000 in
set_option maxRecDepth 100000 in
theorem c_X1_begin (l : Launch) (E : EV) (a : Nat) (k g h u o t x : Int32) (v w : Int32)  : Met l yX1_begin (wq yX1_begin cX1_begin 3 none) ({ frames := 0, cells := 0, slots := 0, locals := 0 }) (preB E [.ref a, .int v, .int w] [[(a, .inr (1, [.int k, .int g, .int h, .int u, .int o, .int t, .int x]))]]) (qV E [[(a, .inr (1, [.int k, .int g, .int h, .int u, .int o, .int t, .int x]))]] [[(a, .inr (1, [.int v, .int w, .int 2, .int 0, .int 0, .int 0, .int 0]))]]) 0 0 (inB [[(a, .inr (1, [.int k, .int g, .int h, .int u, .int o, .int t, .int x]))]]) := by
  refine M_mk RX1 (by decide) rfl (Nat.le_of_ble_eq_true rfl) ?_
  intro p e s m below meth c S hr hlk hK hP hD hS ls hl
  have hl : lv_has ls 3 [(0, .ref a), (1, .int v), (2, .int w)] := hl
  obtain ⟨H, hH⟩ : ∃ z, z = s.heap := ⟨_, rfl⟩
  obtain ⟨locs, hlocs⟩ : ∃ z : List Loc, z = [] := ⟨_, rfl⟩
  have hP : PE E [[(a, .inr (1, [.int k, .int g, .int h, .int u, .int o, .int t, .int x]))]] H := by rw [hH]; exact hP
  have hS : va_S (inB [[(a, .inr (1, [.int k, .int g, .int h, .int u, .int o, .int t, .int x]))]]) s.heap H locs := by rw [hH, hlocs]; exact hS
  show W p l e ({ frames := 0, cells := 0, slots := 0, locals := 0 }) s m ([.ref a, .int v, .int w] : List Value).toArray below meth c s.heap [] 0 0 _ _
  suffices hgo : W p l e ({ frames := 0, cells := 0, slots := 0, locals := 0 }) s m ([.ref a, .int v, .int w] : List Value).toArray below meth c H locs 0 0 (MQ below (qV E [[(a, .inr (1, [.int k, .int g, .int h, .int u, .int o, .int t, .int x]))]] [[(a, .inr (1, [.int v, .int w, .int 2, .int 0, .int 0, .int 0, .int 0]))]]) ([.ref a, .int v, .int w] : List Value).toArray s 0 0 (inB [[(a, .inr (1, [.int k, .int g, .int h, .int u, .int o, .int t, .int x]))]])) (F0 m 0 ls []) by rw [hH, hlocs] at hgo; exact hgo
  clear hH hlocs
  refine lv_aload_n S.1 S.2.1 dX1_begin_0 rfl (lv_at hl 0 rfl) ?_
  refine lv_iload_n S.1 S.2.1 dX1_begin_1 rfl (lv_at hl 1 rfl) ?_
  refine pf_X1_9 S hK hP hD hS 0 0 rfl rfl (Nat.le_of_ble_eq_true rfl) rfl (Bs1 := [[(a, .inr (1, [.int v, .int g, .int h, .int u, .int o, .int t, .int x]))]]) rfl dX1_begin_2 (fun H locs hP hD hS => ?_)
  refine lv_aload_n S.1 S.2.1 dX1_begin_5 rfl (lv_at hl 0 rfl) ?_
  refine lv_iload_n S.1 S.2.1 dX1_begin_6 rfl (lv_at hl 2 rfl) ?_
  refine pf_X1_15 S hK hP hD hS 0 0 rfl rfl (Nat.le_of_ble_eq_true rfl) rfl (Bs1 := [[(a, .inr (1, [.int v, .int w, .int h, .int u, .int o, .int t, .int x]))]]) rfl dX1_begin_7 (fun H locs hP hD hS => ?_)
  refine lv_aload_n S.1 S.2.1 dX1_begin_10 rfl (lv_at hl 0 rfl) ?_
  refine lv_iconst (v := 2) S.1 S.2.1 dX1_begin_11 (by decide) ?_
  refine pf_X1_18 S hK hP hD hS 0 0 rfl rfl (Nat.le_of_ble_eq_true rfl) rfl (Bs1 := [[(a, .inr (1, [.int v, .int w, .int 2, .int u, .int o, .int t, .int x]))]]) rfl dX1_begin_12 (fun H locs hP hD hS => ?_)
  refine lv_aload_n S.1 S.2.1 dX1_begin_15 rfl (lv_at hl 0 rfl) ?_
  refine lv_iconst (v := 0) S.1 S.2.1 dX1_begin_16 (by decide) ?_
  refine pf_X1_21 S hK hP hD hS 0 0 rfl rfl (Nat.le_of_ble_eq_true rfl) rfl (Bs1 := [[(a, .inr (1, [.int v, .int w, .int 2, .int 0, .int o, .int t, .int x]))]]) rfl dX1_begin_17 (fun H locs hP hD hS => ?_)
  refine lv_aload_n S.1 S.2.1 dX1_begin_20 rfl (lv_at hl 0 rfl) ?_
  refine lv_iconst (v := 0) S.1 S.2.1 dX1_begin_21 (by decide) ?_
  refine pf_X1_24 S hK hP hD hS 0 0 rfl rfl (Nat.le_of_ble_eq_true rfl) rfl (Bs1 := [[(a, .inr (1, [.int v, .int w, .int 2, .int 0, .int 0, .int t, .int x]))]]) rfl dX1_begin_22 (fun H locs hP hD hS => ?_)
  refine lv_aload_n S.1 S.2.1 dX1_begin_25 rfl (lv_at hl 0 rfl) ?_
  refine lv_iconst (v := 0) S.1 S.2.1 dX1_begin_26 (by decide) ?_
  refine pf_X1_27 S hK hP hD hS 0 0 rfl rfl (Nat.le_of_ble_eq_true rfl) rfl (Bs1 := [[(a, .inr (1, [.int v, .int w, .int 2, .int 0, .int 0, .int 0, .int x]))]]) rfl dX1_begin_27 (fun H locs hP hD hS => ?_)
  refine lv_aload_n S.1 S.2.1 dX1_begin_30 rfl (lv_at hl 0 rfl) ?_
  refine lv_iconst (v := 0) S.1 S.2.1 dX1_begin_31 (by decide) ?_
  refine pf_X1_30 S hK hP hD hS 0 0 rfl rfl (Nat.le_of_ble_eq_true rfl) rfl (Bs1 := [[(a, .inr (1, [.int v, .int w, .int 2, .int 0, .int 0, .int 0, .int 0]))]]) rfl dX1_begin_32 (fun H locs hP hD hS => ?_)
  exact retV S hr hlk hP hS dX1_begin_35
set_option maxHeartbeats 4000000 in
set_option maxRecDepth 100000 in
theorem c_X1_put (l : Launch) (E : EV) (a : Nat) (k g h u o t x : Int32) (v w : Int32)  : Met l yX1_put (wq yX1_put cX1_put 3 none) ({ frames := 0, cells := 0, slots := 0, locals := 0 }) (preB E [.ref a, .int v, .int w] [[(a, .inr (1, [.int k, .int g, .int h, .int u, .int o, .int t, .int x]))]]) (qV E [[(a, .inr (1, [.int k, .int g, .int h, .int u, .int o, .int t, .int x]))]] [[(a, .inr (1, [.int (putV0 k v w), .int (putV1 g v w), .int (putV2 h v w), .int (putV3 u v w), .int (putV4 o v w), .int (putV5 t v w), .int (putV6 x v w)]))]]) 0 0 (inB [[(a, .inr (1, [.int k, .int g, .int h, .int u, .int o, .int t, .int x]))]]) := by
  refine M_mk RX1 (by decide) rfl (Nat.le_of_ble_eq_true rfl) ?_
  intro p e s m below meth c S hr hlk hK hP hD hS ls hl
  have hl : lv_has ls 3 [(0, .ref a), (1, .int v), (2, .int w)] := hl
  obtain ⟨H, hH⟩ : ∃ z, z = s.heap := ⟨_, rfl⟩
  obtain ⟨locs, hlocs⟩ : ∃ z : List Loc, z = [] := ⟨_, rfl⟩
  have hP : PE E [[(a, .inr (1, [.int k, .int g, .int h, .int u, .int o, .int t, .int x]))]] H := by rw [hH]; exact hP
  have hS : va_S (inB [[(a, .inr (1, [.int k, .int g, .int h, .int u, .int o, .int t, .int x]))]]) s.heap H locs := by rw [hH, hlocs]; exact hS
  show W p l e ({ frames := 0, cells := 0, slots := 0, locals := 0 }) s m ([.ref a, .int v, .int w] : List Value).toArray below meth c s.heap [] 0 0 _ _
  suffices hgo : W p l e ({ frames := 0, cells := 0, slots := 0, locals := 0 }) s m ([.ref a, .int v, .int w] : List Value).toArray below meth c H locs 0 0 (MQ below (qV E [[(a, .inr (1, [.int k, .int g, .int h, .int u, .int o, .int t, .int x]))]] [[(a, .inr (1, [.int (putV0 k v w), .int (putV1 g v w), .int (putV2 h v w), .int (putV3 u v w), .int (putV4 o v w), .int (putV5 t v w), .int (putV6 x v w)]))]]) ([.ref a, .int v, .int w] : List Value).toArray s 0 0 (inB [[(a, .inr (1, [.int k, .int g, .int h, .int u, .int o, .int t, .int x]))]])) (F0 m 0 ls []) by rw [hH, hlocs] at hgo; exact hgo
  clear hH hlocs
  refine lv_iload_n S.1 S.2.1 dX1_put_0 rfl (lv_at hl 1 rfl) ?_
  by_cases k_1_0 : v = 0
  · refine lv_tableIn (tgt := 40) S.1 S.2.1 dX1_put_1 (by rw [k_1_0]; decide) (by rw [k_1_0]; decide) (by rw [k_1_0]; rfl) (by decide) ?_
    refine lv_aload_n S.1 S.2.1 dX1_put_40 rfl (lv_at hl 0 rfl) ?_
    refine lv_iload_n S.1 S.2.1 dX1_put_41 rfl (lv_at hl 2 rfl) ?_
    refine pf_X1_9 S hK hP hD hS 0 0 rfl rfl (Nat.le_of_ble_eq_true rfl) rfl (Bs1 := [[(a, .inr (1, [.int w, .int g, .int h, .int u, .int o, .int t, .int x]))]]) rfl dX1_put_42 (fun H locs hP hD hS => ?_)
    refine lv_goto (tgt := 93) S.1 S.2.1 dX1_put_45 (by decide) ?_
    exact retV S hr hlk (by simpa [putV0, putV1, putV2, putV3, putV4, putV5, putV6, k_1_0] using hP) hS dX1_put_93
  by_cases k_1_1 : v = 1
  · refine lv_tableIn (tgt := 48) S.1 S.2.1 dX1_put_1 (by rw [k_1_1]; decide) (by rw [k_1_1]; decide) (by rw [k_1_1]; rfl) (by decide) ?_
    refine lv_aload_n S.1 S.2.1 dX1_put_48 rfl (lv_at hl 0 rfl) ?_
    refine lv_iload_n S.1 S.2.1 dX1_put_49 rfl (lv_at hl 2 rfl) ?_
    refine pf_X1_15 S hK hP hD hS 0 0 rfl rfl (Nat.le_of_ble_eq_true rfl) rfl (Bs1 := [[(a, .inr (1, [.int k, .int w, .int h, .int u, .int o, .int t, .int x]))]]) rfl dX1_put_50 (fun H locs hP hD hS => ?_)
    refine lv_goto (tgt := 93) S.1 S.2.1 dX1_put_53 (by decide) ?_
    exact retV S hr hlk (by simpa [putV0, putV1, putV2, putV3, putV4, putV5, putV6, k_1_1, k_1_0] using hP) hS dX1_put_93
  by_cases k_1_2 : v = 2
  · refine lv_tableIn (tgt := 56) S.1 S.2.1 dX1_put_1 (by rw [k_1_2]; decide) (by rw [k_1_2]; decide) (by rw [k_1_2]; rfl) (by decide) ?_
    refine lv_aload_n S.1 S.2.1 dX1_put_56 rfl (lv_at hl 0 rfl) ?_
    refine lv_iload_n S.1 S.2.1 dX1_put_57 rfl (lv_at hl 2 rfl) ?_
    refine pf_X1_18 S hK hP hD hS 0 0 rfl rfl (Nat.le_of_ble_eq_true rfl) rfl (Bs1 := [[(a, .inr (1, [.int k, .int g, .int w, .int u, .int o, .int t, .int x]))]]) rfl dX1_put_58 (fun H locs hP hD hS => ?_)
    refine lv_goto (tgt := 93) S.1 S.2.1 dX1_put_61 (by decide) ?_
    exact retV S hr hlk (by simpa [putV0, putV1, putV2, putV3, putV4, putV5, putV6, k_1_2, k_1_0, k_1_1] using hP) hS dX1_put_93
  by_cases k_1_3 : v = 3
  · refine lv_tableIn (tgt := 64) S.1 S.2.1 dX1_put_1 (by rw [k_1_3]; decide) (by rw [k_1_3]; decide) (by rw [k_1_3]; rfl) (by decide) ?_
    refine lv_aload_n S.1 S.2.1 dX1_put_64 rfl (lv_at hl 0 rfl) ?_
    refine lv_iload_n S.1 S.2.1 dX1_put_65 rfl (lv_at hl 2 rfl) ?_
    refine pf_X1_21 S hK hP hD hS 0 0 rfl rfl (Nat.le_of_ble_eq_true rfl) rfl (Bs1 := [[(a, .inr (1, [.int k, .int g, .int h, .int w, .int o, .int t, .int x]))]]) rfl dX1_put_66 (fun H locs hP hD hS => ?_)
    refine lv_goto (tgt := 93) S.1 S.2.1 dX1_put_69 (by decide) ?_
    exact retV S hr hlk (by simpa [putV0, putV1, putV2, putV3, putV4, putV5, putV6, k_1_3, k_1_0, k_1_1, k_1_2] using hP) hS dX1_put_93
  by_cases k_1_4 : v = 4
  · refine lv_tableIn (tgt := 72) S.1 S.2.1 dX1_put_1 (by rw [k_1_4]; decide) (by rw [k_1_4]; decide) (by rw [k_1_4]; rfl) (by decide) ?_
    refine lv_aload_n S.1 S.2.1 dX1_put_72 rfl (lv_at hl 0 rfl) ?_
    refine lv_iload_n S.1 S.2.1 dX1_put_73 rfl (lv_at hl 2 rfl) ?_
    refine pf_X1_24 S hK hP hD hS 0 0 rfl rfl (Nat.le_of_ble_eq_true rfl) rfl (Bs1 := [[(a, .inr (1, [.int k, .int g, .int h, .int u, .int w, .int t, .int x]))]]) rfl dX1_put_74 (fun H locs hP hD hS => ?_)
    refine lv_goto (tgt := 93) S.1 S.2.1 dX1_put_77 (by decide) ?_
    exact retV S hr hlk (by simpa [putV0, putV1, putV2, putV3, putV4, putV5, putV6, k_1_4, k_1_0, k_1_1, k_1_2, k_1_3] using hP) hS dX1_put_93
  by_cases k_1_5 : v = 5
  · refine lv_tableIn (tgt := 80) S.1 S.2.1 dX1_put_1 (by rw [k_1_5]; decide) (by rw [k_1_5]; decide) (by rw [k_1_5]; rfl) (by decide) ?_
    refine lv_aload_n S.1 S.2.1 dX1_put_80 rfl (lv_at hl 0 rfl) ?_
    refine lv_iload_n S.1 S.2.1 dX1_put_81 rfl (lv_at hl 2 rfl) ?_
    refine pf_X1_27 S hK hP hD hS 0 0 rfl rfl (Nat.le_of_ble_eq_true rfl) rfl (Bs1 := [[(a, .inr (1, [.int k, .int g, .int h, .int u, .int o, .int w, .int x]))]]) rfl dX1_put_82 (fun H locs hP hD hS => ?_)
    refine lv_goto (tgt := 93) S.1 S.2.1 dX1_put_85 (by decide) ?_
    exact retV S hr hlk (by simpa [putV0, putV1, putV2, putV3, putV4, putV5, putV6, k_1_5, k_1_0, k_1_1, k_1_2, k_1_3, k_1_4] using hP) hS dX1_put_93
  have t_1_0 := ne_toInt (n := 0) (by decide) k_1_0
  have t_1_1 := ne_toInt (n := 1) (by decide) k_1_1
  have t_1_2 := ne_toInt (n := 2) (by decide) k_1_2
  have t_1_3 := ne_toInt (n := 3) (by decide) k_1_3
  have t_1_4 := ne_toInt (n := 4) (by decide) k_1_4
  have t_1_5 := ne_toInt (n := 5) (by decide) k_1_5
  refine lv_tableOut (tgt := 88) S.1 S.2.1 dX1_put_1 (by omega) (by decide) ?_
  refine lv_aload_n S.1 S.2.1 dX1_put_88 rfl (lv_at hl 0 rfl) ?_
  refine lv_iload_n S.1 S.2.1 dX1_put_89 rfl (lv_at hl 2 rfl) ?_
  refine pf_X1_30 S hK hP hD hS 0 0 rfl rfl (Nat.le_of_ble_eq_true rfl) rfl (Bs1 := [[(a, .inr (1, [.int k, .int g, .int h, .int u, .int o, .int t, .int w]))]]) rfl dX1_put_90 (fun H locs hP hD hS => ?_)
  exact retV S hr hlk (by simpa [putV0, putV1, putV2, putV3, putV4, putV5, putV6, k_1_0, k_1_1, k_1_2, k_1_3, k_1_4, k_1_5] using hP) hS dX1_put_93
set_option maxHeartbeats 4000000 in
set_option maxRecDepth 100000 in
theorem c_X1_become (l : Launch) (E : EV) (a : Nat) (k g h u o t x : Int32) (a2 : Nat) (k2 g2 h2 u2 o2 t2 x2 : Int32)  : Met l yX1_become (wq yX1_become cX1_become 2 none) ({ frames := 0, cells := 0, slots := 0, locals := 0 }) (preB E [.ref a, .ref a2] [[(a, .inr (1, [.int k, .int g, .int h, .int u, .int o, .int t, .int x]))], [(a2, .inr (1, [.int k2, .int g2, .int h2, .int u2, .int o2, .int t2, .int x2]))]]) (qV E [[(a, .inr (1, [.int k, .int g, .int h, .int u, .int o, .int t, .int x]))], [(a2, .inr (1, [.int k2, .int g2, .int h2, .int u2, .int o2, .int t2, .int x2]))]] [[(a, .inr (1, [.int k2, .int g2, .int h2, .int u2, .int o2, .int t2, .int x2]))], [(a2, .inr (1, [.int k2, .int g2, .int h2, .int u2, .int o2, .int t2, .int x2]))]]) 0 0 (inB [[(a, .inr (1, [.int k, .int g, .int h, .int u, .int o, .int t, .int x]))], [(a2, .inr (1, [.int k2, .int g2, .int h2, .int u2, .int o2, .int t2, .int x2]))]]) := by
  refine M_mk RX1 (by decide) rfl (Nat.le_of_ble_eq_true rfl) ?_
  intro p e s m below meth c S hr hlk hK hP hD hS ls hl
  have hl : lv_has ls 2 [(0, .ref a), (1, .ref a2)] := hl
  obtain ⟨H, hH⟩ : ∃ z, z = s.heap := ⟨_, rfl⟩
  obtain ⟨locs, hlocs⟩ : ∃ z : List Loc, z = [] := ⟨_, rfl⟩
  have hP : PE E [[(a, .inr (1, [.int k, .int g, .int h, .int u, .int o, .int t, .int x]))], [(a2, .inr (1, [.int k2, .int g2, .int h2, .int u2, .int o2, .int t2, .int x2]))]] H := by rw [hH]; exact hP
  have hS : va_S (inB [[(a, .inr (1, [.int k, .int g, .int h, .int u, .int o, .int t, .int x]))], [(a2, .inr (1, [.int k2, .int g2, .int h2, .int u2, .int o2, .int t2, .int x2]))]]) s.heap H locs := by rw [hH, hlocs]; exact hS
  show W p l e ({ frames := 0, cells := 0, slots := 0, locals := 0 }) s m ([.ref a, .ref a2] : List Value).toArray below meth c s.heap [] 0 0 _ _
  suffices hgo : W p l e ({ frames := 0, cells := 0, slots := 0, locals := 0 }) s m ([.ref a, .ref a2] : List Value).toArray below meth c H locs 0 0 (MQ below (qV E [[(a, .inr (1, [.int k, .int g, .int h, .int u, .int o, .int t, .int x]))], [(a2, .inr (1, [.int k2, .int g2, .int h2, .int u2, .int o2, .int t2, .int x2]))]] [[(a, .inr (1, [.int k2, .int g2, .int h2, .int u2, .int o2, .int t2, .int x2]))], [(a2, .inr (1, [.int k2, .int g2, .int h2, .int u2, .int o2, .int t2, .int x2]))]]) ([.ref a, .ref a2] : List Value).toArray s 0 0 (inB [[(a, .inr (1, [.int k, .int g, .int h, .int u, .int o, .int t, .int x]))], [(a2, .inr (1, [.int k2, .int g2, .int h2, .int u2, .int o2, .int t2, .int x2]))]])) (F0 m 0 ls []) by rw [hH, hlocs] at hgo; exact hgo
  clear hH hlocs
  refine lv_aload_n S.1 S.2.1 dX1_become_0 rfl (lv_at hl 0 rfl) ?_
  refine lv_aload_n S.1 S.2.1 dX1_become_1 rfl (lv_at hl 1 rfl) ?_
  refine gf_X1_9 S hK hP 1 0 rfl rfl rfl dX1_become_2 ?_
  refine pf_X1_9 S hK hP hD hS 0 0 rfl rfl (Nat.le_of_ble_eq_true rfl) rfl (Bs1 := [[(a, .inr (1, [.int k2, .int g, .int h, .int u, .int o, .int t, .int x]))], [(a2, .inr (1, [.int k2, .int g2, .int h2, .int u2, .int o2, .int t2, .int x2]))]]) rfl dX1_become_5 (fun H locs hP hD hS => ?_)
  refine lv_aload_n S.1 S.2.1 dX1_become_8 rfl (lv_at hl 0 rfl) ?_
  refine lv_aload_n S.1 S.2.1 dX1_become_9 rfl (lv_at hl 1 rfl) ?_
  refine gf_X1_15 S hK hP 1 0 rfl rfl rfl dX1_become_10 ?_
  refine pf_X1_15 S hK hP hD hS 0 0 rfl rfl (Nat.le_of_ble_eq_true rfl) rfl (Bs1 := [[(a, .inr (1, [.int k2, .int g2, .int h, .int u, .int o, .int t, .int x]))], [(a2, .inr (1, [.int k2, .int g2, .int h2, .int u2, .int o2, .int t2, .int x2]))]]) rfl dX1_become_13 (fun H locs hP hD hS => ?_)
  refine lv_aload_n S.1 S.2.1 dX1_become_16 rfl (lv_at hl 0 rfl) ?_
  refine lv_aload_n S.1 S.2.1 dX1_become_17 rfl (lv_at hl 1 rfl) ?_
  refine gf_X1_18 S hK hP 1 0 rfl rfl rfl dX1_become_18 ?_
  refine pf_X1_18 S hK hP hD hS 0 0 rfl rfl (Nat.le_of_ble_eq_true rfl) rfl (Bs1 := [[(a, .inr (1, [.int k2, .int g2, .int h2, .int u, .int o, .int t, .int x]))], [(a2, .inr (1, [.int k2, .int g2, .int h2, .int u2, .int o2, .int t2, .int x2]))]]) rfl dX1_become_21 (fun H locs hP hD hS => ?_)
  refine lv_aload_n S.1 S.2.1 dX1_become_24 rfl (lv_at hl 0 rfl) ?_
  refine lv_aload_n S.1 S.2.1 dX1_become_25 rfl (lv_at hl 1 rfl) ?_
  refine gf_X1_21 S hK hP 1 0 rfl rfl rfl dX1_become_26 ?_
  refine pf_X1_21 S hK hP hD hS 0 0 rfl rfl (Nat.le_of_ble_eq_true rfl) rfl (Bs1 := [[(a, .inr (1, [.int k2, .int g2, .int h2, .int u2, .int o, .int t, .int x]))], [(a2, .inr (1, [.int k2, .int g2, .int h2, .int u2, .int o2, .int t2, .int x2]))]]) rfl dX1_become_29 (fun H locs hP hD hS => ?_)
  refine lv_aload_n S.1 S.2.1 dX1_become_32 rfl (lv_at hl 0 rfl) ?_
  refine lv_aload_n S.1 S.2.1 dX1_become_33 rfl (lv_at hl 1 rfl) ?_
  refine gf_X1_24 S hK hP 1 0 rfl rfl rfl dX1_become_34 ?_
  refine pf_X1_24 S hK hP hD hS 0 0 rfl rfl (Nat.le_of_ble_eq_true rfl) rfl (Bs1 := [[(a, .inr (1, [.int k2, .int g2, .int h2, .int u2, .int o2, .int t, .int x]))], [(a2, .inr (1, [.int k2, .int g2, .int h2, .int u2, .int o2, .int t2, .int x2]))]]) rfl dX1_become_37 (fun H locs hP hD hS => ?_)
  refine lv_aload_n S.1 S.2.1 dX1_become_40 rfl (lv_at hl 0 rfl) ?_
  refine lv_aload_n S.1 S.2.1 dX1_become_41 rfl (lv_at hl 1 rfl) ?_
  refine gf_X1_27 S hK hP 1 0 rfl rfl rfl dX1_become_42 ?_
  refine pf_X1_27 S hK hP hD hS 0 0 rfl rfl (Nat.le_of_ble_eq_true rfl) rfl (Bs1 := [[(a, .inr (1, [.int k2, .int g2, .int h2, .int u2, .int o2, .int t2, .int x]))], [(a2, .inr (1, [.int k2, .int g2, .int h2, .int u2, .int o2, .int t2, .int x2]))]]) rfl dX1_become_45 (fun H locs hP hD hS => ?_)
  refine lv_aload_n S.1 S.2.1 dX1_become_48 rfl (lv_at hl 0 rfl) ?_
  refine lv_aload_n S.1 S.2.1 dX1_become_49 rfl (lv_at hl 1 rfl) ?_
  refine gf_X1_30 S hK hP 1 0 rfl rfl rfl dX1_become_50 ?_
  refine pf_X1_30 S hK hP hD hS 0 0 rfl rfl (Nat.le_of_ble_eq_true rfl) rfl (Bs1 := [[(a, .inr (1, [.int k2, .int g2, .int h2, .int u2, .int o2, .int t2, .int x2]))], [(a2, .inr (1, [.int k2, .int g2, .int h2, .int u2, .int o2, .int t2, .int x2]))]]) rfl dX1_become_53 (fun H locs hP hD hS => ?_)
  exact retV S hr hlk hP hS dX1_become_56
set_option maxHeartbeats 4000000 in
set_option maxRecDepth 100000 in
theorem c_X1_told (l : Launch) (E : EV) (a : Nat) (k g h u o t x : Int32) (w : Int32)  : Met l yX1_told (wq yX1_told cX1_told 2 (some .int)) ({ frames := 0, cells := 0, slots := 0, locals := 0 }) (preB E [.ref a, .int w] [[(a, .inr (1, [.int k, .int g, .int h, .int u, .int o, .int t, .int x]))]]) (qS (toldV k g h u o t x w)) 0 0 (fun _ => False) := by
  refine M_mk RX1 (by decide) rfl (Nat.le_of_ble_eq_true rfl) ?_
  intro p e s m below meth c S hr hlk hK hP hD hS ls hl
  have hl : lv_has ls 2 [(0, .ref a), (1, .int w)] := hl
  refine lv_iload_n S.1 S.2.1 dX1_told_0 rfl (lv_at hl 1 rfl) ?_
  by_cases k_1_0 : w = 0
  · refine lv_tableIn (tgt := 40) S.1 S.2.1 dX1_told_1 (by rw [k_1_0]; decide) (by rw [k_1_0]; decide) (by rw [k_1_0]; rfl) (by decide) ?_
    refine lv_aload_n S.1 S.2.1 dX1_told_40 rfl (lv_at hl 0 rfl) ?_
    refine gf_X1_9 S hK hP 0 0 rfl rfl rfl dX1_told_41 ?_
    exact retS S hr hlk (by first | (simp only [toldV, eq_true k_1_0, ↓reduceIte]; done) | (simp [toldV, eq_true k_1_0, ↓reduceIte]; done) | (simp [toldV, k_1_0]; done)) dX1_told_44
  by_cases k_1_1 : w = 1
  · refine lv_tableIn (tgt := 45) S.1 S.2.1 dX1_told_1 (by rw [k_1_1]; decide) (by rw [k_1_1]; decide) (by rw [k_1_1]; rfl) (by decide) ?_
    refine lv_aload_n S.1 S.2.1 dX1_told_45 rfl (lv_at hl 0 rfl) ?_
    refine gf_X1_15 S hK hP 0 0 rfl rfl rfl dX1_told_46 ?_
    exact retS S hr hlk (by first | (simp only [toldV, eq_true k_1_1, k_1_0, ↓reduceIte]; done) | (simp [toldV, eq_true k_1_1, k_1_0, ↓reduceIte]; done) | (simp [toldV, k_1_1, k_1_0]; done)) dX1_told_49
  by_cases k_1_2 : w = 2
  · refine lv_tableIn (tgt := 50) S.1 S.2.1 dX1_told_1 (by rw [k_1_2]; decide) (by rw [k_1_2]; decide) (by rw [k_1_2]; rfl) (by decide) ?_
    refine lv_aload_n S.1 S.2.1 dX1_told_50 rfl (lv_at hl 0 rfl) ?_
    refine gf_X1_18 S hK hP 0 0 rfl rfl rfl dX1_told_51 ?_
    exact retS S hr hlk (by first | (simp only [toldV, eq_true k_1_2, k_1_0, k_1_1, ↓reduceIte]; done) | (simp [toldV, eq_true k_1_2, k_1_0, k_1_1, ↓reduceIte]; done) | (simp [toldV, k_1_2, k_1_0, k_1_1]; done)) dX1_told_54
  by_cases k_1_3 : w = 3
  · refine lv_tableIn (tgt := 55) S.1 S.2.1 dX1_told_1 (by rw [k_1_3]; decide) (by rw [k_1_3]; decide) (by rw [k_1_3]; rfl) (by decide) ?_
    refine lv_aload_n S.1 S.2.1 dX1_told_55 rfl (lv_at hl 0 rfl) ?_
    refine gf_X1_21 S hK hP 0 0 rfl rfl rfl dX1_told_56 ?_
    exact retS S hr hlk (by first | (simp only [toldV, eq_true k_1_3, k_1_0, k_1_1, k_1_2, ↓reduceIte]; done) | (simp [toldV, eq_true k_1_3, k_1_0, k_1_1, k_1_2, ↓reduceIte]; done) | (simp [toldV, k_1_3, k_1_0, k_1_1, k_1_2]; done)) dX1_told_59
  by_cases k_1_4 : w = 4
  · refine lv_tableIn (tgt := 60) S.1 S.2.1 dX1_told_1 (by rw [k_1_4]; decide) (by rw [k_1_4]; decide) (by rw [k_1_4]; rfl) (by decide) ?_
    refine lv_aload_n S.1 S.2.1 dX1_told_60 rfl (lv_at hl 0 rfl) ?_
    refine gf_X1_24 S hK hP 0 0 rfl rfl rfl dX1_told_61 ?_
    exact retS S hr hlk (by first | (simp only [toldV, eq_true k_1_4, k_1_0, k_1_1, k_1_2, k_1_3, ↓reduceIte]; done) | (simp [toldV, eq_true k_1_4, k_1_0, k_1_1, k_1_2, k_1_3, ↓reduceIte]; done) | (simp [toldV, k_1_4, k_1_0, k_1_1, k_1_2, k_1_3]; done)) dX1_told_64
  by_cases k_1_5 : w = 5
  · refine lv_tableIn (tgt := 65) S.1 S.2.1 dX1_told_1 (by rw [k_1_5]; decide) (by rw [k_1_5]; decide) (by rw [k_1_5]; rfl) (by decide) ?_
    refine lv_aload_n S.1 S.2.1 dX1_told_65 rfl (lv_at hl 0 rfl) ?_
    refine gf_X1_27 S hK hP 0 0 rfl rfl rfl dX1_told_66 ?_
    exact retS S hr hlk (by first | (simp only [toldV, eq_true k_1_5, k_1_0, k_1_1, k_1_2, k_1_3, k_1_4, ↓reduceIte]; done) | (simp [toldV, eq_true k_1_5, k_1_0, k_1_1, k_1_2, k_1_3, k_1_4, ↓reduceIte]; done) | (simp [toldV, k_1_5, k_1_0, k_1_1, k_1_2, k_1_3, k_1_4]; done)) dX1_told_69
  have t_1_0 := ne_toInt (n := 0) (by decide) k_1_0
  have t_1_1 := ne_toInt (n := 1) (by decide) k_1_1
  have t_1_2 := ne_toInt (n := 2) (by decide) k_1_2
  have t_1_3 := ne_toInt (n := 3) (by decide) k_1_3
  have t_1_4 := ne_toInt (n := 4) (by decide) k_1_4
  have t_1_5 := ne_toInt (n := 5) (by decide) k_1_5
  refine lv_tableOut (tgt := 70) S.1 S.2.1 dX1_told_1 (by omega) (by decide) ?_
  refine lv_aload_n S.1 S.2.1 dX1_told_70 rfl (lv_at hl 0 rfl) ?_
  refine gf_X1_30 S hK hP 0 0 rfl rfl rfl dX1_told_71 ?_
  exact retS S hr hlk (by first | (simp only [toldV, k_1_0, k_1_1, k_1_2, k_1_3, k_1_4, k_1_5, ↓reduceIte]; done) | (simp [toldV, k_1_0, k_1_1, k_1_2, k_1_3, k_1_4, k_1_5, ↓reduceIte]; done) | (simp [toldV, k_1_0, k_1_1, k_1_2, k_1_3, k_1_4, k_1_5]; done)) dX1_told_74
set_option maxHeartbeats 4000000 in
set_option maxRecDepth 100000 in
theorem c_X1_cries (l : Launch) (E : EV) (a : Nat) (k g h u o t x : Int32) (w : Int32)  : Met l yX1_cries (wq yX1_cries cX1_cries 3 (some .int)) ({ frames := 0, cells := 0, slots := 0, locals := 0 }) (preB E [.ref a, .int w] [[(a, .inr (1, [.int k, .int g, .int h, .int u, .int o, .int t, .int x]))]]) (qS (criesV k g t w)) 0 0 (fun _ => False) := by
  refine M_mk RX1 (by decide) rfl (Nat.le_of_ble_eq_true rfl) ?_
  intro p e s m below meth c S hr hlk hK hP hD hS ls hl
  have hl : lv_has ls 3 [(0, .ref a), (1, .int w)] := hl
  refine lv_aload_n S.1 S.2.1 dX1_cries_0 rfl (lv_at hl 0 rfl) ?_
  refine gf_X1_15 S hK hP 0 0 rfl rfl rfl dX1_cries_1 ?_
  refine lv_bipush (v := 10) S.1 S.2.1 dX1_cries_4 (by decide) ?_
  refine lv_idiv S.1 S.2.1 dX1_cries_6 (by decide) ?_
  refine lv_istore_n (lv' := [(2, .int (g / 10)), (0, .ref a), (1, .int w)]) S.1 S.2.1 dX1_cries_7 rfl hl (by decide) rfl (fun ls hl => ?_)
  refine lv_aload_n S.1 S.2.1 dX1_cries_8 rfl (lv_at hl 1 rfl) ?_
  refine gf_X1_9 S hK hP 0 0 rfl rfl rfl dX1_cries_9 ?_
  by_cases k_12_1 : k = 1
  · refine lv_tableIn (tgt := 52) S.1 S.2.1 dX1_cries_12 (by rw [k_12_1]; decide) (by rw [k_12_1]; decide) (by rw [k_12_1]; rfl) (by decide) ?_
    refine lv_iload_n S.1 S.2.1 dX1_cries_52 rfl (lv_at hl 2 rfl) ?_
    refine lv_if_le (tgt := 62) S.1 S.2.1 dX1_cries_53 (by decide) (fun c_53 => ?_) (fun c_53 => ?_)
    · have n_53 := Int32.not_lt.mpr c_53
      refine lv_iload_n S.1 S.2.1 dX1_cries_62 rfl (lv_at hl 0 rfl) ?_
      exact retS S hr hlk (by first | (simp only [criesV, eq_true k_12_1, c_53, n_53, ↓reduceIte]; done) | (simp [criesV, eq_true k_12_1, c_53, n_53, ↓reduceIte]; done) | (simp [criesV, k_12_1, c_53, n_53]; done)) dX1_cries_63
    · have n_53 := Int32.not_le.mp c_53
      refine lv_iload_n S.1 S.2.1 dX1_cries_56 rfl (lv_at hl 0 rfl) ?_
      refine lv_iconst (v := 3) S.1 S.2.1 dX1_cries_57 (by decide) ?_
      refine lv_iadd S.1 S.2.1 dX1_cries_58 ?_
      refine lv_goto (tgt := 63) S.1 S.2.1 dX1_cries_59 (by decide) ?_
      exact retS S hr hlk (by first | (simp only [criesV, eq_true k_12_1, c_53, n_53, ↓reduceIte]; done) | (simp [criesV, eq_true k_12_1, c_53, n_53, ↓reduceIte]; done) | (simp [criesV, k_12_1, c_53, n_53]; done)) dX1_cries_63
  by_cases k_12_2 : k = 2
  · refine lv_tableIn (tgt := 64) S.1 S.2.1 dX1_cries_12 (by rw [k_12_2]; decide) (by rw [k_12_2]; decide) (by rw [k_12_2]; rfl) (by decide) ?_
    refine lv_iconst (v := 2) S.1 S.2.1 dX1_cries_64 (by decide) ?_
    refine lv_iload_n S.1 S.2.1 dX1_cries_65 rfl (lv_at hl 0 rfl) ?_
    refine lv_imul S.1 S.2.1 dX1_cries_66 ?_
    exact retS S hr hlk (by first | (simp only [criesV, eq_true k_12_2, k_12_1, ↓reduceIte]; done) | (simp [criesV, eq_true k_12_2, k_12_1, ↓reduceIte]; done) | (simp [criesV, k_12_2, k_12_1]; done)) dX1_cries_67
  by_cases k_12_3 : k = 3
  · refine lv_tableIn (tgt := 68) S.1 S.2.1 dX1_cries_12 (by rw [k_12_3]; decide) (by rw [k_12_3]; decide) (by rw [k_12_3]; rfl) (by decide) ?_
    refine lv_iconst (v := 2) S.1 S.2.1 dX1_cries_68 (by decide) ?_
    refine lv_iload_n S.1 S.2.1 dX1_cries_69 rfl (lv_at hl 0 rfl) ?_
    refine lv_imul S.1 S.2.1 dX1_cries_70 ?_
    refine lv_iconst (v := 2) S.1 S.2.1 dX1_cries_71 (by decide) ?_
    refine lv_iadd S.1 S.2.1 dX1_cries_72 ?_
    exact retS S hr hlk (by first | (simp only [criesV, eq_true k_12_3, k_12_1, k_12_2, ↓reduceIte]; done) | (simp [criesV, eq_true k_12_3, k_12_1, k_12_2, ↓reduceIte]; done) | (simp [criesV, k_12_3, k_12_1, k_12_2]; done)) dX1_cries_73
  by_cases k_12_4 : k = 4
  · refine lv_tableIn (tgt := 74) S.1 S.2.1 dX1_cries_12 (by rw [k_12_4]; decide) (by rw [k_12_4]; decide) (by rw [k_12_4]; rfl) (by decide) ?_
    refine lv_aload_n S.1 S.2.1 dX1_cries_74 rfl (lv_at hl 1 rfl) ?_
    refine gf_X1_27 S hK hP 0 0 rfl rfl rfl dX1_cries_75 ?_
    refine lv_bipush (v := 50) S.1 S.2.1 dX1_cries_78 (by decide) ?_
    refine lv_icmp_lt (tgt := 87) S.1 S.2.1 dX1_cries_80 (by decide) (fun c_80 => ?_) (fun c_80 => ?_)
    · have n_80 := Int32.not_le.mpr c_80
      refine lv_iconst (v := 2) S.1 S.2.1 dX1_cries_87 (by decide) ?_
      refine lv_iload_n S.1 S.2.1 dX1_cries_88 rfl (lv_at hl 0 rfl) ?_
      refine lv_imul S.1 S.2.1 dX1_cries_89 ?_
      refine lv_iconst (v := 2) S.1 S.2.1 dX1_cries_90 (by decide) ?_
      refine lv_iadd S.1 S.2.1 dX1_cries_91 ?_
      exact retS S hr hlk (by first | (simp only [criesV, eq_true k_12_4, k_12_1, k_12_2, k_12_3, c_80, n_80, ↓reduceIte]; done) | (simp [criesV, eq_true k_12_4, k_12_1, k_12_2, k_12_3, c_80, n_80, ↓reduceIte]; done) | (simp [criesV, k_12_4, k_12_1, k_12_2, k_12_3, c_80, n_80]; done)) dX1_cries_92
    · have n_80 := Int32.not_lt.mp c_80
      refine lv_iconst (v := 0) S.1 S.2.1 dX1_cries_83 (by decide) ?_
      refine lv_goto (tgt := 92) S.1 S.2.1 dX1_cries_84 (by decide) ?_
      exact retS S hr hlk (by first | (simp only [criesV, eq_true k_12_4, k_12_1, k_12_2, k_12_3, c_80, n_80, ↓reduceIte]; done) | (simp [criesV, eq_true k_12_4, k_12_1, k_12_2, k_12_3, c_80, n_80, ↓reduceIte]; done) | (simp [criesV, k_12_4, k_12_1, k_12_2, k_12_3, c_80, n_80]; done)) dX1_cries_92
  by_cases k_12_5 : k = 5
  · refine lv_tableIn (tgt := 93) S.1 S.2.1 dX1_cries_12 (by rw [k_12_5]; decide) (by rw [k_12_5]; decide) (by rw [k_12_5]; rfl) (by decide) ?_
    refine lv_iconst (v := 0) S.1 S.2.1 dX1_cries_93 (by decide) ?_
    exact retS S hr hlk (by first | (simp only [criesV, eq_true k_12_5, k_12_1, k_12_2, k_12_3, k_12_4, ↓reduceIte]; done) | (simp [criesV, eq_true k_12_5, k_12_1, k_12_2, k_12_3, k_12_4, ↓reduceIte]; done) | (simp [criesV, k_12_5, k_12_1, k_12_2, k_12_3, k_12_4]; done)) dX1_cries_94
  by_cases k_12_6 : k = 6
  · refine lv_tableIn (tgt := 95) S.1 S.2.1 dX1_cries_12 (by rw [k_12_6]; decide) (by rw [k_12_6]; decide) (by rw [k_12_6]; rfl) (by decide) ?_
    refine lv_iconst (v := 0) S.1 S.2.1 dX1_cries_95 (by decide) ?_
    exact retS S hr hlk (by first | (simp only [criesV, eq_true k_12_6, k_12_1, k_12_2, k_12_3, k_12_4, k_12_5, ↓reduceIte]; done) | (simp [criesV, eq_true k_12_6, k_12_1, k_12_2, k_12_3, k_12_4, k_12_5, ↓reduceIte]; done) | (simp [criesV, k_12_6, k_12_1, k_12_2, k_12_3, k_12_4, k_12_5]; done)) dX1_cries_96
  have t_12_1 := ne_toInt (n := 1) (by decide) k_12_1
  have t_12_2 := ne_toInt (n := 2) (by decide) k_12_2
  have t_12_3 := ne_toInt (n := 3) (by decide) k_12_3
  have t_12_4 := ne_toInt (n := 4) (by decide) k_12_4
  have t_12_5 := ne_toInt (n := 5) (by decide) k_12_5
  have t_12_6 := ne_toInt (n := 6) (by decide) k_12_6
  refine lv_tableOut (tgt := 97) S.1 S.2.1 dX1_cries_12 (by omega) (by decide) ?_
  refine lv_iload_n S.1 S.2.1 dX1_cries_97 rfl (lv_at hl 0 rfl) ?_
  exact retS S hr hlk (by first | (simp only [criesV, k_12_1, k_12_2, k_12_3, k_12_4, k_12_5, k_12_6, ↓reduceIte]; done) | (simp [criesV, k_12_1, k_12_2, k_12_3, k_12_4, k_12_5, k_12_6, ↓reduceIte]; done) | (simp [criesV, k_12_1, k_12_2, k_12_3, k_12_4, k_12_5, k_12_6]; done)) dX1_cries_98
set_option maxHeartbeats 4000000 in
set_option maxRecDepth 100000 in
theorem c_X1_weathers (l : Launch) (E : EV) (a : Nat) (k g h u o t x : Int32) (w : Int32)  : Met l yX1_weathers (wq yX1_weathers cX1_weathers 5 (some .int)) ({ frames := 0, cells := 0, slots := 0, locals := 0 }) (preB E [.ref a, .int w] [[(a, .inr (1, [.int k, .int g, .int h, .int u, .int o, .int t, .int x]))]]) (qS (weathersV k h w)) 0 0 (fun _ => False) := by
  refine M_mk RX1 (by decide) rfl (Nat.le_of_ble_eq_true rfl) ?_
  intro p e s m below meth c S hr hlk hK hP hD hS ls hl
  have hl : lv_has ls 5 [(0, .ref a), (1, .int w)] := hl
  refine lv_iload_n S.1 S.2.1 dX1_weathers_0 rfl (lv_at hl 1 rfl) ?_
  refine lv_bipush (v := 10) S.1 S.2.1 dX1_weathers_1 (by decide) ?_
  refine lv_idiv S.1 S.2.1 dX1_weathers_3 (by decide) ?_
  refine lv_istore_n (lv' := [(2, .int (w / 10)), (0, .ref a), (1, .int w)]) S.1 S.2.1 dX1_weathers_4 rfl hl (by decide) rfl (fun ls hl => ?_)
  refine lv_iload_n S.1 S.2.1 dX1_weathers_5 rfl (lv_at hl 2 rfl) ?_
  refine lv_bipush (v := 10) S.1 S.2.1 dX1_weathers_6 (by decide) ?_
  refine lv_irem S.1 S.2.1 dX1_weathers_8 (by decide) ?_
  refine lv_istore_n (lv' := [(3, .int (w - w / 10 * 10)), (2, .int (w / 10)), (0, .ref a), (1, .int w)]) S.1 S.2.1 dX1_weathers_9 rfl hl (by decide) rfl (fun ls hl => ?_)
  refine lv_aload_n S.1 S.2.1 dX1_weathers_10 rfl (lv_at hl 2 rfl) ?_
  refine gf_X1_18 S hK hP 0 0 rfl rfl rfl dX1_weathers_11 ?_
  refine lv_iload_n S.1 S.2.1 dX1_weathers_14 rfl (lv_at hl 1 rfl) ?_
  refine lv_imul S.1 S.2.1 dX1_weathers_15 ?_
  refine lv_iconst (v := 2) S.1 S.2.1 dX1_weathers_16 (by decide) ?_
  refine lv_idiv S.1 S.2.1 dX1_weathers_17 (by decide) ?_
  refine lv_aload_n S.1 S.2.1 dX1_weathers_18 rfl (lv_at hl 2 rfl) ?_
  refine gf_X1_18 S hK hP 0 0 rfl rfl rfl dX1_weathers_19 ?_
  refine lv_if_le (tgt := 29) S.1 S.2.1 dX1_weathers_22 (by decide) (fun c_22 => ?_) (fun c_22 => ?_)
  · have n_22 := Int32.not_lt.mpr c_22
    refine lv_iconst (v := 0) S.1 S.2.1 dX1_weathers_29 (by decide) ?_
    refine lv_iadd S.1 S.2.1 dX1_weathers_30 ?_
    refine lv_istore (lv' := [(4, .int (((h * (w / 10)) / 2) + 0)), (3, .int (w - w / 10 * 10)), (2, .int (w / 10)), (0, .ref a), (1, .int w)]) S.1 S.2.1 dX1_weathers_31 hl (by decide) rfl (fun ls hl => ?_)
    refine lv_aload_n S.1 S.2.1 dX1_weathers_33 rfl (lv_at hl 3 rfl) ?_
    refine gf_X1_9 S hK hP 0 0 rfl rfl rfl dX1_weathers_34 ?_
    by_cases k_37_2 : k = 2
    · refine lv_tableIn (tgt := 72) S.1 S.2.1 dX1_weathers_37 (by rw [k_37_2]; decide) (by rw [k_37_2]; decide) (by rw [k_37_2]; rfl) (by decide) ?_
      refine lv_iload S.1 S.2.1 dX1_weathers_72 (lv_at hl 0 rfl) ?_
      refine lv_iconst (v := 2) S.1 S.2.1 dX1_weathers_74 (by decide) ?_
      refine lv_idiv S.1 S.2.1 dX1_weathers_75 (by decide) ?_
      exact retS S hr hlk (by first | (simp only [weathersV, plainV, c_22, n_22, eq_true k_37_2, ↓reduceIte]; done) | (simp [weathersV, plainV, c_22, n_22, eq_true k_37_2, ↓reduceIte]; done) | (simp [weathersV, plainV, c_22, n_22, k_37_2]; done)) dX1_weathers_76
    by_cases k_37_3 : k = 3
    · refine lv_tableIn (tgt := 77) S.1 S.2.1 dX1_weathers_37 (by rw [k_37_3]; decide) (by rw [k_37_3]; decide) (by rw [k_37_3]; rfl) (by decide) ?_
      refine lv_iload S.1 S.2.1 dX1_weathers_77 (lv_at hl 0 rfl) ?_
      refine lv_iconst (v := 2) S.1 S.2.1 dX1_weathers_79 (by decide) ?_
      refine lv_idiv S.1 S.2.1 dX1_weathers_80 (by decide) ?_
      exact retS S hr hlk (by first | (simp only [weathersV, plainV, c_22, n_22, eq_true k_37_3, k_37_2, ↓reduceIte]; done) | (simp [weathersV, plainV, c_22, n_22, eq_true k_37_3, k_37_2, ↓reduceIte]; done) | (simp [weathersV, plainV, c_22, n_22, k_37_3, k_37_2]; done)) dX1_weathers_81
    by_cases k_37_4 : k = 4
    · refine lv_tableIn (tgt := 82) S.1 S.2.1 dX1_weathers_37 (by rw [k_37_4]; decide) (by rw [k_37_4]; decide) (by rw [k_37_4]; rfl) (by decide) ?_
      refine lv_iload S.1 S.2.1 dX1_weathers_82 (lv_at hl 0 rfl) ?_
      refine lv_iconst (v := 2) S.1 S.2.1 dX1_weathers_84 (by decide) ?_
      refine lv_idiv S.1 S.2.1 dX1_weathers_85 (by decide) ?_
      exact retS S hr hlk (by first | (simp only [weathersV, plainV, c_22, n_22, eq_true k_37_4, k_37_2, k_37_3, ↓reduceIte]; done) | (simp [weathersV, plainV, c_22, n_22, eq_true k_37_4, k_37_2, k_37_3, ↓reduceIte]; done) | (simp [weathersV, plainV, c_22, n_22, k_37_4, k_37_2, k_37_3]; done)) dX1_weathers_86
    by_cases k_37_5 : k = 5
    · refine lv_tableIn (tgt := 87) S.1 S.2.1 dX1_weathers_37 (by rw [k_37_5]; decide) (by rw [k_37_5]; decide) (by rw [k_37_5]; rfl) (by decide) ?_
      refine lv_iload S.1 S.2.1 dX1_weathers_87 (lv_at hl 0 rfl) ?_
      refine lv_iload_n S.1 S.2.1 dX1_weathers_89 rfl (lv_at hl 1 rfl) ?_
      refine lv_icmp_le (tgt := 100) S.1 S.2.1 dX1_weathers_90 (by decide) (fun c_90 => ?_) (fun c_90 => ?_)
      · have n_90 := Int32.not_lt.mpr c_90
        refine lv_iconst (v := 0) S.1 S.2.1 dX1_weathers_100 (by decide) ?_
        exact retS S hr hlk (by first | (simp only [weathersV, plainV, c_22, n_22, eq_true k_37_5, k_37_2, k_37_3, k_37_4, c_90, n_90, ↓reduceIte]; done) | (simp [weathersV, plainV, c_22, n_22, eq_true k_37_5, k_37_2, k_37_3, k_37_4, c_90, n_90, ↓reduceIte]; done) | (simp [weathersV, plainV, c_22, n_22, k_37_5, k_37_2, k_37_3, k_37_4, c_90, n_90]; done)) dX1_weathers_101
      · have n_90 := Int32.not_le.mp c_90
        refine lv_iload S.1 S.2.1 dX1_weathers_93 (lv_at hl 0 rfl) ?_
        refine lv_iload_n S.1 S.2.1 dX1_weathers_95 rfl (lv_at hl 1 rfl) ?_
        refine lv_isub S.1 S.2.1 dX1_weathers_96 ?_
        refine lv_goto (tgt := 101) S.1 S.2.1 dX1_weathers_97 (by decide) ?_
        exact retS S hr hlk (by first | (simp only [weathersV, plainV, c_22, n_22, eq_true k_37_5, k_37_2, k_37_3, k_37_4, c_90, n_90, ↓reduceIte]; done) | (simp [weathersV, plainV, c_22, n_22, eq_true k_37_5, k_37_2, k_37_3, k_37_4, c_90, n_90, ↓reduceIte]; done) | (simp [weathersV, plainV, c_22, n_22, k_37_5, k_37_2, k_37_3, k_37_4, c_90, n_90]; done)) dX1_weathers_101
    by_cases k_37_6 : k = 6
    · refine lv_tableIn (tgt := 102) S.1 S.2.1 dX1_weathers_37 (by rw [k_37_6]; decide) (by rw [k_37_6]; decide) (by rw [k_37_6]; rfl) (by decide) ?_
      refine lv_iload_n S.1 S.2.1 dX1_weathers_102 rfl (lv_at hl 2 rfl) ?_
      refine lv_bipush (v := 8) S.1 S.2.1 dX1_weathers_103 (by decide) ?_
      refine lv_icmp_lt (tgt := 115) S.1 S.2.1 dX1_weathers_105 (by decide) (fun c_105 => ?_) (fun c_105 => ?_)
      · have n_105 := Int32.not_le.mpr c_105
        refine lv_iload S.1 S.2.1 dX1_weathers_115 (lv_at hl 0 rfl) ?_
        exact retS S hr hlk (by first | (simp only [weathersV, plainV, c_22, n_22, eq_true k_37_6, k_37_2, k_37_3, k_37_4, k_37_5, c_105, n_105, ↓reduceIte]; done) | (simp [weathersV, plainV, c_22, n_22, eq_true k_37_6, k_37_2, k_37_3, k_37_4, k_37_5, c_105, n_105, ↓reduceIte]; done) | (simp [weathersV, plainV, c_22, n_22, k_37_6, k_37_2, k_37_3, k_37_4, k_37_5, c_105, n_105]; done)) dX1_weathers_117
      · have n_105 := Int32.not_lt.mp c_105
        refine lv_iconst (v := 2) S.1 S.2.1 dX1_weathers_108 (by decide) ?_
        refine lv_iload S.1 S.2.1 dX1_weathers_109 (lv_at hl 0 rfl) ?_
        refine lv_imul S.1 S.2.1 dX1_weathers_111 ?_
        refine lv_goto (tgt := 117) S.1 S.2.1 dX1_weathers_112 (by decide) ?_
        exact retS S hr hlk (by first | (simp only [weathersV, plainV, c_22, n_22, eq_true k_37_6, k_37_2, k_37_3, k_37_4, k_37_5, c_105, n_105, ↓reduceIte]; done) | (simp [weathersV, plainV, c_22, n_22, eq_true k_37_6, k_37_2, k_37_3, k_37_4, k_37_5, c_105, n_105, ↓reduceIte]; done) | (simp [weathersV, plainV, c_22, n_22, k_37_6, k_37_2, k_37_3, k_37_4, k_37_5, c_105, n_105]; done)) dX1_weathers_117
    have t_37_2 := ne_toInt (n := 2) (by decide) k_37_2
    have t_37_3 := ne_toInt (n := 3) (by decide) k_37_3
    have t_37_4 := ne_toInt (n := 4) (by decide) k_37_4
    have t_37_5 := ne_toInt (n := 5) (by decide) k_37_5
    have t_37_6 := ne_toInt (n := 6) (by decide) k_37_6
    refine lv_tableOut (tgt := 118) S.1 S.2.1 dX1_weathers_37 (by omega) (by decide) ?_
    refine lv_iload S.1 S.2.1 dX1_weathers_118 (lv_at hl 0 rfl) ?_
    exact retS S hr hlk (by first | (simp only [weathersV, plainV, c_22, n_22, k_37_2, k_37_3, k_37_4, k_37_5, k_37_6, ↓reduceIte]; done) | (simp [weathersV, plainV, c_22, n_22, k_37_2, k_37_3, k_37_4, k_37_5, k_37_6, ↓reduceIte]; done) | (simp [weathersV, plainV, c_22, n_22, k_37_2, k_37_3, k_37_4, k_37_5, k_37_6]; done)) dX1_weathers_120
  · have n_22 := Int32.not_le.mp c_22
    refine lv_iload_n S.1 S.2.1 dX1_weathers_25 rfl (lv_at hl 0 rfl) ?_
    refine lv_goto (tgt := 30) S.1 S.2.1 dX1_weathers_26 (by decide) ?_
    refine lv_iadd S.1 S.2.1 dX1_weathers_30 ?_
    refine lv_istore (lv' := [(4, .int (((h * (w / 10)) / 2) + (w - w / 10 * 10))), (3, .int (w - w / 10 * 10)), (2, .int (w / 10)), (0, .ref a), (1, .int w)]) S.1 S.2.1 dX1_weathers_31 hl (by decide) rfl (fun ls hl => ?_)
    refine lv_aload_n S.1 S.2.1 dX1_weathers_33 rfl (lv_at hl 3 rfl) ?_
    refine gf_X1_9 S hK hP 0 0 rfl rfl rfl dX1_weathers_34 ?_
    by_cases k_37_2 : k = 2
    · refine lv_tableIn (tgt := 72) S.1 S.2.1 dX1_weathers_37 (by rw [k_37_2]; decide) (by rw [k_37_2]; decide) (by rw [k_37_2]; rfl) (by decide) ?_
      refine lv_iload S.1 S.2.1 dX1_weathers_72 (lv_at hl 0 rfl) ?_
      refine lv_iconst (v := 2) S.1 S.2.1 dX1_weathers_74 (by decide) ?_
      refine lv_idiv S.1 S.2.1 dX1_weathers_75 (by decide) ?_
      exact retS S hr hlk (by first | (simp only [weathersV, plainV, c_22, n_22, eq_true k_37_2, ↓reduceIte]; done) | (simp [weathersV, plainV, c_22, n_22, eq_true k_37_2, ↓reduceIte]; done) | (simp [weathersV, plainV, c_22, n_22, k_37_2]; done)) dX1_weathers_76
    by_cases k_37_3 : k = 3
    · refine lv_tableIn (tgt := 77) S.1 S.2.1 dX1_weathers_37 (by rw [k_37_3]; decide) (by rw [k_37_3]; decide) (by rw [k_37_3]; rfl) (by decide) ?_
      refine lv_iload S.1 S.2.1 dX1_weathers_77 (lv_at hl 0 rfl) ?_
      refine lv_iconst (v := 2) S.1 S.2.1 dX1_weathers_79 (by decide) ?_
      refine lv_idiv S.1 S.2.1 dX1_weathers_80 (by decide) ?_
      exact retS S hr hlk (by first | (simp only [weathersV, plainV, c_22, n_22, eq_true k_37_3, k_37_2, ↓reduceIte]; done) | (simp [weathersV, plainV, c_22, n_22, eq_true k_37_3, k_37_2, ↓reduceIte]; done) | (simp [weathersV, plainV, c_22, n_22, k_37_3, k_37_2]; done)) dX1_weathers_81
    by_cases k_37_4 : k = 4
    · refine lv_tableIn (tgt := 82) S.1 S.2.1 dX1_weathers_37 (by rw [k_37_4]; decide) (by rw [k_37_4]; decide) (by rw [k_37_4]; rfl) (by decide) ?_
      refine lv_iload S.1 S.2.1 dX1_weathers_82 (lv_at hl 0 rfl) ?_
      refine lv_iconst (v := 2) S.1 S.2.1 dX1_weathers_84 (by decide) ?_
      refine lv_idiv S.1 S.2.1 dX1_weathers_85 (by decide) ?_
      exact retS S hr hlk (by first | (simp only [weathersV, plainV, c_22, n_22, eq_true k_37_4, k_37_2, k_37_3, ↓reduceIte]; done) | (simp [weathersV, plainV, c_22, n_22, eq_true k_37_4, k_37_2, k_37_3, ↓reduceIte]; done) | (simp [weathersV, plainV, c_22, n_22, k_37_4, k_37_2, k_37_3]; done)) dX1_weathers_86
    by_cases k_37_5 : k = 5
    · refine lv_tableIn (tgt := 87) S.1 S.2.1 dX1_weathers_37 (by rw [k_37_5]; decide) (by rw [k_37_5]; decide) (by rw [k_37_5]; rfl) (by decide) ?_
      refine lv_iload S.1 S.2.1 dX1_weathers_87 (lv_at hl 0 rfl) ?_
      refine lv_iload_n S.1 S.2.1 dX1_weathers_89 rfl (lv_at hl 1 rfl) ?_
      refine lv_icmp_le (tgt := 100) S.1 S.2.1 dX1_weathers_90 (by decide) (fun c_90 => ?_) (fun c_90 => ?_)
      · have n_90 := Int32.not_lt.mpr c_90
        refine lv_iconst (v := 0) S.1 S.2.1 dX1_weathers_100 (by decide) ?_
        exact retS S hr hlk (by first | (simp only [weathersV, plainV, c_22, n_22, eq_true k_37_5, k_37_2, k_37_3, k_37_4, c_90, n_90, ↓reduceIte]; done) | (simp [weathersV, plainV, c_22, n_22, eq_true k_37_5, k_37_2, k_37_3, k_37_4, c_90, n_90, ↓reduceIte]; done) | (simp [weathersV, plainV, c_22, n_22, k_37_5, k_37_2, k_37_3, k_37_4, c_90, n_90]; done)) dX1_weathers_101
      · have n_90 := Int32.not_le.mp c_90
        refine lv_iload S.1 S.2.1 dX1_weathers_93 (lv_at hl 0 rfl) ?_
        refine lv_iload_n S.1 S.2.1 dX1_weathers_95 rfl (lv_at hl 1 rfl) ?_
        refine lv_isub S.1 S.2.1 dX1_weathers_96 ?_
        refine lv_goto (tgt := 101) S.1 S.2.1 dX1_weathers_97 (by decide) ?_
        exact retS S hr hlk (by first | (simp only [weathersV, plainV, c_22, n_22, eq_true k_37_5, k_37_2, k_37_3, k_37_4, c_90, n_90, ↓reduceIte]; done) | (simp [weathersV, plainV, c_22, n_22, eq_true k_37_5, k_37_2, k_37_3, k_37_4, c_90, n_90, ↓reduceIte]; done) | (simp [weathersV, plainV, c_22, n_22, k_37_5, k_37_2, k_37_3, k_37_4, c_90, n_90]; done)) dX1_weathers_101
    by_cases k_37_6 : k = 6
    · refine lv_tableIn (tgt := 102) S.1 S.2.1 dX1_weathers_37 (by rw [k_37_6]; decide) (by rw [k_37_6]; decide) (by rw [k_37_6]; rfl) (by decide) ?_
      refine lv_iload_n S.1 S.2.1 dX1_weathers_102 rfl (lv_at hl 2 rfl) ?_
      refine lv_bipush (v := 8) S.1 S.2.1 dX1_weathers_103 (by decide) ?_
      refine lv_icmp_lt (tgt := 115) S.1 S.2.1 dX1_weathers_105 (by decide) (fun c_105 => ?_) (fun c_105 => ?_)
      · have n_105 := Int32.not_le.mpr c_105
        refine lv_iload S.1 S.2.1 dX1_weathers_115 (lv_at hl 0 rfl) ?_
        exact retS S hr hlk (by first | (simp only [weathersV, plainV, c_22, n_22, eq_true k_37_6, k_37_2, k_37_3, k_37_4, k_37_5, c_105, n_105, ↓reduceIte]; done) | (simp [weathersV, plainV, c_22, n_22, eq_true k_37_6, k_37_2, k_37_3, k_37_4, k_37_5, c_105, n_105, ↓reduceIte]; done) | (simp [weathersV, plainV, c_22, n_22, k_37_6, k_37_2, k_37_3, k_37_4, k_37_5, c_105, n_105]; done)) dX1_weathers_117
      · have n_105 := Int32.not_lt.mp c_105
        refine lv_iconst (v := 2) S.1 S.2.1 dX1_weathers_108 (by decide) ?_
        refine lv_iload S.1 S.2.1 dX1_weathers_109 (lv_at hl 0 rfl) ?_
        refine lv_imul S.1 S.2.1 dX1_weathers_111 ?_
        refine lv_goto (tgt := 117) S.1 S.2.1 dX1_weathers_112 (by decide) ?_
        exact retS S hr hlk (by first | (simp only [weathersV, plainV, c_22, n_22, eq_true k_37_6, k_37_2, k_37_3, k_37_4, k_37_5, c_105, n_105, ↓reduceIte]; done) | (simp [weathersV, plainV, c_22, n_22, eq_true k_37_6, k_37_2, k_37_3, k_37_4, k_37_5, c_105, n_105, ↓reduceIte]; done) | (simp [weathersV, plainV, c_22, n_22, k_37_6, k_37_2, k_37_3, k_37_4, k_37_5, c_105, n_105]; done)) dX1_weathers_117
    have t_37_2 := ne_toInt (n := 2) (by decide) k_37_2
    have t_37_3 := ne_toInt (n := 3) (by decide) k_37_3
    have t_37_4 := ne_toInt (n := 4) (by decide) k_37_4
    have t_37_5 := ne_toInt (n := 5) (by decide) k_37_5
    have t_37_6 := ne_toInt (n := 6) (by decide) k_37_6
    refine lv_tableOut (tgt := 118) S.1 S.2.1 dX1_weathers_37 (by omega) (by decide) ?_
    refine lv_iload S.1 S.2.1 dX1_weathers_118 (lv_at hl 0 rfl) ?_
    exact retS S hr hlk (by first | (simp only [weathersV, plainV, c_22, n_22, k_37_2, k_37_3, k_37_4, k_37_5, k_37_6, ↓reduceIte]; done) | (simp [weathersV, plainV, c_22, n_22, k_37_2, k_37_3, k_37_4, k_37_5, k_37_6, ↓reduceIte]; done) | (simp [weathersV, plainV, c_22, n_22, k_37_2, k_37_3, k_37_4, k_37_5, k_37_6]; done)) dX1_weathers_120
set_option maxHeartbeats 4000000 in
set_option maxRecDepth 100000 in
theorem c_X1_needs (l : Launch) (E : EV) (a : Nat) (k g h u o t x : Int32)  : Met l yX1_needs (wq yX1_needs cX1_needs 1 (some .int)) ({ frames := 0, cells := 0, slots := 0, locals := 0 }) (preB E [.ref a] [[(a, .inr (1, [.int k, .int g, .int h, .int u, .int o, .int t, .int x]))]]) (qS (needsV k)) 0 0 (fun _ => False) := by
  refine M_mk RX1 (by decide) rfl (Nat.le_of_ble_eq_true rfl) ?_
  intro p e s m below meth c S hr hlk hK hP hD hS ls hl
  have hl : lv_has ls 1 [(0, .ref a)] := hl
  refine lv_aload_n S.1 S.2.1 dX1_needs_0 rfl (lv_at hl 0 rfl) ?_
  refine gf_X1_9 S hK hP 0 0 rfl rfl rfl dX1_needs_1 ?_
  by_cases k_4_1 : k = 1
  · refine lv_tableIn (tgt := 44) S.1 S.2.1 dX1_needs_4 (by rw [k_4_1]; decide) (by rw [k_4_1]; decide) (by rw [k_4_1]; rfl) (by decide) ?_
    refine lv_bipush (v := 30) S.1 S.2.1 dX1_needs_44 (by decide) ?_
    exact retS S hr hlk (by first | (simp only [needsV, eq_true k_4_1, ↓reduceIte]; done) | (simp [needsV, eq_true k_4_1, ↓reduceIte]; done) | (simp [needsV, k_4_1]; done)) dX1_needs_46
  by_cases k_4_2 : k = 2
  · refine lv_tableIn (tgt := 47) S.1 S.2.1 dX1_needs_4 (by rw [k_4_2]; decide) (by rw [k_4_2]; decide) (by rw [k_4_2]; rfl) (by decide) ?_
    refine lv_bipush (v := 50) S.1 S.2.1 dX1_needs_47 (by decide) ?_
    exact retS S hr hlk (by first | (simp only [needsV, eq_true k_4_2, k_4_1, ↓reduceIte]; done) | (simp [needsV, eq_true k_4_2, k_4_1, ↓reduceIte]; done) | (simp [needsV, k_4_2, k_4_1]; done)) dX1_needs_49
  by_cases k_4_3 : k = 3
  · refine lv_tableIn (tgt := 50) S.1 S.2.1 dX1_needs_4 (by rw [k_4_3]; decide) (by rw [k_4_3]; decide) (by rw [k_4_3]; rfl) (by decide) ?_
    refine lv_bipush (v := 50) S.1 S.2.1 dX1_needs_50 (by decide) ?_
    exact retS S hr hlk (by first | (simp only [needsV, eq_true k_4_3, k_4_1, k_4_2, ↓reduceIte]; done) | (simp [needsV, eq_true k_4_3, k_4_1, k_4_2, ↓reduceIte]; done) | (simp [needsV, k_4_3, k_4_1, k_4_2]; done)) dX1_needs_52
  by_cases k_4_4 : k = 4
  · refine lv_tableIn (tgt := 53) S.1 S.2.1 dX1_needs_4 (by rw [k_4_4]; decide) (by rw [k_4_4]; decide) (by rw [k_4_4]; rfl) (by decide) ?_
    refine lv_bipush (v := 30) S.1 S.2.1 dX1_needs_53 (by decide) ?_
    exact retS S hr hlk (by first | (simp only [needsV, eq_true k_4_4, k_4_1, k_4_2, k_4_3, ↓reduceIte]; done) | (simp [needsV, eq_true k_4_4, k_4_1, k_4_2, k_4_3, ↓reduceIte]; done) | (simp [needsV, k_4_4, k_4_1, k_4_2, k_4_3]; done)) dX1_needs_55
  by_cases k_4_5 : k = 5
  · refine lv_tableIn (tgt := 56) S.1 S.2.1 dX1_needs_4 (by rw [k_4_5]; decide) (by rw [k_4_5]; decide) (by rw [k_4_5]; rfl) (by decide) ?_
    refine lv_bipush (v := 60) S.1 S.2.1 dX1_needs_56 (by decide) ?_
    exact retS S hr hlk (by first | (simp only [needsV, eq_true k_4_5, k_4_1, k_4_2, k_4_3, k_4_4, ↓reduceIte]; done) | (simp [needsV, eq_true k_4_5, k_4_1, k_4_2, k_4_3, k_4_4, ↓reduceIte]; done) | (simp [needsV, k_4_5, k_4_1, k_4_2, k_4_3, k_4_4]; done)) dX1_needs_58
  by_cases k_4_6 : k = 6
  · refine lv_tableIn (tgt := 59) S.1 S.2.1 dX1_needs_4 (by rw [k_4_6]; decide) (by rw [k_4_6]; decide) (by rw [k_4_6]; rfl) (by decide) ?_
    refine lv_bipush (v := 50) S.1 S.2.1 dX1_needs_59 (by decide) ?_
    exact retS S hr hlk (by first | (simp only [needsV, eq_true k_4_6, k_4_1, k_4_2, k_4_3, k_4_4, k_4_5, ↓reduceIte]; done) | (simp [needsV, eq_true k_4_6, k_4_1, k_4_2, k_4_3, k_4_4, k_4_5, ↓reduceIte]; done) | (simp [needsV, k_4_6, k_4_1, k_4_2, k_4_3, k_4_4, k_4_5]; done)) dX1_needs_61
  have t_4_1 := ne_toInt (n := 1) (by decide) k_4_1
  have t_4_2 := ne_toInt (n := 2) (by decide) k_4_2
  have t_4_3 := ne_toInt (n := 3) (by decide) k_4_3
  have t_4_4 := ne_toInt (n := 4) (by decide) k_4_4
  have t_4_5 := ne_toInt (n := 5) (by decide) k_4_5
  have t_4_6 := ne_toInt (n := 6) (by decide) k_4_6
  refine lv_tableOut (tgt := 62) S.1 S.2.1 dX1_needs_4 (by omega) (by decide) ?_
  refine lv_bipush (v := 40) S.1 S.2.1 dX1_needs_62 (by decide) ?_
  exact retS S hr hlk (by first | (simp only [needsV, k_4_1, k_4_2, k_4_3, k_4_4, k_4_5, k_4_6, ↓reduceIte]; done) | (simp [needsV, k_4_1, k_4_2, k_4_3, k_4_4, k_4_5, k_4_6, ↓reduceIte]; done) | (simp [needsV, k_4_1, k_4_2, k_4_3, k_4_4, k_4_5, k_4_6]; done)) dX1_needs_64
set_option maxHeartbeats 4000000 in
set_option maxRecDepth 100000 in
theorem c_X1_tint (l : Launch) (E : EV) (a : Nat) (k g h u o t x : Int32)  : Met l yX1_tint (wq yX1_tint cX1_tint 2 (some .int)) ({ frames := 0, cells := 0, slots := 0, locals := 0 }) (preB E [.ref a] [[(a, .inr (1, [.int k, .int g, .int h, .int u, .int o, .int t, .int x]))]]) (qS (tintV k g u)) 0 0 (fun _ => False) := by
  refine M_mk RX1 (by decide) rfl (Nat.le_of_ble_eq_true rfl) ?_
  intro p e s m below meth c S hr hlk hK hP hD hS ls hl
  have hl : lv_has ls 2 [(0, .ref a)] := hl
  refine lv_aload_n S.1 S.2.1 dX1_tint_0 rfl (lv_at hl 0 rfl) ?_
  refine gf_X1_21 S hK hP 0 0 rfl rfl rfl dX1_tint_1 ?_
  refine lv_bipush (v := 10) S.1 S.2.1 dX1_tint_4 (by decide) ?_
  refine lv_idiv S.1 S.2.1 dX1_tint_6 (by decide) ?_
  refine lv_bipush (v := 8) S.1 S.2.1 dX1_tint_7 (by decide) ?_
  refine lv_irem S.1 S.2.1 dX1_tint_9 (by decide) ?_
  refine lv_istore_n (lv' := [(1, .int ((u / 10) - (u / 10) / 8 * 8)), (0, .ref a)]) S.1 S.2.1 dX1_tint_10 rfl hl (by decide) rfl (fun ls hl => ?_)
  refine lv_aload_n S.1 S.2.1 dX1_tint_11 rfl (lv_at hl 1 rfl) ?_
  refine gf_X1_9 S hK hP 0 0 rfl rfl rfl dX1_tint_12 ?_
  by_cases k_15_2 : k = 2
  · refine lv_tableIn (tgt := 48) S.1 S.2.1 dX1_tint_15 (by rw [k_15_2]; decide) (by rw [k_15_2]; decide) (by rw [k_15_2]; rfl) (by decide) ?_
    refine lv_iload_n S.1 S.2.1 dX1_tint_48 rfl (lv_at hl 0 rfl) ?_
    refine lv_iconst (v := 3) S.1 S.2.1 dX1_tint_49 (by decide) ?_
    refine lv_iadd S.1 S.2.1 dX1_tint_50 ?_
    refine lv_bipush (v := 8) S.1 S.2.1 dX1_tint_51 (by decide) ?_
    refine lv_irem S.1 S.2.1 dX1_tint_53 (by decide) ?_
    exact retS S hr hlk (by first | (simp only [tintV, eight, eq_true k_15_2, ↓reduceIte]; done) | (simp [tintV, eight, eq_true k_15_2, ↓reduceIte]; done) | (simp [tintV, eight, k_15_2]; done)) dX1_tint_54
  by_cases k_15_3 : k = 3
  · refine lv_tableIn (tgt := 55) S.1 S.2.1 dX1_tint_15 (by rw [k_15_3]; decide) (by rw [k_15_3]; decide) (by rw [k_15_3]; rfl) (by decide) ?_
    refine lv_iload_n S.1 S.2.1 dX1_tint_55 rfl (lv_at hl 0 rfl) ?_
    refine lv_iconst (v := 3) S.1 S.2.1 dX1_tint_56 (by decide) ?_
    refine lv_iadd S.1 S.2.1 dX1_tint_57 ?_
    refine lv_bipush (v := 8) S.1 S.2.1 dX1_tint_58 (by decide) ?_
    refine lv_irem S.1 S.2.1 dX1_tint_60 (by decide) ?_
    exact retS S hr hlk (by first | (simp only [tintV, eight, eq_true k_15_3, k_15_2, ↓reduceIte]; done) | (simp [tintV, eight, eq_true k_15_3, k_15_2, ↓reduceIte]; done) | (simp [tintV, eight, k_15_3, k_15_2]; done)) dX1_tint_61
  by_cases k_15_4 : k = 4
  · refine lv_tableIn (tgt := 62) S.1 S.2.1 dX1_tint_15 (by rw [k_15_4]; decide) (by rw [k_15_4]; decide) (by rw [k_15_4]; rfl) (by decide) ?_
    refine lv_aload_n S.1 S.2.1 dX1_tint_62 rfl (lv_at hl 1 rfl) ?_
    refine gf_X1_15 S hK hP 0 0 rfl rfl rfl dX1_tint_63 ?_
    refine lv_bipush (v := 50) S.1 S.2.1 dX1_tint_66 (by decide) ?_
    refine lv_icmp_lt (tgt := 75) S.1 S.2.1 dX1_tint_68 (by decide) (fun c_68 => ?_) (fun c_68 => ?_)
    · have n_68 := Int32.not_le.mpr c_68
      refine lv_iconst (v := 0) S.1 S.2.1 dX1_tint_75 (by decide) ?_
      exact retS S hr hlk (by first | (simp only [tintV, eight, eq_true k_15_4, k_15_2, k_15_3, c_68, n_68, ↓reduceIte]; done) | (simp [tintV, eight, eq_true k_15_4, k_15_2, k_15_3, c_68, n_68, ↓reduceIte]; done) | (simp [tintV, eight, k_15_4, k_15_2, k_15_3, c_68, n_68]; done)) dX1_tint_76
    · have n_68 := Int32.not_lt.mp c_68
      refine lv_iconst (v := 1) S.1 S.2.1 dX1_tint_71 (by decide) ?_
      refine lv_goto (tgt := 76) S.1 S.2.1 dX1_tint_72 (by decide) ?_
      exact retS S hr hlk (by first | (simp only [tintV, eight, eq_true k_15_4, k_15_2, k_15_3, c_68, n_68, ↓reduceIte]; done) | (simp [tintV, eight, eq_true k_15_4, k_15_2, k_15_3, c_68, n_68, ↓reduceIte]; done) | (simp [tintV, eight, k_15_4, k_15_2, k_15_3, c_68, n_68]; done)) dX1_tint_76
  by_cases k_15_5 : k = 5
  · refine lv_tableIn (tgt := 93) S.1 S.2.1 dX1_tint_15 (by rw [k_15_5]; decide) (by rw [k_15_5]; decide) (by rw [k_15_5]; rfl) (by decide) ?_
    refine lv_iload_n S.1 S.2.1 dX1_tint_93 rfl (lv_at hl 0 rfl) ?_
    exact retS S hr hlk (by first | (simp only [tintV, eight, eq_true k_15_5, k_15_2, k_15_3, k_15_4, ↓reduceIte]; done) | (simp [tintV, eight, eq_true k_15_5, k_15_2, k_15_3, k_15_4, ↓reduceIte]; done) | (simp [tintV, eight, k_15_5, k_15_2, k_15_3, k_15_4]; done)) dX1_tint_94
  by_cases k_15_6 : k = 6
  · refine lv_tableIn (tgt := 77) S.1 S.2.1 dX1_tint_15 (by rw [k_15_6]; decide) (by rw [k_15_6]; decide) (by rw [k_15_6]; rfl) (by decide) ?_
    refine lv_aload_n S.1 S.2.1 dX1_tint_77 rfl (lv_at hl 1 rfl) ?_
    refine gf_X1_21 S hK hP 0 0 rfl rfl rfl dX1_tint_78 ?_
    refine lv_bipush (v := 100) S.1 S.2.1 dX1_tint_81 (by decide) ?_
    refine lv_icmp_lt (tgt := 91) S.1 S.2.1 dX1_tint_83 (by decide) (fun c_83 => ?_) (fun c_83 => ?_)
    · have n_83 := Int32.not_le.mpr c_83
      refine lv_iload_n S.1 S.2.1 dX1_tint_91 rfl (lv_at hl 0 rfl) ?_
      exact retS S hr hlk (by first | (simp only [tintV, eight, eq_true k_15_6, k_15_2, k_15_3, k_15_4, k_15_5, c_83, n_83, ↓reduceIte]; done) | (simp [tintV, eight, eq_true k_15_6, k_15_2, k_15_3, k_15_4, k_15_5, c_83, n_83, ↓reduceIte]; done) | (simp [tintV, eight, k_15_6, k_15_2, k_15_3, k_15_4, k_15_5, c_83, n_83]; done)) dX1_tint_92
    · have n_83 := Int32.not_lt.mp c_83
      refine lv_bipush (v := 7) S.1 S.2.1 dX1_tint_86 (by decide) ?_
      refine lv_goto (tgt := 92) S.1 S.2.1 dX1_tint_88 (by decide) ?_
      exact retS S hr hlk (by first | (simp only [tintV, eight, eq_true k_15_6, k_15_2, k_15_3, k_15_4, k_15_5, c_83, n_83, ↓reduceIte]; done) | (simp [tintV, eight, eq_true k_15_6, k_15_2, k_15_3, k_15_4, k_15_5, c_83, n_83, ↓reduceIte]; done) | (simp [tintV, eight, k_15_6, k_15_2, k_15_3, k_15_4, k_15_5, c_83, n_83]; done)) dX1_tint_92
  have t_15_2 := ne_toInt (n := 2) (by decide) k_15_2
  have t_15_3 := ne_toInt (n := 3) (by decide) k_15_3
  have t_15_4 := ne_toInt (n := 4) (by decide) k_15_4
  have t_15_5 := ne_toInt (n := 5) (by decide) k_15_5
  have t_15_6 := ne_toInt (n := 6) (by decide) k_15_6
  refine lv_tableOut (tgt := 93) S.1 S.2.1 dX1_tint_15 (by omega) (by decide) ?_
  refine lv_iload_n S.1 S.2.1 dX1_tint_93 rfl (lv_at hl 0 rfl) ?_
  exact retS S hr hlk (by first | (simp only [tintV, eight, k_15_2, k_15_3, k_15_4, k_15_5, k_15_6, ↓reduceIte]; done) | (simp [tintV, eight, k_15_2, k_15_3, k_15_4, k_15_5, k_15_6, ↓reduceIte]; done) | (simp [tintV, eight, k_15_2, k_15_3, k_15_4, k_15_5, k_15_6]; done)) dX1_tint_94
set_option maxHeartbeats 4000000 in
set_option maxRecDepth 100000 in
theorem c_X1_fetches (l : Launch) (E : EV) (a : Nat) (k g h u o t x : Int32)  : Met l yX1_fetches (wq yX1_fetches cX1_fetches 1 (some .int)) ({ frames := 0, cells := 0, slots := 0, locals := 0 }) (preB E [.ref a] [[(a, .inr (1, [.int k, .int g, .int h, .int u, .int o, .int t, .int x]))]]) (qS (fetchesV k o)) 0 0 (fun _ => False) := by
  refine M_mk RX1 (by decide) rfl (Nat.le_of_ble_eq_true rfl) ?_
  intro p e s m below meth c S hr hlk hK hP hD hS ls hl
  have hl : lv_has ls 1 [(0, .ref a)] := hl
  refine lv_aload_n S.1 S.2.1 dX1_fetches_0 rfl (lv_at hl 0 rfl) ?_
  refine gf_X1_9 S hK hP 0 0 rfl rfl rfl dX1_fetches_1 ?_
  by_cases k_4_1 : k = 1
  · refine lv_tableIn (tgt := 44) S.1 S.2.1 dX1_fetches_4 (by rw [k_4_1]; decide) (by rw [k_4_1]; decide) (by rw [k_4_1]; rfl) (by decide) ?_
    refine lv_iconst (v := 5) S.1 S.2.1 dX1_fetches_44 (by decide) ?_
    exact retS S hr hlk (by first | (simp only [fetchesV, eq_true k_4_1, ↓reduceIte]; done) | (simp [fetchesV, eq_true k_4_1, ↓reduceIte]; done) | (simp [fetchesV, k_4_1]; done)) dX1_fetches_45
  by_cases k_4_2 : k = 2
  · refine lv_tableIn (tgt := 46) S.1 S.2.1 dX1_fetches_4 (by rw [k_4_2]; decide) (by rw [k_4_2]; decide) (by rw [k_4_2]; rfl) (by decide) ?_
    refine lv_bipush (v := 20) S.1 S.2.1 dX1_fetches_46 (by decide) ?_
    refine lv_aload_n S.1 S.2.1 dX1_fetches_48 rfl (lv_at hl 0 rfl) ?_
    refine gf_X1_24 S hK hP 0 0 rfl rfl rfl dX1_fetches_49 ?_
    refine lv_iadd S.1 S.2.1 dX1_fetches_52 ?_
    exact retS S hr hlk (by first | (simp only [fetchesV, eq_true k_4_2, k_4_1, ↓reduceIte]; done) | (simp [fetchesV, eq_true k_4_2, k_4_1, ↓reduceIte]; done) | (simp [fetchesV, k_4_2, k_4_1]; done)) dX1_fetches_53
  by_cases k_4_3 : k = 3
  · refine lv_tableIn (tgt := 54) S.1 S.2.1 dX1_fetches_4 (by rw [k_4_3]; decide) (by rw [k_4_3]; decide) (by rw [k_4_3]; rfl) (by decide) ?_
    refine lv_bipush (v := 20) S.1 S.2.1 dX1_fetches_54 (by decide) ?_
    refine lv_aload_n S.1 S.2.1 dX1_fetches_56 rfl (lv_at hl 0 rfl) ?_
    refine gf_X1_24 S hK hP 0 0 rfl rfl rfl dX1_fetches_57 ?_
    refine lv_iadd S.1 S.2.1 dX1_fetches_60 ?_
    exact retS S hr hlk (by first | (simp only [fetchesV, eq_true k_4_3, k_4_1, k_4_2, ↓reduceIte]; done) | (simp [fetchesV, eq_true k_4_3, k_4_1, k_4_2, ↓reduceIte]; done) | (simp [fetchesV, k_4_3, k_4_1, k_4_2]; done)) dX1_fetches_61
  by_cases k_4_4 : k = 4
  · refine lv_tableIn (tgt := 62) S.1 S.2.1 dX1_fetches_4 (by rw [k_4_4]; decide) (by rw [k_4_4]; decide) (by rw [k_4_4]; rfl) (by decide) ?_
    refine lv_iconst (v := 3) S.1 S.2.1 dX1_fetches_62 (by decide) ?_
    refine lv_bipush (v := 20) S.1 S.2.1 dX1_fetches_63 (by decide) ?_
    refine lv_aload_n S.1 S.2.1 dX1_fetches_65 rfl (lv_at hl 0 rfl) ?_
    refine gf_X1_24 S hK hP 0 0 rfl rfl rfl dX1_fetches_66 ?_
    refine lv_iadd S.1 S.2.1 dX1_fetches_69 ?_
    refine lv_imul S.1 S.2.1 dX1_fetches_70 ?_
    exact retS S hr hlk (by first | (simp only [fetchesV, eq_true k_4_4, k_4_1, k_4_2, k_4_3, ↓reduceIte]; done) | (simp [fetchesV, eq_true k_4_4, k_4_1, k_4_2, k_4_3, ↓reduceIte]; done) | (simp [fetchesV, k_4_4, k_4_1, k_4_2, k_4_3]; done)) dX1_fetches_71
  by_cases k_4_5 : k = 5
  · refine lv_tableIn (tgt := 72) S.1 S.2.1 dX1_fetches_4 (by rw [k_4_5]; decide) (by rw [k_4_5]; decide) (by rw [k_4_5]; rfl) (by decide) ?_
    refine lv_iconst (v := 1) S.1 S.2.1 dX1_fetches_72 (by decide) ?_
    refine lv_aload_n S.1 S.2.1 dX1_fetches_73 rfl (lv_at hl 0 rfl) ?_
    refine gf_X1_24 S hK hP 0 0 rfl rfl rfl dX1_fetches_74 ?_
    refine lv_iadd S.1 S.2.1 dX1_fetches_77 ?_
    exact retS S hr hlk (by first | (simp only [fetchesV, eq_true k_4_5, k_4_1, k_4_2, k_4_3, k_4_4, ↓reduceIte]; done) | (simp [fetchesV, eq_true k_4_5, k_4_1, k_4_2, k_4_3, k_4_4, ↓reduceIte]; done) | (simp [fetchesV, k_4_5, k_4_1, k_4_2, k_4_3, k_4_4]; done)) dX1_fetches_78
  by_cases k_4_6 : k = 6
  · refine lv_tableIn (tgt := 79) S.1 S.2.1 dX1_fetches_4 (by rw [k_4_6]; decide) (by rw [k_4_6]; decide) (by rw [k_4_6]; rfl) (by decide) ?_
    refine lv_aload_n S.1 S.2.1 dX1_fetches_79 rfl (lv_at hl 0 rfl) ?_
    refine gf_X1_24 S hK hP 0 0 rfl rfl rfl dX1_fetches_80 ?_
    refine lv_bipush (v := 7) S.1 S.2.1 dX1_fetches_83 (by decide) ?_
    refine lv_icmp_ne (tgt := 93) S.1 S.2.1 dX1_fetches_85 (by decide) (fun c_85 => ?_) (fun c_85 => ?_)
    · refine lv_bipush (v := 10) S.1 S.2.1 dX1_fetches_93 (by decide) ?_
      exact retS S hr hlk (by first | (simp only [fetchesV, eq_true k_4_6, k_4_1, k_4_2, k_4_3, k_4_4, k_4_5, c_85, ↓reduceIte]; done) | (simp [fetchesV, eq_true k_4_6, k_4_1, k_4_2, k_4_3, k_4_4, k_4_5, c_85, ↓reduceIte]; done) | (simp [fetchesV, k_4_6, k_4_1, k_4_2, k_4_3, k_4_4, k_4_5, c_85]; done)) dX1_fetches_95
    · refine lv_bipush (v := 100) S.1 S.2.1 dX1_fetches_88 (by decide) ?_
      refine lv_goto (tgt := 95) S.1 S.2.1 dX1_fetches_90 (by decide) ?_
      exact retS S hr hlk (by first | (simp only [fetchesV, eq_true k_4_6, k_4_1, k_4_2, k_4_3, k_4_4, k_4_5, eq_true c_85, ↓reduceIte]; done) | (simp [fetchesV, eq_true k_4_6, k_4_1, k_4_2, k_4_3, k_4_4, k_4_5, eq_true c_85, ↓reduceIte]; done) | (simp [fetchesV, k_4_6, k_4_1, k_4_2, k_4_3, k_4_4, k_4_5, c_85]; done)) dX1_fetches_95
  have t_4_1 := ne_toInt (n := 1) (by decide) k_4_1
  have t_4_2 := ne_toInt (n := 2) (by decide) k_4_2
  have t_4_3 := ne_toInt (n := 3) (by decide) k_4_3
  have t_4_4 := ne_toInt (n := 4) (by decide) k_4_4
  have t_4_5 := ne_toInt (n := 5) (by decide) k_4_5
  have t_4_6 := ne_toInt (n := 6) (by decide) k_4_6
  refine lv_tableOut (tgt := 96) S.1 S.2.1 dX1_fetches_4 (by omega) (by decide) ?_
  refine lv_bipush (v := 10) S.1 S.2.1 dX1_fetches_96 (by decide) ?_
  refine lv_aload_n S.1 S.2.1 dX1_fetches_98 rfl (lv_at hl 0 rfl) ?_
  refine gf_X1_24 S hK hP 0 0 rfl rfl rfl dX1_fetches_99 ?_
  refine lv_iadd S.1 S.2.1 dX1_fetches_102 ?_
  exact retS S hr hlk (by first | (simp only [fetchesV, k_4_1, k_4_2, k_4_3, k_4_4, k_4_5, k_4_6, ↓reduceIte]; done) | (simp [fetchesV, k_4_1, k_4_2, k_4_3, k_4_4, k_4_5, k_4_6, ↓reduceIte]; done) | (simp [fetchesV, k_4_1, k_4_2, k_4_3, k_4_4, k_4_5, k_4_6]; done)) dX1_fetches_103
set_option maxHeartbeats 4000000 in
set_option maxRecDepth 100000 in
theorem c_X1_heals (l : Launch) (E : EV) (a : Nat) (k g h u o t x : Int32)  : Met l yX1_heals (wq yX1_heals cX1_heals 1 (some .int)) ({ frames := 0, cells := 0, slots := 0, locals := 0 }) (preB E [.ref a] [[(a, .inr (1, [.int k, .int g, .int h, .int u, .int o, .int t, .int x]))]]) (qS (healsV k)) 0 0 (fun _ => False) := by
  refine M_mk RX1 (by decide) rfl (Nat.le_of_ble_eq_true rfl) ?_
  intro p e s m below meth c S hr hlk hK hP hD hS ls hl
  have hl : lv_has ls 1 [(0, .ref a)] := hl
  refine lv_aload_n S.1 S.2.1 dX1_heals_0 rfl (lv_at hl 0 rfl) ?_
  refine gf_X1_9 S hK hP 0 0 rfl rfl rfl dX1_heals_1 ?_
  by_cases k_4_1 : k = 1
  · refine lv_tableIn (tgt := 44) S.1 S.2.1 dX1_heals_4 (by rw [k_4_1]; decide) (by rw [k_4_1]; decide) (by rw [k_4_1]; rfl) (by decide) ?_
    refine lv_iconst (v := 2) S.1 S.2.1 dX1_heals_44 (by decide) ?_
    exact retS S hr hlk (by first | (simp only [healsV, eq_true k_4_1, ↓reduceIte]; done) | (simp [healsV, eq_true k_4_1, ↓reduceIte]; done) | (simp [healsV, k_4_1]; done)) dX1_heals_45
  by_cases k_4_2 : k = 2
  · refine lv_tableIn (tgt := 54) S.1 S.2.1 dX1_heals_4 (by rw [k_4_2]; decide) (by rw [k_4_2]; decide) (by rw [k_4_2]; rfl) (by decide) ?_
    refine lv_iconst (v := 1) S.1 S.2.1 dX1_heals_54 (by decide) ?_
    exact retS S hr hlk (by first | (simp only [healsV, eq_true k_4_2, k_4_1, ↓reduceIte]; done) | (simp [healsV, eq_true k_4_2, k_4_1, ↓reduceIte]; done) | (simp [healsV, k_4_2, k_4_1]; done)) dX1_heals_55
  by_cases k_4_3 : k = 3
  · refine lv_tableIn (tgt := 46) S.1 S.2.1 dX1_heals_4 (by rw [k_4_3]; decide) (by rw [k_4_3]; decide) (by rw [k_4_3]; rfl) (by decide) ?_
    refine lv_iconst (v := 0) S.1 S.2.1 dX1_heals_46 (by decide) ?_
    exact retS S hr hlk (by first | (simp only [healsV, eq_true k_4_3, k_4_1, k_4_2, ↓reduceIte]; done) | (simp [healsV, eq_true k_4_3, k_4_1, k_4_2, ↓reduceIte]; done) | (simp [healsV, k_4_3, k_4_1, k_4_2]; done)) dX1_heals_47
  by_cases k_4_4 : k = 4
  · refine lv_tableIn (tgt := 48) S.1 S.2.1 dX1_heals_4 (by rw [k_4_4]; decide) (by rw [k_4_4]; decide) (by rw [k_4_4]; rfl) (by decide) ?_
    refine lv_iconst (v := 0) S.1 S.2.1 dX1_heals_48 (by decide) ?_
    exact retS S hr hlk (by first | (simp only [healsV, eq_true k_4_4, k_4_1, k_4_2, k_4_3, ↓reduceIte]; done) | (simp [healsV, eq_true k_4_4, k_4_1, k_4_2, k_4_3, ↓reduceIte]; done) | (simp [healsV, k_4_4, k_4_1, k_4_2, k_4_3]; done)) dX1_heals_49
  by_cases k_4_5 : k = 5
  · refine lv_tableIn (tgt := 50) S.1 S.2.1 dX1_heals_4 (by rw [k_4_5]; decide) (by rw [k_4_5]; decide) (by rw [k_4_5]; rfl) (by decide) ?_
    refine lv_iconst (v := 5) S.1 S.2.1 dX1_heals_50 (by decide) ?_
    exact retS S hr hlk (by first | (simp only [healsV, eq_true k_4_5, k_4_1, k_4_2, k_4_3, k_4_4, ↓reduceIte]; done) | (simp [healsV, eq_true k_4_5, k_4_1, k_4_2, k_4_3, k_4_4, ↓reduceIte]; done) | (simp [healsV, k_4_5, k_4_1, k_4_2, k_4_3, k_4_4]; done)) dX1_heals_51
  by_cases k_4_6 : k = 6
  · refine lv_tableIn (tgt := 52) S.1 S.2.1 dX1_heals_4 (by rw [k_4_6]; decide) (by rw [k_4_6]; decide) (by rw [k_4_6]; rfl) (by decide) ?_
    refine lv_iconst (v := 2) S.1 S.2.1 dX1_heals_52 (by decide) ?_
    exact retS S hr hlk (by first | (simp only [healsV, eq_true k_4_6, k_4_1, k_4_2, k_4_3, k_4_4, k_4_5, ↓reduceIte]; done) | (simp [healsV, eq_true k_4_6, k_4_1, k_4_2, k_4_3, k_4_4, k_4_5, ↓reduceIte]; done) | (simp [healsV, k_4_6, k_4_1, k_4_2, k_4_3, k_4_4, k_4_5]; done)) dX1_heals_53
  have t_4_1 := ne_toInt (n := 1) (by decide) k_4_1
  have t_4_2 := ne_toInt (n := 2) (by decide) k_4_2
  have t_4_3 := ne_toInt (n := 3) (by decide) k_4_3
  have t_4_4 := ne_toInt (n := 4) (by decide) k_4_4
  have t_4_5 := ne_toInt (n := 5) (by decide) k_4_5
  have t_4_6 := ne_toInt (n := 6) (by decide) k_4_6
  refine lv_tableOut (tgt := 54) S.1 S.2.1 dX1_heals_4 (by omega) (by decide) ?_
  refine lv_iconst (v := 1) S.1 S.2.1 dX1_heals_54 (by decide) ?_
  exact retS S hr hlk (by first | (simp only [healsV, k_4_1, k_4_2, k_4_3, k_4_4, k_4_5, k_4_6, ↓reduceIte]; done) | (simp [healsV, k_4_1, k_4_2, k_4_3, k_4_4, k_4_5, k_4_6, ↓reduceIte]; done) | (simp [healsV, k_4_1, k_4_2, k_4_3, k_4_4, k_4_5, k_4_6]; done)) dX1_heals_55
set_option maxHeartbeats 4000000 in
set_option maxRecDepth 100000 in
theorem c_X1_isReady (l : Launch) (E : EV) (a : Nat) (k g h u o t x : Int32)  : Met l yX1_isReady (wq yX1_isReady cX1_isReady 1 (some .boolean)) ({ frames := 1, cells := 0, slots := 0, locals := 20 }) (preB E [.ref a] [[(a, .inr (1, [.int k, .int g, .int h, .int u, .int o, .int t, .int x]))]]) (qS (bI (needsV k ≤ u))) 0 0 (fun _ => False) := by
  refine M_mk RX1 (by decide) rfl (Nat.le_of_ble_eq_true rfl) ?_
  intro p e s m below meth c S hr hlk hK hP hD hS ls hl
  have hl : lv_has ls 1 [(0, .ref a)] := hl
  refine lv_aload_n S.1 S.2.1 dX1_isReady_0 rfl (lv_at hl 0 rfl) ?_
  refine gf_X1_21 S hK hP 0 0 rfl rfl rfl dX1_isReady_1 ?_
  refine lv_aload_n S.1 S.2.1 dX1_isReady_4 rfl (lv_at hl 0 rfl) ?_
  refine go_S (run_V (As := []) (rest := [.int u]) S hK (cell_P hP (b := 0) (j := 0) rfl rfl) cell_D (c_X1_needs l E a k g h u o t x) gV_X1_33 (by decide +kernel) rfl ⟨rfl, rfl⟩ ⟨Nat.le_of_ble_eq_true rfl, Nat.le_of_ble_eq_true rfl⟩ (ci := 1) (q0 := 0) rfl rfl hl.1 (Nat.le_of_ble_eq_true rfl) dX1_isReady_5 ⟨Nat.zero_le _, Nat.zero_le _⟩) ?_
  refine lv_icmp_lt (tgt := 15) S.1 S.2.1 dX1_isReady_8 (by decide) (fun c_8 => ?_) (fun c_8 => ?_)
  · have n_8 := Int32.not_le.mpr c_8
    refine lv_iconst (v := 0) S.1 S.2.1 dX1_isReady_15 (by decide) ?_
    exact retSZ S hr hlk rfl (by first | (simp only [bI, c_8, n_8, ↓reduceIte]; done) | (simp [bI, c_8, n_8, ↓reduceIte]; done) | (simp [bI, c_8, n_8]; done)) dX1_isReady_16
  · have n_8 := Int32.not_lt.mp c_8
    refine lv_iconst (v := 1) S.1 S.2.1 dX1_isReady_11 (by decide) ?_
    refine lv_goto (tgt := 16) S.1 S.2.1 dX1_isReady_12 (by decide) ?_
    exact retSZ S hr hlk rfl (by first | (simp only [bI, c_8, n_8, ↓reduceIte]; done) | (simp [bI, c_8, n_8, ↓reduceIte]; done) | (simp [bI, c_8, n_8]; done)) dX1_isReady_16
set_option maxHeartbeats 4000000 in
set_option maxRecDepth 100000 in
theorem c_X1_hasPotOf (l : Launch) (E : EV) (a : Nat) (k g h u o t x : Int32) (w : Int32)  : Met l yX1_hasPotOf (wq yX1_hasPotOf cX1_hasPotOf 2 (some .boolean)) ({ frames := 0, cells := 0, slots := 0, locals := 0 }) (preB E [.ref a, .int w] [[(a, .inr (1, [.int k, .int g, .int h, .int u, .int o, .int t, .int x]))]]) (qS (bI (0 < t ∧ o = w))) 0 0 (fun _ => False) := by
  refine M_mk RX1 (by decide) rfl (Nat.le_of_ble_eq_true rfl) ?_
  intro p e s m below meth c S hr hlk hK hP hD hS ls hl
  have hl : lv_has ls 2 [(0, .ref a), (1, .int w)] := hl
  refine lv_aload_n S.1 S.2.1 dX1_hasPotOf_0 rfl (lv_at hl 0 rfl) ?_
  refine gf_X1_27 S hK hP 0 0 rfl rfl rfl dX1_hasPotOf_1 ?_
  refine lv_if_le (tgt := 19) S.1 S.2.1 dX1_hasPotOf_4 (by decide) (fun c_4 => ?_) (fun c_4 => ?_)
  · have n_4 := Int32.not_lt.mpr c_4
    refine lv_iconst (v := 0) S.1 S.2.1 dX1_hasPotOf_19 (by decide) ?_
    exact retSZ S hr hlk rfl (by first | (simp only [bI, c_4, n_4, ↓reduceIte]; done) | (simp [bI, c_4, n_4, ↓reduceIte]; done) | (simp [bI, c_4, n_4]; done)) dX1_hasPotOf_20
  · have n_4 := Int32.not_le.mp c_4
    refine lv_aload_n S.1 S.2.1 dX1_hasPotOf_7 rfl (lv_at hl 0 rfl) ?_
    refine gf_X1_24 S hK hP 0 0 rfl rfl rfl dX1_hasPotOf_8 ?_
    refine lv_iload_n S.1 S.2.1 dX1_hasPotOf_11 rfl (lv_at hl 1 rfl) ?_
    refine lv_icmp_ne (tgt := 19) S.1 S.2.1 dX1_hasPotOf_12 (by decide) (fun c_12 => ?_) (fun c_12 => ?_)
    · refine lv_iconst (v := 0) S.1 S.2.1 dX1_hasPotOf_19 (by decide) ?_
      exact retSZ S hr hlk rfl (by first | (simp only [bI, c_4, n_4, c_12, ↓reduceIte]; done) | (simp [bI, c_4, n_4, c_12, ↓reduceIte]; done) | (simp [bI, c_4, n_4, c_12]; done)) dX1_hasPotOf_20
    · refine lv_iconst (v := 1) S.1 S.2.1 dX1_hasPotOf_15 (by decide) ?_
      refine lv_goto (tgt := 20) S.1 S.2.1 dX1_hasPotOf_16 (by decide) ?_
      exact retSZ S hr hlk rfl (by first | (simp only [bI, c_4, n_4, eq_true c_12, ↓reduceIte]; done) | (simp [bI, c_4, n_4, eq_true c_12, ↓reduceIte]; done) | (simp [bI, c_4, n_4, c_12]; done)) dX1_hasPotOf_20
