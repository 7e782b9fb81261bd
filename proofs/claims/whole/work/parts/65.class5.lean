def bc1 (x : Int32) : Int32 := x - ((x.toUInt32 >>> ((1 : Int32).toUInt32 &&& Int32.toUInt32 31)).toInt32 &&& 1431655765)
def bc2 (x : Int32) : Int32 := (bc1 x &&& 858993459) + (((bc1 x).toUInt32 >>> ((2 : Int32).toUInt32 &&& Int32.toUInt32 31)).toInt32 &&& 858993459)
def bc3 (x : Int32) : Int32 := (bc2 x + ((bc2 x).toUInt32 >>> ((4 : Int32).toUInt32 &&& Int32.toUInt32 31)).toInt32) &&& 252645135
def bc4 (x : Int32) : Int32 := bc3 x + ((bc3 x).toUInt32 >>> ((8 : Int32).toUInt32 &&& Int32.toUInt32 31)).toInt32
def bc5 (x : Int32) : Int32 := bc4 x + ((bc4 x).toUInt32 >>> ((16 : Int32).toUInt32 &&& Int32.toUInt32 31)).toInt32
theorem bc_all : ∀ b : Fin 256, bc5 (nI b.val) &&& 63 = nI (bitsN 256 b.val) := by decide +kernel
theorem bc_eq {b : Nat} (h : b < 256) : bc5 (nI b) &&& 63 = nI (bitsN 256 b) := bc_all ⟨b, h⟩
theorem bits_all : ∀ n : Fin 9, ∀ b : Fin 256, b.val < 2 ^ n.val → bitsN 256 b.val ≤ n.val := by decide +kernel
theorem bits_max {n b : Nat} (hn : n ≤ 8) (h : b < 2 ^ n) : bitsN 256 b ≤ n := bits_all ⟨n, by omega⟩ ⟨b, Nat.lt_of_lt_of_le h (Nat.le_trans (Nat.pow_le_pow_right (by decide) hn) (by decide))⟩ h
theorem shl_nI {n : Nat} (h : n ≤ 8) : (1 : Int32) <<< (nI n &&& 31) = nI (2 ^ n) := by
  match n, h with
  | 0, _ => decide
  | 1, _ => decide
  | 2, _ => decide
  | 3, _ => decide
  | 4, _ => decide
  | 5, _ => decide
  | 6, _ => decide
  | 7, _ => decide
  | 8, _ => decide
theorem st_s1 {c : Nat → Bool} {a b : Nat} (h : ∀ s, s < b → bitsN 256 s = a → c s = false) (h2 : ¬ bitsN 256 b = a) : ∀ s, s < b + 1 → bitsN 256 s = a → c s = false := fun s hs hb => by
  by_cases e : s = b
  · rw [e] at hb; exact absurd hb h2
  · exact h s (by omega) hb
theorem st_s2 {c : Nat → Bool} {a b : Nat} (h : ∀ s, s < b → bitsN 256 s = a → c s = false) (h2 : c b = false) : ∀ s, s < b + 1 → bitsN 256 s = a → c s = false := fun s hs hb => by
  by_cases e : s = b
  · rw [e]; exact h2
  · exact h s (by omega) hb
theorem st_next {c : Nat → Bool} {a b N : Nat} (h : ∀ s, s < N → bitsN 256 s < a → c s = false) (h2 : ∀ s, s < b → bitsN 256 s = a → c s = false) (e : b = N) : ∀ s, s < N → bitsN 256 s < a + 1 → c s = false := fun s hs hb => by
  by_cases q : bitsN 256 s = a
  · exact h2 s (by omega) q
  · exact h s hs (by omega)
theorem bs_none {c : Nat → Bool} {N : Nat} (h : ∀ s, s < N → c s = false) : ∀ k, k ≤ N → bsN c N k = none
  | 0, _ => rfl
  | k + 1, hk => by
    rw [bsN, if_neg (by rw [h (N - 1 - k) (by omega)]; decide)]
    exact bs_none h k (by omega)
theorem st_none {c : Nat → Bool} {n : Nat} (hn : n ≤ 8) (h : ∀ s, s < 2 ^ n → bitsN 256 s < n + 1 → c s = false) : bsN c (2 ^ n) (2 ^ n) = none :=
  bs_none (fun s hs => h s hs (Nat.lt_succ_of_le (bits_max hn hs))) _ (Nat.le_refl _)
/-- the best from N - k on is some b: it is there, and none there is better -/
theorem bs_inv {c : Nat → Bool} {N : Nat} : ∀ k, k ≤ N → (bsN c N k = none ∧ ∀ s, N - k ≤ s → s < N → c s = false) ∨ ∃ b, bsN c N k = some b ∧ N - k ≤ b ∧ b < N ∧ c b = true ∧ ∀ s, N - k ≤ s → s < N → c s = true → bitsN 256 b < bitsN 256 s ∨ (bitsN 256 b = bitsN 256 s ∧ b ≤ s)
  | 0, _ => Or.inl ⟨rfl, fun s h1 h2 => absurd h2 (by omega)⟩
  | k + 1, hk => by
    rw [bsN]
    by_cases hc : c (N - 1 - k) = true
    · rw [if_pos hc]
      rcases bs_inv (c := c) (N := N) k (by omega) with ⟨e, h⟩ | ⟨b, e, h1, h2, h3, h4⟩
      · rw [e]
        refine Or.inr ⟨N - 1 - k, rfl, by omega, by omega, hc, fun s s1 s2 s3 => ?_⟩
        by_cases q : s = N - 1 - k
        · rw [q]; exact Or.inr ⟨rfl, Nat.le_refl _⟩
        · rw [h s (by omega) s2] at s3; exact absurd s3 (by decide)
      · rw [e]
        show (if bitsN 256 (N - 1 - k) ≤ bitsN 256 b then some (N - 1 - k) else some b) = none ∧ _ ∨ _
        by_cases q : bitsN 256 (N - 1 - k) ≤ bitsN 256 b
        · rw [if_pos q]
          refine Or.inr ⟨N - 1 - k, if_pos q, by omega, by omega, hc, fun s s1 s2 s3 => ?_⟩
          by_cases q2 : s = N - 1 - k
          · rw [q2]; exact Or.inr ⟨rfl, Nat.le_refl _⟩
          · have := h4 s (by omega) s2 s3
            omega
        · rw [if_neg q]
          refine Or.inr ⟨b, if_neg q, by omega, h2, h3, fun s s1 s2 s3 => ?_⟩
          by_cases q2 : s = N - 1 - k
          · rw [q2]; omega
          · exact h4 s (by omega) s2 s3
    · rw [if_neg hc]
      rcases bs_inv (c := c) (N := N) k (by omega) with ⟨e, h⟩ | ⟨b, e, h1, h2, h3, h4⟩
      · refine Or.inl ⟨e, fun s s1 s2 => ?_⟩
        by_cases q2 : s = N - 1 - k
        · rw [q2]; exact Bool.eq_false_iff.mpr hc
        · exact h s (by omega) s2
      · refine Or.inr ⟨b, e, by omega, h2, h3, fun s s1 s2 s3 => ?_⟩
        by_cases q2 : s = N - 1 - k
        · rw [q2] at s3; exact absurd s3 hc
        · exact h4 s (by omega) s2 s3
theorem st_some {c : Nat → Bool} {N b : Nat} (hN : N ≤ 256) (hb : b < N) (hc : c b = true) (h1 : ∀ s, s < N → bitsN 256 s < bitsN 256 b → c s = false) (h2 : ∀ s, s < b → bitsN 256 s = bitsN 256 b → c s = false) : bsN c N N = some b := by
  rcases bs_inv (c := c) (N := N) N (Nat.le_refl _) with ⟨e, h⟩ | ⟨d, e, d1, d2, d3, d4⟩
  · rw [h b (by omega) hb] at hc; exact absurd hc (by decide)
  · have h9 := d4 b (by omega) hb hc
    have h8 : ¬ bitsN 256 d < bitsN 256 b := fun q => by rw [h1 d d2 q] at d3; exact absurd d3 (by decide)
    have h7 : bitsN 256 d = bitsN 256 b ∧ d ≤ b := by omega
    have h6 : ¬ d < b := fun q => by rw [h2 d q h7.1] at d3; exact absurd d3 (by decide)
    rw [e, show d = b by omega]
/-! lowest terms -/
theorem lt_no {t g : Nat} (h : ∀ d, t < d → d ≤ 100 → ¬ (d ∣ g ∧ d ∣ 100)) (h2 : ¬ (t ∣ g ∧ t ∣ 100)) : ∀ d, t - 1 < d → d ≤ 100 → ¬ (d ∣ g ∧ d ∣ 100) := fun d h3 h4 => by
  by_cases e : d = t
  · rw [e]; exact h2
  · exact h d (by omega) h4
theorem lt_hit {t g : Nat} (h : ∀ d, t < d → d ≤ 100 → ¬ (d ∣ g ∧ d ∣ 100)) (ht : t ≤ 100) (h1 : t ∣ g) (h2 : t ∣ 100) : Nat.gcd 100 g = t := by
  have hp : 0 < Nat.gcd 100 g := Nat.gcd_pos_of_pos_left _ (by decide)
  have h3 : t ∣ Nat.gcd 100 g := Nat.dvd_gcd h2 h1
  have h4 := Nat.le_of_dvd hp h3
  have h5 : Nat.gcd 100 g ≤ 100 := Nat.le_of_dvd (by decide) (Nat.gcd_dvd_left 100 g)
  have h6 : ¬ t < Nat.gcd 100 g := fun q => h _ q h5 ⟨Nat.gcd_dvd_right 100 g, Nat.gcd_dvd_left 100 g⟩
  omega
theorem lt_end {t g : Nat} (h : ∀ d, t < d → d ≤ 100 → ¬ (d ∣ g ∧ d ∣ 100)) (ht : t ≤ 1) (h1 : 1 ≤ t) : Nat.gcd 100 g = 1 := by
  have hp : 0 < Nat.gcd 100 g := Nat.gcd_pos_of_pos_left _ (by decide)
  have h5 : Nat.gcd 100 g ≤ 100 := Nat.le_of_dvd (by decide) (Nat.gcd_dvd_left 100 g)
  have h6 : ¬ t < Nat.gcd 100 g := fun q => h _ q h5 ⟨Nat.gcd_dvd_right 100 g, Nat.gcd_dvd_left 100 g⟩
  omega
theorem nI_dec {t : Nat} (h : 1 ≤ t) : nI t + Int32.ofInt (-1) = nI (t - 1) := by
  obtain ⟨m, rfl⟩ : ∃ m, t = m + 1 := ⟨t - 1, by omega⟩
  exact pk_m1 m
def fndCL (f : Row) (x : ResL) : Row := match x with | .inl k => upd f k (f k + 1) | .inr _ => f
theorem fndCL_inl {f : Row} {k : Nat} : fndCL f (.inl k) = upd f k (f k + 1) := rfl
theorem fndCL_inr {f : Row} {v : Int64} : fndCL f (.inr v) = f := rfl
theorem en_gd {r : Row} {q : Nat} (hR : RI r) (hq : q < cntN r) : ∀ k, k ≤ 100 → enR r q k = nI (gdN r q k)
  | 0, _ => rfl
  | k + 1, hk => by
    rw [enR, gdN, en_gd hR hq k (by omega)]
    obtain ⟨n, d, h1, h2, h3, h4, h5, h6, h7, h8, h9⟩ := hR
    rw [cntN_eq h1 h2] at hq
    obtain ⟨a, ha, ea⟩ := criesV_nat (k := r (21 + 7 * q)) (t := r (21 + 7 * q + 5)) (w := r 3) (h9 q hq 1 (by decide))
    obtain ⟨b, hb, eb⟩ := weathersV_nat (k := r (21 + 7 * q)) (h9 q hq 2 (by decide)) (⟨k, by omega, rfl⟩ : le9 (nI k) 99)
    obtain ⟨c, hc1, hc2, ec⟩ := needsV_nat (r (21 + 7 * q))
    have e1 : criesR r q = nI a := ea
    have e2 : weathersR r q (nI k) = nI b := eb
    have e3 : needsR r q = nI c := ec
    rw [e1, e2, e3, nI_add]
    have e4 : nI c - nI a = nI (c - a) := nI_sub (by omega)
    rw [e4]
    by_cases q2 : a + b < c
    · rw [if_pos (nI_lt (by omega) (by omega)), if_pos (nI_lt q2 (by omega))]
    · rw [if_neg (Int32.not_lt.mpr (nI_le (by omega) (by omega))), if_neg (Int32.not_lt.mpr (nI_le (by omega) (by omega)))]
      exact nI_1 _
/-! feeding -/
def bC (v : Int32) : Int32 := vp_nar .byte (v.toInt8.toInt32)
def sI (t : Nat) : Int32 := if t = 0 then -8 else nI (8 * (t - 1))
theorem sI_s {t m : Nat} (h : t = m + 1) : sI t = nI (8 * m) := by
  subst h
  exact if_neg (by omega)
theorem sI_pos {t : Nat} (h : ¬ sI t < 0) : ∃ m, t = m + 1 := by
  cases t with
  | zero => exact absurd (by decide) h
  | succ m => exact ⟨m, rfl⟩
theorem sI_zero {t : Nat} (h : sI t < 0) (ht : t ≤ 100) : t = 0 := by
  cases t with
  | zero => rfl
  | succ m => rw [sI_s rfl] at h; exact absurd h (nI_pos (by omega))
theorem sI_0 {k : Nat} (h : 1 ≤ k) (h2 : k ≤ 4) : 8 * (nI k - 1) = sI k := by
  match k, h, h2 with
  | 1, _, _ => decide
  | 2, _, _ => decide
  | 3, _, _ => decide
  | 4, _, _ => decide
theorem sI_step {t m : Nat} (h : t = m + 1) : sI t + Int32.ofInt (-8) = sI m := by
  rw [sI_s h]
  cases m with
  | zero => decide
  | succ k =>
    rw [sI_s rfl, show 8 * (k + 1) = 8 * k + 8 by omega, ← nI_add, Int32.add_assoc]
    show nI (8 * k) + (8 + Int32.ofInt (-8)) = _
    rw [show (8 : Int32) + Int32.ofInt (-8) = 0 by decide, Int32.add_zero]
def fdC (tb : Row) (v : Int32) (len K : Nat) : Nat → Row
  | 0 => tb
  | j + 1 => upd (fdC tb v len K j) (len + j) (bC (v.toUInt32 >>> ((nI (8 * (K - 1 - j))).toUInt32 &&& Int32.toUInt32 31)).toInt32)
theorem fdC_s {tb : Row} {v : Int32} {len K t m : Nat} (hm : t = m + 1) (ht : t ≤ K) : upd (fdC tb v len K (K - t)) (len + (K - t)) (bC (v.toUInt32 >>> ((nI (8 * m)).toUInt32 &&& Int32.toUInt32 31)).toInt32) = fdC tb v len K (K - m) := by
  rw [show K - m = (K - t) + 1 by omega, fdC, show K - 1 - (K - t) = m by omega]
def lenF (a : Int32) (x : Res) : Int32 := match x with | .inl _ => a | .inr y => y.2
theorem lenF_inl {a : Int32} {k : Nat} : lenF a (.inl k) = a := rfl
theorem lenF_inr {a : Int32} {y : Row} {v : Int32} : lenF a (.inr (y, v)) = v := rfl
theorem fd_sub {k : Nat} (hk : k ≤ 4) : (120 : Int32) - nI k = nI (120 - k) := nI_sub (a := 120) (by omega)
theorem fd_room {len k : Nat} (hk : k ≤ 4) (hl : len ≤ 120) (h : nI len ≤ 120 - nI k) : len + k ≤ 120 := by
  rw [fd_sub hk] at h
  have := le_of_nI h (by omega) (by omega)
  omega
theorem fd_nfull {len k : Nat} {n : Int32} (hl : len ≤ 120) (e : n = nI k) (hk : k ≤ 4) (h : nI len ≤ 120 - nI k) : ¬ 120 < nI len + n := by
  have := fd_room hk hl h
  rw [e, nI_add]
  exact Int32.not_lt.mpr (nI_le (b := 120) this (by decide))
theorem fd_full {len k : Nat} {n : Int32} (hl : len ≤ 120) (e : n = nI k) (hk : k ≤ 4) (h : ¬ nI len ≤ 120 - nI k) : 120 < nI len + n := by
  rw [e, nI_add]
  rw [fd_sub hk] at h
  exact nI_lt (a := 120) (Nat.lt_of_not_le (fun q => h (nI_le (by omega) (by omega)))) (by omega)
/-! sheets -/
theorem sN_clr {E : EV} {ag : Nat → Nat} {y : Row} {k : Nat} (hk : k < 4) : (shN E ag y).set k (ag (9 + k), .inl (E.2.1, 40, .inl (zrF (seg y (40 * k) 40) 40))) = shN E ag (clrS y k 40) :=
  sN_set hk (funext fun j => by
    unfold zrF seg clrS
    by_cases q : j < 40
    · rw [if_pos q, if_pos q, if_pos (by omega)]
    · rw [if_neg q, if_neg q, if_neg q]) (fun k2 h2 hne => seg_congr (fun j hj => if_neg (by omega)))
theorem sN_cpy {E : EV} {ag : Nat → Nat} {y : Row} {s t a b n : Nat} (hs : s < 4) (ht : t < 4) (ha : a + n ≤ 40) (hb : b + n ≤ 40) : (shN E ag y).set t (ag (9 + t), .inl (E.2.1, 40, .inl (va_cpy (seg y (40 * s) 40) (seg y (40 * t) 40) a b n))) = shN E ag (cpS y (40 * s + a) (40 * t + b) n) :=
  sN_set ht (funext fun j => by
    unfold va_cpy
    by_cases q : b ≤ j ∧ j < b + n
    · rw [if_pos q, seg_at (by omega), seg_at (show j < 40 by omega)]
      unfold cpS
      rw [if_pos (by omega)]
      congr 1
      omega
    · rw [if_neg q]
      by_cases q2 : j < 40
      · rw [seg_at q2, seg_at q2]
        unfold cpS
        rw [if_neg (by omega)]
      · unfold seg
        rw [if_neg q2, if_neg q2]) (fun k2 h2 hne => seg_congr (fun j hj => if_neg (by omega)))
theorem in_03 {v : Int32} {k : Nat} (hk : k < 4) (e : v = nI k) : 0 ≤ v ∧ v ≤ 3 := by
  subst e
  exact ⟨nI_pos' (by omega), nI_le (b := 3) (by omega) (by decide)⟩
theorem wr_bad {y z u : Row} {s i v : Int32} (h : ¬ fltV z s True = -1) : rWrite y z u s i v = .inl (lackK z s True) := by
  have h := flt_bad h
  unfold rWrite lackK
  by_cases c : 0 ≤ s ∧ s ≤ 3
  · rw [if_pos c, if_pos c]
    by_cases c2 : z (tN s) = 0
    · rw [if_pos c2, if_pos c2]
    · refine absurd ?_ h
      unfold lackV
      rw [if_pos c, if_neg c2, if_pos trivial]
  · rw [if_neg c, if_neg c]
theorem wr_nat {i : Int32} {len : Nat} (h1 : ¬ i < 0) (h2 : i < nI len) (hl : len ≤ 40) : ∃ k : Nat, k < len ∧ i = nI k := by
  obtain ⟨k, hk, e⟩ := nI_of h1
  subst e
  exact ⟨k, lt_of_nI h2 hk (by omega), rfl⟩
theorem has_nat {x f n : Int32} {L : Nat} (hL : L ≤ 40) (e : x = nI L) (h : 0 ≤ f ∧ 0 ≤ n ∧ n ≤ x ∧ f ≤ x - n) : ∃ a c : Nat, f = nI a ∧ n = nI c ∧ a + c ≤ L ∧ L ≤ 40 := by
  obtain ⟨a, ha, ea⟩ := nI_of (Int32.not_lt.mpr h.1)
  obtain ⟨c, hc, ec⟩ := nI_of (Int32.not_lt.mpr h.2.1)
  subst ea; subst ec; subst e
  have h1 := le_of_nI h.2.2.1 hc (by omega)
  have h2 := h.2.2.2
  rw [nI_sub h1] at h2
  have h3 := le_of_nI h2 ha (by omega)
  exact ⟨a, c, rfl, rfl, by omega, hL⟩
theorem has_yes {x f n : Int32} {L : Nat} (hL : L ≤ 40) (e : x = nI L) (h1 : 0 ≤ f) (h2 : 0 ≤ n) (h : tN f + tN n ≤ tN x) : 0 ≤ f ∧ 0 ≤ n ∧ n ≤ x ∧ f ≤ x - n := by
  obtain ⟨a, ha, ea⟩ := nI_of (Int32.not_lt.mpr h1)
  obtain ⟨c, hc, ec⟩ := nI_of (Int32.not_lt.mpr h2)
  subst ea; subst ec; subst e
  rw [tN_nI ha, tN_nI hc, tN_nI (by omega)] at h
  refine ⟨h1, h2, nI_le (by omega) (by omega), ?_⟩
  rw [nI_sub (by omega)]
  exact nI_le (by omega) (by omega)
theorem has_no1 {u : Row} {k t : Nat} {f o n : Int32} (hU : ∀ j, j < 4 → le9 (u j) 40) (hk : k ≤ 3) (h : ¬ (0 ≤ f ∧ 0 ≤ n ∧ n ≤ u k ∧ f ≤ u k - n)) : ¬ (0 ≤ f ∧ 0 ≤ o ∧ 0 ≤ n ∧ tN f + tN n ≤ tN (u k) ∧ tN o + tN n ≤ tN (u t)) := fun q => by
  obtain ⟨L, hL, e⟩ := hU k (by omega)
  exact h (has_yes hL e q.1 q.2.2.1 q.2.2.2.1)
theorem has_no2 {u : Row} {k s : Nat} {f o n : Int32} (hU : ∀ j, j < 4 → le9 (u j) 40) (hk : k ≤ 3) (h : ¬ (0 ≤ o ∧ 0 ≤ n ∧ n ≤ u k ∧ o ≤ u k - n)) : ¬ (0 ≤ f ∧ 0 ≤ o ∧ 0 ≤ n ∧ tN f + tN n ≤ tN (u s) ∧ tN o + tN n ≤ tN (u k)) := fun q => by
  obtain ⟨L, hL, e⟩ := hU k (by omega)
  exact h (has_yes hL e q.2.1 q.2.2.1 q.2.2.2.2)
set_option maxHeartbeats 800000 in
set_option maxRecDepth 100000 in
theorem c_J6_bitCount_0f7a4 (l : Launch) (v : Int32)  : Met l yJ6_bitCount_0f7a4 (wq yJ6_bitCount_0f7a4 cJ6_bitCount_0f7a4 1 (some .int)) ({ frames := 0, cells := 0, slots := 0, locals := 0 }) (va_Pc [.int v] (fun _ => True)) (qS (bc5 v &&& 63)) 0 0 (fun _ => False) := by
  refine MJ_mk RJ6 (by decide) rfl (Nat.le_of_ble_eq_true rfl) ?_
  intro p e s m below meth c S hr hlk hP ls hl
  have hl : lv_has ls 1 [(0, .int v)] := hl
  refine lv_iload_n S.1 S.2.1 dJ6_bitCount_0f7a4_0 rfl (lv_at hl 0 rfl) ?_
  refine lv_iload_n S.1 S.2.1 dJ6_bitCount_0f7a4_1 rfl (lv_at hl 0 rfl) ?_
  refine lv_iconst (v := 1) S.1 S.2.1 dJ6_bitCount_0f7a4_2 (by decide) ?_
  refine lv_iushr S.1 S.2.1 dJ6_bitCount_0f7a4_3 rfl ?_
  refine lv_ldcw (v := 1431655765) S.1 S.2.1 S.2.2.2.1 (S.2.2.2.2 _ (List.mem_cons_of_mem _ kk_J6_265)) dJ6_bitCount_0f7a4_4 ?_
  refine lv_iand S.1 S.2.1 dJ6_bitCount_0f7a4_7 ?_
  refine lv_isub S.1 S.2.1 dJ6_bitCount_0f7a4_8 ?_
  refine lv_eqi (y := bc1 v) rfl ?_
  refine lv_istore_n (lv' := [(0, .int (bc1 v))]) S.1 S.2.1 dJ6_bitCount_0f7a4_9 rfl hl (by decide) rfl (fun ls hl => ?_)
  refine lv_iload_n S.1 S.2.1 dJ6_bitCount_0f7a4_10 rfl (lv_at hl 0 rfl) ?_
  refine lv_ldcw (v := 858993459) S.1 S.2.1 S.2.2.2.1 (S.2.2.2.2 _ (List.mem_cons_of_mem _ kk_J6_266)) dJ6_bitCount_0f7a4_11 ?_
  refine lv_iand S.1 S.2.1 dJ6_bitCount_0f7a4_14 ?_
  refine lv_iload_n S.1 S.2.1 dJ6_bitCount_0f7a4_15 rfl (lv_at hl 0 rfl) ?_
  refine lv_iconst (v := 2) S.1 S.2.1 dJ6_bitCount_0f7a4_16 (by decide) ?_
  refine lv_iushr S.1 S.2.1 dJ6_bitCount_0f7a4_17 rfl ?_
  refine lv_ldcw (v := 858993459) S.1 S.2.1 S.2.2.2.1 (S.2.2.2.2 _ (List.mem_cons_of_mem _ kk_J6_266)) dJ6_bitCount_0f7a4_18 ?_
  refine lv_iand S.1 S.2.1 dJ6_bitCount_0f7a4_21 ?_
  refine lv_iadd S.1 S.2.1 dJ6_bitCount_0f7a4_22 ?_
  refine lv_eqi (y := bc2 v) rfl ?_
  refine lv_istore_n (lv' := [(0, .int (bc2 v))]) S.1 S.2.1 dJ6_bitCount_0f7a4_23 rfl hl (by decide) rfl (fun ls hl => ?_)
  refine lv_iload_n S.1 S.2.1 dJ6_bitCount_0f7a4_24 rfl (lv_at hl 0 rfl) ?_
  refine lv_iload_n S.1 S.2.1 dJ6_bitCount_0f7a4_25 rfl (lv_at hl 0 rfl) ?_
  refine lv_iconst (v := 4) S.1 S.2.1 dJ6_bitCount_0f7a4_26 (by decide) ?_
  refine lv_iushr S.1 S.2.1 dJ6_bitCount_0f7a4_27 rfl ?_
  refine lv_iadd S.1 S.2.1 dJ6_bitCount_0f7a4_28 ?_
  refine lv_ldcw (v := 252645135) S.1 S.2.1 S.2.2.2.1 (S.2.2.2.2 _ (List.mem_cons_of_mem _ kk_J6_267)) dJ6_bitCount_0f7a4_29 ?_
  refine lv_iand S.1 S.2.1 dJ6_bitCount_0f7a4_32 ?_
  refine lv_eqi (y := bc3 v) rfl ?_
  refine lv_istore_n (lv' := [(0, .int (bc3 v))]) S.1 S.2.1 dJ6_bitCount_0f7a4_33 rfl hl (by decide) rfl (fun ls hl => ?_)
  refine lv_iload_n S.1 S.2.1 dJ6_bitCount_0f7a4_34 rfl (lv_at hl 0 rfl) ?_
  refine lv_iload_n S.1 S.2.1 dJ6_bitCount_0f7a4_35 rfl (lv_at hl 0 rfl) ?_
  refine lv_bipush (v := 8) S.1 S.2.1 dJ6_bitCount_0f7a4_36 (by decide) ?_
  refine lv_iushr S.1 S.2.1 dJ6_bitCount_0f7a4_38 rfl ?_
  refine lv_iadd S.1 S.2.1 dJ6_bitCount_0f7a4_39 ?_
  refine lv_eqi (y := bc4 v) rfl ?_
  refine lv_istore_n (lv' := [(0, .int (bc4 v))]) S.1 S.2.1 dJ6_bitCount_0f7a4_40 rfl hl (by decide) rfl (fun ls hl => ?_)
  refine lv_iload_n S.1 S.2.1 dJ6_bitCount_0f7a4_41 rfl (lv_at hl 0 rfl) ?_
  refine lv_iload_n S.1 S.2.1 dJ6_bitCount_0f7a4_42 rfl (lv_at hl 0 rfl) ?_
  refine lv_bipush (v := 16) S.1 S.2.1 dJ6_bitCount_0f7a4_43 (by decide) ?_
  refine lv_iushr S.1 S.2.1 dJ6_bitCount_0f7a4_45 rfl ?_
  refine lv_iadd S.1 S.2.1 dJ6_bitCount_0f7a4_46 ?_
  refine lv_eqi (y := bc5 v) rfl ?_
  refine lv_istore_n (lv' := [(0, .int (bc5 v))]) S.1 S.2.1 dJ6_bitCount_0f7a4_47 rfl hl (by decide) rfl (fun ls hl => ?_)
  refine lv_iload_n S.1 S.2.1 dJ6_bitCount_0f7a4_48 rfl (lv_at hl 0 rfl) ?_
  refine lv_bipush (v := 63) S.1 S.2.1 dJ6_bitCount_0f7a4_49 (by decide) ?_
  refine lv_iand S.1 S.2.1 dJ6_bitCount_0f7a4_51 ?_
  exact retS S hr hlk rfl dJ6_bitCount_0f7a4_52
set_option maxHeartbeats 800000 in
set_option maxRecDepth 100000 in
theorem c_X4_isAvoidedBy (l : Launch) (E : EV) (ag ah az ak : Nat → Nat) (i0 : Int32) (r x : Row) (set9 w : Int32) (m9 : Nat) (hR : RI r) (hm : m9 ≤ 20) : Met l yX4_isAvoidedBy (wq yX4_isAvoidedBy cX4_isAvoidedBy 4 (some .boolean)) ({ frames := 5, cells := 0, slots := 0, locals := 105 }) (preB E [.ref (ag 0), .int set9, .int w, .int (nI m9)] [[gObj ag ah az ak i0], hillsW E ah r, hillsW E az x]) (qIx E [[gObj ag ah az ak i0], hillsW E ah r, hillsW E az x] (fun u9 => [[gObj ag ah az ak i0], hillsW E ah r, hillsW E az u9]) (bI (noC (daysF (keepR r set9 (cntN r)) m9) w))) 0 0 (inB [[gObj ag ah az ak i0], hillsW E ah r, hillsW E az x]) := by
  refine M_mk RX4 (by decide) rfl (Nat.le_of_ble_eq_true rfl) ?_
  intro p e s m below meth c S hr hlk hK hP hD hS ls hl
  have hl : lv_has ls 4 [(0, .ref (ag 0)), (1, .int set9), (2, .int w), (3, .int (nI m9))] := hl
  obtain ⟨n, d, hn, hn8, hd, hd5, ho, hso, hli, hsp, hpt⟩ := id hR
  obtain ⟨H, hH⟩ : ∃ zz9, zz9 = s.heap := ⟨_, rfl⟩
  obtain ⟨locs, hlocs⟩ : ∃ zz9 : List Loc, zz9 = [] := ⟨_, rfl⟩
  have hP : PE E [[gObj ag ah az ak i0], hillsW E ah r, hillsW E az x] H := by rw [hH]; exact hP
  have hS : va_S (inB [[gObj ag ah az ak i0], hillsW E ah r, hillsW E az x]) s.heap H locs := by rw [hH, hlocs]; exact hS
  show W p l e ({ frames := 5, cells := 0, slots := 0, locals := 105 }) s m ([.ref (ag 0), .int set9, .int w, .int (nI m9)] : List Value).toArray below meth c s.heap [] 0 0 _ _
  suffices hgo : W p l e ({ frames := 5, cells := 0, slots := 0, locals := 105 }) s m ([.ref (ag 0), .int set9, .int w, .int (nI m9)] : List Value).toArray below meth c H locs 0 0 (MQ below (qIx E [[gObj ag ah az ak i0], hillsW E ah r, hillsW E az x] (fun u9 => [[gObj ag ah az ak i0], hillsW E ah r, hillsW E az u9]) (bI (noC (daysF (keepR r set9 (cntN r)) m9) w))) ([.ref (ag 0), .int set9, .int w, .int (nI m9)] : List Value).toArray s 0 0 (inB [[gObj ag ah az ak i0], hillsW E ah r, hillsW E az x])) (F0 m 0 ls []) by rw [hH, hlocs] at hgo; exact hgo
  clear hH hlocs
  refine lv_aload_n S.1 S.2.1 dX4_isAvoidedBy_0 rfl (lv_at hl 0 rfl) ?_
  refine gf_X4_16 S hK hP 0 0 rfl rfl rfl dX4_isAvoidedBy_1 ?_
  refine lv_aload_n S.1 S.2.1 dX4_isAvoidedBy_4 rfl (lv_at hl 0 rfl) ?_
  refine gf_X4_10 S hK hP 0 0 rfl rfl rfl dX4_isAvoidedBy_5 ?_
  refine go_V (run_V (As := [.ref (ah 0)]) (rest := []) (n := 1) S hK (bl_P hP [2, 1] rfl) (bl_D hD [2, 1] rfl rfl) (c_X0_become l E az ah x r n hn hn8) gV_X4_135 (by decide +kernel) rfl ⟨rfl, rfl⟩ ⟨Nat.le_of_ble_eq_true rfl, Nat.le_of_ble_eq_true rfl⟩ (ci := 0) (q0 := 0) rfl rfl hl.1 (Nat.le_of_ble_eq_true rfl) dX4_isAvoidedBy_8 ⟨Nat.zero_le _, Nat.zero_le _⟩) hP hD hS [2, 1] rfl (had_cons hw_ad (had_cons rfl rfl)) (Bs' := [[gObj ag ah az ak i0], hillsW E ah r, hillsW E az (becF x r)]) rfl (fun H locs hP hD hS => ?_)
  obtain ⟨r_8, er_8⟩ : ∃ zz9 : Row, zz9 = becF x r := ⟨_, rfl⟩
  rw [← er_8] at hP hD
  have hev_r_8 : Ev r_8 r := by rw [er_8]; exact Ev.bec
  have hRI_r_8 : RI r_8 := RI_ev hev_r_8.sy hR
  have hr_8_1 : r_8 1 = nI n := (hev_r_8.lo (by decide)).trans hn
  have hr_8_0 : r_8 0 = nI d := (hev_r_8.lo (by decide)).trans hd
  refine lv_aload_n S.1 S.2.1 dX4_isAvoidedBy_11 rfl (lv_at hl 0 rfl) ?_
  refine gf_X4_16 S hK hP 0 0 rfl rfl rfl dX4_isAvoidedBy_12 ?_
  refine lv_iload_n S.1 S.2.1 dX4_isAvoidedBy_15 rfl (lv_at hl 1 rfl) ?_
  refine go_V (run_V (As := [.int set9]) (rest := []) (n := 1) S hK (bl_P hP [2] rfl) (bl_D hD [2] rfl rfl) (c_X0_keepIn l E az r_8 set9 n hr_8_1 hn8) gV_X4_172 (by decide +kernel) rfl ⟨rfl, rfl⟩ ⟨Nat.le_of_ble_eq_true rfl, Nat.le_of_ble_eq_true rfl⟩ (ci := 0) (q0 := 0) rfl rfl hl.1 (Nat.le_of_ble_eq_true rfl) dX4_isAvoidedBy_16 ⟨Nat.zero_le _, Nat.zero_le _⟩) hP hD hS [2] rfl (had_cons hw_ad rfl) (Bs' := [[gObj ag ah az ak i0], hillsW E ah r, hillsW E az (keepR r_8 set9 (cntN r_8))]) rfl (fun H locs hP hD hS => ?_)
  obtain ⟨r_16, er_16⟩ : ∃ zz9 : Row, zz9 = keepR r_8 set9 (cntN r_8) := ⟨_, rfl⟩
  rw [← er_16] at hP hD
  have hr_16_1 : r_16 1 = nI n := by rw [er_16]; exact (keepR_1 _ _).trans hr_8_1
  have hRI_r_16 : RI r_16 := by rw [er_16]; exact keepR_RI hRI_r_8 _ _
  have hev_r_16 : Ev r_16 (keepR r set9 (cntN r_8)) := by rw [er_16]; exact ev_keep hev_r_8 _
  refine lv_aload_n S.1 S.2.1 dX4_isAvoidedBy_19 rfl (lv_at hl 0 rfl) ?_
  refine gf_X4_16 S hK hP 0 0 rfl rfl rfl dX4_isAvoidedBy_20 ?_
  refine lv_iload_n S.1 S.2.1 dX4_isAvoidedBy_23 rfl (lv_at hl 3 rfl) ?_
  refine go_V (run_V (As := [.int (nI m9)]) (rest := []) (n := 1) S hK (bl_P hP [2] rfl) (bl_D hD [2] rfl rfl) (c_X0_passDays l E az r_16 m9 (by omega) hRI_r_16) gV_X4_113 (by decide +kernel) rfl ⟨rfl, rfl⟩ ⟨Nat.le_of_ble_eq_true rfl, Nat.le_of_ble_eq_true rfl⟩ (ci := 0) (q0 := 0) rfl rfl hl.1 (Nat.le_of_ble_eq_true rfl) dX4_isAvoidedBy_24 ⟨Nat.zero_le _, Nat.zero_le _⟩) hP hD hS [2] rfl (had_cons hw_ad rfl) (Bs' := [[gObj ag ah az ak i0], hillsW E ah r, hillsW E az (daysF r_16 m9)]) rfl (fun H locs hP hD hS => ?_)
  obtain ⟨r_24, er_24⟩ : ∃ zz9 : Row, zz9 = daysF r_16 m9 := ⟨_, rfl⟩
  rw [← er_24] at hP hD
  have hr_24_1 : r_24 1 = nI n := by rw [er_24]; exact (daysF_1 _ _).trans hr_16_1
  have hRI_r_24 : RI r_24 := by rw [er_24]; exact daysF_RI hRI_r_16 _
  have hev_r_24 : Ev r_24 (daysF (keepR r set9 (cntN r_8)) m9) := by rw [er_24]; exact ev_days hev_r_16 _
  refine lv_aload_n S.1 S.2.1 dX4_isAvoidedBy_27 rfl (lv_at hl 0 rfl) ?_
  refine gf_X4_16 S hK hP 0 0 rfl rfl rfl dX4_isAvoidedBy_28 ?_
  refine go_S (run_V (As := []) (rest := []) (n := 0) S hK (bl_P hP [2] rfl) (bl_D hD [2] rfl rfl) (c_X0_coloursOfPots l E az r_24 n hr_24_1 hn8) gV_X4_126 (by decide +kernel) rfl ⟨rfl, rfl⟩ ⟨Nat.le_of_ble_eq_true rfl, Nat.le_of_ble_eq_true rfl⟩ (ci := 0) (q0 := 0) rfl rfl hl.1 (Nat.le_of_ble_eq_true rfl) dX4_isAvoidedBy_31 ⟨Nat.zero_le _, Nat.zero_le _⟩) ?_
  have ev9 : Ev r_24 (daysF (keepR r set9 (cntN r)) m9) := by (have z9 := hev_r_24; rw [show cntN r_8 = cntN r from hev_r_8.c.symm] at z9; exact z9)
  refine lv_eqi (y := colR (daysF (keepR r set9 (cntN r)) m9) (cntN (daysF (keepR r set9 (cntN r)) m9))) (by rw [ev9.c]; exact ev_col ev9 _ (Nat.le_refl _)) ?_
  refine lv_iload_n S.1 S.2.1 dX4_isAvoidedBy_34 rfl (lv_at hl 2 rfl) ?_
  refine lv_ishr S.1 S.2.1 dX4_isAvoidedBy_35 ?_
  refine lv_iconst (v := 1) S.1 S.2.1 dX4_isAvoidedBy_36 (by decide) ?_
  refine lv_iand S.1 S.2.1 dX4_isAvoidedBy_37 ?_
  refine lv_if_ne (tgt := 45) S.1 S.2.1 dX4_isAvoidedBy_38 (by decide) (fun c_38 => ?_) (fun c_38 => ?_)
  · refine lv_iconst (v := 0) S.1 S.2.1 dX4_isAvoidedBy_45 (by decide) ?_
    exact retZx S hr hlk rfl r_24 hP hS (if_neg c_38).symm dX4_isAvoidedBy_46
  · refine lv_iconst (v := 1) S.1 S.2.1 dX4_isAvoidedBy_41 (by decide) ?_
    refine lv_goto (tgt := 46) S.1 S.2.1 dX4_isAvoidedBy_42 (by decide) ?_
    exact retZx S hr hlk rfl r_24 hP hS (if_pos c_38).symm dX4_isAvoidedBy_46
set_option maxHeartbeats 800000 in
set_option maxRecDepth 100000 in
theorem c_X4_stayIn (l : Launch) (E : EV) (ag ah az ak : Nat → Nat) (i0 : Int32) (r f x : Row) (w n9 : Int32) (hR : RI r) : Met l yX4_stayIn (wq yX4_stayIn cX4_stayIn 6 (some .int)) ({ frames := 6, cells := 0, slots := 0, locals := 128 }) (preB E [.ref (ag 0), .int w, .int n9] [[gObj ag ah az ak i0], hillsW E ah r, [(ag 4, .inl (E.2.1, 7, .inl (sg f 7)))], hillsW E az x]) (qIx E [[gObj ag ah az ak i0], hillsW E ah r, [(ag 4, .inl (E.2.1, 7, .inl (sg f 7)))], hillsW E az x] (fun u9 => [[gObj ag ah az ak i0], hillsW E ah r, [(ag 4, .inl (E.2.1, 7, .inl (sg (fndC f (rStayM r w n9)) 7)))], hillsW E az u9]) (ansR (rStayM r w n9))) 0 0 (inB [[gObj ag ah az ak i0], hillsW E ah r, [(ag 4, .inl (E.2.1, 7, .inl (sg f 7)))], hillsW E az x]) := by
  refine M_mk RX4 (by decide) rfl (Nat.le_of_ble_eq_true rfl) ?_
  intro p e s m below meth c S hr hlk hK hP hD hS ls hl
  have hl : lv_has ls 6 [(0, .ref (ag 0)), (1, .int w), (2, .int n9)] := hl
  obtain ⟨n, d, hn, hn8, hd, hd5, ho, hso, hli, hsp, hpt⟩ := id hR
  have hpw : 2 ^ n ≤ 256 := Nat.le_trans (Nat.pow_le_pow_right (by decide) hn8) (by decide)
  obtain ⟨H, hH⟩ : ∃ zz9, zz9 = s.heap := ⟨_, rfl⟩
  obtain ⟨locs, hlocs⟩ : ∃ zz9 : List Loc, zz9 = [] := ⟨_, rfl⟩
  have hP : PE E [[gObj ag ah az ak i0], hillsW E ah r, [(ag 4, .inl (E.2.1, 7, .inl (sg f 7)))], hillsW E az x] H := by rw [hH]; exact hP
  have hS : va_S (inB [[gObj ag ah az ak i0], hillsW E ah r, [(ag 4, .inl (E.2.1, 7, .inl (sg f 7)))], hillsW E az x]) s.heap H locs := by rw [hH, hlocs]; exact hS
  show W p l e ({ frames := 6, cells := 0, slots := 0, locals := 128 }) s m ([.ref (ag 0), .int w, .int n9] : List Value).toArray below meth c s.heap [] 0 0 _ _
  suffices hgo : W p l e ({ frames := 6, cells := 0, slots := 0, locals := 128 }) s m ([.ref (ag 0), .int w, .int n9] : List Value).toArray below meth c H locs 0 0 (MQ below (qIx E [[gObj ag ah az ak i0], hillsW E ah r, [(ag 4, .inl (E.2.1, 7, .inl (sg f 7)))], hillsW E az x] (fun u9 => [[gObj ag ah az ak i0], hillsW E ah r, [(ag 4, .inl (E.2.1, 7, .inl (sg (fndC f (rStayM r w n9)) 7)))], hillsW E az u9]) (ansR (rStayM r w n9))) ([.ref (ag 0), .int w, .int n9] : List Value).toArray s 0 0 (inB [[gObj ag ah az ak i0], hillsW E ah r, [(ag 4, .inl (E.2.1, 7, .inl (sg f 7)))], hillsW E az x])) (F0 m 0 ls []) by rw [hH, hlocs] at hgo; exact hgo
  clear hH hlocs
  refine lv_iload_n S.1 S.2.1 dX4_stayIn_0 rfl (lv_at hl 1 rfl) ?_
  refine lv_bipush (v := 7) S.1 S.2.1 dX4_stayIn_1 (by decide) ?_
  refine go_S (run_S (As := [.int w, .int 7]) (rest := []) (n := 2) S hK (bl_P hP [] rfl) (bl_D hD [] rfl rfl) (c_X4_isWithin l E w 7 ) gS_X4_44 (by decide +kernel) rfl ⟨rfl, rfl⟩ ⟨Nat.le_of_ble_eq_true rfl, Nat.le_of_ble_eq_true rfl⟩ hl.1 (Nat.le_of_ble_eq_true rfl) dX4_stayIn_3 ⟨Nat.zero_le _, Nat.zero_le _⟩) ?_
  refine b_ifeq (tgt := 18) S.1 S.2.1 dX4_stayIn_6 (by decide) (fun c_6 => ?_) (fun c_6 => ?_)
  · refine lv_aload_n S.1 S.2.1 dX4_stayIn_18 rfl (lv_at hl 0 rfl) ?_
    refine lv_iconst (v := 0) S.1 S.2.1 dX4_stayIn_19 (by decide) ?_
    refine go_I (run_V (As := [.int 0]) (rest := []) (n := 1) S hK (bl_P hP [0, 2] rfl) (bl_D hD [0, 2] rfl rfl) (c_X4_finding l E ag ah az ak i0 f 0 (by decide)) gV_X4_48 (by decide +kernel) rfl ⟨rfl, rfl⟩ ⟨Nat.le_of_ble_eq_true rfl, Nat.le_of_ble_eq_true rfl⟩ (ci := 4) (q0 := 0) rfl rfl hl.1 (Nat.le_of_ble_eq_true rfl) dX4_stayIn_20 ⟨Nat.zero_le _, Nat.zero_le _⟩) hP hD hS [0, 2] rfl (had_cons rfl (had_cons cell_ad rfl)) (Bs' := [[gObj ag ah az ak i0], hillsW E ah r, [(ag 4, .inl (E.2.1, 7, .inl (sg (upd f 0 (f 0 + 1)) 7)))], hillsW E az x]) rfl (fun H locs hP hD hS => ?_)
    obtain ⟨r_20, er_20⟩ : ∃ zz9 : Row, zz9 = upd f 0 (f 0 + 1) := ⟨_, rfl⟩
    rw [← er_20] at hP hD
    exact retIx S hr hlk x (by have e9 : rStayM r w n9 = .inl 0 := (by unfold rStayM; rw [if_neg c_6]); rw [er_20] at hP; rw [e9, fndC_inl]; exact hP) hS (by have e9 : rStayM r w n9 = .inl 0 := (by unfold rStayM; rw [if_neg c_6]); rw [e9]; decide) dX4_stayIn_23
  · obtain ⟨k_w, hk_w, ek_w⟩ := nI_of2 (n := 7) (by decide) (Int32.not_lt.mpr c_6.1) c_6.2
    refine lv_iload_n S.1 S.2.1 dX4_stayIn_9 rfl (lv_at hl 2 rfl) ?_
    refine lv_bipush (v := 20) S.1 S.2.1 dX4_stayIn_10 (by decide) ?_
    refine go_S (run_S (As := [.int n9, .int 20]) (rest := []) (n := 2) S hK (bl_P hP [] rfl) (bl_D hD [] rfl rfl) (c_X4_isWithin l E n9 20 ) gS_X4_44 (by decide +kernel) rfl ⟨rfl, rfl⟩ ⟨Nat.le_of_ble_eq_true rfl, Nat.le_of_ble_eq_true rfl⟩ hl.1 (Nat.le_of_ble_eq_true rfl) dX4_stayIn_12 ⟨Nat.zero_le _, Nat.zero_le _⟩) ?_
    refine b_ifne (tgt := 24) S.1 S.2.1 dX4_stayIn_15 (by decide) (fun c_15 => ?_) (fun c_15 => ?_)
    · obtain ⟨k_n9, hk_n9, ek_n9⟩ := nI_of2 (n := 20) (by decide) (Int32.not_lt.mpr c_15.1) c_15.2
      refine lv_iconst (v := 1) S.1 S.2.1 dX4_stayIn_24 (by decide) ?_
      refine lv_aload_n S.1 S.2.1 dX4_stayIn_25 rfl (lv_at hl 0 rfl) ?_
      refine gf_X4_10 S hK hP 0 0 rfl rfl rfl dX4_stayIn_26 ?_
      refine gf_X4_160 S hK hP 1 0 rfl rfl (congrArg (fun z => some (Value.int z)) hn) dX4_stayIn_29 ?_
      refine lv_ishl S.1 S.2.1 dX4_stayIn_32 ?_
      refine lv_eqi (y := nI (2 ^ n)) (shl_nI hn8) ?_
      refine lv_istore_n (lv' := [(3, .int (nI (2 ^ n))), (0, .ref (ag 0)), (1, .int w), (2, .int n9)]) S.1 S.2.1 dX4_stayIn_33 rfl hl (by decide) rfl (fun ls hl => ?_)
      refine lv_iconst (v := 0) S.1 S.2.1 dX4_stayIn_34 (by decide) ?_
      refine lv_istore (lv' := [(4, .int 0), (3, .int (nI (2 ^ n))), (0, .ref (ag 0)), (1, .int w), (2, .int n9)]) S.1 S.2.1 dX4_stayIn_35 hl (by decide) rfl (fun ls hl => ?_)
      have L_37 : ∀ (fu : Nat) (a : Nat) (ti : Row), (a ≤ n + 1) → (n + 1 < a + fu) → (∀ s, s < 2 ^ n → bitsN 256 s < a → (fun s9 => decide (noC (daysF (keepR r (nI s9) (cntN r)) k_n9) w)) s = false) → ∀ (H : Heap) (locs : List Loc), PE E [[gObj ag ah az ak i0], hillsW E ah r, [(ag 4, .inl (E.2.1, 7, .inl (sg f 7)))], hillsW E az ti] H → DE (inB [[gObj ag ah az ak i0], hillsW E ah r, [(ag 4, .inl (E.2.1, 7, .inl (sg f 7)))], hillsW E az x]) [[gObj ag ah az ak i0], hillsW E ah r, [(ag 4, .inl (E.2.1, 7, .inl (sg f 7)))], hillsW E az ti] → va_S (inB [[gObj ag ah az ak i0], hillsW E ah r, [(ag 4, .inl (E.2.1, 7, .inl (sg f 7)))], hillsW E az x]) s.heap H locs → ∀ (ls : Array Slot), lv_has ls 6 [(0, .ref (ag 0)), (1, .int w), (2, .int n9), (3, .int (nI (2 ^ n))), (4, .int (nI a))] → W p l e ({ frames := 6, cells := 0, slots := 0, locals := 128 }) s m ([.ref (ag 0), .int w, .int n9] : List Value).toArray below meth c H locs 0 0 (MQ below (qIx E [[gObj ag ah az ak i0], hillsW E ah r, [(ag 4, .inl (E.2.1, 7, .inl (sg f 7)))], hillsW E az x] (fun u9 => [[gObj ag ah az ak i0], hillsW E ah r, [(ag 4, .inl (E.2.1, 7, .inl (sg (fndC f (rStayM r w n9)) 7)))], hillsW E az u9]) (ansR (rStayM r w n9))) ([.ref (ag 0), .int w, .int n9] : List Value).toArray s 0 0 (inB [[gObj ag ah az ak i0], hillsW E ah r, [(ag 4, .inl (E.2.1, 7, .inl (sg f 7)))], hillsW E az x])) (F0 m 37 ls []) := by
        intro fu
        induction fu with
        | zero =>
          intro a ti ha hfa hlo
          omega
        | succ fu ih_37 =>
          intro a ti ha hfa hlo H locs hP hD hS ls hl
          refine lv_iload S.1 S.2.1 dX4_stayIn_37 (lv_at hl 4 rfl) ?_
          refine lv_aload_n S.1 S.2.1 dX4_stayIn_39 rfl (lv_at hl 0 rfl) ?_
          refine gf_X4_10 S hK hP 0 0 rfl rfl rfl dX4_stayIn_40 ?_
          refine gf_X4_160 S hK hP 1 0 rfl rfl (congrArg (fun z => some (Value.int z)) hn) dX4_stayIn_43 ?_
          refine lv_icmp_gt (tgt := 94) S.1 S.2.1 dX4_stayIn_46 (by decide) (fun c_46 => ?_) (fun c_46 => ?_)
          · have n_46 := Int32.not_le.mpr c_46
            have ha9 : a = n + 1 := by (have z9 : n < a := lt_of_nI c_46 (by omega) (by omega); omega)
            refine lv_aload_n S.1 S.2.1 dX4_stayIn_94 rfl (lv_at hl 0 rfl) ?_
            refine lv_iconst (v := 3) S.1 S.2.1 dX4_stayIn_95 (by decide) ?_
            refine go_I (run_V (As := [.int 3]) (rest := []) (n := 1) S hK (bl_P hP [0, 2] rfl) (bl_D hD [0, 2] rfl rfl) (c_X4_finding l E ag ah az ak i0 f 3 (by decide)) gV_X4_48 (by decide +kernel) rfl ⟨rfl, rfl⟩ ⟨Nat.le_of_ble_eq_true rfl, Nat.le_of_ble_eq_true rfl⟩ (ci := 4) (q0 := 0) rfl rfl hl.1 (Nat.le_of_ble_eq_true rfl) dX4_stayIn_96 ⟨Nat.zero_le _, Nat.zero_le _⟩) hP hD hS [0, 2] rfl (had_cons rfl (had_cons cell_ad rfl)) (Bs' := [[gObj ag ah az ak i0], hillsW E ah r, [(ag 4, .inl (E.2.1, 7, .inl (sg (upd f 3 (f 3 + 1)) 7)))], hillsW E az ti]) rfl (fun H locs hP hD hS => ?_)
            obtain ⟨r_96, er_96⟩ : ∃ zz9 : Row, zz9 = upd f 3 (f 3 + 1) := ⟨_, rfl⟩
            rw [← er_96] at hP hD
            exact retIx S hr hlk ti (by have e8 : rStayM r w n9 = orNR (oI (bsN (fun s9 => decide (noC (daysF (keepR r (nI s9) (cntN r)) k_n9) w)) (2 ^ n) (2 ^ n))) := (by unfold rStayM; rw [if_pos c_6, if_pos c_15, ek_n9, tN_nI (by omega), show (2 : Nat) ^ cntN r = 2 ^ n by rw [cntN_eq hn hn8]]); have e9 : rStayM r w n9 = .inl 3 := (by rw [e8, st_none hn8 (fun s hs hb => hlo s hs (by omega))]; rfl); rw [er_96] at hP; rw [e9, fndC_inl]; exact hP) hS (by have e8 : rStayM r w n9 = orNR (oI (bsN (fun s9 => decide (noC (daysF (keepR r (nI s9) (cntN r)) k_n9) w)) (2 ^ n) (2 ^ n))) := (by unfold rStayM; rw [if_pos c_6, if_pos c_15, ek_n9, tN_nI (by omega), show (2 : Nat) ^ cntN r = 2 ^ n by rw [cntN_eq hn hn8]]); have e9 : rStayM r w n9 = .inl 3 := (by rw [e8, st_none hn8 (fun s hs hb => hlo s hs (by omega))]; rfl); rw [e9]; decide) dX4_stayIn_99
          · have n_46 := Int32.not_lt.mp c_46
            have ha2 : a ≤ n := le_of_nI (Int32.not_lt.mp c_46) (by omega) (by omega)
            refine lv_iconst (v := 0) S.1 S.2.1 dX4_stayIn_49 (by decide) ?_
            refine lv_istore (lv' := [(5, .int 0), (0, .ref (ag 0)), (1, .int w), (2, .int n9), (3, .int (nI (2 ^ n))), (4, .int (nI a))]) S.1 S.2.1 dX4_stayIn_50 hl (by decide) rfl (fun ls hl => ?_)
            have L_52 : ∀ (fu : Nat) (b : Nat) (tj : Row), (b ≤ 2 ^ n) → (2 ^ n < b + fu) → (∀ s, s < b → bitsN 256 s = a → (fun s9 => decide (noC (daysF (keepR r (nI s9) (cntN r)) k_n9) w)) s = false) → ∀ (H : Heap) (locs : List Loc), PE E [[gObj ag ah az ak i0], hillsW E ah r, [(ag 4, .inl (E.2.1, 7, .inl (sg f 7)))], hillsW E az tj] H → DE (inB [[gObj ag ah az ak i0], hillsW E ah r, [(ag 4, .inl (E.2.1, 7, .inl (sg f 7)))], hillsW E az x]) [[gObj ag ah az ak i0], hillsW E ah r, [(ag 4, .inl (E.2.1, 7, .inl (sg f 7)))], hillsW E az tj] → va_S (inB [[gObj ag ah az ak i0], hillsW E ah r, [(ag 4, .inl (E.2.1, 7, .inl (sg f 7)))], hillsW E az x]) s.heap H locs → ∀ (ls : Array Slot), lv_has ls 6 [(0, .ref (ag 0)), (1, .int w), (2, .int n9), (3, .int (nI (2 ^ n))), (4, .int (nI a)), (5, .int (nI b))] → W p l e ({ frames := 6, cells := 0, slots := 0, locals := 128 }) s m ([.ref (ag 0), .int w, .int n9] : List Value).toArray below meth c H locs 0 0 (MQ below (qIx E [[gObj ag ah az ak i0], hillsW E ah r, [(ag 4, .inl (E.2.1, 7, .inl (sg f 7)))], hillsW E az x] (fun u9 => [[gObj ag ah az ak i0], hillsW E ah r, [(ag 4, .inl (E.2.1, 7, .inl (sg (fndC f (rStayM r w n9)) 7)))], hillsW E az u9]) (ansR (rStayM r w n9))) ([.ref (ag 0), .int w, .int n9] : List Value).toArray s 0 0 (inB [[gObj ag ah az ak i0], hillsW E ah r, [(ag 4, .inl (E.2.1, 7, .inl (sg f 7)))], hillsW E az x])) (F0 m 52 ls []) := by
              intro fu
              induction fu with
              | zero =>
                intro b tj hb hfb hse
                omega
              | succ fu ih_52 =>
                intro b tj hb hfb hse H locs hP hD hS ls hl
                refine lv_iload S.1 S.2.1 dX4_stayIn_52 (lv_at hl 5 rfl) ?_
                refine lv_iload_n S.1 S.2.1 dX4_stayIn_54 rfl (lv_at hl 3 rfl) ?_
                refine lv_icmp_ge (tgt := 88) S.1 S.2.1 dX4_stayIn_55 (by decide) (fun c_55 => ?_) (fun c_55 => ?_)
                · have n_55 := Int32.not_lt.mpr c_55
                  have hs9 : b = 2 ^ n := le_endK hb c_55 (by omega)
                  refine lv_iinc (v := nI (a + 1)) (lv' := [(4, .int (nI (a + 1))), (0, .ref (ag 0)), (1, .int w), (2, .int n9), (3, .int (nI (2 ^ n))), (5, .int (nI b))]) S.1 S.2.1 dX4_stayIn_88 hl (k := 4) rfl (nI_1 a) (by decide) rfl (fun ls hl => ?_)
                  refine lv_goto (tgt := 37) S.1 S.2.1 dX4_stayIn_91 (by decide) ?_
                  exact ih_37 (a + 1) tj (by omega) (by omega) (st_next hlo hse hs9) H locs hP hD hS ls (lv_sub hl [1, 2, 3, 4, 0] rfl)
                · have n_55 := Int32.not_le.mp c_55
                  have hb2 : b < 2 ^ n := lt_in c_55 hb
                  refine lv_iload S.1 S.2.1 dX4_stayIn_58 (lv_at hl 5 rfl) ?_
                  refine go_S (run_SJ (As := [.int (nI b)]) (rest := []) (n := 1) S pT_b (fun _ _ _ => trivial) (c_J6_bitCount_0f7a4 l (nI b)) (good_SJ mk_X4_163 sk_yJ6_bitCount_0f7a4 nk_J6 ck_yJ6_bitCount_0f7a4) (by decide +kernel) rfl ⟨rfl, rfl⟩ ⟨Nat.le_of_ble_eq_true rfl, Nat.le_of_ble_eq_true rfl⟩ hl.1 (Nat.le_of_ble_eq_true rfl) dX4_stayIn_60 ⟨Nat.zero_le _, Nat.zero_le _⟩) ?_
                  refine lv_eqi (y := nI (bitsN 256 b)) (bc_eq (by omega)) ?_
                  refine lv_iload S.1 S.2.1 dX4_stayIn_63 (lv_at hl 4 rfl) ?_
                  refine lv_icmp_ne (tgt := 82) S.1 S.2.1 dX4_stayIn_65 (by decide) (fun c_65 => ?_) (fun c_65 => ?_)
                  · have hbc : ¬ bitsN 256 b = a := fun z9 => c_65 (by rw [z9])
                    refine lv_iinc (v := nI (b + 1)) (lv' := [(5, .int (nI (b + 1))), (0, .ref (ag 0)), (1, .int w), (2, .int n9), (3, .int (nI (2 ^ n))), (4, .int (nI a))]) S.1 S.2.1 dX4_stayIn_82 hl (k := 5) rfl (nI_1 b) (by decide) rfl (fun ls hl => ?_)
                    refine lv_goto (tgt := 52) S.1 S.2.1 dX4_stayIn_85 (by decide) ?_
                    exact ih_52 (b + 1) tj (by omega) (by omega) (st_s1 hse hbc) H locs hP hD hS ls (lv_sub hl [1, 2, 3, 4, 5, 0] rfl)
                  · have hbc : bitsN 256 b = a := (nI_eq (bits_small _) (by omega)).mp c_65
                    refine lv_aload_n S.1 S.2.1 dX4_stayIn_68 rfl (lv_at hl 0 rfl) ?_
                    refine lv_iload S.1 S.2.1 dX4_stayIn_69 (lv_at hl 5 rfl) ?_
                    refine lv_iload_n S.1 S.2.1 dX4_stayIn_71 rfl (lv_at hl 1 rfl) ?_
                    refine lv_eqi (y := nI k_w) ek_w ?_
                    refine lv_iload_n S.1 S.2.1 dX4_stayIn_72 rfl (lv_at hl 2 rfl) ?_
                    refine lv_eqi (y := nI k_n9) ek_n9 ?_
                    refine go_Ix (run_V (As := [.int (nI b), .int (nI k_w), .int (nI k_n9)]) (rest := []) (n := 3) S hK (bl_P hP [0, 1, 3] rfl) (bl_D hD [0, 1, 3] rfl rfl) (c_X4_isAvoidedBy l E ag ah az ak i0 r tj (nI b) (nI k_w) k_n9 hR (by omega)) gV_X4_168 (by decide +kernel) rfl ⟨rfl, rfl⟩ ⟨Nat.le_of_ble_eq_true rfl, Nat.le_of_ble_eq_true rfl⟩ (ci := 4) (q0 := 0) rfl rfl hl.1 (Nat.le_of_ble_eq_true rfl) dX4_stayIn_73 ⟨Nat.zero_le _, Nat.zero_le _⟩) hP hD hS [0, 1, 3] rfl (fun _ => (had_cons rfl (had_cons rfl (had_cons hw_ad rfl)))) (Bs' := fun u9 => [[gObj ag ah az ak i0], hillsW E ah r, [(ag 4, .inl (E.2.1, 7, .inl (sg f 7)))], hillsW E az u9]) (fun _ => rfl) (fun u_1 H locs hP hD hS => ?_)
                    refine b_ifeq (tgt := 82) S.1 S.2.1 dX4_stayIn_76 (by decide) (fun c_76 => ?_) (fun c_76 => ?_)
                    · refine lv_iinc (v := nI (b + 1)) (lv' := [(5, .int (nI (b + 1))), (0, .ref (ag 0)), (1, .int w), (2, .int n9), (3, .int (nI (2 ^ n))), (4, .int (nI a))]) S.1 S.2.1 dX4_stayIn_82 hl (k := 5) rfl (nI_1 b) (by decide) rfl (fun ls hl => ?_)
                      refine lv_goto (tgt := 52) S.1 S.2.1 dX4_stayIn_85 (by decide) ?_
                      exact ih_52 (b + 1) u_1 (by omega) (by omega) (st_s2 hse (decide_eq_false (by rw [ek_w]; exact c_76))) H locs hP hD hS ls (lv_sub hl [1, 2, 3, 4, 5, 0] rfl)
                    · refine lv_iload S.1 S.2.1 dX4_stayIn_79 (lv_at hl 5 rfl) ?_
                      exact retIx S hr hlk u_1 (by have e8 : rStayM r w n9 = orNR (oI (bsN (fun s9 => decide (noC (daysF (keepR r (nI s9) (cntN r)) k_n9) w)) (2 ^ n) (2 ^ n))) := (by unfold rStayM; rw [if_pos c_6, if_pos c_15, ek_n9, tN_nI (by omega), show (2 : Nat) ^ cntN r = 2 ^ n by rw [cntN_eq hn hn8]]); have e9 : rStayM r w n9 = .inr (fun _ => 0, nI b) := (by rw [e8, st_some hpw (show b < 2 ^ n from hb2) (decide_eq_true (by rw [ek_w]; exact c_76)) (by rw [hbc]; exact hlo) (by rw [hbc]; exact hse)]; exact if_pos (nI_pos' (by omega))); rw [e9, fndC_inr]; exact hP) hS (by have e8 : rStayM r w n9 = orNR (oI (bsN (fun s9 => decide (noC (daysF (keepR r (nI s9) (cntN r)) k_n9) w)) (2 ^ n) (2 ^ n))) := (by unfold rStayM; rw [if_pos c_6, if_pos c_15, ek_n9, tN_nI (by omega), show (2 : Nat) ^ cntN r = 2 ^ n by rw [cntN_eq hn hn8]]); have e9 : rStayM r w n9 = .inr (fun _ => 0, nI b) := (by rw [e8, st_some hpw (show b < 2 ^ n from hb2) (decide_eq_true (by rw [ek_w]; exact c_76)) (by rw [hbc]; exact hlo) (by rw [hbc]; exact hse)]; exact if_pos (nI_pos' (by omega))); rw [e9, ansR_inr]) dX4_stayIn_81
            exact L_52 (2 ^ n + 1) 0 ti (Nat.zero_le _) (by rw [Nat.zero_add]; exact Nat.lt_succ_self _) (fun s hs _ => absurd hs (Nat.not_lt_zero _)) H locs hP hD hS ls (lv_sub hl [1, 2, 3, 4, 5, 0] rfl)
      exact L_37 (n + 2) 0 x (by omega) (by omega) (fun s _ hb => absurd hb (Nat.not_lt_zero _)) H locs hP hD hS ls (lv_sub hl [2, 3, 4, 1, 0] rfl)
    · refine lv_aload_n S.1 S.2.1 dX4_stayIn_18 rfl (lv_at hl 0 rfl) ?_
      refine lv_iconst (v := 0) S.1 S.2.1 dX4_stayIn_19 (by decide) ?_
      refine go_I (run_V (As := [.int 0]) (rest := []) (n := 1) S hK (bl_P hP [0, 2] rfl) (bl_D hD [0, 2] rfl rfl) (c_X4_finding l E ag ah az ak i0 f 0 (by decide)) gV_X4_48 (by decide +kernel) rfl ⟨rfl, rfl⟩ ⟨Nat.le_of_ble_eq_true rfl, Nat.le_of_ble_eq_true rfl⟩ (ci := 4) (q0 := 0) rfl rfl hl.1 (Nat.le_of_ble_eq_true rfl) dX4_stayIn_20 ⟨Nat.zero_le _, Nat.zero_le _⟩) hP hD hS [0, 2] rfl (had_cons rfl (had_cons cell_ad rfl)) (Bs' := [[gObj ag ah az ak i0], hillsW E ah r, [(ag 4, .inl (E.2.1, 7, .inl (sg (upd f 0 (f 0 + 1)) 7)))], hillsW E az x]) rfl (fun H locs hP hD hS => ?_)
      obtain ⟨r_20_2, er_20_2⟩ : ∃ zz9 : Row, zz9 = upd f 0 (f 0 + 1) := ⟨_, rfl⟩
      rw [← er_20_2] at hP hD
      exact retIx S hr hlk x (by have e9 : rStayM r w n9 = .inl 0 := (by unfold rStayM; rw [if_pos c_6, if_neg c_15]); rw [er_20_2] at hP; rw [e9, fndC_inl]; exact hP) hS (by have e9 : rStayM r w n9 = .inl 0 := (by unfold rStayM; rw [if_pos c_6, if_neg c_15]); rw [e9]; decide) dX4_stayIn_23
set_option maxHeartbeats 800000 in
set_option maxRecDepth 100000 in
theorem c_X4_inLowestTerms (l : Launch) (E : EV) (a9 g9 : Nat) (ha : a9 ≤ 100) (hg : g9 ≤ 100) : Met l yX4_inLowestTerms (wq yX4_inLowestTerms cX4_inLowestTerms 3 (some .int)) ({ frames := 0, cells := 0, slots := 0, locals := 0 }) (preB E [.int (nI a9), .int (nI g9)] []) (qS (nI (a9 / Nat.gcd 100 g9))) 0 0 (fun _ => False) := by
  refine M_mk RX4 (by decide) rfl (Nat.le_of_ble_eq_true rfl) ?_
  intro p e s m below meth c S hr hlk hK hP hD hS ls hl
  have hl : lv_has ls 3 [(0, .int (nI a9)), (1, .int (nI g9))] := hl
  refine lv_bipush (v := 100) S.1 S.2.1 dX4_inLowestTerms_0 (by decide) ?_
  refine lv_istore_n (lv' := [(2, .int 100), (0, .int (nI a9)), (1, .int (nI g9))]) S.1 S.2.1 dX4_inLowestTerms_2 rfl hl (by decide) rfl (fun ls hl => ?_)
  have L_3 : ∀ (fu : Nat) (t : Nat), (t ≤ 100) → (t < fu) → (1 ≤ t) → (∀ d, t < d → d ≤ 100 → ¬ (d ∣ g9 ∧ d ∣ 100)) → ∀ (ls : Array Slot), lv_has ls 3 [(0, .int (nI a9)), (1, .int (nI g9)), (2, .int (nI t))] → W p l e ({ frames := 0, cells := 0, slots := 0, locals := 0 }) s m ([.int (nI a9), .int (nI g9)] : List Value).toArray below meth c s.heap [] 0 0 (MQ below (qS (nI (a9 / Nat.gcd 100 g9))) ([.int (nI a9), .int (nI g9)] : List Value).toArray s 0 0 (fun _ => False)) (F0 m 3 ls []) := by
    intro fu
    induction fu with
    | zero =>
      intro t ht hf h1 hno
      omega
    | succ fu ih_3 =>
      intro t ht hf h1 hno ls hl
      refine lv_iload_n S.1 S.2.1 dX4_inLowestTerms_3 rfl (lv_at hl 2 rfl) ?_
      refine lv_iconst (v := 1) S.1 S.2.1 dX4_inLowestTerms_4 (by decide) ?_
      refine lv_icmp_le (tgt := 31) S.1 S.2.1 dX4_inLowestTerms_5 (by decide) (fun c_5 => ?_) (fun c_5 => ?_)
      · have n_5 := Int32.not_lt.mpr c_5
        refine lv_iload_n S.1 S.2.1 dX4_inLowestTerms_31 rfl (lv_at hl 0 rfl) ?_
        exact retS S hr hlk (by rw [lt_end hno (le_of_nI (b := 1) c_5 (by omega) (by decide)) h1, Nat.div_one]) dX4_inLowestTerms_32
      · have n_5 := Int32.not_le.mp c_5
        have ht2 : 2 ≤ t := by (have z9 : 1 < t := lt_of_nI (a := 1) n_5 (by decide) (by omega); omega)
        refine lv_iload_n S.1 S.2.1 dX4_inLowestTerms_8 rfl (lv_at hl 1 rfl) ?_
        refine lv_iload_n S.1 S.2.1 dX4_inLowestTerms_9 rfl (lv_at hl 2 rfl) ?_
        refine lv_irem S.1 S.2.1 dX4_inLowestTerms_10 (nI_ne0 (by omega) (by omega)) ?_
        refine lv_eqi (y := nI (g9 % t)) (pk_rem (a := g9) (d := t) (by omega) (by omega) (by omega)) ?_
        refine lv_if_ne (tgt := 25) S.1 S.2.1 dX4_inLowestTerms_11 (by decide) (fun c_11 => ?_) (fun c_11 => ?_)
        · refine lv_iinc (v := nI (t - 1)) (lv' := [(2, .int (nI (t - 1))), (0, .int (nI a9)), (1, .int (nI g9))]) S.1 S.2.1 dX4_inLowestTerms_25 hl (k := 2) rfl (nI_dec h1) (by decide) rfl (fun ls hl => ?_)
          refine lv_goto (tgt := 3) S.1 S.2.1 dX4_inLowestTerms_28 (by decide) ?_
          exact ih_3 (t - 1) (by omega) (by omega) (by omega) (lt_no hno (fun z9 => c_11 (by rw [Nat.mod_eq_zero_of_dvd z9.1]; rfl)))  ls (lv_sub hl [1, 2, 0] rfl)
        · refine lv_bipush (v := 100) S.1 S.2.1 dX4_inLowestTerms_14 (by decide) ?_
          refine lv_iload_n S.1 S.2.1 dX4_inLowestTerms_16 rfl (lv_at hl 2 rfl) ?_
          refine lv_irem S.1 S.2.1 dX4_inLowestTerms_17 (nI_ne0 (by omega) (by omega)) ?_
          refine lv_eqi (y := nI (100 % t)) (pk_rem (a := 100) (d := t) (by omega) (by omega) (by omega)) ?_
          refine lv_if_ne (tgt := 25) S.1 S.2.1 dX4_inLowestTerms_18 (by decide) (fun c_18 => ?_) (fun c_18 => ?_)
          · refine lv_iinc (v := nI (t - 1)) (lv' := [(2, .int (nI (t - 1))), (0, .int (nI a9)), (1, .int (nI g9))]) S.1 S.2.1 dX4_inLowestTerms_25 hl (k := 2) rfl (nI_dec h1) (by decide) rfl (fun ls hl => ?_)
            refine lv_goto (tgt := 3) S.1 S.2.1 dX4_inLowestTerms_28 (by decide) ?_
            exact ih_3 (t - 1) (by omega) (by omega) (by omega) (lt_no hno (fun z9 => c_18 (by rw [Nat.mod_eq_zero_of_dvd z9.2]; rfl)))  ls (lv_sub hl [1, 2, 0] rfl)
          · refine lv_iload_n S.1 S.2.1 dX4_inLowestTerms_21 rfl (lv_at hl 0 rfl) ?_
            refine lv_iload_n S.1 S.2.1 dX4_inLowestTerms_22 rfl (lv_at hl 2 rfl) ?_
            refine lv_idiv S.1 S.2.1 dX4_inLowestTerms_23 (nI_ne0 (by omega) (by omega)) ?_
            refine lv_eqi (y := nI (a9 / t)) (pk_div (a := a9) (d := t) (by omega) (by omega) (by omega)) ?_
            exact retS S hr hlk (by rw [lt_hit hno ht (Nat.dvd_of_mod_eq_zero ((nI_eq (b := 0) (Nat.lt_of_le_of_lt (Nat.mod_le _ _) (by omega)) (by decide)).mp c_11)) (Nat.dvd_of_mod_eq_zero ((nI_eq (b := 0) (Nat.lt_of_le_of_lt (Nat.mod_le _ _) (by decide)) (by decide)).mp c_18))]) dX4_inLowestTerms_24
  exact L_3 101 100 (Nat.le_refl _) (by decide) (by decide) (fun d h1 h2 => absurd h1 (by omega))  ls (lv_sub hl [1, 2, 0] rfl)
set_option maxHeartbeats 800000 in
set_option maxRecDepth 100000 in
theorem c_X4_odds (l : Launch) (E : EV) (ag ah az ak : Nat → Nat) (i0 : Int32) (r f : Row) (pp n9 w : Int32) (hR : RI r) : Met l yX4_odds (wq yX4_odds cX4_odds 10 (some .long)) ({ frames := 2, cells := 0, slots := 0, locals := 48 }) (preB E [.ref (ag 0), .int pp, .int n9, .int w] [[gObj ag ah az ak i0], hillsW E ah r, [(ag 4, .inl (E.2.1, 7, .inl (sg f 7)))]]) (qL E [[gObj ag ah az ak i0], hillsW E ah r, [(ag 4, .inl (E.2.1, 7, .inl (sg f 7)))]] [[gObj ag ah az ak i0], hillsW E ah r, [(ag 4, .inl (E.2.1, 7, .inl (sg (fndCL f (rOdds r pp n9 w)) 7)))]] (ansL (rOdds r pp n9 w))) 0 0 (inB [[gObj ag ah az ak i0], hillsW E ah r, [(ag 4, .inl (E.2.1, 7, .inl (sg f 7)))]]) := by
  refine M_mk RX4 (by decide) rfl (Nat.le_of_ble_eq_true rfl) ?_
  intro p e s m below meth c S hr hlk hK hP hD hS ls hl
  have hl : lv_has ls 10 [(0, .ref (ag 0)), (1, .int pp), (2, .int n9), (3, .int w)] := hl
  obtain ⟨n, d, hn, hn8, hd, hd5, ho, hso, hli, hsp, hpt⟩ := id hR
  obtain ⟨H, hH⟩ : ∃ zz9, zz9 = s.heap := ⟨_, rfl⟩
  obtain ⟨locs, hlocs⟩ : ∃ zz9 : List Loc, zz9 = [] := ⟨_, rfl⟩
  have hP : PE E [[gObj ag ah az ak i0], hillsW E ah r, [(ag 4, .inl (E.2.1, 7, .inl (sg f 7)))]] H := by rw [hH]; exact hP
  have hS : va_S (inB [[gObj ag ah az ak i0], hillsW E ah r, [(ag 4, .inl (E.2.1, 7, .inl (sg f 7)))]]) s.heap H locs := by rw [hH, hlocs]; exact hS
  show W p l e ({ frames := 2, cells := 0, slots := 0, locals := 48 }) s m ([.ref (ag 0), .int pp, .int n9, .int w] : List Value).toArray below meth c s.heap [] 0 0 _ _
  suffices hgo : W p l e ({ frames := 2, cells := 0, slots := 0, locals := 48 }) s m ([.ref (ag 0), .int pp, .int n9, .int w] : List Value).toArray below meth c H locs 0 0 (MQ below (qL E [[gObj ag ah az ak i0], hillsW E ah r, [(ag 4, .inl (E.2.1, 7, .inl (sg f 7)))]] [[gObj ag ah az ak i0], hillsW E ah r, [(ag 4, .inl (E.2.1, 7, .inl (sg (fndCL f (rOdds r pp n9 w)) 7)))]] (ansL (rOdds r pp n9 w))) ([.ref (ag 0), .int pp, .int n9, .int w] : List Value).toArray s 0 0 (inB [[gObj ag ah az ak i0], hillsW E ah r, [(ag 4, .inl (E.2.1, 7, .inl (sg f 7)))]])) (F0 m 0 ls []) by rw [hH, hlocs] at hgo; exact hgo
  clear hH hlocs
  refine lv_aload_n S.1 S.2.1 dX4_odds_0 rfl (lv_at hl 0 rfl) ?_
  refine lv_iload_n S.1 S.2.1 dX4_odds_1 rfl (lv_at hl 1 rfl) ?_
  refine go_S (run_V (As := [.int pp]) (rest := []) (n := 1) S hK (bl_P hP [0, 1] rfl) (bl_D hD [0, 1] rfl rfl) (c_X4_isPotter l E ag ah az ak i0 r pp ) gV_X4_67 (by decide +kernel) rfl ⟨rfl, rfl⟩ ⟨Nat.le_of_ble_eq_true rfl, Nat.le_of_ble_eq_true rfl⟩ (ci := 4) (q0 := 0) rfl rfl hl.1 (Nat.le_of_ble_eq_true rfl) dX4_odds_2 ⟨Nat.zero_le _, Nat.zero_le _⟩) ?_
  refine b_ifeq (tgt := 25) S.1 S.2.1 dX4_odds_5 (by decide) (fun c_5 => ?_) (fun c_5 => ?_)
  · refine lv_aload_n S.1 S.2.1 dX4_odds_25 rfl (lv_at hl 0 rfl) ?_
    refine lv_iconst (v := 0) S.1 S.2.1 dX4_odds_26 (by decide) ?_
    refine go_I (run_V (As := [.int 0]) (rest := []) (n := 1) S hK (bl_P hP [0, 2] rfl) (bl_D hD [0, 2] rfl rfl) (c_X4_finding l E ag ah az ak i0 f 0 (by decide)) gV_X4_48 (by decide +kernel) rfl ⟨rfl, rfl⟩ ⟨Nat.le_of_ble_eq_true rfl, Nat.le_of_ble_eq_true rfl⟩ (ci := 4) (q0 := 0) rfl rfl hl.1 (Nat.le_of_ble_eq_true rfl) dX4_odds_27 ⟨Nat.zero_le _, Nat.zero_le _⟩) hP hD hS [0, 2] rfl (had_cons rfl (had_cons cell_ad rfl)) (Bs' := [[gObj ag ah az ak i0], hillsW E ah r, [(ag 4, .inl (E.2.1, 7, .inl (sg (upd f 0 (f 0 + 1)) 7)))]]) rfl (fun H locs hP hD hS => ?_)
    obtain ⟨r_27, er_27⟩ : ∃ zz9 : Row, zz9 = upd f 0 (f 0 + 1) := ⟨_, rfl⟩
    rw [← er_27] at hP hD
    refine lv_i2l S.1 S.2.1 dX4_odds_30 rfl ?_
    exact retL S hr hlk (by have e9 : rOdds r pp n9 w = .inl 0 := (by unfold rOdds; rw [if_neg c_5]); rw [er_27] at hP; rw [e9, fndCL_inl]; exact hP) hS (by have e9 : rOdds r pp n9 w = .inl 0 := (by unfold rOdds; rw [if_neg c_5]); rw [e9]; rfl) dX4_odds_31
  · obtain ⟨k_pp, hk_pp, ek_pp⟩ := pot_nat c_5 hn (by omega)
    refine lv_iload_n S.1 S.2.1 dX4_odds_8 rfl (lv_at hl 2 rfl) ?_
    refine lv_bipush (v := 9) S.1 S.2.1 dX4_odds_9 (by decide) ?_
    refine go_S (run_S (As := [.int n9, .int 9]) (rest := []) (n := 2) S hK (bl_P hP [] rfl) (bl_D hD [] rfl rfl) (c_X4_isWithin l E n9 9 ) gS_X4_44 (by decide +kernel) rfl ⟨rfl, rfl⟩ ⟨Nat.le_of_ble_eq_true rfl, Nat.le_of_ble_eq_true rfl⟩ hl.1 (Nat.le_of_ble_eq_true rfl) dX4_odds_11 ⟨Nat.zero_le _, Nat.zero_le _⟩) ?_
    refine b_ifeq (tgt := 25) S.1 S.2.1 dX4_odds_14 (by decide) (fun c_14 => ?_) (fun c_14 => ?_)
    · refine lv_aload_n S.1 S.2.1 dX4_odds_25 rfl (lv_at hl 0 rfl) ?_
      refine lv_iconst (v := 0) S.1 S.2.1 dX4_odds_26 (by decide) ?_
      refine go_I (run_V (As := [.int 0]) (rest := []) (n := 1) S hK (bl_P hP [0, 2] rfl) (bl_D hD [0, 2] rfl rfl) (c_X4_finding l E ag ah az ak i0 f 0 (by decide)) gV_X4_48 (by decide +kernel) rfl ⟨rfl, rfl⟩ ⟨Nat.le_of_ble_eq_true rfl, Nat.le_of_ble_eq_true rfl⟩ (ci := 4) (q0 := 0) rfl rfl hl.1 (Nat.le_of_ble_eq_true rfl) dX4_odds_27 ⟨Nat.zero_le _, Nat.zero_le _⟩) hP hD hS [0, 2] rfl (had_cons rfl (had_cons cell_ad rfl)) (Bs' := [[gObj ag ah az ak i0], hillsW E ah r, [(ag 4, .inl (E.2.1, 7, .inl (sg (upd f 0 (f 0 + 1)) 7)))]]) rfl (fun H locs hP hD hS => ?_)
      obtain ⟨r_27_1, er_27_1⟩ : ∃ zz9 : Row, zz9 = upd f 0 (f 0 + 1) := ⟨_, rfl⟩
      rw [← er_27_1] at hP hD
      refine lv_i2l S.1 S.2.1 dX4_odds_30 rfl ?_
      exact retL S hr hlk (by have e9 : rOdds r pp n9 w = .inl 0 := (by unfold rOdds; rw [if_pos c_5, if_neg c_14]); rw [er_27_1] at hP; rw [e9, fndCL_inl]; exact hP) hS (by have e9 : rOdds r pp n9 w = .inl 0 := (by unfold rOdds; rw [if_pos c_5, if_neg c_14]); rw [e9]; rfl) dX4_odds_31
    · obtain ⟨k_n9, hk_n9, ek_n9⟩ := nI_of2 (n := 9) (by decide) (Int32.not_lt.mpr c_14.1) c_14.2
      refine lv_iload_n S.1 S.2.1 dX4_odds_17 rfl (lv_at hl 3 rfl) ?_
      refine lv_iconst (v := 1) S.1 S.2.1 dX4_odds_18 (by decide) ?_
      refine go_S (run_S (As := [.int w, .int 1]) (rest := []) (n := 2) S hK (bl_P hP [] rfl) (bl_D hD [] rfl rfl) (c_X4_isWithin l E w 1 ) gS_X4_44 (by decide +kernel) rfl ⟨rfl, rfl⟩ ⟨Nat.le_of_ble_eq_true rfl, Nat.le_of_ble_eq_true rfl⟩ hl.1 (Nat.le_of_ble_eq_true rfl) dX4_odds_19 ⟨Nat.zero_le _, Nat.zero_le _⟩) ?_
      refine b_ifne (tgt := 32) S.1 S.2.1 dX4_odds_22 (by decide) (fun c_22 => ?_) (fun c_22 => ?_)
      · obtain ⟨k_w, hk_w, ek_w⟩ := nI_of2 (n := 1) (by decide) (Int32.not_lt.mpr c_22.1) c_22.2
        refine lv_aload_n S.1 S.2.1 dX4_odds_32 rfl (lv_at hl 0 rfl) ?_
        refine gf_X4_10 S hK hP 0 0 rfl rfl rfl dX4_odds_33 ?_
        refine lv_aload_n S.1 S.2.1 dX4_odds_36 rfl (lv_at hl 0 rfl) ?_
        refine gf_X4_10 S hK hP 0 0 rfl rfl rfl dX4_odds_37 ?_
        refine gf_X4_71 S hK hP 1 0 rfl rfl rfl dX4_odds_40 ?_
        refine lv_iload_n S.1 S.2.1 dX4_odds_43 rfl (lv_at hl 1 rfl) ?_
        refine lv_eqi (y := nI k_pp) ek_pp ?_
        refine b_aaldN (i := k_pp) S hK hP 2 1 2 rfl rfl rfl (by omega) (by decide) (v := ah (4 + k_pp)) rfl dX4_odds_44 ?_
        refine go_S (run_V (As := [.ref (ah (4 + k_pp))]) (rest := []) (n := 1) S hK (bl_P hP [1] rfl) (bl_D hD [1] rfl rfl) (c_X0_enoughWeathers l E ah r k_pp (by omega)) gV_X4_202 (by decide +kernel) rfl ⟨rfl, rfl⟩ ⟨Nat.le_of_ble_eq_true rfl, Nat.le_of_ble_eq_true rfl⟩ (ci := 0) (q0 := 0) rfl rfl hl.1 (Nat.le_of_ble_eq_true rfl) dX4_odds_45 ⟨Nat.zero_le _, Nat.zero_le _⟩) ?_
        obtain ⟨g9, hg9⟩ : ∃ zz9 : Nat, zz9 = gdN r k_pp 100 := ⟨_, rfl⟩
        have hgl : g9 ≤ 100 := by rw [hg9]; exact gdN_le r k_pp 100
        refine lv_eqi (y := nI g9) (by rw [hg9]; exact en_gd hR (by rw [cntN_eq hn hn8]; exact hk_pp) 100 (by decide)) ?_
        refine lv_istore (lv' := [(4, .int (nI g9)), (0, .ref (ag 0)), (1, .int pp), (2, .int n9), (3, .int w)]) S.1 S.2.1 dX4_odds_48 hl (by decide) rfl (fun ls hl => ?_)
        refine lv_iload_n S.1 S.2.1 dX4_odds_50 rfl (lv_at hl 4 rfl) ?_
        refine lv_eqi (y := nI k_w) ek_w ?_
        refine lv_if_ne (tgt := 59) S.1 S.2.1 dX4_odds_51 (by decide) (fun c_51 => ?_) (fun c_51 => ?_)
        · refine lv_bipush (v := 100) S.1 S.2.1 dX4_odds_59 (by decide) ?_
          refine lv_iload S.1 S.2.1 dX4_odds_61 (lv_at hl 0 rfl) ?_
          refine go_S (run_S (As := [.int 100, .int (nI g9)]) (rest := []) (n := 2) S hK (bl_P hP [] rfl) (bl_D hD [] rfl rfl) (c_X4_inLowestTerms l E 100 g9 (by omega) (by omega)) gS_X4_206 (by decide +kernel) rfl ⟨rfl, rfl⟩ ⟨Nat.le_of_ble_eq_true rfl, Nat.le_of_ble_eq_true rfl⟩ hl.1 (Nat.le_of_ble_eq_true rfl) dX4_odds_63 ⟨Nat.zero_le _, Nat.zero_le _⟩) ?_
          refine lv_i2l S.1 S.2.1 dX4_odds_66 rfl ?_
          obtain ⟨x9, hx⟩ : ∃ zz9 : Int64, zz9 = (nI (100 / Nat.gcd 100 g9)).toInt64 := ⟨_, rfl⟩
          rw [← hx]
          have hx2 : x9 = (if nI k_w = 0 then (nI (g9 / Nat.gcd 100 g9)).toInt64 else (nI (100 / Nat.gcd 100 g9)).toInt64) := by rw [hx, if_neg c_51]
          refine lv_lstore (lv' := [(5, .long x9), (4, .int (nI g9)), (0, .ref (ag 0)), (1, .int pp), (2, .int n9), (3, .int w)]) S.1 S.2.1 dX4_odds_67 hl (by decide) rfl (fun ls hl => ?_)
          refine lv_lconst (v := 1) S.1 S.2.1 dX4_odds_69 rfl ?_
          refine lv_lstore (lv' := [(7, .long 1), (5, .long x9), (4, .int (nI g9)), (0, .ref (ag 0)), (1, .int pp), (2, .int n9), (3, .int w)]) S.1 S.2.1 dX4_odds_70 hl (by decide) rfl (fun ls hl => ?_)
          refine lv_iconst (v := 0) S.1 S.2.1 dX4_odds_72 (by decide) ?_
          refine lv_istore (lv' := [(9, .int 0), (7, .long 1), (5, .long x9), (4, .int (nI g9)), (0, .ref (ag 0)), (1, .int pp), (2, .int n9), (3, .int w)]) S.1 S.2.1 dX4_odds_73 hl (by decide) rfl (fun ls hl => ?_)
          have L_75 : ∀ (fu : Nat) (i : Nat) (v : Int64), (i ≤ k_n9) → (k_n9 < i + fu) → (v = powL x9 i) → ∀ (H : Heap) (locs : List Loc), PE E [[gObj ag ah az ak i0], hillsW E ah r, [(ag 4, .inl (E.2.1, 7, .inl (sg f 7)))]] H → DE (inB [[gObj ag ah az ak i0], hillsW E ah r, [(ag 4, .inl (E.2.1, 7, .inl (sg f 7)))]]) [[gObj ag ah az ak i0], hillsW E ah r, [(ag 4, .inl (E.2.1, 7, .inl (sg f 7)))]] → va_S (inB [[gObj ag ah az ak i0], hillsW E ah r, [(ag 4, .inl (E.2.1, 7, .inl (sg f 7)))]]) s.heap H locs → ∀ (ls : Array Slot), lv_has ls 10 [(0, .ref (ag 0)), (2, .int n9), (5, .long x9), (7, .long v), (9, .int (nI i))] → W p l e ({ frames := 2, cells := 0, slots := 0, locals := 48 }) s m ([.ref (ag 0), .int pp, .int n9, .int w] : List Value).toArray below meth c H locs 0 0 (MQ below (qL E [[gObj ag ah az ak i0], hillsW E ah r, [(ag 4, .inl (E.2.1, 7, .inl (sg f 7)))]] [[gObj ag ah az ak i0], hillsW E ah r, [(ag 4, .inl (E.2.1, 7, .inl (sg (fndCL f (rOdds r pp n9 w)) 7)))]] (ansL (rOdds r pp n9 w))) ([.ref (ag 0), .int pp, .int n9, .int w] : List Value).toArray s 0 0 (inB [[gObj ag ah az ak i0], hillsW E ah r, [(ag 4, .inl (E.2.1, 7, .inl (sg f 7)))]])) (F0 m 75 ls []) := by
            intro fu
            induction fu with
            | zero =>
              intro i v hi hf hv
              omega
            | succ fu ih_75 =>
              intro i v hi hf hv H locs hP hD hS ls hl
              refine lv_iload S.1 S.2.1 dX4_odds_75 (lv_at hl 4 rfl) ?_
              refine lv_iload_n S.1 S.2.1 dX4_odds_77 rfl (lv_at hl 1 rfl) ?_
              refine lv_eqi (y := nI k_n9) ek_n9 ?_
              refine lv_icmp_ge (tgt := 94) S.1 S.2.1 dX4_odds_78 (by decide) (fun c_78 => ?_) (fun c_78 => ?_)
              · have n_78 := Int32.not_lt.mpr c_78
                refine lv_lload S.1 S.2.1 dX4_odds_94 (lv_at hl 3 rfl) ?_
                exact retL S hr hlk (by have e9 : rOdds r pp n9 w = .inr v := (by unfold rOdds; rw [if_pos c_5, if_pos c_14, if_pos c_22, ek_n9, ek_pp, ek_w, tN_nI (k := k_n9) (by omega), tN_nI (k := k_pp) (by omega), hv, show k_n9 = i by (have z9 := le_endK hi c_78 (by omega); omega), ← hg9, ← hx2]); rw [e9, fndCL_inr]; exact hP) hS (by have e9 : rOdds r pp n9 w = .inr v := (by unfold rOdds; rw [if_pos c_5, if_pos c_14, if_pos c_22, ek_n9, ek_pp, ek_w, tN_nI (k := k_n9) (by omega), tN_nI (k := k_pp) (by omega), hv, show k_n9 = i by (have z9 := le_endK hi c_78 (by omega); omega), ← hg9, ← hx2]); rw [e9]; rfl) dX4_odds_96
              · have n_78 := Int32.not_le.mp c_78
                have hi2 : i < k_n9 := lt_in c_78 hi
                refine lv_lload S.1 S.2.1 dX4_odds_81 (lv_at hl 3 rfl) ?_
                refine lv_lload S.1 S.2.1 dX4_odds_83 (lv_at hl 2 rfl) ?_
                refine lv_lmul S.1 S.2.1 dX4_odds_85 ?_
                refine lv_lstore (lv' := [(7, .long (v * x9)), (0, .ref (ag 0)), (2, .int n9), (5, .long x9), (9, .int (nI i))]) S.1 S.2.1 dX4_odds_86 hl (by decide) rfl (fun ls hl => ?_)
                refine lv_iinc (v := nI (i + 1)) (lv' := [(9, .int (nI (i + 1))), (7, .long (v * x9)), (0, .ref (ag 0)), (2, .int n9), (5, .long x9)]) S.1 S.2.1 dX4_odds_88 hl (k := 4) rfl (nI_1 i) (by decide) rfl (fun ls hl => ?_)
                refine lv_goto (tgt := 75) S.1 S.2.1 dX4_odds_91 (by decide) ?_
                exact ih_75 (i + 1) (v * x9) (by omega) (by omega) (by rw [hv, powL]) H locs hP hD hS ls (lv_sub hl [2, 3, 4, 1, 0] rfl)
          exact L_75 (k_n9 + 1) 0 1 (by omega) (by omega) rfl H locs hP hD hS ls (lv_sub hl [4, 6, 2, 1, 0] rfl)
        · refine lv_iload S.1 S.2.1 dX4_odds_54 (lv_at hl 0 rfl) ?_
          refine lv_goto (tgt := 61) S.1 S.2.1 dX4_odds_56 (by decide) ?_
          refine lv_iload S.1 S.2.1 dX4_odds_61 (lv_at hl 0 rfl) ?_
          refine go_S (run_S (As := [.int (nI g9), .int (nI g9)]) (rest := []) (n := 2) S hK (bl_P hP [] rfl) (bl_D hD [] rfl rfl) (c_X4_inLowestTerms l E g9 g9 (by omega) (by omega)) gS_X4_206 (by decide +kernel) rfl ⟨rfl, rfl⟩ ⟨Nat.le_of_ble_eq_true rfl, Nat.le_of_ble_eq_true rfl⟩ hl.1 (Nat.le_of_ble_eq_true rfl) dX4_odds_63 ⟨Nat.zero_le _, Nat.zero_le _⟩) ?_
          refine lv_i2l S.1 S.2.1 dX4_odds_66 rfl ?_
          obtain ⟨x9, hx⟩ : ∃ zz9 : Int64, zz9 = (nI (g9 / Nat.gcd 100 g9)).toInt64 := ⟨_, rfl⟩
          rw [← hx]
          have hx2 : x9 = (if nI k_w = 0 then (nI (g9 / Nat.gcd 100 g9)).toInt64 else (nI (100 / Nat.gcd 100 g9)).toInt64) := by rw [hx, if_pos c_51]
          refine lv_lstore (lv' := [(5, .long x9), (4, .int (nI g9)), (0, .ref (ag 0)), (1, .int pp), (2, .int n9), (3, .int w)]) S.1 S.2.1 dX4_odds_67 hl (by decide) rfl (fun ls hl => ?_)
          refine lv_lconst (v := 1) S.1 S.2.1 dX4_odds_69 rfl ?_
          refine lv_lstore (lv' := [(7, .long 1), (5, .long x9), (4, .int (nI g9)), (0, .ref (ag 0)), (1, .int pp), (2, .int n9), (3, .int w)]) S.1 S.2.1 dX4_odds_70 hl (by decide) rfl (fun ls hl => ?_)
          refine lv_iconst (v := 0) S.1 S.2.1 dX4_odds_72 (by decide) ?_
          refine lv_istore (lv' := [(9, .int 0), (7, .long 1), (5, .long x9), (4, .int (nI g9)), (0, .ref (ag 0)), (1, .int pp), (2, .int n9), (3, .int w)]) S.1 S.2.1 dX4_odds_73 hl (by decide) rfl (fun ls hl => ?_)
          have L_75 : ∀ (fu : Nat) (i : Nat) (v : Int64), (i ≤ k_n9) → (k_n9 < i + fu) → (v = powL x9 i) → ∀ (H : Heap) (locs : List Loc), PE E [[gObj ag ah az ak i0], hillsW E ah r, [(ag 4, .inl (E.2.1, 7, .inl (sg f 7)))]] H → DE (inB [[gObj ag ah az ak i0], hillsW E ah r, [(ag 4, .inl (E.2.1, 7, .inl (sg f 7)))]]) [[gObj ag ah az ak i0], hillsW E ah r, [(ag 4, .inl (E.2.1, 7, .inl (sg f 7)))]] → va_S (inB [[gObj ag ah az ak i0], hillsW E ah r, [(ag 4, .inl (E.2.1, 7, .inl (sg f 7)))]]) s.heap H locs → ∀ (ls : Array Slot), lv_has ls 10 [(0, .ref (ag 0)), (2, .int n9), (5, .long x9), (7, .long v), (9, .int (nI i))] → W p l e ({ frames := 2, cells := 0, slots := 0, locals := 48 }) s m ([.ref (ag 0), .int pp, .int n9, .int w] : List Value).toArray below meth c H locs 0 0 (MQ below (qL E [[gObj ag ah az ak i0], hillsW E ah r, [(ag 4, .inl (E.2.1, 7, .inl (sg f 7)))]] [[gObj ag ah az ak i0], hillsW E ah r, [(ag 4, .inl (E.2.1, 7, .inl (sg (fndCL f (rOdds r pp n9 w)) 7)))]] (ansL (rOdds r pp n9 w))) ([.ref (ag 0), .int pp, .int n9, .int w] : List Value).toArray s 0 0 (inB [[gObj ag ah az ak i0], hillsW E ah r, [(ag 4, .inl (E.2.1, 7, .inl (sg f 7)))]])) (F0 m 75 ls []) := by
            intro fu
            induction fu with
            | zero =>
              intro i v hi hf hv
              omega
            | succ fu ih_75 =>
              intro i v hi hf hv H locs hP hD hS ls hl
              refine lv_iload S.1 S.2.1 dX4_odds_75 (lv_at hl 4 rfl) ?_
              refine lv_iload_n S.1 S.2.1 dX4_odds_77 rfl (lv_at hl 1 rfl) ?_
              refine lv_eqi (y := nI k_n9) ek_n9 ?_
              refine lv_icmp_ge (tgt := 94) S.1 S.2.1 dX4_odds_78 (by decide) (fun c_78 => ?_) (fun c_78 => ?_)
              · have n_78 := Int32.not_lt.mpr c_78
                refine lv_lload S.1 S.2.1 dX4_odds_94 (lv_at hl 3 rfl) ?_
                exact retL S hr hlk (by have e9 : rOdds r pp n9 w = .inr v := (by unfold rOdds; rw [if_pos c_5, if_pos c_14, if_pos c_22, ek_n9, ek_pp, ek_w, tN_nI (k := k_n9) (by omega), tN_nI (k := k_pp) (by omega), hv, show k_n9 = i by (have z9 := le_endK hi c_78 (by omega); omega), ← hg9, ← hx2]); rw [e9, fndCL_inr]; exact hP) hS (by have e9 : rOdds r pp n9 w = .inr v := (by unfold rOdds; rw [if_pos c_5, if_pos c_14, if_pos c_22, ek_n9, ek_pp, ek_w, tN_nI (k := k_n9) (by omega), tN_nI (k := k_pp) (by omega), hv, show k_n9 = i by (have z9 := le_endK hi c_78 (by omega); omega), ← hg9, ← hx2]); rw [e9]; rfl) dX4_odds_96
              · have n_78 := Int32.not_le.mp c_78
                have hi2 : i < k_n9 := lt_in c_78 hi
                refine lv_lload S.1 S.2.1 dX4_odds_81 (lv_at hl 3 rfl) ?_
                refine lv_lload S.1 S.2.1 dX4_odds_83 (lv_at hl 2 rfl) ?_
                refine lv_lmul S.1 S.2.1 dX4_odds_85 ?_
                refine lv_lstore (lv' := [(7, .long (v * x9)), (0, .ref (ag 0)), (2, .int n9), (5, .long x9), (9, .int (nI i))]) S.1 S.2.1 dX4_odds_86 hl (by decide) rfl (fun ls hl => ?_)
                refine lv_iinc (v := nI (i + 1)) (lv' := [(9, .int (nI (i + 1))), (7, .long (v * x9)), (0, .ref (ag 0)), (2, .int n9), (5, .long x9)]) S.1 S.2.1 dX4_odds_88 hl (k := 4) rfl (nI_1 i) (by decide) rfl (fun ls hl => ?_)
                refine lv_goto (tgt := 75) S.1 S.2.1 dX4_odds_91 (by decide) ?_
                exact ih_75 (i + 1) (v * x9) (by omega) (by omega) (by rw [hv, powL]) H locs hP hD hS ls (lv_sub hl [2, 3, 4, 1, 0] rfl)
          exact L_75 (k_n9 + 1) 0 1 (by omega) (by omega) rfl H locs hP hD hS ls (lv_sub hl [4, 6, 2, 1, 0] rfl)
      · refine lv_aload_n S.1 S.2.1 dX4_odds_25 rfl (lv_at hl 0 rfl) ?_
        refine lv_iconst (v := 0) S.1 S.2.1 dX4_odds_26 (by decide) ?_
        refine go_I (run_V (As := [.int 0]) (rest := []) (n := 1) S hK (bl_P hP [0, 2] rfl) (bl_D hD [0, 2] rfl rfl) (c_X4_finding l E ag ah az ak i0 f 0 (by decide)) gV_X4_48 (by decide +kernel) rfl ⟨rfl, rfl⟩ ⟨Nat.le_of_ble_eq_true rfl, Nat.le_of_ble_eq_true rfl⟩ (ci := 4) (q0 := 0) rfl rfl hl.1 (Nat.le_of_ble_eq_true rfl) dX4_odds_27 ⟨Nat.zero_le _, Nat.zero_le _⟩) hP hD hS [0, 2] rfl (had_cons rfl (had_cons cell_ad rfl)) (Bs' := [[gObj ag ah az ak i0], hillsW E ah r, [(ag 4, .inl (E.2.1, 7, .inl (sg (upd f 0 (f 0 + 1)) 7)))]]) rfl (fun H locs hP hD hS => ?_)
        obtain ⟨r_27_2, er_27_2⟩ : ∃ zz9 : Row, zz9 = upd f 0 (f 0 + 1) := ⟨_, rfl⟩
        rw [← er_27_2] at hP hD
        refine lv_i2l S.1 S.2.1 dX4_odds_30 rfl ?_
        exact retL S hr hlk (by have e9 : rOdds r pp n9 w = .inl 0 := (by unfold rOdds; rw [if_pos c_5, if_pos c_14, if_neg c_22]); rw [er_27_2] at hP; rw [e9, fndCL_inl]; exact hP) hS (by have e9 : rOdds r pp n9 w = .inl 0 := (by unfold rOdds; rw [if_pos c_5, if_pos c_14, if_neg c_22]); rw [e9]; rfl) dX4_odds_31
set_option maxHeartbeats 800000 in
set_option maxRecDepth 100000 in
theorem c_X2_put (l : Launch) (E : EV) (ag : Nat → Nat) (tb : Row) (len : Nat) (s9 b9 e9 v9 v : Int32) (hl : len < 120) : Met l yX2_put (wq yX2_put cX2_put 2 none) ({ frames := 0, cells := 0, slots := 0, locals := 0 }) (preB E [.ref (ag 2), .int v] [[rdO ag (nI len) s9 b9 e9 v9], [(ag 3, .inl (E.2.2.1, 120, .inl (sg tb 120)))]]) (qV E [[rdO ag (nI len) s9 b9 e9 v9], [(ag 3, .inl (E.2.2.1, 120, .inl (sg tb 120)))]] [[rdO ag (nI (len + 1)) s9 b9 e9 v9], [(ag 3, .inl (E.2.2.1, 120, .inl (sg (upd tb len (bC v)) 120)))]]) 0 0 (inB [[rdO ag (nI len) s9 b9 e9 v9], [(ag 3, .inl (E.2.2.1, 120, .inl (sg tb 120)))]]) := by
  refine M_mk RX2 (by decide) rfl (Nat.le_of_ble_eq_true rfl) ?_
  intro p e s m below meth c S hr hlk hK hP hD hS ls hl
  have hl : lv_has ls 2 [(0, .ref (ag 2)), (1, .int v)] := hl
  obtain ⟨H, hH⟩ : ∃ zz9, zz9 = s.heap := ⟨_, rfl⟩
  obtain ⟨locs, hlocs⟩ : ∃ zz9 : List Loc, zz9 = [] := ⟨_, rfl⟩
  have hP : PE E [[rdO ag (nI len) s9 b9 e9 v9], [(ag 3, .inl (E.2.2.1, 120, .inl (sg tb 120)))]] H := by rw [hH]; exact hP
  have hS : va_S (inB [[rdO ag (nI len) s9 b9 e9 v9], [(ag 3, .inl (E.2.2.1, 120, .inl (sg tb 120)))]]) s.heap H locs := by rw [hH, hlocs]; exact hS
  show W p l e ({ frames := 0, cells := 0, slots := 0, locals := 0 }) s m ([.ref (ag 2), .int v] : List Value).toArray below meth c s.heap [] 0 0 _ _
  suffices hgo : W p l e ({ frames := 0, cells := 0, slots := 0, locals := 0 }) s m ([.ref (ag 2), .int v] : List Value).toArray below meth c H locs 0 0 (MQ below (qV E [[rdO ag (nI len) s9 b9 e9 v9], [(ag 3, .inl (E.2.2.1, 120, .inl (sg tb 120)))]] [[rdO ag (nI (len + 1)) s9 b9 e9 v9], [(ag 3, .inl (E.2.2.1, 120, .inl (sg (upd tb len (bC v)) 120)))]]) ([.ref (ag 2), .int v] : List Value).toArray s 0 0 (inB [[rdO ag (nI len) s9 b9 e9 v9], [(ag 3, .inl (E.2.2.1, 120, .inl (sg tb 120)))]])) (F0 m 0 ls []) by rw [hH, hlocs] at hgo; exact hgo
  clear hH hlocs
  refine lv_aload_n S.1 S.2.1 dX2_put_0 rfl (lv_at hl 0 rfl) ?_
  refine gf_X2_15 S hK hP 0 0 rfl rfl rfl dX2_put_1 ?_
  refine lv_bipush (v := 120) S.1 S.2.1 dX2_put_4 (by decide) ?_
  refine lv_icmp_ge (tgt := 30) S.1 S.2.1 dX2_put_6 (by decide) (fun c_6 => ?_) (fun c_6 => ?_)
  · exact absurd (le_of_nI (a := 120) c_6 (by decide) (by omega)) (by omega)
  · have n_6 := Int32.not_le.mp c_6
    refine lv_aload_n S.1 S.2.1 dX2_put_9 rfl (lv_at hl 0 rfl) ?_
    refine gf_X2_9 S hK hP 0 0 rfl rfl rfl dX2_put_10 ?_
    refine lv_aload_n S.1 S.2.1 dX2_put_13 rfl (lv_at hl 0 rfl) ?_
    refine gf_X2_15 S hK hP 0 0 rfl rfl rfl dX2_put_14 ?_
    refine lv_iload_n S.1 S.2.1 dX2_put_17 rfl (lv_at hl 1 rfl) ?_
    refine lv_i2b S.1 S.2.1 dX2_put_18 rfl ?_
    refine b_bastN (i := len) S hK hP hD hS 1 0 rfl rfl (by omega) (by decide) (sgs_upd (by omega)) (Bs1 := [[rdO ag (nI len) s9 b9 e9 v9], [(ag 3, .inl (E.2.2.1, 120, .inl (sg (upd tb len (vp_nar .byte v.toInt8.toInt32)) 120)))]]) rfl dX2_put_19 (fun H locs hP hD hS => ?_)
    obtain ⟨r_19, er_19⟩ : ∃ zz9, zz9 = upd tb len (vp_nar .byte v.toInt8.toInt32) := ⟨_, rfl⟩
    rw [← er_19] at hP hD
    refine lv_aload_n S.1 S.2.1 dX2_put_20 rfl (lv_at hl 0 rfl) ?_
    refine lv_dup S.1 S.2.1 dX2_put_21 rfl ?_
    refine gf_X2_15 S hK hP 0 0 rfl rfl rfl dX2_put_22 ?_
    refine lv_iconst (v := 1) S.1 S.2.1 dX2_put_25 (by decide) ?_
    refine lv_iadd S.1 S.2.1 dX2_put_26 ?_
    refine lv_eqi (y := nI (len + 1)) (nI_add len 1) ?_
    refine pf_X2_15 S hK hP hD hS 0 0 rfl rfl (Nat.le_of_ble_eq_true rfl) rfl (Bs1 := [[rdO ag (nI (len + 1)) s9 b9 e9 v9], [(ag 3, .inl (E.2.2.1, 120, .inl (sg r_19 120)))]]) rfl dX2_put_27 (fun H locs hP hD hS => ?_)
    exact retV S hr hlk (by rw [er_19] at hP; exact hP) hS dX2_put_30
set_option maxHeartbeats 800000 in
set_option maxRecDepth 100000 in
theorem c_X4_feed (l : Launch) (E : EV) (ag ah az ak : Nat → Nat) (i0 : Int32) (f tb : Row) (len : Nat) (s9 b9 e9 v9 : Int32) (v n9 : Int32) (hl9 : len ≤ 120) : Met l yX4_feed (wq yX4_feed cX4_feed 4 (some .int)) ({ frames := 1, cells := 0, slots := 0, locals := 21 }) (preB E [.ref (ag 0), .int v, .int n9] [[gObj ag ah az ak i0], [(ag 4, .inl (E.2.1, 7, .inl (sg f 7)))], [rdO ag (nI len) s9 b9 e9 v9], [(ag 3, .inl (E.2.2.1, 120, .inl (sg tb 120)))]]) (qI E [[gObj ag ah az ak i0], [(ag 4, .inl (E.2.1, 7, .inl (sg f 7)))], [rdO ag (nI len) s9 b9 e9 v9], [(ag 3, .inl (E.2.2.1, 120, .inl (sg tb 120)))]] [[gObj ag ah az ak i0], [(ag 4, .inl (E.2.1, 7, .inl (sg (fndC f (rFeed len n9)) 7)))], [rdO ag (lenF (nI len) (rFeed len n9)) s9 b9 e9 v9], [(ag 3, .inl (E.2.2.1, 120, .inl (sg (pick (rFeed len n9) tb (fdC tb v len (tN n9) (tN n9))) 120)))]] (ansR (rFeed len n9))) 0 0 (inB [[gObj ag ah az ak i0], [(ag 4, .inl (E.2.1, 7, .inl (sg f 7)))], [rdO ag (nI len) s9 b9 e9 v9], [(ag 3, .inl (E.2.2.1, 120, .inl (sg tb 120)))]]) := by
  refine M_mk RX4 (by decide) rfl (Nat.le_of_ble_eq_true rfl) ?_
  intro p e s m below meth c S hr hlk hK hP hD hS ls hl
  have hl : lv_has ls 4 [(0, .ref (ag 0)), (1, .int v), (2, .int n9)] := hl
  obtain ⟨H, hH⟩ : ∃ zz9, zz9 = s.heap := ⟨_, rfl⟩
  obtain ⟨locs, hlocs⟩ : ∃ zz9 : List Loc, zz9 = [] := ⟨_, rfl⟩
  have hP : PE E [[gObj ag ah az ak i0], [(ag 4, .inl (E.2.1, 7, .inl (sg f 7)))], [rdO ag (nI len) s9 b9 e9 v9], [(ag 3, .inl (E.2.2.1, 120, .inl (sg tb 120)))]] H := by rw [hH]; exact hP
  have hS : va_S (inB [[gObj ag ah az ak i0], [(ag 4, .inl (E.2.1, 7, .inl (sg f 7)))], [rdO ag (nI len) s9 b9 e9 v9], [(ag 3, .inl (E.2.2.1, 120, .inl (sg tb 120)))]]) s.heap H locs := by rw [hH, hlocs]; exact hS
  show W p l e ({ frames := 1, cells := 0, slots := 0, locals := 21 }) s m ([.ref (ag 0), .int v, .int n9] : List Value).toArray below meth c s.heap [] 0 0 _ _
  suffices hgo : W p l e ({ frames := 1, cells := 0, slots := 0, locals := 21 }) s m ([.ref (ag 0), .int v, .int n9] : List Value).toArray below meth c H locs 0 0 (MQ below (qI E [[gObj ag ah az ak i0], [(ag 4, .inl (E.2.1, 7, .inl (sg f 7)))], [rdO ag (nI len) s9 b9 e9 v9], [(ag 3, .inl (E.2.2.1, 120, .inl (sg tb 120)))]] [[gObj ag ah az ak i0], [(ag 4, .inl (E.2.1, 7, .inl (sg (fndC f (rFeed len n9)) 7)))], [rdO ag (lenF (nI len) (rFeed len n9)) s9 b9 e9 v9], [(ag 3, .inl (E.2.2.1, 120, .inl (sg (pick (rFeed len n9) tb (fdC tb v len (tN n9) (tN n9))) 120)))]] (ansR (rFeed len n9))) ([.ref (ag 0), .int v, .int n9] : List Value).toArray s 0 0 (inB [[gObj ag ah az ak i0], [(ag 4, .inl (E.2.1, 7, .inl (sg f 7)))], [rdO ag (nI len) s9 b9 e9 v9], [(ag 3, .inl (E.2.2.1, 120, .inl (sg tb 120)))]])) (F0 m 0 ls []) by rw [hH, hlocs] at hgo; exact hgo
  clear hH hlocs
  refine lv_iload_n S.1 S.2.1 dX4_feed_0 rfl (lv_at hl 2 rfl) ?_
  refine lv_iconst (v := 1) S.1 S.2.1 dX4_feed_1 (by decide) ?_
  refine lv_icmp_lt (tgt := 10) S.1 S.2.1 dX4_feed_2 (by decide) (fun c_2 => ?_) (fun c_2 => ?_)
  · have n_2 := Int32.not_le.mpr c_2
    refine lv_aload_n S.1 S.2.1 dX4_feed_10 rfl (lv_at hl 0 rfl) ?_
    refine lv_iconst (v := 0) S.1 S.2.1 dX4_feed_11 (by decide) ?_
    refine go_I (run_V (As := [.int 0]) (rest := []) (n := 1) S hK (bl_P hP [0, 1] rfl) (bl_D hD [0, 1] rfl rfl) (c_X4_finding l E ag ah az ak i0 f 0 (by decide)) gV_X4_48 (by decide +kernel) rfl ⟨rfl, rfl⟩ ⟨Nat.le_of_ble_eq_true rfl, Nat.le_of_ble_eq_true rfl⟩ (ci := 4) (q0 := 0) rfl rfl hl.1 (Nat.le_of_ble_eq_true rfl) dX4_feed_12 ⟨Nat.zero_le _, Nat.zero_le _⟩) hP hD hS [0, 1] rfl (had_cons rfl (had_cons cell_ad rfl)) (Bs' := [[gObj ag ah az ak i0], [(ag 4, .inl (E.2.1, 7, .inl (sg (upd f 0 (f 0 + 1)) 7)))], [rdO ag (nI len) s9 b9 e9 v9], [(ag 3, .inl (E.2.2.1, 120, .inl (sg tb 120)))]]) rfl (fun H locs hP hD hS => ?_)
    obtain ⟨r_12, er_12⟩ : ∃ zz9 : Row, zz9 = upd f 0 (f 0 + 1) := ⟨_, rfl⟩
    rw [← er_12] at hP hD
    exact retI S hr hlk (by have e9 : rFeed len n9 = .inl 0 := (by unfold rFeed; rw [if_neg (fun z9 => Int32.not_le.mpr c_2 z9.1)]); rw [er_12] at hP; rw [e9, fndC_inl, pick_inl, lenF_inl]; exact hP) hS (by have e9 : rFeed len n9 = .inl 0 := (by unfold rFeed; rw [if_neg (fun z9 => Int32.not_le.mpr c_2 z9.1)]); rw [e9]; decide) dX4_feed_15
  · have n_2 := Int32.not_lt.mp c_2
    refine lv_iload_n S.1 S.2.1 dX4_feed_5 rfl (lv_at hl 2 rfl) ?_
    refine lv_iconst (v := 4) S.1 S.2.1 dX4_feed_6 (by decide) ?_
    refine lv_icmp_le (tgt := 16) S.1 S.2.1 dX4_feed_7 (by decide) (fun c_7 => ?_) (fun c_7 => ?_)
    · have n_7 := Int32.not_lt.mpr c_7
      obtain ⟨k_n9, hj_n9, hk_n9, ek_n9⟩ := of_rng (lo := 1) (hi := 4) (by decide) (by decide) ⟨Int32.not_lt.mp c_2, c_7⟩
      refine lv_aload_n S.1 S.2.1 dX4_feed_16 rfl (lv_at hl 0 rfl) ?_
      refine gf_X4_35 S hK hP 0 0 rfl rfl rfl dX4_feed_17 ?_
      refine gf_X4_212 S hK hP 2 0 rfl rfl rfl dX4_feed_20 ?_
      refine lv_bipush (v := 120) S.1 S.2.1 dX4_feed_23 (by decide) ?_
      refine lv_iload_n S.1 S.2.1 dX4_feed_25 rfl (lv_at hl 2 rfl) ?_
      refine lv_eqi (y := nI k_n9) ek_n9 ?_
      refine lv_isub S.1 S.2.1 dX4_feed_26 ?_
      refine lv_icmp_le (tgt := 36) S.1 S.2.1 dX4_feed_27 (by decide) (fun c_27 => ?_) (fun c_27 => ?_)
      · have n_27 := Int32.not_lt.mpr c_27
        have hl8 : len + k_n9 ≤ 120 := fd_room hk_n9 hl9 c_27
        refine lv_bipush (v := 8) S.1 S.2.1 dX4_feed_36 (by decide) ?_
        refine lv_iload_n S.1 S.2.1 dX4_feed_38 rfl (lv_at hl 2 rfl) ?_
        refine lv_eqi (y := nI k_n9) ek_n9 ?_
        refine lv_iconst (v := 1) S.1 S.2.1 dX4_feed_39 (by decide) ?_
        refine lv_isub S.1 S.2.1 dX4_feed_40 ?_
        refine lv_imul S.1 S.2.1 dX4_feed_41 ?_
        refine lv_eqi (y := sI k_n9) (sI_0 (by omega) (by omega)) ?_
        refine lv_istore_n (lv' := [(3, .int (sI k_n9)), (0, .ref (ag 0)), (1, .int v), (2, .int n9)]) S.1 S.2.1 dX4_feed_42 rfl hl (by decide) rfl (fun ls hl => ?_)
        have L_43 : ∀ (fu : Nat) (t : Nat) (ti : Row), (t ≤ k_n9) → (t < fu) → (ti = fdC tb v len k_n9 (k_n9 - t)) → ∀ (H : Heap) (locs : List Loc), PE E [[gObj ag ah az ak i0], [(ag 4, .inl (E.2.1, 7, .inl (sg f 7)))], [rdO ag (nI (len + (k_n9 - t))) s9 b9 e9 v9], [(ag 3, .inl (E.2.2.1, 120, .inl (sg ti 120)))]] H → DE (inB [[gObj ag ah az ak i0], [(ag 4, .inl (E.2.1, 7, .inl (sg f 7)))], [rdO ag (nI len) s9 b9 e9 v9], [(ag 3, .inl (E.2.2.1, 120, .inl (sg tb 120)))]]) [[gObj ag ah az ak i0], [(ag 4, .inl (E.2.1, 7, .inl (sg f 7)))], [rdO ag (nI (len + (k_n9 - t))) s9 b9 e9 v9], [(ag 3, .inl (E.2.2.1, 120, .inl (sg ti 120)))]] → va_S (inB [[gObj ag ah az ak i0], [(ag 4, .inl (E.2.1, 7, .inl (sg f 7)))], [rdO ag (nI len) s9 b9 e9 v9], [(ag 3, .inl (E.2.2.1, 120, .inl (sg tb 120)))]]) s.heap H locs → ∀ (ls : Array Slot), lv_has ls 4 [(0, .ref (ag 0)), (1, .int v), (2, .int n9), (3, .int (sI t))] → W p l e ({ frames := 1, cells := 0, slots := 0, locals := 21 }) s m ([.ref (ag 0), .int v, .int n9] : List Value).toArray below meth c H locs 0 0 (MQ below (qI E [[gObj ag ah az ak i0], [(ag 4, .inl (E.2.1, 7, .inl (sg f 7)))], [rdO ag (nI len) s9 b9 e9 v9], [(ag 3, .inl (E.2.2.1, 120, .inl (sg tb 120)))]] [[gObj ag ah az ak i0], [(ag 4, .inl (E.2.1, 7, .inl (sg (fndC f (rFeed len n9)) 7)))], [rdO ag (lenF (nI len) (rFeed len n9)) s9 b9 e9 v9], [(ag 3, .inl (E.2.2.1, 120, .inl (sg (pick (rFeed len n9) tb (fdC tb v len (tN n9) (tN n9))) 120)))]] (ansR (rFeed len n9))) ([.ref (ag 0), .int v, .int n9] : List Value).toArray s 0 0 (inB [[gObj ag ah az ak i0], [(ag 4, .inl (E.2.1, 7, .inl (sg f 7)))], [rdO ag (nI len) s9 b9 e9 v9], [(ag 3, .inl (E.2.2.1, 120, .inl (sg tb 120)))]])) (F0 m 43 ls []) := by
          intro fu
          induction fu with
          | zero =>
            intro t ti ht hf hti
            omega
          | succ fu ih_43 =>
            intro t ti ht hf hti H locs hP hD hS ls hl
            refine lv_iload_n S.1 S.2.1 dX4_feed_43 rfl (lv_at hl 3 rfl) ?_
            refine lv_if_lt (tgt := 63) S.1 S.2.1 dX4_feed_44 (by decide) (fun c_44 => ?_) (fun c_44 => ?_)
            · have n_44 := Int32.not_le.mpr c_44
              refine lv_aload_n S.1 S.2.1 dX4_feed_63 rfl (lv_at hl 0 rfl) ?_
              refine gf_X4_35 S hK hP 0 0 rfl rfl rfl dX4_feed_64 ?_
              refine gf_X4_212 S hK hP 2 0 rfl rfl rfl dX4_feed_67 ?_
              exact retI S hr hlk (by have e9 : rFeed len n9 = .inr (fun _ => 0, nI (len + k_n9)) := (by unfold rFeed; rw [if_pos ⟨Int32.not_lt.mp c_2, c_7⟩, if_neg (fd_nfull hl9 ek_n9 hk_n9 c_27), ek_n9, nI_add]); have t0 : t = 0 := sI_zero c_44 (by omega); have et9 : ti = fdC tb v len k_n9 k_n9 := (by rw [hti, t0]; rfl); rw [et9, t0, Nat.sub_zero] at hP; rw [e9, fndC_inr, pick_inr, lenF_inr, ek_n9, tN_nI (by omega)]; exact hP) hS (by have e9 : rFeed len n9 = .inr (fun _ => 0, nI (len + k_n9)) := (by unfold rFeed; rw [if_pos ⟨Int32.not_lt.mp c_2, c_7⟩, if_neg (fd_nfull hl9 ek_n9 hk_n9 c_27), ek_n9, nI_add]); have t0 : t = 0 := sI_zero c_44 (by omega); have et9 : ti = fdC tb v len k_n9 k_n9 := (by rw [hti, t0]; rfl); rw [e9, ansR_inr, t0]; rfl) dX4_feed_70
            · have n_44 := Int32.not_lt.mp c_44
              obtain ⟨m9, hm9⟩ : ∃ m9, t = m9 + 1 := sI_pos c_44
              refine lv_aload_n S.1 S.2.1 dX4_feed_47 rfl (lv_at hl 0 rfl) ?_
              refine gf_X4_35 S hK hP 0 0 rfl rfl rfl dX4_feed_48 ?_
              refine lv_iload_n S.1 S.2.1 dX4_feed_51 rfl (lv_at hl 1 rfl) ?_
              refine lv_iload_n S.1 S.2.1 dX4_feed_52 rfl (lv_at hl 3 rfl) ?_
              refine lv_eqi (y := nI (8 * m9)) (sI_s hm9) ?_
              refine lv_iushr S.1 S.2.1 dX4_feed_53 rfl ?_
              refine go_V (run_V (As := [.int ((v.toUInt32 >>> ((nI (8 * m9)).toUInt32 &&& Int32.toUInt32 31)).toInt32)]) (rest := []) (n := 1) S hK (bl_P hP [2, 3] rfl) (bl_D hD [2, 3] rfl rfl) (c_X2_put l E ag ti (len + (k_n9 - t)) s9 b9 e9 v9 ((v.toUInt32 >>> ((nI (8 * m9)).toUInt32 &&& Int32.toUInt32 31)).toInt32) (by omega)) gV_X4_213 (by decide +kernel) rfl ⟨rfl, rfl⟩ ⟨Nat.le_of_ble_eq_true rfl, Nat.le_of_ble_eq_true rfl⟩ (ci := 2) (q0 := 0) rfl rfl hl.1 (Nat.le_of_ble_eq_true rfl) dX4_feed_54 ⟨Nat.zero_le _, Nat.zero_le _⟩) hP hD hS [2, 3] rfl (had_cons ro_ad (had_cons cell_ad rfl)) (Bs' := [[gObj ag ah az ak i0], [(ag 4, .inl (E.2.1, 7, .inl (sg f 7)))], [rdO ag (nI ((len + (k_n9 - t)) + 1)) s9 b9 e9 v9], [(ag 3, .inl (E.2.2.1, 120, .inl (sg (upd ti (len + (k_n9 - t)) (bC ((v.toUInt32 >>> ((nI (8 * m9)).toUInt32 &&& Int32.toUInt32 31)).toInt32))) 120)))]]) rfl (fun H locs hP hD hS => ?_)
              obtain ⟨r_54_3, er_54_3⟩ : ∃ zz9 : Row, zz9 = upd ti (len + (k_n9 - t)) (bC ((v.toUInt32 >>> ((nI (8 * m9)).toUInt32 &&& Int32.toUInt32 31)).toInt32)) := ⟨_, rfl⟩
              rw [← er_54_3] at hP hD
              refine lv_iinc (v := sI m9) (lv' := [(3, .int (sI m9)), (0, .ref (ag 0)), (1, .int v), (2, .int n9)]) S.1 S.2.1 dX4_feed_57 hl (k := 3) rfl (sI_step hm9) (by decide) rfl (fun ls hl => ?_)
              refine lv_goto (tgt := 43) S.1 S.2.1 dX4_feed_60 (by decide) ?_
              exact ih_43 m9 r_54_3 (by omega) (by omega) (by rw [er_54_3, hti]; exact fdC_s hm9 ht) H locs (by rw [show len + (k_n9 - t) + 1 = len + (k_n9 - m9) by omega] at hP; exact hP) (by rw [show len + (k_n9 - t) + 1 = len + (k_n9 - m9) by omega] at hD; exact hD) hS ls (lv_sub hl [1, 2, 3, 0] rfl)
        exact L_43 (k_n9 + 1) k_n9 tb (Nat.le_refl _) (by omega) (by rw [Nat.sub_self]; rfl) H locs (by rw [Nat.sub_self]; exact hP) (by rw [Nat.sub_self]; exact hD) hS ls (lv_sub hl [1, 2, 3, 0] rfl)
      · have n_27 := Int32.not_le.mp c_27
        refine lv_aload_n S.1 S.2.1 dX4_feed_30 rfl (lv_at hl 0 rfl) ?_
        refine lv_iconst (v := 1) S.1 S.2.1 dX4_feed_31 (by decide) ?_
        refine go_I (run_V (As := [.int 1]) (rest := []) (n := 1) S hK (bl_P hP [0, 1] rfl) (bl_D hD [0, 1] rfl rfl) (c_X4_finding l E ag ah az ak i0 f 1 (by decide)) gV_X4_48 (by decide +kernel) rfl ⟨rfl, rfl⟩ ⟨Nat.le_of_ble_eq_true rfl, Nat.le_of_ble_eq_true rfl⟩ (ci := 4) (q0 := 0) rfl rfl hl.1 (Nat.le_of_ble_eq_true rfl) dX4_feed_32 ⟨Nat.zero_le _, Nat.zero_le _⟩) hP hD hS [0, 1] rfl (had_cons rfl (had_cons cell_ad rfl)) (Bs' := [[gObj ag ah az ak i0], [(ag 4, .inl (E.2.1, 7, .inl (sg (upd f 1 (f 1 + 1)) 7)))], [rdO ag (nI len) s9 b9 e9 v9], [(ag 3, .inl (E.2.2.1, 120, .inl (sg tb 120)))]]) rfl (fun H locs hP hD hS => ?_)
        obtain ⟨r_32, er_32⟩ : ∃ zz9 : Row, zz9 = upd f 1 (f 1 + 1) := ⟨_, rfl⟩
        rw [← er_32] at hP hD
        exact retI S hr hlk (by have e9 : rFeed len n9 = .inl 1 := (by unfold rFeed; rw [if_pos ⟨Int32.not_lt.mp c_2, c_7⟩, if_pos (fd_full hl9 ek_n9 hk_n9 c_27)]); rw [er_32] at hP; rw [e9, fndC_inl, pick_inl, lenF_inl]; exact hP) hS (by have e9 : rFeed len n9 = .inl 1 := (by unfold rFeed; rw [if_pos ⟨Int32.not_lt.mp c_2, c_7⟩, if_pos (fd_full hl9 ek_n9 hk_n9 c_27)]); rw [e9]; decide) dX4_feed_35
    · have n_7 := Int32.not_le.mp c_7
      refine lv_aload_n S.1 S.2.1 dX4_feed_10 rfl (lv_at hl 0 rfl) ?_
      refine lv_iconst (v := 0) S.1 S.2.1 dX4_feed_11 (by decide) ?_
      refine go_I (run_V (As := [.int 0]) (rest := []) (n := 1) S hK (bl_P hP [0, 1] rfl) (bl_D hD [0, 1] rfl rfl) (c_X4_finding l E ag ah az ak i0 f 0 (by decide)) gV_X4_48 (by decide +kernel) rfl ⟨rfl, rfl⟩ ⟨Nat.le_of_ble_eq_true rfl, Nat.le_of_ble_eq_true rfl⟩ (ci := 4) (q0 := 0) rfl rfl hl.1 (Nat.le_of_ble_eq_true rfl) dX4_feed_12 ⟨Nat.zero_le _, Nat.zero_le _⟩) hP hD hS [0, 1] rfl (had_cons rfl (had_cons cell_ad rfl)) (Bs' := [[gObj ag ah az ak i0], [(ag 4, .inl (E.2.1, 7, .inl (sg (upd f 0 (f 0 + 1)) 7)))], [rdO ag (nI len) s9 b9 e9 v9], [(ag 3, .inl (E.2.2.1, 120, .inl (sg tb 120)))]]) rfl (fun H locs hP hD hS => ?_)
      obtain ⟨r_12_1, er_12_1⟩ : ∃ zz9 : Row, zz9 = upd f 0 (f 0 + 1) := ⟨_, rfl⟩
      rw [← er_12_1] at hP hD
      exact retI S hr hlk (by have e9 : rFeed len n9 = .inl 0 := (by unfold rFeed; rw [if_neg (fun z9 => c_7 z9.2)]); rw [er_12_1] at hP; rw [e9, fndC_inl, pick_inl, lenF_inl]; exact hP) hS (by have e9 : rFeed len n9 = .inl 0 := (by unfold rFeed; rw [if_neg (fun z9 => c_7 z9.2)]); rw [e9]; decide) dX4_feed_15
set_option maxHeartbeats 800000 in
set_option maxRecDepth 100000 in
theorem c_X4_sheet (l : Launch) (E : EV) (ag ah az ak : Nat → Nat) (i0 : Int32) (f z u y : Row) (s9 b n9 : Int32)  : Met l yX4_sheet (wq yX4_sheet cX4_sheet 6 (some .int)) ({ frames := 1, cells := 0, slots := 0, locals := 23 }) (preB E [.ref (ag 0), .int s9, .int b, .int n9] [[gObj ag ah az ak i0], [(ag 4, .inl (E.2.1, 7, .inl (sg f 7)))], shO E ag z u, shN E ag y]) (qI E [[gObj ag ah az ak i0], [(ag 4, .inl (E.2.1, 7, .inl (sg f 7)))], shO E ag z u, shN E ag y] [[gObj ag ah az ak i0], [(ag 4, .inl (E.2.1, 7, .inl (sg (fndC f (rSheet s9 b n9)) 7)))], shO E ag (pick (rSheet s9 b n9) z (upd z (tN s9) b)) (pick (rSheet s9 b n9) u (upd u (tN s9) (ansR (rSheet s9 b n9)))), shN E ag (pick (rSheet s9 b n9) y (clrS y (tN s9) 40))] (ansR (rSheet s9 b n9))) 0 0 (inB [[gObj ag ah az ak i0], [(ag 4, .inl (E.2.1, 7, .inl (sg f 7)))], shO E ag z u, shN E ag y]) := by
  refine M_mk RX4 (by decide) rfl (Nat.le_of_ble_eq_true rfl) ?_
  intro p e s m below meth c S hr hlk hK hP hD hS ls hl
  have hl : lv_has ls 6 [(0, .ref (ag 0)), (1, .int s9), (2, .int b), (3, .int n9)] := hl
  obtain ⟨H, hH⟩ : ∃ zz9, zz9 = s.heap := ⟨_, rfl⟩
  obtain ⟨locs, hlocs⟩ : ∃ zz9 : List Loc, zz9 = [] := ⟨_, rfl⟩
  have hP : PE E [[gObj ag ah az ak i0], [(ag 4, .inl (E.2.1, 7, .inl (sg f 7)))], shO E ag z u, shN E ag y] H := by rw [hH]; exact hP
  have hS : va_S (inB [[gObj ag ah az ak i0], [(ag 4, .inl (E.2.1, 7, .inl (sg f 7)))], shO E ag z u, shN E ag y]) s.heap H locs := by rw [hH, hlocs]; exact hS
  show W p l e ({ frames := 1, cells := 0, slots := 0, locals := 23 }) s m ([.ref (ag 0), .int s9, .int b, .int n9] : List Value).toArray below meth c s.heap [] 0 0 _ _
  suffices hgo : W p l e ({ frames := 1, cells := 0, slots := 0, locals := 23 }) s m ([.ref (ag 0), .int s9, .int b, .int n9] : List Value).toArray below meth c H locs 0 0 (MQ below (qI E [[gObj ag ah az ak i0], [(ag 4, .inl (E.2.1, 7, .inl (sg f 7)))], shO E ag z u, shN E ag y] [[gObj ag ah az ak i0], [(ag 4, .inl (E.2.1, 7, .inl (sg (fndC f (rSheet s9 b n9)) 7)))], shO E ag (pick (rSheet s9 b n9) z (upd z (tN s9) b)) (pick (rSheet s9 b n9) u (upd u (tN s9) (ansR (rSheet s9 b n9)))), shN E ag (pick (rSheet s9 b n9) y (clrS y (tN s9) 40))] (ansR (rSheet s9 b n9))) ([.ref (ag 0), .int s9, .int b, .int n9] : List Value).toArray s 0 0 (inB [[gObj ag ah az ak i0], [(ag 4, .inl (E.2.1, 7, .inl (sg f 7)))], shO E ag z u, shN E ag y])) (F0 m 0 ls []) by rw [hH, hlocs] at hgo; exact hgo
  clear hH hlocs
  refine lv_iload_n S.1 S.2.1 dX4_sheet_0 rfl (lv_at hl 2 rfl) ?_
  refine lv_if_eq (tgt := 22) S.1 S.2.1 dX4_sheet_1 (by decide) (fun c_1 => ?_) (fun c_1 => ?_)
  · refine lv_iconst (v := 1) S.1 S.2.1 dX4_sheet_22 (by decide) ?_
    refine lv_goto (tgt := 27) S.1 S.2.1 dX4_sheet_23 (by decide) ?_
    refine lv_istore (lv' := [(4, .int 1), (0, .ref (ag 0)), (1, .int s9), (2, .int b), (3, .int n9)]) S.1 S.2.1 dX4_sheet_27 hl (by decide) rfl (fun ls hl => ?_)
    refine lv_iload_n S.1 S.2.1 dX4_sheet_29 rfl (lv_at hl 2 rfl) ?_
    refine lv_iconst (v := 3) S.1 S.2.1 dX4_sheet_30 (by decide) ?_
    refine go_S (run_S (As := [.int s9, .int 3]) (rest := []) (n := 2) S hK (bl_P hP [] rfl) (bl_D hD [] rfl rfl) (c_X4_isWithin l E s9 3 ) gS_X4_44 (by decide +kernel) rfl ⟨rfl, rfl⟩ ⟨Nat.le_of_ble_eq_true rfl, Nat.le_of_ble_eq_true rfl⟩ hl.1 (Nat.le_of_ble_eq_true rfl) dX4_sheet_31 ⟨Nat.zero_le _, Nat.zero_le _⟩) ?_
    refine b_ifeq (tgt := 42) S.1 S.2.1 dX4_sheet_34 (by decide) (fun c_34 => ?_) (fun c_34 => ?_)
    · refine lv_aload_n S.1 S.2.1 dX4_sheet_42 rfl (lv_at hl 1 rfl) ?_
      refine lv_iconst (v := 0) S.1 S.2.1 dX4_sheet_43 (by decide) ?_
      refine go_I (run_V (As := [.int 0]) (rest := []) (n := 1) S hK (bl_P hP [0, 1] rfl) (bl_D hD [0, 1] rfl rfl) (c_X4_finding l E ag ah az ak i0 f 0 (by decide)) gV_X4_48 (by decide +kernel) rfl ⟨rfl, rfl⟩ ⟨Nat.le_of_ble_eq_true rfl, Nat.le_of_ble_eq_true rfl⟩ (ci := 4) (q0 := 0) rfl rfl hl.1 (Nat.le_of_ble_eq_true rfl) dX4_sheet_44 ⟨Nat.zero_le _, Nat.zero_le _⟩) hP hD hS [0, 1] rfl (had_cons rfl (had_cons cell_ad rfl)) (Bs' := [[gObj ag ah az ak i0], [(ag 4, .inl (E.2.1, 7, .inl (sg (upd f 0 (f 0 + 1)) 7)))], shO E ag z u, shN E ag y]) rfl (fun H locs hP hD hS => ?_)
      obtain ⟨r_44, er_44⟩ : ∃ zz9 : Row, zz9 = upd f 0 (f 0 + 1) := ⟨_, rfl⟩
      rw [← er_44] at hP hD
      exact retI S hr hlk (by have e9 : rSheet s9 b n9 = .inl 0 := (by unfold rSheet; rw [if_neg c_34]); rw [er_44] at hP; rw [e9, fndC_inl, pick_inl, pick_inl, pick_inl]; exact hP) hS (by have e9 : rSheet s9 b n9 = .inl 0 := (by unfold rSheet; rw [if_neg c_34]); rw [e9]; decide) dX4_sheet_47
    · obtain ⟨k_s9, hk_s9, ek_s9⟩ := nI_of2 (n := 3) (by decide) (Int32.not_lt.mpr c_34.1) c_34.2
      refine lv_iload S.1 S.2.1 dX4_sheet_37 (lv_at hl 0 rfl) ?_
      refine lv_if_ne (tgt := 48) S.1 S.2.1 dX4_sheet_39 (by decide) (fun _ => ?_) (fun h => absurd h (by decide))
      refine lv_iload_n S.1 S.2.1 dX4_sheet_48 rfl (lv_at hl 4 rfl) ?_
      refine lv_if_ge (tgt := 59) S.1 S.2.1 dX4_sheet_49 (by decide) (fun c_49 => ?_) (fun c_49 => ?_)
      · have n_49 := Int32.not_lt.mpr c_49
        refine lv_iload_n S.1 S.2.1 dX4_sheet_59 rfl (lv_at hl 4 rfl) ?_
        refine lv_bipush (v := 40) S.1 S.2.1 dX4_sheet_60 (by decide) ?_
        refine lv_icmp_le (tgt := 71) S.1 S.2.1 dX4_sheet_62 (by decide) (fun c_62 => ?_) (fun c_62 => ?_)
        · have n_62 := Int32.not_lt.mpr c_62
          refine lv_iload_n S.1 S.2.1 dX4_sheet_71 rfl (lv_at hl 3 rfl) ?_
          refine lv_if_ne (tgt := 79) S.1 S.2.1 dX4_sheet_72 (by decide) (fun c_72 => ?_) (fun c_72 => ?_)
          · refine lv_iload_n S.1 S.2.1 dX4_sheet_79 rfl (lv_at hl 4 rfl) ?_
            refine lv_istore (lv' := [(5, .int n9), (4, .int 1), (0, .ref (ag 0)), (1, .int s9), (2, .int b), (3, .int n9)]) S.1 S.2.1 dX4_sheet_80 hl (by decide) rfl (fun ls hl => ?_)
            refine lv_aload_n S.1 S.2.1 dX4_sheet_82 rfl (lv_at hl 2 rfl) ?_
            refine gf_X4_28 S hK hP 0 0 rfl rfl rfl dX4_sheet_83 ?_
            refine lv_iload_n S.1 S.2.1 dX4_sheet_86 rfl (lv_at hl 3 rfl) ?_
            refine lv_eqi (y := nI k_s9) ek_s9 ?_
            refine b_aaldN (i := k_s9) S hK hP 3 2 0 rfl rfl rfl (by omega) (by decide) (v := ag (5 + k_s9)) rfl dX4_sheet_87 ?_
            refine lv_iload_n S.1 S.2.1 dX4_sheet_88 rfl (lv_at hl 4 rfl) ?_
            refine lv_iload S.1 S.2.1 dX4_sheet_89 (lv_at hl 0 rfl) ?_
            refine go_Vcc (run_V (As := [.int b, .int n9]) (rest := []) (n := 2) S hK (cell2_P hP (b := 2) (j := (1 + k_s9)) (b2 := 3) (j2 := k_s9) rfl (sO_at (by omega)) rfl (sN_at (by omega))) (cell2_D hD (b := 2) (j := (1 + k_s9)) (b2 := 3) (j2 := k_s9) rfl (sO_at (by omega)) rfl (sN_at (by omega)) (by decide)) (c_X3_begin l E (ag (5 + k_s9)) (ag (9 + k_s9)) (seg y (40 * k_s9) 40) (z k_s9) (u k_s9) b n9) gV_X4_225 (by decide +kernel) rfl ⟨rfl, rfl⟩ ⟨Nat.le_of_ble_eq_true rfl, Nat.le_of_ble_eq_true rfl⟩ (ci := 3) (q0 := 0) rfl rfl hl.1 (Nat.le_of_ble_eq_true rfl) dX4_sheet_91 ⟨Nat.zero_le _, Nat.zero_le _⟩) hP hD hS (b := 2) (j := (1 + k_s9)) (b2 := 3) (j2 := k_s9) rfl (sO_at (by omega)) rfl (sN_at (by omega)) (by decide) (sO_set (by omega)) (sN_clr (by omega)) (Bs' := [[gObj ag ah az ak i0], [(ag 4, .inl (E.2.1, 7, .inl (sg f 7)))], shO E ag (upd z k_s9 b) (upd u k_s9 n9), shN E ag (clrS y k_s9 40)]) rfl (fun H locs hP hD hS => ?_)
            refine lv_iload S.1 S.2.1 dX4_sheet_94 (lv_at hl 0 rfl) ?_
            exact retI S hr hlk (by have e9 : rSheet s9 b n9 = .inr (fun _ => 0, n9) := (by unfold rSheet; rw [if_pos c_34, if_pos (Or.inl c_1), if_neg (Int32.not_lt.mpr c_49), if_neg (Int32.not_lt.mpr c_62), if_neg c_72]); rw [e9, fndC_inr, pick_inr, pick_inr, pick_inr, ansR_inr, ek_s9, tN_nI (by omega)]; exact hP) hS (by have e9 : rSheet s9 b n9 = .inr (fun _ => 0, n9) := (by unfold rSheet; rw [if_pos c_34, if_pos (Or.inl c_1), if_neg (Int32.not_lt.mpr c_49), if_neg (Int32.not_lt.mpr c_62), if_neg c_72]); rw [e9, ansR_inr]) dX4_sheet_96
          · refine lv_iconst (v := 0) S.1 S.2.1 dX4_sheet_75 (by decide) ?_
            refine lv_goto (tgt := 80) S.1 S.2.1 dX4_sheet_76 (by decide) ?_
            refine lv_istore (lv' := [(5, .int 0), (4, .int 1), (0, .ref (ag 0)), (1, .int s9), (2, .int b), (3, .int n9)]) S.1 S.2.1 dX4_sheet_80 hl (by decide) rfl (fun ls hl => ?_)
            refine lv_aload_n S.1 S.2.1 dX4_sheet_82 rfl (lv_at hl 2 rfl) ?_
            refine gf_X4_28 S hK hP 0 0 rfl rfl rfl dX4_sheet_83 ?_
            refine lv_iload_n S.1 S.2.1 dX4_sheet_86 rfl (lv_at hl 3 rfl) ?_
            refine lv_eqi (y := nI k_s9) ek_s9 ?_
            refine b_aaldN (i := k_s9) S hK hP 3 2 0 rfl rfl rfl (by omega) (by decide) (v := ag (5 + k_s9)) rfl dX4_sheet_87 ?_
            refine lv_iload_n S.1 S.2.1 dX4_sheet_88 rfl (lv_at hl 4 rfl) ?_
            refine lv_iload S.1 S.2.1 dX4_sheet_89 (lv_at hl 0 rfl) ?_
            refine go_Vcc (run_V (As := [.int b, .int 0]) (rest := []) (n := 2) S hK (cell2_P hP (b := 2) (j := (1 + k_s9)) (b2 := 3) (j2 := k_s9) rfl (sO_at (by omega)) rfl (sN_at (by omega))) (cell2_D hD (b := 2) (j := (1 + k_s9)) (b2 := 3) (j2 := k_s9) rfl (sO_at (by omega)) rfl (sN_at (by omega)) (by decide)) (c_X3_begin l E (ag (5 + k_s9)) (ag (9 + k_s9)) (seg y (40 * k_s9) 40) (z k_s9) (u k_s9) b 0) gV_X4_225 (by decide +kernel) rfl ⟨rfl, rfl⟩ ⟨Nat.le_of_ble_eq_true rfl, Nat.le_of_ble_eq_true rfl⟩ (ci := 3) (q0 := 0) rfl rfl hl.1 (Nat.le_of_ble_eq_true rfl) dX4_sheet_91 ⟨Nat.zero_le _, Nat.zero_le _⟩) hP hD hS (b := 2) (j := (1 + k_s9)) (b2 := 3) (j2 := k_s9) rfl (sO_at (by omega)) rfl (sN_at (by omega)) (by decide) (sO_set (by omega)) (sN_clr (by omega)) (Bs' := [[gObj ag ah az ak i0], [(ag 4, .inl (E.2.1, 7, .inl (sg f 7)))], shO E ag (upd z k_s9 b) (upd u k_s9 0), shN E ag (clrS y k_s9 40)]) rfl (fun H locs hP hD hS => ?_)
            refine lv_iload S.1 S.2.1 dX4_sheet_94 (lv_at hl 0 rfl) ?_
            exact retI S hr hlk (by have e9 : rSheet s9 b n9 = .inr (fun _ => 0, 0) := (by unfold rSheet; rw [if_pos c_34, if_pos (Or.inl c_1), if_neg (Int32.not_lt.mpr c_49), if_neg (Int32.not_lt.mpr c_62), if_pos c_72]); rw [e9, fndC_inr, pick_inr, pick_inr, pick_inr, ansR_inr, ek_s9, tN_nI (by omega)]; exact hP) hS (by have e9 : rSheet s9 b n9 = .inr (fun _ => 0, 0) := (by unfold rSheet; rw [if_pos c_34, if_pos (Or.inl c_1), if_neg (Int32.not_lt.mpr c_49), if_neg (Int32.not_lt.mpr c_62), if_pos c_72]); rw [e9, ansR_inr]) dX4_sheet_96
        · have n_62 := Int32.not_le.mp c_62
          refine lv_aload_n S.1 S.2.1 dX4_sheet_65 rfl (lv_at hl 1 rfl) ?_
          refine lv_iconst (v := 0) S.1 S.2.1 dX4_sheet_66 (by decide) ?_
          refine go_I (run_V (As := [.int 0]) (rest := []) (n := 1) S hK (bl_P hP [0, 1] rfl) (bl_D hD [0, 1] rfl rfl) (c_X4_finding l E ag ah az ak i0 f 0 (by decide)) gV_X4_48 (by decide +kernel) rfl ⟨rfl, rfl⟩ ⟨Nat.le_of_ble_eq_true rfl, Nat.le_of_ble_eq_true rfl⟩ (ci := 4) (q0 := 0) rfl rfl hl.1 (Nat.le_of_ble_eq_true rfl) dX4_sheet_67 ⟨Nat.zero_le _, Nat.zero_le _⟩) hP hD hS [0, 1] rfl (had_cons rfl (had_cons cell_ad rfl)) (Bs' := [[gObj ag ah az ak i0], [(ag 4, .inl (E.2.1, 7, .inl (sg (upd f 0 (f 0 + 1)) 7)))], shO E ag z u, shN E ag y]) rfl (fun H locs hP hD hS => ?_)
          obtain ⟨r_67, er_67⟩ : ∃ zz9 : Row, zz9 = upd f 0 (f 0 + 1) := ⟨_, rfl⟩
          rw [← er_67] at hP hD
          exact retI S hr hlk (by have e9 : rSheet s9 b n9 = .inl 0 := (by unfold rSheet; rw [if_pos c_34, if_pos (Or.inl c_1), if_neg (Int32.not_lt.mpr c_49), if_pos (Int32.not_le.mp c_62)]); rw [er_67] at hP; rw [e9, fndC_inl, pick_inl, pick_inl, pick_inl]; exact hP) hS (by have e9 : rSheet s9 b n9 = .inl 0 := (by unfold rSheet; rw [if_pos c_34, if_pos (Or.inl c_1), if_neg (Int32.not_lt.mpr c_49), if_pos (Int32.not_le.mp c_62)]); rw [e9]; decide) dX4_sheet_70
      · have n_49 := Int32.not_le.mp c_49
        refine lv_aload_n S.1 S.2.1 dX4_sheet_52 rfl (lv_at hl 1 rfl) ?_
        refine lv_bipush (v := 6) S.1 S.2.1 dX4_sheet_53 (by decide) ?_
        refine go_I (run_V (As := [.int 6]) (rest := []) (n := 1) S hK (bl_P hP [0, 1] rfl) (bl_D hD [0, 1] rfl rfl) (c_X4_finding l E ag ah az ak i0 f 6 (by decide)) gV_X4_48 (by decide +kernel) rfl ⟨rfl, rfl⟩ ⟨Nat.le_of_ble_eq_true rfl, Nat.le_of_ble_eq_true rfl⟩ (ci := 4) (q0 := 0) rfl rfl hl.1 (Nat.le_of_ble_eq_true rfl) dX4_sheet_55 ⟨Nat.zero_le _, Nat.zero_le _⟩) hP hD hS [0, 1] rfl (had_cons rfl (had_cons cell_ad rfl)) (Bs' := [[gObj ag ah az ak i0], [(ag 4, .inl (E.2.1, 7, .inl (sg (upd f 6 (f 6 + 1)) 7)))], shO E ag z u, shN E ag y]) rfl (fun H locs hP hD hS => ?_)
        obtain ⟨r_55, er_55⟩ : ∃ zz9 : Row, zz9 = upd f 6 (f 6 + 1) := ⟨_, rfl⟩
        rw [← er_55] at hP hD
        exact retI S hr hlk (by have e9 : rSheet s9 b n9 = .inl 6 := (by unfold rSheet; rw [if_pos c_34, if_pos (Or.inl c_1), if_pos (Int32.not_le.mp c_49)]); rw [er_55] at hP; rw [e9, fndC_inl, pick_inl, pick_inl, pick_inl]; exact hP) hS (by have e9 : rSheet s9 b n9 = .inl 6 := (by unfold rSheet; rw [if_pos c_34, if_pos (Or.inl c_1), if_pos (Int32.not_le.mp c_49)]); rw [e9]; decide) dX4_sheet_58
  · refine lv_iload_n S.1 S.2.1 dX4_sheet_4 rfl (lv_at hl 2 rfl) ?_
    refine lv_bipush (v := 8) S.1 S.2.1 dX4_sheet_5 (by decide) ?_
    refine lv_icmp_eq (tgt := 22) S.1 S.2.1 dX4_sheet_7 (by decide) (fun c_7 => ?_) (fun c_7 => ?_)
    · refine lv_iconst (v := 1) S.1 S.2.1 dX4_sheet_22 (by decide) ?_
      refine lv_goto (tgt := 27) S.1 S.2.1 dX4_sheet_23 (by decide) ?_
      refine lv_istore (lv' := [(4, .int 1), (0, .ref (ag 0)), (1, .int s9), (2, .int b), (3, .int n9)]) S.1 S.2.1 dX4_sheet_27 hl (by decide) rfl (fun ls hl => ?_)
      refine lv_iload_n S.1 S.2.1 dX4_sheet_29 rfl (lv_at hl 2 rfl) ?_
      refine lv_iconst (v := 3) S.1 S.2.1 dX4_sheet_30 (by decide) ?_
      refine go_S (run_S (As := [.int s9, .int 3]) (rest := []) (n := 2) S hK (bl_P hP [] rfl) (bl_D hD [] rfl rfl) (c_X4_isWithin l E s9 3 ) gS_X4_44 (by decide +kernel) rfl ⟨rfl, rfl⟩ ⟨Nat.le_of_ble_eq_true rfl, Nat.le_of_ble_eq_true rfl⟩ hl.1 (Nat.le_of_ble_eq_true rfl) dX4_sheet_31 ⟨Nat.zero_le _, Nat.zero_le _⟩) ?_
      refine b_ifeq (tgt := 42) S.1 S.2.1 dX4_sheet_34 (by decide) (fun c_34 => ?_) (fun c_34 => ?_)
      · refine lv_aload_n S.1 S.2.1 dX4_sheet_42 rfl (lv_at hl 1 rfl) ?_
        refine lv_iconst (v := 0) S.1 S.2.1 dX4_sheet_43 (by decide) ?_
        refine go_I (run_V (As := [.int 0]) (rest := []) (n := 1) S hK (bl_P hP [0, 1] rfl) (bl_D hD [0, 1] rfl rfl) (c_X4_finding l E ag ah az ak i0 f 0 (by decide)) gV_X4_48 (by decide +kernel) rfl ⟨rfl, rfl⟩ ⟨Nat.le_of_ble_eq_true rfl, Nat.le_of_ble_eq_true rfl⟩ (ci := 4) (q0 := 0) rfl rfl hl.1 (Nat.le_of_ble_eq_true rfl) dX4_sheet_44 ⟨Nat.zero_le _, Nat.zero_le _⟩) hP hD hS [0, 1] rfl (had_cons rfl (had_cons cell_ad rfl)) (Bs' := [[gObj ag ah az ak i0], [(ag 4, .inl (E.2.1, 7, .inl (sg (upd f 0 (f 0 + 1)) 7)))], shO E ag z u, shN E ag y]) rfl (fun H locs hP hD hS => ?_)
        obtain ⟨r_44_1, er_44_1⟩ : ∃ zz9 : Row, zz9 = upd f 0 (f 0 + 1) := ⟨_, rfl⟩
        rw [← er_44_1] at hP hD
        exact retI S hr hlk (by have e9 : rSheet s9 b n9 = .inl 0 := (by unfold rSheet; rw [if_neg c_34]); rw [er_44_1] at hP; rw [e9, fndC_inl, pick_inl, pick_inl, pick_inl]; exact hP) hS (by have e9 : rSheet s9 b n9 = .inl 0 := (by unfold rSheet; rw [if_neg c_34]); rw [e9]; decide) dX4_sheet_47
      · obtain ⟨k_s9, hk_s9, ek_s9⟩ := nI_of2 (n := 3) (by decide) (Int32.not_lt.mpr c_34.1) c_34.2
        refine lv_iload S.1 S.2.1 dX4_sheet_37 (lv_at hl 0 rfl) ?_
        refine lv_if_ne (tgt := 48) S.1 S.2.1 dX4_sheet_39 (by decide) (fun _ => ?_) (fun h => absurd h (by decide))
        refine lv_iload_n S.1 S.2.1 dX4_sheet_48 rfl (lv_at hl 4 rfl) ?_
        refine lv_if_ge (tgt := 59) S.1 S.2.1 dX4_sheet_49 (by decide) (fun c_49 => ?_) (fun c_49 => ?_)
        · have n_49 := Int32.not_lt.mpr c_49
          refine lv_iload_n S.1 S.2.1 dX4_sheet_59 rfl (lv_at hl 4 rfl) ?_
          refine lv_bipush (v := 40) S.1 S.2.1 dX4_sheet_60 (by decide) ?_
          refine lv_icmp_le (tgt := 71) S.1 S.2.1 dX4_sheet_62 (by decide) (fun c_62 => ?_) (fun c_62 => ?_)
          · have n_62 := Int32.not_lt.mpr c_62
            refine lv_iload_n S.1 S.2.1 dX4_sheet_71 rfl (lv_at hl 3 rfl) ?_
            refine lv_if_ne (tgt := 79) S.1 S.2.1 dX4_sheet_72 (by decide) (fun c_72 => ?_) (fun c_72 => ?_)
            · refine lv_iload_n S.1 S.2.1 dX4_sheet_79 rfl (lv_at hl 4 rfl) ?_
              refine lv_istore (lv' := [(5, .int n9), (4, .int 1), (0, .ref (ag 0)), (1, .int s9), (2, .int b), (3, .int n9)]) S.1 S.2.1 dX4_sheet_80 hl (by decide) rfl (fun ls hl => ?_)
              refine lv_aload_n S.1 S.2.1 dX4_sheet_82 rfl (lv_at hl 2 rfl) ?_
              refine gf_X4_28 S hK hP 0 0 rfl rfl rfl dX4_sheet_83 ?_
              refine lv_iload_n S.1 S.2.1 dX4_sheet_86 rfl (lv_at hl 3 rfl) ?_
              refine lv_eqi (y := nI k_s9) ek_s9 ?_
              refine b_aaldN (i := k_s9) S hK hP 3 2 0 rfl rfl rfl (by omega) (by decide) (v := ag (5 + k_s9)) rfl dX4_sheet_87 ?_
              refine lv_iload_n S.1 S.2.1 dX4_sheet_88 rfl (lv_at hl 4 rfl) ?_
              refine lv_iload S.1 S.2.1 dX4_sheet_89 (lv_at hl 0 rfl) ?_
              refine go_Vcc (run_V (As := [.int b, .int n9]) (rest := []) (n := 2) S hK (cell2_P hP (b := 2) (j := (1 + k_s9)) (b2 := 3) (j2 := k_s9) rfl (sO_at (by omega)) rfl (sN_at (by omega))) (cell2_D hD (b := 2) (j := (1 + k_s9)) (b2 := 3) (j2 := k_s9) rfl (sO_at (by omega)) rfl (sN_at (by omega)) (by decide)) (c_X3_begin l E (ag (5 + k_s9)) (ag (9 + k_s9)) (seg y (40 * k_s9) 40) (z k_s9) (u k_s9) b n9) gV_X4_225 (by decide +kernel) rfl ⟨rfl, rfl⟩ ⟨Nat.le_of_ble_eq_true rfl, Nat.le_of_ble_eq_true rfl⟩ (ci := 3) (q0 := 0) rfl rfl hl.1 (Nat.le_of_ble_eq_true rfl) dX4_sheet_91 ⟨Nat.zero_le _, Nat.zero_le _⟩) hP hD hS (b := 2) (j := (1 + k_s9)) (b2 := 3) (j2 := k_s9) rfl (sO_at (by omega)) rfl (sN_at (by omega)) (by decide) (sO_set (by omega)) (sN_clr (by omega)) (Bs' := [[gObj ag ah az ak i0], [(ag 4, .inl (E.2.1, 7, .inl (sg f 7)))], shO E ag (upd z k_s9 b) (upd u k_s9 n9), shN E ag (clrS y k_s9 40)]) rfl (fun H locs hP hD hS => ?_)
              refine lv_iload S.1 S.2.1 dX4_sheet_94 (lv_at hl 0 rfl) ?_
              exact retI S hr hlk (by have e9 : rSheet s9 b n9 = .inr (fun _ => 0, n9) := (by unfold rSheet; rw [if_pos c_34, if_pos (Or.inr (Or.inl c_7)), if_neg (Int32.not_lt.mpr c_49), if_neg (Int32.not_lt.mpr c_62), if_neg c_72]); rw [e9, fndC_inr, pick_inr, pick_inr, pick_inr, ansR_inr, ek_s9, tN_nI (by omega)]; exact hP) hS (by have e9 : rSheet s9 b n9 = .inr (fun _ => 0, n9) := (by unfold rSheet; rw [if_pos c_34, if_pos (Or.inr (Or.inl c_7)), if_neg (Int32.not_lt.mpr c_49), if_neg (Int32.not_lt.mpr c_62), if_neg c_72]); rw [e9, ansR_inr]) dX4_sheet_96
            · refine lv_iconst (v := 0) S.1 S.2.1 dX4_sheet_75 (by decide) ?_
              refine lv_goto (tgt := 80) S.1 S.2.1 dX4_sheet_76 (by decide) ?_
              refine lv_istore (lv' := [(5, .int 0), (4, .int 1), (0, .ref (ag 0)), (1, .int s9), (2, .int b), (3, .int n9)]) S.1 S.2.1 dX4_sheet_80 hl (by decide) rfl (fun ls hl => ?_)
              refine lv_aload_n S.1 S.2.1 dX4_sheet_82 rfl (lv_at hl 2 rfl) ?_
              refine gf_X4_28 S hK hP 0 0 rfl rfl rfl dX4_sheet_83 ?_
              refine lv_iload_n S.1 S.2.1 dX4_sheet_86 rfl (lv_at hl 3 rfl) ?_
              refine lv_eqi (y := nI k_s9) ek_s9 ?_
              refine b_aaldN (i := k_s9) S hK hP 3 2 0 rfl rfl rfl (by omega) (by decide) (v := ag (5 + k_s9)) rfl dX4_sheet_87 ?_
              refine lv_iload_n S.1 S.2.1 dX4_sheet_88 rfl (lv_at hl 4 rfl) ?_
              refine lv_iload S.1 S.2.1 dX4_sheet_89 (lv_at hl 0 rfl) ?_
              refine go_Vcc (run_V (As := [.int b, .int 0]) (rest := []) (n := 2) S hK (cell2_P hP (b := 2) (j := (1 + k_s9)) (b2 := 3) (j2 := k_s9) rfl (sO_at (by omega)) rfl (sN_at (by omega))) (cell2_D hD (b := 2) (j := (1 + k_s9)) (b2 := 3) (j2 := k_s9) rfl (sO_at (by omega)) rfl (sN_at (by omega)) (by decide)) (c_X3_begin l E (ag (5 + k_s9)) (ag (9 + k_s9)) (seg y (40 * k_s9) 40) (z k_s9) (u k_s9) b 0) gV_X4_225 (by decide +kernel) rfl ⟨rfl, rfl⟩ ⟨Nat.le_of_ble_eq_true rfl, Nat.le_of_ble_eq_true rfl⟩ (ci := 3) (q0 := 0) rfl rfl hl.1 (Nat.le_of_ble_eq_true rfl) dX4_sheet_91 ⟨Nat.zero_le _, Nat.zero_le _⟩) hP hD hS (b := 2) (j := (1 + k_s9)) (b2 := 3) (j2 := k_s9) rfl (sO_at (by omega)) rfl (sN_at (by omega)) (by decide) (sO_set (by omega)) (sN_clr (by omega)) (Bs' := [[gObj ag ah az ak i0], [(ag 4, .inl (E.2.1, 7, .inl (sg f 7)))], shO E ag (upd z k_s9 b) (upd u k_s9 0), shN E ag (clrS y k_s9 40)]) rfl (fun H locs hP hD hS => ?_)
              refine lv_iload S.1 S.2.1 dX4_sheet_94 (lv_at hl 0 rfl) ?_
              exact retI S hr hlk (by have e9 : rSheet s9 b n9 = .inr (fun _ => 0, 0) := (by unfold rSheet; rw [if_pos c_34, if_pos (Or.inr (Or.inl c_7)), if_neg (Int32.not_lt.mpr c_49), if_neg (Int32.not_lt.mpr c_62), if_pos c_72]); rw [e9, fndC_inr, pick_inr, pick_inr, pick_inr, ansR_inr, ek_s9, tN_nI (by omega)]; exact hP) hS (by have e9 : rSheet s9 b n9 = .inr (fun _ => 0, 0) := (by unfold rSheet; rw [if_pos c_34, if_pos (Or.inr (Or.inl c_7)), if_neg (Int32.not_lt.mpr c_49), if_neg (Int32.not_lt.mpr c_62), if_pos c_72]); rw [e9, ansR_inr]) dX4_sheet_96
          · have n_62 := Int32.not_le.mp c_62
            refine lv_aload_n S.1 S.2.1 dX4_sheet_65 rfl (lv_at hl 1 rfl) ?_
            refine lv_iconst (v := 0) S.1 S.2.1 dX4_sheet_66 (by decide) ?_
            refine go_I (run_V (As := [.int 0]) (rest := []) (n := 1) S hK (bl_P hP [0, 1] rfl) (bl_D hD [0, 1] rfl rfl) (c_X4_finding l E ag ah az ak i0 f 0 (by decide)) gV_X4_48 (by decide +kernel) rfl ⟨rfl, rfl⟩ ⟨Nat.le_of_ble_eq_true rfl, Nat.le_of_ble_eq_true rfl⟩ (ci := 4) (q0 := 0) rfl rfl hl.1 (Nat.le_of_ble_eq_true rfl) dX4_sheet_67 ⟨Nat.zero_le _, Nat.zero_le _⟩) hP hD hS [0, 1] rfl (had_cons rfl (had_cons cell_ad rfl)) (Bs' := [[gObj ag ah az ak i0], [(ag 4, .inl (E.2.1, 7, .inl (sg (upd f 0 (f 0 + 1)) 7)))], shO E ag z u, shN E ag y]) rfl (fun H locs hP hD hS => ?_)
            obtain ⟨r_67_2, er_67_2⟩ : ∃ zz9 : Row, zz9 = upd f 0 (f 0 + 1) := ⟨_, rfl⟩
            rw [← er_67_2] at hP hD
            exact retI S hr hlk (by have e9 : rSheet s9 b n9 = .inl 0 := (by unfold rSheet; rw [if_pos c_34, if_pos (Or.inr (Or.inl c_7)), if_neg (Int32.not_lt.mpr c_49), if_pos (Int32.not_le.mp c_62)]); rw [er_67_2] at hP; rw [e9, fndC_inl, pick_inl, pick_inl, pick_inl]; exact hP) hS (by have e9 : rSheet s9 b n9 = .inl 0 := (by unfold rSheet; rw [if_pos c_34, if_pos (Or.inr (Or.inl c_7)), if_neg (Int32.not_lt.mpr c_49), if_pos (Int32.not_le.mp c_62)]); rw [e9]; decide) dX4_sheet_70
        · have n_49 := Int32.not_le.mp c_49
          refine lv_aload_n S.1 S.2.1 dX4_sheet_52 rfl (lv_at hl 1 rfl) ?_
          refine lv_bipush (v := 6) S.1 S.2.1 dX4_sheet_53 (by decide) ?_
          refine go_I (run_V (As := [.int 6]) (rest := []) (n := 1) S hK (bl_P hP [0, 1] rfl) (bl_D hD [0, 1] rfl rfl) (c_X4_finding l E ag ah az ak i0 f 6 (by decide)) gV_X4_48 (by decide +kernel) rfl ⟨rfl, rfl⟩ ⟨Nat.le_of_ble_eq_true rfl, Nat.le_of_ble_eq_true rfl⟩ (ci := 4) (q0 := 0) rfl rfl hl.1 (Nat.le_of_ble_eq_true rfl) dX4_sheet_55 ⟨Nat.zero_le _, Nat.zero_le _⟩) hP hD hS [0, 1] rfl (had_cons rfl (had_cons cell_ad rfl)) (Bs' := [[gObj ag ah az ak i0], [(ag 4, .inl (E.2.1, 7, .inl (sg (upd f 6 (f 6 + 1)) 7)))], shO E ag z u, shN E ag y]) rfl (fun H locs hP hD hS => ?_)
          obtain ⟨r_55_3, er_55_3⟩ : ∃ zz9 : Row, zz9 = upd f 6 (f 6 + 1) := ⟨_, rfl⟩
          rw [← er_55_3] at hP hD
          exact retI S hr hlk (by have e9 : rSheet s9 b n9 = .inl 6 := (by unfold rSheet; rw [if_pos c_34, if_pos (Or.inr (Or.inl c_7)), if_pos (Int32.not_le.mp c_49)]); rw [er_55_3] at hP; rw [e9, fndC_inl, pick_inl, pick_inl, pick_inl]; exact hP) hS (by have e9 : rSheet s9 b n9 = .inl 6 := (by unfold rSheet; rw [if_pos c_34, if_pos (Or.inr (Or.inl c_7)), if_pos (Int32.not_le.mp c_49)]); rw [e9]; decide) dX4_sheet_58
    · refine lv_iload_n S.1 S.2.1 dX4_sheet_10 rfl (lv_at hl 2 rfl) ?_
      refine lv_bipush (v := 16) S.1 S.2.1 dX4_sheet_11 (by decide) ?_
      refine lv_icmp_eq (tgt := 22) S.1 S.2.1 dX4_sheet_13 (by decide) (fun c_13 => ?_) (fun c_13 => ?_)
      · refine lv_iconst (v := 1) S.1 S.2.1 dX4_sheet_22 (by decide) ?_
        refine lv_goto (tgt := 27) S.1 S.2.1 dX4_sheet_23 (by decide) ?_
        refine lv_istore (lv' := [(4, .int 1), (0, .ref (ag 0)), (1, .int s9), (2, .int b), (3, .int n9)]) S.1 S.2.1 dX4_sheet_27 hl (by decide) rfl (fun ls hl => ?_)
        refine lv_iload_n S.1 S.2.1 dX4_sheet_29 rfl (lv_at hl 2 rfl) ?_
        refine lv_iconst (v := 3) S.1 S.2.1 dX4_sheet_30 (by decide) ?_
        refine go_S (run_S (As := [.int s9, .int 3]) (rest := []) (n := 2) S hK (bl_P hP [] rfl) (bl_D hD [] rfl rfl) (c_X4_isWithin l E s9 3 ) gS_X4_44 (by decide +kernel) rfl ⟨rfl, rfl⟩ ⟨Nat.le_of_ble_eq_true rfl, Nat.le_of_ble_eq_true rfl⟩ hl.1 (Nat.le_of_ble_eq_true rfl) dX4_sheet_31 ⟨Nat.zero_le _, Nat.zero_le _⟩) ?_
        refine b_ifeq (tgt := 42) S.1 S.2.1 dX4_sheet_34 (by decide) (fun c_34 => ?_) (fun c_34 => ?_)
        · refine lv_aload_n S.1 S.2.1 dX4_sheet_42 rfl (lv_at hl 1 rfl) ?_
          refine lv_iconst (v := 0) S.1 S.2.1 dX4_sheet_43 (by decide) ?_
          refine go_I (run_V (As := [.int 0]) (rest := []) (n := 1) S hK (bl_P hP [0, 1] rfl) (bl_D hD [0, 1] rfl rfl) (c_X4_finding l E ag ah az ak i0 f 0 (by decide)) gV_X4_48 (by decide +kernel) rfl ⟨rfl, rfl⟩ ⟨Nat.le_of_ble_eq_true rfl, Nat.le_of_ble_eq_true rfl⟩ (ci := 4) (q0 := 0) rfl rfl hl.1 (Nat.le_of_ble_eq_true rfl) dX4_sheet_44 ⟨Nat.zero_le _, Nat.zero_le _⟩) hP hD hS [0, 1] rfl (had_cons rfl (had_cons cell_ad rfl)) (Bs' := [[gObj ag ah az ak i0], [(ag 4, .inl (E.2.1, 7, .inl (sg (upd f 0 (f 0 + 1)) 7)))], shO E ag z u, shN E ag y]) rfl (fun H locs hP hD hS => ?_)
          obtain ⟨r_44_4, er_44_4⟩ : ∃ zz9 : Row, zz9 = upd f 0 (f 0 + 1) := ⟨_, rfl⟩
          rw [← er_44_4] at hP hD
          exact retI S hr hlk (by have e9 : rSheet s9 b n9 = .inl 0 := (by unfold rSheet; rw [if_neg c_34]); rw [er_44_4] at hP; rw [e9, fndC_inl, pick_inl, pick_inl, pick_inl]; exact hP) hS (by have e9 : rSheet s9 b n9 = .inl 0 := (by unfold rSheet; rw [if_neg c_34]); rw [e9]; decide) dX4_sheet_47
        · obtain ⟨k_s9, hk_s9, ek_s9⟩ := nI_of2 (n := 3) (by decide) (Int32.not_lt.mpr c_34.1) c_34.2
          refine lv_iload S.1 S.2.1 dX4_sheet_37 (lv_at hl 0 rfl) ?_
          refine lv_if_ne (tgt := 48) S.1 S.2.1 dX4_sheet_39 (by decide) (fun _ => ?_) (fun h => absurd h (by decide))
          refine lv_iload_n S.1 S.2.1 dX4_sheet_48 rfl (lv_at hl 4 rfl) ?_
          refine lv_if_ge (tgt := 59) S.1 S.2.1 dX4_sheet_49 (by decide) (fun c_49 => ?_) (fun c_49 => ?_)
          · have n_49 := Int32.not_lt.mpr c_49
            refine lv_iload_n S.1 S.2.1 dX4_sheet_59 rfl (lv_at hl 4 rfl) ?_
            refine lv_bipush (v := 40) S.1 S.2.1 dX4_sheet_60 (by decide) ?_
            refine lv_icmp_le (tgt := 71) S.1 S.2.1 dX4_sheet_62 (by decide) (fun c_62 => ?_) (fun c_62 => ?_)
            · have n_62 := Int32.not_lt.mpr c_62
              refine lv_iload_n S.1 S.2.1 dX4_sheet_71 rfl (lv_at hl 3 rfl) ?_
              refine lv_if_ne (tgt := 79) S.1 S.2.1 dX4_sheet_72 (by decide) (fun c_72 => ?_) (fun c_72 => ?_)
              · refine lv_iload_n S.1 S.2.1 dX4_sheet_79 rfl (lv_at hl 4 rfl) ?_
                refine lv_istore (lv' := [(5, .int n9), (4, .int 1), (0, .ref (ag 0)), (1, .int s9), (2, .int b), (3, .int n9)]) S.1 S.2.1 dX4_sheet_80 hl (by decide) rfl (fun ls hl => ?_)
                refine lv_aload_n S.1 S.2.1 dX4_sheet_82 rfl (lv_at hl 2 rfl) ?_
                refine gf_X4_28 S hK hP 0 0 rfl rfl rfl dX4_sheet_83 ?_
                refine lv_iload_n S.1 S.2.1 dX4_sheet_86 rfl (lv_at hl 3 rfl) ?_
                refine lv_eqi (y := nI k_s9) ek_s9 ?_
                refine b_aaldN (i := k_s9) S hK hP 3 2 0 rfl rfl rfl (by omega) (by decide) (v := ag (5 + k_s9)) rfl dX4_sheet_87 ?_
                refine lv_iload_n S.1 S.2.1 dX4_sheet_88 rfl (lv_at hl 4 rfl) ?_
                refine lv_iload S.1 S.2.1 dX4_sheet_89 (lv_at hl 0 rfl) ?_
                refine go_Vcc (run_V (As := [.int b, .int n9]) (rest := []) (n := 2) S hK (cell2_P hP (b := 2) (j := (1 + k_s9)) (b2 := 3) (j2 := k_s9) rfl (sO_at (by omega)) rfl (sN_at (by omega))) (cell2_D hD (b := 2) (j := (1 + k_s9)) (b2 := 3) (j2 := k_s9) rfl (sO_at (by omega)) rfl (sN_at (by omega)) (by decide)) (c_X3_begin l E (ag (5 + k_s9)) (ag (9 + k_s9)) (seg y (40 * k_s9) 40) (z k_s9) (u k_s9) b n9) gV_X4_225 (by decide +kernel) rfl ⟨rfl, rfl⟩ ⟨Nat.le_of_ble_eq_true rfl, Nat.le_of_ble_eq_true rfl⟩ (ci := 3) (q0 := 0) rfl rfl hl.1 (Nat.le_of_ble_eq_true rfl) dX4_sheet_91 ⟨Nat.zero_le _, Nat.zero_le _⟩) hP hD hS (b := 2) (j := (1 + k_s9)) (b2 := 3) (j2 := k_s9) rfl (sO_at (by omega)) rfl (sN_at (by omega)) (by decide) (sO_set (by omega)) (sN_clr (by omega)) (Bs' := [[gObj ag ah az ak i0], [(ag 4, .inl (E.2.1, 7, .inl (sg f 7)))], shO E ag (upd z k_s9 b) (upd u k_s9 n9), shN E ag (clrS y k_s9 40)]) rfl (fun H locs hP hD hS => ?_)
                refine lv_iload S.1 S.2.1 dX4_sheet_94 (lv_at hl 0 rfl) ?_
                exact retI S hr hlk (by have e9 : rSheet s9 b n9 = .inr (fun _ => 0, n9) := (by unfold rSheet; rw [if_pos c_34, if_pos (Or.inr (Or.inr (Or.inl c_13))), if_neg (Int32.not_lt.mpr c_49), if_neg (Int32.not_lt.mpr c_62), if_neg c_72]); rw [e9, fndC_inr, pick_inr, pick_inr, pick_inr, ansR_inr, ek_s9, tN_nI (by omega)]; exact hP) hS (by have e9 : rSheet s9 b n9 = .inr (fun _ => 0, n9) := (by unfold rSheet; rw [if_pos c_34, if_pos (Or.inr (Or.inr (Or.inl c_13))), if_neg (Int32.not_lt.mpr c_49), if_neg (Int32.not_lt.mpr c_62), if_neg c_72]); rw [e9, ansR_inr]) dX4_sheet_96
              · refine lv_iconst (v := 0) S.1 S.2.1 dX4_sheet_75 (by decide) ?_
                refine lv_goto (tgt := 80) S.1 S.2.1 dX4_sheet_76 (by decide) ?_
                refine lv_istore (lv' := [(5, .int 0), (4, .int 1), (0, .ref (ag 0)), (1, .int s9), (2, .int b), (3, .int n9)]) S.1 S.2.1 dX4_sheet_80 hl (by decide) rfl (fun ls hl => ?_)
                refine lv_aload_n S.1 S.2.1 dX4_sheet_82 rfl (lv_at hl 2 rfl) ?_
                refine gf_X4_28 S hK hP 0 0 rfl rfl rfl dX4_sheet_83 ?_
                refine lv_iload_n S.1 S.2.1 dX4_sheet_86 rfl (lv_at hl 3 rfl) ?_
                refine lv_eqi (y := nI k_s9) ek_s9 ?_
                refine b_aaldN (i := k_s9) S hK hP 3 2 0 rfl rfl rfl (by omega) (by decide) (v := ag (5 + k_s9)) rfl dX4_sheet_87 ?_
                refine lv_iload_n S.1 S.2.1 dX4_sheet_88 rfl (lv_at hl 4 rfl) ?_
                refine lv_iload S.1 S.2.1 dX4_sheet_89 (lv_at hl 0 rfl) ?_
                refine go_Vcc (run_V (As := [.int b, .int 0]) (rest := []) (n := 2) S hK (cell2_P hP (b := 2) (j := (1 + k_s9)) (b2 := 3) (j2 := k_s9) rfl (sO_at (by omega)) rfl (sN_at (by omega))) (cell2_D hD (b := 2) (j := (1 + k_s9)) (b2 := 3) (j2 := k_s9) rfl (sO_at (by omega)) rfl (sN_at (by omega)) (by decide)) (c_X3_begin l E (ag (5 + k_s9)) (ag (9 + k_s9)) (seg y (40 * k_s9) 40) (z k_s9) (u k_s9) b 0) gV_X4_225 (by decide +kernel) rfl ⟨rfl, rfl⟩ ⟨Nat.le_of_ble_eq_true rfl, Nat.le_of_ble_eq_true rfl⟩ (ci := 3) (q0 := 0) rfl rfl hl.1 (Nat.le_of_ble_eq_true rfl) dX4_sheet_91 ⟨Nat.zero_le _, Nat.zero_le _⟩) hP hD hS (b := 2) (j := (1 + k_s9)) (b2 := 3) (j2 := k_s9) rfl (sO_at (by omega)) rfl (sN_at (by omega)) (by decide) (sO_set (by omega)) (sN_clr (by omega)) (Bs' := [[gObj ag ah az ak i0], [(ag 4, .inl (E.2.1, 7, .inl (sg f 7)))], shO E ag (upd z k_s9 b) (upd u k_s9 0), shN E ag (clrS y k_s9 40)]) rfl (fun H locs hP hD hS => ?_)
                refine lv_iload S.1 S.2.1 dX4_sheet_94 (lv_at hl 0 rfl) ?_
                exact retI S hr hlk (by have e9 : rSheet s9 b n9 = .inr (fun _ => 0, 0) := (by unfold rSheet; rw [if_pos c_34, if_pos (Or.inr (Or.inr (Or.inl c_13))), if_neg (Int32.not_lt.mpr c_49), if_neg (Int32.not_lt.mpr c_62), if_pos c_72]); rw [e9, fndC_inr, pick_inr, pick_inr, pick_inr, ansR_inr, ek_s9, tN_nI (by omega)]; exact hP) hS (by have e9 : rSheet s9 b n9 = .inr (fun _ => 0, 0) := (by unfold rSheet; rw [if_pos c_34, if_pos (Or.inr (Or.inr (Or.inl c_13))), if_neg (Int32.not_lt.mpr c_49), if_neg (Int32.not_lt.mpr c_62), if_pos c_72]); rw [e9, ansR_inr]) dX4_sheet_96
            · have n_62 := Int32.not_le.mp c_62
              refine lv_aload_n S.1 S.2.1 dX4_sheet_65 rfl (lv_at hl 1 rfl) ?_
              refine lv_iconst (v := 0) S.1 S.2.1 dX4_sheet_66 (by decide) ?_
              refine go_I (run_V (As := [.int 0]) (rest := []) (n := 1) S hK (bl_P hP [0, 1] rfl) (bl_D hD [0, 1] rfl rfl) (c_X4_finding l E ag ah az ak i0 f 0 (by decide)) gV_X4_48 (by decide +kernel) rfl ⟨rfl, rfl⟩ ⟨Nat.le_of_ble_eq_true rfl, Nat.le_of_ble_eq_true rfl⟩ (ci := 4) (q0 := 0) rfl rfl hl.1 (Nat.le_of_ble_eq_true rfl) dX4_sheet_67 ⟨Nat.zero_le _, Nat.zero_le _⟩) hP hD hS [0, 1] rfl (had_cons rfl (had_cons cell_ad rfl)) (Bs' := [[gObj ag ah az ak i0], [(ag 4, .inl (E.2.1, 7, .inl (sg (upd f 0 (f 0 + 1)) 7)))], shO E ag z u, shN E ag y]) rfl (fun H locs hP hD hS => ?_)
              obtain ⟨r_67_5, er_67_5⟩ : ∃ zz9 : Row, zz9 = upd f 0 (f 0 + 1) := ⟨_, rfl⟩
              rw [← er_67_5] at hP hD
              exact retI S hr hlk (by have e9 : rSheet s9 b n9 = .inl 0 := (by unfold rSheet; rw [if_pos c_34, if_pos (Or.inr (Or.inr (Or.inl c_13))), if_neg (Int32.not_lt.mpr c_49), if_pos (Int32.not_le.mp c_62)]); rw [er_67_5] at hP; rw [e9, fndC_inl, pick_inl, pick_inl, pick_inl]; exact hP) hS (by have e9 : rSheet s9 b n9 = .inl 0 := (by unfold rSheet; rw [if_pos c_34, if_pos (Or.inr (Or.inr (Or.inl c_13))), if_neg (Int32.not_lt.mpr c_49), if_pos (Int32.not_le.mp c_62)]); rw [e9]; decide) dX4_sheet_70
          · have n_49 := Int32.not_le.mp c_49
            refine lv_aload_n S.1 S.2.1 dX4_sheet_52 rfl (lv_at hl 1 rfl) ?_
            refine lv_bipush (v := 6) S.1 S.2.1 dX4_sheet_53 (by decide) ?_
            refine go_I (run_V (As := [.int 6]) (rest := []) (n := 1) S hK (bl_P hP [0, 1] rfl) (bl_D hD [0, 1] rfl rfl) (c_X4_finding l E ag ah az ak i0 f 6 (by decide)) gV_X4_48 (by decide +kernel) rfl ⟨rfl, rfl⟩ ⟨Nat.le_of_ble_eq_true rfl, Nat.le_of_ble_eq_true rfl⟩ (ci := 4) (q0 := 0) rfl rfl hl.1 (Nat.le_of_ble_eq_true rfl) dX4_sheet_55 ⟨Nat.zero_le _, Nat.zero_le _⟩) hP hD hS [0, 1] rfl (had_cons rfl (had_cons cell_ad rfl)) (Bs' := [[gObj ag ah az ak i0], [(ag 4, .inl (E.2.1, 7, .inl (sg (upd f 6 (f 6 + 1)) 7)))], shO E ag z u, shN E ag y]) rfl (fun H locs hP hD hS => ?_)
            obtain ⟨r_55_6, er_55_6⟩ : ∃ zz9 : Row, zz9 = upd f 6 (f 6 + 1) := ⟨_, rfl⟩
            rw [← er_55_6] at hP hD
            exact retI S hr hlk (by have e9 : rSheet s9 b n9 = .inl 6 := (by unfold rSheet; rw [if_pos c_34, if_pos (Or.inr (Or.inr (Or.inl c_13))), if_pos (Int32.not_le.mp c_49)]); rw [er_55_6] at hP; rw [e9, fndC_inl, pick_inl, pick_inl, pick_inl]; exact hP) hS (by have e9 : rSheet s9 b n9 = .inl 6 := (by unfold rSheet; rw [if_pos c_34, if_pos (Or.inr (Or.inr (Or.inl c_13))), if_pos (Int32.not_le.mp c_49)]); rw [e9]; decide) dX4_sheet_58
      · refine lv_iload_n S.1 S.2.1 dX4_sheet_16 rfl (lv_at hl 2 rfl) ?_
        refine lv_bipush (v := 32) S.1 S.2.1 dX4_sheet_17 (by decide) ?_
        refine lv_icmp_ne (tgt := 26) S.1 S.2.1 dX4_sheet_19 (by decide) (fun c_19 => ?_) (fun c_19 => ?_)
        · refine lv_iconst (v := 0) S.1 S.2.1 dX4_sheet_26 (by decide) ?_
          refine lv_istore (lv' := [(4, .int 0), (0, .ref (ag 0)), (1, .int s9), (2, .int b), (3, .int n9)]) S.1 S.2.1 dX4_sheet_27 hl (by decide) rfl (fun ls hl => ?_)
          refine lv_iload_n S.1 S.2.1 dX4_sheet_29 rfl (lv_at hl 2 rfl) ?_
          refine lv_iconst (v := 3) S.1 S.2.1 dX4_sheet_30 (by decide) ?_
          refine go_S (run_S (As := [.int s9, .int 3]) (rest := []) (n := 2) S hK (bl_P hP [] rfl) (bl_D hD [] rfl rfl) (c_X4_isWithin l E s9 3 ) gS_X4_44 (by decide +kernel) rfl ⟨rfl, rfl⟩ ⟨Nat.le_of_ble_eq_true rfl, Nat.le_of_ble_eq_true rfl⟩ hl.1 (Nat.le_of_ble_eq_true rfl) dX4_sheet_31 ⟨Nat.zero_le _, Nat.zero_le _⟩) ?_
          refine b_ifeq (tgt := 42) S.1 S.2.1 dX4_sheet_34 (by decide) (fun c_34 => ?_) (fun c_34 => ?_)
          · refine lv_aload_n S.1 S.2.1 dX4_sheet_42 rfl (lv_at hl 1 rfl) ?_
            refine lv_iconst (v := 0) S.1 S.2.1 dX4_sheet_43 (by decide) ?_
            refine go_I (run_V (As := [.int 0]) (rest := []) (n := 1) S hK (bl_P hP [0, 1] rfl) (bl_D hD [0, 1] rfl rfl) (c_X4_finding l E ag ah az ak i0 f 0 (by decide)) gV_X4_48 (by decide +kernel) rfl ⟨rfl, rfl⟩ ⟨Nat.le_of_ble_eq_true rfl, Nat.le_of_ble_eq_true rfl⟩ (ci := 4) (q0 := 0) rfl rfl hl.1 (Nat.le_of_ble_eq_true rfl) dX4_sheet_44 ⟨Nat.zero_le _, Nat.zero_le _⟩) hP hD hS [0, 1] rfl (had_cons rfl (had_cons cell_ad rfl)) (Bs' := [[gObj ag ah az ak i0], [(ag 4, .inl (E.2.1, 7, .inl (sg (upd f 0 (f 0 + 1)) 7)))], shO E ag z u, shN E ag y]) rfl (fun H locs hP hD hS => ?_)
            obtain ⟨r_44_7, er_44_7⟩ : ∃ zz9 : Row, zz9 = upd f 0 (f 0 + 1) := ⟨_, rfl⟩
            rw [← er_44_7] at hP hD
            exact retI S hr hlk (by have e9 : rSheet s9 b n9 = .inl 0 := (by unfold rSheet; rw [if_neg c_34]); rw [er_44_7] at hP; rw [e9, fndC_inl, pick_inl, pick_inl, pick_inl]; exact hP) hS (by have e9 : rSheet s9 b n9 = .inl 0 := (by unfold rSheet; rw [if_neg c_34]); rw [e9]; decide) dX4_sheet_47
          · obtain ⟨k_s9, hk_s9, ek_s9⟩ := nI_of2 (n := 3) (by decide) (Int32.not_lt.mpr c_34.1) c_34.2
            refine lv_iload S.1 S.2.1 dX4_sheet_37 (lv_at hl 0 rfl) ?_
            refine lv_if_ne (tgt := 48) S.1 S.2.1 dX4_sheet_39 (by decide) (fun h => absurd h (by decide)) (fun _ => ?_)
            refine lv_aload_n S.1 S.2.1 dX4_sheet_42 rfl (lv_at hl 1 rfl) ?_
            refine lv_iconst (v := 0) S.1 S.2.1 dX4_sheet_43 (by decide) ?_
            refine go_I (run_V (As := [.int 0]) (rest := []) (n := 1) S hK (bl_P hP [0, 1] rfl) (bl_D hD [0, 1] rfl rfl) (c_X4_finding l E ag ah az ak i0 f 0 (by decide)) gV_X4_48 (by decide +kernel) rfl ⟨rfl, rfl⟩ ⟨Nat.le_of_ble_eq_true rfl, Nat.le_of_ble_eq_true rfl⟩ (ci := 4) (q0 := 0) rfl rfl hl.1 (Nat.le_of_ble_eq_true rfl) dX4_sheet_44 ⟨Nat.zero_le _, Nat.zero_le _⟩) hP hD hS [0, 1] rfl (had_cons rfl (had_cons cell_ad rfl)) (Bs' := [[gObj ag ah az ak i0], [(ag 4, .inl (E.2.1, 7, .inl (sg (upd f 0 (f 0 + 1)) 7)))], shO E ag z u, shN E ag y]) rfl (fun H locs hP hD hS => ?_)
            obtain ⟨r_44_8, er_44_8⟩ : ∃ zz9 : Row, zz9 = upd f 0 (f 0 + 1) := ⟨_, rfl⟩
            rw [← er_44_8] at hP hD
            exact retI S hr hlk (by have e9 : rSheet s9 b n9 = .inl 0 := (by unfold rSheet; rw [if_pos c_34, if_neg (fun z9 => z9.elim c_1 (fun z9 => z9.elim c_7 (fun z9 => z9.elim c_13 c_19)))]); rw [er_44_8] at hP; rw [e9, fndC_inl, pick_inl, pick_inl, pick_inl]; exact hP) hS (by have e9 : rSheet s9 b n9 = .inl 0 := (by unfold rSheet; rw [if_pos c_34, if_neg (fun z9 => z9.elim c_1 (fun z9 => z9.elim c_7 (fun z9 => z9.elim c_13 c_19)))]); rw [e9]; decide) dX4_sheet_47
        · refine lv_iconst (v := 1) S.1 S.2.1 dX4_sheet_22 (by decide) ?_
          refine lv_goto (tgt := 27) S.1 S.2.1 dX4_sheet_23 (by decide) ?_
          refine lv_istore (lv' := [(4, .int 1), (0, .ref (ag 0)), (1, .int s9), (2, .int b), (3, .int n9)]) S.1 S.2.1 dX4_sheet_27 hl (by decide) rfl (fun ls hl => ?_)
          refine lv_iload_n S.1 S.2.1 dX4_sheet_29 rfl (lv_at hl 2 rfl) ?_
          refine lv_iconst (v := 3) S.1 S.2.1 dX4_sheet_30 (by decide) ?_
          refine go_S (run_S (As := [.int s9, .int 3]) (rest := []) (n := 2) S hK (bl_P hP [] rfl) (bl_D hD [] rfl rfl) (c_X4_isWithin l E s9 3 ) gS_X4_44 (by decide +kernel) rfl ⟨rfl, rfl⟩ ⟨Nat.le_of_ble_eq_true rfl, Nat.le_of_ble_eq_true rfl⟩ hl.1 (Nat.le_of_ble_eq_true rfl) dX4_sheet_31 ⟨Nat.zero_le _, Nat.zero_le _⟩) ?_
          refine b_ifeq (tgt := 42) S.1 S.2.1 dX4_sheet_34 (by decide) (fun c_34 => ?_) (fun c_34 => ?_)
          · refine lv_aload_n S.1 S.2.1 dX4_sheet_42 rfl (lv_at hl 1 rfl) ?_
            refine lv_iconst (v := 0) S.1 S.2.1 dX4_sheet_43 (by decide) ?_
            refine go_I (run_V (As := [.int 0]) (rest := []) (n := 1) S hK (bl_P hP [0, 1] rfl) (bl_D hD [0, 1] rfl rfl) (c_X4_finding l E ag ah az ak i0 f 0 (by decide)) gV_X4_48 (by decide +kernel) rfl ⟨rfl, rfl⟩ ⟨Nat.le_of_ble_eq_true rfl, Nat.le_of_ble_eq_true rfl⟩ (ci := 4) (q0 := 0) rfl rfl hl.1 (Nat.le_of_ble_eq_true rfl) dX4_sheet_44 ⟨Nat.zero_le _, Nat.zero_le _⟩) hP hD hS [0, 1] rfl (had_cons rfl (had_cons cell_ad rfl)) (Bs' := [[gObj ag ah az ak i0], [(ag 4, .inl (E.2.1, 7, .inl (sg (upd f 0 (f 0 + 1)) 7)))], shO E ag z u, shN E ag y]) rfl (fun H locs hP hD hS => ?_)
            obtain ⟨r_44_9, er_44_9⟩ : ∃ zz9 : Row, zz9 = upd f 0 (f 0 + 1) := ⟨_, rfl⟩
            rw [← er_44_9] at hP hD
            exact retI S hr hlk (by have e9 : rSheet s9 b n9 = .inl 0 := (by unfold rSheet; rw [if_neg c_34]); rw [er_44_9] at hP; rw [e9, fndC_inl, pick_inl, pick_inl, pick_inl]; exact hP) hS (by have e9 : rSheet s9 b n9 = .inl 0 := (by unfold rSheet; rw [if_neg c_34]); rw [e9]; decide) dX4_sheet_47
          · obtain ⟨k_s9, hk_s9, ek_s9⟩ := nI_of2 (n := 3) (by decide) (Int32.not_lt.mpr c_34.1) c_34.2
            refine lv_iload S.1 S.2.1 dX4_sheet_37 (lv_at hl 0 rfl) ?_
            refine lv_if_ne (tgt := 48) S.1 S.2.1 dX4_sheet_39 (by decide) (fun _ => ?_) (fun h => absurd h (by decide))
            refine lv_iload_n S.1 S.2.1 dX4_sheet_48 rfl (lv_at hl 4 rfl) ?_
            refine lv_if_ge (tgt := 59) S.1 S.2.1 dX4_sheet_49 (by decide) (fun c_49 => ?_) (fun c_49 => ?_)
            · have n_49 := Int32.not_lt.mpr c_49
              refine lv_iload_n S.1 S.2.1 dX4_sheet_59 rfl (lv_at hl 4 rfl) ?_
              refine lv_bipush (v := 40) S.1 S.2.1 dX4_sheet_60 (by decide) ?_
              refine lv_icmp_le (tgt := 71) S.1 S.2.1 dX4_sheet_62 (by decide) (fun c_62 => ?_) (fun c_62 => ?_)
              · have n_62 := Int32.not_lt.mpr c_62
                refine lv_iload_n S.1 S.2.1 dX4_sheet_71 rfl (lv_at hl 3 rfl) ?_
                refine lv_if_ne (tgt := 79) S.1 S.2.1 dX4_sheet_72 (by decide) (fun c_72 => ?_) (fun c_72 => ?_)
                · refine lv_iload_n S.1 S.2.1 dX4_sheet_79 rfl (lv_at hl 4 rfl) ?_
                  refine lv_istore (lv' := [(5, .int n9), (4, .int 1), (0, .ref (ag 0)), (1, .int s9), (2, .int b), (3, .int n9)]) S.1 S.2.1 dX4_sheet_80 hl (by decide) rfl (fun ls hl => ?_)
                  refine lv_aload_n S.1 S.2.1 dX4_sheet_82 rfl (lv_at hl 2 rfl) ?_
                  refine gf_X4_28 S hK hP 0 0 rfl rfl rfl dX4_sheet_83 ?_
                  refine lv_iload_n S.1 S.2.1 dX4_sheet_86 rfl (lv_at hl 3 rfl) ?_
                  refine lv_eqi (y := nI k_s9) ek_s9 ?_
                  refine b_aaldN (i := k_s9) S hK hP 3 2 0 rfl rfl rfl (by omega) (by decide) (v := ag (5 + k_s9)) rfl dX4_sheet_87 ?_
                  refine lv_iload_n S.1 S.2.1 dX4_sheet_88 rfl (lv_at hl 4 rfl) ?_
                  refine lv_iload S.1 S.2.1 dX4_sheet_89 (lv_at hl 0 rfl) ?_
                  refine go_Vcc (run_V (As := [.int b, .int n9]) (rest := []) (n := 2) S hK (cell2_P hP (b := 2) (j := (1 + k_s9)) (b2 := 3) (j2 := k_s9) rfl (sO_at (by omega)) rfl (sN_at (by omega))) (cell2_D hD (b := 2) (j := (1 + k_s9)) (b2 := 3) (j2 := k_s9) rfl (sO_at (by omega)) rfl (sN_at (by omega)) (by decide)) (c_X3_begin l E (ag (5 + k_s9)) (ag (9 + k_s9)) (seg y (40 * k_s9) 40) (z k_s9) (u k_s9) b n9) gV_X4_225 (by decide +kernel) rfl ⟨rfl, rfl⟩ ⟨Nat.le_of_ble_eq_true rfl, Nat.le_of_ble_eq_true rfl⟩ (ci := 3) (q0 := 0) rfl rfl hl.1 (Nat.le_of_ble_eq_true rfl) dX4_sheet_91 ⟨Nat.zero_le _, Nat.zero_le _⟩) hP hD hS (b := 2) (j := (1 + k_s9)) (b2 := 3) (j2 := k_s9) rfl (sO_at (by omega)) rfl (sN_at (by omega)) (by decide) (sO_set (by omega)) (sN_clr (by omega)) (Bs' := [[gObj ag ah az ak i0], [(ag 4, .inl (E.2.1, 7, .inl (sg f 7)))], shO E ag (upd z k_s9 b) (upd u k_s9 n9), shN E ag (clrS y k_s9 40)]) rfl (fun H locs hP hD hS => ?_)
                  refine lv_iload S.1 S.2.1 dX4_sheet_94 (lv_at hl 0 rfl) ?_
                  exact retI S hr hlk (by have e9 : rSheet s9 b n9 = .inr (fun _ => 0, n9) := (by unfold rSheet; rw [if_pos c_34, if_pos (Or.inr (Or.inr (Or.inr c_19))), if_neg (Int32.not_lt.mpr c_49), if_neg (Int32.not_lt.mpr c_62), if_neg c_72]); rw [e9, fndC_inr, pick_inr, pick_inr, pick_inr, ansR_inr, ek_s9, tN_nI (by omega)]; exact hP) hS (by have e9 : rSheet s9 b n9 = .inr (fun _ => 0, n9) := (by unfold rSheet; rw [if_pos c_34, if_pos (Or.inr (Or.inr (Or.inr c_19))), if_neg (Int32.not_lt.mpr c_49), if_neg (Int32.not_lt.mpr c_62), if_neg c_72]); rw [e9, ansR_inr]) dX4_sheet_96
                · refine lv_iconst (v := 0) S.1 S.2.1 dX4_sheet_75 (by decide) ?_
                  refine lv_goto (tgt := 80) S.1 S.2.1 dX4_sheet_76 (by decide) ?_
                  refine lv_istore (lv' := [(5, .int 0), (4, .int 1), (0, .ref (ag 0)), (1, .int s9), (2, .int b), (3, .int n9)]) S.1 S.2.1 dX4_sheet_80 hl (by decide) rfl (fun ls hl => ?_)
                  refine lv_aload_n S.1 S.2.1 dX4_sheet_82 rfl (lv_at hl 2 rfl) ?_
                  refine gf_X4_28 S hK hP 0 0 rfl rfl rfl dX4_sheet_83 ?_
                  refine lv_iload_n S.1 S.2.1 dX4_sheet_86 rfl (lv_at hl 3 rfl) ?_
                  refine lv_eqi (y := nI k_s9) ek_s9 ?_
                  refine b_aaldN (i := k_s9) S hK hP 3 2 0 rfl rfl rfl (by omega) (by decide) (v := ag (5 + k_s9)) rfl dX4_sheet_87 ?_
                  refine lv_iload_n S.1 S.2.1 dX4_sheet_88 rfl (lv_at hl 4 rfl) ?_
                  refine lv_iload S.1 S.2.1 dX4_sheet_89 (lv_at hl 0 rfl) ?_
                  refine go_Vcc (run_V (As := [.int b, .int 0]) (rest := []) (n := 2) S hK (cell2_P hP (b := 2) (j := (1 + k_s9)) (b2 := 3) (j2 := k_s9) rfl (sO_at (by omega)) rfl (sN_at (by omega))) (cell2_D hD (b := 2) (j := (1 + k_s9)) (b2 := 3) (j2 := k_s9) rfl (sO_at (by omega)) rfl (sN_at (by omega)) (by decide)) (c_X3_begin l E (ag (5 + k_s9)) (ag (9 + k_s9)) (seg y (40 * k_s9) 40) (z k_s9) (u k_s9) b 0) gV_X4_225 (by decide +kernel) rfl ⟨rfl, rfl⟩ ⟨Nat.le_of_ble_eq_true rfl, Nat.le_of_ble_eq_true rfl⟩ (ci := 3) (q0 := 0) rfl rfl hl.1 (Nat.le_of_ble_eq_true rfl) dX4_sheet_91 ⟨Nat.zero_le _, Nat.zero_le _⟩) hP hD hS (b := 2) (j := (1 + k_s9)) (b2 := 3) (j2 := k_s9) rfl (sO_at (by omega)) rfl (sN_at (by omega)) (by decide) (sO_set (by omega)) (sN_clr (by omega)) (Bs' := [[gObj ag ah az ak i0], [(ag 4, .inl (E.2.1, 7, .inl (sg f 7)))], shO E ag (upd z k_s9 b) (upd u k_s9 0), shN E ag (clrS y k_s9 40)]) rfl (fun H locs hP hD hS => ?_)
                  refine lv_iload S.1 S.2.1 dX4_sheet_94 (lv_at hl 0 rfl) ?_
                  exact retI S hr hlk (by have e9 : rSheet s9 b n9 = .inr (fun _ => 0, 0) := (by unfold rSheet; rw [if_pos c_34, if_pos (Or.inr (Or.inr (Or.inr c_19))), if_neg (Int32.not_lt.mpr c_49), if_neg (Int32.not_lt.mpr c_62), if_pos c_72]); rw [e9, fndC_inr, pick_inr, pick_inr, pick_inr, ansR_inr, ek_s9, tN_nI (by omega)]; exact hP) hS (by have e9 : rSheet s9 b n9 = .inr (fun _ => 0, 0) := (by unfold rSheet; rw [if_pos c_34, if_pos (Or.inr (Or.inr (Or.inr c_19))), if_neg (Int32.not_lt.mpr c_49), if_neg (Int32.not_lt.mpr c_62), if_pos c_72]); rw [e9, ansR_inr]) dX4_sheet_96
              · have n_62 := Int32.not_le.mp c_62
                refine lv_aload_n S.1 S.2.1 dX4_sheet_65 rfl (lv_at hl 1 rfl) ?_
                refine lv_iconst (v := 0) S.1 S.2.1 dX4_sheet_66 (by decide) ?_
                refine go_I (run_V (As := [.int 0]) (rest := []) (n := 1) S hK (bl_P hP [0, 1] rfl) (bl_D hD [0, 1] rfl rfl) (c_X4_finding l E ag ah az ak i0 f 0 (by decide)) gV_X4_48 (by decide +kernel) rfl ⟨rfl, rfl⟩ ⟨Nat.le_of_ble_eq_true rfl, Nat.le_of_ble_eq_true rfl⟩ (ci := 4) (q0 := 0) rfl rfl hl.1 (Nat.le_of_ble_eq_true rfl) dX4_sheet_67 ⟨Nat.zero_le _, Nat.zero_le _⟩) hP hD hS [0, 1] rfl (had_cons rfl (had_cons cell_ad rfl)) (Bs' := [[gObj ag ah az ak i0], [(ag 4, .inl (E.2.1, 7, .inl (sg (upd f 0 (f 0 + 1)) 7)))], shO E ag z u, shN E ag y]) rfl (fun H locs hP hD hS => ?_)
                obtain ⟨r_67_10, er_67_10⟩ : ∃ zz9 : Row, zz9 = upd f 0 (f 0 + 1) := ⟨_, rfl⟩
                rw [← er_67_10] at hP hD
                exact retI S hr hlk (by have e9 : rSheet s9 b n9 = .inl 0 := (by unfold rSheet; rw [if_pos c_34, if_pos (Or.inr (Or.inr (Or.inr c_19))), if_neg (Int32.not_lt.mpr c_49), if_pos (Int32.not_le.mp c_62)]); rw [er_67_10] at hP; rw [e9, fndC_inl, pick_inl, pick_inl, pick_inl]; exact hP) hS (by have e9 : rSheet s9 b n9 = .inl 0 := (by unfold rSheet; rw [if_pos c_34, if_pos (Or.inr (Or.inr (Or.inr c_19))), if_neg (Int32.not_lt.mpr c_49), if_pos (Int32.not_le.mp c_62)]); rw [e9]; decide) dX4_sheet_70
            · have n_49 := Int32.not_le.mp c_49
              refine lv_aload_n S.1 S.2.1 dX4_sheet_52 rfl (lv_at hl 1 rfl) ?_
              refine lv_bipush (v := 6) S.1 S.2.1 dX4_sheet_53 (by decide) ?_
              refine go_I (run_V (As := [.int 6]) (rest := []) (n := 1) S hK (bl_P hP [0, 1] rfl) (bl_D hD [0, 1] rfl rfl) (c_X4_finding l E ag ah az ak i0 f 6 (by decide)) gV_X4_48 (by decide +kernel) rfl ⟨rfl, rfl⟩ ⟨Nat.le_of_ble_eq_true rfl, Nat.le_of_ble_eq_true rfl⟩ (ci := 4) (q0 := 0) rfl rfl hl.1 (Nat.le_of_ble_eq_true rfl) dX4_sheet_55 ⟨Nat.zero_le _, Nat.zero_le _⟩) hP hD hS [0, 1] rfl (had_cons rfl (had_cons cell_ad rfl)) (Bs' := [[gObj ag ah az ak i0], [(ag 4, .inl (E.2.1, 7, .inl (sg (upd f 6 (f 6 + 1)) 7)))], shO E ag z u, shN E ag y]) rfl (fun H locs hP hD hS => ?_)
              obtain ⟨r_55_11, er_55_11⟩ : ∃ zz9 : Row, zz9 = upd f 6 (f 6 + 1) := ⟨_, rfl⟩
              rw [← er_55_11] at hP hD
              exact retI S hr hlk (by have e9 : rSheet s9 b n9 = .inl 6 := (by unfold rSheet; rw [if_pos c_34, if_pos (Or.inr (Or.inr (Or.inr c_19))), if_pos (Int32.not_le.mp c_49)]); rw [er_55_11] at hP; rw [e9, fndC_inl, pick_inl, pick_inl, pick_inl]; exact hP) hS (by have e9 : rSheet s9 b n9 = .inl 6 := (by unfold rSheet; rw [if_pos c_34, if_pos (Or.inr (Or.inr (Or.inr c_19))), if_pos (Int32.not_le.mp c_49)]); rw [e9]; decide) dX4_sheet_58
set_option maxHeartbeats 800000 in
set_option maxRecDepth 100000 in
theorem c_X4_write (l : Launch) (E : EV) (ag ah az ak : Nat → Nat) (i0 : Int32) (f z u y : Row) (s9 i9 v : Int32) (hU : ∀ j, j < 4 → le9 (u j) 40) : Met l yX4_write (wq yX4_write cX4_write 5 (some .int)) ({ frames := 2, cells := 0, slots := 0, locals := 42 }) (preB E [.ref (ag 0), .int s9, .int i9, .int v] [[gObj ag ah az ak i0], [(ag 4, .inl (E.2.1, 7, .inl (sg f 7)))], shO E ag z u, shN E ag y]) (qI E [[gObj ag ah az ak i0], [(ag 4, .inl (E.2.1, 7, .inl (sg f 7)))], shO E ag z u, shN E ag y] [[gObj ag ah az ak i0], [(ag 4, .inl (E.2.1, 7, .inl (sg (fndC f (rWrite y z u s9 i9 v)) 7)))], shO E ag z u, shN E ag (rowR y (rWrite y z u s9 i9 v))] (ansR (rWrite y z u s9 i9 v))) 0 0 (inB [[gObj ag ah az ak i0], [(ag 4, .inl (E.2.1, 7, .inl (sg f 7)))], shO E ag z u, shN E ag y]) := by
  refine M_mk RX4 (by decide) rfl (Nat.le_of_ble_eq_true rfl) ?_
  intro p e s m below meth c S hr hlk hK hP hD hS ls hl
  have hl : lv_has ls 5 [(0, .ref (ag 0)), (1, .int s9), (2, .int i9), (3, .int v)] := hl
  obtain ⟨H, hH⟩ : ∃ zz9, zz9 = s.heap := ⟨_, rfl⟩
  obtain ⟨locs, hlocs⟩ : ∃ zz9 : List Loc, zz9 = [] := ⟨_, rfl⟩
  have hP : PE E [[gObj ag ah az ak i0], [(ag 4, .inl (E.2.1, 7, .inl (sg f 7)))], shO E ag z u, shN E ag y] H := by rw [hH]; exact hP
  have hS : va_S (inB [[gObj ag ah az ak i0], [(ag 4, .inl (E.2.1, 7, .inl (sg f 7)))], shO E ag z u, shN E ag y]) s.heap H locs := by rw [hH, hlocs]; exact hS
  show W p l e ({ frames := 2, cells := 0, slots := 0, locals := 42 }) s m ([.ref (ag 0), .int s9, .int i9, .int v] : List Value).toArray below meth c s.heap [] 0 0 _ _
  suffices hgo : W p l e ({ frames := 2, cells := 0, slots := 0, locals := 42 }) s m ([.ref (ag 0), .int s9, .int i9, .int v] : List Value).toArray below meth c H locs 0 0 (MQ below (qI E [[gObj ag ah az ak i0], [(ag 4, .inl (E.2.1, 7, .inl (sg f 7)))], shO E ag z u, shN E ag y] [[gObj ag ah az ak i0], [(ag 4, .inl (E.2.1, 7, .inl (sg (fndC f (rWrite y z u s9 i9 v)) 7)))], shO E ag z u, shN E ag (rowR y (rWrite y z u s9 i9 v))] (ansR (rWrite y z u s9 i9 v))) ([.ref (ag 0), .int s9, .int i9, .int v] : List Value).toArray s 0 0 (inB [[gObj ag ah az ak i0], [(ag 4, .inl (E.2.1, 7, .inl (sg f 7)))], shO E ag z u, shN E ag y])) (F0 m 0 ls []) by rw [hH, hlocs] at hgo; exact hgo
  clear hH hlocs
  refine lv_aload_n S.1 S.2.1 dX4_write_0 rfl (lv_at hl 0 rfl) ?_
  refine lv_iload_n S.1 S.2.1 dX4_write_1 rfl (lv_at hl 1 rfl) ?_
  refine go_S (run_V (As := [.int s9]) (rest := []) (n := 1) S hK (bl_P hP [0, 2] rfl) (bl_D hD [0, 2] rfl rfl) (c_X4_sheetFault l E ag ah az ak i0 z u s9 ) gV_X4_182 (by decide +kernel) rfl ⟨rfl, rfl⟩ ⟨Nat.le_of_ble_eq_true rfl, Nat.le_of_ble_eq_true rfl⟩ (ci := 4) (q0 := 0) rfl rfl hl.1 (Nat.le_of_ble_eq_true rfl) dX4_write_2 ⟨Nat.zero_le _, Nat.zero_le _⟩) ?_
  refine lv_istore (lv' := [(4, .int (fltV z s9 True)), (0, .ref (ag 0)), (1, .int s9), (2, .int i9), (3, .int v)]) S.1 S.2.1 dX4_write_5 hl (by decide) rfl (fun ls hl => ?_)
  refine lv_iload S.1 S.2.1 dX4_write_7 (lv_at hl 0 rfl) ?_
  refine lv_iconst (v := (-1)) S.1 S.2.1 dX4_write_9 (by decide) ?_
  refine lv_icmp_eq (tgt := 20) S.1 S.2.1 dX4_write_10 (by decide) (fun c_10 => ?_) (fun c_10 => ?_)
  · have hc9 := flt_ok c_10
    obtain ⟨k_s9, hk_s9, ek_s9, hz_s9, hG9⟩ := lack_ok hc9
    obtain ⟨len, hlen, elen⟩ := hU k_s9 (by omega)
    refine lv_iload_n S.1 S.2.1 dX4_write_20 rfl (lv_at hl 3 rfl) ?_
    refine lv_if_lt (tgt := 37) S.1 S.2.1 dX4_write_21 (by decide) (fun c_21 => ?_) (fun c_21 => ?_)
    · have n_21 := Int32.not_le.mpr c_21
      refine lv_aload_n S.1 S.2.1 dX4_write_37 rfl (lv_at hl 1 rfl) ?_
      refine lv_iconst (v := 0) S.1 S.2.1 dX4_write_38 (by decide) ?_
      refine go_I (run_V (As := [.int 0]) (rest := []) (n := 1) S hK (bl_P hP [0, 1] rfl) (bl_D hD [0, 1] rfl rfl) (c_X4_finding l E ag ah az ak i0 f 0 (by decide)) gV_X4_48 (by decide +kernel) rfl ⟨rfl, rfl⟩ ⟨Nat.le_of_ble_eq_true rfl, Nat.le_of_ble_eq_true rfl⟩ (ci := 4) (q0 := 0) rfl rfl hl.1 (Nat.le_of_ble_eq_true rfl) dX4_write_39 ⟨Nat.zero_le _, Nat.zero_le _⟩) hP hD hS [0, 1] rfl (had_cons rfl (had_cons cell_ad rfl)) (Bs' := [[gObj ag ah az ak i0], [(ag 4, .inl (E.2.1, 7, .inl (sg (upd f 0 (f 0 + 1)) 7)))], shO E ag z u, shN E ag y]) rfl (fun H locs hP hD hS => ?_)
      obtain ⟨r_39, er_39⟩ : ∃ zz9 : Row, zz9 = upd f 0 (f 0 + 1) := ⟨_, rfl⟩
      rw [← er_39] at hP hD
      exact retI S hr hlk (by have e9 : rWrite y z u s9 i9 v = .inl 0 := (by unfold rWrite; rw [if_pos (in_03 hk_s9 ek_s9), ek_s9, tN_nI (by omega), if_neg hz_s9, if_neg (fun z9 => Int32.not_le.mpr c_21 z9.1)]); rw [er_39] at hP; rw [e9, fndC_inl, rowR_inl]; exact hP) hS (by have e9 : rWrite y z u s9 i9 v = .inl 0 := (by unfold rWrite; rw [if_pos (in_03 hk_s9 ek_s9), ek_s9, tN_nI (by omega), if_neg hz_s9, if_neg (fun z9 => Int32.not_le.mpr c_21 z9.1)]); rw [e9]; decide) dX4_write_42
    · have n_21 := Int32.not_lt.mp c_21
      refine lv_iload_n S.1 S.2.1 dX4_write_24 rfl (lv_at hl 3 rfl) ?_
      refine lv_aload_n S.1 S.2.1 dX4_write_25 rfl (lv_at hl 1 rfl) ?_
      refine gf_X4_28 S hK hP 0 0 rfl rfl rfl dX4_write_26 ?_
      refine lv_iload_n S.1 S.2.1 dX4_write_29 rfl (lv_at hl 2 rfl) ?_
      refine lv_eqi (y := nI k_s9) ek_s9 ?_
      refine b_aaldN (i := k_s9) S hK hP 3 2 0 rfl rfl rfl (by omega) (by decide) (v := ag (5 + k_s9)) rfl dX4_write_30 ?_
      refine gf_X4_185 S hK hP 2 (1 + k_s9) rfl (sO_at (by omega)) rfl dX4_write_31 ?_
      refine lv_eqi (y := nI len) elen ?_
      refine lv_icmp_lt (tgt := 43) S.1 S.2.1 dX4_write_34 (by decide) (fun c_34 => ?_) (fun c_34 => ?_)
      · have n_34 := Int32.not_le.mpr c_34
        obtain ⟨k_i9, hk_i9, ek_i9⟩ : ∃ k : Nat, k < len ∧ i9 = nI k := wr_nat c_21 c_34 hlen
        refine lv_aload_n S.1 S.2.1 dX4_write_43 rfl (lv_at hl 1 rfl) ?_
        refine gf_X4_28 S hK hP 0 0 rfl rfl rfl dX4_write_44 ?_
        refine lv_iload_n S.1 S.2.1 dX4_write_47 rfl (lv_at hl 2 rfl) ?_
        refine lv_eqi (y := nI k_s9) ek_s9 ?_
        refine b_aaldN (i := k_s9) S hK hP 3 2 0 rfl rfl rfl (by omega) (by decide) (v := ag (5 + k_s9)) rfl dX4_write_48 ?_
        refine lv_iload_n S.1 S.2.1 dX4_write_49 rfl (lv_at hl 3 rfl) ?_
        refine lv_eqi (y := nI k_i9) ek_i9 ?_
        refine lv_iload_n S.1 S.2.1 dX4_write_50 rfl (lv_at hl 4 rfl) ?_
        refine go_Vc2 (run_V (As := [.int (nI k_i9), .int v]) (rest := []) (n := 2) S hK (cell2_P hP (b := 3) (j := k_s9) (b2 := 2) (j2 := (1 + k_s9)) rfl (sN_at (by omega)) rfl (sO_at (by omega))) (cell2_D hD (b := 3) (j := k_s9) (b2 := 2) (j2 := (1 + k_s9)) rfl (sN_at (by omega)) rfl (sO_at (by omega)) (by decide)) (c_X3_put l E (ag (5 + k_s9)) (ag (9 + k_s9)) (seg y (40 * k_s9) 40) (z k_s9) (u k_s9) v k_i9 (by omega)) gV_X4_228 (by decide +kernel) rfl ⟨rfl, rfl⟩ ⟨Nat.le_of_ble_eq_true rfl, Nat.le_of_ble_eq_true rfl⟩ (ci := 3) (q0 := 1) rfl rfl hl.1 (Nat.le_of_ble_eq_true rfl) dX4_write_51 ⟨Nat.zero_le _, Nat.zero_le _⟩) hP hD hS (b := 3) (j := k_s9) (b2 := 2) (j2 := (1 + k_s9)) rfl (sN_at (by omega)) rfl (sO_at (by omega)) (sN_w (by omega) (by omega)) (Bs' := [[gObj ag ah az ak i0], [(ag 4, .inl (E.2.1, 7, .inl (sg f 7)))], shO E ag z u, shN E ag (upd y (40 * k_s9 + k_i9) (cutV v (z k_s9)))]) rfl (fun H locs hP hD hS => ?_)
        refine lv_iconst (v := 1) S.1 S.2.1 dX4_write_54 (by decide) ?_
        exact retI S hr hlk (by have e9 : rWrite y z u s9 i9 v = .inr (upd y (40 * k_s9 + k_i9) (cutV v (z k_s9)), 1) := (by unfold rWrite; rw [if_pos (in_03 hk_s9 ek_s9), ek_s9, tN_nI (by omega), if_neg hz_s9, if_pos ⟨Int32.not_lt.mp c_21, by rw [elen]; exact c_34⟩, ek_i9, tN_nI (by omega)]); rw [e9, fndC_inr, rowR_inr]; exact hP) hS (by have e9 : rWrite y z u s9 i9 v = .inr (upd y (40 * k_s9 + k_i9) (cutV v (z k_s9)), 1) := (by unfold rWrite; rw [if_pos (in_03 hk_s9 ek_s9), ek_s9, tN_nI (by omega), if_neg hz_s9, if_pos ⟨Int32.not_lt.mp c_21, by rw [elen]; exact c_34⟩, ek_i9, tN_nI (by omega)]); rw [e9, ansR_inr]) dX4_write_55
      · have n_34 := Int32.not_lt.mp c_34
        refine lv_aload_n S.1 S.2.1 dX4_write_37 rfl (lv_at hl 1 rfl) ?_
        refine lv_iconst (v := 0) S.1 S.2.1 dX4_write_38 (by decide) ?_
        refine go_I (run_V (As := [.int 0]) (rest := []) (n := 1) S hK (bl_P hP [0, 1] rfl) (bl_D hD [0, 1] rfl rfl) (c_X4_finding l E ag ah az ak i0 f 0 (by decide)) gV_X4_48 (by decide +kernel) rfl ⟨rfl, rfl⟩ ⟨Nat.le_of_ble_eq_true rfl, Nat.le_of_ble_eq_true rfl⟩ (ci := 4) (q0 := 0) rfl rfl hl.1 (Nat.le_of_ble_eq_true rfl) dX4_write_39 ⟨Nat.zero_le _, Nat.zero_le _⟩) hP hD hS [0, 1] rfl (had_cons rfl (had_cons cell_ad rfl)) (Bs' := [[gObj ag ah az ak i0], [(ag 4, .inl (E.2.1, 7, .inl (sg (upd f 0 (f 0 + 1)) 7)))], shO E ag z u, shN E ag y]) rfl (fun H locs hP hD hS => ?_)
        obtain ⟨r_39_1, er_39_1⟩ : ∃ zz9 : Row, zz9 = upd f 0 (f 0 + 1) := ⟨_, rfl⟩
        rw [← er_39_1] at hP hD
        exact retI S hr hlk (by have e9 : rWrite y z u s9 i9 v = .inl 0 := (by unfold rWrite; rw [if_pos (in_03 hk_s9 ek_s9), ek_s9, tN_nI (by omega), if_neg hz_s9, if_neg (fun z9 => c_34 (by rw [← elen]; exact z9.2))]); rw [er_39_1] at hP; rw [e9, fndC_inl, rowR_inl]; exact hP) hS (by have e9 : rWrite y z u s9 i9 v = .inl 0 := (by unfold rWrite; rw [if_pos (in_03 hk_s9 ek_s9), ek_s9, tN_nI (by omega), if_neg hz_s9, if_neg (fun z9 => c_34 (by rw [← elen]; exact z9.2))]); rw [e9]; decide) dX4_write_42
  · refine lv_aload_n S.1 S.2.1 dX4_write_13 rfl (lv_at hl 1 rfl) ?_
    refine lv_iload S.1 S.2.1 dX4_write_14 (lv_at hl 0 rfl) ?_
    refine lv_eqi (y := nI (lackK z s9 True)) (flt_eq c_10) ?_
    refine go_I (run_V (As := [.int (nI (lackK z s9 True))]) (rest := []) (n := 1) S hK (bl_P hP [0, 1] rfl) (bl_D hD [0, 1] rfl rfl) (c_X4_finding l E ag ah az ak i0 f (lackK z s9 True) lackK_lt) gV_X4_48 (by decide +kernel) rfl ⟨rfl, rfl⟩ ⟨Nat.le_of_ble_eq_true rfl, Nat.le_of_ble_eq_true rfl⟩ (ci := 4) (q0 := 0) rfl rfl hl.1 (Nat.le_of_ble_eq_true rfl) dX4_write_16 ⟨Nat.zero_le _, Nat.zero_le _⟩) hP hD hS [0, 1] rfl (had_cons rfl (had_cons cell_ad rfl)) (Bs' := [[gObj ag ah az ak i0], [(ag 4, .inl (E.2.1, 7, .inl (sg (upd f (lackK z s9 True) (f (lackK z s9 True) + 1)) 7)))], shO E ag z u, shN E ag y]) rfl (fun H locs hP hD hS => ?_)
    obtain ⟨r_16, er_16⟩ : ∃ zz9 : Row, zz9 = upd f (lackK z s9 True) (f (lackK z s9 True) + 1) := ⟨_, rfl⟩
    rw [← er_16] at hP hD
    exact retI S hr hlk (by have e9 : rWrite y z u s9 i9 v = .inl (lackK z s9 True) := wr_bad c_10; rw [er_16] at hP; rw [e9, fndC_inl, rowR_inl]; exact hP) hS (by have e9 : rWrite y z u s9 i9 v = .inl (lackK z s9 True) := wr_bad c_10; rw [e9]; rfl) dX4_write_19
set_option maxHeartbeats 800000 in
set_option maxRecDepth 100000 in
theorem c_X4_copy (l : Launch) (E : EV) (ag ah az ak : Nat → Nat) (i0 : Int32) (f z u y : Row) (s9 f9 t9 o9 n9 : Int32) (hU : ∀ j, j < 4 → le9 (u j) 40) : Met l yX4_copy (wq yX4_copy cX4_copy 8 (some .int)) ({ frames := 1, cells := 0, slots := 0, locals := 64 }) (preB E [.ref (ag 0), .int s9, .int f9, .int t9, .int o9, .int n9] [[gObj ag ah az ak i0], [(ag 4, .inl (E.2.1, 7, .inl (sg f 7)))], shO E ag z u, shN E ag y]) (qI E [[gObj ag ah az ak i0], [(ag 4, .inl (E.2.1, 7, .inl (sg f 7)))], shO E ag z u, shN E ag y] [[gObj ag ah az ak i0], [(ag 4, .inl (E.2.1, 7, .inl (sg (fndC f (rCopy z u s9 f9 t9 o9 n9)) 7)))], shO E ag z u, shN E ag (pick (rCopy z u s9 f9 t9 o9 n9) y (cpS y (40 * tN s9 + tN f9) (40 * tN t9 + tN o9) (tN n9)))] (ansR (rCopy z u s9 f9 t9 o9 n9))) 0 0 (inB [[gObj ag ah az ak i0], [(ag 4, .inl (E.2.1, 7, .inl (sg f 7)))], shO E ag z u, shN E ag y]) := by
  refine M_mk RX4 (by decide) rfl (Nat.le_of_ble_eq_true rfl) ?_
  intro p e s m below meth c S hr hlk hK hP hD hS ls hl
  have hl : lv_has ls 8 [(0, .ref (ag 0)), (1, .int s9), (2, .int f9), (3, .int t9), (4, .int o9), (5, .int n9)] := hl
  obtain ⟨H, hH⟩ : ∃ zz9, zz9 = s.heap := ⟨_, rfl⟩
  obtain ⟨locs, hlocs⟩ : ∃ zz9 : List Loc, zz9 = [] := ⟨_, rfl⟩
  have hP : PE E [[gObj ag ah az ak i0], [(ag 4, .inl (E.2.1, 7, .inl (sg f 7)))], shO E ag z u, shN E ag y] H := by rw [hH]; exact hP
  have hS : va_S (inB [[gObj ag ah az ak i0], [(ag 4, .inl (E.2.1, 7, .inl (sg f 7)))], shO E ag z u, shN E ag y]) s.heap H locs := by rw [hH, hlocs]; exact hS
  show W p l e ({ frames := 1, cells := 0, slots := 0, locals := 64 }) s m ([.ref (ag 0), .int s9, .int f9, .int t9, .int o9, .int n9] : List Value).toArray below meth c s.heap [] 0 0 _ _
  suffices hgo : W p l e ({ frames := 1, cells := 0, slots := 0, locals := 64 }) s m ([.ref (ag 0), .int s9, .int f9, .int t9, .int o9, .int n9] : List Value).toArray below meth c H locs 0 0 (MQ below (qI E [[gObj ag ah az ak i0], [(ag 4, .inl (E.2.1, 7, .inl (sg f 7)))], shO E ag z u, shN E ag y] [[gObj ag ah az ak i0], [(ag 4, .inl (E.2.1, 7, .inl (sg (fndC f (rCopy z u s9 f9 t9 o9 n9)) 7)))], shO E ag z u, shN E ag (pick (rCopy z u s9 f9 t9 o9 n9) y (cpS y (40 * tN s9 + tN f9) (40 * tN t9 + tN o9) (tN n9)))] (ansR (rCopy z u s9 f9 t9 o9 n9))) ([.ref (ag 0), .int s9, .int f9, .int t9, .int o9, .int n9] : List Value).toArray s 0 0 (inB [[gObj ag ah az ak i0], [(ag 4, .inl (E.2.1, 7, .inl (sg f 7)))], shO E ag z u, shN E ag y])) (F0 m 0 ls []) by rw [hH, hlocs] at hgo; exact hgo
  clear hH hlocs
  refine lv_iload_n S.1 S.2.1 dX4_copy_0 rfl (lv_at hl 1 rfl) ?_
  refine lv_iconst (v := 3) S.1 S.2.1 dX4_copy_1 (by decide) ?_
  refine go_S (run_S (As := [.int s9, .int 3]) (rest := []) (n := 2) S hK (bl_P hP [] rfl) (bl_D hD [] rfl rfl) (c_X4_isWithin l E s9 3 ) gS_X4_44 (by decide +kernel) rfl ⟨rfl, rfl⟩ ⟨Nat.le_of_ble_eq_true rfl, Nat.le_of_ble_eq_true rfl⟩ hl.1 (Nat.le_of_ble_eq_true rfl) dX4_copy_2 ⟨Nat.zero_le _, Nat.zero_le _⟩) ?_
  refine b_ifeq (tgt := 16) S.1 S.2.1 dX4_copy_5 (by decide) (fun c_5 => ?_) (fun c_5 => ?_)
  · refine lv_aload_n S.1 S.2.1 dX4_copy_16 rfl (lv_at hl 0 rfl) ?_
    refine lv_iconst (v := 0) S.1 S.2.1 dX4_copy_17 (by decide) ?_
    refine go_I (run_V (As := [.int 0]) (rest := []) (n := 1) S hK (bl_P hP [0, 1] rfl) (bl_D hD [0, 1] rfl rfl) (c_X4_finding l E ag ah az ak i0 f 0 (by decide)) gV_X4_48 (by decide +kernel) rfl ⟨rfl, rfl⟩ ⟨Nat.le_of_ble_eq_true rfl, Nat.le_of_ble_eq_true rfl⟩ (ci := 4) (q0 := 0) rfl rfl hl.1 (Nat.le_of_ble_eq_true rfl) dX4_copy_18 ⟨Nat.zero_le _, Nat.zero_le _⟩) hP hD hS [0, 1] rfl (had_cons rfl (had_cons cell_ad rfl)) (Bs' := [[gObj ag ah az ak i0], [(ag 4, .inl (E.2.1, 7, .inl (sg (upd f 0 (f 0 + 1)) 7)))], shO E ag z u, shN E ag y]) rfl (fun H locs hP hD hS => ?_)
    obtain ⟨r_18, er_18⟩ : ∃ zz9 : Row, zz9 = upd f 0 (f 0 + 1) := ⟨_, rfl⟩
    rw [← er_18] at hP hD
    exact retI S hr hlk (by have e9 : rCopy z u s9 f9 t9 o9 n9 = .inl 0 := (by unfold rCopy; rw [if_neg c_5]); rw [er_18] at hP; rw [e9, fndC_inl, pick_inl]; exact hP) hS (by have e9 : rCopy z u s9 f9 t9 o9 n9 = .inl 0 := (by unfold rCopy; rw [if_neg c_5]); rw [e9]; decide) dX4_copy_21
  · obtain ⟨k_s9, hk_s9, ek_s9⟩ := nI_of2 (n := 3) (by decide) (Int32.not_lt.mpr c_5.1) c_5.2
    refine lv_iload_n S.1 S.2.1 dX4_copy_8 rfl (lv_at hl 3 rfl) ?_
    refine lv_iconst (v := 3) S.1 S.2.1 dX4_copy_9 (by decide) ?_
    refine go_S (run_S (As := [.int t9, .int 3]) (rest := []) (n := 2) S hK (bl_P hP [] rfl) (bl_D hD [] rfl rfl) (c_X4_isWithin l E t9 3 ) gS_X4_44 (by decide +kernel) rfl ⟨rfl, rfl⟩ ⟨Nat.le_of_ble_eq_true rfl, Nat.le_of_ble_eq_true rfl⟩ hl.1 (Nat.le_of_ble_eq_true rfl) dX4_copy_10 ⟨Nat.zero_le _, Nat.zero_le _⟩) ?_
    refine b_ifne (tgt := 22) S.1 S.2.1 dX4_copy_13 (by decide) (fun c_13 => ?_) (fun c_13 => ?_)
    · obtain ⟨k_t9, hk_t9, ek_t9⟩ := nI_of2 (n := 3) (by decide) (Int32.not_lt.mpr c_13.1) c_13.2
      refine lv_aload_n S.1 S.2.1 dX4_copy_22 rfl (lv_at hl 0 rfl) ?_
      refine gf_X4_28 S hK hP 0 0 rfl rfl rfl dX4_copy_23 ?_
      refine lv_iload_n S.1 S.2.1 dX4_copy_26 rfl (lv_at hl 1 rfl) ?_
      refine lv_eqi (y := nI k_s9) ek_s9 ?_
      refine b_aaldN (i := k_s9) S hK hP 3 2 0 rfl rfl rfl (by omega) (by decide) (v := ag (5 + k_s9)) rfl dX4_copy_27 ?_
      refine lv_astore (lv' := [(6, .ref (ag (5 + k_s9))), (0, .ref (ag 0)), (1, .int s9), (2, .int f9), (3, .int t9), (4, .int o9), (5, .int n9)]) S.1 S.2.1 dX4_copy_28 hl (by decide) rfl (fun ls hl => ?_)
      refine lv_aload_n S.1 S.2.1 dX4_copy_30 rfl (lv_at hl 1 rfl) ?_
      refine gf_X4_28 S hK hP 0 0 rfl rfl rfl dX4_copy_31 ?_
      refine lv_iload_n S.1 S.2.1 dX4_copy_34 rfl (lv_at hl 4 rfl) ?_
      refine lv_eqi (y := nI k_t9) ek_t9 ?_
      refine b_aaldN (i := k_t9) S hK hP 3 2 0 rfl rfl rfl (by omega) (by decide) (v := ag (5 + k_t9)) rfl dX4_copy_35 ?_
      refine lv_astore (lv' := [(7, .ref (ag (5 + k_t9))), (6, .ref (ag (5 + k_s9))), (0, .ref (ag 0)), (1, .int s9), (2, .int f9), (3, .int t9), (4, .int o9), (5, .int n9)]) S.1 S.2.1 dX4_copy_36 hl (by decide) rfl (fun ls hl => ?_)
      refine lv_aload S.1 S.2.1 dX4_copy_38 (lv_at hl 1 rfl) ?_
      refine gf_X4_229 S hK hP 2 (1 + k_s9) rfl (sO_at (by omega)) rfl dX4_copy_40 ?_
      refine lv_if_eq (tgt := 54) S.1 S.2.1 dX4_copy_43 (by decide) (fun c_43 => ?_) (fun c_43 => ?_)
      · refine lv_aload_n S.1 S.2.1 dX4_copy_54 rfl (lv_at hl 2 rfl) ?_
        refine lv_iconst (v := 5) S.1 S.2.1 dX4_copy_55 (by decide) ?_
        refine go_I (run_V (As := [.int 5]) (rest := []) (n := 1) S hK (bl_P hP [0, 1] rfl) (bl_D hD [0, 1] rfl rfl) (c_X4_finding l E ag ah az ak i0 f 5 (by decide)) gV_X4_48 (by decide +kernel) rfl ⟨rfl, rfl⟩ ⟨Nat.le_of_ble_eq_true rfl, Nat.le_of_ble_eq_true rfl⟩ (ci := 4) (q0 := 0) rfl rfl hl.1 (Nat.le_of_ble_eq_true rfl) dX4_copy_56 ⟨Nat.zero_le _, Nat.zero_le _⟩) hP hD hS [0, 1] rfl (had_cons rfl (had_cons cell_ad rfl)) (Bs' := [[gObj ag ah az ak i0], [(ag 4, .inl (E.2.1, 7, .inl (sg (upd f 5 (f 5 + 1)) 7)))], shO E ag z u, shN E ag y]) rfl (fun H locs hP hD hS => ?_)
        obtain ⟨r_56, er_56⟩ : ∃ zz9 : Row, zz9 = upd f 5 (f 5 + 1) := ⟨_, rfl⟩
        rw [← er_56] at hP hD
        exact retI S hr hlk (by have e9 : rCopy z u s9 f9 t9 o9 n9 = .inl 5 := (by unfold rCopy; rw [if_pos c_5, if_pos c_13, ek_s9, ek_t9, tN_nI (by omega), tN_nI (by omega), if_pos (Or.inl c_43)]); rw [er_56] at hP; rw [e9, fndC_inl, pick_inl]; exact hP) hS (by have e9 : rCopy z u s9 f9 t9 o9 n9 = .inl 5 := (by unfold rCopy; rw [if_pos c_5, if_pos c_13, ek_s9, ek_t9, tN_nI (by omega), tN_nI (by omega), if_pos (Or.inl c_43)]); rw [e9]; decide) dX4_copy_59
      · refine lv_aload S.1 S.2.1 dX4_copy_46 (lv_at hl 0 rfl) ?_
        refine gf_X4_229 S hK hP 2 (1 + k_t9) rfl (sO_at (by omega)) rfl dX4_copy_48 ?_
        refine lv_if_ne (tgt := 60) S.1 S.2.1 dX4_copy_51 (by decide) (fun c_51 => ?_) (fun c_51 => ?_)
        · refine lv_aload S.1 S.2.1 dX4_copy_60 (lv_at hl 1 rfl) ?_
          refine gf_X4_229 S hK hP 2 (1 + k_s9) rfl (sO_at (by omega)) rfl dX4_copy_62 ?_
          refine lv_aload S.1 S.2.1 dX4_copy_65 (lv_at hl 0 rfl) ?_
          refine gf_X4_229 S hK hP 2 (1 + k_t9) rfl (sO_at (by omega)) rfl dX4_copy_67 ?_
          refine lv_icmp_eq (tgt := 79) S.1 S.2.1 dX4_copy_70 (by decide) (fun c_70 => ?_) (fun c_70 => ?_)
          · refine lv_aload S.1 S.2.1 dX4_copy_79 (lv_at hl 1 rfl) ?_
            refine lv_iload_n S.1 S.2.1 dX4_copy_81 rfl (lv_at hl 4 rfl) ?_
            refine lv_iload S.1 S.2.1 dX4_copy_82 (lv_at hl 7 rfl) ?_
            refine go_S (run_V (As := [.int f9, .int n9]) (rest := []) (n := 2) S hK (cell_P hP (b := 2) (j := (1 + k_s9)) rfl (sO_at (by omega))) cell_D (c_X3_has l E (ag (5 + k_s9)) (ag (9 + k_s9)) (z k_s9) (u k_s9) f9 n9) gV_X4_232 (by decide +kernel) rfl ⟨rfl, rfl⟩ ⟨Nat.le_of_ble_eq_true rfl, Nat.le_of_ble_eq_true rfl⟩ (ci := 3) (q0 := 0) rfl rfl hl.1 (Nat.le_of_ble_eq_true rfl) dX4_copy_84 ⟨Nat.zero_le _, Nat.zero_le _⟩) ?_
            refine b_ifeq (tgt := 102) S.1 S.2.1 dX4_copy_87 (by decide) (fun c_87 => ?_) (fun c_87 => ?_)
            · refine lv_aload_n S.1 S.2.1 dX4_copy_102 rfl (lv_at hl 2 rfl) ?_
              refine lv_iconst (v := 0) S.1 S.2.1 dX4_copy_103 (by decide) ?_
              refine go_I (run_V (As := [.int 0]) (rest := []) (n := 1) S hK (bl_P hP [0, 1] rfl) (bl_D hD [0, 1] rfl rfl) (c_X4_finding l E ag ah az ak i0 f 0 (by decide)) gV_X4_48 (by decide +kernel) rfl ⟨rfl, rfl⟩ ⟨Nat.le_of_ble_eq_true rfl, Nat.le_of_ble_eq_true rfl⟩ (ci := 4) (q0 := 0) rfl rfl hl.1 (Nat.le_of_ble_eq_true rfl) dX4_copy_104 ⟨Nat.zero_le _, Nat.zero_le _⟩) hP hD hS [0, 1] rfl (had_cons rfl (had_cons cell_ad rfl)) (Bs' := [[gObj ag ah az ak i0], [(ag 4, .inl (E.2.1, 7, .inl (sg (upd f 0 (f 0 + 1)) 7)))], shO E ag z u, shN E ag y]) rfl (fun H locs hP hD hS => ?_)
              obtain ⟨r_104, er_104⟩ : ∃ zz9 : Row, zz9 = upd f 0 (f 0 + 1) := ⟨_, rfl⟩
              rw [← er_104] at hP hD
              exact retI S hr hlk (by have e9 : rCopy z u s9 f9 t9 o9 n9 = .inl 0 := (by unfold rCopy; rw [if_pos c_5, if_pos c_13, ek_s9, ek_t9, tN_nI (by omega), tN_nI (by omega), if_neg (fun z9 => z9.elim c_43 c_51), if_pos c_70, if_neg (has_no1 hU hk_s9 c_87)]); rw [er_104] at hP; rw [e9, fndC_inl, pick_inl]; exact hP) hS (by have e9 : rCopy z u s9 f9 t9 o9 n9 = .inl 0 := (by unfold rCopy; rw [if_pos c_5, if_pos c_13, ek_s9, ek_t9, tN_nI (by omega), tN_nI (by omega), if_neg (fun z9 => z9.elim c_43 c_51), if_pos c_70, if_neg (has_no1 hU hk_s9 c_87)]); rw [e9]; decide) dX4_copy_107
            · refine lv_aload S.1 S.2.1 dX4_copy_90 (lv_at hl 0 rfl) ?_
              refine lv_iload S.1 S.2.1 dX4_copy_92 (lv_at hl 6 rfl) ?_
              refine lv_iload S.1 S.2.1 dX4_copy_94 (lv_at hl 7 rfl) ?_
              refine go_S (run_V (As := [.int o9, .int n9]) (rest := []) (n := 2) S hK (cell_P hP (b := 2) (j := (1 + k_t9)) rfl (sO_at (by omega))) cell_D (c_X3_has l E (ag (5 + k_t9)) (ag (9 + k_t9)) (z k_t9) (u k_t9) o9 n9) gV_X4_232 (by decide +kernel) rfl ⟨rfl, rfl⟩ ⟨Nat.le_of_ble_eq_true rfl, Nat.le_of_ble_eq_true rfl⟩ (ci := 3) (q0 := 0) rfl rfl hl.1 (Nat.le_of_ble_eq_true rfl) dX4_copy_96 ⟨Nat.zero_le _, Nat.zero_le _⟩) ?_
              refine b_ifne (tgt := 108) S.1 S.2.1 dX4_copy_99 (by decide) (fun c_99 => ?_) (fun c_99 => ?_)
              · obtain ⟨L1, hL1, eL1⟩ := hU k_s9 (by omega)
                obtain ⟨L2, hL2, eL2⟩ := hU k_t9 (by omega)
                obtain ⟨k_f9, k_n9, ek_f9, ek_n9, hf1, hf2⟩ := has_nat hL1 eL1 c_87
                obtain ⟨k_o9, k_m9, ek_o9, ek_m9, hfo, hf3⟩ := has_nat hL2 eL2 c_99
                have emn : k_m9 = k_n9 := (nI_eq (by omega) (by omega)).mp (by rw [← ek_m9, ← ek_n9])
                subst emn
                refine lv_aload S.1 S.2.1 dX4_copy_108 (lv_at hl 1 rfl) ?_
                refine gf_X4_193 S hK hP 2 (1 + k_s9) rfl (sO_at (by omega)) rfl dX4_copy_110 ?_
                refine lv_iload_n S.1 S.2.1 dX4_copy_113 rfl (lv_at hl 4 rfl) ?_
                refine lv_eqi (y := nI k_f9) ek_f9 ?_
                refine lv_aload S.1 S.2.1 dX4_copy_114 (lv_at hl 0 rfl) ?_
                refine gf_X4_193 S hK hP 2 (1 + k_t9) rfl (sO_at (by omega)) rfl dX4_copy_116 ?_
                refine lv_iload S.1 S.2.1 dX4_copy_119 (lv_at hl 6 rfl) ?_
                refine lv_eqi (y := nI k_o9) ek_o9 ?_
                refine lv_iload S.1 S.2.1 dX4_copy_121 (lv_at hl 7 rfl) ?_
                refine lv_eqi (y := nI k_m9) ek_n9 ?_
                refine b_copyi (sp := k_f9) (dp := k_o9) (n := k_m9) S hl.1 hK hP hD hS mk_X4_235 3 k_s9 3 k_t9 rfl rfl (sN_at (by omega)) (sN_at (by omega)) (by omega) (by omega) (by decide) (by decide) (sN_cpy (by omega) (by omega) (by omega) (by omega)) (Bs1 := [[gObj ag ah az ak i0], [(ag 4, .inl (E.2.1, 7, .inl (sg f 7)))], shO E ag z u, shN E ag (cpS y (40 * k_s9 + k_f9) (40 * k_t9 + k_o9) k_m9)]) rfl (Nat.le_of_ble_eq_true rfl) (Nat.le_of_ble_eq_true rfl) dX4_copy_123 (fun H locs hP hD hS => ?_)
                refine lv_iload S.1 S.2.1 dX4_copy_126 (lv_at hl 7 rfl) ?_
                refine lv_eqi (y := nI k_m9) ek_n9 ?_
                exact retI S hr hlk (by have e9 : rCopy z u s9 f9 t9 o9 n9 = .inr (fun _ => 0, nI k_m9) := (by unfold rCopy; rw [if_pos c_5, if_pos c_13, ek_s9, ek_t9, tN_nI (by omega), tN_nI (by omega), if_neg (fun z9 => z9.elim c_43 c_51), if_pos c_70, if_pos (cp_in ek_f9 ek_o9 ek_n9 (by omega) (by omega) (by omega) hL1 hL2 eL1 eL2 hf1 hfo), ek_n9]); rw [e9, fndC_inr, pick_inr, ek_s9, ek_f9, ek_t9, ek_o9, ek_n9, tN_nI (k := k_s9) (by omega), tN_nI (k := k_f9) (by omega), tN_nI (k := k_t9) (by omega), tN_nI (k := k_o9) (by omega), tN_nI (k := k_m9) (by omega)]; exact hP) hS (by have e9 : rCopy z u s9 f9 t9 o9 n9 = .inr (fun _ => 0, nI k_m9) := (by unfold rCopy; rw [if_pos c_5, if_pos c_13, ek_s9, ek_t9, tN_nI (by omega), tN_nI (by omega), if_neg (fun z9 => z9.elim c_43 c_51), if_pos c_70, if_pos (cp_in ek_f9 ek_o9 ek_n9 (by omega) (by omega) (by omega) hL1 hL2 eL1 eL2 hf1 hfo), ek_n9]); rw [e9, ansR_inr]) dX4_copy_128
              · refine lv_aload_n S.1 S.2.1 dX4_copy_102 rfl (lv_at hl 2 rfl) ?_
                refine lv_iconst (v := 0) S.1 S.2.1 dX4_copy_103 (by decide) ?_
                refine go_I (run_V (As := [.int 0]) (rest := []) (n := 1) S hK (bl_P hP [0, 1] rfl) (bl_D hD [0, 1] rfl rfl) (c_X4_finding l E ag ah az ak i0 f 0 (by decide)) gV_X4_48 (by decide +kernel) rfl ⟨rfl, rfl⟩ ⟨Nat.le_of_ble_eq_true rfl, Nat.le_of_ble_eq_true rfl⟩ (ci := 4) (q0 := 0) rfl rfl hl.1 (Nat.le_of_ble_eq_true rfl) dX4_copy_104 ⟨Nat.zero_le _, Nat.zero_le _⟩) hP hD hS [0, 1] rfl (had_cons rfl (had_cons cell_ad rfl)) (Bs' := [[gObj ag ah az ak i0], [(ag 4, .inl (E.2.1, 7, .inl (sg (upd f 0 (f 0 + 1)) 7)))], shO E ag z u, shN E ag y]) rfl (fun H locs hP hD hS => ?_)
                obtain ⟨r_104_1, er_104_1⟩ : ∃ zz9 : Row, zz9 = upd f 0 (f 0 + 1) := ⟨_, rfl⟩
                rw [← er_104_1] at hP hD
                exact retI S hr hlk (by have e9 : rCopy z u s9 f9 t9 o9 n9 = .inl 0 := (by unfold rCopy; rw [if_pos c_5, if_pos c_13, ek_s9, ek_t9, tN_nI (by omega), tN_nI (by omega), if_neg (fun z9 => z9.elim c_43 c_51), if_pos c_70, if_neg (has_no2 hU hk_t9 c_99)]); rw [er_104_1] at hP; rw [e9, fndC_inl, pick_inl]; exact hP) hS (by have e9 : rCopy z u s9 f9 t9 o9 n9 = .inl 0 := (by unfold rCopy; rw [if_pos c_5, if_pos c_13, ek_s9, ek_t9, tN_nI (by omega), tN_nI (by omega), if_neg (fun z9 => z9.elim c_43 c_51), if_pos c_70, if_neg (has_no2 hU hk_t9 c_99)]); rw [e9]; decide) dX4_copy_107
          · refine lv_aload_n S.1 S.2.1 dX4_copy_73 rfl (lv_at hl 2 rfl) ?_
            refine lv_iconst (v := 2) S.1 S.2.1 dX4_copy_74 (by decide) ?_
            refine go_I (run_V (As := [.int 2]) (rest := []) (n := 1) S hK (bl_P hP [0, 1] rfl) (bl_D hD [0, 1] rfl rfl) (c_X4_finding l E ag ah az ak i0 f 2 (by decide)) gV_X4_48 (by decide +kernel) rfl ⟨rfl, rfl⟩ ⟨Nat.le_of_ble_eq_true rfl, Nat.le_of_ble_eq_true rfl⟩ (ci := 4) (q0 := 0) rfl rfl hl.1 (Nat.le_of_ble_eq_true rfl) dX4_copy_75 ⟨Nat.zero_le _, Nat.zero_le _⟩) hP hD hS [0, 1] rfl (had_cons rfl (had_cons cell_ad rfl)) (Bs' := [[gObj ag ah az ak i0], [(ag 4, .inl (E.2.1, 7, .inl (sg (upd f 2 (f 2 + 1)) 7)))], shO E ag z u, shN E ag y]) rfl (fun H locs hP hD hS => ?_)
            obtain ⟨r_75, er_75⟩ : ∃ zz9 : Row, zz9 = upd f 2 (f 2 + 1) := ⟨_, rfl⟩
            rw [← er_75] at hP hD
            exact retI S hr hlk (by have e9 : rCopy z u s9 f9 t9 o9 n9 = .inl 2 := (by unfold rCopy; rw [if_pos c_5, if_pos c_13, ek_s9, ek_t9, tN_nI (by omega), tN_nI (by omega), if_neg (fun z9 => z9.elim c_43 c_51), if_neg c_70]); rw [er_75] at hP; rw [e9, fndC_inl, pick_inl]; exact hP) hS (by have e9 : rCopy z u s9 f9 t9 o9 n9 = .inl 2 := (by unfold rCopy; rw [if_pos c_5, if_pos c_13, ek_s9, ek_t9, tN_nI (by omega), tN_nI (by omega), if_neg (fun z9 => z9.elim c_43 c_51), if_neg c_70]); rw [e9]; decide) dX4_copy_78
        · refine lv_aload_n S.1 S.2.1 dX4_copy_54 rfl (lv_at hl 2 rfl) ?_
          refine lv_iconst (v := 5) S.1 S.2.1 dX4_copy_55 (by decide) ?_
          refine go_I (run_V (As := [.int 5]) (rest := []) (n := 1) S hK (bl_P hP [0, 1] rfl) (bl_D hD [0, 1] rfl rfl) (c_X4_finding l E ag ah az ak i0 f 5 (by decide)) gV_X4_48 (by decide +kernel) rfl ⟨rfl, rfl⟩ ⟨Nat.le_of_ble_eq_true rfl, Nat.le_of_ble_eq_true rfl⟩ (ci := 4) (q0 := 0) rfl rfl hl.1 (Nat.le_of_ble_eq_true rfl) dX4_copy_56 ⟨Nat.zero_le _, Nat.zero_le _⟩) hP hD hS [0, 1] rfl (had_cons rfl (had_cons cell_ad rfl)) (Bs' := [[gObj ag ah az ak i0], [(ag 4, .inl (E.2.1, 7, .inl (sg (upd f 5 (f 5 + 1)) 7)))], shO E ag z u, shN E ag y]) rfl (fun H locs hP hD hS => ?_)
          obtain ⟨r_56_2, er_56_2⟩ : ∃ zz9 : Row, zz9 = upd f 5 (f 5 + 1) := ⟨_, rfl⟩
          rw [← er_56_2] at hP hD
          exact retI S hr hlk (by have e9 : rCopy z u s9 f9 t9 o9 n9 = .inl 5 := (by unfold rCopy; rw [if_pos c_5, if_pos c_13, ek_s9, ek_t9, tN_nI (by omega), tN_nI (by omega), if_pos (Or.inr c_51)]); rw [er_56_2] at hP; rw [e9, fndC_inl, pick_inl]; exact hP) hS (by have e9 : rCopy z u s9 f9 t9 o9 n9 = .inl 5 := (by unfold rCopy; rw [if_pos c_5, if_pos c_13, ek_s9, ek_t9, tN_nI (by omega), tN_nI (by omega), if_pos (Or.inr c_51)]); rw [e9]; decide) dX4_copy_59
    · refine lv_aload_n S.1 S.2.1 dX4_copy_16 rfl (lv_at hl 0 rfl) ?_
      refine lv_iconst (v := 0) S.1 S.2.1 dX4_copy_17 (by decide) ?_
      refine go_I (run_V (As := [.int 0]) (rest := []) (n := 1) S hK (bl_P hP [0, 1] rfl) (bl_D hD [0, 1] rfl rfl) (c_X4_finding l E ag ah az ak i0 f 0 (by decide)) gV_X4_48 (by decide +kernel) rfl ⟨rfl, rfl⟩ ⟨Nat.le_of_ble_eq_true rfl, Nat.le_of_ble_eq_true rfl⟩ (ci := 4) (q0 := 0) rfl rfl hl.1 (Nat.le_of_ble_eq_true rfl) dX4_copy_18 ⟨Nat.zero_le _, Nat.zero_le _⟩) hP hD hS [0, 1] rfl (had_cons rfl (had_cons cell_ad rfl)) (Bs' := [[gObj ag ah az ak i0], [(ag 4, .inl (E.2.1, 7, .inl (sg (upd f 0 (f 0 + 1)) 7)))], shO E ag z u, shN E ag y]) rfl (fun H locs hP hD hS => ?_)
      obtain ⟨r_18_3, er_18_3⟩ : ∃ zz9 : Row, zz9 = upd f 0 (f 0 + 1) := ⟨_, rfl⟩
      rw [← er_18_3] at hP hD
      exact retI S hr hlk (by have e9 : rCopy z u s9 f9 t9 o9 n9 = .inl 0 := (by unfold rCopy; rw [if_pos c_5, if_neg c_13]); rw [er_18_3] at hP; rw [e9, fndC_inl, pick_inl]; exact hP) hS (by have e9 : rCopy z u s9 f9 t9 o9 n9 = .inl 0 := (by unfold rCopy; rw [if_pos c_5, if_neg c_13]); rw [e9]; decide) dX4_copy_21
