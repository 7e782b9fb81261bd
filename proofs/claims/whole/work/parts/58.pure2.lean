/-! rows that agree as far as they live -/
def Ev (r s : Row) : Prop := ∀ j, j < 21 + 7 * cntN r → r j = s j
theorem Ev.c {r s : Row} (h : Ev r s) : cntN s = cntN r := by
  unfold cntN
  rw [h 1 (by omega)]
theorem Ev.rf {r : Row} : Ev r r := fun _ _ => rfl
theorem Ev.sy {r s : Row} (h : Ev r s) : Ev s r := fun j hj => (h j (by rw [h.c] at hj; exact hj)).symm
theorem Ev.tr {r s t : Row} (h : Ev r s) (h2 : Ev s t) : Ev r t := fun j hj => (h j hj).trans (h2 j (by rw [h.c]; exact hj))
theorem cnt_up {r : Row} {k : Nat} {v : Int32} (hk : k ≠ 1) : cntN (upd r k v) = cntN r := by
  unfold cntN
  rw [upd_ne (Ne.symm hk)]
theorem Ev.up {r s : Row} {k : Nat} {v w : Int32} (h : Ev r s) (hk : k ≠ 1) (hv : v = w) : Ev (upd r k v) (upd s k w) := by
  subst hv
  intro j hj
  rw [cnt_up hk] at hj
  unfold upd
  by_cases e : j = k
  · rw [if_pos e, if_pos e]
  · rw [if_neg e, if_neg e]
    exact h j hj
theorem Ev.lo {r s : Row} (h : Ev r s) {j : Nat} (hj : j < 21) : r j = s j := h j (by omega)
theorem Ev.p {r s : Row} (h : Ev r s) {i f : Nat} (hi : i < cntN r) (hf : f < 7) : r (21 + 7 * i + f) = s (21 + 7 * i + f) := h _ (by omega)
theorem Ev.p0 {r s : Row} (h : Ev r s) {i : Nat} (hi : i < cntN r) : r (21 + 7 * i) = s (21 + 7 * i) := h _ (by omega)
theorem Ev.bec {r r2 : Row} : Ev (becF r r2) r2 := by
  have e : cntN (becF r r2) = cntN r2 := by
    unfold cntN becF
    rw [if_pos (by omega)]
  intro j hj
  rw [e] at hj
  exact if_pos hj
theorem ev_cries {r s : Row} (h : Ev r s) {i : Nat} (hi : i < cntN r) : criesR r i = criesR s i := by
  unfold criesR
  rw [h.p0 hi, h.p hi (f := 1) (by decide), h.p hi (f := 5) (by decide), h.lo (j := 3) (by decide)]
theorem ev_weathers {r s : Row} (h : Ev r s) {i : Nat} {w : Int32} (hi : i < cntN r) : weathersR r i w = weathersR s i w := by
  unfold weathersR
  rw [h.p0 hi, h.p hi (f := 2) (by decide)]
theorem ev_needs {r s : Row} (h : Ev r s) {i : Nat} (hi : i < cntN r) : needsR r i = needsR s i := by
  unfold needsR
  rw [h.p0 hi]
theorem ev_tint {r s : Row} (h : Ev r s) {i : Nat} (hi : i < cntN r) : tintR r i = tintR s i := by
  unfold tintR
  rw [h.p0 hi, h.p hi (f := 1) (by decide), h.p hi (f := 3) (by decide)]
theorem ev_fetches {r s : Row} (h : Ev r s) {i : Nat} (hi : i < cntN r) : fetchesR r i = fetchesR s i := by
  unfold fetchesR
  rw [h.p0 hi, h.p hi (f := 4) (by decide)]
theorem ev_heals {r s : Row} (h : Ev r s) {i : Nat} (hi : i < cntN r) : healsR r i = healsR s i := by
  unfold healsR
  rw [h.p0 hi]
theorem ev_dayN {r s : Row} (h : Ev r s) : dayN r = dayN s := by
  unfold dayN
  rw [h.lo (j := 0) (by decide)]
theorem ev_wthr {r s : Row} (h : Ev r s) : wthr r = wthr s := by
  unfold wthr
  rw [ev_dayN h]
  exact h.lo (by omega)
theorem ev_g1 {r s : Row} (h : Ev r s) {i : Nat} {w : Int32} (hi : i < cntN r) : Ev (gath1 r i w) (gath1 s i w) := by
  unfold gath1
  exact h.up (by omega) (by rw [h.p hi (f := 3) (by decide), ev_cries h hi, ev_weathers h hi])
theorem ev_g2 {r s : Row} (h : Ev r s) {i : Nat} (hi : i < cntN r) : Ev (gath2 r i) (gath2 s i) := by
  unfold gath2
  exact h.up (by omega) (by rw [h.p hi (f := 1) (by decide), ev_heals h hi])
theorem ev_g3 {r s : Row} (h : Ev r s) {i : Nat} (hi : i < cntN r) : Ev (gath3 r i) (gath3 s i) := by
  unfold gath3
  rw [h.p0 hi, h.lo (j := 3) (by decide)]
  split
  · split
    · exact h
    · exact h.up (by decide) rfl
  · exact h
theorem cnt_g1 {r : Row} {i : Nat} {w : Int32} : cntN (gath1 r i w) = cntN r := cnt_up (by omega)
theorem cnt_g2 {r : Row} {i : Nat} : cntN (gath2 r i) = cntN r := cnt_up (by omega)
theorem cnt_g3 {r : Row} {i : Nat} : cntN (gath3 r i) = cntN r := by
  unfold gath3
  split
  · split
    · rfl
    · exact cnt_up (by decide)
  · rfl
theorem cnt_gather {r : Row} {i : Nat} {w : Int32} : cntN (gatherF r i w) = cntN r := by
  unfold gatherF
  rw [cnt_g3, cnt_g2, cnt_g1]
theorem ev_gather {r s : Row} (h : Ev r s) {i : Nat} {w : Int32} (hi : i < cntN r) : Ev (gatherF r i w) (gatherF s i w) := by
  unfold gatherF
  exact ev_g3 (ev_g2 (ev_g1 h hi) (by rw [cnt_g1]; exact hi)) (by rw [cnt_g2, cnt_g1]; exact hi)
theorem cnt_gathN {r : Row} {w : Int32} : ∀ k, cntN (gathN r w k) = cntN r
  | 0 => rfl
  | k + 1 => by rw [gathN, cnt_gather, cnt_gathN k]
theorem ev_gathN {r s : Row} (h : Ev r s) {w : Int32} : ∀ k, k ≤ cntN r → Ev (gathN r w k) (gathN s w k)
  | 0, _ => h
  | k + 1, hk => by
    rw [gathN, gathN]
    exact ev_gather (ev_gathN h k (by omega)) (by rw [cnt_gathN]; omega)
theorem cnt_fire {r : Row} {i : Nat} : cntN (fireF r i) = cntN r := by
  unfold fireF
  rw [cnt_up (by omega)]
  split
  · unfold fireC fireB fireA
    rw [cnt_up (by omega), cnt_up (by omega), cnt_up (by omega)]
  · unfold fireE fireD
    rw [cnt_up (by omega), cnt_up (by omega)]
theorem ev_fire {r s : Row} (h : Ev r s) {i : Nat} (hi : i < cntN r) : Ev (fireF r i) (fireF s i) := by
  unfold fireF
  rw [ev_needs h hi, h.p hi (f := 3) (by decide)]
  refine Ev.up ?_ (by omega) rfl
  split
  · have hA : Ev (fireA r i) (fireA s i) := by
      unfold fireA
      exact h.up (by omega) (ev_tint h hi)
    have cA : cntN (fireA r i) = cntN r := cnt_up (by omega)
    have hB : Ev (fireB (fireA r i) i) (fireB (fireA s i) i) := by
      show Ev (upd (fireA r i) (21 + 7 * i + 5) (mn (fireA r i (21 + 7 * i + 5) + 1) 9999)) (upd (fireA s i) (21 + 7 * i + 5) (mn (fireA s i (21 + 7 * i + 5) + 1) 9999))
      exact hA.up (by omega) (by rw [hA.p (i := i) (f := 5) (by rw [cA]; exact hi) (by decide)])
    have cB : cntN (fireB (fireA r i) i) = cntN r := (cnt_up (by omega)).trans cA
    show Ev (upd (fireB (fireA r i) i) 4 (mn (fireB (fireA r i) i 4 + fetchesR (fireB (fireA r i) i) i) 99999)) (upd (fireB (fireA s i) i) 4 (mn (fireB (fireA s i) i 4 + fetchesR (fireB (fireA s i) i) i) 99999))
    exact hB.up (by decide) (by rw [hB.lo (j := 4) (by decide), ev_fetches hB (by rw [cB]; exact hi)])
  · have hD : Ev (fireD r i) (fireD s i) := by
      unfold fireD
      exact h.up (by omega) (by rw [h.p hi (f := 6) (by decide)])
    have cD : cntN (fireD r i) = cntN r := cnt_up (by omega)
    show Ev (upd (fireD r i) (21 + 7 * i + 1) (mn (fireD r i (21 + 7 * i + 1) + 15) 99)) (upd (fireD s i) (21 + 7 * i + 1) (mn (fireD s i (21 + 7 * i + 1) + 15) 99))
    exact hD.up (by omega) (by rw [hD.p (i := i) (f := 1) (by rw [cD]; exact hi) (by decide)])
theorem cnt_fireN {r : Row} : ∀ k, cntN (fireN r k) = cntN r
  | 0 => rfl
  | k + 1 => by rw [fireN, cnt_fire, cnt_fireN k]
theorem ev_fireN {r s : Row} (h : Ev r s) : ∀ k, k ≤ cntN r → Ev (fireN r k) (fireN s k)
  | 0, _ => h
  | k + 1, hk => by
    rw [fireN, fireN]
    exact ev_fire (ev_fireN h k (by omega)) (by rw [cnt_fireN]; omega)
theorem ev_day {r s : Row} (h : Ev r s) : Ev (dayF r) (dayF s) := by
  unfold dayF
  rw [← ev_dayN h, ← ev_wthr h, h.c]
  have hg := ev_gathN h (w := wthr r) (cntN r) (Nat.le_refl _)
  have hf := ev_fireN hg (cntN r) (by rw [cnt_gathN]; exact Nat.le_refl _)
  unfold dayEnd
  split
  · exact hf.up (by decide) (by rw [hf.lo (j := 0) (by decide)])
  · exact hg.up (by decide) (by rw [hg.lo (j := 0) (by decide)])
theorem cnt_day {r : Row} : cntN (dayF r) = cntN r := by
  unfold dayF dayEnd
  rw [cnt_up (by decide)]
  split
  · rw [cnt_fireN, cnt_gathN]
  · rw [cnt_gathN]
theorem ev_days {r s : Row} (h : Ev r s) : ∀ n, Ev (daysF r n) (daysF s n)
  | 0 => h
  | n + 1 => ev_day (ev_days h n)
theorem cnt_days {r : Row} : ∀ n, cntN (daysF r n) = cntN r
  | 0 => rfl
  | n + 1 => by rw [daysF, cnt_day, cnt_days n]
theorem ev_dayP {r s : Row} (h : Ev r s) {n i f : Nat} (hi : i < cntN r) (hf : f < 7) : daysF r n (21 + 7 * i + f) = daysF s n (21 + 7 * i + f) := (ev_days h n).p (by rw [cnt_days]; exact hi) hf
theorem ev_day4 {r s : Row} (h : Ev r s) {n : Nat} : daysF r n 4 = daysF s n 4 := (ev_days h n).lo (by decide)
theorem ev_sum {r s : Row} (h : Ev r s) {f : Nat} (hf : f < 7) : ∀ k, k ≤ cntN r → sumR r f k = sumR s f k
  | 0, _ => rfl
  | k + 1, hk => by rw [sumR, sumR, ev_sum h hf k (by omega), h.p (i := k) (by omega) hf]
theorem ev_col {r s : Row} (h : Ev r s) : ∀ k, k ≤ cntN r → colR r k = colR s k
  | 0, _ => rfl
  | k + 1, hk => by rw [colR, colR, ev_col h k (by omega), h.p (i := k) (f := 5) (by omega) (by decide), h.p (i := k) (f := 4) (by omega) (by decide)]
theorem ev_rdy {r s : Row} (h : Ev r s) : ∀ k, k ≤ cntN r → rdyR r k = rdyR s k
  | 0, _ => rfl
  | k + 1, hk => by rw [rdyR, rdyR, ev_rdy h k (by omega), ev_needs h (i := k) (by omega), h.p (i := k) (f := 3) (by omega) (by decide)]
theorem ev_wet {r s : Row} (h : Ev r s) : ∀ k, k ≤ cntN r → wetR r k = wetR s k
  | 0, _ => rfl
  | k + 1, hk => by rw [wetR, wetR, ev_wet h k (by omega), h.p (i := k) (f := 3) (by omega) (by decide)]
theorem ev_held {r s : Row} (h : Ev r s) : ∀ k, k ≤ 10 → heldR r k = heldR s k
  | 0, _ => rfl
  | k + 1, hk => by rw [heldR, heldR, ev_held h k (by omega), h.lo (j := 11 + k) (by omega)]
theorem ev_en {r s : Row} (h : Ev r s) {q : Nat} (hq : q < cntN r) : ∀ k, enR r q k = enR s q k
  | 0 => rfl
  | k + 1 => by rw [enR, enR, ev_en h hq k, ev_weathers h hq, ev_needs h hq, ev_cries h hq]
theorem ev_gd {r s : Row} (h : Ev r s) {q : Nat} (hq : q < cntN r) : ∀ k, gdN r q k = gdN s q k
  | 0 => rfl
  | k + 1 => by rw [gdN, gdN, ev_gd h hq k, ev_weathers h hq, ev_needs h hq, ev_cries h hq]
theorem ev_keep {r s : Row} (h : Ev r s) {set : Int32} : ∀ k, Ev (keepR r set k) (keepR s set k)
  | 0 => h
  | k + 1 => by
    rw [keepR, keepR]
    split
    · exact (ev_keep h k).up (by omega) rfl
    · exact ev_keep h k
theorem cnt_keep {r : Row} {set : Int32} : ∀ k, cntN (keepR r set k) = cntN r
  | 0 => rfl
  | k + 1 => by
    rw [keepR]
    split
    · rw [cnt_up (by omega), cnt_keep k]
    · exact cnt_keep k
theorem ev_draw {r s : Row} (h : Ev r s) : Ev (drawF r) (drawF s) := by
  unfold drawF
  exact h.up (by decide) (by rw [h.lo (j := 2) (by decide)])
theorem ev_drawV {r s : Row} (h : Ev r s) : drawV r = drawV s := by
  unfold drawV
  rw [(ev_draw h).lo (j := 2) (by decide)]
theorem ev_storm {r s : Row} (h : Ev r s) : Ev (stormF r) (stormF s) := by
  have hA : Ev (stormA r) (stormA s) := by
    unfold stormA
    rw [← ev_dayN h, ← ev_drawV h]
    exact (ev_draw h).up (by omega) rfl
  have hP : Ev (stormP r) (stormP s) := by
    unfold stormP
    rw [← ev_drawV hA, h.c]
    split
    · exact (ev_draw hA).up (by omega) rfl
    · exact ev_draw hA
  exact ev_day hP
theorem ev_stormN {r s : Row} (h : Ev r s) : ∀ n, Ev (stormN r n) (stormN s n)
  | 0 => h
  | n + 1 => ev_storm (ev_stormN h n)
theorem ev_add {r s : Row} (h : Ev r s) {v w : Int32} (h8 : cntN r < 8) : Ev (addF r v w) (addF s v w) := by
  intro j hj
  have e : cntN (addF r v w) = cntN r + 1 := by
    show (addF r v w 1).toNatClampNeg = _
    rw [addF_1, nI_clamp (by omega)]
  rw [e] at hj
  unfold addF
  rw [h.c]
  unfold upd
  by_cases c1 : j = 1
  · rw [if_pos c1, if_pos c1]
  · rw [if_neg c1, if_neg c1]
    unfold putP
    by_cases c2 : 21 + 7 * cntN r ≤ j ∧ j < 21 + 7 * cntN r + 7
    · rw [if_pos c2, if_pos c2]
    · rw [if_neg c2, if_neg c2]
      exact h j (by omega)
theorem ev_told {r s : Row} (h : Ev r s) {i w : Nat} (hi : i < cntN r) (hw : w ≤ 12) : toldM r i w = toldM s i w := by
  unfold toldM
  rw [ev_cries h hi, ev_weathers h hi, ev_wthr h, ev_needs h hi, ev_tint h hi, ev_fetches h hi, ev_heals h hi]
  by_cases c : w < 7
  · rw [h.p hi c]
  · have : w = 7 ∨ w = 8 ∨ w = 9 ∨ w = 10 ∨ w = 11 ∨ w = 12 := by omega
    rcases this with rfl | rfl | rfl | rfl | rfl | rfl <;> rfl
theorem ev_ok {r s : Row} (h : Ev r s) {y : Row} {o i : Nat} (hi : i < cntN r) : ∀ k, okN y o r i k = okN y o s i k
  | 0 => rfl
  | k + 1 => by rw [okN, okN, ev_ok h hi k, ev_dayP h hi (f := 4) (by decide)]
theorem ev_no {r s : Row} (h : Ev r s) {w : Int32} : noC r w ↔ noC s w := by
  unfold noC
  rw [h.c, ev_col h (cntN r) (Nat.le_refl _)]
theorem RI_ev {r s : Row} (h : Ev r s) (hr : RI r) : RI s := by
  obtain ⟨n, d, h1, h2, h3, h4, h5, h6, h7, h8, h9⟩ := hr
  have hc : cntN r = n := cntN_eq h1 h2
  refine ⟨n, d, by rw [← h.lo (j := 1) (by decide)]; exact h1, h2, by rw [← h.lo (j := 0) (by decide)]; exact h3, h4, by rw [← h.lo (j := 3) (by decide)]; exact h5, by rw [← h.lo (j := 4) (by decide)]; exact h6, fun j hj => by rw [← h.lo (j := 5 + j) (by omega)]; exact h7 j hj, fun j hj => by rw [← h.lo (j := 11 + j) (by omega)]; exact h8 j hj, fun i hi f hf => by rw [← h.p (i := i) (by omega) hf]; exact h9 i hi f hf⟩
