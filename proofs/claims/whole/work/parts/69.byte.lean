theorem fa_byte_low (x : Int32) : (x &&& 255).toInt8 = x.toInt8 := by
  apply Int8.toBitVec_inj.1
  apply BitVec.eq_of_getLsbD_eq
  intro i hi
  have h2 : (255 : Int32).toBitVec.getLsbD i = true := by
    have : ∀ j : Fin 8, (255 : Int32).toBitVec.getLsbD j.val = true := by decide +kernel
    exact this ⟨i, hi⟩
  have h4 : (x &&& 255).toBitVec.getLsbD i = x.toBitVec.getLsbD i := by
    show (x.toBitVec &&& (255 : Int32).toBitVec).getLsbD i = _
    rw [BitVec.getLsbD_and, h2, Bool.and_true]
  have h3 : i < 32 := by omega
  first
    | (show (((x &&& 255).toBitVec).signExtend 8).getLsbD i = (x.toBitVec.signExtend 8).getLsbD i; rw [BitVec.getLsbD_signExtend, BitVec.getLsbD_signExtend, if_pos h3, if_pos h3, h4])
    | (show (((x &&& 255).toBitVec).setWidth 8).getLsbD i = (x.toBitVec.setWidth 8).getLsbD i; rw [BitVec.getLsbD_setWidth, BitVec.getLsbD_setWidth, h4])
    | (simp [hi, h3, h4]; done)
theorem nb_all : ∀ j : Fin 256, (j.val < 128 → (nI j.val).toInt8.toInt32 = nI j.val) ∧ (128 ≤ j.val → (nI j.val).toInt8.toInt32 < 0) := by decide +kernel
theorem sh_all : ∀ m : Fin 4, ((nI (8 * m.val) &&& 31).toBitVec.smod 32).toNat = 8 * m.val ∧ (((nI (8 * m.val)).toUInt32 &&& Int32.toUInt32 31).toBitVec % 32).toNat = 8 * m.val := by decide +kernel
theorem by_low (v : Int32) {m : Nat} (hm : m < 4) : (v >>> (nI (8 * m) &&& 31)).toBitVec.toNat % 256 = v.toBitVec.toNat / 2 ^ (8 * m) % 256 := by
  have h1 := pk_shr v (nI (8 * m) &&& 31) (8 * m) (sh_all ⟨m, hm⟩).1
  generalize v >>> (nI (8 * m) &&& 31) = a at h1
  have ha : a.toInt = if 2 * a.toBitVec.toNat < 2 ^ 32 then (a.toBitVec.toNat : Int) else (a.toBitVec.toNat : Int) - ((2 ^ 32 : Nat) : Int) := BitVec.toInt_eq_toNat_cond a.toBitVec
  have hv : v.toInt = if 2 * v.toBitVec.toNat < 2 ^ 32 then (v.toBitVec.toNat : Int) else (v.toBitVec.toNat : Int) - ((2 ^ 32 : Nat) : Int) := BitVec.toInt_eq_toNat_cond v.toBitVec
  have la : a.toBitVec.toNat < 2 ^ 32 := a.toBitVec.isLt
  have lv : v.toBitVec.toNat < 2 ^ 32 := v.toBitVec.isLt
  rw [Int.shiftRight_eq_div_pow] at h1
  generalize a.toBitVec.toNat = A at ha la
  generalize v.toBitVec.toNat = B at hv lv
  generalize a.toInt = x at ha h1
  generalize v.toInt = y at hv h1
  match m, hm with
  | 0, _ =>
    have h1 : x = y / 1 := h1
    show A % 256 = B / 1 % 256
    split at ha <;> split at hv <;> omega
  | 1, _ =>
    have h1 : x = y / 256 := h1
    show A % 256 = B / 256 % 256
    split at ha <;> split at hv <;> omega
  | 2, _ =>
    have h1 : x = y / 65536 := h1
    show A % 256 = B / 65536 % 256
    split at ha <;> split at hv <;> omega
  | 3, _ =>
    have h1 : x = y / 16777216 := h1
    show A % 256 = B / 16777216 % 256
    split at ha <;> split at hv <;> omega
/-- a byte, of the reference and of the class -/
theorem byte_rel (v : Int32) {m : Nat} (hm : m < 4) : (∃ k : Nat, k < 128 ∧ byteM v m = nI k ∧ bC (v.toUInt32 >>> ((nI (8 * m)).toUInt32 &&& Int32.toUInt32 31)).toInt32 = nI k) ∨ (∃ k : Nat, 128 ≤ k ∧ k ≤ 255 ∧ byteM v m = nI k ∧ bC (v.toUInt32 >>> ((nI (8 * m)).toUInt32 &&& Int32.toUInt32 31)).toInt32 < 0) := by
  have e1 : byteM v m = nI (v.toBitVec.toNat / 2 ^ (8 * m) % 256) := by
    unfold byteM
    rw [pk_and _ (m := 255) 8 (by decide)]
    show nI (_ % 256) = _
    rw [by_low v hm]
  have e2 := pk_ushr v (nI (8 * m)) (8 * m) (sh_all ⟨m, hm⟩).2
  generalize (v.toUInt32 >>> ((nI (8 * m)).toUInt32 &&& Int32.toUInt32 31)).toInt32 = x at e2 ⊢
  have e3 : bC x = (nI (v.toBitVec.toNat / 2 ^ (8 * m) % 256)).toInt8.toInt32 := by
    unfold bC
    rw [pk_vb, ← fa_byte_low x, pk_and x (m := 255) 8 (by decide), e2]
  rw [e1, e3]
  have hk : v.toBitVec.toNat / 2 ^ (8 * m) % 256 < 256 := Nat.mod_lt _ (by decide)
  generalize v.toBitVec.toNat / 2 ^ (8 * m) % 256 = k at hk
  have h := nb_all ⟨k, hk⟩
  by_cases c : k < 128
  · exact Or.inl ⟨k, c, rfl, h.1 c⟩
  · exact Or.inr ⟨k, by omega, by omega, rfl, h.2 (by show 128 ≤ k; omega)⟩
