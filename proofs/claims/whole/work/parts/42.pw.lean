/-! bits of small numbers -/
theorem nI_tn {a : Nat} (h : a < 4294967296) : (nI a).toBitVec.toNat = a := by
  unfold nI
  rw [Int32.toBitVec_ofNat', BitVec.toNat_ofNat]
  exact Nat.mod_eq_of_lt h
theorem nI_bv {x : Int32} {a : Nat} (h : x.toBitVec.toNat = a) : x = nI a := by
  apply Int32.toBitVec_inj.mp
  apply BitVec.eq_of_toNat_eq
  have h2 : a < 4294967296 := by rw [← h]; exact x.toBitVec.isLt
  rw [nI_tn h2, h]
theorem nI_and {a b : Nat} (ha : a < 4294967296) (hb : b < 4294967296) : nI a &&& nI b = nI (a &&& b) := by
  apply nI_bv
  rw [Int32.toBitVec_and, BitVec.toNat_and, nI_tn ha, nI_tn hb]
theorem nI_or {a b : Nat} (ha : a < 4294967296) (hb : b < 4294967296) : nI a ||| nI b = nI (a ||| b) := by
  apply nI_bv
  rw [Int32.toBitVec_or, BitVec.toNat_or, nI_tn ha, nI_tn hb]
theorem nI_div {a b : Nat} (ha : a < 2147483648) (hb : b < 2147483648) : nI a / nI b = nI (a / b) := by
  have hc : a / b < 2147483648 := Nat.lt_of_le_of_lt (Nat.div_le_self a b) ha
  have h1 : nI a ≠ Int32.minValue := by
    intro h
    have h2 := congrArg Int32.toInt h
    rw [nI_toInt ha] at h2
    have h3 : Int32.minValue.toInt = -2147483648 := by decide
    omega
  have h4 := Int32.toInt_div_of_ne_left (nI a) (nI b) h1
  rw [← Int32.toInt_inj, h4, nI_toInt ha, nI_toInt hb, nI_toInt hc, Int.tdiv_eq_ediv_of_nonneg (by omega), Int.natCast_ediv]
theorem and1 (a : Nat) : a &&& 1 = a % 2 := Nat.and_two_pow_sub_one_eq_mod a 1
theorem and_lo (x : Int32) {m : Nat} (hm : m < 4294967296) : ∃ s : Nat, s ≤ m ∧ x &&& nI m = nI s := by
  refine ⟨(x &&& nI m).toBitVec.toNat, ?_, nI_bv rfl⟩
  rw [Int32.toBitVec_and, BitVec.toNat_and, nI_tn hm]
  exact Nat.and_le_right
theorem nI_sl {a k : Nat} (ha : a * 2 ^ k < 4294967296) (hk : k < 32) : nI a <<< (nI k &&& 31) = nI (a * 2 ^ k) := by
  have h31 : nI k &&& 31 = nI k := by
    have h1 : (31 : Int32) = nI 31 := rfl
    rw [h1, nI_and (by omega) (by omega), Nat.and_two_pow_sub_one_eq_mod k 5]
    rw [Nat.mod_eq_of_lt (by omega)]
  rw [h31]
  apply nI_bv
  have ha2 : a < 4294967296 := Nat.lt_of_le_of_lt (Nat.le_mul_of_pos_right a (Nat.two_pow_pos k)) ha
  rw [Int32.toBitVec_shiftLeft]
  have h2 : ((nI k).toBitVec.smod 32).toNat = k := by
    have : ∀ j : Nat, j < 32 → ((nI j).toBitVec.smod 32).toNat = j := by decide +kernel
    exact this k hk
  rw [BitVec.shiftLeft_eq', h2, BitVec.toNat_shiftLeft, nI_tn ha2, Nat.shiftLeft_eq]
  exact Nat.mod_eq_of_lt ha
theorem nI_sr {a k : Nat} (ha : a < 2147483648) (hk : k < 32) : nI a >>> (nI k &&& 31) = nI (a / 2 ^ k) := by
  have h31 : nI k &&& 31 = nI k := by
    have h1 : (31 : Int32) = nI 31 := rfl
    rw [h1, nI_and (by omega) (by omega), Nat.and_two_pow_sub_one_eq_mod k 5]
    rw [Nat.mod_eq_of_lt (by omega)]
  rw [h31]
  have hd : a / 2 ^ k < 2147483648 := Nat.lt_of_le_of_lt (Nat.div_le_self a _) ha
  rw [← Int32.toInt_inj, nI_toInt hd]
  have h2 : ((nI k).toBitVec.smod 32).toNat = k := by
    have : ∀ j : Nat, j < 32 → ((nI j).toBitVec.smod 32).toNat = j := by decide +kernel
    exact this k hk
  show ((nI a) >>> (nI k)).toBitVec.toInt = _
  rw [Int32.toBitVec_shiftRight, BitVec.sshiftRight_eq', h2, BitVec.toInt_sshiftRight]
  have h3 : (nI a).toBitVec.toInt = (a : Int) := nI_toInt ha
  rw [h3, Int.shiftRight_eq_div_pow]
  exact (Int.natCast_ediv a (2 ^ k)).symm
theorem nI_ur {a k : Nat} (ha : a < 4294967296) (hk : k < 32) : ((nI a).toUInt32 >>> ((nI k).toUInt32 &&& Int32.toUInt32 31)).toInt32 = nI (a / 2 ^ k) := by
  apply nI_bv
  have h2 : ((nI k).toUInt32 &&& Int32.toUInt32 31).toNat % 32 = k := by
    have : ∀ j : Nat, j < 32 → ((nI j).toUInt32 &&& Int32.toUInt32 31).toNat % 32 = j := by decide +kernel
    exact this k hk
  show ((nI a).toUInt32 >>> ((nI k).toUInt32 &&& Int32.toUInt32 31)).toNat = _
  rw [UInt32.toNat_shiftRight, h2, Nat.shiftRight_eq_div_pow]
  have h3 : (nI a).toUInt32.toNat = a := nI_tn ha
  rw [h3]
theorem sh1 {b : Nat} (hb : b ≤ 12) : (1 : Int32) <<< (nI b &&& 31) = nI (2 ^ b) := by
  have : ∀ j : Nat, j < 13 → (1 : Int32) <<< (nI j &&& 31) = nI (2 ^ j) := by decide +kernel
  exact this b (by omega)
theorem pw8 {b : Nat} (h2 : 2 ≤ b) (h8 : b ≤ 8) : 4 ≤ 2 ^ b ∧ 2 ^ b ≤ 256 := by
  have : ∀ j : Nat, j < 9 → 2 ≤ j → 4 ≤ 2 ^ j ∧ 2 ^ j ≤ 256 := by decide
  exact this b (by omega) h2
theorem by255 {s : Nat} (h : s < 256) : vp_nar .byte (nI s) &&& 255 = nI s := by
  have : ∀ j : Nat, j < 256 → vp_nar .byte (nI j) &&& 255 = nI j := by decide +kernel
  exact this s h
theorem byi8 {s : Nat} (h : s < 256) : vp_nar .byte (nI s).toInt8.toInt32 = vp_nar .byte (nI s) := by
  have : ∀ j : Nat, j < 256 → vp_nar .byte (nI j).toInt8.toInt32 = vp_nar .byte (nI j) := by decide +kernel
  exact this s h
theorem by2 {s : Nat} (h : s < 256) : vp_nar .byte (vp_nar .byte (nI s)) = vp_nar .byte (nI s) := by
  have : ∀ j : Nat, j < 256 → vp_nar .byte (vp_nar .byte (nI j)) = vp_nar .byte (nI j) := by decide +kernel
  exact this s h
