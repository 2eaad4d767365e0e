/-! small numbers -/
theorem lit32 (k : Nat) : (OfNat.ofNat k : Int32) = nI k := rfl
theorem nI_ad (a b : Nat) : nI a + nI b = nI (a + b) := by unfold nI; exact (Int32.ofNat_add a b).symm
theorem nI_mul (a b : Nat) : nI a * nI b = nI (a * b) := by unfold nI; exact (Int32.ofNat_mul a b).symm
theorem nI_sub {a b : Nat} (h : b ≤ a) : nI a - nI b = nI (a - b) := by
  have h1 : nI (a - b) + nI b = nI a := by rw [nI_ad, Nat.sub_add_cancel h]
  rw [← h1, Int32.add_sub_cancel]
theorem nI_lt_iff {a b : Nat} (ha : a < 2147483648) (hb : b < 2147483648) : nI a < nI b ↔ a < b := by
  rw [Int32.lt_iff_toInt_lt, nI_toInt ha, nI_toInt hb]; omega
theorem nI_le_iff {a b : Nat} (ha : a < 2147483648) (hb : b < 2147483648) : nI a ≤ nI b ↔ a ≤ b := by
  rw [Int32.le_iff_toInt_le, nI_toInt ha, nI_toInt hb]; omega
theorem nI_eq_iff {a b : Nat} (ha : a < 2147483648) (hb : b < 2147483648) : nI a = nI b ↔ a = b := by
  rw [← Int32.toInt_inj, nI_toInt ha, nI_toInt hb]; omega
theorem nI_cl {a : Nat} (ha : a < 2147483648) : (nI a).toNatClampNeg = a := nI_clamp ha
theorem nI_ex {x : Int32} (h : 0 ≤ x.toInt) : ∃ k : Nat, x = nI k ∧ k < 2147483648 ∧ (k : Int) = x.toInt := by
  refine ⟨x.toInt.toNat, ?_, ?_, ?_⟩
  · rw [← Int32.toInt_inj, nI_toInt]
    · omega
    · have := Int32.toInt_lt x; omega
  · have := Int32.toInt_lt x; omega
  · omega
/-- x is a number from lo to hi -/
theorem nI_rng {x : Int32} {lo hi : Nat} (h1 : ¬ x < nI lo) (h2 : x ≤ nI hi) (hl : lo < 2147483648) (hh : hi < 2147483648) : ∃ k : Nat, x = nI k ∧ lo ≤ k ∧ k ≤ hi := by
  rw [Int32.lt_iff_toInt_lt, nI_toInt hl] at h1
  rw [Int32.le_iff_toInt_le, nI_toInt hh] at h2
  obtain ⟨k, h3, h4, h5⟩ := nI_ex (x := x) (by omega)
  exact ⟨k, h3, by omega, by omega⟩
theorem neg1_ne {a : Nat} (ha : a < 2147483648) : nI a ≠ -1 := by
  intro h
  have := congrArg Int32.toInt h
  rw [nI_toInt ha] at this
  have h2 : (-1 : Int32).toInt = -1 := by decide
  omega
section PU1
variable {S : List xO} {F : xF} {a k L : Nat} {v : Int32}
theorem aG_nI (hS : S[a]? = some (.inl (0, L))) (hk : k < L) (hL : L ≤ 100000) : aG S a (nI k) F = some (F a k) := by
  unfold aG; rw [hS]
  show (if 0 ≤ (nI k).toInt ∧ (nI k).toInt < L then _ else _) = _
  rw [nI_toInt (show k < 2147483648 by omega), if_pos (by omega), nI_cl (by omega)]
theorem aP_nI (hS : S[a]? = some (.inl (0, L))) (hk : k < L) (hL : L ≤ 100000) : aP S a (nI k) v F = some (up2 F a k v) := by
  unfold aP; rw [hS]
  show (if 0 ≤ (nI k).toInt ∧ (nI k).toInt < L then _ else _) = _
  rw [nI_toInt (show k < 2147483648 by omega), if_pos (by omega), nI_cl (by omega)]
theorem bG_nI (hS : S[a]? = some (.inl (3, L))) (hk : k < L) (hL : L ≤ 100000) : bG S a (nI k) F = some (F a k) := by
  unfold bG; rw [hS]
  show (if 0 ≤ (nI k).toInt ∧ (nI k).toInt < L then _ else _) = _
  rw [nI_toInt (show k < 2147483648 by omega), if_pos (by omega), nI_cl (by omega)]
theorem bP_nI (hS : S[a]? = some (.inl (3, L))) (hk : k < L) (hL : L ≤ 100000) : bP S a (nI k) v F = some (up2 F a k (vp_nar .byte v)) := by
  unfold bP; rw [hS]
  show (if 0 ≤ (nI k).toInt ∧ (nI k).toInt < L then _ else _) = _
  rw [nI_toInt (show k < 2147483648 by omega), if_pos (by omega), nI_cl (by omega)]
end PU1
/-- a row with a bound: the object a, its items a + 1 -/
def NuOK (S : List xO) (a L : Nat) : Prop := S[a]? = some (.inr (.inr (0, [some (.ref (a + 1)), none]))) ∧ S[a + 1]? = some (.inl (0, L)) ∧ L ≤ 24000
theorem Nu1 (n : Nat) : NuOK (SS n) 1 12000 := ⟨rfl, rfl, by decide⟩
theorem Nu3 (n : Nat) : NuOK (SS n) 3 24000 := ⟨rfl, rfl, by decide⟩
theorem Nu6 (n : Nat) : NuOK (SS n) 6 18060 := ⟨rfl, rfl, by decide⟩
theorem Nu14 (n : Nat) : NuOK (SS n) 14 12000 := ⟨rfl, rfl, by decide⟩
section NU
variable {S : List xO} {F : xF} {a k z L : Nat} {v : Int32}
theorem NuOK.gR (h : NuOK S a L) : gR S 0 a 0 = some (a + 1) := by unfold Jvm.Pilot.CPaletteFramesLaw_law_r5226_176871.gR; rw [h.1]; rfl
theorem NuOK.gI (h : NuOK S a L) : gI S 0 a 1 F = some (F a 1) := gI_of h.1 rfl
theorem NuOK.pI (h : NuOK S a L) : pI S 0 a 1 v F = some (up2 F a 1 v) := pI_of h.1 rfl
theorem NuOK.xcl {α : Type} {o : Option α} (h : NuOK S a L) : xcl S 0 a o = o := xcl_of h.1
theorem Nu_room_of (h : NuOK S a L) (hz : F a 1 = nI z) (hl : z ≤ L) : f_Nu_room S a F = some (nI (L - z)) := by
  unfold f_Nu_room
  rw [h.gR, Option.bind_some, aN_of h.2.1, Option.bind_some, h.gI, Option.bind_some, hz, nI_sub hl]
theorem Nu_has_of (h : NuOK S a L) (hz : F a 1 = nI z) (hl : z ≤ L) : f_Nu_has S a v F = some (if 0 ≤ v.toInt ∧ v.toInt < z then 1 else 0) := by
  have hL := h.2.2
  unfold f_Nu_has
  by_cases c1 : v < 0
  · rw [if_pos c1, if_neg]
    rw [Int32.lt_iff_toInt_lt] at c1
    have : (0 : Int32).toInt = 0 := by decide
    omega
  · rw [if_neg c1, h.gI, Option.bind_some, hz]
    rw [Int32.lt_iff_toInt_lt] at c1
    have h0 : (0 : Int32).toInt = 0 := by decide
    by_cases c2 : nI z ≤ v
    · rw [if_pos c2, if_neg]
      rw [Int32.le_iff_toInt_le, nI_toInt (by omega)] at c2
      omega
    · rw [if_neg c2, if_pos]
      rw [Int32.le_iff_toInt_le, nI_toInt (by omega)] at c2
      omega
theorem Nu_get_of (h : NuOK S a L) (hz : F a 1 = nI z) (hl : z ≤ L) (hk : k < z) : f_Nu_get S a (nI k) F = some (F (a + 1) k) := by
  have hL := h.2.2
  unfold f_Nu_get
  rw [h.xcl, Nu_has_of h hz hl, Option.bind_some, nI_toInt (show k < 2147483648 by omega), if_pos (show 0 ≤ (k : Int) ∧ (k : Int) < z by omega), if_neg (by decide), h.gR, Option.bind_some, aG_nI h.2.1 (by omega) (by omega), Option.bind_some]
theorem Nu_add_of (h : NuOK S a L) (hz : F a 1 = nI z) (hl : z < L) : f_Nu_add S a v F = some (up2 (up2 F (a + 1) z v) a 1 (nI (z + 1))) := by
  have hL := h.2.2
  unfold f_Nu_add
  have c1 : ¬ nI L ≤ nI z := by rw [nI_le_iff (by omega) (by omega)]; omega
  have h1 : up2 F (a + 1) z v a 1 = nI z := by rw [up2_ne F (a + 1) z v (Or.inl (by omega)), hz]
  simp only [h.gI, h.gR, h.pI, aN_of h.2.1, Option.bind_some, hz, if_neg c1, aP_nI h.2.1 hl (show L ≤ 100000 by omega), h1, nI_succ]
theorem Nu_empty_of (h : NuOK S a L) : f_Nu_empty S a F = some (up2 F a 1 (nI 0)) := by
  unfold f_Nu_empty
  rw [h.pI, Option.bind_some]; rfl
end NU
