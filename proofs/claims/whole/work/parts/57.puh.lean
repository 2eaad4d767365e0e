/-! bits: a stream of T bits of the number V -/
theorem div_add8 {V c T k : Nat} (h : 8 * k ≤ T) : (V + c * 2 ^ T) / 2 ^ (8 * k) = V / 2 ^ (8 * k) + c * 2 ^ (T - 8 * k) := by
  have e : 2 ^ T = 2 ^ (T - 8 * k) * 2 ^ (8 * k) := by rw [← Nat.pow_add]; congr 1; omega
  rw [e, ← Nat.mul_assoc, Nat.add_mul_div_right _ _ (Nat.two_pow_pos _)]
theorem byte_keep {V c T k : Nat} (h : 8 * k + 8 ≤ T) : (V + c * 2 ^ T) / 2 ^ (8 * k) % 256 = V / 2 ^ (8 * k) % 256 := by
  rw [div_add8 (by omega)]
  have e : 2 ^ (T - 8 * k) = 256 * 2 ^ (T - 8 * k - 8) := by
    rw [show (256 : Nat) = 2 ^ 8 from rfl, ← Nat.pow_add]; congr 1; omega
  rw [e, Nat.mul_left_comm, Nat.add_mul_mod_self_left]
theorem div_lt8 {V T k : Nat} (hV : V < 2 ^ T) (h : 8 * k ≤ T) : V / 2 ^ (8 * k) < 2 ^ (T - 8 * k) := by
  rw [Nat.div_lt_iff_lt_mul (Nat.two_pow_pos _), ← Nat.pow_add, show T - 8 * k + 8 * k = T by omega]
  exact hV
theorem or_add {a c m : Nat} (h : a < 2 ^ m) : a ||| (c * 2 ^ m) = a + c * 2 ^ m := by
  have := Nat.two_pow_add_eq_or_of_lt h c
  rw [Nat.or_comm, Nat.mul_comm c, Nat.add_comm, this]
theorem V_lt {V c T w : Nat} (hV : V < 2 ^ T) (hc : c < 2 ^ w) : V + c * 2 ^ T < 2 ^ (T + w) := by
  have h1 : (c + 1) * 2 ^ T ≤ 2 ^ w * 2 ^ T := Nat.mul_le_mul_right _ hc
  rw [Nat.succ_mul] at h1
  rw [Nat.pow_add, Nat.mul_comm (2 ^ T)]
  omega
theorem p2le {a c : Nat} (h : a ≤ c) : 2 ^ a ≤ 2 ^ c := Nat.pow_le_pow_right (by decide) h
theorem byS {x : Nat} (h : x < 128) : vp_nar .byte (nI x) = nI x := by
  have : ∀ j : Nat, j < 128 → vp_nar .byte (nI j) = nI j := by decide +kernel
  exact this x h
def CB (V T : Nat) (C : xF) : Prop := C 6 1 = nI (T / 8) ∧ C 5 8 = nI (V / 2 ^ (8 * (T / 8))) ∧ C 5 9 = nI (T % 8) ∧ ∀ k, k < T / 8 → C 7 k = nI (V / 2 ^ (8 * k) % 256)
def MB (V T : Nat) (M : xF) : Prop := M 71 20 = nI T ∧ ∀ k, 8 * k < T → M 73 k = vp_nar .byte (nI (V / 2 ^ (8 * k) % 256))
section BI
variable {n N V T wd c : Nat} {p0 : Int32}
theorem cw_loop {V' T' : Nat} (hV : V' < 2 ^ T') (hT : T' ≤ 144480) : ∀ (d q fu : Nat) (C : xF), q + d = T' / 8 → d < fu → T' ≤ 8 * q + 31 → C 6 1 = nI q → C 5 8 = nI (V' / 2 ^ (8 * q)) → C 5 9 = nI (T' - 8 * q) → ∃ C', t_Co_write (SS n) N 5 p0 fu (nI d) C = some C' ∧ C' 6 1 = nI (T' / 8) ∧ C' 5 8 = nI (V' / 2 ^ (8 * (T' / 8))) ∧ C' 5 9 = nI (T' % 8) ∧ (∀ k, q ≤ k → k < T' / 8 → C' 7 k = nI (V' / 2 ^ (8 * k) % 256)) ∧ (∀ k, k < q → C' 7 k = C 7 k) ∧ (∀ a, a ≠ 5 → a ≠ 6 → a ≠ 7 → C' a = C a) ∧ (∀ j, j ≠ 8 → j ≠ 9 → C' 5 j = C 5 j) := by
  intro d
  induction d with
  | zero =>
    intro q fu C hq hf h31 h6 h8 h9
    obtain ⟨fu, rfl⟩ : ∃ z, fu = z + 1 := ⟨fu - 1, by omega⟩
    have : q = T' / 8 := by omega
    subst this
    refine ⟨C, ?_, h6, h8, ?_, fun k q1 q2 => by omega, fun k _ => rfl, fun a _ _ _ => rfl, fun j _ _ => rfl⟩
    · rw [t_Co_write, if_pos (by decide)]
    · rw [h9]; congr 1; omega
  | succ d ih =>
    intro q fu C hq hf h31 h6 h8 h9
    obtain ⟨fu, rfl⟩ : ∃ z, fu = z + 1 := ⟨fu - 1, by omega⟩
    have hx : V' / 2 ^ (8 * q) < 4294967296 := by
      have h1 := div_lt8 hV (show 8 * q ≤ T' by omega)
      have h2 := p2le (show T' - 8 * q ≤ 31 by omega)
      have h3 : (2 : Nat) ^ 31 = 2147483648 := by decide
      omega
    have e1 : nI (V' / 2 ^ (8 * q)) &&& 255 = nI (V' / 2 ^ (8 * q) % 256) := pk_andN hx 8 (by decide)
    have e2 : V' / 2 ^ (8 * q) / 2 ^ 8 = V' / 2 ^ (8 * (q + 1)) := by rw [Nat.div_div_eq_div_mul, ← Nat.pow_add]; congr 1
    have e3 := nI_ur (a := V' / 2 ^ (8 * q)) (k := 8) hx (by decide)
    rw [show nI 8 = (8 : Int32) from rfl, e2] at e3
    have c1 : ¬ nI (d + 1) ≤ 0 := nI_nle (by omega) (by omega)
    obtain ⟨C1, hC1⟩ : ∃ C1, C1 = up2 (up2 (up2 (up2 C 7 q (nI (V' / 2 ^ (8 * q) % 256))) 6 1 (nI (q + 1))) 5 8 (nI (V' / 2 ^ (8 * (q + 1))))) 5 9 (nI (T' - 8 * q - 8)) := ⟨_, rfl⟩
    have r1 : C1 6 1 = nI (q + 1) := by rw [hC1]; simp [up2]
    have r2 : C1 5 8 = nI (V' / 2 ^ (8 * (q + 1))) := by rw [hC1]; simp [up2]
    have r3 : C1 5 9 = nI (T' - 8 * (q + 1)) := by rw [hC1, up2_eq]; congr 1
    have r4 : C1 7 = up2 C 7 q (nI (V' / 2 ^ (8 * q) % 256)) 7 := by rw [hC1, up2_row _ _ _ _ (by decide), up2_row _ _ _ _ (by decide), up2_row _ _ _ _ (by decide)]
    have r5 : ∀ a, a ≠ 5 → a ≠ 6 → a ≠ 7 → C1 a = C a := fun a q1 q2 q3 => by rw [hC1, up2_row _ _ _ _ q1, up2_row _ _ _ _ q1, up2_row _ _ _ _ q2, up2_row _ _ _ _ q3]
    have r6 : ∀ j, j ≠ 8 → j ≠ 9 → C1 5 j = C 5 j := fun j q1 q2 => by rw [hC1, up2_ne _ _ _ _ (Or.inr q2), up2_ne _ _ _ _ (Or.inr q1), up2_row _ _ _ _ (by decide), up2_row _ _ _ _ (by decide)]
    obtain ⟨C', k1, k2, k3, k4, k5, k6, k7, k8⟩ := ih (q + 1) fu C1 (by omega) (by omega) (by omega) r1 r2 r3
    refine ⟨C', ?_, k2, k3, k4, fun k q1 q2 => ?_, fun k q1 => ?_, fun a q1 q2 q3 => ?_, fun j q1 q2 => ?_⟩
    · rw [t_Co_write, if_neg c1]
      have na := Nu_add_of (v := nI (V' / 2 ^ (8 * q) % 256)) (Nu6 n) h6 (show q < 18060 by omega)
      have s58 : up2 (up2 C 7 q (nI (V' / 2 ^ (8 * q) % 256))) 6 1 (nI (q + 1)) 5 8 = nI (V' / 2 ^ (8 * q)) := by rw [up2_row _ _ _ _ (by decide), up2_row _ _ _ _ (by decide)]; exact h8
      have s59 : up2 (up2 (up2 C 7 q (nI (V' / 2 ^ (8 * q) % 256))) 6 1 (nI (q + 1))) 5 8 (nI (V' / 2 ^ (8 * (q + 1)))) 5 9 = nI (T' - 8 * q) := by rw [up2_ne _ _ _ _ (Or.inr (by decide)), up2_row _ _ _ _ (by decide), up2_row _ _ _ _ (by decide)]; exact h9
      have s8 : nI (T' - 8 * q) - 8 = nI (T' - 8 * q - 8) := by rw [show (8 : Int32) = nI 8 from rfl, nI_sub (by omega)]
      simp only [gR_5_4, gI_5_8, h8, Option.bind_some, e1, xcl_6, na, s58, e3, pI_5_8, gI_5_9, s59, s8, pI_5_9, pk_m1]
      rw [← hC1]
      exact k1
    · by_cases hk : k = q
      · subst hk
        rw [k6 k (by omega), r4, up2_eq]
      · exact k5 k (by omega) q2
    · rw [k6 k (by omega), r4, up2_ne _ _ _ _ (Or.inr (by omega))]
    · rw [k7 a q1 q2 q3, r5 a q1 q2 q3]
    · rw [k8 j q1 q2, r6 j q1 q2]
theorem cwrite_of {C : xF} (hB : CB V T C) (hV : V < 2 ^ T) (hw : C 8 2 = nI wd) (hwd : wd ≤ 12) (hc : c < 2 ^ wd) (hT : T + wd ≤ 144480) (hN : 100 < N) : ∃ C', f_Co_write (SS n) N 5 (nI c) C = some C' ∧ CB (V + c * 2 ^ T) (T + wd) C' ∧ C' 5 5 = C 5 5 + 1 ∧ C' 5 7 = nI wd ∧ (∀ a, a ≠ 5 → a ≠ 6 → a ≠ 7 → C' a = C a) ∧ (∀ j, j ≠ 5 → j ≠ 7 → j ≠ 8 → j ≠ 9 → C' 5 j = C 5 j) := by
  obtain ⟨b1, b2, b3, b4⟩ := hB
  have hc12 : c < 4096 := Nat.lt_of_lt_of_le hc (p2le hwd)
  have hx := div_lt8 hV (show 8 * (T / 8) ≤ T by omega)
  rw [show T - 8 * (T / 8) = T % 8 by omega] at hx
  have hp : 2 ^ (T % 8) ≤ 128 := p2le (show T % 8 ≤ 7 by omega)
  have hx2 : c * 2 ^ (T % 8) < 1048576 := Nat.lt_of_le_of_lt (Nat.mul_le_mul (show c ≤ 4095 by omega) hp) (by decide)
  have e1 : nI (V / 2 ^ (8 * (T / 8))) ||| (nI c <<< (nI (T % 8) &&& 31)) = nI ((V + c * 2 ^ T) / 2 ^ (8 * (T / 8))) := by
    rw [nI_sl (by omega) (by omega), nI_or (by omega) (by omega), or_add hx, div_add8 (by omega), show T - 8 * (T / 8) = T % 8 by omega]
  obtain ⟨C1, hC1⟩ : ∃ C1, C1 = up2 (up2 (up2 (up2 C 5 5 (C 5 5 + 1)) 5 7 (nI wd)) 5 8 (nI ((V + c * 2 ^ T) / 2 ^ (8 * (T / 8))))) 5 9 (nI (T % 8 + wd)) := ⟨_, rfl⟩
  have r1 : ∀ a, a ≠ 5 → C1 a = C a := fun a q => by rw [hC1, up2_row _ _ _ _ q, up2_row _ _ _ _ q, up2_row _ _ _ _ q, up2_row _ _ _ _ q]
  have r8 : C1 5 8 = nI ((V + c * 2 ^ T) / 2 ^ (8 * (T / 8))) := by rw [hC1]; simp [up2]
  have r9 : C1 5 9 = nI (T + wd - 8 * (T / 8)) := by rw [hC1, up2_eq]; congr 1; omega
  have r5 : C1 5 5 = C 5 5 + 1 := by rw [hC1]; simp [up2]
  have r7 : C1 5 7 = nI wd := by rw [hC1]; simp [up2]
  have rj : ∀ j, j ≠ 5 → j ≠ 7 → j ≠ 8 → j ≠ 9 → C1 5 j = C 5 j := fun j q1 q2 q3 q4 => by rw [hC1, up2_ne _ _ _ _ (Or.inr q4), up2_ne _ _ _ _ (Or.inr q3), up2_ne _ _ _ _ (Or.inr q2), up2_ne _ _ _ _ (Or.inr q1)]
  obtain ⟨C', k1, k2, k3, k4, k5, k6, k7, k8⟩ := cw_loop (n := n) (N := N) (p0 := nI c) (V_lt hV hc) hT ((T + wd) / 8 - T / 8) (T / 8) N C1 (by omega) (by omega) (by omega) (by rw [r1 6 (by decide)]; exact b1) r8 r9
  refine ⟨C', ?_, ⟨k2, k3, k4, fun k hk => ?_⟩, ?_, ?_, fun a q1 q2 q3 => by rw [k7 a q1 q2 q3, r1 a q1], fun j q1 q2 q3 q4 => by rw [k8 j q3 q4, rj j q1 q2 q3 q4]⟩
  · unfold f_Co_write
    have s1 : up2 C 5 5 (C 5 5 + 1) 8 2 = nI wd := by rw [up2_row _ _ _ _ (by decide)]; exact hw
    have s2 : up2 (up2 C 5 5 (C 5 5 + 1)) 5 7 (nI wd) 5 8 = nI (V / 2 ^ (8 * (T / 8))) := by rw [up2_ne _ _ _ _ (Or.inr (by decide)), up2_ne _ _ _ _ (Or.inr (by decide))]; exact b2
    have s3 : up2 (up2 C 5 5 (C 5 5 + 1)) 5 7 (nI wd) 5 9 = nI (T % 8) := by rw [up2_ne _ _ _ _ (Or.inr (by decide)), up2_ne _ _ _ _ (Or.inr (by decide))]; exact b3
    have s4 : up2 (up2 (up2 C 5 5 (C 5 5 + 1)) 5 7 (nI wd)) 5 8 (nI ((V + c * 2 ^ T) / 2 ^ (8 * (T / 8)))) 5 9 = nI (T % 8) := by rw [up2_ne _ _ _ _ (Or.inr (by decide))]; exact s3
    have s5 : up2 (up2 (up2 C 5 5 (C 5 5 + 1)) 5 7 (nI wd)) 5 8 (nI ((V + c * 2 ^ T) / 2 ^ (8 * (T / 8)))) 8 2 = nI wd := by rw [up2_row _ _ _ _ (by decide), up2_row _ _ _ _ (by decide)]; exact s1
    have s6 : C1 5 9 = nI (T % 8 + wd) := by rw [hC1, up2_eq]
    have s7 : nI (T % 8 + wd) / 8 = nI ((T + wd) / 8 - T / 8) := by rw [show (8 : Int32) = nI 8 from rfl, nI_div (by omega) (by decide)]; congr 1; omega
    simp only [gI_5_5, pI_5_5, gR_5_2, gI_8_2, pI_5_7, gI_5_8, gI_5_9, pI_5_8, pI_5_9, Option.bind_some, s1, s2, s3, e1, s4, s5, nI_ad, if_neg (show ¬ (8 : Int32) = 0 by decide)]
    rw [← hC1, s6, s7]
    exact k1
  · by_cases hk2 : k < T / 8
    · rw [k6 k hk2, r1 7 (by decide), b4 k hk2, byte_keep (by omega)]
    · exact k5 k (by omega) hk
  · rw [k8 5 (by decide) (by decide), r5]
  · rw [k8 7 (by decide) (by decide), r7]
theorem mw_bit {M : xF} {t j : Nat} {Vj : Nat} (hB : MB Vj t M) (hV : Vj < 2 ^ t) (hw : M 71 21 = nI wd) (hc : c < 4096) (hj : j < wd) (hwd : wd ≤ 12) (ht : t < 144480) (fu : Nat) : ∃ M1, t_Mo_write (SS n) N 71 (nI c) (fu + 1) (nI j) M = t_Mo_write (SS n) N 71 (nI c) fu (nI (j + 1)) M1 ∧ MB (Vj + c / 2 ^ j % 2 * 2 ^ t) (t + 1) M1 ∧ (∀ a, a ≠ 71 → a ≠ 73 → M1 a = M a) ∧ (∀ j, j ≠ 20 → M1 71 j = M 71 j) := by
  obtain ⟨b1, b2⟩ := hB
  have hx := div_lt8 hV (show 8 * (t / 8) ≤ t by omega)
  rw [show t - 8 * (t / 8) = t % 8 by omega] at hx
  have hp : 2 ^ (t % 8) ≤ 128 := p2le (show t % 8 ≤ 7 by omega)
  have hbb : c / 2 ^ j % 2 < 2 := Nat.mod_lt _ (by decide)
  have hy : c / 2 ^ j % 2 * 2 ^ (t % 8) ≤ 1 * 2 ^ (t % 8) := Nat.mul_le_mul_right _ (by omega)
  have c1 : ¬ nI wd ≤ nI j := by rw [nI_le_iff (by omega) (by omega)]; omega
  have n8 : ¬ (8 : Int32) = 0 := by decide
  have e8 : nI t / 8 = nI (t / 8) := by rw [show (8 : Int32) = nI 8 from rfl, nI_div (by omega) (by decide)]
  have er : nI t - nI (t / 8) * 8 = nI (t % 8) := by
    rw [show (8 : Int32) = nI 8 from rfl, nI_mul, nI_sub (by omega)]; congr 1; omega
  have eb : (nI c >>> (nI j &&& 31)) &&& 1 = nI (c / 2 ^ j % 2) := by
    have hq : c / 2 ^ j ≤ c := Nat.div_le_self _ _
    rw [nI_sr (by omega) (by omega), show (1 : Int32) = nI 1 from rfl, nI_and (by omega) (by decide), and1]
  have es : nI (c / 2 ^ j % 2) <<< (nI (t % 8) &&& 31) = nI (c / 2 ^ j % 2 * 2 ^ (t % 8)) := nI_sl (by omega) (by omega)
  have eo : nI (Vj / 2 ^ (8 * (t / 8))) ||| nI (c / 2 ^ j % 2 * 2 ^ (t % 8)) = nI (Vj / 2 ^ (8 * (t / 8)) + c / 2 ^ j % 2 * 2 ^ (t % 8)) := by
    rw [nI_or (by omega) (by omega), or_add hx]
  have ev : vp_nar .byte (nI (Vj / 2 ^ (8 * (t / 8)) + c / 2 ^ j % 2 * 2 ^ (t % 8))).toInt8.toInt32 = vp_nar .byte (nI ((Vj + c / 2 ^ j % 2 * 2 ^ t) / 2 ^ (8 * (t / 8)) % 256)) := by
    rw [byi8 (by omega), div_add8 (by omega), show t - 8 * (t / 8) = t % 8 by omega, Nat.mod_eq_of_lt (show Vj / 2 ^ (8 * (t / 8)) + c / 2 ^ j % 2 * 2 ^ (t % 8) < 256 by omega)]
  have h8 : t / 8 < 24000 := by omega
  have fin : ∀ K : xF, (∀ a, a ≠ 73 → K a = M a) → (∀ k, k ≠ t / 8 → K 73 k = M 73 k) → K 73 (t / 8) = vp_nar .byte (nI ((Vj + c / 2 ^ j % 2 * 2 ^ t) / 2 ^ (8 * (t / 8)) % 256)) → MB (Vj + c / 2 ^ j % 2 * 2 ^ t) (t + 1) (up2 K 71 20 (nI (t + 1))) ∧ (∀ a, a ≠ 71 → a ≠ 73 → up2 K 71 20 (nI (t + 1)) a = M a) ∧ (∀ j, j ≠ 20 → up2 K 71 20 (nI (t + 1)) 71 j = M 71 j) := fun K q1 q2 q3 => by
    refine ⟨⟨up2_eq _ _ _ _, fun k hk => ?_⟩, fun a r1 r2 => by rw [up2_row _ _ _ _ r1, q1 a r2], fun j r => by rw [up2_ne _ _ _ _ (Or.inr r), q1 71 (by decide)]⟩
    rw [up2_row _ _ _ _ (by decide)]
    by_cases hk2 : k = t / 8
    · subst hk2; exact q3
    · rw [q2 k hk2, b2 k (by omega), byte_keep (by omega)]
  rw [t_Mo_write]
  simp only [gI_71_21, hw, Option.bind_some, if_neg c1, gI_71_20, b1, if_neg n8, e8, er, gR_71_8, nI_1]
  by_cases ct : t % 8 = 0
  · have cz : nI (t % 8) = 0 := by rw [ct]; rfl
    have hv0 : Vj / 2 ^ (8 * (t / 8)) = 0 := by rw [ct] at hx; exact Nat.lt_one_iff.mp hx
    have s1 : up2 M 73 (t / 8) (vp_nar .byte 0) 71 20 = nI t := by rw [up2_row _ _ _ _ (by decide)]; exact b1
    have s3 : vp_nar .byte (0 : Int32) = nI (Vj / 2 ^ (8 * (t / 8))) := by rw [hv0]; decide
    refine ⟨up2 (up2 (up2 M 73 (t / 8) (vp_nar .byte 0)) 73 (t / 8) (vp_nar .byte (nI (Vj / 2 ^ (8 * (t / 8)) + c / 2 ^ j % 2 * 2 ^ (t % 8))).toInt8.toInt32)) 71 20 (nI (t + 1)), ?_, ?_⟩
    · have s2 : up2 (up2 M 73 (t / 8) (vp_nar .byte 0)) 73 (t / 8) (vp_nar .byte (nI (Vj / 2 ^ (8 * (t / 8)) + c / 2 ^ j % 2 * 2 ^ (t % 8))).toInt8.toInt32) 71 20 = nI t := by rw [up2_row _ _ _ _ (by decide)]; exact s1
      rw [if_pos cz]
      simp only [bP_nI sh_73 h8 (show 24000 ≤ 100000 by decide), Option.bind_some, bG_nI sh_73 h8 (show 24000 ≤ 100000 by decide), up2_eq, s1, if_neg n8, e8, er, eb, es]
      rw [show (vp_nar .byte (0 : Int32) ||| nI (c / 2 ^ j % 2 * 2 ^ (t % 8))) = nI (Vj / 2 ^ (8 * (t / 8)) + c / 2 ^ j % 2 * 2 ^ (t % 8)) by rw [s3, eo]]
      simp only [gI_71_20, s2, Option.bind_some, nI_1, pI_71_20]
    · refine fin _ (fun a r => by rw [up2_row _ _ _ _ r, up2_row _ _ _ _ r]) (fun k r => by rw [up2_ne _ _ _ _ (Or.inr r), up2_ne _ _ _ _ (Or.inr r)]) ?_
      rw [up2_eq, ev]
  · have cz : ¬ nI (t % 8) = 0 := nI_ne0 (by omega) (by omega)
    have s0 : M 73 (t / 8) = nI (Vj / 2 ^ (8 * (t / 8))) := by
      rw [b2 (t / 8) (by omega), Nat.mod_eq_of_lt (show Vj / 2 ^ (8 * (t / 8)) < 256 by omega), byS (by omega)]
    refine ⟨up2 (up2 M 73 (t / 8) (vp_nar .byte (nI (Vj / 2 ^ (8 * (t / 8)) + c / 2 ^ j % 2 * 2 ^ (t % 8))).toInt8.toInt32)) 71 20 (nI (t + 1)), ?_, ?_⟩
    · have s2 : up2 M 73 (t / 8) (vp_nar .byte (nI (Vj / 2 ^ (8 * (t / 8)) + c / 2 ^ j % 2 * 2 ^ (t % 8))).toInt8.toInt32) 71 20 = nI t := by rw [up2_row _ _ _ _ (by decide)]; exact b1
      rw [if_neg cz]
      simp only [bG_nI sh_73 h8 (show 24000 ≤ 100000 by decide), Option.bind_some, s0, eb, es, eo, bP_nI sh_73 h8 (show 24000 ≤ 100000 by decide), gI_71_20, s2, nI_1, pI_71_20]
    · refine fin _ (fun a r => by rw [up2_row _ _ _ _ r]) (fun k r => by rw [up2_ne _ _ _ _ (Or.inr r)]) ?_
      rw [up2_eq, ev]
theorem mw_loop (hV : V < 2 ^ T) (hc : c < 2 ^ wd) (hwd : wd ≤ 12) (hT : T + wd ≤ 144480) : ∀ (d j fu : Nat) (M : xF), j + d = wd → d < fu → MB (V + c % 2 ^ j * 2 ^ T) (T + j) M → M 71 21 = nI wd → ∃ M', t_Mo_write (SS n) N 71 (nI c) fu (nI j) M = some M' ∧ MB (V + c * 2 ^ T) (T + wd) M' ∧ M' 74 0 = M 74 0 + 1 ∧ M' 74 2 = nI wd ∧ (∀ j, j ≠ 0 → j ≠ 2 → M' 74 j = M 74 j) ∧ (∀ a, a ≠ 71 → a ≠ 73 → a ≠ 74 → M' a = M a) ∧ (∀ j, j ≠ 20 → M' 71 j = M 71 j) := by
  have hc12 : c < 4096 := Nat.lt_of_lt_of_le hc (p2le hwd)
  intro d
  induction d with
  | zero =>
    intro j fu M hj hf hB hw
    obtain ⟨fu, rfl⟩ : ∃ z, fu = z + 1 := ⟨fu - 1, by omega⟩
    have : j = wd := by omega
    subst this
    rw [Nat.mod_eq_of_lt hc] at hB
    have c1 : nI j ≤ nI j := (nI_le_iff (by omega) (by omega)).mpr (Nat.le_refl _)
    have s1 : up2 M 74 0 (M 74 0 + 1) 71 21 = nI j := by rw [up2_row _ _ _ _ (by decide)]; exact hw
    refine ⟨up2 (up2 M 74 0 (M 74 0 + 1)) 74 2 (nI j), ?_, ?_, ?_, up2_eq _ _ _ _, fun k q1 q2 => ?_, fun a q1 q2 q3 => ?_, fun k q => ?_⟩
    · rw [t_Mo_write]
      have g0 := aG_nI (F := M) (k := 0) (sh_74 (n := n)) (by decide) (by decide)
      have p0 := aP_nI (F := M) (k := 0) (v := M 74 0 + 1) (sh_74 (n := n)) (by decide) (by decide)
      have p2 := aP_nI (F := up2 M 74 0 (M 74 0 + 1)) (k := 2) (v := nI j) (sh_74 (n := n)) (by decide) (by decide)
      rw [show nI 0 = (0 : Int32) from rfl] at g0 p0
      rw [show nI 2 = (2 : Int32) from rfl] at p2
      simp only [gI_71_21, hw, Option.bind_some, if_pos c1, gR_71_9, g0, p0, s1, p2]
    · exact ⟨by rw [up2_row _ _ _ _ (by decide), up2_row _ _ _ _ (by decide)]; exact hB.1, fun k hk => by rw [up2_row _ _ _ _ (by decide), up2_row _ _ _ _ (by decide)]; exact hB.2 k hk⟩
    · rw [up2_ne _ _ _ _ (Or.inr (by decide)), up2_eq]
    · rw [up2_ne _ _ _ _ (Or.inr q2), up2_ne _ _ _ _ (Or.inr q1)]
    · rw [up2_row _ _ _ _ q3, up2_row _ _ _ _ q3]
    · rw [up2_row _ _ _ _ (by decide), up2_row _ _ _ _ (by decide)]
  | succ d ih =>
    intro j fu M hj hf hB hw
    obtain ⟨fu, rfl⟩ : ∃ z, fu = z + 1 := ⟨fu - 1, by omega⟩
    obtain ⟨M1, e1, e2, e3, e4⟩ := mw_bit (n := n) (N := N) hB (V_lt hV (Nat.mod_lt _ (Nat.two_pow_pos j))) hw hc12 (show j < wd by omega) hwd (by omega) fu
    have ee : V + c % 2 ^ j * 2 ^ T + c / 2 ^ j % 2 * 2 ^ (T + j) = V + c % 2 ^ (j + 1) * 2 ^ T := by
      rw [Nat.mod_pow_succ, Nat.add_mul, Nat.pow_add, Nat.add_assoc]
      congr 2
      rw [Nat.mul_comm (2 ^ j), Nat.mul_assoc, Nat.mul_comm (2 ^ T)]
    rw [ee] at e2
    obtain ⟨M', k1, k2, k3, k4, k5, k6, k7⟩ := ih (j + 1) fu M1 (by omega) (by omega) e2 (by rw [e4 21 (by decide)]; exact hw)
    refine ⟨M', by rw [e1]; exact k1, k2, by rw [k3, e3 74 (by decide) (by decide)], k4, fun k q1 q2 => by rw [k5 k q1 q2, e3 74 (by decide) (by decide)], fun a q1 q2 q3 => by rw [k6 a q1 q2 q3, e3 a q1 q2], fun k q => by rw [k7 k q, e4 k q]⟩
theorem mwrite_of {M : xF} (hB : MB V T M) (hV : V < 2 ^ T) (hw : M 71 21 = nI wd) (hwd : wd ≤ 12) (hc : c < 2 ^ wd) (hT : T + wd ≤ 144480) (hN : 100 < N) : ∃ M', f_Mo_write (SS n) N 71 (nI c) M = some M' ∧ MB (V + c * 2 ^ T) (T + wd) M' ∧ M' 74 0 = M 74 0 + 1 ∧ M' 74 2 = nI wd ∧ (∀ j, j ≠ 0 → j ≠ 2 → M' 74 j = M 74 j) ∧ (∀ a, a ≠ 71 → a ≠ 73 → a ≠ 74 → M' a = M a) ∧ (∀ j, j ≠ 20 → M' 71 j = M 71 j) := by
  unfold f_Mo_write
  exact mw_loop (n := n) (N := N) hV hc hwd hT wd 0 N M (by omega) (by omega) (by rw [show (2 : Nat) ^ 0 = 1 from rfl, Nat.mod_one, Nat.zero_mul]; exact hB) hw
end BI
