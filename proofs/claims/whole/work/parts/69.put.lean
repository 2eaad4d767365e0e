/-! decode: the call -/
def FinD (b : Nat) (C M C' M' : xF) (vr rr : Int32) : Prop := ∃ q : Nat, q ≤ 12000 ∧ C' 14 1 = nI q ∧ M' 71 12 = nI q ∧ (∀ k, k < q → ∃ s : Nat, s < 2 ^ b ∧ C' 15 k = nI s ∧ M' 76 k = nI s) ∧ FrCd C C' ∧ C' 13 0 = nI (2 ^ b) ∧ C' 13 1 = nI (2 ^ b + 1) ∧ C' 18 0 = nI b ∧ C' 18 1 = nI (2 ^ b + 1) ∧ (∀ a, a ≠ 71 → a ≠ 76 → (a < 77 ∨ 81 < a) → M' a = M a) ∧ (∀ j, j ≠ 10 → j ≠ 12 → j ≠ 14 → j ≠ 20 → j ≠ 21 → j ≠ 22 → M' 71 j = M 71 j) ∧ M' 71 10 = 0 ∧ ((vr = -1 ∧ rr = nI q) ∨ ∃ c : Nat, c < 4096 ∧ vr = nI c ∧ rr = -1 - nI c)
section DR
variable {b n N z q w wd sc t c V L : Nat} {out pk bg ln : Nat → Nat} {bf : Option Nat} {C M C0 M0 C' M' M1 F : xF} {G : xL} {vr rr u1 u2 u3 u4 u5 u6 : Int32}
theorem FinD.tr (h : FinD b C M C' M' vr rr) (h1 : FrCd C0 C) (h2 : FrMd M0 M) : FinD b C0 M0 C' M' vr rr := by
  obtain ⟨q, k1, k2, k3, k4, k5, k6, k7, k8, k9, k10, k11, k12, k13⟩ := h
  exact ⟨q, k1, k2, k3, k4, h1.tr k5, k6, k7, k8, k9, fun a r1 r2 r3 => by rw [k10 a r1 r2 r3, h2.1 a r1 r2 r3], fun j r0 r1 r2 r3 r4 r5 => by rw [k11 j r0 r1 r2 r3 r4 r5, h2.2 j r1 r2 r3 r4 r5], k12, k13⟩
/-- it stops here -/
theorem FinD.st (hI : DI b q out z L pk bg ln bf wd) (hC : CD b w V q out L bg ln wd sc C) (hM : MD b w V t q out z pk ln wd sc M) (hv : (vr = -1 ∧ rr = nI q) ∨ ∃ c : Nat, c < 4096 ∧ vr = nI c ∧ rr = -1 - nI c) : FinD b C M C (up2 M 71 10 0) vr rr := by
  obtain ⟨c1, c2, c3, c4, c5, c6, c7, c8, c9, c10, c11, c12⟩ := hC
  refine ⟨q, hI.2.2.1, c1, ?_, fun k hk => ⟨out k, hI.2.2.2.2.2.2.2.2.1 k hk, c2 k hk, ?_⟩, FrCd.rf, c3, c4, c7, c8, fun a r1 r2 r3 => up2_row _ _ _ _ r1, fun j r0 r1 r2 r3 r4 r5 => up2_ne _ _ _ _ (Or.inr r0), up2_eq _ _ _ _, hv⟩
  · rw [up2_ne _ _ _ _ (Or.inr (by decide))]; exact hM.1
  · rw [up2_row _ _ _ _ (by decide)]; exact hM.2.1 k hk
theorem md_off (fu : Nat) (h12 : M 71 12 = nI q) : t_Mo_decode (SS n) N 71 (fu + 1 + 1) 0 u1 (-1) 0 u4 u5 u6 M = some (nI q, up2 M 71 10 0) := by
  rw [md0_off, md8, if_pos (by decide), h12]
theorem rst_of (h1 : C 13 1 = nI (2 ^ b + 1)) (h0 : C 18 0 = nI b) : f_Re_restart (SS n) 13 C = some (up2 (up2 (up2 C 13 6 (nI (2 ^ b + 1))) 18 2 (nI (b + 1))) 18 3 0) := by
  unfold f_Re_restart f_Wi_restart
  have s1 : up2 C 13 6 (nI (2 ^ b + 1)) 18 0 = nI b := by rw [up2_row _ _ _ _ (by decide)]; exact h0
  simp only [gI_13_1, h1, Option.bind_some, pI_13_6, gR_13_2, xcl_18, gI_18_0, s1, nI_1, pI_18_2, pI_18_3]
theorem CD.rst (h : CD b w V q out L bg ln wd sc C) : CD b w V q out (2 ^ b + 1) bg ln (b + 1) 0 (up2 (up2 (up2 C 13 6 (nI (2 ^ b + 1))) 18 2 (nI (b + 1))) 18 3 0) ∧ FrCd C (up2 (up2 (up2 C 13 6 (nI (2 ^ b + 1))) 18 2 (nI (b + 1))) 18 3 0) := by
  obtain ⟨c1, c2, c3, c4, c5, c6, c7, c8, c9, c10, c11, c12⟩ := h
  obtain ⟨K, hK⟩ : ∃ K, K = up2 (up2 (up2 C 13 6 (nI (2 ^ b + 1))) 18 2 (nI (b + 1))) 18 3 0 := ⟨_, rfl⟩
  rw [← hK]
  have o : ∀ a, a ≠ 13 → a ≠ 18 → K a = C a := fun a r1 r2 => by rw [hK, up2_row _ _ _ _ r2, up2_row _ _ _ _ r2, up2_row _ _ _ _ r1]
  have o13 : ∀ j, j ≠ 6 → K 13 j = C 13 j := fun j r => by rw [hK, up2_row _ _ _ _ (by decide), up2_row _ _ _ _ (by decide), up2_ne _ _ _ _ (Or.inr r)]
  have o18 : ∀ j, j ≠ 2 → j ≠ 3 → K 18 j = C 18 j := fun j r1 r2 => by rw [hK, up2_ne _ _ _ _ (Or.inr r2), up2_ne _ _ _ _ (Or.inr r1), up2_row _ _ _ _ (by decide)]
  refine ⟨⟨by rw [o 14 (by decide) (by decide)]; exact c1, fun k hk => by rw [o 15 (by decide) (by decide)]; exact c2 k hk, by rw [o13 0 (by decide)]; exact c3, by rw [o13 1 (by decide)]; exact c4, ?_, fun e q1 q2 => by omega, by rw [o18 0 (by decide) (by decide)]; exact c7, by rw [o18 1 (by decide) (by decide)]; exact c8, ?_, ?_, by rw [o 3 (by decide) (by decide)]; exact c11, fun k hk => by rw [o 4 (by decide) (by decide)]; exact c12 k hk⟩, fun a ha => o a (by omega) (by omega)⟩
  · rw [hK]; simp [up2]
  · rw [hK]; simp [up2]
  · rw [hK, up2_eq]; rfl
theorem MD.rst (h : MD b w V t q out z pk ln wd sc M) (hb2 : 2 ≤ b) (hb8 : b ≤ 8) (hN : 8200 < N) : ∃ M', f_Mo_begin (SS n) N 71 M = some M' ∧ MD b w V t q out (2 ^ b + 1) pk ln (b + 1) 0 M' ∧ FrMd M M' := by
  obtain ⟨h1, h2, h3, h4, h5, h6, h7, h8, h9, h10, h11, h12, h13⟩ := h
  obtain ⟨M', k1, k2, k3, k4, k5, k6, k7, k8⟩ := begin_of (n := n) (N := N) hb2 hb8 h6 h7 h8 hN
  have o : ∀ a, a ≠ 71 → (a < 77 ∨ 80 < a) → M' a = M a := fun a r1 r2 => k8 a r1 (by omega) (by omega) (by omega) (by omega)
  refine ⟨M', k1, ⟨?_, fun k hk => ?_, mTb.new k2 k6, k7, fun e q1 q2 => by omega, ?_, ?_, ?_, ?_, k3, k4, ?_, fun k hk => ?_⟩, ⟨fun a r1 r2 r3 => o a r1 (by omega), fun j r1 r2 r3 r4 r5 => k5 j r2 r4 r5⟩⟩
  · rw [k5 12 (by decide) (by decide) (by decide)]; exact h1
  · rw [o 76 (by decide) (by decide)]; exact h2 k hk
  · rw [k5 0 (by decide) (by decide) (by decide)]; exact h6
  · rw [k5 1 (by decide) (by decide) (by decide)]; exact h7
  · rw [k5 2 (by decide) (by decide) (by decide)]; exact h8
  · rw [k5 20 (by decide) (by decide) (by decide)]; exact h9
  · rw [k5 10 (by decide) (by decide) (by decide)]; exact h12
  · rw [o 75 (by decide) (by decide)]; exact h13 k hk
theorem dsim (hw : w ≤ 24000) (hV : V < 2 ^ (8 * w)) (hN : 20000 < N) : ∀ (d t q : Nat) (out : Nat → Nat) (z L : Nat) (pk bg ln : Nat → Nat) (bf : Option Nat) (wd sc : Nat) (C M : xF), d ≤ 64000 → 3 * (64000 - d) ≤ t → t ≤ 8 * w → sc ≤ 64000 - d → DI b q out z L pk bg ln bf wd → CD b w V q out L bg ln wd sc C → MD b w V t q out z pk ln wd sc M → ∃ C' M' vr rr, (∀ fu, d < fu → t_Re_readAll (SS n) N 13 3 fu (nI (8 * w)) (nI t) (nI (64000 - d)) C = some (vr, C')) ∧ (∀ fu, 8 * d + 20 < fu → t_Mo_decode (SS n) N 71 fu 0 (oI bf) (-1) 1 0 0 0 M = some (rr, M')) ∧ FinD b C M C' M' vr rr := by
  intro d
  induction d with
  | zero =>
    intro t q out z L pk bg ln bf wd sc C M hd ht1 ht2 hsc hI hC hM
    refine ⟨C, up2 M 71 10 0, -1, nI q, fun fu hf => ?_, fun fu hf => ?_, FinD.st hI hC hM (Or.inl ⟨rfl, rfl⟩)⟩
    · obtain ⟨fu, rfl⟩ : ∃ y, fu = y + 1 := ⟨fu - 1, by omega⟩
      rw [t_Re_readAll, if_pos (by decide)]
    · obtain ⟨fu, rfl⟩ : ∃ y, fu = y + 1 + 1 := ⟨fu - 2, by omega⟩
      have i6 := hI.2.2.2.2.2.1
      have i1 := hI.1
      rw [md0_end _ hM.2.2.2.2.2.2.2.2.1 hM.2.2.2.2.2.2.2.2.2.1 hM.2.2.2.2.2.2.2.2.2.2.2.1 hw (by omega) hI.2.2.2.2.2.2.1 (by omega), md8, if_pos (by decide), hM.1]
  | succ d ih =>
    intro t q out z L pk bg ln bf wd sc C M hd ht1 ht2 hsc hI hC hM
    have i1 := hI.1
    have i2 := hI.2.1
    have i6 := hI.2.2.2.2.2.1
    have i7 := hI.2.2.2.2.2.2.1
    have i5 := hI.2.2.2.2.1
    have i4 := hI.2.2.2.1
    obtain ⟨hp4, hp256⟩ := pw8 i1 i2
    obtain ⟨c1, c2, c3, c4, c5, c6, c7, c8, c9, c10, c11, c12⟩ := hC
    have hC : CD b w V q out L bg ln wd sc C := ⟨c1, c2, c3, c4, c5, c6, c7, c8, c9, c10, c11, c12⟩
    have g20 : M 71 20 = nI t := hM.2.2.2.2.2.2.2.2.1
    have g21 : M 71 21 = nI wd := hM.2.2.2.2.2.2.2.2.2.1
    have g10 : M 71 10 = nI w := hM.2.2.2.2.2.2.2.2.2.2.2.1
    have r1 : ¬ (64000 : Int32) ≤ nI (64000 - (d + 1)) := by rw [show (64000 : Int32) = nI 64000 from rfl, nI_le_iff (by decide) (by omega)]; omega
    by_cases ht : t + wd ≤ 8 * w
    · obtain ⟨c, hc⟩ : ∃ c, c = V / 2 ^ t % 2 ^ wd := ⟨_, rfl⟩
      have hc96 : c < 4096 := by
        have h1 : c < 2 ^ wd := by rw [hc]; exact Nat.mod_lt _ (Nat.two_pow_pos wd)
        exact Nat.lt_of_lt_of_le h1 (p2le (show wd ≤ 12 from i7))
      have hcf := cf_of (n := n) c11 hw hV c12 c9 i7 ht (by omega)
      have hnc := nc_of (n := n) (N := N) hw hM.2.2.2.2.2.2.2.2.2.2.2.2 g20 g21 i7 ht (by omega)
      rw [← hc] at hcf hnc
      have r2 : nI (t + wd) ≤ nI (8 * w) := by rw [nI_le_iff (by omega) (by omega)]; exact ht
      have e64 : 64000 - (d + 1) + 1 = 64000 - d := by omega
      have hM1 : MD b w V (t + wd) q out z pk ln wd sc (up2 M 71 20 (nI (t + wd))) := hM.bit
      have fM1 : FrMd M (up2 M 71 20 (nI (t + wd))) := ⟨fun a r1 r2 r3 => up2_row _ _ _ _ r1, fun j r1 r2 r3 r4 r5 => up2_ne _ _ _ _ (Or.inr r3)⟩
      by_cases hcE : c = 2 ^ b + 1
      · refine ⟨C, up2 (up2 M 71 20 (nI (t + wd))) 71 10 0, -1, nI q, fun fu hf => ?_, fun fu hf => ?_, (FinD.st hI hC hM1 (Or.inl ⟨rfl, rfl⟩)).tr FrCd.rf fM1⟩
        · obtain ⟨fu, rfl⟩ : ∃ y, fu = y + 1 := ⟨fu - 1, by omega⟩
          rw [t_Re_readAll, if_neg r1]
          simp only [gR_13_2, gI_18_2, c9, Option.bind_some, nI_ad, if_pos r2, xcl_13, hcf, gI_13_1, c4, hcE, if_pos]
        · obtain ⟨fu, rfl⟩ : ∃ y, fu = y + 1 + 1 + 1 + 1 := ⟨fu - 4, by omega⟩
          rw [md0_stop (g := 2 ^ b) _ g20 g21 g10 hw i7 ht hnc hM1.2.2.2.2.2.2.1 (by omega) (by omega) (by omega) (by rw [hcE]; exact hM1.2.2.2.2.2.2.2.1), md_off _ hM1.1]
      · have r3 : ¬ nI c = nI (2 ^ b + 1) := by rw [nI_eq_iff (by omega) (by omega)]; exact hcE
        by_cases hcB : c = 2 ^ b
        · obtain ⟨M2, k1, k2, k3⟩ := hM1.rst (n := n) (N := N) i1 i2 (by omega)
          obtain ⟨k4, k5⟩ := hC.rst
          have hI2 : DI b q out (2 ^ b + 1) (2 ^ b + 1) pk bg ln none (b + 1) := ⟨i1, i2, hI.2.2.1, Nat.le_refl _, by omega, Nat.le_refl _, by omega, fun e q1 q2 => by omega, hI.2.2.2.2.2.2.2.2.1, ⟨rfl, rfl⟩⟩
          obtain ⟨C', M', vr, rr, x1, x2, x3⟩ := ih (t + wd) q out _ _ pk bg ln none _ 0 _ M2 (by omega) (by omega) ht (by omega) hI2 k4 k2
          refine ⟨C', M', vr, rr, fun fu hf => ?_, fun fu hf => ?_, x3.tr k5 (fM1.tr k3)⟩
          · obtain ⟨fu, rfl⟩ : ∃ y, fu = y + 1 := ⟨fu - 1, by omega⟩
            rw [t_Re_readAll, if_neg r1]
            simp only [gR_13_2, gI_18_2, c9, Option.bind_some, nI_ad, if_pos r2, xcl_13, hcf, gI_13_1, c4, if_neg r3, gI_13_0, c3, if_pos (show nI c = nI (2 ^ b) by rw [hcB]), rst_of c4 c7, nI_1, e64]
            exact x1 fu (by omega)
          · obtain ⟨fu, rfl⟩ : ∃ y, fu = y + 1 + 1 := ⟨fu - 2, by omega⟩
            rw [md0_clear _ g20 g21 g10 hw i7 ht hnc (by rw [hcB]; exact hM1.2.2.2.2.2.2.1) k1]
            exact x2 fu (by omega)
        · have r4 : ¬ nI c = nI (2 ^ b) := by rw [nI_eq_iff (by omega) (by omega)]; exact hcB
          have hL95 : L ≤ 4095 ∧ z ≤ L ∧ (c > L → c ≠ z + 1 ∨ bf = none) := by
            have i10 := hI.2.2.2.2.2.2.2.2.2
            cases bf with
            | none =>
              obtain ⟨w1, w2⟩ := i10
              exact ⟨by omega, by omega, fun _ => Or.inr rfl⟩
            | some g =>
              obtain ⟨lb, w1, w2, w3, w4, w5⟩ := i10
              by_cases cz : z < 4095
              · rw [if_pos cz] at w4
                exact ⟨by omega, by omega, fun q => Or.inl (by omega)⟩
              · rw [if_neg cz] at w4
                exact ⟨by omega, by omega, fun q => Or.inl (by omega)⟩
          by_cases hcL : c ≤ L
          · have r5 : nI c ≤ nI L := by rw [nI_le_iff (by omega) (by omega)]; exact hcL
            rcases dstep (n := n) (N := N) hI hC hM hcL hcB hcE (by omega) hnc ht hw hN with ⟨x1, k, x2, x3⟩ | ⟨q', out', L', pk', bg', ln', C1, M1, k, x1, x2, x3, x4, x5, x6, x7, x8⟩
            · refine ⟨C, up2 (up2 M 71 20 (nI (t + wd))) 71 10 0, -1, nI q, fun fu hf => ?_, fun fu hf => ?_, (FinD.st hI hC hM1 (Or.inl ⟨rfl, rfl⟩)).tr FrCd.rf fM1⟩
              · obtain ⟨fu, rfl⟩ : ∃ y, fu = y + 1 := ⟨fu - 1, by omega⟩
                rw [t_Re_readAll, if_neg r1]
                simp only [gR_13_2, gI_18_2, c9, Option.bind_some, nI_ad, if_pos r2, xcl_13, hcf, gI_13_1, c4, if_neg r3, gI_13_0, c3, if_neg r4, gI_13_6, c5, if_pos r5, x1, if_pos]
              · obtain ⟨fu, rfl⟩ : ∃ y, fu = y + 1 + 1 + k := ⟨fu - 2 - k, by omega⟩
                rw [x3, md_off _ hM1.1]
            · obtain ⟨C', M', vr, rr, y1, y2, y3⟩ := ih (t + wd) q' out' L L' pk' bg' ln' (some c) _ _ C1 M1 (by omega) (by omega) ht (by omega) x4 x5 x6
              refine ⟨C', M', vr, rr, fun fu hf => ?_, fun fu hf => ?_, y3.tr x7 x8⟩
              · obtain ⟨fu, rfl⟩ : ∃ y, fu = y + 1 := ⟨fu - 1, by omega⟩
                rw [t_Re_readAll, if_neg r1]
                simp only [gR_13_2, gI_18_2, c9, Option.bind_some, nI_ad, if_pos r2, xcl_13, hcf, gI_13_1, c4, if_neg r3, gI_13_0, c3, if_neg r4, gI_13_6, c5, if_pos r5, x2, if_neg (show ¬ (1 : Int32) = 0 by decide), nI_1, e64]
                exact y1 fu (by omega)
              · obtain ⟨fu, rfl⟩ : ∃ y, fu = y + k := ⟨fu - k, by omega⟩
                rw [x3]
                exact y2 fu (by omega)
          · have r5 : ¬ nI c ≤ nI L := by rw [nI_le_iff (by omega) (by omega)]; exact hcL
            refine ⟨C, up2 (up2 M 71 20 (nI (t + wd))) 71 10 0, nI c, -1 - nI c, fun fu hf => ?_, fun fu hf => ?_, (FinD.st hI hC hM1 (Or.inr ⟨c, hc96, rfl, rfl⟩)).tr FrCd.rf fM1⟩
            · obtain ⟨fu, rfl⟩ : ∃ y, fu = y + 1 := ⟨fu - 1, by omega⟩
              rw [t_Re_readAll, if_neg r1]
              simp only [gR_13_2, gI_18_2, c9, Option.bind_some, nI_ad, if_pos r2, xcl_13, hcf, gI_13_1, c4, if_neg r3, gI_13_0, c3, if_neg r4, gI_13_6, c5, if_neg r5]
            · obtain ⟨fu, rfl⟩ : ∃ y, fu = y + 1 + 1 + 1 + 1 + 1 + 1 := ⟨fu - 6, by omega⟩
              rw [md0_a _ g20 g21 g10 hw i7 ht hnc (by omega) hM1.2.2.2.2.2.2.1 hM1.2.2.2.2.2.2.2.1 hp256 hcB hcE hM1.2.2.1.1 i5 (hL95.2.2 (by omega)), md2_odd _ hM1.2.2.1.1 i5 (by omega) (by have := hL95.2.1; omega), md0_off, md8, if_neg (nn0 (by omega))]
    · have r2 : ¬ nI (t + wd) ≤ nI (8 * w) := by rw [nI_le_iff (by omega) (by omega)]; exact ht
      refine ⟨C, up2 M 71 10 0, -1, nI q, fun fu hf => ?_, fun fu hf => ?_, FinD.st hI hC hM (Or.inl ⟨rfl, rfl⟩)⟩
      · obtain ⟨fu, rfl⟩ : ∃ y, fu = y + 1 := ⟨fu - 1, by omega⟩
        rw [t_Re_readAll, if_neg r1]
        simp only [gR_13_2, gI_18_2, c9, Option.bind_some, nI_ad, if_neg r2]
      · obtain ⟨fu, rfl⟩ : ∃ y, fu = y + 1 + 1 := ⟨fu - 2, by omega⟩
        rw [md0_end _ g20 g21 g10 hw (by omega) i7 (by omega), md8, if_pos (by decide), hM.1]
theorem djoint (hb2 : 2 ≤ b) (hb8 : b ≤ 8) (hw : w ≤ 24000) (hV : V < 2 ^ (8 * w)) (h130 : C 13 0 = nI (2 ^ b)) (h131 : C 13 1 = nI (2 ^ b + 1)) (h180 : C 18 0 = nI b) (h181 : C 18 1 = nI (2 ^ b + 1)) (h3 : C 3 1 = nI w) (h4 : ∀ k, k < w → C 4 k = nI (V / 2 ^ (8 * k) % 256)) (h0 : M 71 0 = nI b) (h1 : M 71 1 = nI (2 ^ b)) (h2 : M 71 2 = nI (2 ^ b + 1)) (h10 : M 71 10 = nI w) (h75 : ∀ k, k < w → M 75 k = vp_nar .byte (nI (V / 2 ^ (8 * k) % 256))) (hN : 600000 < N) : ∃ C' M' vr rr, f_Re_readAll (SS n) N 13 3 C = some (vr, C') ∧ f_Mo_decode (SS n) N 71 M = some (rr, M') ∧ FinD b C (up2 M 71 3 0) C' M' vr rr := by
  obtain ⟨hp4, hp256⟩ := pw8 hb2 hb8
  obtain ⟨C1, hC1⟩ : ∃ C1, C1 = up2 C 14 1 (nI 0) := ⟨_, rfl⟩
  have o1 : ∀ a, a ≠ 14 → C1 a = C a := fun a r => by rw [hC1, up2_row _ _ _ _ r]
  obtain ⟨C2, hC2⟩ : ∃ C2, C2 = up2 (up2 (up2 C1 13 6 (nI (2 ^ b + 1))) 18 2 (nI (b + 1))) 18 3 0 := ⟨_, rfl⟩
  have o2 : ∀ a, a ≠ 13 → a ≠ 18 → C2 a = C1 a := fun a r1 r2 => by rw [hC2, up2_row _ _ _ _ r2, up2_row _ _ _ _ r2, up2_row _ _ _ _ r1]
  have o13 : ∀ j, j ≠ 6 → C2 13 j = C 13 j := fun j r => by rw [hC2, up2_row _ _ _ _ (by decide), up2_row _ _ _ _ (by decide), up2_ne _ _ _ _ (Or.inr r), o1 13 (by decide)]
  have o18 : ∀ j, j ≠ 2 → j ≠ 3 → C2 18 j = C 18 j := fun j r1 r2 => by rw [hC2, up2_ne _ _ _ _ (Or.inr r2), up2_ne _ _ _ _ (Or.inr r1), up2_row _ _ _ _ (by decide), o1 18 (by decide)]
  have rs : f_Re_restart (SS n) 13 C1 = some C2 := by
    rw [hC2]
    exact rst_of (by rw [o1 13 (by decide)]; exact h131) (by rw [o1 18 (by decide)]; exact h180)
  have hCD : CD b w V 0 (fun _ => 0) (2 ^ b + 1) (fun _ => 0) (fun _ => 0) (b + 1) 0 C2 := by
    refine ⟨?_, fun k hk => by omega, by rw [o13 0 (by decide)]; exact h130, by rw [o13 1 (by decide)]; exact h131, ?_, fun e q1 q2 => by omega, by rw [o18 0 (by decide) (by decide)]; exact h180, by rw [o18 1 (by decide) (by decide)]; exact h181, ?_, ?_, ?_, fun k hk => ?_⟩
    · rw [o2 14 (by decide) (by decide), hC1, up2_eq]
    · rw [hC2]; simp [up2]
    · rw [hC2]; simp [up2]
    · rw [hC2, up2_eq]; rfl
    · rw [o2 3 (by decide) (by decide), o1 3 (by decide)]; exact h3
    · rw [o2 4 (by decide) (by decide), o1 4 (by decide)]; exact h4 k hk
  have fC : FrCd C C2 := fun a ha => by rw [o2 a (by omega) (by omega), o1 a (by omega)]
  obtain ⟨K, hK⟩ : ∃ K, K = up2 (up2 (up2 M 71 3 0) 71 20 0) 71 12 0 := ⟨_, rfl⟩
  have oK : ∀ a, a ≠ 71 → K a = M a := fun a r => by rw [hK, up2_row _ _ _ _ r, up2_row _ _ _ _ r, up2_row _ _ _ _ r]
  have oKj : ∀ j, j ≠ 3 → j ≠ 12 → j ≠ 20 → K 71 j = M 71 j := fun j r1 r2 r3 => by rw [hK, up2_ne _ _ _ _ (Or.inr r2), up2_ne _ _ _ _ (Or.inr r3), up2_ne _ _ _ _ (Or.inr r1)]
  obtain ⟨M1, k1, k2, k3, k4, k5, k6, k7, k8⟩ := begin_of (n := n) (N := N) (M := K) hb2 hb8 (by rw [oKj 0 (by decide) (by decide) (by decide)]; exact h0) (by rw [oKj 1 (by decide) (by decide) (by decide)]; exact h1) (by rw [oKj 2 (by decide) (by decide) (by decide)]; exact h2) (by omega)
  have hMD : MD b w V 0 0 (fun _ => 0) (2 ^ b + 1) (fun _ => 0) (fun _ => 0) (b + 1) 0 M1 := by
    refine ⟨?_, fun k hk => by omega, mTb.new k2 k6, k7, fun e q1 q2 => by omega, ?_, ?_, ?_, ?_, k3, k4, ?_, fun k hk => ?_⟩
    · rw [k5 12 (by decide) (by decide) (by decide), hK, up2_eq]; rfl
    · rw [k5 0 (by decide) (by decide) (by decide), oKj 0 (by decide) (by decide) (by decide)]; exact h0
    · rw [k5 1 (by decide) (by decide) (by decide), oKj 1 (by decide) (by decide) (by decide)]; exact h1
    · rw [k5 2 (by decide) (by decide) (by decide), oKj 2 (by decide) (by decide) (by decide)]; exact h2
    · rw [k5 20 (by decide) (by decide) (by decide), hK, up2_ne _ _ _ _ (Or.inr (by decide)), up2_eq]; rfl
    · rw [k5 10 (by decide) (by decide) (by decide), oKj 10 (by decide) (by decide) (by decide)]; exact h10
    · rw [k8 75 (by decide) (by decide) (by decide) (by decide) (by decide), oK 75 (by decide)]; exact h75 k hk
  have hDI : DI b 0 (fun _ => 0) (2 ^ b + 1) (2 ^ b + 1) (fun _ => 0) (fun _ => 0) (fun _ => 0) none (b + 1) := ⟨hb2, hb8, by omega, Nat.le_refl _, by omega, Nat.le_refl _, by omega, fun e q1 q2 => by omega, fun k hk => by omega, ⟨rfl, rfl⟩⟩
  obtain ⟨C', M', vr, rr, x1, x2, x3⟩ := dsim (n := n) (N := N) hw hV (by omega) 64000 0 0 _ _ _ _ _ _ none _ 0 C2 M1 (Nat.le_refl _) (by omega) (by omega) (by omega) hDI hCD hMD
  refine ⟨C', M', vr, rr, ?_, ?_, x3.tr fC ⟨fun a r1 r2 r3 => ?_, fun j r1 r2 r3 r4 r5 => ?_⟩⟩
  · unfold f_Re_readAll
    have s3 : C2 3 1 = nI w := hCD.2.2.2.2.2.2.2.2.2.2.1
    have e8 : nI w * 8 = nI (8 * w) := by rw [show (8 : Int32) = nI 8 from rfl, nI_mul, Nat.mul_comm]
    simp only [gR_13_3, Option.bind_some, xcl_14, Nu_empty_of (Nu14 n), ← hC1, xcl_13, rs, (Nu3 n).gI, s3, e8]
    exact x1 N (by omega)
  · unfold f_Mo_decode
    simp only [pI_71_3, pI_71_20, pI_71_12, Option.bind_some, ← hK, xcl_71, k1]
    exact x2 N (by omega)
  · rw [k8 a r1 (by omega) (by omega) (by omega) (by omega), oK a r1, up2_row _ _ _ _ r1]
  · rw [k5 j r2 r4 r5]
    by_cases hj : j = 3
    · subst hj
      rw [hK, up2_ne _ _ _ _ (Or.inr (by decide)), up2_ne _ _ _ _ (Or.inr (by decide))]
    · rw [oKj j hj r1 r3, up2_ne _ _ _ _ (Or.inr hj)]
theorem s_decode (h : RI b F) (hN : 600000 < N) : ∃ F2 G2, q_decode (SS n) N 0 71 95 F G = some (1, F2, G2) ∧ RI b F2 := by
  obtain ⟨w, hw1, hw2, hw3, hw4⟩ := h.wa
  have hx := h.fx
  have hwb : ∀ k, k < w → F 4 k = nI (F 4 k).toNatClampNeg ∧ F 75 k = vp_nar .byte (nI (F 4 k).toNatClampNeg) ∧ (F 4 k).toNatClampNeg < 256 := fun k hk => by
    obtain ⟨s, s1, s2, s3⟩ := hw4 k hk
    have : (F 4 k).toNatClampNeg = s := by rw [s2, nI_cl (by omega)]
    rw [this]
    exact ⟨s2, s3, s1⟩
  obtain ⟨V, hVe⟩ : ∃ V, V = VV (fun k => (F 4 k).toNatClampNeg) w := ⟨_, rfl⟩
  have hV : V < 2 ^ (8 * w) := by rw [hVe]; exact VV_lt _ w (fun j hj => (hwb j hj).2.2)
  have hVa : ∀ k, k < w → V / 2 ^ (8 * k) % 256 = (F 4 k).toNatClampNeg := fun k hk => by rw [hVe]; exact VV_at _ w (fun j hj => (hwb j hj).2.2) k hk
  obtain ⟨C', X, vr, rx, j1, -, j3⟩ := djoint (n := n) (N := N) (C := F) (M := F) hx.h2 hx.h8 hw1 hV hx.r0 hx.r1 hx.v0 hx.v1 hw2 (fun k hk => by rw [hVa k hk]; exact (hwb k hk).1) hx.m0 hx.m1 hx.m2 hw3 (fun k hk => by rw [hVa k hk]; exact (hwb k hk).2.1) hN
  have o1 : FrCd F C' := by
    obtain ⟨q, -, -, -, -, k5, -⟩ := j3
    exact k5
  obtain ⟨F1, hF1⟩ : ∃ F1, F1 = up2 C' 3 1 (nI 0) := ⟨_, rfl⟩
  have o2 : ∀ a, a ≠ 3 → F1 a = C' a := fun a r => by rw [hF1, up2_row _ _ _ _ r]
  have o3 : ∀ a, a ≠ 3 → (a < 13 ∨ 18 < a) → F1 a = F a := fun a r1 r2 => by rw [o2 a r1, o1 a r2]
  have o71 : F1 71 = F 71 := o3 71 (by decide) (by decide)
  obtain ⟨C'', F2, vr', rr, i1, i2, i3⟩ := djoint (n := n) (N := N) (C := F) (M := F1) hx.h2 hx.h8 hw1 hV hx.r0 hx.r1 hx.v0 hx.v1 hw2 (fun k hk => by rw [hVa k hk]; exact (hwb k hk).1) (by rw [o71]; exact hx.m0) (by rw [o71]; exact hx.m1) (by rw [o71]; exact hx.m2) (by rw [o71]; exact hw3) (fun k hk => by rw [o3 75 (by decide) (by decide), hVa k hk]; exact (hwb k hk).2.1) hN
  have e0 : (vr', C'') = (vr, C') := Option.some.inj (i1.symm.trans j1)
  have e1 : C'' = C' := congrArg Prod.snd e0
  have e2 : vr' = vr := congrArg Prod.fst e0
  subst e1 e2
  obtain ⟨q, k1, k2, k3, k4, k5, k6, k7, k8, k9, k10, k11, k12, k13⟩ := i3
  have ec : f_PF_decode (SS n) N 0 F = some (rr, F1) := by
    have s14 : up2 C'' 3 1 (nI 0) 14 1 = nI q := by rw [up2_row _ _ _ _ (by decide)]; exact k2
    unfold f_PF_decode
    simp only [gR_0_4, gR_0_2, Option.bind_some, xcl_13, i1, xcl_3, Nu_empty_of (Nu3 n), gR_13_3, (Nu14 n).gI, s14]
    rcases k13 with ⟨r1, r2⟩ | ⟨c, r0, r1, r2⟩
    · rw [if_pos r1, hF1, r2]
    · rw [r1, if_neg (neg1_ne (show c < 2147483648 by omega)), hF1, r2]
  refine ⟨F2, G, ?_, ?_⟩
  · unfold q_decode
    simp only [xcl_0, ec, Option.bind_some, xcl_71, i2, if_pos]
  · have A : ∀ a, a ≠ 71 → a ≠ 76 → (a < 77 ∨ 81 < a) → F2 a = F1 a := fun a q1 q2 q3 => by rw [k10 a q1 q2 q3, up2_row _ _ _ _ q1]
    have A2 : ∀ a, a ≠ 3 → a ≠ 71 → a ≠ 76 → (a < 13 ∨ (18 < a ∧ a < 77) ∨ 81 < a) → F2 a = F a := fun a q0 q1 q2 q3 => by rw [A a q1 q2 (by omega), o3 a q0 (by omega)]
    have B : ∀ j, j ≠ 3 → j ≠ 10 → j ≠ 12 → j ≠ 14 → j ≠ 20 → j ≠ 21 → j ≠ 22 → F2 71 j = F 71 j := fun j q0 q1 q2 q3 q4 q5 q6 => by rw [k11 j q1 q2 q3 q4 q5 q6, up2_ne _ _ _ _ (Or.inr q0), o71]
    have D : ∀ a, a ≠ 3 → a ≠ 71 → a ≠ 76 → (a < 77 ∨ 81 < a) → F2 a = C'' a := fun a q0 q1 q2 q3 => by rw [A a q1 q2 q3, o2 a q0]
    obtain ⟨h1, h2, ⟨r', h3⟩, ⟨c', h4⟩, h5, h6, -, -, ⟨f, h9⟩, h10⟩ := h
    refine ⟨⟨h1.h2, h1.h8, ?_, ?_, ?_, ?_, ?_, ?_, ?_, ?_, ?_, ?_, ?_, ?_, ?_⟩, h2.ag ⟨by simp [A2, B], by simp⟩, ⟨r', h3.ag ⟨by simp [A2, B], by simp [A2]⟩⟩, ⟨c', h4.ag ⟨by simp [A2, B], by simp [A2]⟩⟩, h5.ag ⟨by simp [A2], by simp [A2]⟩, h6.ag ⟨by simp [A2], by simp [A2]⟩, ⟨0, by decide, ?_, k12, fun k hk => absurd hk (Nat.not_lt_zero k)⟩, ⟨q, k1, ?_, k3, fun k hk => ?_⟩, ⟨f, h9.ag (by rw [A2 19 (by decide) (by decide) (by decide) (by decide)]) (B 23 (by decide) (by decide) (by decide) (by decide) (by decide) (by decide) (by decide)) (fun k q1 q2 => A2 k (by omega) (by omega) (by omega) (by omega)) (fun k q1 q2 => A2 k (by omega) (by omega) (by omega) (by omega))⟩, h10.ag ⟨by simp, by simp [A2]⟩⟩
    · rw [A2 0 (by decide) (by decide) (by decide) (by decide)]; exact h1.a
    · rw [B 0 (by decide) (by decide) (by decide) (by decide) (by decide) (by decide) (by decide)]; exact h1.m0
    · rw [B 1 (by decide) (by decide) (by decide) (by decide) (by decide) (by decide) (by decide)]; exact h1.m1
    · rw [B 2 (by decide) (by decide) (by decide) (by decide) (by decide) (by decide) (by decide)]; exact h1.m2
    · rw [A2 5 (by decide) (by decide) (by decide) (by decide)]; exact h1.c0
    · rw [A2 5 (by decide) (by decide) (by decide) (by decide)]; exact h1.c1
    · rw [A2 8 (by decide) (by decide) (by decide) (by decide)]; exact h1.w0
    · rw [A2 8 (by decide) (by decide) (by decide) (by decide)]; exact h1.w1
    · rw [A2 9 (by decide) (by decide) (by decide) (by decide)]; exact h1.s0
    · rw [D 13 (by decide) (by decide) (by decide) (by decide)]; exact k6
    · rw [D 13 (by decide) (by decide) (by decide) (by decide)]; exact k7
    · rw [D 18 (by decide) (by decide) (by decide) (by decide)]; exact k8
    · rw [D 18 (by decide) (by decide) (by decide) (by decide)]; exact k9
    · rw [A 3 (by decide) (by decide) (by decide), hF1, up2_eq]
    · rw [D 14 (by decide) (by decide) (by decide) (by decide)]; exact k2
    · obtain ⟨s, s1, s2, s3⟩ := k4 k hk
      exact ⟨s, s1, by rw [D 15 (by decide) (by decide) (by decide) (by decide)]; exact s2, s3⟩
end DR
