/-! encode: the two runs side by side -/
def LI (ru z lc ls : Nat) : Prop := (z < 4095 → lc = 0 ∧ ls = 0) ∧ (ru = 2 → lc < 64)
def Bd (b z T at_ ncl sc lc ls : Nat) : Prop := 3838 * ncl + (z - (2 ^ b + 1)) ≤ at_ ∧ T ≤ 12 * (at_ + ncl + 1) ∧ sc ≤ at_ ∧ lc ≤ at_ ∧ ls ≤ at_
def Fin (b : Nat) (C M C' M' : xF) (rr : Int32) : Prop := ∃ c : Nat, c ≤ 18060 ∧ rr = nI c ∧ C' 6 1 = nI c ∧ M' 71 7 = nI c ∧ (∀ k, k < c → ∃ s : Nat, s < 256 ∧ C' 7 k = nI s ∧ M' 73 k = vp_nar .byte (nI s)) ∧ M' 74 0 = C' 5 5 ∧ M' 74 1 = C' 5 6 ∧ M' 74 2 = C' 5 7 ∧ M' 74 3 = C' 9 4 - C' 9 0 ∧ Tab b C' ∧ FrCl C C' ∧ C' 5 0 = nI (2 ^ b) ∧ C' 5 1 = nI (2 ^ b + 1) ∧ C' 8 0 = nI b ∧ C' 8 1 = nI (2 ^ b + 1) ∧ C' 9 0 = nI (2 ^ b + 1) ∧ (∀ a, a ≠ 71 → a ≠ 73 → a ≠ 74 → (a < 77 ∨ 81 < a) → M' a = M a) ∧ (∀ j, j ≠ 7 → j ≠ 14 → j ≠ 20 → j ≠ 21 → j ≠ 22 → M' 71 j = M 71 j)
section ES
variable {b n N r ru V T z wd sc lc ls c m p s i at_ ncl : Nat} {sy pk : Nat → Nat} {a0 a1 a2 u1 u2 u3 u4 u5 u6 u7 u8 rr : Int32} {C M M1 M2 M3 C0 M0 C' M' : xF}
theorem Fin.tr (h : Fin b C M C' M' rr) (h1 : FrCl C0 C) (h2 : FrMo M0 M) : Fin b C0 M0 C' M' rr := by
  obtain ⟨c, k1, k2, k3, k4, k5, k6, k7, k8, k9, k10, k11, k12, k13, k14, k15, k16, k17, k18⟩ := h
  exact ⟨c, k1, k2, k3, k4, k5, k6, k7, k8, k9, k10, h1.tr k11, k12, k13, k14, k15, k16, fun a q1 q2 q3 q4 => by rw [k17 a q1 q2 q3 q4, h2.1 a q1 q2 q3 q4], fun j q1 q2 q3 q4 q5 => by rw [k18 j q1 q2 q3 q4 q5, h2.2.1 j q2 q3 q4 q5]⟩
theorem Bd.room (h : Bd b z T at_ ncl sc lc ls) (ha : at_ ≤ 12000) (hw : wd ≤ 12) : T + wd + 24 ≤ 144480 := by
  obtain ⟨h1, h2, h3, h4, h5⟩ := h
  omega
theorem fin_of (hC : CS b r sy V T z wd sc lc ls pk a0 a1 a2 C) (hM : MS b r ru sy V T z wd sc pk a0 a1 a2 M) (hI : Inv b V T z wd sc pk) (hr : r ≤ 12000) (hT : T + wd ≤ 144480) (hN : 8200 < N) : ∃ C1 C' M' rr, f_Co_write (SS n) N 5 (nI (2 ^ b + 1)) C = some C1 ∧ f_Co_writeRest (SS n) 5 C1 = some C' ∧ (∀ fu u2 u3 u4 u5 u6 u7 u8, t_Mo_encode (SS n) N 71 (fu + 1) 1 (nI r) u2 u3 u4 u5 u6 u7 u8 M = some (rr, M')) ∧ Fin b C M C' M' rr := by
  have hb1 : 1 ≤ b := by have := hI.1; omega
  have hcl := hI.2.2.2.2.low (c := 2 ^ b + 1) hb1 (Nat.le_refl _)
  have hE := E_le hI
  have hTb := hI.2.2.2.1
  have hEz := hTb.1
  have hz := hTb.2.1
  obtain ⟨C1, c1, c2, c3⟩ := cWr (n := n) (N := N) hC hI hcl hT (by omega)
  obtain ⟨K, hK⟩ : ∃ K, K = up2 M 74 3 (nI (z - (2 ^ b + 1))) := ⟨_, rfl⟩
  have oK : ∀ a, a ≠ 74 → K a = M a := fun a q => by rw [hK, up2_row _ _ _ _ q]
  have oKj : ∀ j, j ≠ 3 → K 74 j = M 74 j := fun j q => by rw [hK, up2_ne _ _ _ _ (Or.inr q)]
  have hMK : MS b r ru sy V T z wd sc pk a0 a1 a2 K := by
    unfold MS at hM ⊢
    rw [oK 71 (by decide), oK 72 (by decide), oKj 0 (by decide), oKj 1 (by decide), oKj 2 (by decide)]
    exact ⟨hM.1.ag (by rw [oK 71 (by decide)]) (oK 73 (by decide)), hM.2.1.ag (by rw [oK 71 (by decide)]) (oK 77 (by decide)) (oK 78 (by decide)) (oK 80 (by decide)) (oK 81 (by decide)), hM.2.2⟩
  obtain ⟨M1, m1, m2, m3⟩ := mWr (n := n) (N := N) hMK hI hcl hT (by omega)
  obtain ⟨V1, hV1⟩ : ∃ V1, V1 = V + (2 ^ b + 1) * 2 ^ T := ⟨_, rfl⟩
  obtain ⟨T1, hT1⟩ : ∃ T1, T1 = T + wd := ⟨_, rfl⟩
  rw [← hV1, ← hT1] at c2 m2
  rw [← hT1] at hT
  obtain ⟨h1, h2, h3, h4, h5, h6, h7, h8, h9, h10, h11, h12, h13, h14, h15⟩ := c2
  obtain ⟨b1, b2, b3, b4⟩ := h1
  obtain ⟨g1, g2, g3, g4, g5, g6, g7, g8, g9, g10, g11, g12, g13⟩ := m2
  have hM' : ∀ fu u2 u3 u4 u5 u6 u7 u8, t_Mo_encode (SS n) N 71 (fu + 1) 1 (nI r) u2 u3 u4 u5 u6 u7 u8 M = some (nI ((T1 + 7) / 8), up2 M1 71 7 (nI ((T1 + 7) / 8))) := fun fu u2 u3 u4 u5 u6 u7 u8 => by
    have cr : nI r ≤ nI r := (nI_le_iff (by omega) (by omega)).mpr (Nat.le_refl r)
    have p3 := aP_nI (F := M) (k := 3) (v := nI (z - (2 ^ b + 1))) (sh_74 (n := n)) (by decide) (by decide)
    rw [show nI 3 = (3 : Int32) from rfl] at p3
    have e1 : nI (z + 1) - nI (2 ^ b + 1) - 1 = nI (z - (2 ^ b + 1)) := by
      rw [nI_sub (by omega), show (1 : Int32) = nI 1 from rfl, nI_sub (by omega)]; congr 1; omega
    have e2 : (nI T1 + 7) / 8 = nI ((T1 + 7) / 8) := by
      rw [show (7 : Int32) = nI 7 from rfl, show (8 : Int32) = nI 8 from rfl, nI_ad, nI_div (by omega) (by decide)]
    have e3 : K 71 2 = nI (2 ^ b + 1) := hMK.2.2.2.2.1
    rw [t_Mo_encode, if_neg (by decide), if_pos rfl]
    simp only [gI_71_5, hM.2.2.2.2.2.2.2.2.2.2.1, Option.bind_some, if_pos cr, gR_71_9, gI_71_14, hM.2.1.1, gI_71_2, hM.2.2.2.2.1, e1, p3, ← hK, e3, xcl_71, m1, gI_71_20, g1.1, if_neg (show ¬ (8 : Int32) = 0 by decide), e2, pI_71_7, gI_71_7, up2_eq]
  have o1 : ∀ j, j ≠ 7 → j ≠ 14 → j ≠ 20 → j ≠ 21 → j ≠ 22 → up2 M1 71 7 (nI ((T1 + 7) / 8)) 71 j = M 71 j := fun j q1 q2 q3 q4 q5 => by rw [up2_ne _ _ _ _ (Or.inr q1), m3.2.1 j q2 q3 q4 q5, oK 71 (by decide)]
  have o2 : ∀ a, a ≠ 71 → a ≠ 73 → a ≠ 74 → (a < 77 ∨ 81 < a) → up2 M1 71 7 (nI ((T1 + 7) / 8)) a = M a := fun a q1 q2 q3 q4 => by rw [up2_row _ _ _ _ q1, m3.1 a q1 q2 q3 q4, oK a q3]
  have o74 : up2 M1 71 7 (nI ((T1 + 7) / 8)) 74 = M1 74 := up2_row _ _ _ _ (by decide)
  have w3 : M1 74 3 = nI z - nI (2 ^ b + 1) := by rw [m3.2.2, hK, up2_eq, nI_sub hEz]
  have fin : ∀ K' : xF, (∀ a, a ≠ 6 → a ≠ 7 → K' a = C1 a) → K' 6 1 = nI ((T1 + 7) / 8) → (∀ k, k < (T1 + 7) / 8 → K' 7 k = nI (V1 / 2 ^ (8 * k) % 256)) → Fin b C M K' (up2 M1 71 7 (nI ((T1 + 7) / 8))) (nI ((T1 + 7) / 8)) := fun K' q1 q2 q3 => by
    refine ⟨(T1 + 7) / 8, by omega, rfl, q2, up2_eq _ _ _ _, fun k hk => ⟨V1 / 2 ^ (8 * k) % 256, Nat.mod_lt _ (by decide), q3 k hk, ?_⟩, ?_, ?_, ?_, ?_, ?_, c3.tr (fun a q => q1 a (by omega) (by omega)), ?_, ?_, ?_, ?_, ?_, o2, o1⟩
    · rw [up2_row _ _ _ _ (by decide)]; exact g1.2 k (by omega)
    · rw [o74, q1 5 (by decide) (by decide), g8, h9]
    · rw [o74, q1 5 (by decide) (by decide), g9, h10]
    · rw [o74, q1 5 (by decide) (by decide), g10, h11]
    · rw [o74, w3, q1 9 (by decide) (by decide), h2.1, h2.2.1]
    · exact (cTb.tab hTb h2).ag ⟨by simp [q1], by simp [q1]⟩
    · rw [q1 5 (by decide) (by decide)]; exact h7
    · rw [q1 5 (by decide) (by decide)]; exact h8
    · rw [q1 8 (by decide) (by decide)]; exact h3
    · rw [q1 8 (by decide) (by decide)]; exact h4
    · rw [q1 9 (by decide) (by decide)]; exact h2.1
  by_cases ct : T1 % 8 = 0
  · refine ⟨C1, C1, _, _, c1, ?_, hM', fin C1 (fun _ _ _ => rfl) (by rw [b1]; congr 1; omega) (fun k hk => b4 k (by omega))⟩
    unfold f_Co_writeRest
    rw [gI_5_9, Option.bind_some, b3, ct, if_pos (by decide)]
  · have hx : V1 / 2 ^ (8 * (T1 / 8)) < 4294967296 := by
      have hV := V_lt hI.2.2.1 hcl
      rw [← hV1, ← hT1] at hV
      have h1 := div_lt8 hV (show 8 * (T1 / 8) ≤ T1 by omega)
      have h2 := p2le (show T1 - 8 * (T1 / 8) ≤ 31 by omega)
      have h3 : (2 : Nat) ^ 31 = 2147483648 := by decide
      omega
    have e1 : nI (V1 / 2 ^ (8 * (T1 / 8))) &&& 255 = nI (V1 / 2 ^ (8 * (T1 / 8)) % 256) := pk_andN hx 8 (by decide)
    have na := Nu_add_of (v := nI (V1 / 2 ^ (8 * (T1 / 8)) % 256)) (Nu6 n) b1 (show T1 / 8 < 18060 by omega)
    refine ⟨C1, up2 (up2 C1 7 (T1 / 8) (nI (V1 / 2 ^ (8 * (T1 / 8)) % 256))) 6 1 (nI (T1 / 8 + 1)), _, _, c1, ?_, hM', fin _ (fun a q1 q2 => by rw [up2_row _ _ _ _ q1, up2_row _ _ _ _ q2]) (by rw [up2_eq]; congr 1; omega) (fun k hk => ?_)⟩
    · unfold f_Co_writeRest
      rw [gI_5_9, Option.bind_some, b3, if_neg (nI_nle (by omega) (by omega))]
      simp only [gR_5_4, Option.bind_some, gI_5_8, b2, e1, xcl_6, na]
    · rw [up2_row _ _ _ _ (by decide)]
      by_cases hk2 : k = T1 / 8
      · subst hk2; rw [up2_eq]
      · rw [up2_ne _ _ _ _ (Or.inr hk2)]; exact b4 k (by omega)
theorem emit (hr : r ≤ 12000) (hru : ru ≤ 2) (hi : i < r) (ha : at_ < i) (hsy : ∀ k, k < r → sy k < 2 ^ b) (hC : CS b r sy V T z wd sc lc ls pk a0 a1 a2 C) (hM : MS b r ru sy V T z wd sc pk a0 a1 a2 M) (hI : Inv b V T z wd sc pk) (hL : LI ru z lc ls) (hB : Bd b z T at_ ncl sc lc ls) (hp : p ≤ z) (hno : ∀ e, 2 ^ b + 1 < e → e ≤ z → pk e ≠ p * 256 + sy i) (hfd : f_St_find (SS n) N 9 (nI p) (nI (sy i)) C = some (-1)) (hN : 8200 < N) : ∃ V' T' z' wd' sc' lc' ls' pk' a0' a1' a2' ncl' C' M' k u5', CS b r sy V' T' z' wd' sc' lc' ls' pk' a0' a1' a2' C' ∧ MS b r ru sy V' T' z' wd' sc' pk' a0' a1' a2' M' ∧ Inv b V' T' z' wd' sc' pk' ∧ LI ru z' lc' ls' ∧ Bd b z' T' i ncl' sc' lc' ls' ∧ FrCl C C' ∧ FrMo M M' ∧ k ≤ 11 ∧ (∀ fu, t_Co_codeRow (SS n) N 5 1 (nI ru) (fu + 1) (nI p) (nI at_) (nI i) C = t_Co_codeRow (SS n) N 5 1 (nI ru) fu (nI (sy i)) (nI i) (nI (i + 1)) C') ∧ (∀ fu u5, t_Mo_encode (SS n) N 71 (fu + k) 10 (nI at_) (nI lc) (nI ls) (if z < 4095 then 0 else 1) u5 (nI p) (nI i) (-1) M = t_Mo_encode (SS n) N 71 fu 9 (nI i) (nI lc') (nI ls') (if z' < 4095 then 0 else 1) u5' 0 0 0 M') := by
  have hTb := hI.2.2.2.1
  have hEz := hTb.1
  have hz := hTb.2.1
  have hE := E_le hI
  have hW := hI.2.2.2.2
  have hwd := hW.2.1
  have hcode := hW.code hz hp
  have hrm := hB.room (show at_ ≤ 12000 by omega) hwd
  have hp256 := (pw8 hI.1 hI.2.1).2
  have hs := hsy i hi
  obtain ⟨B1, B2, B3, B4, B5⟩ := hB
  obtain ⟨L1, L2⟩ := hL
  have hsc1 : sc + 1 ≤ 100000 := by omega
  obtain ⟨C1, c1, c2, c3⟩ := cWE (n := n) (N := N) (m := i - at_) hC hI hcode (by omega) (by omega)
  obtain ⟨M1, m1, m2, m3⟩ := mWr (n := n) (N := N) hM hI hcode (by omega) (by omega)
  obtain ⟨M2, m4, m5, m6⟩ := mWd (n := n) m2 (hI.wr hcode)
  have hI2 := hI.we hcode hsc1
  have hwd2 : nw (2 ^ b + 1) wd sc ≤ 12 := hI2.2.2.2.2.2.1
  obtain ⟨lc1, hlc1⟩ : ∃ x, x = (if z < 4095 then lc else lc + 1) := ⟨_, rfl⟩
  obtain ⟨ls1, hls1⟩ : ∃ x, x = (if z < 4095 then ls else ls + (i - at_)) := ⟨_, rfl⟩
  rw [← hlc1, ← hls1] at c2
  obtain ⟨wd1, hwd1⟩ : ∃ x, x = nw (2 ^ b + 1) wd sc := ⟨_, rfl⟩
  rw [← hwd1] at c2 m5 hI2 hwd2
  obtain ⟨z1, pk1, C2, M3, k1, k2, k3, k4, k5, k6, k7, k8⟩ : ∃ z1 pk1 C2 M3, z1 = (if z < 4095 then z + 1 else z) ∧ CS b r sy (V + p * 2 ^ T) (T + wd) z1 wd1 (sc + 1) lc1 ls1 pk1 (a0 + 1) a1 (nI wd) C2 ∧ MS b r ru sy (V + p * 2 ^ T) (T + wd) z1 wd1 (sc + 1) pk1 (a0 + 1) a1 (nI wd) M3 ∧ Inv b (V + p * 2 ^ T) (T + wd) z1 wd1 (sc + 1) pk1 ∧ f_St_add (SS n) N 9 (nI p) (nI (sy i)) C1 = some C2 ∧ f_Mo_enter (SS n) 71 (nI p) (nI (sy i)) M2 = some M3 ∧ FrCl C1 C2 ∧ FrMo M2 M3 := by
    by_cases cz : z < 4095
    · obtain ⟨C2, d1, d2, d3⟩ := cAd (n := n) (N := N) c2 hTb cz (show p < 4096 by omega) (show sy i < 256 by omega) hno hN
      obtain ⟨M3, e1, e2, e3⟩ := mAd (n := n) m5 hEz cz (show p < 4096 by omega) (show sy i < 256 by omega)
      refine ⟨z + 1, _, C2, M3, by rw [if_pos cz], d2, e2, ⟨hI.1, hI.2.1, hI2.2.2.1, hTb.add cz (by omega) hno, ?_⟩, d1, e1, d3, e3⟩
      rw [hwd1]
      exact hW.step (Nat.le_refl _) hsc1
    · exact ⟨z, pk, C1, M2, by rw [if_neg cz], c2, m5, hI2, add_full c2.2.1 (by omega), enter_full m5.2.1.1 (by omega), FrCl.rf, FrMo.rf⟩
  have hz1 : z1 ≤ 4095 := k4.2.2.2.1.2.1
  have hlcb : lc1 ≤ i ∧ ls1 ≤ i := by
    by_cases cz : z < 4095
    · rw [if_pos cz] at hlc1 hls1; omega
    · rw [if_neg cz] at hlc1 hls1; omega
  have hl1 : z1 < 4095 → lc1 = 0 ∧ ls1 = 0 := fun q => by
    by_cases cz : z < 4095
    · rw [if_pos cz] at hlc1 hls1
      have := L1 cz
      omega
    · rw [if_neg cz] at k1; omega
  have hl2 : ru = 2 → lc1 ≤ 64 := fun q => by
    have := L2 q
    by_cases cz : z < 4095
    · rw [if_pos cz] at hlc1; omega
    · rw [if_neg cz] at hlc1; omega
  have hz1b : z1 - (2 ^ b + 1) ≤ z - (2 ^ b + 1) + 1 := by
    by_cases cz : z < 4095
    · rw [if_pos cz] at k1; omega
    · rw [if_neg cz] at k1; omega
  have hru4 : M3 71 4 = nI ru := k3.2.2.2.2.2.2.2.2.2.2.2.1
  have hr5 : M3 71 5 = nI r := k3.2.2.2.2.2.2.2.2.2.2.1
  have h25 : M2 71 5 = nI r := m5.2.2.2.2.2.2.2.2.2.2.1
  have h272 : M2 72 i = nI (sy i) := m5.2.2.2.2.2.2.2.2.2.2.2.2 i hi
  have c11 : C 1 1 = nI r := hC.2.2.2.2.2.2.2.2.2.2.2.2.2.1
  have gk : f_Nu_get (SS n) 1 (nI i) C = some (nI (sy i)) := by
    rw [Nu_get_of (Nu1 n) c11 hr hi]
    show some (C 2 i) = _
    rw [hC.2.2.2.2.2.2.2.2.2.2.2.2.2.2 i hi]
  have cri : ¬ nI r ≤ nI i := by rw [nI_le_iff (by omega) (by omega)]; omega
  have cls : ∀ (v : Int32) (K K' : xF), f_Co_isClearDue (SS n) 5 (nI ru) C2 = some (v, K) → ((v = 0 ∧ K' = K) ∨ (v ≠ 0 ∧ f_Co_writeClear (SS n) N 5 K = some K')) → ∀ fu, t_Co_codeRow (SS n) N 5 1 (nI ru) (fu + 1) (nI p) (nI at_) (nI i) C = t_Co_codeRow (SS n) N 5 1 (nI ru) fu (nI (sy i)) (nI i) (nI (i + 1)) K' := fun v K K' q1 q2 fu => by
    rw [t_Co_codeRow]
    simp only [(Nu1 n).gI, c11, Option.bind_some, if_neg cri, xcl_1, gk, gR_5_3, xcl_9, hfd, if_pos, xcl_5, nI_sub (show at_ ≤ i by omega), c1, k5, q1, nI_1]
    rcases q2 with ⟨r1, r2⟩ | ⟨r1, r2⟩
    · rw [if_pos r1, r2]
    · rw [if_neg r1, r2, Option.bind_some]
  have mst : ∀ fu u5, t_Mo_encode (SS n) N 71 (fu + 1 + 1 + 1 + 1) 10 (nI at_) (nI lc) (nI ls) (if z < 4095 then 0 else 1) u5 (nI p) (nI i) (-1) M = t_Mo_encode (SS n) N 71 fu 1 (nI i) (nI lc1) (nI ls1) 0 0 0 0 0 M3 := fun fu u5 => by
    rw [me10n _ m1 m4 h25 hr hi h272 k6, me12 _ (show at_ ≤ i by omega), ← hlc1, ← hls1]
  by_cases hd : due z1 ru lc1 ls1
  · obtain ⟨C3, lc', ls', d1, d2, d3⟩ := cdue_y (n := n) k2 hz1 hru (show lc1 ≤ 20000 by omega) (show ls1 ≤ 20000 by omega) hd
    obtain ⟨C4, w1, w2, w3⟩ := cWC (n := n) (N := N) d2 k4 (by omega) hN
    obtain ⟨M4, v1, v2, v3⟩ := mWC (n := n) (N := N) k3 k4 (by omega) hN
    obtain ⟨k, u5', x1, x2⟩ := me_clear (n := n) (N := N) hr5 k3.2.1.1 hru4 hr hi hru hl2 (show ls1 ≤ 20000 by omega) hd v1
    refine ⟨_, _, _, _, _, _, _, _, _, _, _, ncl + 1, C4, M4, k + 4, u5', w2, v2, k4.cl, ⟨fun _ => ⟨rfl, rfl⟩, fun _ => by decide⟩, ?_, c3.tr (k7.tr (d3.tr w3)), m3.tr (m6.tr (k8.tr v3)), by omega, cls 1 C3 C4 d1 (Or.inr ⟨by decide, w1⟩), fun fu u5 => ?_⟩
    · have := hd.1
      refine ⟨?_, ?_, by omega, by omega, by omega⟩
      · rw [Nat.sub_self]; omega
      · omega
    · rw [show fu + (k + 4) = fu + k + 1 + 1 + 1 + 1 by omega, mst, x2, if_pos (show 2 ^ b + 1 < 4095 by omega)]
      rfl
  · obtain ⟨C3, d1, d2, d3⟩ := cdue_n (n := n) k2 hz1 hru (show lc1 ≤ 20000 by omega) (show ls1 ≤ 20000 by omega) hd
    obtain ⟨k, u5', x1, x2⟩ := me_keep (n := n) (N := N) hr5 k3.2.1.1 hru4 hz1 hr hi hru hl1 hl2 (show ls1 ≤ 20000 by omega) hd
    have lk1 : lk z1 ru lc1 lc1 ≤ lc1 ∧ lk z1 ru lc1 ls1 ≤ ls1 := by
      unfold lk
      by_cases q : z1 = 4095 ∧ ru = 2 ∧ 64 ≤ lc1
      · rw [if_pos q, if_pos q]; omega
      · rw [if_neg q, if_neg q]; omega
    refine ⟨_, _, z1, _, _, _, _, _, _, _, _, ncl, C3, M3, k + 4, u5', d2, k3, k4, ⟨fun q => ?_, fun q => ?_⟩, ?_, c3.tr (k7.tr d3), m3.tr (m6.tr k8), by omega, cls 0 C3 C3 d1 (Or.inl ⟨rfl, rfl⟩), fun fu u5 => ?_⟩
    · have := hl1 q; omega
    · have := hl2 q
      unfold lk
      by_cases q' : z1 = 4095 ∧ ru = 2 ∧ 64 ≤ lc1
      · rw [if_pos q']; decide
      · rw [if_neg q']
        by_cases cz : z1 < 4095
        · have := hl1 cz; omega
        · have : ¬ 64 ≤ lc1 := fun r => q' ⟨by omega, q, r⟩
          omega
    · refine ⟨by omega, by omega, by omega, by omega, by omega⟩
    · rw [show fu + (k + 4) = fu + k + 1 + 1 + 1 + 1 by omega, mst, x2]
end ES
