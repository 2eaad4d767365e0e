/-! shown: the call -/
section SI2
variable {b n N i f x y p r : Nat} {F : xF} {G : xL} {p1 p2 p3 p0 : Int32}
theorem ms0 : ∀ (d k : Nat) (R : xF), k + d = 576 → ∃ R', (∀ fu, t_Mo_shown (SS n) N 71 p1 p2 p3 (fu + d) 0 (nI k) R = t_Mo_shown (SS n) N 71 p1 p2 p3 fu 0 (nI 576) R') ∧ (∀ a, a ≠ 91 → R' a = R a) ∧ (∀ j, k ≤ j → j < 576 → R' 91 j = -1) ∧ (∀ j, j < k → R' 91 j = R 91 j) := by
  intro d
  induction d with
  | zero =>
    intro k R hk
    have : k = 576 := by omega
    subst this
    exact ⟨R, fun fu => rfl, fun a _ => rfl, fun j q1 q2 => by omega, fun j _ => rfl⟩
  | succ d ih =>
    intro k R hk
    obtain ⟨R', e1, e2, e3, e4⟩ := ih (k + 1) (up2 R 91 k (-1)) (by omega)
    have c : ¬ (576 : Int32) ≤ nI k := by rw [show (576 : Int32) = nI 576 from rfl, nI_le_iff (by decide) (by omega)]; omega
    refine ⟨R', fun fu => ?_, fun a q1 => ?_, fun j q1 q2 => ?_, fun j q1 => ?_⟩
    · rw [← Nat.add_assoc, t_Mo_shown, if_pos rfl, if_neg c]
      simp only [gR_71_33, Option.bind_some, aP_nI sh_91 (show k < 576 by omega) (show 576 ≤ 100000 by decide), nI_1]
      exact e1 fu
    · rw [e2 a q1, up2_row _ _ _ _ q1]
    · by_cases hj : j = k
      · subst hj
        rw [e4 j (by omega), up2_eq]
      · exact e3 j (by omega) q2
    · rw [e4 j (by omega), up2_ne _ _ _ _ (Or.inr (by omega))]
theorem ms_all (hf : f ≤ 12) (hpf : p < f) (h : ∀ i, i < f → Frm b i F) (hx : x < 24) (hy : y < 24) (hN : 2000 < N) : ∀ (d j : Nat) (R : xF), j + d = p → Agr F R → ShP F R x y (drw F x y j) → KeP F R x y (srcA F x y j) → ∃ R', (∀ fu, t_Mo_shown (SS n) N 71 (nI p) p2 p3 (fu + d) 1 (nI (j + 1)) R = t_Mo_shown (SS n) N 71 (nI p) p2 p3 fu 1 (nI (p + 1)) R') ∧ (∀ a, (a < 91 ∨ 94 < a) → R' a = R a) ∧ ShP F R' x y (drw F x y p) := by
  intro d
  induction d with
  | zero =>
    intro j R hj hR hS hK
    have : j = p := by omega
    subst this
    exact ⟨R, fun fu => rfl, fun a _ => rfl, hS⟩
  | succ d ih =>
    intro j R hj hR hS hK
    obtain ⟨R1, e1, e2, e3⟩ := take_of (n := n) (N := N) (h j (by omega)) (by omega) hx hy hN hR hS hK
    have hR1 : Agr F R1 := fun a q1 q2 => by rw [e2 a (by omega)]; exact hR a q1 q2
    obtain ⟨R2, k1, k2, k3, k4⟩ := draw_of (n := n) (N := N) (h (j + 1) (by omega)) (by omega) hx hy hN hR1 e3
    have hR2 : Agr F R2 := fun a q1 q2 => by rw [k2 a (by omega)]; exact hR1 a q1 q2
    obtain ⟨R', m1, m2, m3⟩ := ih (j + 1) R2 (by omega) hR2 k3 k4
    have c1 : ¬ nI p < nI (j + 1) := by rw [nI_lt_iff (by omega) (by omega)]; omega
    have c2 : ¬ nI (j + 1) ≤ 0 := by rw [show (0 : Int32) = nI 0 from rfl, nI_le_iff (by omega) (by decide)]; omega
    refine ⟨R', fun fu => ?_, fun a q => by rw [m2 a q, k2 a q, e2 a q], m3⟩
    rw [← Nat.add_assoc, t_Mo_shown, if_neg (by decide), if_neg c1, if_neg c2]
    simp only [xcl_71, nI_pred, e1, Option.bind_some, k1, nI_1]
    exact m1 fu
theorem s_shown (h : RI b F) (hn : n = 2 ^ b) (hN : 20000 < N) : ∃ F2 G2, q_shown (SS n) N 0 71 95 p1 p2 p3 F G = some (1, F2, G2) ∧ RI b F2 := by
  obtain ⟨f, hf1, hf2, hf3, hf4⟩ := h.fr
  have hxx := h.fx
  obtain ⟨hp1, hp2⟩ := pw8 hxx.h2 hxx.h8
  have n10 : ¬ (1 : Int32) = 0 := by decide
  have n11 : ¬ (1 : Int32) ≤ 0 := by decide
  have y00 : (0 : Int32) ≤ 0 := by decide
  have thr : f_PF_shown (SS n) N 0 p1 p2 p3 F = some (3, 0, F) → f_Mo_shown (SS n) N 71 p1 p2 p3 F = some (0, up2 F 71 3 1) → ∃ F2 G2, q_shown (SS n) N 0 71 95 p1 p2 p3 F G = some (1, F2, G2) ∧ RI b F2 := fun e1 e2 => by
    obtain ⟨G2, e3⟩ := w_shown (N := N) (G := G) e1 e2 (up2_eq F 71 3 1) (Or.inr ⟨rfl, rfl⟩)
    exact ⟨_, G2, e3, h.code⟩
  rcases rng_or p1 (B := f) (by omega) with ⟨p, rfl, hp⟩ | hno
  · have z1 := has_y (n := n) hf2 (by omega) hp
    have z2 := mif_y (n := n) hf3 (by omega) hp
    rcases rng_or p2 (B := 24) (by decide) with ⟨x, rfl, hx⟩ | c1 | ⟨c1, c2⟩
    · have b1 : ¬ (24 : Int32) ≤ nI x := by rw [show (24 : Int32) = nI 24 from rfl, nI_le_iff (by decide) (by omega)]; omega
      have b2 := nn0 (show x < 2147483648 by omega)
      rcases rng_or p3 (B := 24) (by decide) with ⟨y, rfl, hy⟩ | c3 | ⟨c3, c4⟩
      · have b3 : nI y < 24 := by rw [show (24 : Int32) = nI 24 from rfl, nI_lt_iff (by omega) (by decide)]; omega
        have b5 : ¬ (24 : Int32) ≤ nI y := by rw [show (24 : Int32) = nI 24 from rfl, nI_le_iff (by decide) (by omega)]; omega
        have b4 := nn0 (show y < 2147483648 by omega)
        have hj : 24 * y + x < 576 := by omega
        have e1 : f_PF_shown (SS n) N 0 (nI p) (nI x) (nI y) F = some (0, clo F x y (drw F x y p), F) := by
          unfold f_PF_shown
          simp only [gR_0_5, xcl_19, z1, Option.bind_some, if_neg n10, if_neg b2, if_neg b1, if_neg b4, if_pos b3, col_of hxx.h8 hn hf1 hf2 hp hf4 h.pa hx hy (show 100 < N by omega)]
        obtain ⟨R0, r1, r2, r3, -⟩ := ms0 (n := n) (N := N) (p1 := nI p) (p2 := nI x) (p3 := nI y) 576 0 (up2 F 71 3 0) (by omega)
        have hR0 : Agr F R0 := fun a q1 q2 => by rw [r2 a (by omega), up2_row _ _ _ _ (by omega)]
        have hS0 : ShP F R0 x y (srcA F x y 0) := ⟨r3 _ (by omega) hj, fun k hk => by cases hk⟩
        obtain ⟨R1, d1, d2, d3, d4⟩ := draw_of (n := n) (N := N) (hf4 0 (by omega)) (by decide) hx hy (by omega) hR0 hS0
        have hR1 : Agr F R1 := fun a q1 q2 => by rw [d2 a (by omega)]; exact hR0 a q1 q2
        obtain ⟨R2, k1, k2, k3⟩ := ms_all (n := n) (N := N) (p2 := nI x) (p3 := nI y) hf1 hp hf4 hx hy (by omega) p 0 R1 (by omega) hR1 d3 d4
        have hR2 : Agr F R2 := fun a q1 q2 => by rw [k2 a (by omega)]; exact hR1 a q1 q2
        have e9 : (24 : Int32) * nI y + nI x = nI (24 * y + x) := by rw [show (24 : Int32) = nI 24 from rfl, nI_mul, nI_ad]
        obtain ⟨M, hM⟩ : ∃ z, N = z + 1 + p + 1 + 1 + 576 := ⟨N - (1 + p + 1 + 1 + 576), by omega⟩
        have key : t_Mo_shown (SS n) N 71 (nI p) (nI x) (nI y) (M + 1 + p + 1 + 1 + 576) 0 0 (up2 F 71 3 0) = some (clo F x y (drw F x y p), R2) := by
          refine Eq.trans (r1 (M + 1 + p + 1 + 1)) ?_
          rw [t_Mo_shown, if_pos rfl, if_pos (by decide), t_Mo_shown, if_neg (by decide), if_neg (by rw [show (0 : Int32) = nI 0 from rfl, nI_lt_iff (by omega) (by decide)]; omega), if_pos y00]
          simp only [xcl_71, show (0 : Int32) = nI 0 from rfl, d1, Option.bind_some, nI_1]
          refine Eq.trans (k1 (M + 1)) ?_
          rw [t_Mo_shown, if_neg (by decide), if_pos ((nI_lt_iff (by omega) (by omega)).mpr (show p < p + 1 by omega))]
          simp only [gR_71_33, gR_71_34, gR_71_32, Option.bind_some, e9, aG_nI sh_91 hj (show 576 ≤ 100000 by decide), aG_nI sh_92 hj (show 576 ≤ 100000 by decide), k3.1]
          cases hd : drw F x y p with
          | none =>
            rw [if_neg (show ¬ (0 : Int32) ≤ oI none by decide)]
            rfl
          | some k =>
            obtain ⟨g1, g2⟩ := drw_le hd
            obtain ⟨o1, s, s1, s2⟩ := symOn_of (n := n) (hf4 k (by omega)) (by omega) g2
            have c2' : (sgm F x y k).toNatClampNeg = s := by rw [s2, nI_cl (by omega)]
            have q0 : (0 : Int32) ≤ oI (some k) := (nI_le_iff (a := 0) (by decide) (by omega)).mpr (Nat.zero_le k)
            have i1 : (256 : Int32) * oI (some k) + nI s = nI (256 * k + s) := by rw [show (256 : Int32) = nI 256 from rfl, show oI (some k) = nI k from rfl, nI_mul, nI_ad]
            have i2 : (3072 : Int32) + nI s = nI (3072 + s) := by rw [show (3072 : Int32) = nI 3072 from rfl, nI_ad]
            rw [if_pos q0, k3.2 k hd, s2, i1, i2, aG_nI sh_90 (show 256 * k + s < 3328 by omega) (show 3328 ≤ 100000 by decide), Option.bind_some, aG_nI sh_90 (show 3072 + s < 3328 by omega) (show 3328 ≤ 100000 by decide), Option.bind_some, hR2 90 (by decide) (by decide)]
            show _ = some ((if F 90 (256 * k + (sgm F x y k).toNatClampNeg) = -1 then F 90 (3072 + (sgm F x y k).toNatClampNeg) else F 90 (256 * k + (sgm F x y k).toNatClampNeg)), R2)
            rw [c2']
            rcases ((hf4 k (by omega)).c s s1).2 with cl | ⟨v, v1, v2⟩
            · rw [if_pos (by rw [cl]; decide), if_pos cl]
            · rw [v2, if_neg (nn0 (by omega)), if_neg (neg1_ne (by omega))]
        rw [← hM] at key
        have e2 : f_Mo_shown (SS n) N 71 (nI p) (nI x) (nI y) F = some (clo F x y (drw F x y p), R2) := by
          unfold f_Mo_shown
          simp only [xcl_71, z2, Option.bind_some, if_neg n10, if_neg b2, if_neg b1, if_neg b4, if_neg b5, pI_71_3, gI_71_3, up2_eq, if_pos y00]
          exact key
        have o : ∀ a, (a < 91 ∨ 94 < a) → R2 a = up2 F 71 3 0 a := fun a q => by rw [k2 a q, d2 a q, r2 a (by omega)]
        obtain ⟨G2, e3⟩ := w_shown (N := N) (G := G) e1 e2 (t := 0) (by rw [o 71 (by decide), up2_eq]) (Or.inl ⟨rfl, rfl, rfl⟩)
        refine ⟨_, G2, e3, ?_⟩
        have o2 : ∀ a, a ≠ 71 → a < 91 → R2 a = F a := fun a q1 q2 => by rw [o a (Or.inl q2), up2_row _ _ _ _ q1]
        have o3 : ∀ j, j ≠ 3 → R2 71 j = F 71 j := fun j q => by rw [o 71 (by decide), up2_ne _ _ _ _ (Or.inr q)]
        refine h.scr (fun a q => o2 a (by omega) (by omega)) o3 (fun a q1 q2 => o2 a (by omega) (by omega)) ⟨f, ?_⟩ (h.pa.ag ⟨by simp, by simp [o2]⟩)
        exact Frs.ag ⟨hf1, hf2, hf3, hf4⟩ (by rw [o2 19 (by decide) (by decide)]) (o3 23 (by decide)) (fun k q1 q2 => o2 k (by omega) (by omega)) (fun k q1 q2 => o2 k (by omega) (by omega))
      · refine thr ?_ ?_
        · unfold f_PF_shown
          simp only [gR_0_5, xcl_19, z1, Option.bind_some, if_neg n10, if_neg b2, if_neg b1, if_pos c3]
        · unfold f_Mo_shown
          simp only [xcl_71, z2, Option.bind_some, if_neg n10, if_neg b2, if_neg b1, if_pos c3, pI_71_3, gI_71_3, up2_eq, if_neg n11]
      · have b3 : ¬ p3 < 24 := by rw [Int32.lt_iff_toInt_lt]; rw [Int32.le_iff_toInt_le] at c4; exact fun q => absurd c4 (by rw [show nI 24 = (24 : Int32) from rfl]; omega)
        have c4' : (24 : Int32) ≤ p3 := c4
        refine thr ?_ ?_
        · unfold f_PF_shown
          simp only [gR_0_5, xcl_19, z1, Option.bind_some, if_neg n10, if_neg b2, if_neg b1, if_neg c3, if_neg b3]
        · unfold f_Mo_shown
          simp only [xcl_71, z2, Option.bind_some, if_neg n10, if_neg b2, if_neg b1, if_neg c3, if_pos c4', pI_71_3, gI_71_3, up2_eq, if_neg n11]
    · refine thr ?_ ?_
      · unfold f_PF_shown
        simp only [gR_0_5, xcl_19, z1, Option.bind_some, if_neg n10, if_pos c1]
      · unfold f_Mo_shown
        simp only [xcl_71, z2, Option.bind_some, if_neg n10, if_pos c1, pI_71_3, gI_71_3, up2_eq, if_neg n11]
    · have c2' : (24 : Int32) ≤ p2 := c2
      refine thr ?_ ?_
      · unfold f_PF_shown
        simp only [gR_0_5, xcl_19, z1, Option.bind_some, if_neg n10, if_neg c1, if_pos c2']
      · unfold f_Mo_shown
        simp only [xcl_71, z2, Option.bind_some, if_neg n10, if_neg c1, if_pos c2', pI_71_3, gI_71_3, up2_eq, if_neg n11]
  · refine thr ?_ ?_
    · unfold f_PF_shown
      simp only [gR_0_5, xcl_19, has_n hf2 hno, Option.bind_some, if_pos]
    · unfold f_Mo_shown
      simp only [xcl_71, mif_n hf3 hno, Option.bind_some, if_pos, pI_71_3, gI_71_3, up2_eq, if_neg n11]
end SI2
