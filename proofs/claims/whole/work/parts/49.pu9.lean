/-! colour and symbol -/
section SC
variable {b n N i : Nat} {F F2 : xF} {G : xL} {v p1 p2 p3 : Int32}
theorem RI.scr (h : RI b F) (q : ∀ a, a < 19 → F2 a = F a) (k : ∀ j, j ≠ 3 → F2 71 j = F 71 j) (m : ∀ a, 72 ≤ a → a < 82 → F2 a = F a) (hfr : ∃ f, Frs b f F2) (hpa : Pal b F2) : RI b F2 := by
  obtain ⟨h1, h2, ⟨r, h3⟩, ⟨c, h4⟩, h5, h6, ⟨w, h7⟩, ⟨q', h8⟩, -, -⟩ := h
  exact ⟨h1.ag ⟨by simp [q, k], by simp⟩, h2.ag ⟨by simp [q, k], by simp⟩, ⟨r, h3.ag ⟨by simp [q, k], by simp [q, m]⟩⟩, ⟨c, h4.ag ⟨by simp [q, k], by simp [q, m]⟩⟩, h5.ag ⟨by simp [q, k], by simp [q, m]⟩, h6.ag ⟨by simp [q, k], by simp [q, m]⟩, ⟨w, h7.ag ⟨by simp [q, k], by simp [q, m]⟩⟩, ⟨q', h8.ag ⟨by simp [q, k], by simp [q, m]⟩⟩, hfr, hpa⟩
theorem Pa_get_of {S : List xO} {a q s L : Nat} (ho : S[a]? = some (.inr (.inr (5, [some (.ref q)])))) (hq : S[q]? = some (.inl (0, L))) (hs : s < L) (hL : L ≤ 100000) : f_Pa_get S a (nI s) F = some (F q s) := by
  unfold f_Pa_get
  have c2 : ¬ nI L ≤ nI s := by rw [nI_le_iff (by omega) (by omega)]; omega
  have g : gR S 5 a 0 = some q := by unfold gR; rw [ho]; rfl
  simp only [if_neg (nn0 (show s < 2147483648 by omega)), g, Option.bind_some, aN_of hq, if_neg c2, aG_nI hq hs hL]
theorem Pa_change_of {S : List xO} {a q s L : Nat} (ho : S[a]? = some (.inr (.inr (5, [some (.ref q)])))) (hq : S[q]? = some (.inl (0, L))) (hs : s < L) (hL : L ≤ 100000) : f_Pa_change S a (nI s) v F = some (F q s, up2 F q s v) := by
  unfold f_Pa_change
  have c2 : ¬ nI L ≤ nI s := by rw [nI_le_iff (by omega) (by omega)]; omega
  have g : gR S 5 a 0 = some q := by unfold gR; rw [ho]; rfl
  simp only [xcl_of ho, Pa_get_of ho hq hs hL, if_neg (nn0 (show s < 2147483648 by omega)), g, Option.bind_some, aN_of hq, if_neg c2, aP_nI hq hs hL]
theorem mc1 (NN f : Nat) {u4 u5 : Int32} : t_Mo_colour (SS n) NN 71 p1 p2 p3 (f + 1) 1 u4 u5 F = t_Mo_colour (SS n) NN 71 p1 p2 p3 f 2 0 0 F := by
  rw [t_Mo_colour, if_neg (by decide), if_pos rfl]
theorem mc2z (NN f : Nat) {u5 : Int32} : t_Mo_colour (SS n) NN 71 p1 p2 p3 (f + 1) 2 0 u5 F = t_Mo_colour (SS n) NN 71 p1 p2 p3 f 3 0 0 (up2 F 71 3 1) := by
  rw [t_Mo_colour, if_neg (by decide), if_neg (by decide), if_pos rfl, if_pos rfl, pI_71_3, Option.bind_some]
theorem mc2b (NN f : Nat) {u5 : Int32} (h : p3 < -1 ∨ ¬ p3 ≤ 16777215) : t_Mo_colour (SS n) NN 71 p1 p2 p3 (f + 1) 2 1 u5 F = t_Mo_colour (SS n) NN 71 p1 p2 p3 f 3 1 0 (up2 F 71 3 2) := by
  rw [t_Mo_colour, if_neg (by decide), if_neg (by decide), if_pos rfl, if_neg (by decide)]
  by_cases c : p3 < -1
  · rw [if_pos c, pI_71_3, Option.bind_some]
  · rw [if_neg c, if_neg (h.resolve_left c), pI_71_3, Option.bind_some]
theorem mc2g (NN f : Nat) {u5 : Int32} (h1 : ¬ p3 < -1) (h2 : p3 ≤ 16777215) : t_Mo_colour (SS n) NN 71 p1 p2 p3 (f + 1) 2 1 u5 F = t_Mo_colour (SS n) NN 71 p1 p2 p3 f 3 1 0 (up2 F 71 3 0) := by
  rw [t_Mo_colour, if_neg (by decide), if_neg (by decide), if_pos rfl, if_neg (by decide), if_neg h1, if_pos h2, pI_71_3, Option.bind_some]
theorem mc3n (NN f : Nat) {u4 u5 : Int32} (h : ¬ F 71 3 ≤ 0) : t_Mo_colour (SS n) NN 71 p1 p2 p3 (f + 1) 3 u4 u5 F = some (0, F) := by
  rw [t_Mo_colour, if_neg (by decide), if_neg (by decide), if_neg (by decide), if_pos rfl, gI_71_3, Option.bind_some, if_neg h]
theorem mc3y (NN f : Nat) {u4 u5 : Int32} (h : F 71 3 ≤ 0) : t_Mo_colour (SS n) NN 71 p1 p2 p3 (f + 1) 3 u4 u5 F = t_Mo_colour (SS n) NN 71 p1 p2 p3 f 4 u4 (if 0 ≤ p1 then 256 * p1 + p2 else 256 * 12 + p2) F := by
  rw [t_Mo_colour, if_neg (by decide), if_neg (by decide), if_neg (by decide), if_pos rfl, gI_71_3, Option.bind_some, if_pos h]
  by_cases c : 0 ≤ p1
  · rw [if_pos c, if_pos c]
  · rw [if_neg c, if_neg c]
theorem mc4 (NN f : Nat) {u4 : Int32} {k : Nat} (hk : k < 3328) : t_Mo_colour (SS n) NN 71 p1 p2 p3 (f + 1) 4 u4 (nI k) F = some (F 90 k, up2 F 90 k p3) := by
  rw [t_Mo_colour, if_neg (by decide), if_neg (by decide), if_neg (by decide), if_neg (by decide)]
  simp only [gR_71_32, Option.bind_some, aG_nI sh_90 hk (show 3328 ≤ 100000 by decide), aP_nI sh_90 hk (show 3328 ≤ 100000 by decide)]
theorem mc0n (NN f : Nat) {u4 u5 : Int32} (h : f_Mo_isSymbol (SS n) 71 p2 F = some 0) : t_Mo_colour (SS n) NN 71 p1 p2 p3 (f + 1) 0 u4 u5 F = t_Mo_colour (SS n) NN 71 p1 p2 p3 f 1 0 0 F := by
  rw [t_Mo_colour, if_pos rfl, xcl_71, h, Option.bind_some, if_pos rfl]
theorem mc0y (NN f : Nat) {u4 u5 : Int32} (h : f_Mo_isSymbol (SS n) 71 p2 F = some 1) : t_Mo_colour (SS n) NN 71 p1 p2 p3 (f + 1) 0 u4 u5 F = t_Mo_colour (SS n) NN 71 p1 p2 p3 f 2 1 0 F := by
  rw [t_Mo_colour, if_pos rfl, xcl_71, h, Option.bind_some, if_neg (by decide)]
theorem mcol_1 {NN fu : Nat} {u4 u5 : Int32} (hf : 2 < fu) : t_Mo_colour (SS n) NN 71 p1 p2 p3 fu 1 u4 u5 F = some (0, up2 F 71 3 1) := by
  obtain ⟨m, rfl⟩ : ∃ z, fu = z + 1 + 1 + 1 := ⟨fu - 3, by omega⟩
  rw [mc1, mc2z, mc3n _ _ (by rw [up2_eq]; decide)]
theorem mcol_0n {NN fu : Nat} {u4 u5 : Int32} (hf : 3 < fu) (h : f_Mo_isSymbol (SS n) 71 p2 F = some 0) : t_Mo_colour (SS n) NN 71 p1 p2 p3 fu 0 u4 u5 F = some (0, up2 F 71 3 1) := by
  obtain ⟨m, rfl⟩ : ∃ z, fu = z + 1 := ⟨fu - 1, by omega⟩
  rw [mc0n _ _ h, mcol_1 (by omega)]
theorem mcol_0b {NN fu : Nat} {u4 u5 : Int32} (hf : 3 < fu) (h : f_Mo_isSymbol (SS n) 71 p2 F = some 1) (hb : p3 < -1 ∨ ¬ p3 ≤ 16777215) : t_Mo_colour (SS n) NN 71 p1 p2 p3 fu 0 u4 u5 F = some (0, up2 F 71 3 2) := by
  obtain ⟨m, rfl⟩ : ∃ z, fu = z + 1 + 1 + 1 := ⟨fu - 3, by omega⟩
  rw [mc0y _ _ h, mc2b _ _ hb, mc3n _ _ (by rw [up2_eq]; decide)]
theorem mcol_0g {NN fu k : Nat} {u4 u5 : Int32} (hf : 3 < fu) (h : f_Mo_isSymbol (SS n) 71 p2 F = some 1) (h1 : ¬ p3 < -1) (h2 : p3 ≤ 16777215) (hk : k < 3328) (hp : (if 0 ≤ p1 then 256 * p1 + p2 else 256 * 12 + p2) = nI k) : t_Mo_colour (SS n) NN 71 p1 p2 p3 fu 0 u4 u5 F = some (F 90 k, up2 (up2 F 71 3 0) 90 k p3) := by
  obtain ⟨m, rfl⟩ : ∃ z, fu = z + 1 + 1 + 1 + 1 := ⟨fu - 4, by omega⟩
  rw [mc0y _ _ h, mc2g _ _ h1 h2, mc3y _ _ (by rw [up2_eq]; decide), hp, mc4 _ _ hk, up2_ne _ _ _ _ (Or.inl (by decide))]
theorem Clr_of (h1 : ¬ p3 < -1) (h2 : p3 ≤ 16777215) : Clr p3 := by
  have e1 : (-1 : Int32).toInt = -1 := by decide
  have e2 : (16777215 : Int32).toInt = 16777215 := by decide
  rw [Int32.lt_iff_toInt_lt, e1] at h1
  rw [Int32.le_iff_toInt_le, e2] at h2
  by_cases c : p3.toInt = -1
  · left; rw [← Int32.toInt_inj, e1]; exact c
  · obtain ⟨k, q1, q2, q3⟩ := nI_ex (x := p3) (by omega)
    exact Or.inr ⟨k, by omega, q1⟩
theorem s_colour (h : RI b F) (hn : n = 2 ^ b) (hN : 10 < N) : ∃ F2 G2, q_colour (SS n) N 0 71 95 p1 p2 p3 F G = some (1, F2, G2) ∧ RI b F2 := by
  obtain ⟨f, hf1, hf2, hf3, hf4⟩ := h.fr
  have hx := h.fx
  obtain ⟨hp1, hp2⟩ := pw8 hx.h2 hx.h8
  have hsh : (1 : Int32) <<< (F 0 0 &&& 31) = nI (2 ^ b) := by rw [hx.a, sh1 (by have := hx.h8; omega)]
  have thr : f_PF_colour (SS n) 0 p1 p2 p3 F = some (3, 0, F) → f_Mo_colour (SS n) N 71 p1 p2 p3 F = some (0, up2 F 71 3 1) → ∃ F2 G2, q_colour (SS n) N 0 71 95 p1 p2 p3 F G = some (1, F2, G2) ∧ RI b F2 := fun e1 e2 => by
    obtain ⟨G2, e3⟩ := w_colour (N := N) (G := G) e1 e2 (up2_eq F 71 3 1) (Or.inr (Or.inl ⟨rfl, rfl⟩))
    exact ⟨_, G2, e3, h.code⟩
  have thr2 : f_PF_colour (SS n) 0 p1 p2 p3 F = some (1, 0, F) → f_Mo_colour (SS n) N 71 p1 p2 p3 F = some (0, up2 F 71 3 2) → ∃ F2 G2, q_colour (SS n) N 0 71 95 p1 p2 p3 F G = some (1, F2, G2) ∧ RI b F2 := fun e1 e2 => by
    obtain ⟨G2, e3⟩ := w_colour (N := N) (G := G) e1 e2 (up2_eq F 71 3 2) (Or.inr (Or.inr ⟨rfl, rfl⟩))
    exact ⟨_, G2, e3, h.code⟩
  have n10 : ¬ (1 : Int32) = 0 := by decide
  have o21 : (SS n)[21]? = some (.inr (.inr (5, [some (.ref 22)]))) := rfl
  by_cases c1 : p1 = -1
  · have n1 : ¬ 0 ≤ p1 := by rw [c1]; decide
    rcases rng_or p2 (B := 2 ^ b) (by omega) with ⟨s, rfl, hs⟩ | hns
    · have y1 := pis_y (n := n) hsh (show 2 ^ b < 2147483648 by omega) hs
      have y2 := mis_y (n := n) hx.m1 (show 2 ^ b < 2147483648 by omega) hs
      by_cases c2 : p3 < -1
      · refine thr2 ?_ ?_
        · unfold f_PF_colour
          simp only [if_pos c1, xcl_0, y1, Option.bind_some, if_neg n10, if_pos c2]
        · unfold f_Mo_colour
          rw [if_pos c1, mcol_0b (by omega) y2 (Or.inl c2)]
      · by_cases c3 : p3 ≤ 16777215
        · have e1 : f_PF_colour (SS n) 0 p1 (nI s) p3 F = some (0, F 22 s, up2 F 22 s p3) := by
            unfold f_PF_colour
            simp only [if_pos c1, xcl_0, y1, Option.bind_some, if_neg n10, if_neg c2, if_pos c3, gR_0_5, gR_19_1, xcl_21, Pa_change_of o21 (sh_22 (n := n)) (show s < n by omega) (show n ≤ 100000 by omega)]
          have y3 : f_Mo_isSymbol (SS n) 71 (nI s) (up2 F 22 s p3) = some 1 := mis_y (n := n) (by rw [up2_ne _ _ _ _ (Or.inl (by decide))]; exact hx.m1) (show 2 ^ b < 2147483648 by omega) hs
          have e2 : f_Mo_colour (SS n) N 71 p1 (nI s) p3 (up2 F 22 s p3) = some (F 90 (3072 + s), up2 (up2 (up2 F 22 s p3) 71 3 0) 90 (3072 + s) p3) := by
            unfold f_Mo_colour
            rw [if_pos c1, mcol_0g (by omega) y3 c2 c3 (show 3072 + s < 3328 by omega) (by rw [if_neg n1, show (256 * 12 : Int32) = nI 3072 from rfl, nI_ad]), up2_ne _ _ _ _ (Or.inl (by decide))]
          obtain ⟨G2, e3⟩ := w_colour (N := N) (G := G) e1 e2 (t := 0) (by rw [up2_ne _ _ _ _ (Or.inl (by decide)), up2_eq]) (Or.inl ⟨rfl, rfl, (h.pa s hs).1.symm⟩)
          refine ⟨_, G2, e3, ?_⟩
          have A : ∀ a, a ≠ 22 → a ≠ 71 → a ≠ 90 → up2 (up2 (up2 F 22 s p3) 71 3 0) 90 (3072 + s) p3 a = F a := fun a q1 q2 q3 => by rw [up2_row _ _ _ _ q3, up2_row _ _ _ _ q2, up2_row _ _ _ _ q1]
          have k1 : ∀ j, j ≠ 3 → up2 (up2 (up2 F 22 s p3) 71 3 0) 90 (3072 + s) p3 71 j = F 71 j := fun j q => by rw [up2_ne _ _ _ _ (Or.inl (by decide)), up2_ne _ _ _ _ (Or.inr q), up2_ne _ _ _ _ (Or.inl (by decide))]
          have k2 : ∀ j, j ≠ s → up2 (up2 (up2 F 22 s p3) 71 3 0) 90 (3072 + s) p3 22 j = F 22 j := fun j q => by rw [up2_ne _ _ _ _ (Or.inl (by decide)), up2_ne _ _ _ _ (Or.inl (by decide)), up2_ne _ _ _ _ (Or.inr q)]
          have k3 : up2 (up2 (up2 F 22 s p3) 71 3 0) 90 (3072 + s) p3 22 s = p3 := by rw [up2_ne _ _ _ _ (Or.inl (by decide)), up2_ne _ _ _ _ (Or.inl (by decide)), up2_eq]
          have k4 : ∀ j, j ≠ 3072 + s → up2 (up2 (up2 F 22 s p3) 71 3 0) 90 (3072 + s) p3 90 j = F 90 j := fun j q => by rw [up2_ne _ _ _ _ (Or.inr q), up2_ne _ _ _ _ (Or.inl (by decide)), up2_ne _ _ _ _ (Or.inl (by decide))]
          have k5 : up2 (up2 (up2 F 22 s p3) 71 3 0) 90 (3072 + s) p3 90 (3072 + s) = p3 := up2_eq _ _ _ _
          clear e1 e2 e3
          generalize up2 (up2 (up2 F 22 s p3) 71 3 0) 90 (3072 + s) p3 = F2 at A k1 k2 k3 k4 k5 ⊢
          refine h.scr (fun a q => A a (by omega) (by omega) (by omega)) k1 (fun a q1 q2 => A a (by omega) (by omega) (by omega)) ⟨f, hf1, by rw [A 19 (by decide) (by decide) (by decide)]; exact hf2, by rw [k1 23 (by decide)]; exact hf3, fun j hj => ?_⟩ (fun s' hs' => ?_)
          · have hfj := hf4 j hj
            exact Frm.of (hfj.gg.cg (fun k q1 q2 => by rw [A _ (by omega) (by omega) (by omega)]) (fun k _ => by rw [A _ (by omega) (by omega) (by omega)]) (fun a q1 q2 => by rw [A a (by omega) (by omega) (by omega)]) (fun k _ _ => by rw [A 89 (by decide) (by decide) (by decide)])) (hfj.tt.cg (by rw [A _ (by omega) (by omega) (by omega)]) (by rw [A 88 (by decide) (by decide) (by decide)])) (hfj.cc.cg hx.h8 (fun k _ => by rw [A _ (by omega) (by omega) (by omega)]) (fun k q1 q2 => k4 k (by omega)))
          · by_cases hss : s' = s
            · subst hss
              rw [k5, k3]
              exact ⟨rfl, Clr_of c2 c3⟩
            · rw [k4 _ (by omega), k2 _ hss]
              exact h.pa s' hs'
        · refine thr2 ?_ ?_
          · unfold f_PF_colour
            simp only [if_pos c1, xcl_0, y1, Option.bind_some, if_neg n10, if_neg c2, if_neg c3]
          · unfold f_Mo_colour
            rw [if_pos c1, mcol_0b (by omega) y2 (Or.inr c3)]
    · refine thr ?_ ?_
      · unfold f_PF_colour
        simp only [if_pos c1, xcl_0, pis_n hsh hns, Option.bind_some, if_pos]
      · unfold f_Mo_colour
        rw [if_pos c1, mcol_0n (by omega) (mis_n hx.m1 hns)]
  · rcases rng_or p1 (B := f) (by omega) with ⟨i, rfl, hi⟩ | hno
    · have z1 := has_y (n := n) hf2 (by omega) hi
      have z2 := mif_y (n := n) hf3 (by omega) hi
      have hi12 : i < 12 := by omega
      have y0 : (0 : Int32) ≤ nI i := by rw [show (0 : Int32) = nI 0 from rfl, nI_le_iff (by decide) (by omega)]; omega
      rcases rng_or p2 (B := 2 ^ b) (by omega) with ⟨s, rfl, hs⟩ | hns
      · have y1 := pis_y (n := n) hsh (show 2 ^ b < 2147483648 by omega) hs
        have y2 := mis_y (n := n) hx.m1 (show 2 ^ b < 2147483648 by omega) hs
        by_cases c2 : p3 < -1
        · refine thr2 ?_ ?_
          · unfold f_PF_colour
            simp only [if_neg c1, gR_0_5, xcl_19, z1, xcl_0, y1, Option.bind_some, if_neg n10, if_pos c2]
          · unfold f_Mo_colour
            rw [if_neg c1, xcl_71, z2, Option.bind_some, if_neg n10, mcol_0b (by omega) y2 (Or.inl c2)]
        · by_cases c3 : p3 ≤ 16777215
          · have e1 : f_PF_colour (SS n) 0 (nI i) (nI s) p3 F = some (0, F (26 + 4 * i) s, up2 F (26 + 4 * i) s p3) := by
              unfold f_PF_colour
              simp only [if_neg c1, gR_0_5, xcl_19, z1, xcl_0, y1, Option.bind_some, if_neg n10, if_neg c2, if_pos c3, gR_19_0, fr_r i hi12, fr_R1 hi12, fr_pxcl hi12, Pa_change_of (fr_p (n := n) i hi12) (fr_c (n := n) i hi12) (show s < n by omega) (show n ≤ 100000 by omega)]
            have y3 : f_Mo_isSymbol (SS n) 71 (nI s) (up2 F (26 + 4 * i) s p3) = some 1 := mis_y (n := n) (by rw [up2_ne _ _ _ _ (Or.inl (by omega))]; exact hx.m1) (show 2 ^ b < 2147483648 by omega) hs
            have z3 : f_Mo_isFrame (SS n) 71 (nI i) (up2 F (26 + 4 * i) s p3) = some 1 := mif_y (n := n) (by rw [up2_ne _ _ _ _ (Or.inl (by omega))]; exact hf3) (by omega) hi
            have e2 : f_Mo_colour (SS n) N 71 (nI i) (nI s) p3 (up2 F (26 + 4 * i) s p3) = some (F 90 (256 * i + s), up2 (up2 (up2 F (26 + 4 * i) s p3) 71 3 0) 90 (256 * i + s) p3) := by
              unfold f_Mo_colour
              rw [if_neg c1, xcl_71, z3, Option.bind_some, if_neg n10, mcol_0g (by omega) y3 c2 c3 (show 256 * i + s < 3328 by omega) (by rw [if_pos y0, show (256 : Int32) = nI 256 from rfl, nI_mul, nI_ad]), up2_ne _ _ _ _ (Or.inl (by omega))]
            obtain ⟨G2, e3⟩ := w_colour (N := N) (G := G) e1 e2 (t := 0) (by rw [up2_ne _ _ _ _ (Or.inl (by decide)), up2_eq]) (Or.inl ⟨rfl, rfl, ((hf4 i hi).c s hs).1.symm⟩)
            refine ⟨_, G2, e3, ?_⟩
            have A : ∀ a, a ≠ 26 + 4 * i → a ≠ 71 → a ≠ 90 → up2 (up2 (up2 F (26 + 4 * i) s p3) 71 3 0) 90 (256 * i + s) p3 a = F a := fun a q1 q2 q3 => by rw [up2_row _ _ _ _ q3, up2_row _ _ _ _ q2, up2_row _ _ _ _ q1]
            have k1 : ∀ j, j ≠ 3 → up2 (up2 (up2 F (26 + 4 * i) s p3) 71 3 0) 90 (256 * i + s) p3 71 j = F 71 j := fun j q => by rw [up2_ne _ _ _ _ (Or.inl (by decide)), up2_ne _ _ _ _ (Or.inr q), up2_ne _ _ _ _ (Or.inl (by omega))]
            have k2 : ∀ j, j ≠ s → up2 (up2 (up2 F (26 + 4 * i) s p3) 71 3 0) 90 (256 * i + s) p3 (26 + 4 * i) j = F (26 + 4 * i) j := fun j q => by rw [up2_ne _ _ _ _ (Or.inl (by omega)), up2_ne _ _ _ _ (Or.inl (by omega)), up2_ne _ _ _ _ (Or.inr q)]
            have k3 : up2 (up2 (up2 F (26 + 4 * i) s p3) 71 3 0) 90 (256 * i + s) p3 (26 + 4 * i) s = p3 := by rw [up2_ne _ _ _ _ (Or.inl (by omega)), up2_ne _ _ _ _ (Or.inl (by omega)), up2_eq]
            have k4 : ∀ j, j ≠ 256 * i + s → up2 (up2 (up2 F (26 + 4 * i) s p3) 71 3 0) 90 (256 * i + s) p3 90 j = F 90 j := fun j q => by rw [up2_ne _ _ _ _ (Or.inr q), up2_ne _ _ _ _ (Or.inl (by decide)), up2_ne _ _ _ _ (Or.inl (by omega))]
            have k5 : up2 (up2 (up2 F (26 + 4 * i) s p3) 71 3 0) 90 (256 * i + s) p3 90 (256 * i + s) = p3 := up2_eq _ _ _ _
            clear e1 e2 e3
            generalize up2 (up2 (up2 F (26 + 4 * i) s p3) 71 3 0) 90 (256 * i + s) p3 = F2 at A k1 k2 k3 k4 k5 ⊢
            refine h.scr (fun a q => A a (by omega) (by omega) (by omega)) k1 (fun a q1 q2 => A a (by omega) (by omega) (by omega)) ⟨f, hf1, by rw [A 19 (by omega) (by decide) (by decide)]; exact hf2, by rw [k1 23 (by decide)]; exact hf3, fun j hj => ?_⟩ (fun s' hs' => ?_)
            · have hfj := hf4 j hj
              refine Frm.of (hfj.gg.cg (fun k q1 q2 => by rw [A _ (by omega) (by omega) (by omega)]) (fun k _ => by rw [A _ (by omega) (by omega) (by omega)]) (fun a q1 q2 => by rw [A a (by omega) (by omega) (by omega)]) (fun k _ _ => by rw [A 89 (by omega) (by decide) (by decide)])) (hfj.tt.cg (by rw [A _ (by omega) (by omega) (by omega)]) (by rw [A 88 (by omega) (by decide) (by decide)])) ?_
              by_cases hji : j = i
              · subst hji
                intro s' hs'
                by_cases hss : s' = s
                · subst hss
                  rw [k5, k3]
                  exact ⟨rfl, Clr_of c2 c3⟩
                · rw [k4 _ (by omega), k2 _ hss]
                  exact hfj.c s' hs'
              · exact hfj.cc.cg hx.h8 (fun k _ => by rw [A _ (by omega) (by omega) (by omega)]) (fun k q1 q2 => k4 k (by omega))
            · rw [k4 _ (by omega), A 22 (by omega) (by decide) (by decide)]
              exact h.pa s' hs'
          · refine thr2 ?_ ?_
            · unfold f_PF_colour
              simp only [if_neg c1, gR_0_5, xcl_19, z1, xcl_0, y1, Option.bind_some, if_neg n10, if_neg c2, if_neg c3]
            · unfold f_Mo_colour
              rw [if_neg c1, xcl_71, z2, Option.bind_some, if_neg n10, mcol_0b (by omega) y2 (Or.inr c3)]
      · refine thr ?_ ?_
        · unfold f_PF_colour
          simp only [if_neg c1, gR_0_5, xcl_19, z1, if_neg n10, xcl_0, pis_n hsh hns, Option.bind_some, if_pos]
        · unfold f_Mo_colour
          rw [if_neg c1, xcl_71, z2, Option.bind_some, if_neg n10, mcol_0n (by omega) (mis_n hx.m1 hns)]
    · refine thr ?_ ?_
      · unfold f_PF_colour
        simp only [if_neg c1, gR_0_5, xcl_19, has_n hf2 hno, Option.bind_some, if_pos]
      · unfold f_Mo_colour
        rw [if_neg c1, xcl_71, mif_n hf3 hno, Option.bind_some, if_pos rfl, mcol_1 (by omega)]
theorem symIn_of {w x y : Nat} (hi : i < 12) (hw : F (23 + 4 * i) 4 = nI w) (hm : y * w + x < 576) : f_Fr_symbolIn (SS n) (23 + 4 * i) (nI x) (nI y) F = some (F (24 + 4 * i) (y * w + x)) := by
  unfold f_Fr_symbolIn
  have c2 : ¬ nI 576 ≤ nI (y * w + x) := by rw [nI_le_iff (by decide) (by omega)]; omega
  simp only [fr_get hi (show 2 ≤ 4 by decide) (show 4 ≤ 8 by decide), Option.bind_some, hw, nI_mul, nI_ad, if_neg (nn0 (show y * w + x < 2147483648 by omega)), fr_R0 hi, aN_of (fr_s i hi), if_neg c2, aG_nI (fr_s i hi) hm (show 576 ≤ 100000 by decide)]
theorem sq24 {r h w c : Nat} (hr : r < h) (hc : c < w) (hh : h ≤ 24) (hw : w ≤ 24) : r * w + c < 576 := by
  have h7 : r * w ≤ 23 * 24 := Nat.mul_le_mul (show r ≤ 23 by omega) (show w ≤ 24 by omega)
  omega
theorem s_symbol (h : RI b F) : ∃ F2 G2, q_symbol (SS n) N 0 71 95 p1 p2 p3 F G = some (1, F2, G2) ∧ RI b F2 := by
  obtain ⟨f, hf1, hf2, hf3, hf4⟩ := h.fr
  have n10 : ¬ (1 : Int32) = 0 := by decide
  have n11 : ¬ (1 : Int32) ≤ 0 := by decide
  have y00 : (0 : Int32) ≤ 0 := by decide
  have thr : f_PF_symbol (SS n) 0 p1 p2 p3 F = some (3, 0, F) → f_Mo_symbol (SS n) 71 p1 p2 p3 F = some (0, up2 F 71 3 1) → ∃ F2 G2, q_symbol (SS n) N 0 71 95 p1 p2 p3 F G = some (1, F2, G2) ∧ RI b F2 := fun e1 e2 => by
    obtain ⟨G2, e3⟩ := w_symbol (N := N) (G := G) e1 e2 (up2_eq F 71 3 1) (Or.inr ⟨rfl, rfl⟩)
    exact ⟨_, G2, e3, h.code⟩
  rcases rng_or p1 (B := f) (by omega) with ⟨i, rfl, hi⟩ | hno
  · have z1 := has_y (n := n) hf2 (by omega) hi
    have z2 := mif_y (n := n) hf3 (by omega) hi
    have hi12 : i < 12 := by omega
    obtain ⟨x, y, w, hh, e, d, h1, h2, h3, h4, h5, h6, a1, a2, a3, a4, a5, a6, a7, a8, a9, a10, a11, a12, hs⟩ := (hf4 i hi).g
    have g4 := fr_get (n := n) (F := F) hi12 (show 2 ≤ 4 by decide) (show 4 ≤ 8 by decide)
    have g5 := fr_get (n := n) (F := F) hi12 (show 2 ≤ 5 by decide) (show 5 ≤ 8 by decide)
    have g84 := aG_nI (F := F) (sh_84 (n := n)) hi12 (show 12 ≤ 100000 by decide)
    have g85 := aG_nI (F := F) (sh_85 (n := n)) hi12 (show 12 ≤ 100000 by decide)
    rcases rng_or p2 (B := w) (by omega) with ⟨c, rfl, hc⟩ | c1 | ⟨c1, c2⟩
    · have b1 : ¬ nI w ≤ nI c := by rw [nI_le_iff (by omega) (by omega)]; omega
      have b2 := nn0 (show c < 2147483648 by omega)
      rcases rng_or p3 (B := hh) (by omega) with ⟨r, rfl, hr⟩ | c3 | ⟨c3, c4⟩
      · have b3 : nI r < nI hh := by rw [nI_lt_iff (by omega) (by omega)]; omega
        have b5 : ¬ nI hh ≤ nI r := by rw [nI_le_iff (by omega) (by omega)]; omega
        have b4 := nn0 (show r < 2147483648 by omega)
        obtain ⟨s, s1, s2, s3⟩ := hs r c hr hc
        have hm := sq24 hr hc (by omega) (by omega)
        have e1 : f_PF_symbol (SS n) 0 (nI i) (nI c) (nI r) F = some (0, nI s, F) := by
          unfold f_PF_symbol
          simp only [gR_0_5, xcl_19, z1, Option.bind_some, if_neg n10, gR_19_0, fr_r i hi12, if_neg b2, g4, a5, if_neg b1, if_neg b4, g5, a7, if_pos b3, fr_xcl hi12, symIn_of hi12 a5 hm, s2]
        have e2 : f_Mo_symbol (SS n) 71 (nI i) (nI c) (nI r) F = some (nI s, up2 F 71 3 0) := by
          unfold f_Mo_symbol
          have e9 : (576 : Int32) * nI i + 24 * nI r + nI c = nI (576 * i + 24 * r + c) := by
            rw [show (576 : Int32) = nI 576 from rfl, show (24 : Int32) = nI 24 from rfl, nI_mul, nI_mul, nI_ad, nI_ad]
          simp only [xcl_71, z2, Option.bind_some, if_neg n10, if_neg b2, gR_71_26, g84, a6, if_neg b1, if_neg b4, gR_71_27, g85, a8, if_neg b5, pI_71_3, gI_71_3, up2_eq, if_pos y00, gR_71_31, e9, aG_nI (sh_89 (n := n)) (show 576 * i + 24 * r + c < 6912 by omega) (show 6912 ≤ 100000 by decide), up2_ne F 71 3 0 (Or.inl (show 89 ≠ 71 by decide)), s3]
        obtain ⟨G2, e3⟩ := w_symbol (N := N) (G := G) e1 e2 (up2_eq F 71 3 0) (Or.inl ⟨rfl, rfl, rfl⟩)
        exact ⟨_, G2, e3, h.code⟩
      · refine thr ?_ ?_
        · unfold f_PF_symbol
          simp only [gR_0_5, xcl_19, z1, Option.bind_some, if_neg n10, gR_19_0, fr_r i hi12, if_neg b2, g4, a5, if_neg b1, if_pos c3]
        · unfold f_Mo_symbol
          simp only [xcl_71, z2, Option.bind_some, if_neg n10, if_neg b2, gR_71_26, g84, a6, if_neg b1, if_pos c3, pI_71_3, gI_71_3, up2_eq, if_neg n11]
      · have b3 : ¬ p3 < nI hh := by rw [Int32.lt_iff_toInt_lt]; rw [Int32.le_iff_toInt_le] at c4; omega
        refine thr ?_ ?_
        · unfold f_PF_symbol
          simp only [gR_0_5, xcl_19, z1, Option.bind_some, if_neg n10, gR_19_0, fr_r i hi12, if_neg b2, g4, a5, if_neg b1, if_neg c3, g5, a7, if_neg b3]
        · unfold f_Mo_symbol
          simp only [xcl_71, z2, Option.bind_some, if_neg n10, if_neg b2, gR_71_26, g84, a6, if_neg b1, if_neg c3, gR_71_27, g85, a8, if_pos c4, pI_71_3, gI_71_3, up2_eq, if_neg n11]
    · refine thr ?_ ?_
      · unfold f_PF_symbol
        simp only [gR_0_5, xcl_19, z1, Option.bind_some, if_neg n10, gR_19_0, fr_r i hi12, if_pos c1]
      · unfold f_Mo_symbol
        simp only [xcl_71, z2, Option.bind_some, if_neg n10, if_pos c1, pI_71_3, gI_71_3, up2_eq, if_neg n11]
    · refine thr ?_ ?_
      · unfold f_PF_symbol
        simp only [gR_0_5, xcl_19, z1, Option.bind_some, if_neg n10, gR_19_0, fr_r i hi12, if_neg c1, g4, a5, if_pos c2]
      · unfold f_Mo_symbol
        simp only [xcl_71, z2, Option.bind_some, if_neg n10, if_neg c1, gR_71_26, g84, a6, if_pos c2, pI_71_3, gI_71_3, up2_eq, if_neg n11]
  · refine thr ?_ ?_
    · unfold f_PF_symbol
      simp only [gR_0_5, xcl_19, has_n hf2 hno, Option.bind_some, if_pos]
    · unfold f_Mo_symbol
      simp only [xcl_71, mif_n hf3 hno, Option.bind_some, if_pos, pI_71_3, gI_71_3, up2_eq, if_neg n11]
end SC
