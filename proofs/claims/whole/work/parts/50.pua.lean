/-! when -/
def smm (d : Nat → Nat) : Nat → Nat
  | 0 => 0
  | k + 1 => smm d k + d k
theorem smm_le {d : Nat → Nat} {f : Nat} (hd : ∀ j, j < f → d j ≤ 1000) : ∀ k, k ≤ f → smm d k ≤ 1000 * k
  | 0, _ => Nat.le_refl _
  | k + 1, h => by
    have h1 := smm_le hd k (by omega)
    have h2 := hd k (by omega)
    show smm d k + d k ≤ _
    omega
theorem lgclt {a c : Nat} (ha : a < 2 ^ 31) (hc : c < 2 ^ 31) : lg_cmp (lN a) (lN c) < 0 ↔ a < c := by
  have h1 := lN_lt hc ha
  have h2 := lN_eq ha hc
  unfold lg_cmp
  by_cases c1 : c < a
  · rw [if_pos (h1.mpr c1)]
    constructor
    · intro h; exact absurd h (by decide)
    · intro h; omega
  · rw [if_neg (fun q => c1 (h1.mp q))]
    by_cases c2 : a = c
    · rw [if_pos (h2.mpr c2)]
      constructor
      · intro h; exact absurd h (by decide)
      · intro h; omega
    · rw [if_neg (fun q => c2 (h2.mp q))]
      constructor
      · intro h; omega
      · intro h; decide
theorem lgc0 {a : Nat} (h0 : 0 < a) (ha : a < 2 ^ 31) : ¬ lg_cmp (lN a) 0 = 0 := by
  have h1 := lN_lt (show 0 < 2 ^ 31 by decide) ha
  unfold lg_cmp
  rw [if_pos (show lN a > 0 from h1.mpr h0)]
  decide
section SW
variable {b n N f : Nat} {F F' : xF} {G : xL} {d : Nat → Nat} {p1 p2 u3 u4 u5 : Int32} {l3 : Int64}
theorem fa_loop0 (h2 : F 19 2 = nI f) (hf : f ≤ 12) (hd : ∀ j, j < f → F (23 + 4 * j) 7 = nI (d j)) : ∀ (m j fu : Nat), j + m = f → t_Sc_frameAt (SS n) N 19 p1 p2 (fu + m) 0 u3 (nI (smm d j)) (nI j) 0 0 F = t_Sc_frameAt (SS n) N 19 p1 p2 fu 0 u3 (nI (smm d f)) (nI f) 0 0 F := by
  intro m
  induction m with
  | zero =>
    intro j fu hj
    have : j = f := by omega
    subst this; rfl
  | succ m ih =>
    intro j fu hj
    have c : ¬ nI f ≤ nI j := by rw [nI_le_iff (by omega) (by omega)]; omega
    have hj12 : j < 12 := by omega
    rw [← Nat.add_assoc, t_Sc_frameAt, if_pos rfl]
    simp only [gI_19_2, h2, Option.bind_some, if_neg c, gR_19_0, fr_r j hj12, fr_get hj12 (show 2 ≤ 7 by decide) (show 7 ≤ 8 by decide), hd j (by omega), nI_ad, nI_1]
    exact ih (j + 1) fu (by omega)
theorem wh_loop0 (h2 : F 71 23 = nI f) (hf : f ≤ 12) (hd : ∀ j, j < f → d j ≤ 1000 ∧ F 87 j = nI (d j)) : ∀ (m j fu : Nat), j + m = f → t_Mo_when (SS n) N 71 p1 p2 (fu + m) 0 (lN (smm d j)) (nI j) 0 0 F = t_Mo_when (SS n) N 71 p1 p2 fu 0 (lN (smm d f)) (nI f) 0 0 F := by
  intro m
  induction m with
  | zero =>
    intro j fu hj
    have : j = f := by omega
    subst this; rfl
  | succ m ih =>
    intro j fu hj
    have c : ¬ nI f ≤ nI j := by rw [nI_le_iff (by omega) (by omega)]; omega
    have hj12 : j < 12 := by omega
    obtain ⟨d1, d2⟩ := hd j (by omega)
    rw [← Nat.add_assoc, t_Mo_when, if_pos rfl]
    simp only [gI_71_23, h2, Option.bind_some, if_neg c, gR_71_29, aG_nI sh_87 hj12 (show 12 ≤ 100000 by decide), d2, nI_l (show d j < 2 ^ 31 by omega), lN_add, nI_1]
    exact ih (j + 1) fu (by omega)
theorem wh_two (h2 : F 19 2 = nI f) (hf : f ≤ 12) (hd : ∀ j, j < f → d j ≤ 1000 ∧ F (23 + 4 * j) 7 = nI (d j) ∧ F' 87 j = nI (d j)) : ∀ (m j rem fu gu : Nat), j + m = f → m < fu → m < gu → rem + smm d j < smm d f → ∃ r, t_Sc_frameAt (SS n) N 19 p1 p2 fu 1 u3 u4 u5 (nI rem) (nI j) F = some r ∧ t_Mo_when (SS n) N 71 p1 p2 gu 1 l3 0 (lN rem) (nI j) F' = some (r, F') := by
  have hT : smm d f ≤ 12000 := by
    have := smm_le (fun j hj => (hd j hj).1) f (Nat.le_refl f)
    omega
  intro m
  induction m with
  | zero =>
    intro j rem fu gu hj h3 h4 h5
    have : j = f := by omega
    subst this
    omega
  | succ m ih =>
    intro j rem fu gu hj h3 h4 h5
    obtain ⟨fu, rfl⟩ : ∃ z, fu = z + 1 := ⟨fu - 1, by omega⟩
    obtain ⟨gu, rfl⟩ : ∃ z, gu = z + 1 := ⟨gu - 1, by omega⟩
    have c : ¬ nI f ≤ nI j := by rw [nI_le_iff (by omega) (by omega)]; omega
    have hj12 : j < 12 := by omega
    obtain ⟨d1, d2, d3⟩ := hd j (by omega)
    rw [t_Sc_frameAt, if_neg (by decide), t_Mo_when, if_neg (by decide)]
    have g7 := fr_get (n := n) (F := F) hj12 (show 2 ≤ 7 by decide) (show 7 ≤ 8 by decide)
    by_cases cc : d j ≤ rem
    · have e1 : nI (d j) ≤ nI rem := (nI_le_iff (by omega) (by omega)).mpr cc
      have e2 : ¬ lg_cmp (lN rem) (lN (d j)) < 0 := by rw [lgclt (by omega) (by omega)]; omega
      simp only [gI_19_2, h2, Option.bind_some, if_neg c, gR_19_0, fr_r j hj12, g7, d2, if_pos e1, gR_71_29, aG_nI sh_87 hj12 (show 12 ≤ 100000 by decide), d3, nI_l (show d j < 2 ^ 31 by omega), if_neg e2, nI_sub cc, lN_sub cc, nI_1]
      refine ih (j + 1) (rem - d j) fu gu (by omega) (by omega) (by omega) ?_
      show rem - d j + (smm d j + d j) < _
      omega
    · have e1 : ¬ nI (d j) ≤ nI rem := by rw [nI_le_iff (by omega) (by omega)]; exact cc
      have e2 : lg_cmp (lN rem) (lN (d j)) < 0 := by rw [lgclt (by omega) (by omega)]; omega
      refine ⟨nI j, ?_, ?_⟩
      · simp only [gI_19_2, h2, Option.bind_some, if_neg c, gR_19_0, fr_r j hj12, g7, d2, if_neg e1]
      · simp only [gR_71_29, Option.bind_some, aG_nI sh_87 hj12 (show 12 ≤ 100000 by decide), d3, nI_l (show d j < 2 ^ 31 by omega), if_pos e2]
theorem s_when (h : RI b F) (hN : 100 < N) : ∃ F2 G2, q_when (SS n) N 0 71 95 p1 p2 F G = some (1, F2, G2) ∧ RI b F2 := by
  obtain ⟨f, hf1, hf2, hf3, hf4⟩ := h.fr
  have n11 : ¬ (1 : Int32) ≤ 0 := by decide
  have y00 : (0 : Int32) ≤ 0 := by decide
  have thr : f_PF_when (SS n) N 0 p1 p2 F = some (1, 0, F) → f_Mo_when (SS n) N 71 p1 p2 F = some (0, up2 F 71 3 1) → ∃ F2 G2, q_when (SS n) N 0 71 95 p1 p2 F G = some (1, F2, G2) ∧ RI b F2 := fun e1 e2 => by
    obtain ⟨G2, e3⟩ := w_when (N := N) (G := G) e1 e2 (up2_eq F 71 3 1) (Or.inr ⟨rfl, rfl⟩)
    exact ⟨_, G2, e3, h.code⟩
  by_cases c1 : p1 < 0
  · refine thr ?_ ?_
    · unfold f_PF_when
      rw [if_pos c1]
    · unfold f_Mo_when
      simp only [if_pos c1, pI_71_3, gI_71_3, Option.bind_some, up2_eq, if_neg n11]
  · by_cases c2 : 0 ≤ p2
    · obtain ⟨p, hp1, hp2⟩ : ∃ p : Nat, p < 2 ^ 31 ∧ p1 = nI p := nI_of c1
      obtain ⟨d, hd⟩ : ∃ d : Nat → Nat, ∀ j, j < f → d j ≤ 1000 ∧ F (23 + 4 * j) 7 = nI (d j) ∧ F 87 j = nI (d j) := by
        refine ⟨fun j => (F 87 j).toNatClampNeg, fun j hj => ?_⟩
        obtain ⟨x, y, w, hh, e, dd, h1, h2, h3, h4, h5, h6, a1, a2, a3, a4, a5, a6, a7, a8, a9, a10, a11, a12, hs⟩ := (hf4 j hj).g
        have : (F 87 j).toNatClampNeg = dd := by rw [a12, nI_cl (by omega)]
        show (F 87 j).toNatClampNeg ≤ 1000 ∧ F (23 + 4 * j) 7 = nI (F 87 j).toNatClampNeg ∧ F 87 j = nI (F 87 j).toNatClampNeg
        rw [this]
        exact ⟨h6, a11, a12⟩
      have hT : smm d f ≤ 12000 := by
        have := smm_le (fun j hj => (hd j hj).1) f (Nat.le_refl f)
        omega
      obtain ⟨M, hM⟩ : ∃ z, N = z + 1 + f := ⟨N - 1 - f, by omega⟩
      have r1 : f_Sc_frameAt (SS n) N 19 p1 p2 F = t_Sc_frameAt (SS n) N 19 p1 p2 (M + 1) 0 (nI f - 1) (nI (smm d f)) (nI f) 0 0 F := by
        unfold f_Sc_frameAt
        have e := fa_loop0 (n := n) (N := N) (p1 := p1) (p2 := p2) (u3 := nI f - 1) hf2 hf1 (fun j hj => (hd j hj).2.1) f 0 (M + 1) (by omega)
        rw [← hM] at e
        rw [gI_19_2, hf2, Option.bind_some]
        exact e
      have z1 : up2 F 71 3 0 71 23 = nI f := by rw [up2_ne _ _ _ _ (Or.inr (by decide))]; exact hf3
      have z2 : ∀ j, up2 F 71 3 0 87 j = F 87 j := fun j => by rw [up2_ne _ _ _ _ (Or.inl (by decide))]
      have r2 : f_Mo_when (SS n) N 71 p1 p2 F = t_Mo_when (SS n) N 71 p1 p2 (M + 1) 0 (lN (smm d f)) (nI f) 0 0 (up2 F 71 3 0) := by
        unfold f_Mo_when
        have e := wh_loop0 (n := n) (N := N) (p1 := p1) (p2 := p2) z1 hf1 (fun j hj => ⟨(hd j hj).1, by rw [z2]; exact (hd j hj).2.2⟩) f 0 (M + 1) (by omega)
        rw [← hM] at e
        simp only [if_neg c1, if_pos c2, pI_71_3, gI_71_3, Option.bind_some, up2_eq, if_pos y00]
        exact e
      have done : ∀ r, f_Sc_frameAt (SS n) N 19 p1 p2 F = some r → f_Mo_when (SS n) N 71 p1 p2 F = some (r, up2 F 71 3 0) → ∃ F2 G2, q_when (SS n) N 0 71 95 p1 p2 F G = some (1, F2, G2) ∧ RI b F2 := fun r e1 e2 => by
        have e0 : f_PF_when (SS n) N 0 p1 p2 F = some (0, r, F) := by
          unfold f_PF_when
          simp only [if_neg c1, if_pos c2, gR_0_5, Option.bind_some, xcl_19, e1]
        obtain ⟨G2, e3⟩ := w_when (N := N) (G := G) e0 e2 (up2_eq F 71 3 0) (Or.inl ⟨rfl, rfl, rfl⟩)
        exact ⟨_, G2, e3, h.code⟩
      have cf : nI f ≤ nI f := (nI_le_iff (by omega) (by omega)).mpr (Nat.le_refl f)
      generalize hTT : smm d f = T at r1 r2 hT
      by_cases hT0 : T = 0
      · subst hT0
        refine done (nI f - 1) ?_ ?_
        · rw [r1, t_Sc_frameAt, if_pos rfl]
          simp only [gI_19_2, hf2, Option.bind_some, if_pos cf, if_pos (show nI 0 ≤ (0 : Int32) by decide)]
          by_cases c3 : p2 ≤ 0
          · rw [if_pos c3]
          · rw [if_neg c3]
            by_cases c4 : lg_cmp p1.toInt64 ((nI 0).toInt64 * p2.toInt64) < 0
            · rw [if_pos c4]
            · rw [if_neg c4]
        · rw [r2, t_Mo_when, if_pos rfl]
          simp only [gI_71_23, z1, Option.bind_some, if_pos cf]
          by_cases c3 : nI f = 0
          · rw [if_pos c3]
          · rw [if_neg c3, if_pos (show lg_cmp (lN 0) 0 = 0 from lgc 0)]
      · have t1 : ¬ nI T ≤ 0 := nI_nle (by omega) (by omega)
        have t2 : ¬ nI T = 0 := nI_ne0 (by omega) (by omega)
        have t3 : ¬ lg_cmp (lN T) 0 = 0 := lgc0 (by omega) (by omega)
        have t4 : ¬ lN T = 0 := fun q => by
          have := (lN_eq (show T < 2 ^ 31 by omega) (show 0 < 2 ^ 31 by decide)).mp q
          omega
        have hf0 : 0 < f := by
          rcases Nat.eq_zero_or_pos f with q | q
          · subst q
            exact absurd hTT.symm hT0
          · exact q
        have t5 : ¬ nI f = 0 := nI_ne0 hf0 (by omega)
        have t6 : (nI T).toInt64 = lN T := nI_l (by omega)
        have t7 : p1 - p1 / nI T * nI T = nI (p % T) := by rw [hp2]; exact pk_rem hp1 (by omega) (by omega)
        have t8 : p1.toInt64 - p1.toInt64 / lN T * lN T = lN (p % T) := by rw [hp2, nI_l hp1]; exact pk_lRem (by omega) (by omega) (by omega)
        have hm : p % T < T := Nat.mod_lt p (by omega)
        obtain ⟨r, q1, q2⟩ := wh_two (n := n) (N := N) (p1 := p1) (p2 := p2) (u3 := nI f - 1) (u4 := nI T) (u5 := 0) (l3 := lN T) (F' := up2 F 71 3 0) hf2 hf1 (fun j hj => ⟨(hd j hj).1, (hd j hj).2.1, by rw [z2]; exact (hd j hj).2.2⟩) f 0 (p % T) M M (by omega) (by omega) (by omega) (by rw [hTT]; show p % T + 0 < T; omega)
        have go : p2 ≤ 0 ∨ lg_cmp p1.toInt64 (lN T * p2.toInt64) < 0 → ∃ F2 G2, q_when (SS n) N 0 71 95 p1 p2 F G = some (1, F2, G2) ∧ RI b F2 := fun cc => by
          refine done r ?_ ?_
          · rw [r1, t_Sc_frameAt, if_pos rfl]
            simp only [gI_19_2, hf2, Option.bind_some, if_pos cf, if_neg t1, if_neg t2, t6, t7]
            by_cases c3 : p2 ≤ 0
            · rw [if_pos c3, if_pos trivial]; exact q1
            · rw [if_neg c3, if_pos (cc.resolve_left c3), if_pos trivial]; exact q1
          · rw [r2, t_Mo_when, if_pos rfl]
            simp only [gI_71_23, z1, Option.bind_some, if_pos cf, if_neg t5, if_neg t3, if_neg t4, t8]
            by_cases c3 : p2 ≤ 0
            · rw [if_pos c3]; exact q2
            · rw [if_neg c3, if_pos (cc.resolve_left c3)]; exact q2
        by_cases c3 : p2 ≤ 0
        · exact go (Or.inl c3)
        · by_cases c4 : lg_cmp p1.toInt64 (lN T * p2.toInt64) < 0
          · exact go (Or.inr c4)
          · refine done (nI f - 1) ?_ ?_
            · rw [r1, t_Sc_frameAt, if_pos rfl]
              simp only [gI_19_2, hf2, Option.bind_some, if_pos cf, if_neg t1, t6, if_neg c3, if_neg c4, if_neg (show ¬ (1 : Int32) = 0 by decide)]
            · rw [r2, t_Mo_when, if_pos rfl]
              simp only [gI_71_23, z1, Option.bind_some, if_pos cf, if_neg t5, if_neg t3, if_neg c3, if_neg c4]
    · refine thr ?_ ?_
      · unfold f_PF_when
        rw [if_neg c1, if_neg c2]
      · unfold f_Mo_when
        simp only [if_neg c1, if_neg c2, pI_71_3, gI_71_3, Option.bind_some, up2_eq, if_neg n11]
end SW
