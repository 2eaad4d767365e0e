/-! shown: the reference's side -/
section SH
variable {b n N i f x y p r : Nat} {F : xF} {G : xL} {p1 p2 p3 p0 : Int32}
def Agr (F R : xF) : Prop := ∀ a, 82 ≤ a → a ≤ 90 → R a = F a
theorem plc_of (h : Frm b i F) (hi : i < 12) {R : xF} (hR : Agr F R) {c : Nat} : f_Mo_placeOf (SS n) 71 (nI i) (nI r) (nI c) R = some (nI (24 * (gY F i + r) + gX F i + c)) := by
  obtain ⟨h1, h2, h3, h4, h5, a1, a2, a3, a4, a5, a6, a7, a8, a9, a10, hs⟩ := geo h
  unfold f_Mo_placeOf
  simp only [gR_71_25, gR_71_24, Option.bind_some, aG_nI sh_83 hi (show 12 ≤ 100000 by decide), aG_nI sh_82 hi (show 12 ≤ 100000 by decide), hR 83 (by decide) (by decide), hR 82 (by decide) (by decide), a4, a2]
  rw [show (24 : Int32) = nI 24 from rfl, nI_ad, nI_mul, nI_ad, nI_ad]
theorem dr0 : ∀ (d k : Nat) (R : xF), k + d = 576 → ∃ R', (∀ fu, t_Mo_draw (SS n) N 71 p0 (fu + d) 0 (nI k) 0 R = t_Mo_draw (SS n) N 71 p0 fu 0 (nI 576) 0 R') ∧ (∀ a, a ≠ 93 → a ≠ 94 → R' a = R a) ∧ (∀ j, k ≤ j → j < 576 → R' 93 j = R 91 j ∧ R' 94 j = R 92 j) ∧ (∀ j, j < k → R' 93 j = R 93 j ∧ R' 94 j = R 94 j) := by
  intro d
  induction d with
  | zero =>
    intro k R hk
    have : k = 576 := by omega
    subst this
    exact ⟨R, fun fu => rfl, fun a _ _ => rfl, fun j q1 q2 => by omega, fun j _ => ⟨rfl, rfl⟩⟩
  | succ d ih =>
    intro k R hk
    obtain ⟨R', e1, e2, e3, e4⟩ := ih (k + 1) (up2 (up2 R 93 k (R 91 k)) 94 k (R 92 k)) (by omega)
    have c : ¬ (576 : Int32) ≤ nI k := by rw [show (576 : Int32) = nI 576 from rfl, nI_le_iff (by decide) (by omega)]; omega
    refine ⟨R', fun fu => ?_, fun a q1 q2 => ?_, fun j q1 q2 => ?_, fun j q1 => ?_⟩
    · rw [← Nat.add_assoc, t_Mo_draw, if_pos rfl, if_neg c]
      simp only [gR_71_35, gR_71_33, gR_71_36, gR_71_34, Option.bind_some, aG_nI sh_91 (show k < 576 by omega) (show 576 ≤ 100000 by decide), aP_nI sh_93 (show k < 576 by omega) (show 576 ≤ 100000 by decide), aG_nI sh_92 (show k < 576 by omega) (show 576 ≤ 100000 by decide), aP_nI sh_94 (show k < 576 by omega) (show 576 ≤ 100000 by decide), up2_ne R 93 k _ (Or.inl (show 92 ≠ 93 by decide)), nI_1]
      exact e1 fu
    · rw [e2 a q1 q2, up2_row _ _ _ _ q2, up2_row _ _ _ _ q1]
    · by_cases hj : j = k
      · subst hj
        rw [(e4 j (by omega)).1, (e4 j (by omega)).2, up2_ne _ _ _ _ (Or.inl (by decide)), up2_eq, up2_eq]
        exact ⟨rfl, rfl⟩
      · rw [(e3 j (by omega) q2).1, (e3 j (by omega) q2).2, up2_row _ _ _ _ (by decide), up2_row _ _ _ _ (by decide), up2_row _ _ _ _ (by decide), up2_row _ _ _ _ (by decide)]
        exact ⟨rfl, rfl⟩
    · rw [(e4 j (by omega)).1, (e4 j (by omega)).2, up2_ne _ _ _ _ (Or.inl (by decide)), up2_ne _ _ _ _ (Or.inr (by omega)), up2_ne _ _ _ _ (Or.inr (by omega)), up2_ne _ _ _ _ (Or.inl (by decide))]
      exact ⟨rfl, rfl⟩
theorem dr_row (h : Frm b i F) (hi : i < 12) (hx : x < 24) (hy : y < 24) (hr : r < gH F i) : ∀ (d c : Nat) (R : xF), c + d = gW F i → Agr F R → ∃ R', (∀ fu, t_Mo_draw (SS n) N 71 (nI i) (fu + d) 2 (nI r) (nI c) R = t_Mo_draw (SS n) N 71 (nI i) fu 2 (nI r) (nI (gW F i)) R') ∧ (∀ a, a ≠ 91 → a ≠ 92 → R' a = R a) ∧ ((y = gY F i + r ∧ gX F i + c ≤ x ∧ x < gX F i + gW F i ∧ sgm F x y i ≠ F 88 i) → R' 91 (24 * y + x) = nI i ∧ R' 92 (24 * y + x) = sgm F x y i) ∧ (¬ (y = gY F i + r ∧ gX F i + c ≤ x ∧ x < gX F i + gW F i ∧ sgm F x y i ≠ F 88 i) → R' 91 (24 * y + x) = R 91 (24 * y + x) ∧ R' 92 (24 * y + x) = R 92 (24 * y + x)) := by
  obtain ⟨h1, h2, h3, h4, h5, a1, a2, a3, a4, a5, a6, a7, a8, a9, a10, hs⟩ := geo h
  intro d
  induction d with
  | zero =>
    intro c R hc hR
    have : c = gW F i := by omega
    subst this
    exact ⟨R, fun fu => rfl, fun a _ _ => rfl, fun q => by omega, fun _ => ⟨rfl, rfl⟩⟩
  | succ d ih =>
    intro c R hc hR
    have c1 : ¬ nI (gW F i) ≤ nI c := by rw [nI_le_iff (by omega) (by omega)]; omega
    have e0 : (576 : Int32) * nI i + 24 * nI r + nI c = nI (576 * i + 24 * r + c) := by rw [show (576 : Int32) = nI 576 from rfl, show (24 : Int32) = nI 24 from rfl, nI_mul, nI_mul, nI_ad, nI_ad]
    have sg : y = gY F i + r → x = gX F i + c → sgm F x y i = F 89 (576 * i + 24 * r + c) := fun q1 q2 => by
      unfold sgm
      rw [show y - gY F i = r by omega, show x - gX F i = c by omega]
    by_cases hv : F 89 (576 * i + 24 * r + c) = F 88 i
    · obtain ⟨R', e1, e2, e3, e4⟩ := ih (c + 1) R (by omega) hR
      refine ⟨R', fun fu => ?_, e2, fun q => ?_, fun q => ?_⟩
      · rw [← Nat.add_assoc, t_Mo_draw, if_neg (by decide), if_neg (by decide)]
        simp only [gR_71_26, gR_71_31, gR_71_30, Option.bind_some, aG_nI sh_84 hi (show 12 ≤ 100000 by decide), hR 84 (by decide) (by decide), a6, if_neg c1, e0, aG_nI sh_89 (show 576 * i + 24 * r + c < 6912 by omega) (show 6912 ≤ 100000 by decide), hR 89 (by decide) (by decide), aG_nI sh_88 hi (show 12 ≤ 100000 by decide), hR 88 (by decide) (by decide), if_pos hv, nI_1]
        exact e1 fu
      · by_cases hxc : x = gX F i + c
        · rw [sg q.1 hxc] at q
          exact absurd hv q.2.2.2
        · exact e3 ⟨q.1, by omega, q.2.2.1, q.2.2.2⟩
      · exact e4 (fun q' => q ⟨q'.1, by omega, q'.2.2.1, q'.2.2.2⟩)
    · have hp : 24 * (gY F i + r) + gX F i + c < 576 := by omega
      have hR1 : Agr F (up2 (up2 R 91 (24 * (gY F i + r) + gX F i + c) (nI i)) 92 (24 * (gY F i + r) + gX F i + c) (F 89 (576 * i + 24 * r + c))) := fun a q1 q2 => by
        rw [up2_row _ _ _ _ (by omega), up2_row _ _ _ _ (by omega)]; exact hR a q1 q2
      have hR2 : Agr F (up2 R 91 (24 * (gY F i + r) + gX F i + c) (nI i)) := fun a q1 q2 => by
        rw [up2_row _ _ _ _ (by omega)]; exact hR a q1 q2
      obtain ⟨R', e1, e2, e3, e4⟩ := ih (c + 1) _ (by omega) hR1
      refine ⟨R', fun fu => ?_, fun a q1 q2 => ?_, fun q => ?_, fun q => ?_⟩
      · rw [← Nat.add_assoc, t_Mo_draw, if_neg (by decide), if_neg (by decide)]
        simp only [gR_71_26, gR_71_31, gR_71_30, gR_71_33, gR_71_34, Option.bind_some, aG_nI sh_84 hi (show 12 ≤ 100000 by decide), hR 84 (by decide) (by decide), a6, if_neg c1, e0, aG_nI sh_89 (show 576 * i + 24 * r + c < 6912 by omega) (show 6912 ≤ 100000 by decide), hR 89 (by decide) (by decide), aG_nI sh_88 hi (show 12 ≤ 100000 by decide), hR 88 (by decide) (by decide), if_neg hv, xcl_71, plc_of h hi hR, aP_nI sh_91 hp (show 576 ≤ 100000 by decide), plc_of h hi hR2, aP_nI sh_92 hp (show 576 ≤ 100000 by decide), nI_1]
        exact e1 fu
      · rw [e2 a q1 q2, up2_row _ _ _ _ q2, up2_row _ _ _ _ q1]
      · by_cases hxc : x = gX F i + c
        · have hpj : 24 * (gY F i + r) + gX F i + c = 24 * y + x := by omega
          obtain ⟨k1, k2⟩ := e4 (fun q' => by omega)
          rw [k1, k2, hpj, up2_ne _ _ _ _ (Or.inl (by decide)), up2_eq, up2_eq, sg q.1 hxc]
          exact ⟨rfl, rfl⟩
        · exact e3 ⟨q.1, by omega, q.2.2.1, q.2.2.2⟩
      · obtain ⟨k1, k2⟩ := e4 (fun q' => q ⟨q'.1, by omega, q'.2.2.1, q'.2.2.2⟩)
        have hpj : 24 * y + x ≠ 24 * (gY F i + r) + gX F i + c := fun q' => by
          have y1 : y = gY F i + r := by omega
          have x1 : x = gX F i + c := by omega
          exact q ⟨y1, by omega, by omega, by rw [sg y1 x1]; exact hv⟩
        rw [k1, k2, up2_ne _ _ _ _ (Or.inl (by decide)), up2_ne _ _ _ _ (Or.inr hpj), up2_ne _ _ _ _ (Or.inr hpj), up2_ne _ _ _ _ (Or.inl (by decide))]
        exact ⟨rfl, rfl⟩
theorem dr_rows (h : Frm b i F) (hi : i < 12) (hx : x < 24) (hy : y < 24) : ∀ (d r : Nat) (R : xF), r + d = gH F i → Agr F R → ∃ k R', k ≤ d * 26 ∧ (∀ fu, t_Mo_draw (SS n) N 71 (nI i) (fu + k) 1 (nI r) 0 R = t_Mo_draw (SS n) N 71 (nI i) fu 1 (nI (gH F i)) 0 R') ∧ (∀ a, a ≠ 91 → a ≠ 92 → R' a = R a) ∧ ((gY F i + r ≤ y ∧ y < gY F i + gH F i ∧ gX F i ≤ x ∧ x < gX F i + gW F i ∧ sgm F x y i ≠ F 88 i) → R' 91 (24 * y + x) = nI i ∧ R' 92 (24 * y + x) = sgm F x y i) ∧ (¬ (gY F i + r ≤ y ∧ y < gY F i + gH F i ∧ gX F i ≤ x ∧ x < gX F i + gW F i ∧ sgm F x y i ≠ F 88 i) → R' 91 (24 * y + x) = R 91 (24 * y + x) ∧ R' 92 (24 * y + x) = R 92 (24 * y + x)) := by
  obtain ⟨h1, h2, h3, h4, h5, a1, a2, a3, a4, a5, a6, a7, a8, a9, a10, hs⟩ := geo h
  intro d
  induction d with
  | zero =>
    intro r R hr hR
    have : r = gH F i := by omega
    subst this
    exact ⟨0, R, Nat.le_refl _, fun fu => rfl, fun a _ _ => rfl, fun q => by omega, fun _ => ⟨rfl, rfl⟩⟩
  | succ d ih =>
    intro r R hr hR
    obtain ⟨R1, e1, e2, e3, e4⟩ := dr_row (n := n) (N := N) h hi hx hy (show r < gH F i by omega) (gW F i) 0 R (by omega) hR
    have hR1 : Agr F R1 := fun a q1 q2 => by rw [e2 a (by omega) (by omega)]; exact hR a q1 q2
    obtain ⟨k, R', k1, k2, k3, k4, k5⟩ := ih (r + 1) R1 (by omega) hR1
    have c1 : ¬ nI (gH F i) ≤ nI r := by rw [nI_le_iff (by omega) (by omega)]; omega
    have c2 : nI (gW F i) ≤ nI (gW F i) := (nI_le_iff (by omega) (by omega)).mpr (Nat.le_refl _)
    refine ⟨k + 1 + gW F i + 1, R', by omega, fun fu => ?_, fun a q1 q2 => by rw [k3 a q1 q2, e2 a q1 q2], fun q => ?_, fun q => ?_⟩
    · rw [show fu + (k + 1 + gW F i + 1) = fu + k + 1 + gW F i + 1 by omega, t_Mo_draw, if_neg (by decide), if_pos rfl]
      simp only [gR_71_27, Option.bind_some, aG_nI sh_85 hi (show 12 ≤ 100000 by decide), hR 85 (by decide) (by decide), a8, if_neg c1]
      refine Eq.trans (e1 (fu + k + 1)) ?_
      rw [t_Mo_draw, if_neg (by decide), if_neg (by decide)]
      simp only [gR_71_26, Option.bind_some, aG_nI sh_84 hi (show 12 ≤ 100000 by decide), hR1 84 (by decide) (by decide), a6, if_pos c2, nI_1]
      exact k2 fu
    · by_cases hyr : y = gY F i + r
      · obtain ⟨z1, z2⟩ := k5 (fun q' => by omega)
        rw [z1, z2]
        exact e3 ⟨hyr, by omega, q.2.2.2.1, q.2.2.2.2⟩
      · exact k4 ⟨by omega, q.2.1, q.2.2⟩
    · obtain ⟨z1, z2⟩ := k5 (fun q' => q ⟨by omega, q'.2.1, q'.2.2⟩)
      obtain ⟨z3, z4⟩ := e4 (fun q' => q ⟨by omega, by omega, by omega, q'.2.2.1, q'.2.2.2⟩)
      rw [z1, z2, z3, z4]
      exact ⟨rfl, rfl⟩
def ShP (F R : xF) (x y : Nat) (o : Option Nat) : Prop := R 91 (24 * y + x) = oI o ∧ ∀ k, o = some k → R 92 (24 * y + x) = sgm F x y k
def KeP (F R : xF) (x y : Nat) (o : Option Nat) : Prop := R 93 (24 * y + x) = oI o ∧ ∀ k, o = some k → R 94 (24 * y + x) = sgm F x y k
theorem draw_of (h : Frm b i F) (hi : i < 12) (hx : x < 24) (hy : y < 24) (hN : 2000 < N) {R : xF} (hR : Agr F R) (hS : ShP F R x y (srcA F x y i)) : ∃ R', f_Mo_draw (SS n) N 71 (nI i) R = some R' ∧ (∀ a, (a < 91 ∨ 94 < a) → R' a = R a) ∧ ShP F R' x y (drw F x y i) ∧ KeP F R' x y (srcA F x y i) := by
  obtain ⟨h1, h2, h3, h4, h5, a1, a2, a3, a4, a5, a6, a7, a8, a9, a10, hs⟩ := geo h
  obtain ⟨R1, e1, e2, e3, e4⟩ := dr0 (n := n) (N := N) (p0 := nI i) 576 0 R (by omega)
  have hR1 : Agr F R1 := fun a q1 q2 => by rw [e2 a (by omega) (by omega)]; exact hR a q1 q2
  obtain ⟨k, R', k1, k2, k3, k4, k5⟩ := dr_rows (n := n) (N := N) h hi hx hy (gH F i) 0 R1 (by omega) hR1
  have hR' : Agr F R' := fun a q1 q2 => by rw [k3 a (by omega) (by omega)]; exact hR1 a q1 q2
  have hj : 24 * y + x < 576 := by omega
  refine ⟨R', ?_, fun a q => by rw [k3 a (by omega) (by omega), e2 a (by omega) (by omega)], ?_, ?_⟩
  · unfold f_Mo_draw
    obtain ⟨M, hM⟩ : ∃ z, N = z + 1 + k + 1 + 576 := ⟨N - (1 + k + 1 + 576), by omega⟩
    have c2 : nI (gH F i) ≤ nI (gH F i) := (nI_le_iff (by omega) (by omega)).mpr (Nat.le_refl _)
    have z : t_Mo_draw (SS n) N 71 (nI i) (M + 1 + k + 1 + 576) 0 0 0 R = some R' := by
      refine Eq.trans (e1 (M + 1 + k + 1)) ?_
      rw [t_Mo_draw, if_pos rfl, if_pos (by decide)]
      refine Eq.trans (k2 (M + 1)) ?_
      rw [t_Mo_draw, if_neg (by decide), if_pos rfl]
      simp only [gR_71_27, Option.bind_some, aG_nI sh_85 hi (show 12 ≤ 100000 by decide), hR' 85 (by decide) (by decide), a8, if_pos c2]
    rw [← hM] at z
    exact z
  · unfold drw
    by_cases c : vis F x y i = true
    · have c' := vis_iff.mp c
      have c'' := cvr_iff.mp c'.1
      rw [if_pos c]
      obtain ⟨z1, z2⟩ := k4 ⟨by omega, by omega, by omega, by omega, c'.2⟩
      refine ⟨z1, fun k' hk' => ?_⟩
      have : i = k' := Option.some.inj hk'
      subst this
      exact z2
    · rw [if_neg c]
      obtain ⟨z1, z2⟩ := k5 (fun q => c (vis_iff.mpr ⟨cvr_iff.mpr (by omega), q.2.2.2.2⟩))
      unfold ShP
      rw [z1, z2, e2 91 (by decide) (by decide), e2 92 (by decide) (by decide)]
      exact hS
  · unfold KeP
    rw [k3 93 (by decide) (by decide), k3 94 (by decide) (by decide), (e3 _ (Nat.zero_le _) hj).1, (e3 _ (Nat.zero_le _) hj).2]
    exact hS
theorem ta_row (h : Frm b i F) (hi : i < 12) (hx : x < 24) (hy : y < 24) (hr : r < gH F i) : ∀ (d c : Nat) (R : xF), c + d = gW F i → Agr F R → ∃ R', (∀ fu, t_Mo_takeAway (SS n) N 71 (nI i) (fu + d) 1 (nI r) (nI c) R = t_Mo_takeAway (SS n) N 71 (nI i) fu 1 (nI r) (nI (gW F i)) R') ∧ (∀ a, a ≠ 91 → a ≠ 92 → R' a = R a) ∧ ((y = gY F i + r ∧ gX F i + c ≤ x ∧ x < gX F i + gW F i) → R' 91 (24 * y + x) = (if gE F i = 2 then -1 else R 93 (24 * y + x)) ∧ R' 92 (24 * y + x) = (if gE F i = 2 then -1 else R 94 (24 * y + x))) ∧ (¬ (y = gY F i + r ∧ gX F i + c ≤ x ∧ x < gX F i + gW F i) → R' 91 (24 * y + x) = R 91 (24 * y + x) ∧ R' 92 (24 * y + x) = R 92 (24 * y + x)) := by
  obtain ⟨h1, h2, h3, h4, h5, a1, a2, a3, a4, a5, a6, a7, a8, a9, a10, hs⟩ := geo h
  intro d
  induction d with
  | zero =>
    intro c R hc hR
    have : c = gW F i := by omega
    subst this
    exact ⟨R, fun fu => rfl, fun a _ _ => rfl, fun q => by omega, fun _ => ⟨rfl, rfl⟩⟩
  | succ d ih =>
    intro c R hc hR
    have c1 : ¬ nI (gW F i) ≤ nI c := by rw [nI_le_iff (by omega) (by omega)]; omega
    have hp : 24 * (gY F i + r) + gX F i + c < 576 := by omega
    obtain ⟨v1, hv1⟩ : ∃ v1, v1 = (if gE F i = 2 then (-1 : Int32) else R 93 (24 * (gY F i + r) + gX F i + c)) := ⟨_, rfl⟩
    obtain ⟨v2, hv2⟩ : ∃ v2, v2 = (if gE F i = 2 then (-1 : Int32) else R 94 (24 * (gY F i + r) + gX F i + c)) := ⟨_, rfl⟩
    have hR1 : Agr F (up2 (up2 R 91 (24 * (gY F i + r) + gX F i + c) v1) 92 (24 * (gY F i + r) + gX F i + c) v2) := fun a q1 q2 => by
      rw [up2_row _ _ _ _ (by omega), up2_row _ _ _ _ (by omega)]; exact hR a q1 q2
    have hR2 : ∀ v, Agr F (up2 R 91 (24 * (gY F i + r) + gX F i + c) v) := fun v a q1 q2 => by
      rw [up2_row _ _ _ _ (by omega)]; exact hR a q1 q2
    obtain ⟨R', e1, e2, e3, e4⟩ := ih (c + 1) _ (by omega) hR1
    refine ⟨R', fun fu => ?_, fun a q1 q2 => ?_, fun q => ?_, fun q => ?_⟩
    · refine Eq.trans ?_ (e1 fu)
      rw [← Nat.add_assoc, t_Mo_takeAway, if_neg (by decide)]
      by_cases c3 : gE F i = 2
      · rw [if_pos c3] at hv1 hv2
        have c4 : nI (gE F i) = 2 := by rw [c3]; rfl
        simp only [gR_71_26, gR_71_33, gR_71_28, gR_71_34, Option.bind_some, aG_nI sh_84 hi (show 12 ≤ 100000 by decide), hR 84 (by decide) (by decide), a6, if_neg c1, xcl_71, plc_of h hi hR, aG_nI sh_86 hi (show 12 ≤ 100000 by decide), hR 86 (by decide) (by decide), a10, if_pos c4, aP_nI sh_91 hp (show 576 ≤ 100000 by decide), hR2 (-1) 86 (by decide) (by decide), aP_nI sh_92 hp (show 576 ≤ 100000 by decide), nI_1, hv1, hv2]
      · rw [if_neg c3] at hv1 hv2
        have c4 : ¬ nI (gE F i) = 2 := by rw [show (2 : Int32) = nI 2 from rfl, nI_eq_iff (by omega) (by decide)]; exact c3
        simp only [gR_71_26, gR_71_33, gR_71_28, gR_71_34, gR_71_35, gR_71_36, Option.bind_some, aG_nI sh_84 hi (show 12 ≤ 100000 by decide), hR 84 (by decide) (by decide), a6, if_neg c1, xcl_71, plc_of h hi hR, aG_nI sh_86 hi (show 12 ≤ 100000 by decide), hR 86 (by decide) (by decide), a10, if_neg c4, aG_nI sh_93 hp (show 576 ≤ 100000 by decide), aP_nI sh_91 hp (show 576 ≤ 100000 by decide), hR2 _ 86 (by decide) (by decide), aG_nI sh_94 hp (show 576 ≤ 100000 by decide), up2_row R 91 _ _ (show 94 ≠ 91 by decide), aP_nI sh_92 hp (show 576 ≤ 100000 by decide), nI_1, hv1, hv2]
    · rw [e2 a q1 q2, up2_row _ _ _ _ q2, up2_row _ _ _ _ q1]
    · by_cases hxc : x = gX F i + c
      · have hpj : 24 * (gY F i + r) + gX F i + c = 24 * y + x := by omega
        obtain ⟨k1, k2⟩ := e4 (fun q' => by omega)
        rw [k1, k2, hpj, up2_ne _ _ _ _ (Or.inl (by decide)), up2_eq, up2_eq, hv1, hv2, hpj]
        exact ⟨rfl, rfl⟩
      · obtain ⟨k1, k2⟩ := e3 ⟨q.1, by omega, q.2.2⟩
        rw [k1, k2, up2_row _ _ _ _ (by decide), up2_row _ _ _ _ (by decide), up2_row _ _ _ _ (by decide), up2_row _ _ _ _ (by decide)]
        exact ⟨rfl, rfl⟩
    · obtain ⟨k1, k2⟩ := e4 (fun q' => q ⟨q'.1, by omega, q'.2.2⟩)
      have hpj : 24 * y + x ≠ 24 * (gY F i + r) + gX F i + c := fun q' => by
        have y1 : y = gY F i + r := by omega
        have x1 : x = gX F i + c := by omega
        exact q ⟨y1, by omega, by omega⟩
      rw [k1, k2, up2_ne _ _ _ _ (Or.inl (by decide)), up2_ne _ _ _ _ (Or.inr hpj), up2_ne _ _ _ _ (Or.inr hpj), up2_ne _ _ _ _ (Or.inl (by decide))]
      exact ⟨rfl, rfl⟩
theorem ta_rows (h : Frm b i F) (hi : i < 12) (hE : 2 ≤ gE F i) (hx : x < 24) (hy : y < 24) : ∀ (d r : Nat) (R : xF), r + d = gH F i → Agr F R → ∃ k R', k ≤ d * 26 ∧ (∀ fu, t_Mo_takeAway (SS n) N 71 (nI i) (fu + k) 0 (nI r) 0 R = t_Mo_takeAway (SS n) N 71 (nI i) fu 0 (nI (gH F i)) 0 R') ∧ (∀ a, a ≠ 91 → a ≠ 92 → R' a = R a) ∧ ((gY F i + r ≤ y ∧ y < gY F i + gH F i ∧ gX F i ≤ x ∧ x < gX F i + gW F i) → R' 91 (24 * y + x) = (if gE F i = 2 then -1 else R 93 (24 * y + x)) ∧ R' 92 (24 * y + x) = (if gE F i = 2 then -1 else R 94 (24 * y + x))) ∧ (¬ (gY F i + r ≤ y ∧ y < gY F i + gH F i ∧ gX F i ≤ x ∧ x < gX F i + gW F i) → R' 91 (24 * y + x) = R 91 (24 * y + x) ∧ R' 92 (24 * y + x) = R 92 (24 * y + x)) := by
  obtain ⟨h1, h2, h3, h4, h5, a1, a2, a3, a4, a5, a6, a7, a8, a9, a10, hs⟩ := geo h
  intro d
  induction d with
  | zero =>
    intro r R hr hR
    have : r = gH F i := by omega
    subst this
    exact ⟨0, R, Nat.le_refl _, fun fu => rfl, fun a _ _ => rfl, fun q => by omega, fun _ => ⟨rfl, rfl⟩⟩
  | succ d ih =>
    intro r R hr hR
    obtain ⟨R1, e1, e2, e3, e4⟩ := ta_row (n := n) (N := N) h hi hx hy (show r < gH F i by omega) (gW F i) 0 R (by omega) hR
    have hR1 : Agr F R1 := fun a q1 q2 => by rw [e2 a (by omega) (by omega)]; exact hR a q1 q2
    obtain ⟨k, R', k1, k2, k3, k4, k5⟩ := ih (r + 1) R1 (by omega) hR1
    have c1 : ¬ nI (gH F i) ≤ nI r := by rw [nI_le_iff (by omega) (by omega)]; omega
    have c2 : nI (gW F i) ≤ nI (gW F i) := (nI_le_iff (by omega) (by omega)).mpr (Nat.le_refl _)
    have c3 : ¬ nI (gE F i) ≤ 1 := by rw [show (1 : Int32) = nI 1 from rfl, nI_le_iff (by omega) (by decide)]; omega
    refine ⟨k + 1 + gW F i + 1, R', by omega, fun fu => ?_, fun a q1 q2 => by rw [k3 a q1 q2, e2 a q1 q2], fun q => ?_, fun q => ?_⟩
    · rw [show fu + (k + 1 + gW F i + 1) = fu + k + 1 + gW F i + 1 by omega, t_Mo_takeAway, if_pos rfl]
      simp only [gR_71_27, gR_71_28, Option.bind_some, aG_nI sh_85 hi (show 12 ≤ 100000 by decide), hR 85 (by decide) (by decide), a8, if_neg c1, aG_nI sh_86 hi (show 12 ≤ 100000 by decide), hR 86 (by decide) (by decide), a10, if_neg c3]
      refine Eq.trans (e1 (fu + k + 1)) ?_
      rw [t_Mo_takeAway, if_neg (by decide)]
      simp only [gR_71_26, Option.bind_some, aG_nI sh_84 hi (show 12 ≤ 100000 by decide), hR1 84 (by decide) (by decide), a6, if_pos c2, nI_1]
      exact k2 fu
    · by_cases hyr : y = gY F i + r
      · obtain ⟨z1, z2⟩ := k5 (fun q' => by omega)
        rw [z1, z2]
        exact e3 ⟨hyr, by omega, q.2.2.2⟩
      · obtain ⟨z1, z2⟩ := k4 ⟨by omega, q.2.1, q.2.2⟩
        rw [z1, z2, e2 93 (by decide) (by decide), e2 94 (by decide) (by decide)]
        exact ⟨rfl, rfl⟩
    · obtain ⟨z1, z2⟩ := k5 (fun q' => q ⟨by omega, q'.2.1, q'.2.2⟩)
      obtain ⟨z3, z4⟩ := e4 (fun q' => q ⟨by omega, by omega, by omega, q'.2.2⟩)
      rw [z1, z2, z3, z4]
      exact ⟨rfl, rfl⟩
theorem take_of (h : Frm b i F) (hi : i < 12) (hx : x < 24) (hy : y < 24) (hN : 2000 < N) {R : xF} (hR : Agr F R) (hS : ShP F R x y (drw F x y i)) (hK : KeP F R x y (srcA F x y i)) : ∃ R', f_Mo_takeAway (SS n) N 71 (nI i) R = some R' ∧ (∀ a, (a < 91 ∨ 94 < a) → R' a = R a) ∧ ShP F R' x y (srcA F x y (i + 1)) := by
  obtain ⟨h1, h2, h3, h4, h5, a1, a2, a3, a4, a5, a6, a7, a8, a9, a10, hs⟩ := geo h
  have e : srcA F x y (i + 1) = if cvr F x y i = true then (if gE F i = 2 then none else if gE F i = 3 then srcA F x y i else if vis F x y i = true then some i else srcA F x y i) else srcA F x y i := rfl
  by_cases hE : 2 ≤ gE F i
  · obtain ⟨k, R', k1, k2, k3, k4, k5⟩ := ta_rows (n := n) (N := N) h hi hE hx hy (gH F i) 0 R (by omega) hR
    have hR' : Agr F R' := fun a q1 q2 => by rw [k3 a (by omega) (by omega)]; exact hR a q1 q2
    refine ⟨R', ?_, fun a q => by rw [k3 a (by omega) (by omega)], ?_⟩
    · unfold f_Mo_takeAway
      obtain ⟨M, hM⟩ : ∃ z, N = z + 1 + k := ⟨N - (1 + k), by omega⟩
      have c2 : nI (gH F i) ≤ nI (gH F i) := (nI_le_iff (by omega) (by omega)).mpr (Nat.le_refl _)
      have z : t_Mo_takeAway (SS n) N 71 (nI i) (M + 1 + k) 0 0 0 R = some R' := by
        refine Eq.trans (k2 (M + 1)) ?_
        rw [t_Mo_takeAway, if_pos rfl]
        simp only [gR_71_27, Option.bind_some, aG_nI sh_85 hi (show 12 ≤ 100000 by decide), hR' 85 (by decide) (by decide), a8, if_pos c2]
      rw [← hM] at z
      exact z
    · rw [e]
      by_cases c : cvr F x y i = true
      · have c' := cvr_iff.mp c
        rw [if_pos c]
        obtain ⟨z1, z2⟩ := k4 ⟨by omega, by omega, by omega, by omega⟩
        by_cases c3 : gE F i = 2
        · rw [if_pos c3] at z1 z2 ⊢
          exact ⟨z1, fun k' hk' => by cases hk'⟩
        · rw [if_neg c3] at z1 z2 ⊢
          rw [if_pos (show gE F i = 3 by omega)]
          unfold ShP
          rw [z1, z2]
          exact hK
      · rw [if_neg c]
        obtain ⟨z1, z2⟩ := k5 (fun q => c (cvr_iff.mpr (by omega)))
        unfold ShP
        rw [z1, z2]
        have : drw F x y i = srcA F x y i := by unfold drw; rw [if_neg (fun q => c (vis_iff.mp q).1)]
        rw [this] at hS
        exact hS
  · refine ⟨R, ?_, fun a _ => rfl, ?_⟩
    · unfold f_Mo_takeAway
      obtain ⟨M, hM⟩ : ∃ z, N = z + 1 := ⟨N - 1, by omega⟩
      have c1 : ¬ nI (gH F i) ≤ 0 := by rw [show (0 : Int32) = nI 0 from rfl, nI_le_iff (by omega) (by decide)]; omega
      have c3 : nI (gE F i) ≤ 1 := by rw [show (1 : Int32) = nI 1 from rfl, nI_le_iff (by omega) (by decide)]; omega
      have z : t_Mo_takeAway (SS n) N 71 (nI i) (M + 1) 0 0 0 R = some R := by
        rw [t_Mo_takeAway, if_pos rfl]
        simp only [gR_71_27, gR_71_28, Option.bind_some, aG_nI sh_85 hi (show 12 ≤ 100000 by decide), hR 85 (by decide) (by decide), a8, if_neg c1, aG_nI sh_86 hi (show 12 ≤ 100000 by decide), hR 86 (by decide) (by decide), a10, if_pos c3]
      rw [← hM] at z
      exact z
    · rw [e]
      unfold drw at hS
      by_cases c : cvr F x y i = true
      · rw [if_pos c, if_neg (by omega), if_neg (by omega)]
        exact hS
      · rw [if_neg c]
        rw [if_neg (fun q => c (vis_iff.mp q).1)] at hS
        exact hS
end SH
