/-! frame: the reference's side, whole; the call -/
section SF2
variable {b n N i f w hh r l p st x y e d : Nat} {F : xF} {G : xL} {il p1 p2 p3 p4 p5 p6 p7 u8 u9 u10 u11 u12 u13 : Int32} {g : Nat → Int32}
theorem mfl_y (hf : f < 12) (hp3 : p3 = nI w) (hp4 : p4 = nI hh) (hw : w ≤ 24) (hh1 : hh ≤ 24) (hl : l < hh) (hst : st + w ≤ 12000) (hm : PN il l = p) (fu : Nat) : t_Mo_frame (SS n) N 71 p1 p2 p3 p4 il p6 p7 (fu + 1 + 1 + w + 1 + 1) 7 u8 (nI f) (nI st) (nI p) (nI l) 0 (upR F 89 g) = t_Mo_frame (SS n) N 71 p1 p2 p3 p4 il p6 p7 fu 7 u8 (nI f) (nI (st + w)) (nI p) (nI (l + 1)) 0 (upR F 89 (rowAdd g (576 * f + 24 * l) w (fun c => F 72 (st + c)))) := by
  rw [mf7y _ hp4 hh1 hl hm, mf8]
  have e := mf9 (n := n) (N := N) (F := F) (p1 := p1) (p2 := p2) (p4 := p4) (il := il) (p6 := p6) (p7 := p7) (u8 := u8) (u11 := nI p) hf hp3 hw (show l < 24 by omega) hst g w 0 (fu + 1 + 1) (by omega)
  rw [rowAdd_zero] at e
  refine Eq.trans e ?_
  rw [mf9e _ hp3 hw, mf10]
theorem mfl_n (hp4 : p4 = nI hh) (hh1 : hh ≤ 24) (hl : l < hh) (hm : PN il l ≠ p) (hp : p < 4) (fu : Nat) : t_Mo_frame (SS n) N 71 p1 p2 p3 p4 il p6 p7 (fu + 1 + 1) 7 u8 u9 u10 (nI p) (nI l) 0 F = t_Mo_frame (SS n) N 71 p1 p2 p3 p4 il p6 p7 fu 7 u8 u9 u10 (nI p) (nI (l + 1)) 0 F := by
  rw [mf7n _ hp4 hh1 hl hm hp, mf10]
theorem mfl_pass (hf : f < 12) (hp3 : p3 = nI w) (hp4 : p4 = nI hh) (hw : w ≤ 24) (hh1 : hh ≤ 24) (hwh : w * hh ≤ 12000) (hp : p < 4) (g0 : Nat → Int32) : ∀ (d l : Nat) (g : Nat → Int32), l + d = hh → FilI w hh (PN il) (F 72) (fun l => 576 * f + 24 * l) g0 p l g → ∃ k g', k ≤ d * 28 ∧ FilI w hh (PN il) (F 72) (fun l => 576 * f + 24 * l) g0 p hh g' ∧ ∀ fu, t_Mo_frame (SS n) N 71 p1 p2 p3 p4 il p6 p7 (fu + k) 7 u8 (nI f) (nI (stp w hh (PN il) p l)) (nI p) (nI l) 0 (upR F 89 g) = t_Mo_frame (SS n) N 71 p1 p2 p3 p4 il p6 p7 fu 7 u8 (nI f) (nI (stp w hh (PN il) p hh)) (nI p) (nI hh) 0 (upR F 89 g') := by
  intro d
  induction d with
  | zero =>
    intro l g hl hI
    have : l = hh := by omega
    subst this
    exact ⟨0, g, Nat.le_refl _, hI, fun fu => rfl⟩
  | succ d ih =>
    intro l g hl hI
    by_cases hm : PN il l = p
    · have h3 := stp_room (w := w) (pn := PN il) hm (show l < hh by omega)
      obtain ⟨k, g', k1, k2, k3⟩ := ih (l + 1) _ (by omega) (hI.y (Dis_m hw) hm (by omega))
      refine ⟨k + (w + 4), g', by omega, k2, fun fu => ?_⟩
      rw [show fu + (k + (w + 4)) = fu + k + 1 + 1 + w + 1 + 1 by omega, mfl_y hf hp3 hp4 hw hh1 (by omega) (by omega) hm, ← stp_y (h := hh) hm]
      exact k3 fu
    · obtain ⟨k, g', k1, k2, k3⟩ := ih (l + 1) _ (by omega) (hI.no hm)
      refine ⟨k + 2, g', by omega, k2, fun fu => ?_⟩
      rw [show fu + (k + 2) = fu + k + 1 + 1 by omega, mfl_n hp4 hh1 (by omega) hm hp, ← stp_n (h := hh) (w := w) hm]
      exact k3 fu
theorem mfl_all (hf : f < 12) (hp3 : p3 = nI w) (hp4 : p4 = nI hh) (hw : w ≤ 24) (hh1 : hh ≤ 24) (hwh : w * hh ≤ 12000) (g0 : Nat → Int32) : ∀ (d p : Nat) (g : Nat → Int32), p + d = 4 → FilI w hh (PN il) (F 72) (fun l => 576 * f + 24 * l) g0 p 0 g → ∃ k g', k ≤ d * 700 ∧ FilI w hh (PN il) (F 72) (fun l => 576 * f + 24 * l) g0 4 0 g' ∧ ∀ fu, t_Mo_frame (SS n) N 71 p1 p2 p3 p4 il p6 p7 (fu + k) 6 u8 (nI f) (nI (stp w hh (PN il) p 0)) (nI p) 0 0 (upR F 89 g) = t_Mo_frame (SS n) N 71 p1 p2 p3 p4 il p6 p7 fu 6 u8 (nI f) (nI (stp w hh (PN il) 4 0)) (nI 4) 0 0 (upR F 89 g') := by
  intro d
  induction d with
  | zero =>
    intro p g hp hI
    have : p = 4 := by omega
    subst this
    exact ⟨0, g, Nat.le_refl _, hI, fun fu => rfl⟩
  | succ d ih =>
    intro p g hp hI
    obtain ⟨k, g1, k1, k2, k3⟩ := mfl_pass (n := n) (N := N) (p1 := p1) (p2 := p2) (p6 := p6) (p7 := p7) (u8 := u8) hf hp3 hp4 hw hh1 hwh (show p < 4 by omega) g0 hh 0 g (by omega) hI
    obtain ⟨m, g', m1, m2, m3⟩ := ih (p + 1) g1 (by omega) k2.next
    refine ⟨m + 1 + k + 1, g', by omega, m2, fun fu => ?_⟩
    rw [show fu + (m + 1 + k + 1) = fu + m + 1 + k + 1 by omega, mf6 _ (by omega)]
    refine Eq.trans (k3 (fu + m + 1)) ?_
    rw [mf7e _ hp4 hh1, ← stp_next]
    exact m3 fu
theorem mfit_n (h : p3 < 1 ∨ 24 < p3 ∨ p4 < 1 ∨ 24 < p4 ∨ p1 < 0 ∨ 24 - p3 < p1 ∨ p2 < 0 ∨ 24 - p4 < p2) : f_Mo_frame (SS n) N 71 p1 p2 p3 p4 il p6 p7 F = t_Mo_frame (SS n) N 71 p1 p2 p3 p4 il p6 p7 N 0 0 0 0 0 0 0 F := by
  unfold f_Mo_frame
  by_cases c1 : p3 < 1
  · rw [if_pos c1]
  rw [if_neg c1]
  by_cases c2 : 24 < p3
  · rw [if_pos c2]
  rw [if_neg c2]
  by_cases c3 : p4 < 1
  · rw [if_pos c3]
  rw [if_neg c3]
  by_cases c4 : 24 < p4
  · rw [if_pos c4]
  rw [if_neg c4]
  by_cases c5 : p1 < 0
  · rw [if_pos c5]
  rw [if_neg c5]
  by_cases c6 : 24 - p3 < p1
  · rw [if_pos c6]
  rw [if_neg c6]
  by_cases c7 : p2 < 0
  · rw [if_pos c7]
  rw [if_neg c7, if_pos (((((((h.resolve_left c1).resolve_left c2).resolve_left c3).resolve_left c4).resolve_left c5).resolve_left c6).resolve_left c7)]
theorem mfit_y (c1 : ¬ p3 < 1) (c2 : ¬ 24 < p3) (c3 : ¬ p4 < 1) (c4 : ¬ 24 < p4) (c5 : ¬ p1 < 0) (c6 : ¬ 24 - p3 < p1) (c7 : ¬ p2 < 0) (c8 : ¬ 24 - p4 < p2) : f_Mo_frame (SS n) N 71 p1 p2 p3 p4 il p6 p7 F = t_Mo_frame (SS n) N 71 p1 p2 p3 p4 il p6 p7 N 1 1 0 0 0 0 0 F := by
  unfold f_Mo_frame
  rw [if_neg c1, if_neg c2, if_neg c3, if_neg c4, if_neg c5, if_neg c6, if_neg c7, if_neg c8]
theorem mbad0 {fu : Nat} (hfu : 5 < fu) : t_Mo_frame (SS n) N 71 p1 p2 p3 p4 il p6 p7 fu 0 u8 u9 u10 u11 u12 u13 F = some (0, up2 F 71 3 1) := by
  obtain ⟨z, rfl⟩ : ∃ z, fu = z + 1 + 1 + 1 + 1 + 1 := ⟨fu - 5, by omega⟩
  rw [mf0, mf1z, mf2, mf3z, mf4n _ (by rw [up2_eq]; decide)]
theorem mbad1 {fu : Nat} (hfu : 5 < fu) (h : p6 < 0 ∨ 3 < p6 ∨ p7 < 0 ∨ 1000 < p7) : t_Mo_frame (SS n) N 71 p1 p2 p3 p4 il p6 p7 fu 1 1 u9 u10 u11 u12 u13 F = some (0, up2 F 71 3 1) := by
  obtain ⟨z, rfl⟩ : ∃ z, fu = z + 1 + 1 + 1 + 1 := ⟨fu - 4, by omega⟩
  rw [mf1b _ h, mf2, mf3z, mf4n _ (by rw [up2_eq]; decide)]
theorem mframe_of (hf : f < 12) (h23 : F 71 23 = nI f) (hr : r ≤ 12000) (h5 : F 71 5 = nI r) (hp3 : p3 = nI w) (hp4 : p4 = nI hh) (hw24 : w ≤ 24) (hh24 : hh ≤ 24) (hwh : w * hh ≤ r) (hN : 20000 < N) (c1 : ¬ p6 < 0) (c2 : ¬ 3 < p6) (c3 : ¬ p7 < 0) (c4 : ¬ 1000 < p7) : ∃ F2, t_Mo_frame (SS n) N 71 p1 p2 p3 p4 il p6 p7 N 1 1 0 0 0 0 0 F = some (nI f, F2) ∧ (∀ a, a ≠ 71 → a ≠ 72 → (a < 82 ∨ 90 < a) → F2 a = F a) ∧ (∀ j, j ≠ 3 → j ≠ 5 → j ≠ 23 → F2 71 j = F 71 j) ∧ F2 71 3 = 0 ∧ F2 71 5 = nI (r - w * hh) ∧ F2 71 23 = nI (f + 1) ∧ (∀ k, k < r - w * hh → F2 72 k = F 72 (k + w * hh)) ∧ (∀ a, 82 ≤ a → a ≤ 88 → ∀ j, j ≠ f → F2 a j = F a j) ∧ F2 82 f = p1 ∧ F2 83 f = p2 ∧ F2 84 f = p3 ∧ F2 85 f = p4 ∧ F2 86 f = p6 ∧ F2 87 f = p7 ∧ F2 88 f = -1 ∧ (∀ l c, l < hh → c < w → F2 89 (576 * f + 24 * l + c) = F 72 (stp w hh (PN il) (PN il l) l + c)) ∧ (∀ k, (k < 576 * f ∨ 576 * f + 576 ≤ k) → F2 89 k = F 89 k) ∧ (∀ k, 256 * f ≤ k → k < 256 * f + 256 → F2 90 k = -1) ∧ (∀ k, (k < 256 * f ∨ 256 * f + 256 ≤ k) → F2 90 k = F 90 k) := by
  obtain ⟨K1, hK1⟩ : ∃ K1, K1 = up2 (up2 (up2 (up2 (up2 (up2 (up2 (up2 F 71 3 0) 82 f p1) 83 f p2) 84 f p3) 85 f p4) 86 f p6) 87 f p7) 88 f (-1) := ⟨_, rfl⟩
  obtain ⟨K2, hK2⟩ : ∃ K2, K2 = upR K1 90 (rowAdd (F 90) (256 * f) 256 (fun _ => -1)) := ⟨_, rfl⟩
  have a1 : ∀ a, a ≠ 71 → (a < 82 ∨ 88 < a) → K1 a = F a := fun a q1 q2 => by
    rw [hK1, up2_row _ _ _ _ (by omega), up2_row _ _ _ _ (by omega), up2_row _ _ _ _ (by omega), up2_row _ _ _ _ (by omega), up2_row _ _ _ _ (by omega), up2_row _ _ _ _ (by omega), up2_row _ _ _ _ (by omega), up2_row _ _ _ _ q1]
  have a2 : ∀ a, a ≠ 71 → a ≠ 90 → (a < 82 ∨ 88 < a) → K2 a = F a := fun a q1 q2 q3 => by rw [hK2, upR_ne _ _ _ q2, a1 a q1 q3]
  obtain ⟨k, g, k1, k2, k3⟩ := mfl_all (n := n) (N := N) (F := K2) (il := il) (p1 := p1) (p2 := p2) (p6 := p6) (p7 := p7) (u8 := 1) hf hp3 hp4 hw24 hh24 (by omega) (K2 89) 4 0 (K2 89) (by omega) (FilI.z _ _ _)
  rw [upR_self, stp_00, stp_40 (PN_lt il)] at k3
  obtain ⟨K4, hK4⟩ : ∃ K4, K4 = up2 (upR K2 89 g) 71 5 (nI (r - w * hh)) := ⟨_, rfl⟩
  have hm571 : ∀ j, K2 71 j = up2 F 71 3 0 71 j := fun j => by
    rw [hK2, upR_ne _ _ _ (by decide), hK1, up2_row _ _ _ _ (by decide), up2_row _ _ _ _ (by decide), up2_row _ _ _ _ (by decide), up2_row _ _ _ _ (by decide), up2_row _ _ _ _ (by decide), up2_row _ _ _ _ (by decide), up2_row _ _ _ _ (by decide)]
  have z5 : upR K2 89 g 71 5 = nI r := by rw [upR_ne _ _ _ (by decide), hm571, up2_ne _ _ _ _ (Or.inr (by decide))]; exact h5
  have z45 : K4 71 5 = nI (r - w * hh) := by rw [hK4, up2_eq]
  have z423 : K4 71 23 = nI f := by rw [hK4, up2_ne _ _ _ _ (Or.inr (by decide)), upR_ne _ _ _ (by decide), hm571, up2_ne _ _ _ _ (Or.inr (by decide))]; exact h23
  obtain ⟨K5, hK5⟩ : ∃ K5, K5 = upR K4 72 (fun j => if j < r - w * hh then K4 72 (j + w * hh) else K4 72 j) := ⟨_, rfl⟩
  have e5 : ∀ fu, t_Mo_frame (SS n) N 71 p1 p2 p3 p4 il p6 p7 (fu + 256) 5 1 (nI f) 0 0 0 0 K1 = t_Mo_frame (SS n) N 71 p1 p2 p3 p4 il p6 p7 fu 5 1 (nI f) (nI 256) 0 0 0 K2 := fun fu => by
    have e := mf5 (n := n) (N := N) (F := K1) (p1 := p1) (p2 := p2) (p3 := p3) (p4 := p4) (il := il) (p6 := p6) (p7 := p7) (u8 := 1) hf (K1 90) 256 0 fu (by omega)
    rw [rowAdd_zero, upR_self] at e
    rw [hK2, ← a1 90 (by decide) (by decide)]
    exact e
  have e11 : ∀ fu, t_Mo_frame (SS n) N 71 p1 p2 p3 p4 il p6 p7 (fu + (r - w * hh)) 11 1 (nI f) (nI (w * hh)) 0 0 0 K4 = t_Mo_frame (SS n) N 71 p1 p2 p3 p4 il p6 p7 fu 11 1 (nI f) (nI (w * hh)) (nI (r - w * hh)) 0 0 K5 := fun fu => by
    have e := mf11 (n := n) (N := N) (F := K4) (p1 := p1) (p2 := p2) (p3 := p3) (p4 := p4) (il := il) (p6 := p6) (p7 := p7) (u8 := 1) (u9 := nI f) (q := r - w * hh) (m := w * hh) (by omega) z45 (r - w * hh) 0 fu (by omega)
    rw [show (fun j => if j < 0 then K4 72 (j + w * hh) else K4 72 j) = K4 72 by funext j; rw [if_neg (by omega)], upR_self] at e
    rw [hK5]
    exact e
  obtain ⟨M, hM⟩ : ∃ z, N = z + 1 + (r - w * hh) + 1 + k + 1 + 256 + 1 + 1 + 1 := ⟨N - (1 + (r - w * hh) + 1 + k + 1 + 256 + 1 + 1 + 1), by omega⟩
  have key : t_Mo_frame (SS n) N 71 p1 p2 p3 p4 il p6 p7 (M + 1 + (r - w * hh) + 1 + k + 1 + 256 + 1 + 1 + 1) 1 1 0 0 0 0 0 F = some (nI f, up2 K5 71 23 (nI (f + 1))) := by
    have y1 : p3 * p4 ≤ F 71 5 := by rw [hp3, hp4, nI_mul, h5, nI_le_iff (by omega) (by omega)]; exact hwh
    have y2 : ¬ F 71 23 = 12 := by rw [h23, show (12 : Int32) = nI 12 from rfl, nI_eq_iff (by omega) (by decide)]; omega
    have y3 : up2 F 71 3 0 71 3 ≤ 0 := by rw [up2_eq]; decide
    have y4 : up2 F 71 3 0 71 23 = nI f := by rw [up2_ne _ _ _ _ (Or.inr (by decide))]; exact h23
    rw [mf1g _ c1 c2 c3 c4, mf3g _ y1 y2, mf4y _ y3 y4 hf, ← hK1, e5, mf5e]
    have k4 := k3 (M + 1 + (r - w * hh) + 1)
    refine Eq.trans k4 ?_
    rw [mf6e, z5, nI_sub hwh, ← hK4, e11, mf11e _ (show r - w * hh ≤ 12000 by omega) (by rw [hK5, upR_ne _ _ _ (by decide)]; exact z45), hK5, upR_ne _ _ _ (by decide), z423, nI_1]
  rw [← hM] at key
  refine ⟨_, key, ?_⟩
  have hb : ∀ a, a ≠ 71 → a ≠ 72 → a ≠ 89 → up2 K5 71 23 (nI (f + 1)) a = K2 a := fun a q1 q2 q3 => by
    rw [up2_row _ _ _ _ q1, hK5, upR_ne _ _ _ q2, hK4, up2_row _ _ _ _ q1, upR_ne _ _ _ q3]
  have hc : ∀ a, a ≠ 71 → a ≠ 72 → a ≠ 89 → a ≠ 90 → up2 K5 71 23 (nI (f + 1)) a = K1 a := fun a q1 q2 q3 q4 => by
    rw [hb a q1 q2 q3, hK2, upR_ne _ _ _ q4]
  have h89 : up2 K5 71 23 (nI (f + 1)) 89 = g := by
    rw [up2_row _ _ _ _ (by decide), hK5, upR_ne _ _ _ (by decide), hK4, up2_row _ _ _ _ (by decide), upR_eq]
  have h90 : up2 K5 71 23 (nI (f + 1)) 90 = rowAdd (F 90) (256 * f) 256 (fun _ => -1) := by
    rw [hb 90 (by decide) (by decide) (by decide), hK2, upR_eq]
  refine ⟨fun a q1 q2 q3 => ?_, fun j q1 q2 q3 => ?_, ?_, ?_, ?_, fun k hk => ?_, fun a q1 q2 j hj => ?_, ?_, ?_, ?_, ?_, ?_, ?_, ?_, fun l c hl hc' => ?_, fun k hk => ?_, fun k hk1 hk2 => ?_, fun k hk => ?_⟩
  · rw [hc a q1 q2 (by omega) (by omega), a1 a q1 (by omega)]
  · rw [up2_ne _ _ _ _ (Or.inr q3), hK5, upR_ne _ _ _ (by decide), hK4, up2_ne _ _ _ _ (Or.inr q2), upR_ne _ _ _ (by decide), hm571, up2_ne _ _ _ _ (Or.inr q1)]
  · rw [up2_ne _ _ _ _ (Or.inr (by decide)), hK5, upR_ne _ _ _ (by decide), hK4, up2_ne _ _ _ _ (Or.inr (by decide)), upR_ne _ _ _ (by decide), hm571, up2_eq]
  · rw [up2_ne _ _ _ _ (Or.inr (by decide)), hK5, upR_ne _ _ _ (by decide)]; exact z45
  · exact up2_eq _ _ _ _
  · rw [up2_row _ _ _ _ (by decide), hK5, upR_eq, if_pos hk, hK4, up2_row _ _ _ _ (by decide), upR_ne _ _ _ (by decide), a2 72 (by decide) (by decide) (by decide)]
  · rw [hc a (by omega) (by omega) (by omega) (by omega), hK1, up2_ne _ _ _ _ (Or.inr hj), up2_ne _ _ _ _ (Or.inr hj), up2_ne _ _ _ _ (Or.inr hj), up2_ne _ _ _ _ (Or.inr hj), up2_ne _ _ _ _ (Or.inr hj), up2_ne _ _ _ _ (Or.inr hj), up2_ne _ _ _ _ (Or.inr hj), up2_row _ _ _ _ (by omega)]
  · rw [hc 82 (by decide) (by decide) (by decide) (by decide), hK1]; simp [up2]
  · rw [hc 83 (by decide) (by decide) (by decide) (by decide), hK1]; simp [up2]
  · rw [hc 84 (by decide) (by decide) (by decide) (by decide), hK1]; simp [up2]
  · rw [hc 85 (by decide) (by decide) (by decide) (by decide), hK1]; simp [up2]
  · rw [hc 86 (by decide) (by decide) (by decide) (by decide), hK1]; simp [up2]
  · rw [hc 87 (by decide) (by decide) (by decide) (by decide), hK1]; simp [up2]
  · rw [hc 88 (by decide) (by decide) (by decide) (by decide), hK1]; simp [up2]
  · rw [h89, ← a2 72 (by decide) (by decide) (by decide)]
    exact k2.1 l c hl (Or.inl (PN_lt il l)) hc'
  · rw [h89, k2.2 k (fun l' hl' q => by simp only at q; omega), a2 89 (by decide) (by decide) (by decide)]
  · rw [h90]; simp only [rowAdd]; rw [if_pos (by omega)]
  · rw [h90]; simp only [rowAdd]; rw [if_neg (by omega)]
theorem s_frame (h : RI b F) (hn : n = 2 ^ b) (hN : 20000 < N) : ∃ F2 G2, q_frame (SS n) N 0 71 95 p1 p2 p3 p4 p5 p6 p7 F G = some (1, F2, G2) ∧ RI b F2 := by
  obtain ⟨f, hf1, hf2, hf3, hf4⟩ := h.fr
  obtain ⟨r, hr1, hr2, hr3, hr4⟩ := h.ro
  have hx := h.fx
  obtain ⟨hp1, hp2⟩ := pw8 hx.h2 hx.h8
  have n10 : ¬ (1 : Int32) = 0 := by decide
  have thr1 : f_PF_frame (SS n) N 0 p1 p2 p3 p4 (xb p5) p6 p7 F = some (1, 0, F) → f_Mo_frame (SS n) N 71 p1 p2 p3 p4 (xb p5) p6 p7 F = some (0, up2 F 71 3 1) → ∃ F2 G2, q_frame (SS n) N 0 71 95 p1 p2 p3 p4 p5 p6 p7 F G = some (1, F2, G2) ∧ RI b F2 := fun e1 e2 => by
    obtain ⟨G2, e3⟩ := w_frame (N := N) (G := G) e1 e2 (up2_eq F 71 3 1) (Or.inr (Or.inl ⟨rfl, rfl⟩))
    exact ⟨_, G2, e3, h.code⟩
  by_cases a1 : p3 < 1
  · refine thr1 ?_ ?_
    · unfold f_PF_frame; rw [fits_n (Or.inl a1), Option.bind_some, if_pos rfl]
    · rw [mfit_n (Or.inl a1), mbad0 (by omega)]
  by_cases a2 : 24 < p3
  · refine thr1 ?_ ?_
    · unfold f_PF_frame; rw [fits_n (Or.inr (Or.inl a2)), Option.bind_some, if_pos rfl]
    · rw [mfit_n (Or.inr (Or.inl a2)), mbad0 (by omega)]
  by_cases a3 : p1 < 0
  · refine thr1 ?_ ?_
    · unfold f_PF_frame; rw [fits_n (Or.inr (Or.inr (Or.inl a3))), Option.bind_some, if_pos rfl]
    · rw [mfit_n (Or.inr (Or.inr (Or.inr (Or.inr (Or.inl a3))))), mbad0 (by omega)]
  by_cases a4 : 24 - p3 < p1
  · refine thr1 ?_ ?_
    · unfold f_PF_frame; rw [fits_n (Or.inr (Or.inr (Or.inr a4))), Option.bind_some, if_pos rfl]
    · rw [mfit_n (Or.inr (Or.inr (Or.inr (Or.inr (Or.inr (Or.inl a4)))))), mbad0 (by omega)]
  have fy1 := fits_y (n := n) (F := F) a1 a2 a3 a4
  by_cases b1 : p4 < 1
  · refine thr1 ?_ ?_
    · unfold f_PF_frame; rw [fy1, Option.bind_some, if_neg n10, fits_n (Or.inl b1), Option.bind_some, if_pos rfl]
    · rw [mfit_n (Or.inr (Or.inr (Or.inl b1))), mbad0 (by omega)]
  by_cases b2 : 24 < p4
  · refine thr1 ?_ ?_
    · unfold f_PF_frame; rw [fy1, Option.bind_some, if_neg n10, fits_n (Or.inr (Or.inl b2)), Option.bind_some, if_pos rfl]
    · rw [mfit_n (Or.inr (Or.inr (Or.inr (Or.inl b2)))), mbad0 (by omega)]
  by_cases b3 : p2 < 0
  · refine thr1 ?_ ?_
    · unfold f_PF_frame; rw [fy1, Option.bind_some, if_neg n10, fits_n (Or.inr (Or.inr (Or.inl b3))), Option.bind_some, if_pos rfl]
    · rw [mfit_n (Or.inr (Or.inr (Or.inr (Or.inr (Or.inr (Or.inr (Or.inl b3))))))), mbad0 (by omega)]
  by_cases b4 : 24 - p4 < p2
  · refine thr1 ?_ ?_
    · unfold f_PF_frame; rw [fy1, Option.bind_some, if_neg n10, fits_n (Or.inr (Or.inr (Or.inr b4))), Option.bind_some, if_pos rfl]
    · rw [mfit_n (Or.inr (Or.inr (Or.inr (Or.inr (Or.inr (Or.inr (Or.inr b4))))))), mbad0 (by omega)]
  have fy2 := fits_y (n := n) (F := F) b1 b2 b3 b4
  have le_n : ∀ {x : Int32} {k : Int32}, ¬ x ≤ k → k < x := fun {x k} q => by rw [Int32.lt_iff_toInt_lt]; rw [Int32.le_iff_toInt_le] at q; omega
  have n_lt : ∀ {x : Int32} {k : Int32}, x ≤ k → ¬ k < x := fun {x k} q => by rw [Int32.lt_iff_toInt_lt]; rw [Int32.le_iff_toInt_le] at q; omega
  by_cases d1 : p6 < 0
  · refine thr1 ?_ ?_
    · unfold f_PF_frame; rw [fy1, Option.bind_some, if_neg n10, fy2, Option.bind_some, if_neg n10, if_pos d1]
    · rw [mfit_y a1 a2 b1 b2 a3 a4 b3 b4, mbad1 (by omega) (Or.inl d1)]
  by_cases d2n : ¬ (p6 ≤ 3)
  · refine thr1 ?_ ?_
    · unfold f_PF_frame; rw [fy1, Option.bind_some, if_neg n10, fy2, Option.bind_some, if_neg n10, if_neg d1, if_neg d2n]
    · rw [mfit_y a1 a2 b1 b2 a3 a4 b3 b4, mbad1 (by omega) (Or.inr (Or.inl (le_n d2n)))]
  have d2 := Classical.not_not.mp d2n
  by_cases d3 : p7 < 0
  · refine thr1 ?_ ?_
    · unfold f_PF_frame; rw [fy1, Option.bind_some, if_neg n10, fy2, Option.bind_some, if_neg n10, if_neg d1, if_pos d2, if_pos d3]
    · rw [mfit_y a1 a2 b1 b2 a3 a4 b3 b4, mbad1 (by omega) (Or.inr (Or.inr (Or.inl d3)))]
  by_cases d4n : ¬ (p7 ≤ 1000)
  · refine thr1 ?_ ?_
    · unfold f_PF_frame; rw [fy1, Option.bind_some, if_neg n10, fy2, Option.bind_some, if_neg n10, if_neg d1, if_pos d2, if_neg d3, if_neg d4n]
    · rw [mfit_y a1 a2 b1 b2 a3 a4 b3 b4, mbad1 (by omega) (Or.inr (Or.inr (Or.inr (le_n d4n))))]
  have d4 := Classical.not_not.mp d4n
  obtain ⟨N1, hN1⟩ : ∃ z, N = z + 1 + 1 + 1 := ⟨N - 3, by omega⟩
  by_cases e1n : ¬ (p3 * p4 ≤ nI r)
  · have q1 : f_PF_frame (SS n) N 0 p1 p2 p3 p4 (xb p5) p6 p7 F = some (4, 0, F) := by
      unfold f_PF_frame
      rw [fy1, Option.bind_some, if_neg n10, fy2, Option.bind_some, if_neg n10, if_neg d1, if_pos d2, if_neg d3, if_pos d4, gR_0_1, Option.bind_some, (Nu1 n).gI, Option.bind_some, hr2, if_neg e1n]
    have q2 : f_Mo_frame (SS n) N 71 p1 p2 p3 p4 (xb p5) p6 p7 F = some (0, up2 F 71 3 2) := by
      rw [mfit_y a1 a2 b1 b2 a3 a4 b3 b4]
      have q3 : t_Mo_frame (SS n) N 71 p1 p2 p3 p4 (xb p5) p6 p7 (N1 + 1 + 1 + 1) 1 1 0 0 0 0 0 F = some (0, up2 F 71 3 2) := by
        rw [mf1g _ d1 (n_lt d2) d3 (n_lt d4), mf3r _ (by rw [hr3]; exact e1n), mf4n _ (by rw [up2_eq]; decide)]
      rw [← hN1] at q3
      exact q3
    obtain ⟨G2, e3⟩ := w_frame (N := N) (G := G) q1 q2 (up2_eq F 71 3 2) (Or.inr (Or.inr (Or.inl ⟨rfl, rfl⟩)))
    exact ⟨_, G2, e3, h.code⟩
  have e1 := Classical.not_not.mp e1n
  by_cases e2 : f = 12
  · have q1 : f_PF_frame (SS n) N 0 p1 p2 p3 p4 (xb p5) p6 p7 F = some (2, 0, F) := by
      unfold f_PF_frame
      rw [fy1, Option.bind_some, if_neg n10, fy2, Option.bind_some, if_neg n10, if_neg d1, if_pos d2, if_neg d3, if_pos d4, gR_0_1, Option.bind_some, (Nu1 n).gI, Option.bind_some, hr2, if_pos e1, gR_0_5, Option.bind_some, gI_19_2, Option.bind_some, hf2, e2, if_neg (by decide)]
    have q2 : f_Mo_frame (SS n) N 71 p1 p2 p3 p4 (xb p5) p6 p7 F = some (0, up2 F 71 3 3) := by
      rw [mfit_y a1 a2 b1 b2 a3 a4 b3 b4]
      have q3 : t_Mo_frame (SS n) N 71 p1 p2 p3 p4 (xb p5) p6 p7 (N1 + 1 + 1 + 1) 1 1 0 0 0 0 0 F = some (0, up2 F 71 3 3) := by
        rw [mf1g _ d1 (n_lt d2) d3 (n_lt d4), mf3f _ (by rw [hr3]; exact e1) (by rw [hf3, e2]; rfl), mf4n _ (by rw [up2_eq]; decide)]
      rw [← hN1] at q3
      exact q3
    obtain ⟨G2, e3⟩ := w_frame (N := N) (G := G) q1 q2 (up2_eq F 71 3 3) (Or.inr (Or.inr (Or.inr ⟨rfl, rfl⟩)))
    exact ⟨_, G2, e3, h.code⟩
  have hf : f < 12 := by omega
  have mm := fun (Z : xF) => mfit_y (n := n) (N := N) (il := xb p5) (p6 := p6) (p7 := p7) (F := Z) a1 a2 b1 b2 a3 a4 b3 b4
  obtain ⟨x, w, hx1, hw1, hw2, hw3⟩ := fits_ex a1 a2 a3 a4
  obtain ⟨y, hh, hy1, hh1, hh2, hh3⟩ := fits_ex b1 b2 b3 b4
  obtain ⟨e, he1, he2⟩ := nI_of2 (M := 3) (n := 3) (by decide) d1 d2
  obtain ⟨d, hd1, hd2⟩ := nI_of2 (M := 1000) (n := 1000) (by decide) d3 d4
  have hm576 : w * hh ≤ 576 := Nat.mul_le_mul (show w ≤ 24 by omega) (show hh ≤ 24 by omega)
  have hwh : w * hh ≤ r := by
    rw [hw1, hh1, nI_mul, nI_le_iff (by omega) (by omega)] at e1
    exact e1
  have k1 := n_lt d2
  have k2 := n_lt d4
  subst hx1 hw1 hy1 hh1 he2 hd2
  obtain ⟨F1, z0, z1, z2, z3, z4, z5, z6, z7, z8, z9, z10, z11, z12, z13⟩ := cframe_of (il := xb p5) (N := N) (n := n) (show n ≤ 256 by omega) hf hf2 hr1 hr2 (show w ≤ 24 by omega) (show hh ≤ 24 by omega) hwh (by omega) fy1 fy2 he1 hd1
  have o : ∀ a, a ≠ 1 → a ≠ 2 → a ≠ 19 → (a < 23 ∨ 70 < a) → F1 a = F a := fun a q1 q2 q3 q4 => z1 a q1 q2 q3 (by omega) (by omega) (by omega)
  have o71 := o 71 (by decide) (by decide) (by decide) (by decide)
  have o72 := o 72 (by decide) (by decide) (by decide) (by decide)
  obtain ⟨F2, m0, m1, m2, m3, m4, m5, m6, m7, m8, m9, m10, m11, m12, m13, m14, m15, m16, m17, m18⟩ := mframe_of (n := n) (N := N) (F := F1) (f := f) (il := xb p5) (p1 := nI x) (p2 := nI y) hf (by rw [o71]; exact hf3) hr1 (by rw [o71]; exact hr3) rfl rfl (show w ≤ 24 by omega) (show hh ≤ 24 by omega) hwh hN d1 k1 d3 k2
  rw [← mm F1] at m0
  obtain ⟨G2, e3⟩ := w_frame (N := N) (G := G) z0 m0 m3 (Or.inl ⟨rfl, rfl, rfl⟩)
  refine ⟨F2, G2, e3, ?_⟩
  clear z0 m0 mm e3 thr1
  have A : ∀ a, a ≠ 1 → a ≠ 2 → a ≠ 19 → a ≠ 71 → a ≠ 72 → (a < 23 ∨ (70 < a ∧ a < 82)) → F2 a = F a := fun a q1 q2 q3 q4 q5 q6 => by rw [m1 a q4 q5 (by omega), o a q1 q2 q3 (by omega)]
  have B : ∀ j, j ≠ 3 → j ≠ 5 → j ≠ 23 → F2 71 j = F 71 j := fun j q1 q2 q3 => by rw [m2 j q1 q2 q3, o71]
  have Cc : ∀ a, 23 ≤ a → a ≤ 70 → F2 a = F1 a := fun a q1 q2 => m1 a (by omega) (by omega) (by omega)
  have D : ∀ j, j ≠ f → ∀ k, 23 ≤ k → k ≤ 26 → F2 (k + 4 * j) = F (k + 4 * j) ∨ 12 ≤ j := fun j hj k q1 q2 => by
    by_cases hj12 : j < 12
    · left
      rw [Cc _ (by omega) (by omega), z1 _ (by omega) (by omega) (by omega) (by omega) (by omega) (by omega)]
    · right; omega
  have D' : ∀ j, j < f → ∀ k, 23 ≤ k → k ≤ 26 → F2 (k + 4 * j) = F (k + 4 * j) := fun j hj k q1 q2 => (D j (by omega) k q1 q2).resolve_right (by omega)
  obtain ⟨h1, h2, -, ⟨c, h4⟩, h5, h6, ⟨w', h7⟩, ⟨q, h8⟩, -, h10⟩ := h
  refine ⟨h1.ag ⟨by simp [A, B], by simp⟩, h2.ag ⟨by simp [A, B], by simp⟩, ⟨r - w * hh, by omega, ?_, m4, fun k hk => ?_⟩, ⟨c, h4.ag ⟨by simp [A, B], by simp [A]⟩⟩, h5.ag ⟨by simp [A], by simp [A]⟩, h6.ag ⟨by simp [A], by simp [A]⟩, ⟨w', h7.ag ⟨by simp [A, B], by simp [A]⟩⟩, ⟨q, h8.ag ⟨by simp [A, B], by simp [A]⟩⟩, ⟨f + 1, by omega, ?_, m5, fun j hj => ?_⟩, fun s hs => ?_⟩
  · rw [m1 1 (by decide) (by decide) (by decide)]; exact z3
  · obtain ⟨s, s1, s2, s3⟩ := hr4 (k + w * hh) (by omega)
    refine ⟨s, s1, ?_, ?_⟩
    · rw [m1 2 (by decide) (by decide) (by decide), z4 k hk, Nat.add_comm]; exact s2
    · rw [m6 k hk, o72]; exact s3
  · rw [m1 19 (by decide) (by decide) (by decide)]; exact z2
  · by_cases hjf : j = f
    · subst hjf
      refine ⟨⟨x, y, w, hh, e, d, hw2, hh2, hw3, hh3, he1, hd1, ?_, m8, ?_, m9, ?_, m10, ?_, m11, ?_, m12, ?_, m13, fun rr cc hrr hcc => ?_⟩, ⟨?_, Or.inl m14⟩, fun s hs => ?_⟩
      · rw [Cc _ (by omega) (by omega)]; exact z5
      · rw [Cc _ (by omega) (by omega)]; exact z6
      · rw [Cc _ (by omega) (by omega)]; exact z7
      · rw [Cc _ (by omega) (by omega)]; exact z8
      · rw [Cc _ (by omega) (by omega)]; exact z9
      · rw [Cc _ (by omega) (by omega)]; exact z10
      · have hro := stp_room (w := w) (h := hh) (pn := PN (xb p5)) (l := rr) rfl hrr
        obtain ⟨s, s1, s2, s3⟩ := hr4 (stp w hh (PN (xb p5)) (PN (xb p5) rr) rr + cc) (by omega)
        refine ⟨s, s1, ?_, ?_⟩
        · rw [Cc _ (by omega) (by omega), z12 rr cc hrr hcc]; exact s2
        · rw [m15 rr cc hrr hcc, o72]; exact s3
      · rw [m14, Cc (23 + 4 * j) (by omega) (by omega), z11]
      · rw [m17 _ (by omega) (by omega), Cc _ (by omega) (by omega), z13 s (by omega)]
        exact ⟨rfl, Or.inl rfl⟩
    · have hj' : j < f := by omega
      have hfj := hf4 j hj'
      exact Frm.of (hfj.gg.cg (fun k _ _ => by rw [D' j hj' 23 (by decide) (by decide)]) (fun k _ => by rw [D' j hj' 24 (by decide) (by decide)]) (fun a q1 q2 => by rw [m7 a q1 (by omega) j hjf, o a (by omega) (by omega) (by omega) (by omega)]) (fun k q1 q2 => by rw [m16 k (by omega), o 89 (by decide) (by decide) (by decide) (by decide)])) (hfj.tt.cg (by rw [D' j hj' 23 (by decide) (by decide)]) (by rw [m7 88 (by decide) (by decide) j hjf, o 88 (by decide) (by decide) (by decide) (by decide)])) (hfj.cc.cg hx.h8 (fun k _ => by rw [D' j hj' 26 (by decide) (by decide)]) (fun k q1 q2 => by rw [m18 k (by omega), o 90 (by decide) (by decide) (by decide) (by decide)]))
  · rw [m18 _ (by omega), o 90 (by decide) (by decide) (by decide) (by decide), A 22 (by decide) (by decide) (by decide) (by decide) (by decide) (by decide)]
    exact h10 s hs
end SF2
