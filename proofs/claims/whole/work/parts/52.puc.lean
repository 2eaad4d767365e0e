/-! frame: the class's side, whole; the reference's steps -/
section SE
variable {b n N i f w hh r l p st x y e d : Nat} {F : xF} {G : xL} {il p1 p2 p3 p4 p5 p6 p7 u8 u9 u10 u11 u12 u13 : Int32} {g : Nat → Int32}
theorem fits_n (h : p3 < 1 ∨ 24 < p3 ∨ p1 < 0 ∨ 24 - p3 < p1) : f_PF_fits (SS n) p1 p3 F = some 0 := by
  unfold f_PF_fits
  by_cases c1 : p3 < 1
  · rw [if_pos c1]
  · by_cases c2 : 24 < p3
    · rw [if_neg c1, if_pos c2]
    · by_cases c3 : p1 < 0
      · rw [if_neg c1, if_neg c2, if_pos c3]
      · rw [if_neg c1, if_neg c2, if_neg c3, if_pos (((h.resolve_left c1).resolve_left c2).resolve_left c3)]
theorem fits_y (c1 : ¬ p3 < 1) (c2 : ¬ 24 < p3) (c3 : ¬ p1 < 0) (c4 : ¬ 24 - p3 < p1) : f_PF_fits (SS n) p1 p3 F = some 1 := by
  unfold f_PF_fits
  rw [if_neg c1, if_neg c2, if_neg c3, if_neg c4]
theorem fits_ex (c1 : ¬ p3 < 1) (c2 : ¬ 24 < p3) (c3 : ¬ p1 < 0) (c4 : ¬ 24 - p3 < p1) : ∃ x w : Nat, p1 = nI x ∧ p3 = nI w ∧ 1 ≤ w ∧ x + w ≤ 24 := by
  have e1 : (1 : Int32).toInt = 1 := by decide
  have e24 : (24 : Int32).toInt = 24 := by decide
  have c2' : p3 ≤ nI 24 := by
    rw [Int32.le_iff_toInt_le, show (nI 24).toInt = 24 from by decide]
    rw [Int32.lt_iff_toInt_lt, e24] at c2
    omega
  obtain ⟨w, hw, w1, w2⟩ := nI_rng (lo := 1) (hi := 24) c1 c2' (by decide) (by decide)
  obtain ⟨x, x1, hx⟩ := nI_of c3
  subst hw hx
  rw [show (24 : Int32) = nI 24 from rfl, nI_sub w2, nI_lt_iff (by omega) (by omega)] at c4
  exact ⟨x, w, rfl, rfl, w1, by omega⟩
theorem xmn_of (hf : f < 12) : xmn (nI f) 11 = nI f := by
  unfold xmn
  rw [if_neg (by rw [show (11 : Int32) = nI 11 from rfl, nI_lt_iff (by decide) (by omega)]; omega)]
theorem cframe_of (hn : n ≤ 256) (hf : f < 12) (h19 : F 19 2 = nI f) (hr : r ≤ 12000) (h1 : F 1 1 = nI r) (hw24 : w ≤ 24) (hh24 : hh ≤ 24) (hwh : w * hh ≤ r) (hN : 600 < N) (f1 : f_PF_fits (SS n) (nI x) (nI w) F = some 1) (f2 : f_PF_fits (SS n) (nI y) (nI hh) F = some 1) (he : e ≤ 3) (hd : d ≤ 1000) : ∃ F1, f_PF_frame (SS n) N 0 (nI x) (nI y) (nI w) (nI hh) il (nI e) (nI d) F = some (0, nI f, F1) ∧ (∀ a, a ≠ 1 → a ≠ 2 → a ≠ 19 → a ≠ 23 + 4 * f → a ≠ 24 + 4 * f → a ≠ 26 + 4 * f → F1 a = F a) ∧ F1 19 2 = nI (f + 1) ∧ F1 1 1 = nI (r - w * hh) ∧ (∀ k, k < r - w * hh → F1 2 k = F 2 (w * hh + k)) ∧ F1 (23 + 4 * f) 2 = nI x ∧ F1 (23 + 4 * f) 3 = nI y ∧ F1 (23 + 4 * f) 4 = nI w ∧ F1 (23 + 4 * f) 5 = nI hh ∧ F1 (23 + 4 * f) 6 = nI e ∧ F1 (23 + 4 * f) 7 = nI d ∧ F1 (23 + 4 * f) 8 = -1 ∧ (∀ l c, l < hh → c < w → F1 (24 + 4 * f) (l * w + c) = F 2 (stp w hh (PN il) (PN il l) l + c)) ∧ ∀ s, s < n → F1 (26 + 4 * f) s = -1 := by
  obtain ⟨H, hH⟩ : ∃ H, H = up2 (up2 (up2 (up2 (up2 (up2 (up2 (up2 (upR F (26 + 4 * f) (rowAdd (F (26 + 4 * f)) 0 n (fun _ => -1))) (23 + 4 * f) 8 (-1)) 19 2 (nI (f + 1))) (23 + 4 * f) 2 (nI x)) (23 + 4 * f) 3 (nI y)) (23 + 4 * f) 4 (nI w)) (23 + 4 * f) 5 (nI hh)) (23 + 4 * f) 6 (nI e)) (23 + 4 * f) 7 (nI d) := ⟨_, rfl⟩
  have ho : ∀ a, a ≠ 26 + 4 * f → a ≠ 23 + 4 * f → a ≠ 19 → H a = F a := fun a q1 q2 q3 => by
    rw [hH, up2_row _ _ _ _ q2, up2_row _ _ _ _ q2, up2_row _ _ _ _ q2, up2_row _ _ _ _ q2, up2_row _ _ _ _ q2, up2_row _ _ _ _ q2, up2_row _ _ _ _ q3, up2_row _ _ _ _ q2, upR_ne _ _ _ q1]
  have h192 : H 19 2 = nI (f + 1) := by
    have q : 19 ≠ 23 + 4 * f := by omega
    rw [hH, up2_row _ _ _ _ q, up2_row _ _ _ _ q, up2_row _ _ _ _ q, up2_row _ _ _ _ q, up2_row _ _ _ _ q, up2_row _ _ _ _ q, up2_eq]
  have k2 : H (23 + 4 * f) 2 = nI x := by rw [hH]; simp [up2]
  have k3 : H (23 + 4 * f) 3 = nI y := by rw [hH]; simp [up2]
  have k4 : H (23 + 4 * f) 4 = nI w := by rw [hH]; simp [up2]
  have k5 : H (23 + 4 * f) 5 = nI hh := by rw [hH]; simp [up2]
  have k6 : H (23 + 4 * f) 6 = nI e := by rw [hH]; simp [up2]
  have k7 : H (23 + 4 * f) 7 = nI d := by rw [hH]; simp [up2]
  have k8 : H (23 + 4 * f) 8 = -1 := by
    have q : ∀ k : Nat, k ≠ 8 → (23 + 4 * f ≠ 23 + 4 * f ∨ 8 ≠ k) := fun k q => Or.inr (Ne.symm q)
    rw [hH, up2_ne _ _ _ _ (q 7 (by decide)), up2_ne _ _ _ _ (q 6 (by decide)), up2_ne _ _ _ _ (q 5 (by decide)), up2_ne _ _ _ _ (q 4 (by decide)), up2_ne _ _ _ _ (q 3 (by decide)), up2_ne _ _ _ _ (q 2 (by decide)), up2_row _ _ _ _ (show 23 + 4 * f ≠ 19 by omega), up2_eq]
  have k26 : ∀ s, s < n → H (26 + 4 * f) s = -1 := fun s hs => by
    have q : 26 + 4 * f ≠ 23 + 4 * f := by omega
    rw [hH, up2_row _ _ _ _ q, up2_row _ _ _ _ q, up2_row _ _ _ _ q, up2_row _ _ _ _ q, up2_row _ _ _ _ q, up2_row _ _ _ _ q, up2_row _ _ _ _ (show 26 + 4 * f ≠ 19 by omega), up2_row _ _ _ _ q, upR_eq]
    simp only [rowAdd]
    rw [if_pos (by omega)]
  have H11 : H 1 1 = nI r := by rw [ho 1 (by omega) (by omega) (by decide)]; exact h1
  obtain ⟨g, e1, e2⟩ := fill_frame (n := n) (N := N) (il := il) hf k4 k5 hh24 hw24 hr H11 hwh hN
  have e3 := drop_of (n := n) (F := upR H (24 + 4 * f) g) hr hwh (by rw [upR_ne _ _ _ (show 1 ≠ 24 + 4 * f by omega)]; exact H11)
  have e4 : up2 (upR (upR H (24 + 4 * f) g) 2 (va_cpy (upR H (24 + 4 * f) g 2) (upR H (24 + 4 * f) g 2) (w * hh) 0 (r - w * hh))) 1 1 (nI (r - w * hh)) 19 2 = nI (f + 1) := by
    rw [up2_row _ _ _ _ (by decide), upR_ne _ _ _ (by decide), upR_ne _ _ _ (by omega)]; exact h192
  have ea : f_Sc_addFrame (SS n) N 19 F = some (23 + 4 * f, up2 (up2 (upR F (26 + 4 * f) (rowAdd (F (26 + 4 * f)) 0 n (fun _ => -1))) (23 + 4 * f) 8 (-1)) 19 2 (nI (f + 1))) := by
    unfold f_Sc_addFrame f_Fr_forget f_Pa_forget
    simp only [gI_19_2, h19, Option.bind_some, gR_19_0, xmn_of hf, fr_r f hf, fr_xcl hf, fr_R1 hf, fr_pxcl hf, fr_P0 hf, fill_of (fr_c (n := n) f hf) (show n ≤ 100000 by omega) (show n < N by omega), fr_put hf (show 2 ≤ 8 by decide) (show 8 ≤ 8 by decide), pI_19_2, nI_1]
  have n10 : ¬ (1 : Int32) = 0 := by decide
  have c3 : nI e ≤ 3 := by rw [show (3 : Int32) = nI 3 from rfl, nI_le_iff (by omega) (by omega)]; exact he
  have c4 : nI d ≤ 1000 := by rw [show (1000 : Int32) = nI 1000 from rfl, nI_le_iff (by omega) (by omega)]; exact hd
  have c5 : nI (w * hh) ≤ nI r := by rw [nI_le_iff (by omega) (by omega)]; exact hwh
  have c6 : nI f < 12 := by rw [show (12 : Int32) = nI 12 from rfl, nI_lt_iff (by omega) (by omega)]; exact hf
  refine ⟨up2 (upR (upR H (24 + 4 * f) g) 2 (va_cpy (upR H (24 + 4 * f) g 2) (upR H (24 + 4 * f) g 2) (w * hh) 0 (r - w * hh))) 1 1 (nI (r - w * hh)), ?_, ?_⟩
  · unfold f_PF_frame f_Fr_lay f_Fr_time
    simp only [f1, f2, Option.bind_some, if_neg n10, if_neg (nn0 (show e < 2147483648 by omega)), if_neg (nn0 (show d < 2147483648 by omega)), if_pos c3, if_pos c4, gR_0_1, (Nu1 n).gI, h1, nI_mul, if_pos c5, gR_0_5, gI_19_2, h19, if_pos c6, xcl_19, ea, fr_xcl hf, fr_put hf (show 2 ≤ 2 by decide) (show 2 ≤ 8 by decide), fr_put hf (show 2 ≤ 3 by decide) (show 3 ≤ 8 by decide), fr_put hf (show 2 ≤ 4 by decide) (show 4 ≤ 8 by decide), fr_put hf (show 2 ≤ 5 by decide) (show 5 ≤ 8 by decide), fr_put hf (show 2 ≤ 6 by decide) (show 6 ≤ 8 by decide), fr_put hf (show 2 ≤ 7 by decide) (show 7 ≤ 8 by decide), ← hH, e1, xcl_1, e3, e4, nI_pred]
  · refine ⟨fun a q1 q2 q19 q23 q24 q26 => ?_, e4, ?_, fun k hk => ?_, ?_⟩
    · rw [up2_row _ _ _ _ q1, upR_ne _ _ _ q2, upR_ne _ _ _ q24, ho a q26 q23 q19]
    · exact up2_eq _ _ _ _
    · rw [up2_row _ _ _ _ (by decide), upR_eq, pk_cpy_in (by omega) (by omega), upR_ne _ _ _ (show 2 ≠ 24 + 4 * f by omega), ho 2 (by omega) (by omega) (by decide)]
      rfl
    · have z : ∀ j, up2 (upR (upR H (24 + 4 * f) g) 2 (va_cpy (upR H (24 + 4 * f) g 2) (upR H (24 + 4 * f) g 2) (w * hh) 0 (r - w * hh))) 1 1 (nI (r - w * hh)) (23 + 4 * f) j = H (23 + 4 * f) j := fun j => by
        rw [up2_row _ _ _ _ (by omega), upR_ne _ _ _ (by omega), upR_ne _ _ _ (by omega)]
      refine ⟨(z 2).trans k2, (z 3).trans k3, (z 4).trans k4, (z 5).trans k5, (z 6).trans k6, (z 7).trans k7, (z 8).trans k8, fun l c hl hc => ?_, fun s hs => ?_⟩
      · rw [up2_row _ _ _ _ (by omega), upR_ne _ _ _ (by omega), upR_eq, e2 l c hl hc, ho 2 (by omega) (by omega) (by decide)]
      · rw [up2_row _ _ _ _ (by omega), upR_ne _ _ _ (by omega), upR_ne _ _ _ (by omega), k26 s hs]
theorem mf0 (fu : Nat) : t_Mo_frame (SS n) N 71 p1 p2 p3 p4 il p6 p7 (fu + 1) 0 u8 u9 u10 u11 u12 u13 F = t_Mo_frame (SS n) N 71 p1 p2 p3 p4 il p6 p7 fu 1 0 0 0 0 0 0 F := by
  rw [t_Mo_frame, if_pos rfl]
theorem mf1z (fu : Nat) : t_Mo_frame (SS n) N 71 p1 p2 p3 p4 il p6 p7 (fu + 1) 1 0 u9 u10 u11 u12 u13 F = t_Mo_frame (SS n) N 71 p1 p2 p3 p4 il p6 p7 fu 2 0 0 0 0 0 0 F := by
  rw [t_Mo_frame, if_neg (by decide), if_pos rfl, if_pos rfl]
theorem mf1b (fu : Nat) (h : p6 < 0 ∨ 3 < p6 ∨ p7 < 0 ∨ 1000 < p7) : t_Mo_frame (SS n) N 71 p1 p2 p3 p4 il p6 p7 (fu + 1) 1 1 u9 u10 u11 u12 u13 F = t_Mo_frame (SS n) N 71 p1 p2 p3 p4 il p6 p7 fu 2 1 0 0 0 0 0 F := by
  rw [t_Mo_frame, if_neg (by decide), if_pos rfl, if_neg (by decide)]
  by_cases c1 : p6 < 0
  · rw [if_pos c1]
  · by_cases c2 : 3 < p6
    · rw [if_neg c1, if_pos c2]
    · by_cases c3 : p7 < 0
      · rw [if_neg c1, if_neg c2, if_pos c3]
      · rw [if_neg c1, if_neg c2, if_neg c3, if_pos (((h.resolve_left c1).resolve_left c2).resolve_left c3)]
theorem mf1g (fu : Nat) (c1 : ¬ p6 < 0) (c2 : ¬ 3 < p6) (c3 : ¬ p7 < 0) (c4 : ¬ 1000 < p7) : t_Mo_frame (SS n) N 71 p1 p2 p3 p4 il p6 p7 (fu + 1) 1 1 u9 u10 u11 u12 u13 F = t_Mo_frame (SS n) N 71 p1 p2 p3 p4 il p6 p7 fu 3 1 0 0 0 0 0 F := by
  rw [t_Mo_frame, if_neg (by decide), if_pos rfl, if_neg (by decide), if_neg c1, if_neg c2, if_neg c3, if_neg c4]
theorem mf2 (fu : Nat) : t_Mo_frame (SS n) N 71 p1 p2 p3 p4 il p6 p7 (fu + 1) 2 u8 u9 u10 u11 u12 u13 F = t_Mo_frame (SS n) N 71 p1 p2 p3 p4 il p6 p7 fu 3 0 0 0 0 0 0 F := by
  rw [t_Mo_frame, if_neg (by decide), if_neg (by decide), if_pos rfl]
theorem mf3z (fu : Nat) : t_Mo_frame (SS n) N 71 p1 p2 p3 p4 il p6 p7 (fu + 1) 3 0 u9 u10 u11 u12 u13 F = t_Mo_frame (SS n) N 71 p1 p2 p3 p4 il p6 p7 fu 4 0 0 0 0 0 0 (up2 F 71 3 1) := by
  rw [t_Mo_frame, if_neg (by decide), if_neg (by decide), if_neg (by decide), if_pos rfl, if_pos rfl, pI_71_3, Option.bind_some]
theorem mf3r (fu : Nat) (h : ¬ p3 * p4 ≤ F 71 5) : t_Mo_frame (SS n) N 71 p1 p2 p3 p4 il p6 p7 (fu + 1) 3 1 u9 u10 u11 u12 u13 F = t_Mo_frame (SS n) N 71 p1 p2 p3 p4 il p6 p7 fu 4 1 0 0 0 0 0 (up2 F 71 3 2) := by
  rw [t_Mo_frame, if_neg (by decide), if_neg (by decide), if_neg (by decide), if_pos rfl, if_neg (by decide), gI_71_5, Option.bind_some, if_neg h, pI_71_3, Option.bind_some]
theorem mf3f (fu : Nat) (h : p3 * p4 ≤ F 71 5) (h2 : F 71 23 = 12) : t_Mo_frame (SS n) N 71 p1 p2 p3 p4 il p6 p7 (fu + 1) 3 1 u9 u10 u11 u12 u13 F = t_Mo_frame (SS n) N 71 p1 p2 p3 p4 il p6 p7 fu 4 1 0 0 0 0 0 (up2 F 71 3 3) := by
  rw [t_Mo_frame, if_neg (by decide), if_neg (by decide), if_neg (by decide), if_pos rfl, if_neg (by decide), gI_71_5, Option.bind_some, if_pos h, gI_71_23, Option.bind_some, if_pos h2, pI_71_3, Option.bind_some]
theorem mf3g (fu : Nat) (h : p3 * p4 ≤ F 71 5) (h2 : ¬ F 71 23 = 12) : t_Mo_frame (SS n) N 71 p1 p2 p3 p4 il p6 p7 (fu + 1) 3 1 u9 u10 u11 u12 u13 F = t_Mo_frame (SS n) N 71 p1 p2 p3 p4 il p6 p7 fu 4 1 0 0 0 0 0 (up2 F 71 3 0) := by
  rw [t_Mo_frame, if_neg (by decide), if_neg (by decide), if_neg (by decide), if_pos rfl, if_neg (by decide), gI_71_5, Option.bind_some, if_pos h, gI_71_23, Option.bind_some, if_neg h2, pI_71_3, Option.bind_some]
theorem mf4n (fu : Nat) (h : ¬ F 71 3 ≤ 0) : t_Mo_frame (SS n) N 71 p1 p2 p3 p4 il p6 p7 (fu + 1) 4 u8 u9 u10 u11 u12 u13 F = some (0, F) := by
  rw [t_Mo_frame, if_neg (by decide), if_neg (by decide), if_neg (by decide), if_neg (by decide), if_pos rfl, gI_71_3, Option.bind_some, if_neg h]
theorem mf4y (fu : Nat) (h : F 71 3 ≤ 0) (h2 : F 71 23 = nI f) (hf : f < 12) : t_Mo_frame (SS n) N 71 p1 p2 p3 p4 il p6 p7 (fu + 1) 4 u8 u9 u10 u11 u12 u13 F = t_Mo_frame (SS n) N 71 p1 p2 p3 p4 il p6 p7 fu 5 u8 (nI f) 0 0 0 0 (up2 (up2 (up2 (up2 (up2 (up2 (up2 F 82 f p1) 83 f p2) 84 f p3) 85 f p4) 86 f p6) 87 f p7) 88 f (-1)) := by
  rw [t_Mo_frame, if_neg (by decide), if_neg (by decide), if_neg (by decide), if_neg (by decide), if_pos rfl, gI_71_3, Option.bind_some, if_pos h]
  simp only [gI_71_23, h2, Option.bind_some, gR_71_24, gR_71_25, gR_71_26, gR_71_27, gR_71_28, gR_71_29, gR_71_30, aP_nI sh_82 hf (show 12 ≤ 100000 by decide), aP_nI sh_83 hf (show 12 ≤ 100000 by decide), aP_nI sh_84 hf (show 12 ≤ 100000 by decide), aP_nI sh_85 hf (show 12 ≤ 100000 by decide), aP_nI sh_86 hf (show 12 ≤ 100000 by decide), aP_nI sh_87 hf (show 12 ≤ 100000 by decide), aP_nI sh_88 hf (show 12 ≤ 100000 by decide)]
theorem mf5e (fu : Nat) : t_Mo_frame (SS n) N 71 p1 p2 p3 p4 il p6 p7 (fu + 1) 5 u8 u9 (nI 256) u11 u12 u13 F = t_Mo_frame (SS n) N 71 p1 p2 p3 p4 il p6 p7 fu 6 u8 u9 0 0 0 0 F := by
  rw [t_Mo_frame, if_neg (by decide), if_neg (by decide), if_neg (by decide), if_neg (by decide), if_neg (by decide), if_pos rfl, if_pos (by decide)]
theorem mf5 (hf : f < 12) (g : Nat → Int32) : ∀ (d k fu : Nat), k + d = 256 → t_Mo_frame (SS n) N 71 p1 p2 p3 p4 il p6 p7 (fu + d) 5 u8 (nI f) (nI k) 0 0 0 (upR F 90 (rowAdd g (256 * f) k (fun _ => -1))) = t_Mo_frame (SS n) N 71 p1 p2 p3 p4 il p6 p7 fu 5 u8 (nI f) (nI 256) 0 0 0 (upR F 90 (rowAdd g (256 * f) 256 (fun _ => -1))) := by
  intro d
  induction d with
  | zero =>
    intro k fu hk
    have : k = 256 := by omega
    subst this; rfl
  | succ d ih =>
    intro k fu hk
    have c : ¬ (256 : Int32) ≤ nI k := by rw [show (256 : Int32) = nI 256 from rfl, nI_le_iff (by decide) (by omega)]; omega
    rw [← Nat.add_assoc, t_Mo_frame, if_neg (by decide), if_neg (by decide), if_neg (by decide), if_neg (by decide), if_neg (by decide), if_pos rfl, if_neg c]
    have e : (256 : Int32) * nI f + nI k = nI (256 * f + k) := by rw [show (256 : Int32) = nI 256 from rfl, nI_mul, nI_ad]
    simp only [gR_71_32, Option.bind_some, e, aP_nI sh_90 (show 256 * f + k < 3328 by omega) (show 3328 ≤ 100000 by decide), nI_1]
    rw [upR_succ (by rfl)]
    exact ih (k + 1) fu (by omega)
theorem mf6 (fu : Nat) (hp : p < 4) : t_Mo_frame (SS n) N 71 p1 p2 p3 p4 il p6 p7 (fu + 1) 6 u8 u9 u10 (nI p) u12 u13 F = t_Mo_frame (SS n) N 71 p1 p2 p3 p4 il p6 p7 fu 7 u8 u9 u10 (nI p) 0 0 F := by
  have c : ¬ (4 : Int32) ≤ nI p := by rw [show (4 : Int32) = nI 4 from rfl, nI_le_iff (by decide) (by omega)]; omega
  rw [t_Mo_frame, if_neg (by decide), if_neg (by decide), if_neg (by decide), if_neg (by decide), if_neg (by decide), if_neg (by decide), if_pos rfl, if_neg c]
theorem mf6e (fu : Nat) : t_Mo_frame (SS n) N 71 p1 p2 p3 p4 il p6 p7 (fu + 1) 6 u8 u9 u10 (nI 4) u12 u13 F = t_Mo_frame (SS n) N 71 p1 p2 p3 p4 il p6 p7 fu 11 u8 u9 u10 0 0 0 (up2 F 71 5 (F 71 5 - u10)) := by
  rw [t_Mo_frame, if_neg (by decide), if_neg (by decide), if_neg (by decide), if_neg (by decide), if_neg (by decide), if_neg (by decide), if_pos rfl, if_pos (by decide)]
  simp only [gI_71_5, Option.bind_some, pI_71_5]
theorem mf7e (fu : Nat) (hp4 : p4 = nI hh) (hh1 : hh ≤ 24) : t_Mo_frame (SS n) N 71 p1 p2 p3 p4 il p6 p7 (fu + 1) 7 u8 u9 u10 (nI p) (nI hh) u13 F = t_Mo_frame (SS n) N 71 p1 p2 p3 p4 il p6 p7 fu 6 u8 u9 u10 (nI (p + 1)) 0 0 F := by
  have c : p4 ≤ nI hh := by rw [hp4, nI_le_iff (by omega) (by omega)]; omega
  rw [t_Mo_frame, if_neg (by decide), if_neg (by decide), if_neg (by decide), if_neg (by decide), if_neg (by decide), if_neg (by decide), if_neg (by decide), if_pos rfl, if_pos c, nI_1]
theorem mf7y (fu : Nat) (hp4 : p4 = nI hh) (hh1 : hh ≤ 24) (hl : l < hh) (hm : PN il l = p) : t_Mo_frame (SS n) N 71 p1 p2 p3 p4 il p6 p7 (fu + 1) 7 u8 u9 u10 (nI p) (nI l) u13 F = t_Mo_frame (SS n) N 71 p1 p2 p3 p4 il p6 p7 fu 8 u8 u9 u10 (nI p) (nI l) 0 F := by
  have c : ¬ p4 ≤ nI l := by rw [hp4, nI_le_iff (by omega) (by omega)]; omega
  rw [t_Mo_frame, if_neg (by decide), if_neg (by decide), if_neg (by decide), if_neg (by decide), if_neg (by decide), if_neg (by decide), if_neg (by decide), if_pos rfl, if_neg c]
  by_cases c2 : il = 0
  · have : p = 0 := by rw [← hm]; unfold PN; rw [if_pos c2]
    subst this
    rw [if_pos c2, if_pos (show nI 0 = (0 : Int32) from rfl)]
  · have : pnn l = p := by rw [← hm]; unfold PN; rw [if_neg c2]
    rw [if_neg c2, mpn_of (by omega), Option.bind_some, this, if_pos rfl]
theorem mf7n (fu : Nat) (hp4 : p4 = nI hh) (hh1 : hh ≤ 24) (hl : l < hh) (hm : PN il l ≠ p) (hp : p < 4) : t_Mo_frame (SS n) N 71 p1 p2 p3 p4 il p6 p7 (fu + 1) 7 u8 u9 u10 (nI p) (nI l) u13 F = t_Mo_frame (SS n) N 71 p1 p2 p3 p4 il p6 p7 fu 10 u8 u9 u10 (nI p) (nI l) 0 F := by
  have c : ¬ p4 ≤ nI l := by rw [hp4, nI_le_iff (by omega) (by omega)]; omega
  rw [t_Mo_frame, if_neg (by decide), if_neg (by decide), if_neg (by decide), if_neg (by decide), if_neg (by decide), if_neg (by decide), if_neg (by decide), if_pos rfl, if_neg c]
  have h4 := PN_lt il l
  by_cases c2 : il = 0
  · have h5 : PN il l = 0 := by unfold PN; rw [if_pos c2]
    have : ¬ nI p = (0 : Int32) := by rw [show (0 : Int32) = nI 0 from rfl, nI_eq_iff (by omega) (by decide)]; omega
    rw [if_pos c2, if_neg this]
  · have h5 : PN il l = pnn l := by unfold PN; rw [if_neg c2]
    have : ¬ nI (pnn l) = nI p := by rw [nI_eq_iff (by omega) (by omega)]; omega
    rw [if_neg c2, mpn_of (by omega), Option.bind_some, if_neg this]
theorem mf8 (fu : Nat) : t_Mo_frame (SS n) N 71 p1 p2 p3 p4 il p6 p7 (fu + 1) 8 u8 u9 u10 u11 u12 u13 F = t_Mo_frame (SS n) N 71 p1 p2 p3 p4 il p6 p7 fu 9 u8 u9 u10 u11 u12 0 F := by
  rw [t_Mo_frame, if_neg (by decide), if_neg (by decide), if_neg (by decide), if_neg (by decide), if_neg (by decide), if_neg (by decide), if_neg (by decide), if_neg (by decide), if_pos rfl]
theorem mf10 (fu : Nat) : t_Mo_frame (SS n) N 71 p1 p2 p3 p4 il p6 p7 (fu + 1) 10 u8 u9 u10 u11 (nI l) u13 F = t_Mo_frame (SS n) N 71 p1 p2 p3 p4 il p6 p7 fu 7 u8 u9 u10 u11 (nI (l + 1)) 0 F := by
  rw [t_Mo_frame, if_neg (by decide), if_neg (by decide), if_neg (by decide), if_neg (by decide), if_neg (by decide), if_neg (by decide), if_neg (by decide), if_neg (by decide), if_neg (by decide), if_neg (by decide), if_pos rfl, nI_1]
theorem mf9e (fu : Nat) (hp3 : p3 = nI w) (hw : w ≤ 24) : t_Mo_frame (SS n) N 71 p1 p2 p3 p4 il p6 p7 (fu + 1) 9 u8 u9 u10 u11 u12 (nI w) F = t_Mo_frame (SS n) N 71 p1 p2 p3 p4 il p6 p7 fu 10 u8 u9 u10 u11 u12 0 F := by
  have c : p3 ≤ nI w := by rw [hp3, nI_le_iff (by omega) (by omega)]; omega
  rw [t_Mo_frame, if_neg (by decide), if_neg (by decide), if_neg (by decide), if_neg (by decide), if_neg (by decide), if_neg (by decide), if_neg (by decide), if_neg (by decide), if_neg (by decide), if_pos rfl, if_pos c]
theorem mf9 (hf : f < 12) (hp3 : p3 = nI w) (hw : w ≤ 24) (hl : l < 24) (hst : st + w ≤ 12000) (g : Nat → Int32) : ∀ (d c fu : Nat), c + d = w → t_Mo_frame (SS n) N 71 p1 p2 p3 p4 il p6 p7 (fu + d) 9 u8 (nI f) (nI (st + c)) u11 (nI l) (nI c) (upR F 89 (rowAdd g (576 * f + 24 * l) c (fun c => F 72 (st + c)))) = t_Mo_frame (SS n) N 71 p1 p2 p3 p4 il p6 p7 fu 9 u8 (nI f) (nI (st + w)) u11 (nI l) (nI w) (upR F 89 (rowAdd g (576 * f + 24 * l) w (fun c => F 72 (st + c)))) := by
  intro d
  induction d with
  | zero =>
    intro c fu hc
    have : c = w := by omega
    subst this; rfl
  | succ d ih =>
    intro c fu hc
    have c1 : ¬ p3 ≤ nI c := by rw [hp3, nI_le_iff (by omega) (by omega)]; omega
    rw [← Nat.add_assoc, t_Mo_frame, if_neg (by decide), if_neg (by decide), if_neg (by decide), if_neg (by decide), if_neg (by decide), if_neg (by decide), if_neg (by decide), if_neg (by decide), if_neg (by decide), if_pos rfl, if_neg c1]
    have e : (576 : Int32) * nI f + 24 * nI l + nI c = nI (576 * f + 24 * l + c) := by rw [show (576 : Int32) = nI 576 from rfl, show (24 : Int32) = nI 24 from rfl, nI_mul, nI_mul, nI_ad, nI_ad]
    simp only [gR_71_31, gR_71_6, Option.bind_some, aG_nI sh_72 (show st + c < 12000 by omega) (show 12000 ≤ 100000 by decide), upR_ne F 89 _ (show 72 ≠ 89 by decide), e, aP_nI sh_89 (show 576 * f + 24 * l + c < 6912 by omega) (show 6912 ≤ 100000 by decide), nI_1]
    rw [upR_succ (by rfl)]
    exact ih (c + 1) fu (by omega)
theorem mf11e (fu : Nat) {q : Nat} (hq : q ≤ 12000) (h5 : F 71 5 = nI q) : t_Mo_frame (SS n) N 71 p1 p2 p3 p4 il p6 p7 (fu + 1) 11 u8 u9 u10 (nI q) u12 u13 F = some (u9, up2 F 71 23 (F 71 23 + 1)) := by
  have c : nI q ≤ nI q := (nI_le_iff (by omega) (by omega)).mpr (Nat.le_refl q)
  rw [t_Mo_frame, if_neg (by decide), if_neg (by decide), if_neg (by decide), if_neg (by decide), if_neg (by decide), if_neg (by decide), if_neg (by decide), if_neg (by decide), if_neg (by decide), if_neg (by decide), if_neg (by decide)]
  simp only [gI_71_5, h5, Option.bind_some, if_pos c, gI_71_23, pI_71_23]
theorem mf11 {q m : Nat} (hq : q + m ≤ 12000) (h5 : F 71 5 = nI q) : ∀ (d k fu : Nat), k + d = q → t_Mo_frame (SS n) N 71 p1 p2 p3 p4 il p6 p7 (fu + d) 11 u8 u9 (nI m) (nI k) 0 0 (upR F 72 (fun j => if j < k then F 72 (j + m) else F 72 j)) = t_Mo_frame (SS n) N 71 p1 p2 p3 p4 il p6 p7 fu 11 u8 u9 (nI m) (nI q) 0 0 (upR F 72 (fun j => if j < q then F 72 (j + m) else F 72 j)) := by
  intro d
  induction d with
  | zero =>
    intro k fu hk
    have : k = q := by omega
    subst this; rfl
  | succ d ih =>
    intro k fu hk
    have c : ¬ nI q ≤ nI k := by rw [nI_le_iff (by omega) (by omega)]; omega
    rw [← Nat.add_assoc, t_Mo_frame, if_neg (by decide), if_neg (by decide), if_neg (by decide), if_neg (by decide), if_neg (by decide), if_neg (by decide), if_neg (by decide), if_neg (by decide), if_neg (by decide), if_neg (by decide), if_neg (by decide)]
    simp only [gI_71_5, upR_ne F 72 _ (show 71 ≠ 72 by decide), h5, Option.bind_some, if_neg c, gR_71_6, nI_ad, aG_nI sh_72 (show k + m < 12000 by omega) (show 12000 ≤ 100000 by decide), upR_eq, if_neg (show ¬ k + m < k by omega), aP_nI sh_72 (show k < 12000 by omega) (show 12000 ≤ 100000 by decide), nI_1, upR_up2]
    have e : (fun j => if j = k then F 72 (k + m) else if j < k then F 72 (j + m) else F 72 j) = (fun j => if j < k + 1 then F 72 (j + m) else F 72 j) := by
      funext j
      by_cases c1 : j = k
      · subst c1; rw [if_pos rfl, if_pos (by omega)]
      · by_cases c2 : j < k
        · rw [if_neg c1, if_pos c2, if_pos (by omega)]
        · rw [if_neg c1, if_neg c2, if_neg (by omega)]
    rw [e]
    exact ih (k + 1) fu (by omega)
end SE
