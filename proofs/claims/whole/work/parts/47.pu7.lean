theorem upR_up2 {F : xF} {a k : Nat} {f : Nat → Int32} {v : Int32} : up2 (upR F a f) a k v = upR F a (fun j => if j = k then v else f j) := by
  funext i j
  by_cases h : i = a
  · subst h
    simp only [upR_eq, up2]
    rw [if_pos trivial]
  · rw [up2_ne _ _ _ _ (Or.inl h), upR_ne _ _ _ h, upR_ne _ _ _ h]
section SM
variable {b n N : Nat} {F : xF} {G : xL} {p1 p2 p3 : Int32}
theorem se_loop {E z : Nat} (hz : z ≤ 4095) (h94 : F 9 4 = nI z) (h90 : F 9 0 = nI E) (hso : ∀ e, E < e → e ≤ z → ∃ s : Nat, s < 8192 ∧ F 12 e = nI s) : ∀ (d e fu : Nat) (sl : Nat → Int32), e + d = z + 1 → d < fu → E < e → (∀ s, s < 8192 → sl s = nI 0 ∨ ∃ e', e ≤ e' ∧ e' ≤ z ∧ F 12 e' = nI s) →
    ∃ sl', t_St_empty (SS n) N 9 fu (nI e) (upR F 10 sl) = some (up2 (upR F 10 sl') 9 4 (nI E)) ∧ ∀ s, s < 8192 → sl' s = nI 0 := by
  intro d
  induction d with
  | zero =>
    intro e fu sl hk hf he hs
    obtain ⟨fu, rfl⟩ : ∃ z, fu = z + 1 := ⟨fu - 1, by omega⟩
    refine ⟨sl, ?_, fun s hs' => ?_⟩
    · rw [t_St_empty]
      simp only [gI_9_4, upR_ne F 10 sl (show 9 ≠ 10 by decide), h94, Option.bind_some, if_pos ((nI_lt_iff (show z < 2147483648 by omega) (show e < 2147483648 by omega)).mpr (by omega)), gI_9_0, h90, pI_9_4]
    · rcases hs s hs' with q | ⟨e', q1, q2, q3⟩
      · exact q
      · omega
  | succ d ih =>
    intro e fu sl hk hf he hs
    obtain ⟨fu, rfl⟩ : ∃ z, fu = z + 1 := ⟨fu - 1, by omega⟩
    obtain ⟨s0, s1, s2⟩ := hso e he (by omega)
    have c1 : ¬ nI z < nI e := by rw [nI_lt_iff (by omega) (by omega)]; omega
    rw [t_St_empty]
    simp only [gI_9_4, upR_ne F 10 sl (show 9 ≠ 10 by decide), h94, Option.bind_some, if_neg c1, gR_9_1, gR_9_3, aG_nI sh_12 (show e < 4096 by omega) (show 4096 ≤ 100000 by decide), upR_ne F 10 sl (show 12 ≠ 10 by decide), s2, aP_nI sh_10 s1 (show 8192 ≤ 100000 by decide), upR_up2, nI_1]
    refine ih (e + 1) fu _ (by omega) (by omega) (by omega) (fun s hs' => ?_)
    by_cases hss : s = s0
    · left; rw [if_pos hss]; rfl
    · rw [if_neg hss]
      rcases hs s hs' with q | ⟨e', q1, q2, q3⟩
      · exact Or.inl q
      · by_cases hee : e' = e
        · subst hee
          rw [s2] at q3
          exact absurd ((nI_eq_iff (by omega) (by omega)).mp q3).symm hss
        · exact Or.inr ⟨e', by omega, q2, q3⟩
theorem St_empty_of (h : Tab b F) (h90 : F 9 0 = nI (2 ^ b + 1)) (hN : 4097 < N) : ∃ sl', f_St_empty (SS n) N 9 F = some (up2 (upR F 10 sl') 9 4 (nI (2 ^ b + 1))) ∧ ∀ s, s < 8192 → sl' s = nI 0 := by
  obtain ⟨z, hz1, hz2, hz3, hz4, hz5⟩ := h
  generalize 2 ^ b + 1 = E at h90 hz1 hz4 hz5 ⊢
  obtain ⟨sl', e1, e2⟩ := se_loop (n := n) (N := N) hz2 hz3 h90 hz4 (z - E) (E + 1) N (F 10) (by omega) (by omega) (by omega) (fun s hs => by
    rcases hz5 s hs with q | ⟨e, q1, q2, q3⟩
    · exact Or.inl q
    · exact Or.inr ⟨e, by omega, q2, q3⟩)
  refine ⟨sl', ?_, e2⟩
  unfold f_St_empty
  rw [upR_self] at e1
  simp only [gI_9_0, h90, Option.bind_some, nI_1]
  exact e1
/-- what the coder's forget leaves -/
theorem forget_of (h : Tab b F) (hx : Fix b F) (hN : 4097 < N) : ∃ F', f_Co_forget (SS n) N 5 F = some F' ∧ (∀ i, i ≠ 5 → i ≠ 6 → i ≠ 8 → i ≠ 9 → i ≠ 10 → F' i = F i) ∧ (∀ s, s < 8192 → F' 10 s = nI 0) ∧ F' 9 4 = nI (2 ^ b + 1) ∧ F' 9 0 = F 9 0 ∧ F' 6 1 = nI 0 ∧ F' 8 2 = nI (b + 1) ∧ F' 8 3 = nI 0 ∧ F' 8 0 = F 8 0 ∧ F' 8 1 = F 8 1 ∧ F' 5 0 = F 5 0 ∧ F' 5 1 = F 5 1 ∧ F' 5 5 = nI 0 ∧ F' 5 6 = nI 0 ∧ F' 5 7 = nI 0 ∧ F' 5 8 = nI 0 ∧ F' 5 9 = nI 0 := by
  have h' : Tab b (up2 F 6 1 (nI 0)) := h.ag ⟨by simp [up2, upR], by simp [up2_row, upR]⟩
  obtain ⟨sl, e1, e2⟩ := St_empty_of (n := n) (N := N) h' (by rw [up2_ne _ _ _ _ (Or.inl (by decide))]; exact hx.s0) hN
  refine ⟨up2 (up2 (up2 (up2 (up2 (up2 (up2 (up2 (upR (up2 F 6 1 (nI 0)) 10 sl) 9 4 (nI (2 ^ b + 1))) 8 2 (nI (b + 1))) 8 3 (nI 0)) 5 5 (nI 0)) 5 6 (nI 0)) 5 7 (nI 0)) 5 8 (nI 0)) 5 9 (nI 0), ?_, ?_⟩
  · unfold f_Co_forget f_Wi_restart
    have z1 : up2 (upR (up2 F 6 1 (nI 0)) 10 sl) 9 4 (nI (2 ^ b + 1)) 8 0 = nI b := by rw [← hx.w0]; simp [up2, upR]
    simp only [gR_5_4, gR_5_3, gR_5_2, Option.bind_some, xcl_6, xcl_9, xcl_8, Nu_empty_of (Nu6 n), e1, gI_8_0, z1, pI_8_2, pI_8_3, pI_5_5, pI_5_6, pI_5_7, pI_5_8, pI_5_9, nI_1]
    rfl
  · refine ⟨fun i h5 h6 h8 h9 h10 => ?_, fun s hs => ?_, ?_⟩
    · simp only [up2_row _ _ _ _ h5, up2_row _ _ _ _ h8, up2_row _ _ _ _ h9, upR_ne _ _ _ h10, up2_row _ _ _ _ h6]
    · rw [← e2 s hs]; simp [up2, upR]
    · simp [up2, upR]
theorem mclear_t0 (NN : Nat) : ∀ (d k fu : Nat), k + d = 4 → ∀ F : xF, t_Mo_clear (SS n) NN 71 (fu + d) 0 (nI k) F = t_Mo_clear (SS n) NN 71 fu 0 (nI 4) (upR F 74 (fun j => if k ≤ j ∧ j < 4 then nI 0 else F 74 j)) := by
  intro d
  induction d with
  | zero =>
    intro k fu hk F
    have : k = 4 := by omega
    subst this
    congr 1
    rw [show (fun j => if 4 ≤ j ∧ j < 4 then nI 0 else F 74 j) = F 74 by funext j; rw [if_neg (by omega)], upR_self]
  | succ d ih =>
    intro k fu hk F
    rw [← Nat.add_assoc, t_Mo_clear, if_pos rfl, if_neg (by rw [show (4 : Int32) = nI 4 from rfl, nI_le_iff (by decide) (by omega)]; omega)]
    simp only [gR_71_9, Option.bind_some, aP_nI sh_74 (show k < 4 by omega) (show 4 ≤ 100000 by decide), nI_1]
    rw [ih (k + 1) fu (by omega)]
    congr 1
    funext i j
    by_cases h : i = 74
    · subst h
      simp only [upR_eq]
      by_cases hj : j = k
      · subst hj
        rw [if_neg (by omega), up2_eq, if_pos (by omega)]; rfl
      · rw [up2_ne _ _ _ _ (Or.inr hj)]
        by_cases hh : k + 1 ≤ j ∧ j < 4
        · rw [if_pos hh, if_pos (by omega)]
        · rw [if_neg hh, if_neg (by omega)]
    · rw [upR_ne _ _ _ h, upR_ne _ _ _ h, up2_row _ _ _ _ h]
theorem mclear_t1 (NN : Nat) : ∀ (d k fu : Nat), k + d = 3328 → d < fu → ∀ F : xF, t_Mo_clear (SS n) NN 71 fu 1 (nI k) (upR F 90 (rowAdd (F 90) 0 k (fun _ => -1))) = some (upR F 90 (rowAdd (F 90) 0 3328 (fun _ => -1))) := by
  intro d
  induction d with
  | zero =>
    intro k fu hk hf F
    obtain ⟨fu, rfl⟩ : ∃ z, fu = z + 1 := ⟨fu - 1, by omega⟩
    have : k = 3328 := by omega
    subst this
    rw [t_Mo_clear, if_neg (by decide), if_pos (by decide)]
  | succ d ih =>
    intro k fu hk hf F
    obtain ⟨fu, rfl⟩ : ∃ z, fu = z + 1 := ⟨fu - 1, by omega⟩
    rw [t_Mo_clear, if_neg (by decide), if_neg (by rw [show (3328 : Int32) = nI 3328 from rfl, nI_le_iff (by decide) (by omega)]; omega)]
    simp only [gR_71_32, Option.bind_some, aP_nI sh_90 (show k < 3328 by omega) (show 3328 ≤ 100000 by decide), nI_1]
    have e := upR_succ (F := F) (ar := 90) (r := 0) (m := k) (f := F 90) (g := fun _ => -1) (v := -1) rfl
    rw [Nat.zero_add] at e
    rw [e]
    exact ih (k + 1) fu (by omega) (by omega) F
theorem mclear_of (F : xF) (hN : 4000 < N) : ∃ F', f_Mo_clear (SS n) N 71 F = some F' ∧ (∀ i, i ≠ 71 → i ≠ 74 → i ≠ 90 → F' i = F i) ∧ (∀ k, k < 4 → F' 74 k = nI 0) ∧ (∀ k, k < 3328 → F' 90 k = -1) ∧ (∀ j, j ≠ 3 → j ≠ 4 → j ≠ 5 → j ≠ 7 → j ≠ 10 → j ≠ 12 → j ≠ 23 → F' 71 j = F 71 j) ∧ F' 71 4 = nI 0 ∧ F' 71 5 = nI 0 ∧ F' 71 7 = nI 0 ∧ F' 71 10 = nI 0 ∧ F' 71 12 = nI 0 ∧ F' 71 23 = nI 0 := by
  obtain ⟨N0, hN0⟩ : ∃ z, N = z + 1 + 4 := ⟨N - 5, by omega⟩
  obtain ⟨H, hH⟩ : ∃ H, H = upR (up2 (up2 (up2 (up2 F 71 3 0) 71 4 0) 71 5 0) 71 7 0) 74 (fun j => if 0 ≤ j ∧ j < 4 then nI 0 else F 74 j) := ⟨_, rfl⟩
  obtain ⟨K, hK⟩ : ∃ K, K = up2 (up2 (up2 H 71 10 0) 71 12 0) 71 23 0 := ⟨_, rfl⟩
  have l := mclear_t1 (n := n) N 3328 0 N0 (by omega) (by omega) K
  rw [rowAdd_zero, upR_self] at l
  refine ⟨upR K 90 (rowAdd (K 90) 0 3328 (fun _ => -1)), ?_, ?_⟩
  · unfold f_Mo_clear
    simp only [pI_71_3, pI_71_4, pI_71_5, pI_71_7, Option.bind_some]
    have e0 := mclear_t0 (n := n) N 4 0 (N0 + 1) (by omega) (up2 (up2 (up2 (up2 F 71 3 0) 71 4 0) 71 5 0) 71 7 0)
    rw [← hN0] at e0
    have e1 : t_Mo_clear (SS n) N 71 N 0 0 (up2 (up2 (up2 (up2 F 71 3 0) 71 4 0) 71 5 0) 71 7 0) = t_Mo_clear (SS n) N 71 (N0 + 1) 0 (nI 4) H := by
      rw [hH]
      simp only [up2_row _ _ _ _ (show 74 ≠ 71 by decide)] at e0
      exact e0
    rw [e1, t_Mo_clear, if_pos rfl, if_pos (by decide)]
    simp only [pI_71_10, pI_71_12, pI_71_23, Option.bind_some]
    rw [← hK]
    exact l
  · refine ⟨fun i h1 h2 h3 => ?_, fun k hk => ?_, fun k hk => ?_, fun j h3 h4 h5 h7 h10 h12 h23 => ?_, ?_⟩
    · rw [upR_ne _ _ _ h3, hK, up2_row _ _ _ _ h1, up2_row _ _ _ _ h1, up2_row _ _ _ _ h1, hH, upR_ne _ _ _ h2, up2_row _ _ _ _ h1, up2_row _ _ _ _ h1, up2_row _ _ _ _ h1, up2_row _ _ _ _ h1]
    · rw [upR_ne _ _ _ (by decide), hK, up2_row _ _ _ _ (by decide), up2_row _ _ _ _ (by decide), up2_row _ _ _ _ (by decide), hH, upR_eq, if_pos (by omega)]
    · rw [upR_eq]; simp only [rowAdd]; rw [if_pos (by omega)]
    · rw [upR_ne _ _ _ (by decide), hK, hH]
      simp [up2, upR, h3, h4, h5, h7, h10, h12, h23]
    · rw [upR_ne _ _ _ (by decide), hK, hH]
      simp [up2, upR]
      decide
theorem s_clear (h : RI b F) (hn : n = 2 ^ b) (hN : 5000 < N) : ∃ F2 G2, q_clear (SS n) N 0 71 95 F G = some (1, F2, G2) ∧ RI b F2 := by
  have hx := h.fx
  obtain ⟨hp1, hp2⟩ := pw8 hx.h2 hx.h8
  obtain ⟨K, hK⟩ : ∃ K, K = up2 (up2 (up2 F 0 6 0) 1 1 (nI 0)) 3 1 (nI 0) := ⟨_, rfl⟩
  have hT : Tab b K := by rw [hK]; exact h.ta.ag ⟨by simp [up2, upR], by simp [up2_row, upR]⟩
  have hX : Fix b K := by rw [hK]; exact hx.ag ⟨by simp [up2, upR], by simp [up2_row, upR]⟩
  obtain ⟨F1, e1, a0, a10, a94, a90, a61, a82, a83, a80, a81, a50, a51, a55, a56, a57, -, -⟩ := forget_of (n := n) (N := N) hT hX (by omega)
  obtain ⟨F2, hF2⟩ : ∃ F2, F2 = upR (up2 (up2 F1 14 1 (nI 0)) 19 2 0) 22 (rowAdd (F1 22) 0 n (fun _ => -1)) := ⟨_, rfl⟩
  have ec : f_PF_clear (SS n) N 0 F = some F2 := by
    unfold f_PF_clear f_Sc_forget f_Pa_forget
    have ef := fill_of (S := SS n) (F := up2 (up2 F1 14 1 (nI 0)) 19 2 0) (a := 22) (L := n) (N := N) (v := -1) sh_22 (by omega) (by omega)
    simp only [pI_0_6, gR_0_1, gR_0_2, gR_0_3, gR_0_4, gR_0_5, gR_13_3, gR_19_1, gR_21_0, Option.bind_some, xcl_1, xcl_3, xcl_5, xcl_14, xcl_19, xcl_21, Nu_empty_of (Nu1 n), Nu_empty_of (Nu3 n), Nu_empty_of (Nu14 n), ← hK, e1, pI_19_2, ef]
    rw [hF2, up2_row _ _ _ _ (by decide), up2_row _ _ _ _ (by decide)]
  have A2 : ∀ i, i ≠ 0 → i ≠ 1 → i ≠ 3 → i ≠ 5 → i ≠ 6 → i ≠ 8 → i ≠ 9 → i ≠ 10 → i ≠ 14 → i ≠ 19 → i ≠ 22 → F2 i = F i := fun i q0 q1 q3 q5 q6 q8 q9 q10 q14 q19 q22 => by
    rw [hF2, upR_ne _ _ _ q22, up2_row _ _ _ _ q19, up2_row _ _ _ _ q14, a0 i q5 q6 q8 q9 q10, hK, up2_row _ _ _ _ q3, up2_row _ _ _ _ q1, up2_row _ _ _ _ q0]
  have B2 : ∀ i, i ≠ 14 → i ≠ 19 → i ≠ 22 → F2 i = F1 i := fun i q14 q19 q22 => by rw [hF2, upR_ne _ _ _ q22, up2_row _ _ _ _ q19, up2_row _ _ _ _ q14]
  have C2 : ∀ i, i ≠ 5 → i ≠ 6 → i ≠ 8 → i ≠ 9 → i ≠ 10 → i ≠ 14 → i ≠ 19 → i ≠ 22 → F2 i = K i := fun i q5 q6 q8 q9 q10 q14 q19 q22 => by rw [B2 i q14 q19 q22, a0 i q5 q6 q8 q9 q10]
  have f14 : F2 14 1 = nI 0 := by rw [hF2]; simp [up2, upR]
  have f19 : F2 19 2 = nI 0 := by rw [hF2]; simp [up2, upR]; rfl
  have f22 : ∀ s, s < n → F2 22 s = -1 := fun s hs => by rw [hF2, upR_eq]; simp only [rowAdd]; rw [if_pos (by omega)]
  have f00 : F2 0 0 = F 0 0 := by rw [C2 0 (by decide) (by decide) (by decide) (by decide) (by decide) (by decide) (by decide) (by decide), hK]; simp [up2]
  have f06 : F2 0 6 = nI 0 := by rw [C2 0 (by decide) (by decide) (by decide) (by decide) (by decide) (by decide) (by decide) (by decide), hK]; simp [up2]; rfl
  have f11 : F2 1 1 = nI 0 := by rw [C2 1 (by decide) (by decide) (by decide) (by decide) (by decide) (by decide) (by decide) (by decide), hK]; simp [up2]
  have f31 : F2 3 1 = nI 0 := by rw [C2 3 (by decide) (by decide) (by decide) (by decide) (by decide) (by decide) (by decide) (by decide), hK]; simp [up2]
  have hK5 : ∀ i, i ≠ 0 → i ≠ 1 → i ≠ 3 → K i = F i := fun i q0 q1 q3 => by rw [hK, up2_row _ _ _ _ q3, up2_row _ _ _ _ q1, up2_row _ _ _ _ q0]
  have B5 : ∀ i j, i ≠ 14 → i ≠ 19 → i ≠ 22 → F2 i j = F1 i j := fun i j q14 q19 q22 => by rw [B2 i q14 q19 q22]
  obtain ⟨F3, e3, m0, m74, m90, m71, m4, m5, m7, m10, m12, m23⟩ := mclear_of (n := n) (N := N) F2 (by omega)
  have hF71 : ∀ j, F2 71 j = F 71 j := fun j => by rw [A2 71 (by decide) (by decide) (by decide) (by decide) (by decide) (by decide) (by decide) (by decide) (by decide) (by decide) (by decide)]
  have M : ∀ i j, i ≠ 71 → i ≠ 74 → i ≠ 90 → F3 i j = F2 i j := fun i j q1 q2 q3 => by rw [m0 i q1 q2 q3]
  refine ⟨F3, G, ?_, ?_⟩
  · unfold q_clear
    simp only [xcl_0, xcl_71, ec, e3, Option.bind_some]
  · refine ⟨?_, ⟨0, by decide, by rw [M 0 6 (by decide) (by decide) (by decide)]; exact f06, m4⟩, ⟨0, by decide, by rw [M 1 1 (by decide) (by decide) (by decide)]; exact f11, m5, fun k hk => absurd hk (Nat.not_lt_zero k)⟩, ⟨0, by decide, by rw [M 6 1 (by decide) (by decide) (by decide), B5 6 1 (by decide) (by decide) (by decide)]; exact a61, m7, fun k hk => absurd hk (Nat.not_lt_zero k)⟩, ?_, ?_, ⟨0, by decide, by rw [M 3 1 (by decide) (by decide) (by decide)]; exact f31, m10, fun k hk => absurd hk (Nat.not_lt_zero k)⟩, ⟨0, by decide, by rw [M 14 1 (by decide) (by decide) (by decide)]; exact f14, m12, fun k hk => absurd hk (Nat.not_lt_zero k)⟩, ⟨0, by decide, by rw [M 19 2 (by decide) (by decide) (by decide)]; exact f19, m23, fun k hk => absurd hk (Nat.not_lt_zero k)⟩, fun s hs => ?_⟩
    · have y : ∀ i j, i ≠ 0 → i ≠ 1 → i ≠ 3 → i ≠ 5 → i ≠ 6 → i ≠ 8 → i ≠ 9 → i ≠ 10 → i ≠ 14 → i ≠ 19 → i ≠ 22 → i ≠ 71 → i ≠ 74 → i ≠ 90 → F3 i j = F i j := fun i j q0 q1 q3 q5 q6 q8 q9 q10 q14 q19 q22 q71 q74 q90 => by rw [M i j q71 q74 q90, A2 i q0 q1 q3 q5 q6 q8 q9 q10 q14 q19 q22]
      have w5 : ∀ j, F3 5 j = F1 5 j := fun j => by rw [M 5 j (by decide) (by decide) (by decide), B5 5 j (by decide) (by decide) (by decide)]
      have w8 : ∀ j, F3 8 j = F1 8 j := fun j => by rw [M 8 j (by decide) (by decide) (by decide), B5 8 j (by decide) (by decide) (by decide)]
      have w9 : ∀ j, F3 9 j = F1 9 j := fun j => by rw [M 9 j (by decide) (by decide) (by decide), B5 9 j (by decide) (by decide) (by decide)]
      refine hx.ag ⟨?_, by simp⟩
      have g00 : F3 0 0 = F 0 0 := by rw [M 0 0 (by decide) (by decide) (by decide)]; exact f00
      simp [g00, m71, hF71, w5, w8, w9, a50, a51, a80, a81, a90, hK5, y]
    · refine ⟨?_, ?_, ?_, ?_⟩
      · rw [m74 0 (by decide), M 5 5 (by decide) (by decide) (by decide), B5 5 5 (by decide) (by decide) (by decide), a55]
      · rw [m74 1 (by decide), M 5 6 (by decide) (by decide) (by decide), B5 5 6 (by decide) (by decide) (by decide), a56]
      · rw [m74 2 (by decide), M 5 7 (by decide) (by decide) (by decide), B5 5 7 (by decide) (by decide) (by decide), a57]
      · rw [m74 3 (by decide), M 9 4 (by decide) (by decide) (by decide), B5 9 4 (by decide) (by decide) (by decide), a94, M 9 0 (by decide) (by decide) (by decide), B5 9 0 (by decide) (by decide) (by decide), a90, hK5 9 (by decide) (by decide) (by decide), hx.s0, nI_sub (Nat.le_refl _), Nat.sub_self]
    · refine ⟨2 ^ b + 1, Nat.le_refl _, by omega, by rw [M 9 4 (by decide) (by decide) (by decide), B5 9 4 (by decide) (by decide) (by decide)]; exact a94, fun e q1 q2 => by omega, fun s hs => Or.inl ?_⟩
      rw [M 10 s (by decide) (by decide) (by decide), B5 10 s (by decide) (by decide) (by decide)]
      exact a10 s hs
    · have := f22 s (by omega)
      refine ⟨?_, Or.inl ?_⟩
      · rw [m90 _ (by omega), M 22 s (by decide) (by decide) (by decide), this]
      · exact m90 _ (by omega)
end SM
