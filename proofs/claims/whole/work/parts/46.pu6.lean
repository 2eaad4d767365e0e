section SL
variable {b n N : Nat} {F : xF} {G : xL} {p1 p2 p3 : Int32}
theorem pass_loop {c i m w : Nat} {u : Int32} (hc1 : c ≤ 18060) (hc2 : F 6 1 = nI c) (him : i + m ≤ c) (hw : w + m ≤ 24000) : ∀ (d k fu : Nat), k + d = m → d < fu →
    t_PF_pass (SS n) N 0 (nI i) u fu (nI m) (nI k) (gAdd F 3 1 4 w k (fun j => F 7 (i + j))) = some (nI m, gAdd F 3 1 4 w m (fun j => F 7 (i + j))) := by
  have z1 : ∀ k, gAdd F 3 1 4 w k (fun j => F 7 (i + j)) 6 1 = nI c := fun k => by rw [gAdd_ne (by decide) (by decide)]; exact hc2
  have z2 : ∀ k, gAdd F 3 1 4 w k (fun j => F 7 (i + j)) 7 = F 7 := fun k => gAdd_ne (by decide) (by decide)
  intro d
  induction d with
  | zero =>
    intro k fu hk hf
    obtain ⟨fu, rfl⟩ : ∃ z, fu = z + 1 := ⟨fu - 1, by omega⟩
    have hkm : k = m := by omega
    subst hkm
    rw [t_PF_pass, if_pos ((nI_le_iff (by omega) (by omega)).mpr (Nat.le_refl _))]
  | succ d ih =>
    intro k fu hk hf
    obtain ⟨fu, rfl⟩ : ∃ z, fu = z + 1 := ⟨fu - 1, by omega⟩
    rw [t_PF_pass, if_neg (by rw [nI_le_iff (by omega) (by omega)]; omega)]
    have hsz : gAdd F 3 1 4 w k (fun j => F 7 (i + j)) 3 1 = nI (w + k) := gAdd_sz (by decide)
    simp only [gR_0_2, gR_0_3, gR_5_4, Option.bind_some, nI_ad, xcl_6, Nu_get_of (Nu6 n) (z1 k) hc1 (show i + k < c by omega), z2, xcl_3, Nu_add_of (Nu3 n) hsz (show w + k < 24000 by omega), nI_1]
    have e := gAdd_succ (F := F) (o := 3) (kk := 1) (ar := 4) (r := w) (m := k) (g := fun j => F 7 (i + j)) (by decide)
    rw [e]
    exact ih (k + 1) fu (by omega) (by omega)
theorem mpass_loop {c i m w : Nat} {u u3 : Int32} (hc1 : c ≤ 18060) (hc4 : ∀ k, k < c → ∃ s : Nat, s < 256 ∧ F 73 k = vp_nar .byte (nI s)) (him : i + m ≤ c) (hw : w + m ≤ 24000) : ∀ (d k fu : Nat), k + d = m → d < fu →
    t_Mo_pass (SS n) N 71 (nI i) u fu 5 u3 (nI m) (nI k) (gAdd F 71 10 75 w k (fun j => F 73 (i + j))) = some (nI m, gAdd F 71 10 75 w m (fun j => F 73 (i + j))) := by
  have z2 : ∀ k j, gAdd F 71 10 75 w k (fun j => F 73 (i + j)) 73 j = F 73 j := fun k j => by rw [gAdd_ne (by decide) (by decide)]
  intro d
  induction d with
  | zero =>
    intro k fu hk hf
    obtain ⟨fu, rfl⟩ : ∃ z, fu = z + 1 := ⟨fu - 1, by omega⟩
    have hkm : k = m := by omega
    subst hkm
    rw [t_Mo_pass, if_neg (by decide), if_neg (by decide), if_neg (by decide), if_neg (by decide), if_neg (by decide), if_pos ((nI_le_iff (by omega) (by omega)).mpr (Nat.le_refl _))]
  | succ d ih =>
    intro k fu hk hf
    obtain ⟨fu, rfl⟩ : ∃ z, fu = z + 1 := ⟨fu - 1, by omega⟩
    rw [t_Mo_pass, if_neg (by decide), if_neg (by decide), if_neg (by decide), if_neg (by decide), if_neg (by decide), if_neg (by rw [nI_le_iff (by omega) (by omega)]; omega)]
    have hsz : gAdd F 71 10 75 w k (fun j => F 73 (i + j)) 71 10 = nI (w + k) := gAdd_sz (by decide)
    obtain ⟨s, hs1, hs2⟩ := hc4 (i + k) (by omega)
    have z3 : ∀ v, up2 (gAdd F 71 10 75 w k (fun j => F 73 (i + j))) 75 (w + k) v 71 10 = nI (w + k) := fun v => by rw [up2_ne _ _ _ _ (Or.inl (by decide)), hsz]
    have z4 : vp_nar .byte (F 73 (i + k)) = F 73 (i + k) := by rw [hs2, by2 hs1]
    simp only [gR_71_11, gI_71_10, gR_71_8, Option.bind_some, nI_ad, hsz, bG_nI sh_73 (show i + k < 24000 by omega) (show 24000 ≤ 100000 by decide), z2, bP_nI sh_75 (show w + k < 24000 by omega) (show 24000 ≤ 100000 by decide), z4, z3, pI_71_10, nI_1]
    have e := gAdd_succ (F := F) (o := 71) (kk := 10) (ar := 75) (r := w) (m := k) (g := fun j => F 73 (i + j)) (by decide)
    rw [e]
    exact ih (k + 1) fu (by omega) (by omega)
theorem mpass_t0 (NN f : Nat) {u3 u4 u5 : Int32} : t_Mo_pass (SS n) NN 71 p1 p2 (f + 1) 0 u3 u4 u5 F = t_Mo_pass (SS n) NN 71 p1 p2 f 1 0 0 0 F := by
  rw [t_Mo_pass, if_pos rfl]
theorem mpass_t1 (NN f : Nat) {u4 u5 : Int32} : t_Mo_pass (SS n) NN 71 p1 p2 (f + 1) 1 0 u4 u5 F = t_Mo_pass (SS n) NN 71 p1 p2 f 2 0 0 0 F := by
  rw [t_Mo_pass, if_neg (by decide), if_pos rfl, if_pos rfl]
theorem mpass_t2 (NN f : Nat) {u3 u4 u5 : Int32} : t_Mo_pass (SS n) NN 71 p1 p2 (f + 1) 2 u3 u4 u5 F = t_Mo_pass (SS n) NN 71 p1 p2 f 3 u3 p2 0 F := by
  rw [t_Mo_pass, if_neg (by decide), if_neg (by decide), if_pos rfl]
theorem mpass_t3 (NN f : Nat) {u4 u5 : Int32} : t_Mo_pass (SS n) NN 71 p1 p2 (f + 1) 3 0 u4 u5 F = t_Mo_pass (SS n) NN 71 p1 p2 f 4 0 u4 0 (up2 F 71 3 1) := by
  rw [t_Mo_pass, if_neg (by decide), if_neg (by decide), if_neg (by decide), if_pos rfl, if_pos rfl, pI_71_3, Option.bind_some]
theorem mpass_t4 (NN f : Nat) {u3 u4 u5 : Int32} (h : ¬ F 71 3 ≤ 0) : t_Mo_pass (SS n) NN 71 p1 p2 (f + 1) 4 u3 u4 u5 F = some (0, F) := by
  rw [t_Mo_pass, if_neg (by decide), if_neg (by decide), if_neg (by decide), if_neg (by decide), if_pos rfl, gI_71_3, Option.bind_some, if_neg h]
theorem mpass_thr (NN f : Nat) : t_Mo_pass (SS n) NN 71 p1 p2 (f + 1 + 1 + 1 + 1 + 1) 0 0 0 0 F = some (0, up2 F 71 3 1) := by
  rw [mpass_t0, mpass_t1, mpass_t2, mpass_t3, mpass_t4 _ _ (by rw [up2_eq]; decide)]
/-- the reference's pass, when the byte is not there -/
theorem mpass_no {c : Nat} (hc1 : c ≤ 18060) (hc3 : F 71 7 = nI c) (cc : ¬ (0 ≤ p1.toInt ∧ p1.toInt < c)) (hN : 10 < N) : f_Mo_pass (SS n) N 71 p1 p2 F = some (0, up2 F 71 3 1) := by
  obtain ⟨N0, rfl⟩ : ∃ z, N = z + 10 := ⟨N - 10, by omega⟩
  have tl : t_Mo_pass (SS n) (N0 + 10) 71 p1 p2 (N0 + 10) 0 0 0 0 F = some (0, up2 F 71 3 1) := mpass_thr (N0 + 10) (N0 + 5)
  unfold f_Mo_pass
  by_cases c1 : p1 < 0
  · rw [if_pos c1]; exact tl
  · rw [if_neg c1]
    have d2 : nI c ≤ p1 := by
      have h0 : (0 : Int32).toInt = 0 := by decide
      rw [Int32.lt_iff_toInt_lt] at c1
      rw [Int32.le_iff_toInt_le, nI_toInt (by omega)]
      omega
    simp only [gI_71_7, hc3, Option.bind_some, if_pos d2]
    exact tl
/-- how many bytes pass feeds -/
theorem mpass_yes {c i : Nat} (hc1 : c ≤ 18060) (hc3 : F 71 7 = nI c) (hi : i < c) (hN : 10 < N) : ∃ x, N ≤ x + 2 ∧ f_Mo_pass (SS n) N 71 (nI i) p2 F = t_Mo_pass (SS n) N 71 (nI i) p2 x 3 1 (if p2 ≤ nI (c - i) then p2 else nI (c - i)) 0 F := by
  obtain ⟨N0, rfl⟩ : ∃ z, N = z + 10 := ⟨N - 10, by omega⟩
  have hsub : nI c - nI i = nI (c - i) := nI_sub (by omega)
  have d1 : ¬ nI i < 0 := by
    rw [show (0 : Int32) = nI 0 from rfl, nI_lt_iff (by omega) (by decide)]; omega
  have d2 : ¬ nI c ≤ nI i := by rw [nI_le_iff (by omega) (by omega)]; omega
  by_cases h2 : p2 ≤ nI (c - i)
  · refine ⟨N0 + 8, by omega, ?_⟩
    unfold f_Mo_pass
    rw [if_neg d1]
    simp only [gI_71_7, hc3, Option.bind_some, if_neg d2]
    rw [t_Mo_pass, if_neg (by decide), if_pos rfl, if_neg (by decide)]
    simp only [gI_71_7, hc3, Option.bind_some, hsub, if_pos h2]
    rw [t_Mo_pass, if_neg (by decide), if_neg (by decide), if_pos rfl]
  · refine ⟨N0 + 9, by omega, ?_⟩
    unfold f_Mo_pass
    rw [if_neg d1]
    simp only [gI_71_7, hc3, Option.bind_some, if_neg d2]
    rw [t_Mo_pass, if_neg (by decide), if_pos rfl, if_neg (by decide)]
    simp only [gI_71_7, hc3, Option.bind_some, hsub, if_neg h2]
theorem s_pass (h : RI b F) (hN : 24010 < N) : ∃ F2 G2, q_pass (SS n) N 0 71 95 p1 p2 F G = some (1, F2, G2) ∧ RI b F2 := by
  obtain ⟨c, hc1, hc2, hc3, hc4⟩ := h.co
  obtain ⟨w, hw1, hw2, hw3, hw4⟩ := h.wa
  have h0 : (0 : Int32).toInt = 0 := by decide
  by_cases cc : 0 ≤ p1.toInt ∧ p1.toInt < c
  · obtain ⟨i, rfl, hi, hi2⟩ := nI_ex cc.1
    have hic : i < c := by omega
    have hsub : nI c - nI i = nI (c - i) := nI_sub (by omega)
    obtain ⟨x, hx, ex⟩ := mpass_yes (n := n) (N := N) (F := F) (p2 := p2) hc1 hc3 hic (by omega)
    obtain ⟨x, rfl⟩ : ∃ z, x = z + 2 := ⟨x - 2, by omega⟩
    by_cases c2 : 0 ≤ p2
    · have c3 : 0 ≤ p2.toInt := by rw [Int32.le_iff_toInt_le] at c2; exact c2
      obtain ⟨k2, rfl, hk2, -⟩ := nI_ex c3
      obtain ⟨m, hm, hmc⟩ : ∃ m : Nat, xmn (nI k2) (nI (c - i)) = nI m ∧ i + m ≤ c ∧ (if nI k2 ≤ nI (c - i) then nI k2 else nI (c - i)) = nI m := by
        unfold xmn
        by_cases hh : k2 ≤ c - i
        · refine ⟨k2, if_neg ?_, by omega, if_pos ?_⟩
          · rw [nI_lt_iff (by omega) (by omega)]; omega
          · rw [nI_le_iff (by omega) (by omega)]; exact hh
        · refine ⟨c - i, if_pos ?_, by omega, if_neg ?_⟩
          · rw [nI_lt_iff (by omega) (by omega)]; omega
          · rw [nI_le_iff (by omega) (by omega)]; omega
      have hroom : f_Nu_room (SS n) 3 F = some (nI (24000 - w)) := Nu_room_of (Nu3 n) hw2 hw1
      have ehas : f_Nu_has (SS n) 6 (nI i) F = some 1 := by rw [Nu_has_of (Nu6 n) hc2 (by omega), if_pos cc]
      by_cases c4 : w + m ≤ 24000
      · have d1 : nI m ≤ nI (24000 - w) := by rw [nI_le_iff (by omega) (by omega)]; omega
        have l1 := pass_loop (n := n) (N := N) (F := F) (u := nI k2) hc1 hc2 hmc.1 c4 m 0 N (by omega) (by omega)
        rw [gAdd_zero hw2] at l1
        have e1 : f_PF_pass (SS n) N 0 (nI i) (nI k2) F = some (0, nI m, gAdd F 3 1 4 w m (fun j => F 7 (i + j))) := by
          unfold f_PF_pass
          simp only [gR_0_3, gR_5_4, Option.bind_some, xcl_6, ehas, if_neg (show ¬ (1 : Int32) = 0 by decide), if_pos c2, gI_6_1, hc2, gR_0_2, xcl_3, hroom, hsub, hm, if_pos d1]
          have l2 : t_PF_pass (SS n) N 0 (nI i) (nI k2) N (nI m) 0 F = some (nI m, gAdd F 3 1 4 w m (fun j => F 7 (i + j))) := l1
          rw [l2]; rfl
        obtain ⟨F1, hF1⟩ : ∃ F1, F1 = gAdd F 3 1 4 w m (fun j => F 7 (i + j)) := ⟨_, rfl⟩
        rw [← hF1] at e1
        have g0 : ∀ i, i ≠ 3 → i ≠ 4 → F1 i = F i := fun i h1 h2 => by rw [hF1, gAdd_ne h1 h2]
        have g1 : F1 3 1 = nI (w + m) := by rw [hF1, gAdd_sz (by decide)]
        have g2 : F1 4 = rowAdd (F 4) w m (fun j => F 7 (i + j)) := by rw [hF1, gAdd_it]
        clear hF1 l1
        obtain ⟨x2, hx2, ex2⟩ := mpass_yes (n := n) (N := N) (F := F1) (p2 := nI k2) hc1 (by rw [g0 71 (by decide) (by decide)]; exact hc3) hic (by omega)
        obtain ⟨x2, rfl⟩ : ∃ z, x2 = z + 2 := ⟨x2 - 2, by omega⟩
        have g3 : F1 71 10 = nI w := by rw [g0 71 (by decide) (by decide)]; exact hw3
        have hadd : nI w + nI m = nI (w + m) := nI_ad w m
        have d2 : nI (w + m) ≤ 24000 := by rw [show (24000 : Int32) = nI 24000 from rfl, nI_le_iff (by omega) (by decide)]; exact c4
        have l3 := mpass_loop (n := n) (N := N) (F := up2 F1 71 3 0) (u := nI k2) (u3 := 1) (w := w) hc1 (fun k hk => by
          obtain ⟨s, s1, s2, s3⟩ := hc4 k hk
          exact ⟨s, s1, by rw [up2_row _ _ _ _ (by decide), g0 73 (by decide) (by decide)]; exact s3⟩) hmc.1 c4 m 0 x2 (by omega) (by omega)
        rw [gAdd_zero (by rw [up2_ne _ _ _ _ (Or.inr (by decide))]; exact g3)] at l3
        obtain ⟨F2, hF2⟩ : ∃ F2, F2 = gAdd (up2 F1 71 3 0) 71 10 75 w m (fun j => up2 F1 71 3 0 73 (i + j)) := ⟨_, rfl⟩
        have e2 : f_Mo_pass (SS n) N 71 (nI i) (nI k2) F1 = some (nI m, F2) := by
          rw [ex2, hmc.2, t_Mo_pass, if_neg (by decide), if_neg (by decide), if_neg (by decide), if_pos rfl, if_neg (by decide), if_pos c2]
          simp only [gI_71_10, g3, Option.bind_some, hadd, if_pos d2, pI_71_3]
          rw [t_Mo_pass, if_neg (by decide), if_neg (by decide), if_neg (by decide), if_neg (by decide), if_pos rfl]
          simp only [gI_71_3, up2_eq, Option.bind_some]
          rw [if_pos (by decide), hF2]
          exact l3
        have k0 : ∀ i, i ≠ 71 → i ≠ 75 → F2 i = F1 i := fun i h1 h2 => by rw [hF2, gAdd_ne h1 h2, up2_row _ _ _ _ h1]
        have k1 : ∀ j, j ≠ 3 → j ≠ 10 → F2 71 j = F 71 j := fun j h1 h2 => by rw [hF2, gAdd_oth (by decide) h2, up2_ne _ _ _ _ (Or.inr h1), g0 71 (by decide) (by decide)]
        have k2' : F2 71 10 = nI (w + m) := by rw [hF2, gAdd_sz (by decide)]
        have k4 : F2 71 3 = 0 := by rw [hF2, gAdd_oth (by decide) (by decide), up2_eq]
        have k3 : F2 75 = rowAdd (F 75) w m (fun j => F 73 (i + j)) := by
          rw [hF2, gAdd_it, up2_row _ _ _ _ (by decide), g0 75 (by decide) (by decide), up2_row _ _ _ _ (by decide), g0 73 (by decide) (by decide)]
        clear hF2 l3
        have A : ∀ i, i ≠ 3 → i ≠ 4 → i ≠ 71 → i ≠ 75 → F2 i = F i := fun i h1 h2 h3 h4 => by rw [k0 i h3 h4, g0 i h1 h2]
        obtain ⟨G2, e3⟩ := w_pass (N := N) (G := G) e1 e2 (t := 0) k4 (Or.inl ⟨rfl, rfl, rfl⟩)
        refine ⟨F2, G2, e3, ?_⟩
        obtain ⟨h1, h2, ⟨r, hr⟩, -, h5, h6, -, ⟨q, h8⟩, ⟨f, h9⟩, h10⟩ := h
        have hc4' := hc4
        have hw4' := hw4
        refine ⟨h1.ag ⟨by simp [A, k1], by simp⟩, h2.ag ⟨by simp [A, k1], by simp⟩, ⟨r, hr.ag ⟨by simp [A, k1], by simp [A]⟩⟩, ⟨c, hc1, by rw [A 6 (by decide) (by decide) (by decide) (by decide)]; exact hc2, by rw [k1 7 (by decide) (by decide)]; exact hc3, fun j hj => by rw [A 7 (by decide) (by decide) (by decide) (by decide), A 73 (by decide) (by decide) (by decide) (by decide)]; exact hc4' j hj⟩, h5.ag ⟨by simp [A, k1], by simp [A]⟩, h6.ag ⟨by simp [A, k1], by simp [A]⟩, ⟨w + m, c4, by rw [k0 3 (by decide) (by decide)]; exact g1, k2', fun j hj => ?_⟩, ⟨q, h8.ag ⟨by simp [A, k1], by simp [A]⟩⟩, ⟨f, h9.ag (by simp [A]) (by simp [k1]) (fun k h1 h2 => A k (by omega) (by omega) (by omega) (by omega)) (fun k h1 h2 => A k (by omega) (by omega) (by omega) (by omega))⟩, h10.ag ⟨by simp, by simp [A]⟩⟩
        rw [k0 4 (by decide) (by decide), g2, k3]
        simp only [rowAdd]
        by_cases hjw : w ≤ j
        · rw [if_pos ⟨hjw, hj⟩, if_pos ⟨hjw, hj⟩]
          exact hc4' (i + (j - w)) (by omega)
        · rw [if_neg (by omega), if_neg (by omega)]
          exact hw4' j (by omega)
      · have d1 : ¬ nI m ≤ nI (24000 - w) := by rw [nI_le_iff (by omega) (by omega)]; omega
        have e1 : f_PF_pass (SS n) N 0 (nI i) (nI k2) F = some (2, 0, F) := by
          unfold f_PF_pass
          simp only [gR_0_3, gR_5_4, Option.bind_some, xcl_6, ehas, if_neg (show ¬ (1 : Int32) = 0 by decide), if_pos c2, gI_6_1, hc2, gR_0_2, xcl_3, hroom, hsub, hm, if_neg d1]
        have hadd : nI w + nI m = nI (w + m) := nI_ad w m
        have d2 : ¬ nI (w + m) ≤ 24000 := by rw [show (24000 : Int32) = nI 24000 from rfl, nI_le_iff (by omega) (by decide)]; exact c4
        have e2 : f_Mo_pass (SS n) N 71 (nI i) (nI k2) F = some (0, up2 F 71 3 3) := by
          rw [ex, hmc.2, t_Mo_pass, if_neg (by decide), if_neg (by decide), if_neg (by decide), if_pos rfl, if_neg (by decide), if_pos c2]
          simp only [gI_71_10, hw3, Option.bind_some, hadd, if_neg d2, pI_71_3]
          rw [t_Mo_pass, if_neg (by decide), if_neg (by decide), if_neg (by decide), if_neg (by decide), if_pos rfl]
          simp only [gI_71_3, up2_eq, Option.bind_some]
          rw [if_neg (by decide)]
        obtain ⟨G2, e3⟩ := w_pass (N := N) (G := G) e1 e2 (up2_eq F 71 3 3) (Or.inr (Or.inr (Or.inr ⟨rfl, rfl⟩)))
        exact ⟨_, G2, e3, h.code⟩
    · have ehas : f_Nu_has (SS n) 6 (nI i) F = some 1 := by rw [Nu_has_of (Nu6 n) hc2 (by omega), if_pos cc]
      have e1 : f_PF_pass (SS n) N 0 (nI i) p2 F = some (1, 0, F) := by
        unfold f_PF_pass
        simp only [gR_0_3, gR_5_4, Option.bind_some, xcl_6, ehas, if_neg (show ¬ (1 : Int32) = 0 by decide), if_neg c2]
      have e2 : f_Mo_pass (SS n) N 71 (nI i) p2 F = some (0, up2 F 71 3 2) := by
        rw [ex, t_Mo_pass, if_neg (by decide), if_neg (by decide), if_neg (by decide), if_pos rfl, if_neg (by decide), if_neg c2]
        simp only [Option.bind_some, pI_71_3]
        rw [t_Mo_pass, if_neg (by decide), if_neg (by decide), if_neg (by decide), if_neg (by decide), if_pos rfl]
        simp only [gI_71_3, up2_eq, Option.bind_some]
        rw [if_neg (by decide)]
      obtain ⟨G2, e3⟩ := w_pass (N := N) (G := G) e1 e2 (up2_eq F 71 3 2) (Or.inr (Or.inr (Or.inl ⟨rfl, rfl⟩)))
      exact ⟨_, G2, e3, h.code⟩
  · have e1 : f_PF_pass (SS n) N 0 p1 p2 F = some (3, 0, F) := by
      unfold f_PF_pass
      simp only [gR_0_3, gR_5_4, Option.bind_some, xcl_6, Nu_has_of (Nu6 n) hc2 hc1, if_neg cc, if_pos]
    obtain ⟨G2, e3⟩ := w_pass (N := N) (G := G) e1 (mpass_no hc1 hc3 cc (by omega)) (up2_eq F 71 3 1) (Or.inr (Or.inl ⟨rfl, rfl⟩))
    exact ⟨_, G2, e3, h.code⟩
end SL
