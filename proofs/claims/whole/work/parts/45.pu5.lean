theorem upR_succ {F : xF} {ar r m : Nat} {f g : Nat → Int32} {v : Int32} (hv : g m = v) : up2 (upR F ar (rowAdd f r m g)) ar (r + m) v = upR F ar (rowAdd f r (m + 1) g) := by
  subst hv
  funext i j
  by_cases h : i = ar
  · subst h
    simp only [upR_eq, up2]
    rw [if_pos trivial, ← rowAdd_succ]
  · rw [up2_ne _ _ _ _ (Or.inl h), upR_ne _ _ _ h, upR_ne _ _ _ h]
theorem upR_self (F : xF) (ar : Nat) : upR F ar (F ar) = F := by
  funext i
  by_cases h : i = ar
  · subst h; rw [upR_eq]
  · rw [upR_ne _ _ _ h]
theorem fill_loop {S : List xO} {F : xF} {a L N : Nat} {v : Int32} (hS : S[a]? = some (.inl (0, L))) (hL : L ≤ 100000) : ∀ (d k fu : Nat), k + d = L → d < fu →
    t_Ar_fill S N a v fu (nI k) (nI L) (upR F a (rowAdd (F a) 0 k (fun _ => v))) = some (upR F a (rowAdd (F a) 0 L (fun _ => v))) := by
  intro d
  induction d with
  | zero =>
    intro k fu hk hf
    obtain ⟨fu, rfl⟩ : ∃ z, fu = z + 1 := ⟨fu - 1, by omega⟩
    have hkm : k = L := by omega
    subst hkm
    rw [t_Ar_fill, if_pos ((nI_le_iff (by omega) (by omega)).mpr (Nat.le_refl _))]
  | succ d ih =>
    intro k fu hk hf
    obtain ⟨fu, rfl⟩ : ∃ z, fu = z + 1 := ⟨fu - 1, by omega⟩
    rw [t_Ar_fill, if_neg (by rw [nI_le_iff (by omega) (by omega)]; omega)]
    simp only [aP_nI hS (show k < L by omega) hL, Option.bind_some, nI_1]
    have e := upR_succ (F := F) (ar := a) (r := 0) (m := k) (f := F a) (g := fun _ => v) (v := v) rfl
    rw [Nat.zero_add] at e
    rw [e]
    exact ih (k + 1) fu (by omega) (by omega)
theorem fill_of {S : List xO} {F : xF} {a L N : Nat} {v : Int32} (hS : S[a]? = some (.inl (0, L))) (hL : L ≤ 100000) (hN : L < N) : f_Ar_fill S N a v F = some (upR F a (rowAdd (F a) 0 L (fun _ => v))) := by
  unfold f_Ar_fill
  rw [aN_of hS, Option.bind_some]
  have l := fill_loop (N := N) (F := F) (v := v) hS hL L 0 N (by omega) hN
  rw [rowAdd_zero, upR_self] at l
  exact l
section SK
variable {b n N : Nat} {F : xF} {G : xL} {p1 p2 p3 : Int32}
theorem take_loop {q : Nat} (hq1 : q ≤ 12000) (hq2 : F 14 1 = nI q) : ∀ (d k fu : Nat), k + d = q → d < fu →
    t_PF_take (SS n) N 0 fu (nI k) (gAdd F 1 1 2 0 k (F 15)) = some (nI q, gAdd F 1 1 2 0 q (F 15)) := by
  have z1 : ∀ k, gAdd F 1 1 2 0 k (F 15) 14 1 = nI q := fun k => by rw [gAdd_ne (by decide) (by decide)]; exact hq2
  have z2 : ∀ k, gAdd F 1 1 2 0 k (F 15) 15 = F 15 := fun k => gAdd_ne (by decide) (by decide)
  intro d
  induction d with
  | zero =>
    intro k fu hk hf
    obtain ⟨fu, rfl⟩ : ∃ z, fu = z + 1 := ⟨fu - 1, by omega⟩
    have hkm : k = q := by omega
    subst hkm
    rw [t_PF_take]
    simp only [gR_0_4, gR_13_3, gI_14_1, z1, Option.bind_some, if_pos ((nI_le_iff (show k < 2147483648 by omega) (show k < 2147483648 by omega)).mpr (Nat.le_refl _)), gR_0_1, gI_1_1, gAdd_sz (show 1 ≠ 2 by decide), Nat.zero_add]
  | succ d ih =>
    intro k fu hk hf
    obtain ⟨fu, rfl⟩ : ∃ z, fu = z + 1 := ⟨fu - 1, by omega⟩
    rw [t_PF_take]
    have c1 : ¬ nI q ≤ nI k := by rw [nI_le_iff (by omega) (by omega)]; omega
    have hsz : gAdd F 1 1 2 0 k (F 15) 1 1 = nI (0 + k) := gAdd_sz (by decide)
    rw [Nat.zero_add] at hsz
    simp only [gR_0_4, gR_13_3, gI_14_1, z1, Option.bind_some, if_neg c1, gR_0_1, xcl_14, Nu_get_of (Nu14 n) (z1 k) hq1 (show k < q by omega), z2, xcl_1, Nu_add_of (Nu1 n) hsz (show k < 12000 by omega), nI_1]
    have e := gAdd_succ (F := F) (o := 1) (kk := 1) (ar := 2) (r := 0) (m := k) (g := F 15) (by decide)
    simp only [Nat.zero_add] at e
    rw [e]
    exact ih (k + 1) fu (by omega) (by omega)
theorem mtake_loop {q : Nat} (hq1 : q ≤ 12000) (hq2 : F 71 12 = nI q) (hq3 : F 71 5 = nI q) : ∀ (d k fu : Nat), k + d = q → d < fu →
    t_Mo_take (SS n) N 71 fu (nI k) (upR F 72 (rowAdd (F 72) 0 k (F 76))) = some (nI q, upR F 72 (rowAdd (F 72) 0 q (F 76))) := by
  have z1 : ∀ k j, upR F 72 (rowAdd (F 72) 0 k (F 76)) 71 j = F 71 j := fun k j => by rw [upR_ne _ _ _ (by decide)]
  have z2 : ∀ k j, upR F 72 (rowAdd (F 72) 0 k (F 76)) 76 j = F 76 j := fun k j => by rw [upR_ne _ _ _ (by decide)]
  intro d
  induction d with
  | zero =>
    intro k fu hk hf
    obtain ⟨fu, rfl⟩ : ∃ z, fu = z + 1 := ⟨fu - 1, by omega⟩
    have hkm : k = q := by omega
    subst hkm
    rw [t_Mo_take]
    simp only [gI_71_12, z1, hq2, Option.bind_some, if_pos ((nI_le_iff (show k < 2147483648 by omega) (show k < 2147483648 by omega)).mpr (Nat.le_refl _)), gI_71_5, hq3]
  | succ d ih =>
    intro k fu hk hf
    obtain ⟨fu, rfl⟩ : ∃ z, fu = z + 1 := ⟨fu - 1, by omega⟩
    rw [t_Mo_take]
    have c1 : ¬ nI q ≤ nI k := by rw [nI_le_iff (by omega) (by omega)]; omega
    simp only [gI_71_12, z1, hq2, Option.bind_some, if_neg c1, gR_71_6, gR_71_13, aG_nI sh_76 (show k < 12000 by omega) (show 12000 ≤ 100000 by decide), z2, aP_nI sh_72 (show k < 12000 by omega) (show 12000 ≤ 100000 by decide), nI_1]
    have e := upR_succ (F := F) (ar := 72) (r := 0) (m := k) (f := F 72) (g := F 76) rfl
    rw [Nat.zero_add] at e
    rw [e]
    exact ih (k + 1) fu (by omega) (by omega)
theorem s_take (h : RI b F) (hN : 12001 < N) : ∃ F2 G2, q_take (SS n) N 0 71 95 F G = some (1, F2, G2) ∧ RI b F2 := by
  obtain ⟨q, hq1, hq2, hq3, hq4⟩ := h.re
  have l1 := take_loop (n := n) (N := N) (F := up2 F 1 1 (nI 0)) hq1 (by rw [up2_ne _ _ _ _ (Or.inl (by decide))]; exact hq2) q 0 N (by omega) (by omega)
  rw [gAdd_zero (by rw [up2_eq])] at l1
  have e1 : f_PF_take (SS n) N 0 F = some (nI q, gAdd (up2 F 1 1 (nI 0)) 1 1 2 0 q (up2 F 1 1 (nI 0) 15)) := by
    unfold f_PF_take
    simp only [gR_0_1, Option.bind_some, xcl_1, Nu_empty_of (Nu1 n)]
    exact l1
  obtain ⟨F1, hF1⟩ : ∃ F1, F1 = gAdd (up2 F 1 1 (nI 0)) 1 1 2 0 q (up2 F 1 1 (nI 0) 15) := ⟨_, rfl⟩
  rw [← hF1] at e1
  have g0 : ∀ i, i ≠ 1 → i ≠ 2 → F1 i = F i := fun i h1 h2 => by rw [hF1, gAdd_ne h1 h2, up2_row _ _ _ _ h1]
  have g2 : F1 2 = rowAdd (F 2) 0 q (F 15) := by rw [hF1, gAdd_it, up2_row _ _ _ _ (by decide), up2_row _ _ _ _ (by decide)]
  have g1 : F1 1 1 = nI q := by rw [hF1, gAdd_sz (by decide), Nat.zero_add]
  clear hF1
  have l2 := mtake_loop (n := n) (N := N) (F := up2 (up2 F1 71 3 0) 71 5 (nI q)) hq1 (by simp [up2, g0, hq3]) (by simp [up2]) q 0 N (by omega) (by omega)
  rw [rowAdd_zero, upR_self] at l2
  obtain ⟨F2, hF2⟩ : ∃ F2, F2 = upR (up2 (up2 F1 71 3 0) 71 5 (nI q)) 72 (rowAdd (up2 (up2 F1 71 3 0) 71 5 (nI q) 72) 0 q (up2 (up2 F1 71 3 0) 71 5 (nI q) 76)) := ⟨_, rfl⟩
  have e2 : f_Mo_take (SS n) N 71 F1 = some (nI q, F2) := by
    unfold f_Mo_take
    have z1 : up2 F1 71 3 0 71 12 = nI q := by rw [up2_ne _ _ _ _ (Or.inr (by decide)), g0 71 (by decide) (by decide)]; exact hq3
    simp only [pI_71_3, Option.bind_some, gI_71_12, z1, pI_71_5]
    rw [hF2]
    exact l2
  have k0 : ∀ i, i ≠ 71 → i ≠ 72 → F2 i = F1 i := fun i h1 h2 => by rw [hF2, upR_ne _ _ _ h2, up2_row _ _ _ _ h1, up2_row _ _ _ _ h1]
  have k1 : ∀ j, j ≠ 3 → j ≠ 5 → F2 71 j = F 71 j := fun j h1 h2 => by rw [hF2, upR_ne _ _ _ (by decide), up2_ne _ _ _ _ (Or.inr h2), up2_ne _ _ _ _ (Or.inr h1), g0 71 (by decide) (by decide)]
  have k2 : F2 71 5 = nI q := by rw [hF2, upR_ne _ _ _ (by decide), up2_eq]
  have k3 : F2 72 = rowAdd (F 72) 0 q (F 76) := by rw [hF2, upR_eq, up2_row _ _ _ _ (by decide), up2_row _ _ _ _ (by decide), up2_row _ _ _ _ (by decide), up2_row _ _ _ _ (by decide), g0 72 (by decide) (by decide), g0 76 (by decide) (by decide)]
  clear hF2 l2
  have A : ∀ i, i ≠ 1 → i ≠ 2 → i ≠ 71 → i ≠ 72 → F2 i = F i := fun i h1 h2 h3 h4 => by rw [k0 i h3 h4, g0 i h1 h2]
  refine ⟨F2, G, ?_, ?_⟩
  · unfold q_take
    simp only [xcl_0, xcl_71, e1, e2, Option.bind_some]
    rfl
  · obtain ⟨h1, h2, -, ⟨c, h4⟩, h5, h6, ⟨w, h7⟩, -, ⟨f, h9⟩, h10⟩ := h
    have hq4' := hq4
    refine ⟨h1.ag ⟨by simp [A, k1], by simp⟩, h2.ag ⟨by simp [A, k1], by simp⟩, ⟨q, hq1, by rw [k0 1 (by decide) (by decide), g1], k2, fun j hj => ?_⟩, ⟨c, h4.ag ⟨by simp [A, k1], by simp [A]⟩⟩, h5.ag ⟨by simp [A, k1], by simp [A]⟩, h6.ag ⟨by simp [A, k1], by simp [A]⟩, ⟨w, h7.ag ⟨by simp [A, k1], by simp [A]⟩⟩, ⟨q, ⟨hq1, by rw [A 14 (by decide) (by decide) (by decide) (by decide)]; exact hq2, by rw [k1 12 (by decide) (by decide)]; exact hq3, fun j hj => by rw [A 15 (by decide) (by decide) (by decide) (by decide), A 76 (by decide) (by decide) (by decide) (by decide)]; exact hq4' j hj⟩⟩, ⟨f, h9.ag (by simp [A]) (by simp [k1]) (fun k h1 h2 => A k (by omega) (by omega) (by omega) (by omega)) (fun k h1 h2 => A k (by omega) (by omega) (by omega) (by omega))⟩, h10.ag ⟨by simp, by simp [A]⟩⟩
    rw [k0 2 (by decide) (by decide), g2, k3]
    simp only [rowAdd]
    rw [if_pos (by omega), if_pos (by omega)]
    exact hq4' j hj
end SK
