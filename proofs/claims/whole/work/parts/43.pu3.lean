theorem RI.code {b : Nat} {F : xF} {v : Int32} (h : RI b F) : RI b (up2 F 71 3 v) := by
  obtain ⟨h1, h2, ⟨r, h3⟩, ⟨c, h4⟩, h5, h6, ⟨w, h7⟩, ⟨q, h8⟩, ⟨f, h9⟩, h10⟩ := h
  exact ⟨h1.ag ⟨by simp [up2, upR], by simp [up2_row, upR]⟩, h2.ag ⟨by simp [up2, upR], by simp [up2_row, upR]⟩, ⟨r, h3.ag ⟨by simp [up2, upR], by simp [up2_row, upR]⟩⟩, ⟨c, h4.ag ⟨by simp [up2, upR], by simp [up2_row, upR]⟩⟩, h5.ag ⟨by simp [up2, upR], by simp [up2_row, upR]⟩, h6.ag ⟨by simp [up2, upR], by simp [up2_row, upR]⟩, ⟨w, h7.ag ⟨by simp [up2, upR], by simp [up2_row, upR]⟩⟩, ⟨q, h8.ag ⟨by simp [up2, upR], by simp [up2_row, upR]⟩⟩, ⟨f, h9.ag (by simp [up2]) (by simp [up2]) (fun k h1 h2 => by funext j; simp only [up2, upR]; repeat rw [if_neg (by omega)]) (fun k h1 h2 => by funext j; simp only [up2, upR]; repeat rw [if_neg (by omega)])⟩, h10.ag ⟨by simp [up2, upR], by simp [up2_row, upR]⟩⟩
theorem up2_up2 {α : Type} (F : Nat → Nat → α) (a k : Nat) (v w : α) : up2 (up2 F a k v) a k w = up2 F a k w := by
  funext i j; simp only [up2]; split <;> (try split) <;> rfl
section SI
variable {b n N : Nat} {F : xF} {G : xL} {p1 p2 p3 : Int32}
theorem s_rule (h : RI b F) : ∃ F2 G2, q_rule (SS n) N 0 71 95 p1 F G = some (1, F2, G2) ∧ RI b F2 := by
  by_cases c1 : p1 < 0
  · have e1 : f_PF_rule (SS n) 0 p1 F = some (1, 0, F) := by unfold f_PF_rule; rw [if_pos c1]
    have e2 : f_Mo_rule (SS n) 71 p1 F = some (0, up2 F 71 3 1) := by
      unfold f_Mo_rule; rw [if_pos c1]; simp only [pI_71_3, Option.bind_some, gI_71_3, up2_eq]; rfl
    obtain ⟨G2, e3⟩ := w_rule (N := N) (G := G) e1 e2 (up2_eq F 71 3 1) (Or.inr ⟨rfl, rfl⟩)
    exact ⟨_, G2, e3, h.code⟩
  · by_cases c2 : p1 ≤ 2
    · obtain ⟨k, rfl, hk1, hk2⟩ := nI_rng (lo := 0) (hi := 2) c1 c2 (by decide) (by decide)
      have e1 : f_PF_rule (SS n) 0 (nI k) F = some (0, F 0 6, up2 F 0 6 (nI k)) := by
        unfold f_PF_rule; rw [if_neg c1, if_pos c2]; simp only [pI_0_6, Option.bind_some, gI_0_6]
      have e2 : f_Mo_rule (SS n) 71 (nI k) (up2 F 0 6 (nI k)) = some (F 71 4, up2 (up2 (up2 F 0 6 (nI k)) 71 3 0) 71 4 (nI k)) := by
        unfold f_Mo_rule; rw [if_neg c1, if_pos c2]; simp only [pI_71_3, Option.bind_some, gI_71_3, up2_eq, gI_71_4, pI_71_4]
        rfl
      obtain ⟨j, hj1, hj2, hj3⟩ := h.ru
      obtain ⟨G2, e3⟩ := w_rule (N := N) (G := G) e1 e2 (t := 0) (by simp [up2]) (Or.inl ⟨rfl, rfl, by rw [hj2, hj3]⟩)
      refine ⟨_, G2, e3, ?_⟩
      obtain ⟨h1, h2, ⟨r, h3⟩, ⟨c, h4⟩, h5, h6, ⟨w, h7⟩, ⟨q, h8⟩, ⟨f, h9⟩, h10⟩ := h
      exact ⟨h1.ag ⟨by simp [up2, upR], by simp [up2_row, upR]⟩, ⟨k, hk2, by simp [up2], by simp [up2]⟩, ⟨r, h3.ag ⟨by simp [up2, upR], by simp [up2_row, upR]⟩⟩, ⟨c, h4.ag ⟨by simp [up2, upR], by simp [up2_row, upR]⟩⟩, h5.ag ⟨by simp [up2, upR], by simp [up2_row, upR]⟩, h6.ag ⟨by simp [up2, upR], by simp [up2_row, upR]⟩, ⟨w, h7.ag ⟨by simp [up2, upR], by simp [up2_row, upR]⟩⟩, ⟨q, h8.ag ⟨by simp [up2, upR], by simp [up2_row, upR]⟩⟩, ⟨f, h9.ag (by simp [up2]) (by simp [up2]) (fun k h1 h2 => by funext j; simp only [up2, upR]; repeat rw [if_neg (by omega)]) (fun k h1 h2 => by funext j; simp only [up2, upR]; repeat rw [if_neg (by omega)])⟩, h10.ag ⟨by simp [up2, upR], by simp [up2_row, upR]⟩⟩
    · have e1 : f_PF_rule (SS n) 0 p1 F = some (1, 0, F) := by unfold f_PF_rule; rw [if_neg c1, if_neg c2]
      have e2 : f_Mo_rule (SS n) 71 p1 F = some (0, up2 F 71 3 1) := by
        unfold f_Mo_rule; rw [if_neg c1, if_neg c2]; simp only [pI_71_3, Option.bind_some, gI_71_3, up2_eq]; rfl
      obtain ⟨G2, e3⟩ := w_rule (N := N) (G := G) e1 e2 (up2_eq F 71 3 1) (Or.inr ⟨rfl, rfl⟩)
      exact ⟨_, G2, e3, h.code⟩
theorem s_byteAt (h : RI b F) : ∃ F2 G2, q_byteAt (SS n) N 0 71 95 p1 F G = some (1, F2, G2) ∧ RI b F2 := by
  obtain ⟨c, hc1, hc2, hc3, hc4⟩ := h.co
  have h0 : (0 : Int32).toInt = 0 := by decide
  by_cases cc : 0 ≤ p1.toInt ∧ p1.toInt < c
  · obtain ⟨k, rfl, hk, hk2⟩ := nI_ex cc.1
    have hkc : k < c := by omega
    obtain ⟨s, hs1, hs2, hs3⟩ := hc4 k hkc
    have e1 : f_PF_byteAt (SS n) 0 (nI k) F = some (0, nI s, F) := by
      unfold f_PF_byteAt
      rw [gR_0_3, Option.bind_some, gR_5_4, Option.bind_some, xcl_6, Nu_has_of (Nu6 n) hc2 (by omega), Option.bind_some, if_pos cc, if_neg (by decide), Nu_get_of (Nu6 n) hc2 (by omega) hkc, Option.bind_some, hs2]
    have d1 : ¬ nI k < 0 := by rw [Int32.lt_iff_toInt_lt]; omega
    have d2 : nI k < nI c := by rw [nI_lt_iff hk (by omega)]; exact hkc
    have e2 : f_Mo_byteAt (SS n) 71 (nI k) F = some (nI s, up2 F 71 3 0) := by
      unfold f_Mo_byteAt
      rw [if_neg d1]
      simp only [gI_71_7, Option.bind_some, hc3, if_pos d2, pI_71_3, gI_71_3, up2_eq]
      rw [if_pos (by decide)]
      rw [gR_71_8, Option.bind_some, bG_nI sh_73 (by omega) (by decide), Option.bind_some, up2_ne F 71 3 0 (Or.inl (by decide)), hs3, by255 hs1]
    obtain ⟨G2, e3⟩ := w_byteAt (N := N) (G := G) e1 e2 (up2_eq F 71 3 0) (Or.inl ⟨rfl, rfl, rfl⟩)
    exact ⟨_, G2, e3, h.code⟩
  · have e1 : f_PF_byteAt (SS n) 0 p1 F = some (3, 0, F) := by
      unfold f_PF_byteAt
      rw [gR_0_3, Option.bind_some, gR_5_4, Option.bind_some, xcl_6, Nu_has_of (Nu6 n) hc2 (by omega), Option.bind_some, if_neg cc, if_pos rfl]
    have e2 : f_Mo_byteAt (SS n) 71 p1 F = some (0, up2 F 71 3 1) := by
      unfold f_Mo_byteAt
      by_cases c1 : p1 < 0
      · rw [if_pos c1]; simp only [pI_71_3, Option.bind_some, gI_71_3, up2_eq]; rfl
      · rw [if_neg c1]
        have d2 : ¬ p1 < nI c := by
          rw [Int32.lt_iff_toInt_lt] at c1 ⊢
          rw [nI_toInt (by omega)]
          omega
        simp only [gI_71_7, Option.bind_some, hc3, if_neg d2, pI_71_3, gI_71_3, up2_eq]; rfl
    obtain ⟨G2, e3⟩ := w_byteAt (N := N) (G := G) e1 e2 (up2_eq F 71 3 1) (Or.inr ⟨rfl, rfl⟩)
    exact ⟨_, G2, e3, h.code⟩
theorem s_at (h : RI b F) : ∃ F2 G2, q_at (SS n) N 0 71 95 p1 F G = some (1, F2, G2) ∧ RI b F2 := by
  obtain ⟨c, hc1, hc2, hc3, hc4⟩ := h.re
  have h0 : (0 : Int32).toInt = 0 := by decide
  by_cases cc : 0 ≤ p1.toInt ∧ p1.toInt < c
  · obtain ⟨k, rfl, hk, hk2⟩ := nI_ex cc.1
    have hkc : k < c := by omega
    obtain ⟨s, hs1, hs2, hs3⟩ := hc4 k hkc
    have e1 : f_PF_at (SS n) 0 (nI k) F = some (0, nI s, F) := by
      unfold f_PF_at
      rw [gR_0_4, Option.bind_some, gR_13_3, Option.bind_some, xcl_14, Nu_has_of (Nu14 n) hc2 (by omega), Option.bind_some, if_pos cc, if_neg (by decide), Nu_get_of (Nu14 n) hc2 (by omega) hkc, Option.bind_some, hs2]
    have d1 : ¬ nI k < 0 := by rw [Int32.lt_iff_toInt_lt]; omega
    have d2 : nI k < nI c := by rw [nI_lt_iff hk (by omega)]; exact hkc
    have e2 : f_Mo_at (SS n) 71 (nI k) F = some (nI s, up2 F 71 3 0) := by
      unfold f_Mo_at
      rw [if_neg d1]
      simp only [gI_71_12, Option.bind_some, hc3, if_pos d2, pI_71_3, gI_71_3, up2_eq]
      rw [if_pos (by decide)]
      rw [gR_71_13, Option.bind_some, aG_nI sh_76 (by omega) (by decide), Option.bind_some, up2_ne F 71 3 0 (Or.inl (by decide)), hs3]
    obtain ⟨G2, e3⟩ := w_at (N := N) (G := G) e1 e2 (up2_eq F 71 3 0) (Or.inl ⟨rfl, rfl, rfl⟩)
    exact ⟨_, G2, e3, h.code⟩
  · have e1 : f_PF_at (SS n) 0 p1 F = some (3, 0, F) := by
      unfold f_PF_at
      rw [gR_0_4, Option.bind_some, gR_13_3, Option.bind_some, xcl_14, Nu_has_of (Nu14 n) hc2 (by omega), Option.bind_some, if_neg cc, if_pos rfl]
    have e2 : f_Mo_at (SS n) 71 p1 F = some (0, up2 F 71 3 1) := by
      unfold f_Mo_at
      by_cases c1 : p1 < 0
      · rw [if_pos c1]; simp only [pI_71_3, Option.bind_some, gI_71_3, up2_eq]; rfl
      · rw [if_neg c1]
        have d2 : ¬ p1 < nI c := by
          rw [Int32.lt_iff_toInt_lt] at c1 ⊢
          rw [nI_toInt (by omega)]
          omega
        simp only [gI_71_12, Option.bind_some, hc3, if_neg d2, pI_71_3, gI_71_3, up2_eq]; rfl
    obtain ⟨G2, e3⟩ := w_at (N := N) (G := G) e1 e2 (up2_eq F 71 3 1) (Or.inr ⟨rfl, rfl⟩)
    exact ⟨_, G2, e3, h.code⟩
theorem s_coded (h : RI b F) : ∃ F2 G2, q_coded (SS n) N 0 71 95 p1 F G = some (1, F2, G2) ∧ RI b F2 := by
  obtain ⟨t0, t1, t2, t3⟩ := h.to
  refine ⟨up2 F 71 3 0, G, ?_, h.code⟩
  have hz : ∀ k, up2 F 71 3 0 74 k = F 74 k := fun k => up2_ne F 71 3 0 (Or.inl (by decide))
  have n0 : ∀ k : Nat, k < 4 → ¬ nI k < 0 := by decide
  have n3 : ∀ k : Nat, k < 4 → nI k ≤ 3 := by decide
  have ag : ∀ k : Nat, k < 4 → aG (SS n) 74 (nI k) (up2 F 71 3 0) = some (F 74 k) := fun k hk => by rw [aG_nI sh_74 hk (by decide), hz]
  have key : ∀ k : Nat, k < 4 → f_Mo_coded (SS n) 71 (nI k) F = some (F 74 k, up2 F 71 3 0) := fun k hk => by
    unfold f_Mo_coded
    simp only [pI_71_3, Option.bind_some, if_neg (n0 k hk), if_pos (n3 k hk), gR_71_9, ag k hk]
  unfold q_coded
  rw [xcl_0, xcl_71]
  by_cases c0 : p1 = 0
  · have e1 : f_PF_coded (SS n) 0 p1 F = some (F 5 5) := by unfold f_PF_coded; rw [if_pos c0]; rfl
    subst c0
    rw [e1, Option.bind_some, show (0 : Int32) = nI 0 from rfl, key 0 (by decide), Option.bind_some, if_pos t0.symm]
    rfl
  by_cases c1 : p1 = 1
  · have e1 : f_PF_coded (SS n) 0 p1 F = some (F 5 6) := by unfold f_PF_coded; rw [if_neg c0, if_pos c1]; rfl
    subst c1
    rw [e1, Option.bind_some, show (1 : Int32) = nI 1 from rfl, key 1 (by decide), Option.bind_some, if_pos t1.symm]
  by_cases c2 : p1 = 2
  · have e1 : f_PF_coded (SS n) 0 p1 F = some (F 5 7) := by unfold f_PF_coded; rw [if_neg c0, if_neg c1, if_pos c2]; rfl
    subst c2
    rw [e1, Option.bind_some, show (2 : Int32) = nI 2 from rfl, key 2 (by decide), Option.bind_some, if_pos t2.symm]
  by_cases c3 : p1 = 3
  · have e1 : f_PF_coded (SS n) 0 p1 F = some (F 9 4 - F 9 0) := by unfold f_PF_coded; rw [if_neg c0, if_neg c1, if_neg c2, if_pos c3]; rfl
    subst c3
    rw [e1, Option.bind_some, show (3 : Int32) = nI 3 from rfl, key 3 (by decide), Option.bind_some, if_pos t3.symm]
  have e1 : f_PF_coded (SS n) 0 p1 F = some (-1) := by unfold f_PF_coded; rw [if_neg c0, if_neg c1, if_neg c2, if_neg c3]
  have e2 : f_Mo_coded (SS n) 71 p1 F = some (-1, up2 F 71 3 0) := by
    unfold f_Mo_coded
    simp only [pI_71_3, Option.bind_some]
    by_cases d1 : p1 < 0
    · rw [if_pos d1]
    · rw [if_neg d1]
      by_cases d2 : p1 ≤ 3
      · obtain ⟨k, rfl, hk1, hk2⟩ := nI_rng (lo := 0) (hi := 3) d1 d2 (by decide) (by decide)
        rcases (show k = 0 ∨ k = 1 ∨ k = 2 ∨ k = 3 by omega) with rfl | rfl | rfl | rfl
        · exact absurd rfl c0
        · exact absurd rfl c1
        · exact absurd rfl c2
        · exact absurd rfl c3
      · rw [if_neg d2]
  rw [e1, Option.bind_some, e2, Option.bind_some, if_pos rfl]
theorem s_told (h : RI b F) : ∃ F2 G2, q_told (SS n) N 0 71 95 p1 F G = some (1, F2, G2) ∧ RI b F2 := by
  obtain ⟨r, -, hr1, hr2, -⟩ := h.ro
  obtain ⟨w, -, hw1, hw2, -⟩ := h.wa
  obtain ⟨q, -, hq1, hq2, -⟩ := h.re
  obtain ⟨f, -, hf1, hf2, -⟩ := h.fr
  have hfx := h.fx
  refine ⟨up2 F 71 3 0, G, ?_, h.code⟩
  have hz : ∀ k, k ≠ 3 → up2 F 71 3 0 71 k = F 71 k := fun k hk => up2_ne F 71 3 0 (Or.inr hk)
  unfold q_told f_PF_told f_Mo_told
  simp only [xcl_0, xcl_71, pI_71_3, Option.bind_some, gI_0_0, gI_71_0, gR_0_1, gR_0_2, gR_0_4, gR_0_5, gR_13_3, gI_1_1, gI_3_1, gI_14_1, gI_19_2, gI_71_5, gI_71_10, gI_71_12, gI_71_23, hz 0 (by decide), hz 5 (by decide), hz 10 (by decide), hz 12 (by decide), hz 23 (by decide), hr1, hr2, hw1, hw2, hq1, hq2, hf1, hf2, hfx.a, hfx.m0]
  by_cases c0 : p1 = 0
  · simp only [if_pos c0, Option.bind_some]; rfl
  by_cases c1 : p1 = 1
  · simp only [if_neg c0, if_pos c1, Option.bind_some]; rfl
  by_cases c2 : p1 = 2
  · simp only [if_neg c0, if_neg c1, if_pos c2, Option.bind_some]; rfl
  by_cases c3 : p1 = 3
  · simp only [if_neg c0, if_neg c1, if_neg c2, if_pos c3, Option.bind_some]; rfl
  by_cases c4 : p1 = 4
  · simp only [if_neg c0, if_neg c1, if_neg c2, if_neg c3, if_pos c4, Option.bind_some]; rfl
  simp only [if_neg c0, if_neg c1, if_neg c2, if_neg c3, if_neg c4, Option.bind_some]; rfl
theorem pn_eq {k : Nat} (hk : k < 2147483648) (F F' : xF) : f_Mo_passNumber (SS n) (nI k) F' = f_Fr_passNumber (SS n) (nI k) F := by
  unfold f_Mo_passNumber f_Fr_passNumber
  have e8 : nI k - nI k / (8 : Int32) * (8 : Int32) = nI (k % 8) := by
    rw [show (8 : Int32) = nI 8 from rfl, nI_div hk (by decide), nI_mul, nI_sub (Nat.div_mul_le_self k 8)]
    congr 1; omega
  have e4 : nI k - nI k / (4 : Int32) * (4 : Int32) = nI (k % 4) := by
    rw [show (4 : Int32) = nI 4 from rfl, nI_div hk (by decide), nI_mul, nI_sub (Nat.div_mul_le_self k 4)]
    congr 1; omega
  have a1 : nI k &&& (1 : Int32) = nI (k % 8 % 2) := by
    rw [show (1 : Int32) = nI 1 from rfl, nI_and (by omega) (by decide), and1]; congr 1; omega
  have a2 : nI k &&& (2 : Int32) = nI (k % 8 &&& 2) := by
    rw [show (2 : Int32) = nI 2 from rfl, nI_and (by omega) (by decide)]; congr 1
    rw [← Nat.and_two_pow_sub_one_eq_mod k 3, Nat.and_assoc]; rfl
  have a4 : nI k &&& (4 : Int32) = nI (k % 8 &&& 4) := by
    rw [show (4 : Int32) = nI 4 from rfl, nI_and (by omega) (by decide)]; congr 1
    rw [← Nat.and_two_pow_sub_one_eq_mod k 3, Nat.and_assoc]; rfl
  rw [e8, e4, a1, a2, a4, show k % 4 = k % 8 % 4 by omega]
  have : ∀ j : Nat, j < 8 → (if (8 : Int32) = (0 : Int32) then (none : Option Int32) else if nI j = (0 : Int32) then some (0 : Int32) else if (8 : Int32) = (0 : Int32) then none else if nI j = (4 : Int32) then some (1 : Int32) else if (4 : Int32) = (0 : Int32) then none else if nI (j % 4) = (2 : Int32) then some (2 : Int32) else some (3 : Int32)) = if nI (j % 2) = (0 : Int32) then if nI (j &&& 2) = (0 : Int32) then if nI (j &&& 4) = (0 : Int32) then some (0 : Int32) else some (1 : Int32) else some (2 : Int32) else some (3 : Int32) := by decide +kernel
  exact this (k % 8) (Nat.mod_lt _ (by decide))
theorem pn_some (p : Int32) : ∃ v, f_Fr_passNumber (SS n) p F = some v := by
  unfold f_Fr_passNumber
  split
  · split
    · split <;> exact ⟨_, rfl⟩
    · exact ⟨_, rfl⟩
  · exact ⟨_, rfl⟩
theorem s_passOf (h : RI b F) : ∃ F2 G2, q_passOf (SS n) N 0 71 95 p1 F G = some (1, F2, G2) ∧ RI b F2 := by
  by_cases c1 : 0 ≤ p1
  · have c2 : 0 ≤ p1.toInt := by
      rw [Int32.le_iff_toInt_le] at c1
      exact c1
    obtain ⟨k, rfl, hk, -⟩ := nI_ex c2
    obtain ⟨v, hv⟩ := pn_some (n := n) (F := F) (nI k)
    have e1 : f_PF_passOf (SS n) 0 (nI k) F = some (0, v, F) := by
      unfold f_PF_passOf; rw [if_pos c1, hv]; rfl
    have e2 : f_Mo_passOf (SS n) 71 (nI k) F = some (v, up2 F 71 3 0) := by
      unfold f_Mo_passOf; rw [if_pos c1]
      simp only [pI_71_3, Option.bind_some, gI_71_3, up2_eq]
      rw [if_pos (by decide), pn_eq hk F, hv]; rfl
    obtain ⟨G2, e3⟩ := w_passOf (N := N) (G := G) e1 e2 (up2_eq F 71 3 0) (Or.inl ⟨rfl, rfl, rfl⟩)
    exact ⟨_, G2, e3, h.code⟩
  · have e1 : f_PF_passOf (SS n) 0 p1 F = some (1, 0, F) := by unfold f_PF_passOf; rw [if_neg c1]
    have e2 : f_Mo_passOf (SS n) 71 p1 F = some (0, up2 F 71 3 1) := by
      unfold f_Mo_passOf; rw [if_neg c1]
      simp only [pI_71_3, Option.bind_some, gI_71_3, up2_eq]
      rfl
    obtain ⟨G2, e3⟩ := w_passOf (N := N) (G := G) e1 e2 (up2_eq F 71 3 1) (Or.inr ⟨rfl, rfl⟩)
    exact ⟨_, G2, e3, h.code⟩
end SI
