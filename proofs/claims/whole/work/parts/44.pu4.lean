section SJ
variable {b n N : Nat} {F : xF} {G : xL} {p1 p2 p3 : Int32}
theorem s_feed (h : RI b F) : ∃ F2 G2, q_feed (SS n) N 0 71 95 p1 F G = some (1, F2, G2) ∧ RI b F2 := by
  obtain ⟨w, hw1, hw2, hw3, hw4⟩ := h.wa
  have thr1 : f_PF_feed (SS n) 0 p1 F = some (1, 0, F) → f_Mo_feed (SS n) 71 p1 F = some (0, up2 F 71 3 1) → ∃ F2 G2, q_feed (SS n) N 0 71 95 p1 F G = some (1, F2, G2) ∧ RI b F2 := fun e1 e2 => by
    obtain ⟨G2, e3⟩ := w_feed (N := N) (G := G) e1 e2 (up2_eq F 71 3 1) (Or.inr (Or.inl ⟨rfl, rfl⟩))
    exact ⟨_, G2, e3, h.code⟩
  by_cases c1 : p1 < 0
  · refine thr1 (by unfold f_PF_feed; rw [if_pos c1]) ?_
    unfold f_Mo_feed; rw [if_pos c1]; simp only [pI_71_3, Option.bind_some, gI_71_3, up2_eq]; rfl
  by_cases c2 : p1 ≤ 255
  · obtain ⟨k, rfl, -, hk⟩ := nI_rng (lo := 0) (hi := 255) c1 c2 (by decide) (by decide)
    have hroom : f_Nu_room (SS n) 3 F = some (nI (24000 - w)) := Nu_room_of (Nu3 n) hw2 hw1
    by_cases c3 : w = 24000
    · subst c3
      have e1 : f_PF_feed (SS n) 0 (nI k) F = some (2, 0, F) := by
        unfold f_PF_feed; rw [if_neg c1, if_pos c2]
        simp only [gR_0_2, Option.bind_some, xcl_3, hroom]
        rfl
      have e2 : f_Mo_feed (SS n) 71 (nI k) F = some (0, up2 F 71 3 2) := by
        unfold f_Mo_feed; rw [if_neg c1, if_pos c2]
        simp only [gI_71_10, hw3, Option.bind_some, pI_71_3, gI_71_3, up2_eq]
        rfl
      obtain ⟨G2, e3⟩ := w_feed (N := N) (G := G) e1 e2 (up2_eq F 71 3 2) (Or.inr (Or.inr ⟨rfl, rfl⟩))
      exact ⟨_, G2, e3, h.code⟩
    · have d1 : (1 : Int32) ≤ nI (24000 - w) := by rw [show (1 : Int32) = nI 1 from rfl, nI_le_iff (by decide) (by omega)]; omega
      have d2 : ¬ nI w = 24000 := by rw [show (24000 : Int32) = nI 24000 from rfl, nI_eq_iff (by omega) (by decide)]; exact c3
      have e1 : f_PF_feed (SS n) 0 (nI k) F = some (0, nI (w + 1), up2 (up2 F 4 w (nI k)) 3 1 (nI (w + 1))) := by
        unfold f_PF_feed; rw [if_neg c1, if_pos c2]
        simp only [gR_0_2, Option.bind_some, xcl_3, hroom, if_pos d1, Nu_add_of (v := nI k) (Nu3 n) hw2 (show w < 24000 by omega), gI_3_1, up2_eq]
      obtain ⟨F1, hF1⟩ : ∃ F1, F1 = up2 (up2 F 4 w (nI k)) 3 1 (nI (w + 1)) := ⟨_, rfl⟩
      have g1 : F1 71 10 = nI w := by rw [hF1, ← hw3]; simp [up2]
      have e2 : f_Mo_feed (SS n) 71 (nI k) F1 = some (nI (w + 1), up2 (up2 (up2 F1 71 3 0) 75 w (vp_nar .byte (nI k))) 71 10 (nI (w + 1))) := by
        unfold f_Mo_feed; rw [if_neg c1, if_pos c2]
        have z1 : up2 F1 71 3 0 71 10 = nI w := by rw [← g1]; simp [up2]
        have z2 : ∀ v, up2 (up2 F1 71 3 0) 75 w v 71 10 = nI w := fun v => by rw [← g1]; simp [up2]
        simp only [gI_71_10, g1, Option.bind_some, if_neg d2, pI_71_3, gI_71_3, up2_eq, gR_71_11, z1, bP_nI sh_75 (show w < 24000 by omega) (show 24000 ≤ 100000 by decide), z2, pI_71_10, byi8 (show k < 256 by omega), nI_1]
        rfl
      rw [← hF1] at e1
      obtain ⟨G2, e3⟩ := w_feed (N := N) (G := G) e1 e2 (t := 0) (by simp [up2]) (Or.inl ⟨rfl, rfl, rfl⟩)
      refine ⟨_, G2, e3, ?_⟩
      subst hF1
      have hw4' := hw4
      obtain ⟨h1, h2, ⟨r, h3⟩, ⟨c, h4⟩, h5, h6, -, ⟨q, h8⟩, ⟨f, h9⟩, h10⟩ := h
      refine ⟨h1.ag ⟨by simp [up2, upR], by simp [up2_row, upR]⟩, h2.ag ⟨by simp [up2, upR], by simp [up2_row, upR]⟩, ⟨r, h3.ag ⟨by simp [up2, upR], by simp [up2_row, upR]⟩⟩, ⟨c, h4.ag ⟨by simp [up2, upR], by simp [up2_row, upR]⟩⟩, h5.ag ⟨by simp [up2, upR], by simp [up2_row, upR]⟩, h6.ag ⟨by simp [up2, upR], by simp [up2_row, upR]⟩, ⟨w + 1, by omega, by simp [up2], by simp [up2], fun j hj => ?_⟩, ⟨q, h8.ag ⟨by simp [up2, upR], by simp [up2_row, upR]⟩⟩, ⟨f, h9.ag (by simp [up2]) (by simp [up2]) (fun k h1 h2 => by funext j; simp only [up2, upR]; repeat rw [if_neg (by omega)]) (fun k h1 h2 => by funext j; simp only [up2, upR]; repeat rw [if_neg (by omega)])⟩, h10.ag ⟨by simp [up2, upR], by simp [up2_row, upR]⟩⟩
      by_cases hjw : j = w
      · subst hjw
        exact ⟨k, by omega, by simp [up2], by simp [up2]⟩
      · obtain ⟨s, s1, s2, s3⟩ := hw4' j (by omega)
        exact ⟨s, s1, by simp [up2, hjw, s2], by simp [up2, hjw, s3]⟩
  · refine thr1 (by unfold f_PF_feed; rw [if_neg c1, if_neg c2]) ?_
    unfold f_Mo_feed; rw [if_neg c1, if_neg c2]; simp only [pI_71_3, Option.bind_some, gI_71_3, up2_eq]; rfl
/-- the numbers that put adds -/
def pv (v st : Int32) : Nat → Int32
  | 0 => v
  | k + 1 => pv v st k + st
/-- the row with m numbers more behind its first r -/
def rowAdd (f : Nat → Int32) (r m : Nat) (g : Nat → Int32) : Nat → Int32 := fun j => if r ≤ j ∧ j < r + m then g (j - r) else f j
theorem rowAdd_succ (f : Nat → Int32) (r m : Nat) (g : Nat → Int32) : (fun j => if j = r + m then g m else rowAdd f r m g j) = rowAdd f r (m + 1) g := by
  funext j
  simp only [rowAdd]
  by_cases h : j = r + m
  · subst h
    rw [if_pos rfl, if_pos (by omega)]
    congr 1; omega
  · rw [if_neg h]
    by_cases h2 : r ≤ j ∧ j < r + m
    · rw [if_pos h2, if_pos (by omega)]
    · rw [if_neg h2, if_neg (by omega)]
theorem rowAdd_zero (f : Nat → Int32) (r : Nat) (g : Nat → Int32) : rowAdd f r 0 g = f := by
  funext j; simp only [rowAdd]; rw [if_neg (by omega)]
/-- what adding to a row of numbers does to the world -/
def nuAdd (F : xF) (a r m : Nat) (g : Nat → Int32) : xF := upR (up2 F a 1 (nI (r + m))) (a + 1) (rowAdd (F (a + 1)) r m g)
theorem nuAdd_zero (F : xF) (a r : Nat) (g : Nat → Int32) (h : F a 1 = nI r) : nuAdd F a r 0 g = F := by
  funext i j
  simp only [nuAdd, upR, rowAdd_zero]
  by_cases h1 : i = a + 1
  · rw [if_pos h1, h1]
  · rw [if_neg h1]
    by_cases h2 : i = a
    · subst h2
      by_cases h3 : j = 1
      · subst h3; rw [up2_eq, Nat.add_zero, h]
      · rw [up2_ne _ _ _ _ (Or.inr h3)]
    · rw [up2_ne _ _ _ _ (Or.inl h2)]
theorem nuAdd_sz (F : xF) (a r m : Nat) (g : Nat → Int32) : nuAdd F a r m g a 1 = nI (r + m) := by
  simp only [nuAdd, upR]; rw [if_neg (by omega), up2_eq]
theorem nuAdd_it (F : xF) (a r m : Nat) (g : Nat → Int32) : nuAdd F a r m g (a + 1) = rowAdd (F (a + 1)) r m g := by
  simp only [nuAdd, upR]; rw [if_pos trivial]
theorem nuAdd_ne (F : xF) (a r m : Nat) (g : Nat → Int32) {i : Nat} (h1 : i ≠ a) (h2 : i ≠ a + 1) : nuAdd F a r m g i = F i := by
  funext j
  simp only [nuAdd, upR]; rw [if_neg h2, up2_ne _ _ _ _ (Or.inl h1)]
theorem nuAdd_succ (F : xF) (a r m : Nat) (g : Nat → Int32) : up2 (up2 (nuAdd F a r m g) (a + 1) (r + m) (g m)) a 1 (nI (r + m + 1)) = nuAdd F a r (m + 1) g := by
  funext i j
  by_cases h1 : i = a + 1
  · subst h1
    rw [up2_ne _ _ _ _ (Or.inl (by omega)), nuAdd_it, ← rowAdd_succ]
    simp only [up2, nuAdd_it]
    rw [if_pos trivial]
  · by_cases h2 : i = a
    · subst h2
      by_cases h3 : j = 1
      · subst h3
        rw [up2_eq, nuAdd_sz]; rfl
      · rw [up2_ne _ _ _ _ (Or.inr h3), up2_ne _ _ _ _ (Or.inl h1)]
        simp only [nuAdd, upR]
        rw [if_neg h1, up2_ne _ _ _ _ (Or.inr h3), if_neg h1, up2_ne _ _ _ _ (Or.inr h3)]
    · rw [up2_ne _ _ _ _ (Or.inl h2), up2_ne _ _ _ _ (Or.inl h1), nuAdd_ne _ _ _ _ _ h2 h1, nuAdd_ne _ _ _ _ _ h2 h1]
theorem put_loop {r m : Nat} {M : Nat} (hM : M < 4294967296) (hr : F 1 1 = nI r) (hm : m ≤ 1000) (hl : r + m ≤ 12000) {v0 st u : Int32} : ∀ (d k fu : Nat), k + d = m → d < fu →
    t_PF_put (SS n) N 0 u st (nI m) fu (nI M) (pv v0 st k) (nI k) (nuAdd F 1 r k (fun j => pv v0 st j &&& nI M)) = some (nI (r + m), nuAdd F 1 r m (fun j => pv v0 st j &&& nI M)) := by
  intro d
  induction d with
  | zero =>
    intro k fu hk hf
    obtain ⟨fu, rfl⟩ : ∃ z, fu = z + 1 := ⟨fu - 1, by omega⟩
    have hkm : k = m := by omega
    subst hkm
    rw [t_PF_put, if_pos ((nI_le_iff (by omega) (by omega)).mpr (Nat.le_refl _))]
    simp only [gR_0_1, Option.bind_some, gI_1_1, nuAdd_sz]
  | succ d ih =>
    intro k fu hk hf
    obtain ⟨fu, rfl⟩ : ∃ z, fu = z + 1 := ⟨fu - 1, by omega⟩
    rw [t_PF_put, if_neg (by rw [nI_le_iff (by omega) (by omega)]; omega)]
    simp only [gR_0_1, Option.bind_some, xcl_1, Nu_add_of (Nu1 n) (nuAdd_sz F 1 r k (fun j => pv v0 st j &&& nI M)) (show r + k < 12000 by omega), nI_1]
    have e := nuAdd_succ F 1 r k (fun j => pv v0 st j &&& nI M)
    rw [e]
    exact ih (k + 1) fu (by omega) (by omega)
end SJ
