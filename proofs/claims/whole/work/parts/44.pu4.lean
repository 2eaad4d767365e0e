section SJ
variable {b n N : Nat} {F : xF} {G : xL} {p1 p2 p3 : Int32}
theorem s_feed (h : RI b F) : ∃ F2 G2, q_feed (SS n) N 0 71 95 p1 F G = some (1, F2, G2) ∧ RI b F2 := by
  obtain ⟨w, hw1, hw2, hw3, hw4⟩ := h.wa
  have thr1 : f_PF_feed (SS n) 0 p1 F = some (1, 0, F) → f_Mo_feed (SS n) 71 p1 F = some (0, up2 F 71 3 1) → ∃ F2 G2, q_feed (SS n) N 0 71 95 p1 F G = some (1, F2, G2) ∧ RI b F2 := fun e1 e2 => by
    obtain ⟨G2, e3⟩ := w_feed (N := N) (G := G) e1 e2 (up2_eq F 71 3 1) (Or.inr (Or.inl ⟨rfl, rfl⟩))
    exact ⟨_, G2, e3, h.code⟩
  by_cases c1 : p1 < 0
  · refine thr1 (by unfold f_PF_feed; rw [if_pos c1]) ?_
    unfold f_Mo_feed; rw [if_pos c1]; simp only [pI_71_3, Option.bind_some, gI_71_3, up2_eq]; rfl
  by_cases c2 : p1 ≤ 255
  · obtain ⟨k, rfl, -, hk⟩ := nI_rng (lo := 0) (hi := 255) c1 c2 (by decide) (by decide)
    have hroom : f_Nu_room (SS n) 3 F = some (nI (24000 - w)) := Nu_room_of (Nu3 n) hw2 hw1
    by_cases c3 : w = 24000
    · subst c3
      have e1 : f_PF_feed (SS n) 0 (nI k) F = some (2, 0, F) := by
        unfold f_PF_feed; rw [if_neg c1, if_pos c2]
        simp only [gR_0_2, Option.bind_some, xcl_3, hroom]
        rfl
      have e2 : f_Mo_feed (SS n) 71 (nI k) F = some (0, up2 F 71 3 2) := by
        unfold f_Mo_feed; rw [if_neg c1, if_pos c2]
        simp only [gI_71_10, hw3, Option.bind_some, pI_71_3, gI_71_3, up2_eq]
        rfl
      obtain ⟨G2, e3⟩ := w_feed (N := N) (G := G) e1 e2 (up2_eq F 71 3 2) (Or.inr (Or.inr ⟨rfl, rfl⟩))
      exact ⟨_, G2, e3, h.code⟩
    · have d1 : (1 : Int32) ≤ nI (24000 - w) := by rw [show (1 : Int32) = nI 1 from rfl, nI_le_iff (by decide) (by omega)]; omega
      have d2 : ¬ nI w = 24000 := by rw [show (24000 : Int32) = nI 24000 from rfl, nI_eq_iff (by omega) (by decide)]; exact c3
      have e1 : f_PF_feed (SS n) 0 (nI k) F = some (0, nI (w + 1), up2 (up2 F 4 w (nI k)) 3 1 (nI (w + 1))) := by
        unfold f_PF_feed; rw [if_neg c1, if_pos c2]
        simp only [gR_0_2, Option.bind_some, xcl_3, hroom, if_pos d1, Nu_add_of (v := nI k) (Nu3 n) hw2 (show w < 24000 by omega), gI_3_1, up2_eq]
      obtain ⟨F1, hF1⟩ : ∃ F1, F1 = up2 (up2 F 4 w (nI k)) 3 1 (nI (w + 1)) := ⟨_, rfl⟩
      have g1 : F1 71 10 = nI w := by rw [hF1, ← hw3]; simp [up2]
      have e2 : f_Mo_feed (SS n) 71 (nI k) F1 = some (nI (w + 1), up2 (up2 (up2 F1 71 3 0) 75 w (vp_nar .byte (nI k))) 71 10 (nI (w + 1))) := by
        unfold f_Mo_feed; rw [if_neg c1, if_pos c2]
        have z1 : up2 F1 71 3 0 71 10 = nI w := by rw [← g1]; simp [up2]
        have z2 : ∀ v, up2 (up2 F1 71 3 0) 75 w v 71 10 = nI w := fun v => by rw [← g1]; simp [up2]
        simp only [gI_71_10, g1, Option.bind_some, if_neg d2, pI_71_3, gI_71_3, up2_eq, gR_71_11, z1, bP_nI sh_75 (show w < 24000 by omega) (show 24000 ≤ 100000 by decide), z2, pI_71_10, byi8 (show k < 256 by omega), nI_1]
        rfl
      rw [← hF1] at e1
      obtain ⟨G2, e3⟩ := w_feed (N := N) (G := G) e1 e2 (t := 0) (by simp [up2]) (Or.inl ⟨rfl, rfl, rfl⟩)
      refine ⟨_, G2, e3, ?_⟩
      subst hF1
      have hw4' := hw4
      obtain ⟨h1, h2, ⟨r, h3⟩, ⟨c, h4⟩, h5, h6, -, ⟨q, h8⟩, ⟨f, h9⟩, h10⟩ := h
      refine ⟨h1.ag ⟨by simp [up2, upR], by simp [up2_row, upR]⟩, h2.ag ⟨by simp [up2, upR], by simp [up2_row, upR]⟩, ⟨r, h3.ag ⟨by simp [up2, upR], by simp [up2_row, upR]⟩⟩, ⟨c, h4.ag ⟨by simp [up2, upR], by simp [up2_row, upR]⟩⟩, h5.ag ⟨by simp [up2, upR], by simp [up2_row, upR]⟩, h6.ag ⟨by simp [up2, upR], by simp [up2_row, upR]⟩, ⟨w + 1, by omega, by simp [up2], by simp [up2], fun j hj => ?_⟩, ⟨q, h8.ag ⟨by simp [up2, upR], by simp [up2_row, upR]⟩⟩, ⟨f, h9.ag (by simp [up2]) (by simp [up2]) (fun k h1 h2 => by funext j; simp only [up2, upR]; repeat rw [if_neg (by omega)]) (fun k h1 h2 => by funext j; simp only [up2, upR]; repeat rw [if_neg (by omega)])⟩, h10.ag ⟨by simp [up2, upR], by simp [up2_row, upR]⟩⟩
      by_cases hjw : j = w
      · subst hjw
        exact ⟨k, by omega, by simp [up2], by simp [up2]⟩
      · obtain ⟨s, s1, s2, s3⟩ := hw4' j (by omega)
        exact ⟨s, s1, by simp [up2, hjw, s2], by simp [up2, hjw, s3]⟩
  · refine thr1 (by unfold f_PF_feed; rw [if_neg c1, if_neg c2]) ?_
    unfold f_Mo_feed; rw [if_neg c1, if_neg c2]; simp only [pI_71_3, Option.bind_some, gI_71_3, up2_eq]; rfl
/-- the numbers that put adds -/
def pv (v st : Int32) : Nat → Int32
  | 0 => v
  | k + 1 => pv v st k + st
/-- the row with m numbers more behind its first r -/
def rowAdd (f : Nat → Int32) (r m : Nat) (g : Nat → Int32) : Nat → Int32 := fun j => if r ≤ j ∧ j < r + m then g (j - r) else f j
theorem rowAdd_succ (f : Nat → Int32) (r m : Nat) (g : Nat → Int32) : (fun j => if j = r + m then g m else rowAdd f r m g j) = rowAdd f r (m + 1) g := by
  funext j
  simp only [rowAdd]
  by_cases h : j = r + m
  · subst h
    rw [if_pos rfl, if_pos (by omega)]
    congr 1; omega
  · rw [if_neg h]
    by_cases h2 : r ≤ j ∧ j < r + m
    · rw [if_pos h2, if_pos (by omega)]
    · rw [if_neg h2, if_neg (by omega)]
theorem rowAdd_zero (f : Nat → Int32) (r : Nat) (g : Nat → Int32) : rowAdd f r 0 g = f := by
  funext j; simp only [rowAdd]; rw [if_neg (by omega)]
/-- what adding m numbers to a row does to the world: the row is ar, its size the field kk of o -/
def gAdd (F : xF) (o kk ar r m : Nat) (g : Nat → Int32) : xF := upR (up2 F o kk (nI (r + m))) ar (rowAdd (F ar) r m g)
theorem gAdd_zero {F : xF} {o kk ar r : Nat} {g : Nat → Int32} (h : F o kk = nI r) : gAdd F o kk ar r 0 g = F := by
  funext i j
  simp only [gAdd, upR, rowAdd_zero]
  by_cases h1 : i = ar
  · rw [if_pos h1, h1]
  · rw [if_neg h1]
    by_cases h2 : i = o
    · subst h2
      by_cases h3 : j = kk
      · subst h3; rw [up2_eq, Nat.add_zero, h]
      · rw [up2_ne _ _ _ _ (Or.inr h3)]
    · rw [up2_ne _ _ _ _ (Or.inl h2)]
theorem gAdd_sz {F : xF} {o kk ar r m : Nat} {g : Nat → Int32} (hne : o ≠ ar) : gAdd F o kk ar r m g o kk = nI (r + m) := by
  simp only [gAdd, upR]; rw [if_neg hne, up2_eq]
theorem gAdd_oth {F : xF} {o kk ar r m : Nat} {g : Nat → Int32} (hne : o ≠ ar) {j : Nat} (hj : j ≠ kk) : gAdd F o kk ar r m g o j = F o j := by
  simp only [gAdd, upR]; rw [if_neg hne, up2_ne _ _ _ _ (Or.inr hj)]
theorem gAdd_it {F : xF} {o kk ar r m : Nat} {g : Nat → Int32} : gAdd F o kk ar r m g ar = rowAdd (F ar) r m g := by
  simp only [gAdd, upR]; rw [if_pos trivial]
theorem gAdd_ne {F : xF} {o kk ar r m : Nat} {g : Nat → Int32} {i : Nat} (h1 : i ≠ o) (h2 : i ≠ ar) : gAdd F o kk ar r m g i = F i := by
  funext j
  simp only [gAdd, upR]; rw [if_neg h2, up2_ne _ _ _ _ (Or.inl h1)]
theorem gAdd_succ {F : xF} {o kk ar r m : Nat} {g : Nat → Int32} (hne : o ≠ ar) : up2 (up2 (gAdd F o kk ar r m g) ar (r + m) (g m)) o kk (nI (r + m + 1)) = gAdd F o kk ar r (m + 1) g := by
  funext i j
  by_cases h1 : i = ar
  · subst h1
    rw [up2_ne _ _ _ _ (Or.inl (Ne.symm hne)), gAdd_it, ← rowAdd_succ]
    simp only [up2, gAdd_it]
    rw [if_pos trivial]
  · by_cases h2 : i = o
    · subst h2
      by_cases h3 : j = kk
      · subst h3
        rw [up2_eq, gAdd_sz hne]; rfl
      · rw [up2_ne _ _ _ _ (Or.inr h3), up2_ne _ _ _ _ (Or.inl h1), gAdd_oth hne h3, gAdd_oth hne h3]
    · rw [up2_ne _ _ _ _ (Or.inl h2), up2_ne _ _ _ _ (Or.inl h1), gAdd_ne h2 h1, gAdd_ne h2 h1]
theorem put_loop {r m M : Nat} (hm : m ≤ 1000) (hl : r + m ≤ 12000) {v0 st u : Int32} : ∀ (d k fu : Nat), k + d = m → d < fu →
    t_PF_put (SS n) N 0 u st (nI m) fu (nI M) (pv v0 st k) (nI k) (gAdd F 1 1 2 r k (fun j => pv v0 st j &&& nI M)) = some (nI (r + m), gAdd F 1 1 2 r m (fun j => pv v0 st j &&& nI M)) := by
  intro d
  induction d with
  | zero =>
    intro k fu hk hf
    obtain ⟨fu, rfl⟩ : ∃ z, fu = z + 1 := ⟨fu - 1, by omega⟩
    have hkm : k = m := by omega
    subst hkm
    rw [t_PF_put, if_pos ((nI_le_iff (by omega) (by omega)).mpr (Nat.le_refl _))]
    simp only [gR_0_1, Option.bind_some, gI_1_1, gAdd_sz (show 1 ≠ 2 by decide)]
  | succ d ih =>
    intro k fu hk hf
    obtain ⟨fu, rfl⟩ : ∃ z, fu = z + 1 := ⟨fu - 1, by omega⟩
    rw [t_PF_put, if_neg (by rw [nI_le_iff (by omega) (by omega)]; omega)]
    simp only [gR_0_1, Option.bind_some, xcl_1, Nu_add_of (Nu1 n) (gAdd_sz (F := F) (kk := 1) (r := r) (m := k) (g := fun j => pv v0 st j &&& nI M) (show 1 ≠ 2 by decide)) (show r + k < 12000 by omega), nI_1]
    have e := gAdd_succ (F := F) (o := 1) (kk := 1) (ar := 2) (r := r) (m := k) (g := fun j => pv v0 st j &&& nI M) (by decide)
    rw [e]
    exact ih (k + 1) fu (by omega) (by omega)
theorem mput_loop {r m M : Nat} (hM : 1 ≤ M) (h1 : F 71 1 = nI M) (hm : m ≤ 1000) (hl : r + m ≤ 12000) {v0 st u : Int32} : ∀ (d k fu : Nat), k + d = m → d < fu →
    t_Mo_put (SS n) N 71 u st (nI m) fu (pv v0 st k) (nI k) (gAdd F 71 5 72 r k (fun j => pv v0 st j &&& nI (M - 1))) = some (nI (r + m), gAdd F 71 5 72 r m (fun j => pv v0 st j &&& nI (M - 1))) := by
  have hs : nI M - 1 = nI (M - 1) := nI_sub hM
  intro d
  induction d with
  | zero =>
    intro k fu hk hf
    obtain ⟨fu, rfl⟩ : ∃ z, fu = z + 1 := ⟨fu - 1, by omega⟩
    have hkm : k = m := by omega
    subst hkm
    rw [t_Mo_put, if_pos ((nI_le_iff (by omega) (by omega)).mpr (Nat.le_refl _))]
    simp only [Option.bind_some, gI_71_5, gAdd_sz (show 71 ≠ 72 by decide)]
  | succ d ih =>
    intro k fu hk hf
    obtain ⟨fu, rfl⟩ : ∃ z, fu = z + 1 := ⟨fu - 1, by omega⟩
    rw [t_Mo_put, if_neg (by rw [nI_le_iff (by omega) (by omega)]; omega)]
    have z1 : ∀ v, up2 (gAdd F 71 5 72 r k (fun j => pv v0 st j &&& nI (M - 1))) 72 (r + k) v 71 5 = nI (r + k) := fun v => by rw [up2_ne _ _ _ _ (Or.inl (by decide)), gAdd_sz (by decide)]
    simp only [gR_71_6, Option.bind_some, gI_71_5, gI_71_1, gAdd_sz (show 71 ≠ 72 by decide), gAdd_oth (show 71 ≠ 72 by decide) (show 1 ≠ 5 by decide), h1, hs, aP_nI sh_72 (show r + k < 12000 by omega) (show 12000 ≤ 100000 by decide), z1, pI_71_5, nI_1]
    have e := gAdd_succ (F := F) (o := 71) (kk := 5) (ar := 72) (r := r) (m := k) (g := fun j => pv v0 st j &&& nI (M - 1)) (by decide)
    rw [e]
    exact ih (k + 1) fu (by omega) (by omega)
theorem s_put (h : RI b F) (hN : 1001 < N) : ∃ F2 G2, q_put (SS n) N 0 71 95 p1 p2 p3 F G = some (1, F2, G2) ∧ RI b F2 := by
  obtain ⟨r, hr1, hr2, hr3, hr4⟩ := h.ro
  have hfx := h.fx
  obtain ⟨hp1, hp2⟩ := pw8 hfx.h2 hfx.h8
  have thr1 : f_PF_put (SS n) N 0 p1 p2 p3 F = some (1, 0, F) → f_Mo_put (SS n) N 71 p1 p2 p3 F = some (0, up2 F 71 3 1) → ∃ F2 G2, q_put (SS n) N 0 71 95 p1 p2 p3 F G = some (1, F2, G2) ∧ RI b F2 := fun e1 e2 => by
    obtain ⟨G2, e3⟩ := w_put (N := N) (G := G) e1 e2 (up2_eq F 71 3 1) (Or.inr (Or.inl ⟨rfl, rfl⟩))
    exact ⟨_, G2, e3, h.code⟩
  by_cases c1 : p3 < 1
  · refine thr1 (by unfold f_PF_put; rw [if_pos c1]) ?_
    unfold f_Mo_put; rw [if_pos c1]; simp only [pI_71_3, Option.bind_some, gI_71_3, up2_eq]; rfl
  by_cases c2 : p3 ≤ 1000
  · obtain ⟨m, rfl, hm1, hm2⟩ := nI_rng (lo := 1) (hi := 1000) c1 c2 (by decide) (by decide)
    have hroom : f_Nu_room (SS n) 1 F = some (nI (12000 - r)) := Nu_room_of (Nu1 n) hr2 hr1
    have hadd : nI r + nI m = nI (r + m) := nI_ad r m
    by_cases c3 : r + m ≤ 12000
    · have d1 : nI m ≤ nI (12000 - r) := by rw [nI_le_iff (by omega) (by omega)]; omega
      have d2 : nI (r + m) ≤ 12000 := by rw [show (12000 : Int32) = nI 12000 from rfl, nI_le_iff (by omega) (by decide)]; exact c3
      have hs : nI (2 ^ b) - 1 = nI (2 ^ b - 1) := nI_sub (show 1 ≤ 2 ^ b by omega)
      have l1 := put_loop (n := n) (N := N) (F := F) (r := r) (m := m) (M := 2 ^ b - 1) hm2 c3 (v0 := p1) (st := p2) (u := p1) m 0 N (by omega) (by omega)
      rw [gAdd_zero hr2] at l1
      have e1 : f_PF_put (SS n) N 0 p1 p2 (nI m) F = some (0, nI (r + m), gAdd F 1 1 2 r m (fun j => pv p1 p2 j &&& nI (2 ^ b - 1))) := by
        unfold f_PF_put; rw [if_neg c1, if_pos c2]
        simp only [gR_0_1, Option.bind_some, xcl_1, hroom, if_pos d1, gI_0_0, hfx.a, sh1 (show b ≤ 12 by have := hfx.h8; omega), hs]
        have l2 : t_PF_put (SS n) N 0 p1 p2 (nI m) N (nI (2 ^ b - 1)) p1 0 F = some (nI (r + m), gAdd F 1 1 2 r m (fun j => pv p1 p2 j &&& nI (2 ^ b - 1))) := l1
        rw [l2]; rfl
      obtain ⟨F1, hF1⟩ : ∃ F1, F1 = gAdd F 1 1 2 r m (fun j => pv p1 p2 j &&& nI (2 ^ b - 1)) := ⟨_, rfl⟩
      rw [← hF1] at e1
      have g0 : ∀ k, F1 71 k = F 71 k := fun k => by rw [hF1, gAdd_ne (by decide) (by decide)]
      have l3 := mput_loop (n := n) (N := N) (F := up2 F1 71 3 0) (r := r) (m := m) (M := 2 ^ b) (by omega) (by rw [up2_ne _ _ _ _ (Or.inr (by decide)), g0]; exact hfx.m1) hm2 c3 (v0 := p1) (st := p2) (u := p1) m 0 N (by omega) (by omega)
      rw [gAdd_zero (by rw [up2_ne _ _ _ _ (Or.inr (by decide)), g0]; exact hr3)] at l3
      have e2 : f_Mo_put (SS n) N 71 p1 p2 (nI m) F1 = some (nI (r + m), gAdd (up2 F1 71 3 0) 71 5 72 r m (fun j => pv p1 p2 j &&& nI (2 ^ b - 1))) := by
        unfold f_Mo_put; rw [if_neg c1, if_pos c2]
        simp only [Option.bind_some, gI_71_5, g0, hr3, hadd, if_pos d2, pI_71_3, gI_71_3, up2_eq]
        rw [if_pos (by decide)]
        exact l3
      obtain ⟨G2, e3⟩ := w_put (N := N) (G := G) e1 e2 (t := 0) (by rw [gAdd_oth (by decide) (by decide), up2_eq]) (Or.inl ⟨rfl, rfl, rfl⟩)
      refine ⟨_, G2, e3, ?_⟩
      subst hF1
      have hr4' := hr4
      obtain ⟨h1, h2, -, ⟨c, h4⟩, h5, h6, ⟨w, h7⟩, ⟨q, h8⟩, ⟨f, h9⟩, h10⟩ := h
      refine ⟨h1.ag ⟨by simp [gAdd, up2, upR], by simp⟩, h2.ag ⟨by simp [gAdd, up2, upR], by simp⟩, ⟨r + m, c3, by simp [gAdd, up2, upR], by simp [gAdd, up2, upR], fun j hj => ?_⟩, ⟨c, h4.ag ⟨by simp [gAdd, up2, upR], by simp [gAdd, up2_row, upR]⟩⟩, h5.ag ⟨by simp [gAdd, up2, upR], by simp [gAdd, up2_row, upR]⟩, h6.ag ⟨by simp [gAdd, up2, upR], by simp [gAdd, up2_row, upR]⟩, ⟨w, h7.ag ⟨by simp [gAdd, up2, upR], by simp [gAdd, up2_row, upR]⟩⟩, ⟨q, h8.ag ⟨by simp [gAdd, up2, upR], by simp [gAdd, up2_row, upR]⟩⟩, ⟨f, h9.ag (by simp [gAdd, up2, upR]) (by simp [gAdd, up2, upR]) (fun k h1 h2 => by rw [gAdd_ne (by omega) (by omega), up2_row _ _ _ _ (by omega), gAdd_ne (by omega) (by omega)]) (fun k h1 h2 => by rw [gAdd_ne (by omega) (by omega), up2_row _ _ _ _ (by omega), gAdd_ne (by omega) (by omega)])⟩, h10.ag ⟨by simp, by simp [gAdd, up2_row, upR]⟩⟩
      have x1 : gAdd (up2 (gAdd F 1 1 2 r m (fun j => pv p1 p2 j &&& nI (2 ^ b - 1))) 71 3 0) 71 5 72 r m (fun j => pv p1 p2 j &&& nI (2 ^ b - 1)) 2 = rowAdd (F 2) r m (fun j => pv p1 p2 j &&& nI (2 ^ b - 1)) := by
        rw [gAdd_ne (by decide) (by decide), up2_row _ _ _ _ (by decide), gAdd_it]
      have x2 : gAdd (up2 (gAdd F 1 1 2 r m (fun j => pv p1 p2 j &&& nI (2 ^ b - 1))) 71 3 0) 71 5 72 r m (fun j => pv p1 p2 j &&& nI (2 ^ b - 1)) 72 = rowAdd (F 72) r m (fun j => pv p1 p2 j &&& nI (2 ^ b - 1)) := by
        rw [gAdd_it, up2_row _ _ _ _ (by decide), gAdd_ne (by decide) (by decide)]
      rw [x1, x2]
      simp only [rowAdd]
      by_cases hjr : r ≤ j
      · rw [if_pos ⟨hjr, hj⟩, if_pos ⟨hjr, hj⟩]
        obtain ⟨s, hs1, hs2⟩ := and_lo (pv p1 p2 (j - r)) (m := 2 ^ b - 1) (by omega)
        exact ⟨s, by omega, hs2, hs2⟩
      · rw [if_neg (by omega), if_neg (by omega)]
        exact hr4' j (by omega)
    · have d1 : ¬ nI m ≤ nI (12000 - r) := by rw [nI_le_iff (by omega) (by omega)]; omega
      have d2 : ¬ nI (r + m) ≤ 12000 := by rw [show (12000 : Int32) = nI 12000 from rfl, nI_le_iff (by omega) (by decide)]; exact c3
      have e1 : f_PF_put (SS n) N 0 p1 p2 (nI m) F = some (2, 0, F) := by
        unfold f_PF_put; rw [if_neg c1, if_pos c2]
        simp only [gR_0_1, Option.bind_some, xcl_1, hroom, if_neg d1]
      have e2 : f_Mo_put (SS n) N 71 p1 p2 (nI m) F = some (0, up2 F 71 3 2) := by
        unfold f_Mo_put; rw [if_neg c1, if_pos c2]
        simp only [Option.bind_some, gI_71_5, hr3, hadd, if_neg d2, pI_71_3, gI_71_3, up2_eq]
        rfl
      obtain ⟨G2, e3⟩ := w_put (N := N) (G := G) e1 e2 (up2_eq F 71 3 2) (Or.inr (Or.inr ⟨rfl, rfl⟩))
      exact ⟨_, G2, e3, h.code⟩
  · refine thr1 (by unfold f_PF_put; rw [if_neg c1, if_neg c2]) ?_
    unfold f_Mo_put; rw [if_neg c1, if_neg c2]; simp only [pI_71_3, Option.bind_some, gI_71_3, up2_eq]; rfl
end SJ
