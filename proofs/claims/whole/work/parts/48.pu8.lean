/-! the frames' shapes -/
section SF
variable {b n N i : Nat} {F F' : xF} {G : xL} {v p1 p2 p3 : Int32}
theorem fr_o : ∀ (i : Nat), i < 12 → (SS n)[23 + 4 * i]? = some (.inr (.inr (6, [some (.ref (24 + 4 * i)), some (.ref (25 + 4 * i)), none, none, none, none, none, none, none])))
  | 0, _ => rfl
  | 1, _ => rfl
  | 2, _ => rfl
  | 3, _ => rfl
  | 4, _ => rfl
  | 5, _ => rfl
  | 6, _ => rfl
  | 7, _ => rfl
  | 8, _ => rfl
  | 9, _ => rfl
  | 10, _ => rfl
  | 11, _ => rfl
  | k + 12, h => absurd h (by omega)
theorem fr_s : ∀ (i : Nat), i < 12 → (SS n)[24 + 4 * i]? = some (.inl (0, 576))
  | 0, _ => rfl
  | 1, _ => rfl
  | 2, _ => rfl
  | 3, _ => rfl
  | 4, _ => rfl
  | 5, _ => rfl
  | 6, _ => rfl
  | 7, _ => rfl
  | 8, _ => rfl
  | 9, _ => rfl
  | 10, _ => rfl
  | 11, _ => rfl
  | k + 12, h => absurd h (by omega)
theorem fr_p : ∀ (i : Nat), i < 12 → (SS n)[25 + 4 * i]? = some (.inr (.inr (5, [some (.ref (26 + 4 * i))])))
  | 0, _ => rfl
  | 1, _ => rfl
  | 2, _ => rfl
  | 3, _ => rfl
  | 4, _ => rfl
  | 5, _ => rfl
  | 6, _ => rfl
  | 7, _ => rfl
  | 8, _ => rfl
  | 9, _ => rfl
  | 10, _ => rfl
  | 11, _ => rfl
  | k + 12, h => absurd h (by omega)
theorem fr_c : ∀ (i : Nat), i < 12 → (SS n)[26 + 4 * i]? = some (.inl (0, n))
  | 0, _ => rfl
  | 1, _ => rfl
  | 2, _ => rfl
  | 3, _ => rfl
  | 4, _ => rfl
  | 5, _ => rfl
  | 6, _ => rfl
  | 7, _ => rfl
  | 8, _ => rfl
  | 9, _ => rfl
  | 10, _ => rfl
  | 11, _ => rfl
  | k + 12, h => absurd h (by omega)
theorem fr_r : ∀ (i : Nat), i < 12 → rG (SS n) 20 (nI i) = some (23 + 4 * i)
  | 0, _ => rfl
  | 1, _ => rfl
  | 2, _ => rfl
  | 3, _ => rfl
  | 4, _ => rfl
  | 5, _ => rfl
  | 6, _ => rfl
  | 7, _ => rfl
  | 8, _ => rfl
  | 9, _ => rfl
  | 10, _ => rfl
  | 11, _ => rfl
  | k + 12, h => absurd h (by omega)
theorem fr_get (hi : i < 12) {k : Nat} (h2 : 2 ≤ k) (h8 : k ≤ 8) : gI (SS n) 6 (23 + 4 * i) k F = some (F (23 + 4 * i) k) := by
  refine gI_of (fr_o i hi) ?_
  rcases (show k = 2 ∨ k = 3 ∨ k = 4 ∨ k = 5 ∨ k = 6 ∨ k = 7 ∨ k = 8 by omega) with rfl | rfl | rfl | rfl | rfl | rfl | rfl <;> rfl
theorem fr_put (hi : i < 12) {k : Nat} (h2 : 2 ≤ k) (h8 : k ≤ 8) : pI (SS n) 6 (23 + 4 * i) k v F = some (up2 F (23 + 4 * i) k v) := by
  refine pI_of (fr_o i hi) ?_
  rcases (show k = 2 ∨ k = 3 ∨ k = 4 ∨ k = 5 ∨ k = 6 ∨ k = 7 ∨ k = 8 by omega) with rfl | rfl | rfl | rfl | rfl | rfl | rfl <;> rfl
theorem fr_xcl {α : Type} {o : Option α} (hi : i < 12) : xcl (SS n) 6 (23 + 4 * i) o = o := xcl_of (fr_o i hi)
theorem fr_pxcl {α : Type} {o : Option α} (hi : i < 12) : xcl (SS n) 5 (25 + 4 * i) o = o := xcl_of (fr_p i hi)
theorem fr_R0 (hi : i < 12) : gR (SS n) 6 (23 + 4 * i) 0 = some (24 + 4 * i) := by unfold gR; rw [fr_o i hi]; rfl
theorem fr_R1 (hi : i < 12) : gR (SS n) 6 (23 + 4 * i) 1 = some (25 + 4 * i) := by unfold gR; rw [fr_o i hi]; rfl
theorem fr_P0 (hi : i < 12) : gR (SS n) 5 (25 + 4 * i) 0 = some (26 + 4 * i) := by unfold gR; rw [fr_p i hi]; rfl
def FrG (b i : Nat) (F : xF) : Prop := ∃ x y w h e d : Nat, 1 ≤ w ∧ 1 ≤ h ∧ x + w ≤ 24 ∧ y + h ≤ 24 ∧ e ≤ 3 ∧ d ≤ 1000 ∧ F (23 + 4 * i) 2 = nI x ∧ F 82 i = nI x ∧ F (23 + 4 * i) 3 = nI y ∧ F 83 i = nI y ∧ F (23 + 4 * i) 4 = nI w ∧ F 84 i = nI w ∧ F (23 + 4 * i) 5 = nI h ∧ F 85 i = nI h ∧ F (23 + 4 * i) 6 = nI e ∧ F 86 i = nI e ∧ F (23 + 4 * i) 7 = nI d ∧ F 87 i = nI d ∧
    ∀ r c, r < h → c < w → ∃ s : Nat, s < 2 ^ b ∧ F (24 + 4 * i) (r * w + c) = nI s ∧ F 89 (576 * i + 24 * r + c) = nI s
def FrT (b i : Nat) (F : xF) : Prop := F 88 i = F (23 + 4 * i) 8 ∧ (F 88 i = -1 ∨ ∃ s : Nat, s < 2 ^ b ∧ F 88 i = nI s)
def FrC (b i : Nat) (F : xF) : Prop := ∀ s, s < 2 ^ b → F 90 (256 * i + s) = F (26 + 4 * i) s ∧ Clr (F 90 (256 * i + s))
theorem Frm.gg (h : Frm b i F) : FrG b i F := h.1
theorem Frm.tt (h : Frm b i F) : FrT b i F := h.2.1
theorem Frm.cc (h : Frm b i F) : FrC b i F := h.2.2
theorem Frm.of (h1 : FrG b i F) (h2 : FrT b i F) (h3 : FrC b i F) : Frm b i F := ⟨h1, h2, h3⟩
theorem FrG.cg (h : FrG b i F) (q1 : ∀ k, 2 ≤ k → k ≤ 7 → F' (23 + 4 * i) k = F (23 + 4 * i) k) (q2 : ∀ k, k < 576 → F' (24 + 4 * i) k = F (24 + 4 * i) k) (q3 : ∀ a, 82 ≤ a → a ≤ 87 → F' a i = F a i) (q4 : ∀ k, 576 * i ≤ k → k < 576 * i + 576 → F' 89 k = F 89 k) : FrG b i F' := by
  obtain ⟨x, y, w, h, e, d, h1, h2, h3, h4, h5, h6, z1, z2, z3, z4, z5, z6, z7, z8, z9, z10, z11, z12, hs⟩ := h
  refine ⟨x, y, w, h, e, d, h1, h2, h3, h4, h5, h6, ?_⟩
  rw [q1 2 (by decide) (by decide), q1 3 (by decide) (by decide), q1 4 (by decide) (by decide), q1 5 (by decide) (by decide), q1 6 (by decide) (by decide), q1 7 (by decide) (by decide), q3 82 (by decide) (by decide), q3 83 (by decide) (by decide), q3 84 (by decide) (by decide), q3 85 (by decide) (by decide), q3 86 (by decide) (by decide), q3 87 (by decide) (by decide)]
  refine ⟨z1, z2, z3, z4, z5, z6, z7, z8, z9, z10, z11, z12, fun r c hr hc => ?_⟩
  have hm : r * w + c < 576 := by
    have h7 : r * w ≤ 23 * 24 := Nat.mul_le_mul (show r ≤ 23 by omega) (show w ≤ 24 by omega)
    omega
  rw [q2 _ hm, q4 _ (by omega) (by omega)]
  exact hs r c hr hc
theorem FrT.cg (h : FrT b i F) (q1 : F' (23 + 4 * i) 8 = F (23 + 4 * i) 8) (q2 : F' 88 i = F 88 i) : FrT b i F' := by
  unfold FrT at h ⊢
  rw [q1, q2]; exact h
theorem FrC.cg (hb : b ≤ 8) (h : FrC b i F) (q1 : ∀ k, k < 256 → F' (26 + 4 * i) k = F (26 + 4 * i) k) (q2 : ∀ k, 256 * i ≤ k → k < 256 * i + 256 → F' 90 k = F 90 k) : FrC b i F' := by
  intro s hs
  have h9 : 2 ^ b ≤ 256 := Nat.pow_le_pow_right (by decide) hb
  rw [q1 s (by omega), q2 _ (by omega) (by omega)]
  exact h s hs
/-- in a range, below it, above it -/
theorem rng_or (x : Int32) {B : Nat} (hB : B < 2147483648) : (∃ k, x = nI k ∧ k < B) ∨ x < 0 ∨ (¬ x < 0 ∧ nI B ≤ x) := by
  by_cases c1 : x < 0
  · exact Or.inr (Or.inl c1)
  · by_cases c2 : nI B ≤ x
    · exact Or.inr (Or.inr ⟨c1, c2⟩)
    · left
      have h0 : (0 : Int32).toInt = 0 := by decide
      rw [Int32.lt_iff_toInt_lt] at c1
      rw [Int32.le_iff_toInt_le, nI_toInt hB] at c2
      obtain ⟨k, h1, h2, h3⟩ := nI_ex (x := x) (by omega)
      exact ⟨k, h1, by omega⟩
theorem nn0 {k : Nat} (hk : k < 2147483648) : ¬ nI k < 0 := by
  rw [show (0 : Int32) = nI 0 from rfl, nI_lt_iff hk (by decide)]; omega
theorem has_y {B k : Nat} (h : F 19 2 = nI B) (hB : B < 2147483648) (hk : k < B) : f_Sc_has (SS n) 19 (nI k) F = some 1 := by
  unfold f_Sc_has
  have c2 : ¬ nI B ≤ nI k := by rw [nI_le_iff hB (by omega)]; omega
  simp only [if_neg (nn0 (show k < 2147483648 by omega)), gI_19_2, h, Option.bind_some, if_neg c2]
theorem has_n {B : Nat} (h : F 19 2 = nI B) {p : Int32} (hp : p < 0 ∨ (¬ p < 0 ∧ nI B ≤ p)) : f_Sc_has (SS n) 19 p F = some 0 := by
  unfold f_Sc_has
  rcases hp with c1 | ⟨c1, c2⟩
  · rw [if_pos c1]
  · simp only [if_neg c1, gI_19_2, h, Option.bind_some, if_pos c2]
theorem mis_y {B k : Nat} (h : F 71 1 = nI B) (hB : B < 2147483648) (hk : k < B) : f_Mo_isSymbol (SS n) 71 (nI k) F = some 1 := by
  unfold f_Mo_isSymbol
  have c2 : ¬ nI B ≤ nI k := by rw [nI_le_iff hB (by omega)]; omega
  simp only [if_neg (nn0 (show k < 2147483648 by omega)), gI_71_1, h, Option.bind_some, if_neg c2]
theorem mis_n {B : Nat} (h : F 71 1 = nI B) {p : Int32} (hp : p < 0 ∨ (¬ p < 0 ∧ nI B ≤ p)) : f_Mo_isSymbol (SS n) 71 p F = some 0 := by
  unfold f_Mo_isSymbol
  rcases hp with c1 | ⟨c1, c2⟩
  · rw [if_pos c1]
  · simp only [if_neg c1, gI_71_1, h, Option.bind_some, if_pos c2]
theorem mif_y {B k : Nat} (h : F 71 23 = nI B) (hB : B < 2147483648) (hk : k < B) : f_Mo_isFrame (SS n) 71 (nI k) F = some 1 := by
  unfold f_Mo_isFrame
  have c2 : ¬ nI B ≤ nI k := by rw [nI_le_iff hB (by omega)]; omega
  simp only [if_neg (nn0 (show k < 2147483648 by omega)), gI_71_23, h, Option.bind_some, if_neg c2]
theorem mif_n {B : Nat} (h : F 71 23 = nI B) {p : Int32} (hp : p < 0 ∨ (¬ p < 0 ∧ nI B ≤ p)) : f_Mo_isFrame (SS n) 71 p F = some 0 := by
  unfold f_Mo_isFrame
  rcases hp with c1 | ⟨c1, c2⟩
  · rw [if_pos c1]
  · simp only [if_neg c1, gI_71_23, h, Option.bind_some, if_pos c2]
theorem pis_y {B k : Nat} (h : (1 : Int32) <<< (F 0 0 &&& 31) = nI B) (hB : B < 2147483648) (hk : k < B) : f_PF_isSymbol (SS n) 0 (nI k) F = some 1 := by
  unfold f_PF_isSymbol
  have c2 : ¬ nI B ≤ nI k := by rw [nI_le_iff hB (by omega)]; omega
  simp only [if_neg (nn0 (show k < 2147483648 by omega)), gI_0_0, h, Option.bind_some, if_neg c2]
theorem pis_n {B : Nat} (h : (1 : Int32) <<< (F 0 0 &&& 31) = nI B) {p : Int32} (hp : p < 0 ∨ (¬ p < 0 ∧ nI B ≤ p)) : f_PF_isSymbol (SS n) 0 p F = some 0 := by
  unfold f_PF_isSymbol
  rcases hp with c1 | ⟨c1, c2⟩
  · rw [if_pos c1]
  · simp only [if_neg c1, gI_0_0, h, Option.bind_some, if_pos c2]
theorem s_through (h : RI b F) : ∃ F2 G2, q_through (SS n) N 0 71 95 p1 p2 F G = some (1, F2, G2) ∧ RI b F2 := by
  obtain ⟨f, hf1, hf2, hf3, hf4⟩ := h.fr
  have hx := h.fx
  obtain ⟨hp1, hp2⟩ := pw8 hx.h2 hx.h8
  have hsh : (1 : Int32) <<< (F 0 0 &&& 31) = nI (2 ^ b) := by rw [hx.a, sh1 (by have := hx.h8; omega)]
  have thr : f_PF_through (SS n) 0 p1 p2 F = some (3, 0, F) → f_Mo_through (SS n) 71 p1 p2 F = some (0, up2 F 71 3 1) → ∃ F2 G2, q_through (SS n) N 0 71 95 p1 p2 F G = some (1, F2, G2) ∧ RI b F2 := fun e1 e2 => by
    obtain ⟨G2, e3⟩ := w_through (N := N) (G := G) e1 e2 (up2_eq F 71 3 1) (Or.inr ⟨rfl, rfl⟩)
    exact ⟨_, G2, e3, h.code⟩
  rcases rng_or p1 (B := f) (by omega) with ⟨i, rfl, hi⟩ | hno
  · have y1 := has_y (n := n) hf2 (by omega) hi
    have y2 := mif_y (n := n) hf3 (by omega) hi
    have hi12 : i < 12 := by omega
    have good : (p2 = -1 ∨ ∃ s : Nat, s < 2 ^ b ∧ p2 = nI s) → f_PF_through (SS n) 0 (nI i) p2 F = some (0, F (23 + 4 * i) 8, up2 F (23 + 4 * i) 8 p2) → f_Mo_through (SS n) 71 (nI i) p2 (up2 F (23 + 4 * i) 8 p2) = some (F 88 i, up2 (up2 (up2 F (23 + 4 * i) 8 p2) 71 3 0) 88 i p2) → ∃ F2 G2, q_through (SS n) N 0 71 95 (nI i) p2 F G = some (1, F2, G2) ∧ RI b F2 := fun hv e1 e2 => by
      obtain ⟨G2, e3⟩ := w_through (N := N) (G := G) e1 e2 (t := 0) (by rw [up2_ne _ _ _ _ (Or.inl (by decide)), up2_eq]) (Or.inl ⟨rfl, rfl, (hf4 i hi).t.1.symm⟩)
      refine ⟨_, G2, e3, ?_⟩
      have A : ∀ a, a ≠ 23 + 4 * i → a ≠ 71 → a ≠ 88 → up2 (up2 (up2 F (23 + 4 * i) 8 p2) 71 3 0) 88 i p2 a = F a := fun a q1 q2 q3 => by rw [up2_row _ _ _ _ q3, up2_row _ _ _ _ q2, up2_row _ _ _ _ q1]
      have k1 : ∀ j, j ≠ 3 → up2 (up2 (up2 F (23 + 4 * i) 8 p2) 71 3 0) 88 i p2 71 j = F 71 j := fun j q => by rw [up2_ne _ _ _ _ (Or.inl (by decide)), up2_ne _ _ _ _ (Or.inr q), up2_ne _ _ _ _ (Or.inl (by omega))]
      have k2 : ∀ j, j ≠ 8 → up2 (up2 (up2 F (23 + 4 * i) 8 p2) 71 3 0) 88 i p2 (23 + 4 * i) j = F (23 + 4 * i) j := fun j q => by rw [up2_ne _ _ _ _ (Or.inl (by omega)), up2_ne _ _ _ _ (Or.inl (by omega)), up2_ne _ _ _ _ (Or.inr q)]
      have k3 : up2 (up2 (up2 F (23 + 4 * i) 8 p2) 71 3 0) 88 i p2 (23 + 4 * i) 8 = p2 := by rw [up2_ne _ _ _ _ (Or.inl (by omega)), up2_ne _ _ _ _ (Or.inl (by omega)), up2_eq]
      have k4 : ∀ j, j ≠ i → up2 (up2 (up2 F (23 + 4 * i) 8 p2) 71 3 0) 88 i p2 88 j = F 88 j := fun j q => by rw [up2_ne _ _ _ _ (Or.inr q), up2_ne _ _ _ _ (Or.inl (by decide)), up2_ne _ _ _ _ (Or.inl (by omega))]
      have k5 : up2 (up2 (up2 F (23 + 4 * i) 8 p2) 71 3 0) 88 i p2 88 i = p2 := up2_eq _ _ _ _
      clear e1 e2 e3
      generalize up2 (up2 (up2 F (23 + 4 * i) 8 p2) 71 3 0) 88 i p2 = F2 at A k1 k2 k3 k4 k5 ⊢
      have A' : ∀ a, (a < 23 ∨ 82 ≤ a ∨ (72 ≤ a ∧ a < 82)) → a ≠ 88 → F2 a = F a := fun a q1 q2 => A a (by omega) (by omega) q2
      obtain ⟨h1, h2, ⟨r, h3⟩, ⟨c, h4⟩, h5, h6, ⟨w, h7⟩, ⟨q, h8⟩, -, h10⟩ := h
      refine ⟨h1.ag ⟨by simp [A', k1], by simp⟩, h2.ag ⟨by simp [A', k1], by simp⟩, ⟨r, h3.ag ⟨by simp [A', k1], by simp [A']⟩⟩, ⟨c, h4.ag ⟨by simp [A', k1], by simp [A']⟩⟩, h5.ag ⟨by simp [A', k1], by simp [A']⟩, h6.ag ⟨by simp [A', k1], by simp [A']⟩, ⟨w, h7.ag ⟨by simp [A', k1], by simp [A']⟩⟩, ⟨q, h8.ag ⟨by simp [A', k1], by simp [A']⟩⟩, ⟨f, hf1, by rw [A' 19 (by decide) (by decide)]; exact hf2, by rw [k1 23 (by decide)]; exact hf3, fun j hj => ?_⟩, h10.ag ⟨by simp, by simp [A']⟩⟩
      have hfj := hf4 j hj
      refine Frm.of (hfj.gg.cg (fun k q1 q2 => ?_) (fun k _ => by rw [A _ (by omega) (by omega) (by omega)]) (fun a q1 q2 => by rw [A' a (by omega) (by omega)]) (fun k _ _ => by rw [A' 89 (by decide) (by decide)])) ?_ (hfj.cc.cg hx.h8 (fun k _ => by rw [A _ (by omega) (by omega) (by omega)]) (fun k _ _ => by rw [A' 90 (by decide) (by decide)]))
      · by_cases hji : j = i
        · subst hji; exact k2 k (by omega)
        · rw [A _ (by omega) (by omega) (by omega)]
      · by_cases hji : j = i
        · subst hji
          refine ⟨by rw [k3, k5], ?_⟩
          rw [k5]; exact hv
        · exact hfj.tt.cg (by rw [A _ (by omega) (by omega) (by omega)]) (k4 j hji)
    have z1 : up2 F (23 + 4 * i) 8 p2 71 23 = nI f := by rw [up2_ne _ _ _ _ (Or.inl (by omega))]; exact hf3
    have z2 : up2 F (23 + 4 * i) 8 p2 71 1 = nI (2 ^ b) := by rw [up2_ne _ _ _ _ (Or.inl (by omega))]; exact hx.m1
    have z3 : up2 (up2 F (23 + 4 * i) 8 p2) 71 3 0 88 i = F 88 i := by rw [up2_ne _ _ _ _ (Or.inl (by decide)), up2_ne _ _ _ _ (Or.inl (by omega))]
    have y3 := mif_y (n := n) z1 (by omega) hi
    by_cases c1 : p2 = -1
    · refine good (Or.inl c1) ?_ ?_
      · unfold f_PF_through
        simp only [gR_0_5, Option.bind_some, xcl_19, y1, if_neg (show ¬ (1 : Int32) = 0 by decide), if_pos c1, gR_19_0, fr_r i hi12, fr_get hi12 (show 2 ≤ 8 by decide) (show 8 ≤ 8 by decide), fr_put hi12 (show 2 ≤ 8 by decide) (show 8 ≤ 8 by decide)]
      · unfold f_Mo_through
        simp only [xcl_71, y3, Option.bind_some, if_neg (show ¬ (1 : Int32) = 0 by decide), if_pos c1, pI_71_3, gI_71_3, up2_eq, if_pos (show (0 : Int32) ≤ 0 by decide), gR_71_30, aG_nI sh_88 hi12 (show 12 ≤ 100000 by decide), aP_nI sh_88 hi12 (show 12 ≤ 100000 by decide), z3]
    · rcases rng_or p2 (B := 2 ^ b) (by omega) with ⟨s, rfl, hs⟩ | hns
      · refine good (Or.inr ⟨s, hs, rfl⟩) ?_ ?_
        · unfold f_PF_through
          simp only [gR_0_5, Option.bind_some, xcl_19, y1, if_neg (show ¬ (1 : Int32) = 0 by decide), if_neg c1, xcl_0, pis_y hsh (show 2 ^ b < 2147483648 by omega) hs, gR_19_0, fr_r i hi12, fr_get hi12 (show 2 ≤ 8 by decide) (show 8 ≤ 8 by decide), fr_put hi12 (show 2 ≤ 8 by decide) (show 8 ≤ 8 by decide)]
        · unfold f_Mo_through
          simp only [xcl_71, y3, Option.bind_some, if_neg (show ¬ (1 : Int32) = 0 by decide), if_neg c1, mis_y z2 (show 2 ^ b < 2147483648 by omega) hs, pI_71_3, gI_71_3, up2_eq, if_pos (show (0 : Int32) ≤ 0 by decide), gR_71_30, aG_nI sh_88 hi12 (show 12 ≤ 100000 by decide), aP_nI sh_88 hi12 (show 12 ≤ 100000 by decide), z3]
      · refine thr ?_ ?_
        · unfold f_PF_through
          simp only [gR_0_5, Option.bind_some, xcl_19, y1, if_neg (show ¬ (1 : Int32) = 0 by decide), if_neg c1, xcl_0, pis_n hsh hns, if_pos]
        · unfold f_Mo_through
          simp only [xcl_71, y2, Option.bind_some, if_neg (show ¬ (1 : Int32) = 0 by decide), if_neg c1, mis_n hx.m1 hns, if_pos, pI_71_3, gI_71_3, up2_eq, if_neg (show ¬ (1 : Int32) ≤ 0 by decide)]
  · refine thr ?_ ?_
    · unfold f_PF_through
      simp only [gR_0_5, Option.bind_some, xcl_19, has_n hf2 hno, if_pos]
    · unfold f_Mo_through
      simp only [xcl_71, mif_n hf3 hno, Option.bind_some, if_pos, pI_71_3, gI_71_3, up2_eq, if_neg (show ¬ (1 : Int32) ≤ 0 by decide)]
end SF
