/-! decode: strings -/
def Spl (B E z : Nat) (pk : Nat → Nat) (f : Nat → Nat) : Nat → Nat → Prop
  | 0, _ => False
  | 1, k => k < B ∧ f 0 = k
  | m + 2, k => E < k ∧ k ≤ z ∧ pk k % 256 = f (m + 1) ∧ Spl B E z pk f (m + 1) (pk k / 256)
theorem Spl.cg {B E z : Nat} {pk f f' : Nat → Nat} : ∀ (m k : Nat), (∀ j, j < m → f' j = f j) → Spl B E z pk f m k → Spl B E z pk f' m k
  | 0, _, _, h => h
  | 1, k, e, h => ⟨h.1, by rw [e 0 (by decide)]; exact h.2⟩
  | m + 2, k, e, h => ⟨h.1, h.2.1, by rw [e (m + 1) (by omega)]; exact h.2.2.1, Spl.cg (m + 1) (pk k / 256) (fun j hj => e j (by omega)) h.2.2.2⟩
theorem Spl.mono {B E z z' : Nat} {pk pk' f : Nat → Nat} (hz : z ≤ z') (hp : ∀ e, e ≤ z → pk' e = pk e) : ∀ (m k : Nat), Spl B E z pk f m k → Spl B E z' pk' f m k
  | 0, _, h => h
  | 1, k, h => h
  | m + 2, k, h => by
    have e := hp k h.2.1
    refine ⟨h.1, by have := h.2.1; omega, by rw [e]; exact h.2.2.1, ?_⟩
    rw [e]
    exact Spl.mono hz hp (m + 1) (pk k / 256) h.2.2.2
theorem Spl.pos {B E z : Nat} {pk f : Nat → Nat} : ∀ {m k : Nat}, Spl B E z pk f m k → 1 ≤ m
  | 0, _, h => absurd h (fun q => q)
  | m + 1, _, _ => by omega
def TB (B E z : Nat) (pk : Nat → Nat) (R : xF) : Prop := (∀ k, k < B → R 77 k = -1 ∧ R 78 k = nI k) ∧ ∀ e, E < e → e ≤ z → R 77 e = nI (pk e / 256) ∧ R 78 e = nI (pk e % 256)
section DS
variable {b n N B E z q w wd sc t L c len bg : Nat} {pk f out o : Nat → Nat} {C M R : xF} {p0 u2 : Int32}
theorem Spl.st {m k : Nat} (hB : B ≤ 256) (hz : z ≤ 4095) (hR : TB B E z pk R) (h : Spl B E z pk f (m + 1) k) : R 78 k = nI (f m) ∧ k < 4096 ∧ ((m = 0 ∧ R 77 k = -1) ∨ ∃ k', R 77 k = nI k' ∧ Spl B E z pk f m k') := by
  cases m with
  | zero =>
    obtain ⟨h1, h2⟩ := h
    obtain ⟨r1, r2⟩ := hR.1 k h1
    exact ⟨by rw [r2, h2], by omega, Or.inl ⟨rfl, r1⟩⟩
  | succ m =>
    obtain ⟨h1, h2, h3, h4⟩ := h
    obtain ⟨r1, r2⟩ := hR.2 k h1 h2
    exact ⟨by rw [r2, h3], by omega, Or.inr ⟨_, r1, h4⟩⟩
theorem Spl.le {m k : Nat} (hB : B ≤ 256) (hz : z ≤ 4095) (h : Spl B E z pk f m k) : k < 4096 := by
  cases m with
  | zero => exact absurd h (fun q => q)
  | succ m =>
    cases m with
    | zero => have := h.1; omega
    | succ m => have := h.2.1; omega
theorem fi_loop (hB : B ≤ 256) (hz : z ≤ 4095) (hR : TB B E z pk R) : ∀ (m k fu : Nat), Spl B E z pk f m k → m ≤ fu → t_Mo_firstOf (SS n) N 71 p0 fu (nI k) R = some (nI (f 0)) := by
  intro m
  induction m with
  | zero => intro k fu h; exact absurd h (fun q => q)
  | succ m ih =>
    intro k fu h hf
    obtain ⟨fu, rfl⟩ : ∃ y, fu = y + 1 := ⟨fu - 1, by omega⟩
    obtain ⟨s1, s2, s3⟩ := h.st hB hz hR
    rw [t_Mo_firstOf]
    simp only [gR_71_15, Option.bind_some, aG_nI sh_77 s2 (show 4096 ≤ 100000 by decide)]
    rcases s3 with ⟨q1, q2⟩ | ⟨k', q1, q2⟩
    · subst q1
      rw [q2, if_pos (by decide)]
      simp only [gR_71_16, Option.bind_some, aG_nI sh_78 s2 (show 4096 ≤ 100000 by decide), s1]
    · rw [q1, if_neg (nn0 (by have := q2.le hB hz; omega))]
      exact ih k' fu q2 (by omega)
theorem first_of (hB : B ≤ 256) (hz : z ≤ 4095) (hR : TB B E z pk R) {m k : Nat} (h : Spl B E z pk f m k) (hm : m < N) : f_Mo_firstOf (SS n) N 71 (nI k) R = some (nI (f 0)) := by
  unfold f_Mo_firstOf
  exact fi_loop hB hz hR m k N h (by omega)
theorem pre_lt (hq : q ≤ 12000) : nI q - 1 < nI q := by
  cases q with
  | zero => decide
  | succ q =>
    rw [nI_pred, nI_lt_iff (by omega) (by omega)]
    omega
theorem sp_loop (hB : B ≤ 256) (hz : z ≤ 4095) (hc : c < 4096) : ∀ (m fu : Nat) (u2 : Int32) (R : xF), (m = 0 ∨ ∃ k, u2 = nI k ∧ Spl B E z pk f m k) → m < fu → q + m ≤ 12000 → TB B E z pk R → R 71 12 = nI q → R 79 c = nI len → ∃ R', t_Mo_spell (SS n) N 71 (nI c) fu u2 (nI (q + m) - 1) R = some R' ∧ R' 71 12 = nI (q + len) ∧ (∀ j, j < m → R' 76 (q + j) = nI (f j)) ∧ (∀ j, (j < q ∨ q + m ≤ j) → R' 76 j = R 76 j) ∧ (∀ a, a ≠ 71 → a ≠ 76 → R' a = R a) ∧ (∀ j, j ≠ 12 → R' 71 j = R 71 j) := by
  intro m
  induction m with
  | zero =>
    intro fu u2 R _ hf hq hR h12 h79
    obtain ⟨fu, rfl⟩ : ∃ y, fu = y + 1 := ⟨fu - 1, by omega⟩
    refine ⟨up2 R 71 12 (nI (q + len)), ?_, up2_eq _ _ _ _, fun j hj => by omega, fun j _ => by rw [up2_row _ _ _ _ (by decide)], fun a q1 q2 => by rw [up2_row _ _ _ _ q1], fun j hj => by rw [up2_ne _ _ _ _ (Or.inr hj)]⟩
    rw [t_Mo_spell]
    simp only [gI_71_12, h12, Option.bind_some, Nat.add_zero, if_pos (pre_lt (show q ≤ 12000 by omega)), gR_71_17, aG_nI sh_79 hc (show 4096 ≤ 100000 by decide), h79, nI_ad, pI_71_12]
  | succ m ih =>
    intro fu u2 R hu hf hq hR h12 h79
    obtain ⟨fu, rfl⟩ : ∃ y, fu = y + 1 := ⟨fu - 1, by omega⟩
    obtain ⟨k, rfl, hs⟩ : ∃ k, u2 = nI k ∧ Spl B E z pk f (m + 1) k := by
      rcases hu with r | r
      · omega
      · exact r
    obtain ⟨s1, s2, s3⟩ := hs.st hB hz hR
    have e1 : nI (q + (m + 1)) - 1 = nI (q + m) := by rw [← Nat.add_assoc, nI_pred]
    have c1 : ¬ nI (q + m) < nI q := by rw [nI_lt_iff (by omega) (by omega)]; omega
    have o1 : ∀ a, a ≠ 76 → up2 R 76 (q + m) (nI (f m)) a = R a := fun a r => by rw [up2_row _ _ _ _ r]
    have hR1 : TB B E z pk (up2 R 76 (q + m) (nI (f m))) := by
      unfold TB
      rw [o1 77 (by decide), o1 78 (by decide)]
      exact hR
    have hu1 : m = 0 ∨ ∃ k', R 77 k = nI k' ∧ Spl B E z pk f m k' := s3.imp (fun r => r.1) (fun r => r)
    obtain ⟨R', k1, k2, k3, k4, k5, k6⟩ := ih fu (R 77 k) (up2 R 76 (q + m) (nI (f m))) hu1 (by omega) (by omega) hR1 (by rw [o1 71 (by decide)]; exact h12) (by rw [o1 79 (by decide)]; exact h79)
    refine ⟨R', ?_, k2, fun j hj => ?_, fun j hj => ?_, fun a r1 r2 => by rw [k5 a r1 r2, o1 a r2], fun j hj => by rw [k6 j hj, o1 71 (by decide)]⟩
    · rw [t_Mo_spell, e1]
      have e2 : nI (q + m) + (-1) = nI (q + m) - 1 := by
        rw [Int32.sub_eq_add_neg]
      simp only [gI_71_12, h12, Option.bind_some, if_neg c1, gR_71_13, gR_71_16, gR_71_15, aG_nI sh_78 s2 (show 4096 ≤ 100000 by decide), s1, aP_nI sh_76 (show q + m < 12000 by omega) (show 12000 ≤ 100000 by decide), aG_nI sh_77 s2 (show 4096 ≤ 100000 by decide), o1 77 (show 77 ≠ 76 by decide), e2]
      exact k1
    · by_cases hjm : j = m
      · subst hjm
        rw [k4 (q + j) (Or.inr (Nat.le_refl _)), up2_eq]
      · exact k3 j (by omega)
    · rw [k4 j (by omega), up2_ne _ _ _ _ (Or.inr (by omega))]
theorem spell_of (hB : B ≤ 256) (hz : z ≤ 4095) (hR : TB B E z pk R) (h : Spl B E z pk f len c) (h12 : R 71 12 = nI q) (h79 : R 79 c = nI len) (hq : q + len ≤ 12000) (hN : 12100 < N) : ∃ R', f_Mo_spell (SS n) N 71 (nI c) R = some R' ∧ R' 71 12 = nI (q + len) ∧ (∀ j, j < len → R' 76 (q + j) = nI (f j)) ∧ (∀ j, (j < q ∨ q + len ≤ j) → R' 76 j = R 76 j) ∧ (∀ a, a ≠ 71 → a ≠ 76 → R' a = R a) ∧ (∀ j, j ≠ 12 → R' 71 j = R 71 j) := by
  have hc := h.le hB hz
  obtain ⟨R', k1, k2⟩ := sp_loop (n := n) (N := N) (q := q) (len := len) hB hz hc len N (nI c) R (Or.inr ⟨c, rfl, h⟩) (by omega) hq hR h12 h79
  refine ⟨R', ?_, k2⟩
  unfold f_Mo_spell
  simp only [gI_71_12, h12, Option.bind_some, gR_71_17, aG_nI sh_79 hc (show 4096 ≤ 100000 by decide), h79, nI_ad]
  exact k1
/-! the class's side -/
theorem ae_of {m : Nat} (h6 : C 13 6 = nI L) (hL : L ≤ 4095) : ∃ C', f_Re_addEntry (SS n) 13 (nI q) (nI m) C = some C' ∧ C' 13 6 = nI (if L < 4095 then L + 1 else L) ∧ (L < 4095 → C' 16 (L + 1) = nI q ∧ C' 17 (L + 1) = nI m) ∧ (∀ j, j ≤ L → C' 16 j = C 16 j ∧ C' 17 j = C 17 j) ∧ (∀ a, a ≠ 13 → a ≠ 16 → a ≠ 17 → C' a = C a) ∧ (∀ j, j ≠ 6 → C' 13 j = C 13 j) := by
  unfold f_Re_addEntry
  simp only [gI_13_6, h6, Option.bind_some]
  by_cases cL : L < 4095
  · have c1 : ¬ (4095 : Int32) ≤ nI L := by rw [show (4095 : Int32) = nI 4095 from rfl, nI_le_iff (by decide) (by omega)]; omega
    have s1 : up2 (up2 C 13 6 (nI (L + 1))) 16 (L + 1) (nI q) 13 6 = nI (L + 1) := by rw [up2_row _ _ _ _ (by decide), up2_eq]
    refine ⟨up2 (up2 (up2 C 13 6 (nI (L + 1))) 16 (L + 1) (nI q)) 17 (L + 1) (nI m), ?_, ?_, fun _ => ⟨?_, up2_eq _ _ _ _⟩, fun j hj => ⟨?_, ?_⟩, fun a q1 q2 q3 => by rw [up2_row _ _ _ _ q3, up2_row _ _ _ _ q2, up2_row _ _ _ _ q1], fun j hj => by rw [up2_row _ _ _ _ (by decide), up2_row _ _ _ _ (by decide), up2_ne _ _ _ _ (Or.inr hj)]⟩
    · simp only [if_neg c1, nI_1, pI_13_6, Option.bind_some, gR_13_4, up2_eq, aP_nI sh_16 (show L + 1 < 4096 by omega) (show 4096 ≤ 100000 by decide), gR_13_5, s1, aP_nI sh_17 (show L + 1 < 4096 by omega) (show 4096 ≤ 100000 by decide)]
    · rw [up2_row _ _ _ _ (by decide), s1, if_pos cL]
    · rw [up2_row _ _ _ _ (by decide), up2_eq]
    · rw [up2_row _ _ _ _ (by decide), up2_ne _ _ _ _ (Or.inr (by omega)), up2_row _ _ _ _ (by decide)]
    · rw [up2_ne _ _ _ _ (Or.inr (by omega)), up2_row _ _ _ _ (by decide), up2_row _ _ _ _ (by decide)]
  · have c1 : (4095 : Int32) ≤ nI L := by rw [show (4095 : Int32) = nI 4095 from rfl, nI_le_iff (by decide) (by omega)]; omega
    refine ⟨C, by rw [if_pos c1], by rw [h6, if_neg cL], fun r => by omega, fun j _ => ⟨rfl, rfl⟩, fun a _ _ _ => rfl, fun j _ => rfl⟩
/-- what the class's copy leaves -/
def CpO (q len wd sc E L : Nat) (o : Nat → Nat) (C C' : xF) : Prop := C' 14 1 = nI (q + len) ∧ (∀ k, k < q + len → C' 15 k = nI (o k)) ∧ C' 18 2 = nI (nw E wd sc) ∧ C' 18 3 = nI (sc + 1) ∧ (∀ j, j ≠ 2 → j ≠ 3 → C' 18 j = C 18 j) ∧ C' 13 6 = nI (if L < 4095 then L + 1 else L) ∧ (L < 4095 → C' 16 (L + 1) = nI q ∧ C' 17 (L + 1) = nI (len + 1)) ∧ (∀ j, j ≤ L → C' 16 j = C 16 j ∧ C' 17 j = C 17 j) ∧ (∀ j, j ≠ 6 → C' 13 j = C 13 j) ∧ (∀ a, (a < 13 ∨ 18 < a) → C' a = C a)
theorem cp_tail {C1 : xF} (hE : E ≤ 1000) (hwd : wd ≤ 12) (hsc : sc ≤ 100000) (hL : L ≤ 4095) (h14 : C1 14 1 = nI (q + len)) (h15 : ∀ k, k < q + len → C1 15 k = nI (o k)) (oC : ∀ a, a ≠ 14 → a ≠ 15 → C1 a = C a) (h1 : C 18 1 = nI E) (h2 : C 18 2 = nI wd) (h3 : C 18 3 = nI sc) (h6 : C 13 6 = nI L) : ∃ C2 C', f_Wi_behindEntry (SS n) 18 C1 = some C2 ∧ f_Re_addEntry (SS n) 13 (nI q) (nI (len + 1)) C2 = some C' ∧ CpO q len wd sc E L o C C' := by
  have o18 : (SS n)[18]? = some (.inr (.inr (1, [none, none, none, none]))) := rfl
  have c18 : C1 18 = C 18 := oC 18 (by decide) (by decide)
  obtain ⟨C2, k1, k2, k3, k4, k5⟩ := wi_of (C := C1) o18 (by rw [c18]; exact h1) (by rw [c18]; exact h2) (by rw [c18]; exact h3) hE hwd hsc
  obtain ⟨C', e1, e2, e3, e4, e5, e6⟩ := ae_of (n := n) (q := q) (m := len + 1) (C := C2) (by rw [k5 13 (by decide), oC 13 (by decide) (by decide)]; exact h6) hL
  have s18 : C' 18 = C2 18 := e5 18 (by decide) (by decide) (by decide)
  refine ⟨C2, C', k1, e1, ?_, fun k hk => ?_, by rw [s18]; exact k2, by rw [s18]; exact k3, fun j q1 q2 => by rw [s18, k4 j q1 q2, c18], e2, e3, fun j hj => ?_, fun j hj => ?_, fun a ha => ?_⟩
  · rw [e5 14 (by decide) (by decide) (by decide), k5 14 (by decide)]; exact h14
  · rw [e5 15 (by decide) (by decide) (by decide), k5 15 (by decide)]; exact h15 k hk
  · rw [(e4 j hj).1, (e4 j hj).2, k5 16 (by decide), k5 17 (by decide), oC 16 (by decide) (by decide), oC 17 (by decide) (by decide)]
    exact ⟨rfl, rfl⟩
  · rw [e6 j hj, k5 13 (by decide), oC 13 (by decide) (by decide)]
  · rw [e5 a (by omega) (by omega) (by omega), k5 a (by omega), oC a (by omega) (by omega)]
theorem cp_loop (hq : q + len ≤ 12000) (hc : c < 4096) (ho : ∀ i, i < len → bg + i < q + i ∧ o (bg + i) = o (q + i)) {u3 u4 : Int32} (hu3 : u3 = nI len) : ∀ (d i : Nat) (C : xF), i + d = len → C 14 1 = nI (q + i) → (∀ k, k < q + i → C 15 k = nI (o k)) → C 16 c = nI bg → ∃ C1, (∀ fu, t_Re_copyString (SS n) N 13 (nI c) (fu + d) u2 u3 u4 (nI i) C = t_Re_copyString (SS n) N 13 (nI c) fu u2 u3 u4 (nI len) C1) ∧ C1 14 1 = nI (q + len) ∧ (∀ k, k < q + len → C1 15 k = nI (o k)) ∧ (∀ a, a ≠ 14 → a ≠ 15 → C1 a = C a) := by
  intro d
  induction d with
  | zero =>
    intro i C hi h14 h15 h16
    have : i = len := by omega
    subst this
    exact ⟨C, fun fu => rfl, h14, h15, fun a _ _ => rfl⟩
  | succ d ih =>
    intro i C hi h14 h15 h16
    obtain ⟨o1, o2⟩ := ho i (by omega)
    have c1 : ¬ u3 ≤ nI i := by rw [hu3, nI_le_iff (by omega) (by omega)]; omega
    have g : f_Nu_get (SS n) 14 (nI (bg + i)) C = some (nI (o (q + i))) := by
      rw [Nu_get_of (Nu14 n) h14 (by omega) o1]
      show some (C 15 (bg + i)) = _
      rw [h15 _ o1, o2]
    have na := Nu_add_of (v := nI (o (q + i))) (Nu14 n) h14 (show q + i < 12000 by omega)
    obtain ⟨C1, k1, k2, k3, k4⟩ := ih (i + 1) (up2 (up2 C 15 (q + i) (nI (o (q + i)))) 14 1 (nI (q + i + 1))) (by omega) (up2_eq _ _ _ _) (fun k hk => by
      rw [up2_row _ _ _ _ (by decide)]
      by_cases hk2 : k = q + i
      · subst hk2; rw [up2_eq]
      · rw [up2_ne _ _ _ _ (Or.inr hk2)]; exact h15 k (by omega)) (by rw [up2_row _ _ _ _ (by decide), up2_row _ _ _ _ (by decide)]; exact h16)
    refine ⟨C1, fun fu => ?_, k2, k3, fun a q1 q2 => by rw [k4 a q1 q2, up2_row _ _ _ _ q1, up2_row _ _ _ _ q2]⟩
    rw [← Nat.add_assoc, t_Re_copyString, if_neg c1]
    simp only [gR_13_3, gR_13_4, Option.bind_some, aG_nI sh_16 hc (show 4096 ≤ 100000 by decide), h16, nI_ad, xcl_14, g, na, nI_1]
    exact k1 fu
theorem copy_no (h0 : C 13 0 = nI B) (h14 : C 14 1 = nI q) (hq : q ≤ 12000) (hlen : len ≤ 100000) (hr : ¬ q + len ≤ 12000) (hB : B ≤ 256) (hs : (c < B ∧ len = 1) ∨ (B ≤ c ∧ c < 4096 ∧ C 17 c = nI len)) : f_Re_copyString (SS n) N 13 (nI c) C = some (0, C) := by
  unfold f_Re_copyString
  have rm := Nu_room_of (Nu14 n) h14 hq
  rcases hs with ⟨s1, s2⟩ | ⟨s1, s2, s3⟩
  · have c1 : ¬ nI B ≤ nI c := by rw [nI_le_iff (by omega) (by omega)]; omega
    have c2 : ¬ (1 : Int32) ≤ nI (12000 - q) := by rw [show (1 : Int32) = nI 1 from rfl, nI_le_iff (by decide) (by omega)]; omega
    simp only [gI_13_0, h0, Option.bind_some, if_neg c1, if_neg (show ¬ (1 : Int32) = 0 by decide), gR_13_3, xcl_14, rm, if_neg c2]
  · have c1 : nI B ≤ nI c := by rw [nI_le_iff (by omega) (by omega)]; omega
    have c2 : ¬ nI len ≤ nI (12000 - q) := by rw [nI_le_iff (by omega) (by omega)]; omega
    simp only [gI_13_0, h0, Option.bind_some, if_pos c1, if_pos, gR_13_5, aG_nI sh_17 s2 (show 4096 ≤ 100000 by decide), s3, gR_13_3, xcl_14, rm, if_neg c2]
theorem copy_y1 (h0 : C 13 0 = nI B) (h14 : C 14 1 = nI q) (hq : q + 1 ≤ 12000) (hB : B ≤ 256) (hc : c < B) (ho : o q = c) (h15 : ∀ k, k < q → C 15 k = nI (o k)) (hE : E ≤ 1000) (hwd : wd ≤ 12) (hsc : sc ≤ 100000) (hL : L ≤ 4095) (h1 : C 18 1 = nI E) (h2 : C 18 2 = nI wd) (h3 : C 18 3 = nI sc) (h6 : C 13 6 = nI L) : ∃ C', f_Re_copyString (SS n) N 13 (nI c) C = some (1, C') ∧ CpO q 1 wd sc E L o C C' := by
  have rm := Nu_room_of (Nu14 n) h14 (show q ≤ 12000 by omega)
  have na := Nu_add_of (v := nI c) (Nu14 n) h14 (show q < 12000 by omega)
  obtain ⟨C2, C', e1, e2, e3⟩ := cp_tail (n := n) (C := C) (C1 := up2 (up2 C 15 q (nI c)) 14 1 (nI (q + 1))) (q := q) (len := 1) (o := o) hE hwd hsc hL (up2_eq _ _ _ _) (fun k hk => by
    rw [up2_row _ _ _ _ (by decide)]
    by_cases hk2 : k = q
    · subst hk2; rw [up2_eq, ho]
    · rw [up2_ne _ _ _ _ (Or.inr hk2)]; exact h15 k (by omega)) (fun a q1 q2 => by rw [up2_row _ _ _ _ q1, up2_row _ _ _ _ q2]) h1 h2 h3 h6
  refine ⟨C', ?_, e3⟩
  unfold f_Re_copyString
  have c1 : ¬ nI B ≤ nI c := by rw [nI_le_iff (by omega) (by omega)]; omega
  have c2 : (1 : Int32) ≤ nI (12000 - q) := by rw [show (1 : Int32) = nI 1 from rfl, nI_le_iff (by decide) (by omega)]; omega
  have e4 : (1 : Int32) + 1 = nI (1 + 1) := rfl
  simp only [gI_13_0, h0, Option.bind_some, if_neg c1, if_neg (show ¬ (1 : Int32) = 0 by decide), gR_13_3, xcl_14, rm, if_pos c2, (Nu14 n).gI, h14, na, gR_13_2, xcl_18, e1, xcl_13, e4, e2]
theorem copy_y2 (h0 : C 13 0 = nI B) (h14 : C 14 1 = nI q) (hq : q + len ≤ 12000) (hB : B ≤ 256) (hBc : B ≤ c) (hc : c < 4096) (h16 : C 16 c = nI bg) (h17 : C 17 c = nI len) (ho : ∀ i, i < len → bg + i < q + i ∧ o (bg + i) = o (q + i)) (h15 : ∀ k, k < q → C 15 k = nI (o k)) (hE : E ≤ 1000) (hwd : wd ≤ 12) (hsc : sc ≤ 100000) (hL : L ≤ 4095) (h1 : C 18 1 = nI E) (h2 : C 18 2 = nI wd) (h3 : C 18 3 = nI sc) (h6 : C 13 6 = nI L) (hN : 12100 < N) : ∃ C', f_Re_copyString (SS n) N 13 (nI c) C = some (1, C') ∧ CpO q len wd sc E L o C C' := by
  have rm := Nu_room_of (Nu14 n) h14 (show q ≤ 12000 by omega)
  obtain ⟨C1, k1, k2, k3, k4⟩ := cp_loop (n := n) (N := N) (u2 := 0) (u3 := nI len) (u4 := nI q) hq hc ho rfl len 0 C (by omega) h14 h15 h16
  obtain ⟨C2, C', e1, e2, e3⟩ := cp_tail (n := n) (C := C) (C1 := C1) (q := q) (len := len) (o := o) hE hwd hsc hL k2 k3 k4 h1 h2 h3 h6
  refine ⟨C', ?_, e3⟩
  unfold f_Re_copyString
  have c1 : nI B ≤ nI c := by rw [nI_le_iff (by omega) (by omega)]; omega
  have c2 : nI len ≤ nI (12000 - q) := by rw [nI_le_iff (by omega) (by omega)]; omega
  simp only [gI_13_0, h0, Option.bind_some, if_pos c1, if_pos, gR_13_5, aG_nI sh_17 hc (show 4096 ≤ 100000 by decide), h17, gR_13_3, xcl_14, rm, if_pos c2, (Nu14 n).gI, h14]
  obtain ⟨M0, hM0⟩ : ∃ y, N = y + 1 + len := ⟨N - 1 - len, by omega⟩
  have c3 : nI len ≤ nI len := (nI_le_iff (by omega) (by omega)).mpr (Nat.le_refl _)
  have z : t_Re_copyString (SS n) N 13 (nI c) (M0 + 1 + len) 0 (nI len) (nI q) 0 C = some (1, C') := by
    refine Eq.trans (k1 (M0 + 1)) ?_
    rw [t_Re_copyString, if_pos c3]
    simp only [gR_13_2, Option.bind_some, xcl_18, e1, xcl_13, nI_1, e2]
  rw [← hM0] at z
  exact z
end DS
