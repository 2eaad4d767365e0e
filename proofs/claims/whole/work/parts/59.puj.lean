/-! widths, begin, clear -/
def nw (E wd sc : Nat) : Nat := if wd < 12 ∧ E + (sc + 1) = 2 ^ wd then wd + 1 else wd
def Wok (b E z wd sc : Nat) : Prop := b + 1 ≤ wd ∧ wd ≤ 12 ∧ (E + sc < 2 ^ wd ∨ wd = 12) ∧ z ≤ E + sc ∧ sc ≤ 100000
theorem Wok.step {b E z wd sc z' : Nat} (h : Wok b E z wd sc) (hz : z' ≤ z + 1) (hs : sc + 1 ≤ 100000) : Wok b E z' (nw E wd sc) (sc + 1) := by
  obtain ⟨h1, h2, h3, h4, h5⟩ := h
  unfold nw
  by_cases c : wd < 12 ∧ E + (sc + 1) = 2 ^ wd
  · rw [if_pos c]
    refine ⟨by omega, by omega, Or.inl ?_, by omega, hs⟩
    rw [c.2, Nat.pow_succ]
    have := Nat.two_pow_pos wd
    omega
  · rw [if_neg c]
    refine ⟨h1, h2, ?_, by omega, hs⟩
    by_cases c2 : wd = 12
    · exact Or.inr c2
    · left
      rcases h3 with q | q
      · have : ¬ E + (sc + 1) = 2 ^ wd := fun r => c ⟨by omega, r⟩
        omega
      · exact absurd q c2
theorem Wok.new {b : Nat} (h2 : 2 ≤ b) (h8 : b ≤ 8) : Wok b (2 ^ b + 1) (2 ^ b + 1) (b + 1) 0 := by
  refine ⟨Nat.le_refl _, by omega, Or.inl ?_, Nat.le_refl _, by omega⟩
  rw [Nat.pow_succ]
  have := (pw8 h2 h8).1
  omega
theorem Wok.code {b E z wd sc c : Nat} (h : Wok b E z wd sc) (hz : z ≤ 4095) (hc : c ≤ z) : c < 2 ^ wd := by
  obtain ⟨h1, h2, h3, h4, h5⟩ := h
  rcases h3 with q | q
  · omega
  · rw [q]
    have : (2 : Nat) ^ 12 = 4096 := by decide
    omega
theorem Wok.low {b E z wd sc c : Nat} (h : Wok b E z wd sc) (hb : 1 ≤ b) (hc : c ≤ 2 ^ b + 1) : c < 2 ^ wd := by
  have h1 := p2le h.1
  rw [Nat.pow_succ] at h1
  have h2 := p2le (show 1 ≤ b from hb)
  by_cases hb1 : b = 1
  · subst hb1
    have : (2 : Nat) ^ 1 = 2 := rfl
    omega
  · have h3 := p2le (show 2 ≤ b by omega)
    have : (2 : Nat) ^ 2 = 4 := rfl
    omega
section WI
variable {b n N E z wd sc : Nat} {C M : xF}
theorem wi_of {S : List xO} {a : Nat} (ho : S[a]? = some (.inr (.inr (1, [none, none, none, none])))) (h1 : C a 1 = nI E) (h2 : C a 2 = nI wd) (h3 : C a 3 = nI sc) (hE : E ≤ 1000) (hwd : wd ≤ 12) (hsc : sc ≤ 100000) : ∃ C', f_Wi_behindEntry S a C = some C' ∧ C' a 2 = nI (nw E wd sc) ∧ C' a 3 = nI (sc + 1) ∧ (∀ j, j ≠ 2 → j ≠ 3 → C' a j = C a j) ∧ (∀ i, i ≠ a → C' i = C i) := by
  have g1 : ∀ K : xF, gI S 1 a 1 K = some (K a 1) := fun K => gI_of ho rfl
  have g2 : ∀ K : xF, gI S 1 a 2 K = some (K a 2) := fun K => gI_of ho rfl
  have g3 : ∀ K : xF, gI S 1 a 3 K = some (K a 3) := fun K => gI_of ho rfl
  have w2 : ∀ (K : xF) (v : Int32), pI S 1 a 2 v K = some (up2 K a 2 v) := fun K v => pI_of ho rfl
  have w3 : ∀ (K : xF) (v : Int32), pI S 1 a 3 v K = some (up2 K a 3 v) := fun K v => pI_of ho rfl
  have r2 : up2 C a 3 (nI (sc + 1)) a 2 = nI wd := by rw [up2_ne _ _ _ _ (Or.inr (by decide))]; exact h2
  have r1 : up2 C a 3 (nI (sc + 1)) a 1 = nI E := by rw [up2_ne _ _ _ _ (Or.inr (by decide))]; exact h1
  have hpw : 2 ^ wd ≤ 4096 := p2le hwd
  unfold f_Wi_behindEntry
  simp only [g1, g2, g3, w2, w3, Option.bind_some, h3, nI_1, r1, r2, up2_eq, nI_ad, sh1 hwd]
  by_cases c1 : wd = 12
  · refine ⟨up2 C a 3 (nI (sc + 1)), ?_, ?_, up2_eq _ _ _ _, fun j q1 q2 => by rw [up2_ne _ _ _ _ (Or.inr q2)], fun i q => by rw [up2_row _ _ _ _ q]⟩
    · rw [if_pos (by rw [c1]; decide)]
    · rw [r2]; unfold nw; rw [if_neg (fun q => by omega)]
  · have c2 : ¬ (12 : Int32) ≤ nI wd := by rw [show (12 : Int32) = nI 12 from rfl, nI_le_iff (by decide) (by omega)]; omega
    rw [if_neg c2]
    by_cases c3 : E + (sc + 1) = 2 ^ wd
    · refine ⟨up2 (up2 C a 3 (nI (sc + 1))) a 2 (nI (wd + 1)), ?_, ?_, ?_, fun j q1 q2 => by rw [up2_ne _ _ _ _ (Or.inr q1), up2_ne _ _ _ _ (Or.inr q2)], fun i q => by rw [up2_row _ _ _ _ q, up2_row _ _ _ _ q]⟩
      · rw [if_pos (by rw [c3])]
      · rw [up2_eq]; unfold nw; rw [if_pos ⟨by omega, c3⟩]
      · rw [up2_ne _ _ _ _ (Or.inr (by decide)), up2_eq]
    · refine ⟨up2 C a 3 (nI (sc + 1)), ?_, ?_, up2_eq _ _ _ _, fun j q1 q2 => by rw [up2_ne _ _ _ _ (Or.inr q2)], fun i q => by rw [up2_row _ _ _ _ q]⟩
      · rw [if_neg (by rw [nI_eq_iff (by omega) (by omega)]; exact c3)]
      · rw [r2]; unfold nw; rw [if_neg (fun q => c3 q.2)]
theorem mwi_of (h1 : M 71 2 = nI E) (h2 : M 71 21 = nI wd) (h3 : M 71 22 = nI sc) (hE : E ≤ 1000) (hwd : wd ≤ 12) (hsc : sc ≤ 100000) : ∃ M', f_Mo_widen (SS n) 71 M = some M' ∧ M' 71 21 = nI (nw E wd sc) ∧ M' 71 22 = nI (sc + 1) ∧ (∀ j, j ≠ 21 → j ≠ 22 → M' 71 j = M 71 j) ∧ (∀ i, i ≠ 71 → M' i = M i) := by
  have r2 : up2 M 71 22 (nI (sc + 1)) 71 21 = nI wd := by rw [up2_ne _ _ _ _ (Or.inr (by decide))]; exact h2
  have r1 : up2 M 71 22 (nI (sc + 1)) 71 2 = nI E := by rw [up2_ne _ _ _ _ (Or.inr (by decide))]; exact h1
  have hpw : 2 ^ wd ≤ 4096 := p2le hwd
  unfold f_Mo_widen
  simp only [gI_71_2, gI_71_21, gI_71_22, pI_71_21, pI_71_22, Option.bind_some, h3, nI_1, r1, r2, up2_eq, nI_ad, sh1 hwd]
  by_cases c1 : wd = 12
  · refine ⟨up2 M 71 22 (nI (sc + 1)), ?_, ?_, up2_eq _ _ _ _, fun j q1 q2 => by rw [up2_ne _ _ _ _ (Or.inr q2)], fun i q => by rw [up2_row _ _ _ _ q]⟩
    · rw [if_pos (by rw [c1]; decide)]
    · rw [r2]; unfold nw; rw [if_neg (fun q => by omega)]
  · have c2 : ¬ (12 : Int32) ≤ nI wd := by rw [show (12 : Int32) = nI 12 from rfl, nI_le_iff (by decide) (by omega)]; omega
    rw [if_neg c2]
    by_cases c3 : E + (sc + 1) = 2 ^ wd
    · refine ⟨up2 (up2 M 71 22 (nI (sc + 1))) 71 21 (nI (wd + 1)), ?_, ?_, ?_, fun j q1 q2 => by rw [up2_ne _ _ _ _ (Or.inr q1), up2_ne _ _ _ _ (Or.inr q2)], fun i q => by rw [up2_row _ _ _ _ q, up2_row _ _ _ _ q]⟩
      · rw [if_pos (by rw [c3])]
      · rw [up2_eq]; unfold nw; rw [if_pos ⟨by omega, c3⟩]
      · rw [up2_ne _ _ _ _ (Or.inr (by decide)), up2_eq]
    · refine ⟨up2 M 71 22 (nI (sc + 1)), ?_, ?_, up2_eq _ _ _ _, fun j q1 q2 => by rw [up2_ne _ _ _ _ (Or.inr q2)], fun i q => by rw [up2_row _ _ _ _ q]⟩
      · rw [if_neg (by rw [nI_eq_iff (by omega) (by omega)]; exact c3)]
      · rw [r2]; unfold nw; rw [if_neg (fun q => c3 q.2)]
theorem be0 : ∀ (d k : Nat) (R : xF), k + d = 4096 → ∃ R', (∀ fu, t_Mo_begin (SS n) N 71 (fu + d) 0 (nI k) R = t_Mo_begin (SS n) N 71 fu 0 (nI 4096) R') ∧ (∀ a, a ≠ 80 → R' a = R a) ∧ (∀ j, k ≤ j → j < 4096 → R' 80 j = -1) ∧ (∀ j, j < k → R' 80 j = R 80 j) := by
  intro d
  induction d with
  | zero =>
    intro k R hk
    have : k = 4096 := by omega
    subst this
    exact ⟨R, fun fu => rfl, fun a _ => rfl, fun j q1 q2 => by omega, fun j _ => rfl⟩
  | succ d ih =>
    intro k R hk
    obtain ⟨R', e1, e2, e3, e4⟩ := ih (k + 1) (up2 R 80 k (-1)) (by omega)
    have c : ¬ (4096 : Int32) ≤ nI k := by rw [show (4096 : Int32) = nI 4096 from rfl, nI_le_iff (by decide) (by omega)]; omega
    refine ⟨R', fun fu => ?_, fun a q1 => ?_, fun j q1 q2 => ?_, fun j q1 => ?_⟩
    · rw [← Nat.add_assoc, t_Mo_begin, if_pos rfl, if_neg c]
      simp only [gR_71_18, Option.bind_some, aP_nI sh_80 (show k < 4096 by omega) (show 4096 ≤ 100000 by decide), nI_1]
      exact e1 fu
    · rw [e2 a q1, up2_row _ _ _ _ q1]
    · by_cases hj : j = k
      · subst hj
        rw [e4 j (by omega), up2_eq]
      · exact e3 j (by omega) q2
    · rw [e4 j (by omega), up2_ne _ _ _ _ (Or.inr (by omega))]
theorem be1 {B : Nat} (hB : B ≤ 256) : ∀ (d k fu : Nat) (R : xF), k + d = B → d < fu → R 71 1 = nI B → ∃ R', t_Mo_begin (SS n) N 71 fu 1 (nI k) R = some R' ∧ (∀ a, a ≠ 77 → a ≠ 78 → a ≠ 79 → R' a = R a) ∧ (∀ j, k ≤ j → j < B → R' 77 j = -1 ∧ R' 78 j = nI j ∧ R' 79 j = nI 1) ∧ (∀ j, j < k → R' 77 j = R 77 j ∧ R' 78 j = R 78 j ∧ R' 79 j = R 79 j) := by
  intro d
  induction d with
  | zero =>
    intro k fu R hk hf h1
    obtain ⟨fu, rfl⟩ : ∃ z, fu = z + 1 := ⟨fu - 1, by omega⟩
    have : k = B := by omega
    subst this
    have c : nI k ≤ nI k := (nI_le_iff (by omega) (by omega)).mpr (Nat.le_refl _)
    refine ⟨R, ?_, fun a _ _ _ => rfl, fun j q1 q2 => by omega, fun j _ => ⟨rfl, rfl, rfl⟩⟩
    rw [t_Mo_begin, if_neg (by decide)]
    simp only [gI_71_1, h1, Option.bind_some, if_pos c]
  | succ d ih =>
    intro k fu R hk hf h1
    obtain ⟨fu, rfl⟩ : ∃ z, fu = z + 1 := ⟨fu - 1, by omega⟩
    have c : ¬ nI B ≤ nI k := by rw [nI_le_iff (by omega) (by omega)]; omega
    have hk4 : k < 4096 := by omega
    obtain ⟨R', e1, e2, e3, e4⟩ := ih (k + 1) fu (up2 (up2 (up2 R 77 k (-1)) 78 k (nI k)) 79 k 1) (by omega) (by omega) (by rw [up2_row _ _ _ _ (by decide), up2_row _ _ _ _ (by decide), up2_row _ _ _ _ (by decide)]; exact h1)
    refine ⟨R', ?_, fun a q1 q2 q3 => ?_, fun j q1 q2 => ?_, fun j q1 => ?_⟩
    · rw [t_Mo_begin, if_neg (by decide)]
      simp only [gI_71_1, h1, Option.bind_some, if_neg c, gR_71_15, gR_71_16, gR_71_17, aP_nI sh_77 hk4 (show 4096 ≤ 100000 by decide), aP_nI sh_78 hk4 (show 4096 ≤ 100000 by decide), aP_nI sh_79 hk4 (show 4096 ≤ 100000 by decide), nI_1]
      exact e1
    · rw [e2 a q1 q2 q3, up2_row _ _ _ _ q3, up2_row _ _ _ _ q2, up2_row _ _ _ _ q1]
    · by_cases hj : j = k
      · subst hj
        obtain ⟨w1, w2, w3⟩ := e4 j (by omega)
        rw [w1, w2, w3, up2_row _ _ _ _ (by decide), up2_row _ _ _ _ (by decide), up2_eq, up2_row _ _ _ _ (by decide), up2_eq, up2_eq]
        exact ⟨rfl, rfl, rfl⟩
      · exact e3 j (by omega) q2
    · obtain ⟨w1, w2, w3⟩ := e4 j (by omega)
      rw [w1, w2, w3, up2_row _ _ _ _ (by decide), up2_row _ _ _ _ (by decide), up2_ne _ _ _ _ (Or.inr (by omega)), up2_row _ _ _ _ (by decide), up2_ne _ _ _ _ (Or.inr (by omega)), up2_row _ _ _ _ (by decide), up2_ne _ _ _ _ (Or.inr (by omega)), up2_row _ _ _ _ (by decide), up2_row _ _ _ _ (by decide)]
      exact ⟨rfl, rfl, rfl⟩
theorem begin_of (hb2 : 2 ≤ b) (hb8 : b ≤ 8) (h0 : M 71 0 = nI b) (h1 : M 71 1 = nI (2 ^ b)) (h2 : M 71 2 = nI (2 ^ b + 1)) (hN : 8200 < N) : ∃ M', f_Mo_begin (SS n) N 71 M = some M' ∧ M' 71 14 = nI (2 ^ b + 1 + 1) ∧ M' 71 21 = nI (b + 1) ∧ M' 71 22 = nI 0 ∧ (∀ j, j ≠ 14 → j ≠ 21 → j ≠ 22 → M' 71 j = M 71 j) ∧ (∀ k, k < 4096 → M' 80 k = -1) ∧ (∀ k, k < 2 ^ b → M' 77 k = -1 ∧ M' 78 k = nI k ∧ M' 79 k = nI 1) ∧ (∀ a, a ≠ 71 → a ≠ 77 → a ≠ 78 → a ≠ 79 → a ≠ 80 → M' a = M a) := by
  obtain ⟨p1, p2⟩ := pw8 hb2 hb8
  obtain ⟨K, hK⟩ : ∃ K, K = up2 (up2 (up2 M 71 14 (nI (2 ^ b + 1 + 1))) 71 21 (nI (b + 1))) 71 22 0 := ⟨_, rfl⟩
  have o71 : ∀ j, j ≠ 14 → j ≠ 21 → j ≠ 22 → K 71 j = M 71 j := fun j q1 q2 q3 => by rw [hK, up2_ne _ _ _ _ (Or.inr q3), up2_ne _ _ _ _ (Or.inr q2), up2_ne _ _ _ _ (Or.inr q1)]
  have o : ∀ a, a ≠ 71 → K a = M a := fun a q => by rw [hK, up2_row _ _ _ _ q, up2_row _ _ _ _ q, up2_row _ _ _ _ q]
  obtain ⟨R, e1, e2, e3, -⟩ := be0 (n := n) (N := N) 4096 0 K (by omega)
  obtain ⟨M', k1, k2, k3, -⟩ := be1 (n := n) (N := N) p2 (2 ^ b) 0 (N - 4097) R (by omega) (by omega) (by rw [e2 71 (by decide), o71 1 (by decide) (by decide) (by decide)]; exact h1)
  have r71 : M' 71 = K 71 := by rw [k2 71 (by decide) (by decide) (by decide), e2 71 (by decide)]
  refine ⟨M', ?_, ?_, ?_, ?_, fun j q1 q2 q3 => by rw [r71, o71 j q1 q2 q3], fun k hk => ?_, fun k hk => k3 k (by omega) hk, fun a q1 q2 q3 q4 q5 => by rw [k2 a q2 q3 q4, e2 a q5, o a q1]⟩
  · unfold f_Mo_begin
    have s0 : up2 M 71 14 (nI (2 ^ b + 1 + 1)) 71 0 = nI b := by rw [up2_ne _ _ _ _ (Or.inr (by decide))]; exact h0
    simp only [gI_71_2, h2, Option.bind_some, nI_1, pI_71_14, gI_71_0, s0, pI_71_21, pI_71_22]
    rw [← hK]
    have e := e1 (N - 4097 + 1)
    rw [show N - 4097 + 1 + 4096 = N by omega] at e
    refine Eq.trans e ?_
    rw [t_Mo_begin, if_pos rfl, if_pos (by decide)]
    exact k1
  · rw [r71, hK]; simp [up2]
  · rw [r71, hK]; simp [up2]
  · rw [r71, hK, up2_eq]; rfl
  · rw [k2 80 (by decide) (by decide) (by decide)]; exact e3 k (by omega) hk
end WI
