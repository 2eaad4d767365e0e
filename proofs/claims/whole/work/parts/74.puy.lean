/-! the start: the reference; all of it -/
def OM : xO := Sum.inr (.inr (9, [none, none, none, none, none, none, some (.ref 72), none, some (.ref 73), some (.ref 74), none, some (.ref 75), none, some (.ref 76), none, some (.ref 77), some (.ref 78), some (.ref 79), some (.ref 80), some (.ref 81), none, none, none, none, some (.ref 82), some (.ref 83), some (.ref 84), some (.ref 85), some (.ref 86), some (.ref 87), some (.ref 88), some (.ref 89), some (.ref 90), some (.ref 91), some (.ref 92), some (.ref 93), some (.ref 94)]))
def LM : List xO := [Sum.inl (0, 12000), Sum.inl (3, 24000), Sum.inl (0, 4), Sum.inl (3, 24000), Sum.inl (0, 12000), Sum.inl (0, 4096), Sum.inl (0, 4096), Sum.inl (0, 4096), Sum.inl (0, 4096), Sum.inl (0, 4096), Sum.inl (0, 12), Sum.inl (0, 12), Sum.inl (0, 12), Sum.inl (0, 12), Sum.inl (0, 12), Sum.inl (0, 12), Sum.inl (0, 12), Sum.inl (0, 6912), Sum.inl (0, 3328), Sum.inl (0, 576), Sum.inl (0, 576), Sum.inl (0, 576), Sum.inl (0, 576)]
def moU (S : List xO) (N : Nat) (a : Nat) (v : Int32) (F : xF) : Option (List xO × xF) :=
  (pI S 9 a 0 v F).bind fun F187 =>
  (gI S 9 a 0 F187).bind fun v189 =>
  (pI S 9 a 1 ((1 : Int32) <<< (v189 &&& 31)) F187).bind fun F191 =>
  (gI S 9 a 1 F191).bind fun v193 =>
  (pI S 9 a 2 (v193 + (1 : Int32)) F191).bind fun F195 =>
  (xcl S 9 a (f_Mo_clear S N a F195)).bind fun F197 =>
  some (S, F197)
section IL
variable {b n N : Nat} {F : xF} {p0 : Int32} {A S S' : List xO}
theorem least_of (p0 : Int32) : ∃ b : Nat, 2 ≤ b ∧ b ≤ 8 ∧ xmx 2 (xmn 8 p0) = nI b ∧ ∀ (S : List xO) (N a : Nat) (F : xF), moT S N a p0 F = moU S N a (nI b) F := by
  by_cases c1 : (2 : Int32) ≤ p0
  · by_cases c2 : p0 ≤ 8
    · have h1 : ¬ p0 < nI 2 := by rw [Int32.lt_iff_toInt_lt]; rw [Int32.le_iff_toInt_le] at c1; exact fun q => absurd c1 (by rw [show (2 : Int32) = nI 2 from rfl]; omega)
      obtain ⟨b, rfl, b1, b2⟩ := nI_rng (lo := 2) (hi := 8) h1 c2 (by decide) (by decide)
      refine ⟨b, b1, b2, ?_, fun S N a F => ?_⟩
      · unfold xmx xmn
        by_cases c3 : nI b < 8
        · rw [if_pos c3]
          by_cases c4 : (2 : Int32) < nI b
          · rw [if_pos c4]
          · rw [if_neg c4]
            rw [show (2 : Int32) = nI 2 from rfl, nI_lt_iff (by decide) (by omega)] at c4
            rw [show b = 2 by omega]; rfl
        · rw [if_neg c3]
          rw [show (8 : Int32) = nI 8 from rfl, nI_lt_iff (by omega) (by decide)] at c3
          rw [show b = 8 by omega]; decide
      · unfold moT
        rw [if_pos c1, if_pos c2]
        rfl
    · refine ⟨8, by decide, by decide, ?_, fun S N a F => ?_⟩
      · unfold xmx xmn
        rw [if_neg (show ¬ p0 < 8 by rw [Int32.lt_iff_toInt_lt]; rw [Int32.le_iff_toInt_le] at c2; omega)]
        decide
      · unfold moT
        rw [if_pos c1, if_neg c2]
        rfl
  · refine ⟨2, by decide, by decide, ?_, fun S N a F => ?_⟩
    · unfold xmx xmn
      have e2 : (2 : Int32).toInt = 2 := by decide
      have e8 : (8 : Int32).toInt = 8 := by decide
      rw [Int32.le_iff_toInt_le, e2] at c1
      rw [if_pos (show p0 < 8 by rw [Int32.lt_iff_toInt_lt, e8]; omega), if_neg (show ¬ (2 : Int32) < p0 by rw [Int32.lt_iff_toInt_lt, e2]; omega)]
      rfl
    · unfold moT
      rw [if_neg c1]
      rfl
theorem gR_cg {ci a k : Nat} (h : S'[a]? = S[a]?) : gR S' ci a k = gR S ci a k := by unfold gR; rw [h]
theorem pI_cg {ci a k : Nat} {v : Int32} (h : S'[a]? = S[a]?) : pI S' ci a k v F = pI S ci a k v F := by unfold pI; rw [h]
theorem aP_cg {a : Nat} {j v : Int32} (h : S'[a]? = S[a]?) : aP S' a j v F = aP S a j v F := by unfold aP; rw [h]
theorem tclr_cg (h71 : S'[71]? = (SS n)[71]?) (h74 : S'[74]? = (SS n)[74]?) (h90 : S'[90]? = (SS n)[90]?) : ∀ (fu tg : Nat) (u : Int32) (F : xF), t_Mo_clear S' N 71 fu tg u F = t_Mo_clear (SS n) N 71 fu tg u F := by
  intro fu
  induction fu with
  | zero => intro tg u F; rfl
  | succ fu ih =>
    intro tg u F
    rw [t_Mo_clear, t_Mo_clear]
    simp only [pI_cg h71, gR_cg h71, gR_71_9, gR_71_32, Option.bind_some, aP_cg h74, aP_cg h90, ih]
theorem clr_cg (h71 : S'[71]? = (SS n)[71]?) (h74 : S'[74]? = (SS n)[74]?) (h90 : S'[90]? = (SS n)[90]?) (F : xF) : f_Mo_clear S' N 71 F = f_Mo_clear (SS n) N 71 F := by
  unfold f_Mo_clear
  simp only [pI_cg h71, tclr_cg h71 h74 h90]
theorem FMo_lo {c : Nat} (h : c < 72) : FMo F c = F c := by
  unfold FMo
  rw [upR_ne _ _ _ (by omega), upR_ne _ _ _ (by omega), upR_ne _ _ _ (by omega), upR_ne _ _ _ (by omega), upR_ne _ _ _ (by omega), upR_ne _ _ _ (by omega), upR_ne _ _ _ (by omega), upR_ne _ _ _ (by omega), upR_ne _ _ _ (by omega), upR_ne _ _ _ (by omega), upR_ne _ _ _ (by omega), upR_ne _ _ _ (by omega), upR_ne _ _ _ (by omega), upR_ne _ _ _ (by omega), upR_ne _ _ _ (by omega), upR_ne _ _ _ (by omega), upR_ne _ _ _ (by omega), upR_ne _ _ _ (by omega), upR_ne _ _ _ (by omega), upR_ne _ _ _ (by omega), upR_ne _ _ _ (by omega), upR_ne _ _ _ (by omega), upR_ne _ _ _ (by omega)]
set_option maxRecDepth 100000 in
theorem SS_YZ : (YZ n ++ (OM :: LM)) ++ [Sum.inl (1, 1)] = SS n := rfl
set_option maxRecDepth 100000 in
theorem YZ_len : (YZ n).length = 71 := rfl
theorem at_A {c : Nat} (hc : c < 24) : (YZ n ++ (OM :: LM))[71 + c]? = (SS n)[71 + c]? := by
  rw [← SS_YZ (n := n), List.getElem?_append_left (l₁ := YZ n ++ (OM :: LM))]
  rw [List.length_append, YZ_len]
  show 71 + c < 71 + 24
  omega
theorem moU_of (hb : b ≤ 8) (hN : 5000 < N) : ∃ F', moU (YZ n ++ (OM :: LM)) N 71 (nI b) F = some (YZ n ++ (OM :: LM), F') ∧ (∀ c, c ≠ 71 → c ≠ 74 → c ≠ 90 → F' c = F c) ∧ F' 71 0 = nI b ∧ F' 71 1 = nI (2 ^ b) ∧ F' 71 2 = nI (2 ^ b + 1) ∧ (∀ k, k < 4 → F' 74 k = nI 0) ∧ (∀ k, k < 3328 → F' 90 k = -1) ∧ F' 71 4 = nI 0 ∧ F' 71 5 = nI 0 ∧ F' 71 7 = nI 0 ∧ F' 71 10 = nI 0 ∧ F' 71 12 = nI 0 ∧ F' 71 23 = nI 0 := by
  have h71 : (YZ n ++ (OM :: LM))[71]? = (SS n)[71]? := at_A (c := 0) (by decide)
  have h74 : (YZ n ++ (OM :: LM))[74]? = (SS n)[74]? := at_A (c := 3) (by decide)
  have h90 : (YZ n ++ (OM :: LM))[90]? = (SS n)[90]? := at_A (c := 19) (by decide)
  have pI_k : ∀ (k : Nat) (v : Int32) (K : xF), pI (YZ n ++ (OM :: LM)) 9 71 k v K = pI (SS n) 9 71 k v K := fun k v K => pI_cg h71
  have gI_k : ∀ (k : Nat) (K : xF), gI (YZ n ++ (OM :: LM)) 9 71 k K = gI (SS n) 9 71 k K := fun k K => by unfold gI; rw [h71]
  have xc : ∀ {α : Type} (o : Option α), xcl (YZ n ++ (OM :: LM)) 9 71 o = o := fun o => by
    have : xcl (YZ n ++ (OM :: LM)) 9 71 o = xcl (SS n) 9 71 o := by unfold xcl; rw [h71]
    rw [this, xcl_71]
  obtain ⟨K, hK⟩ : ∃ K, K = up2 (up2 (up2 F 71 0 (nI b)) 71 1 (nI (2 ^ b))) 71 2 (nI (2 ^ b + 1)) := ⟨_, rfl⟩
  obtain ⟨F', k1, k2, k3, k4, k5, k6, k7, k8, k9, k10, k11⟩ := mclear_of (n := n) (N := N) K (by omega)
  have s1 : up2 F 71 0 (nI b) 71 0 = nI b := up2_eq _ _ _ _
  have s2 : up2 (up2 F 71 0 (nI b)) 71 1 (nI (2 ^ b)) 71 1 = nI (2 ^ b) := up2_eq _ _ _ _
  refine ⟨F', ?_, fun c q1 q2 q3 => ?_, ?_, ?_, ?_, k3, k4, k6, k7, k8, k9, k10, k11⟩
  · unfold moU
    simp only [pI_k, gI_k, xc, pI_71_0, pI_71_1, pI_71_2, gI_71_0, gI_71_1, Option.bind_some, s1, sh1 (show b ≤ 12 by omega), s2, nI_1, clr_cg h71 h74 h90, ← hK, k1]
  · rw [k2 c q1 q2 q3, hK, up2_row _ _ _ _ q1, up2_row _ _ _ _ q1, up2_row _ _ _ _ q1]
  · rw [k5 0 (by decide) (by decide) (by decide) (by decide) (by decide) (by decide) (by decide), hK]; simp [up2]
  · rw [k5 1 (by decide) (by decide) (by decide) (by decide) (by decide) (by decide) (by decide), hK]; simp [up2]
  · rw [k5 2 (by decide) (by decide) (by decide) (by decide) (by decide) (by decide) (by decide), hK, up2_eq]
end IL
