/-! encode: the loops' steps -/
def due (z ru lc ls : Nat) : Prop := z = 4095 ∧ (ru = 0 ∨ (ru = 2 ∧ 64 ≤ lc ∧ ls < 256))
def lk (z ru lc v : Nat) : Nat := if z = 4095 ∧ ru = 2 ∧ 64 ≤ lc then 0 else v
section EL
variable {b n N r ru V T z wd sc lc ls c m p s i at_ : Nat} {sy pk : Nat → Nat} {a0 a1 a2 u1 u2 u3 u4 u5 u6 u7 u8 : Int32} {C M M1 M2 M3 : xF}
theorem CS.look {C1 : xF} {lc' ls' : Nat} (h : CS b r sy V T z wd sc lc ls pk a0 a1 a2 C) (o : ∀ a, a ≠ 5 → C1 a = C a) (oj : ∀ j, j ≠ 10 → j ≠ 11 → C1 5 j = C 5 j) (h10 : C1 5 10 = nI lc') (h11 : C1 5 11 = nI ls') : CS b r sy V T z wd sc lc' ls' pk a0 a1 a2 C1 := by
  obtain ⟨h1, h2, h3, h4, h5, h6, h7, h8, h9, h10', h11', h12, h13, h14, h15⟩ := h
  refine ⟨h1.ag (by rw [o 6 (by decide)]) (oj 8 (by decide) (by decide)) (oj 9 (by decide) (by decide)) (o 7 (by decide)), h2.ag (by rw [o 9 (by decide)]) (by rw [o 9 (by decide)]) (o 10 (by decide)) (o 11 (by decide)) (o 12 (by decide)), ?_, ?_, ?_, ?_, ?_, ?_, ?_, ?_, ?_, h10, h11, ?_, fun k hk => ?_⟩
  · rw [o 8 (by decide)]; exact h3
  · rw [o 8 (by decide)]; exact h4
  · rw [o 8 (by decide)]; exact h5
  · rw [o 8 (by decide)]; exact h6
  · rw [oj 0 (by decide) (by decide)]; exact h7
  · rw [oj 1 (by decide) (by decide)]; exact h8
  · rw [oj 5 (by decide) (by decide)]; exact h9
  · rw [oj 6 (by decide) (by decide)]; exact h10'
  · rw [oj 7 (by decide) (by decide)]; exact h11'
  · rw [o 1 (by decide)]; exact h14
  · rw [o 2 (by decide)]; exact h15 k hk
theorem cdue_n (h : CS b r sy V T z wd sc lc ls pk a0 a1 a2 C) (hz : z ≤ 4095) (hru : ru ≤ 2) (hlc : lc ≤ 20000) (hls : ls ≤ 20000) (hd : ¬ due z ru lc ls) : ∃ C1, f_Co_isClearDue (SS n) 5 (nI ru) C = some (0, C1) ∧ CS b r sy V T z wd sc (lk z ru lc lc) (lk z ru lc ls) pk a0 a1 a2 C1 ∧ FrCl C C1 := by
  have i2 := h.2.1.2.1
  have h10 : C 5 10 = nI lc := h.2.2.2.2.2.2.2.2.2.2.2.1
  have h11 : C 5 11 = nI ls := h.2.2.2.2.2.2.2.2.2.2.2.2.1
  have r1 : ∀ k : Nat, k < 3 → (nI ru = nI k ↔ ru = k) := fun k hk => nI_eq_iff (by omega) (by omega)
  by_cases c1 : ru = 1
  · have : ¬ (z = 4095 ∧ ru = 2 ∧ 64 ≤ lc) := by omega
    refine ⟨C, ?_, by unfold lk; rw [if_neg this, if_neg this]; exact h, FrCl.rf⟩
    unfold f_Co_isClearDue
    rw [if_pos (show nI ru = 1 from (r1 1 (by decide)).mpr c1)]
  · have n1 : ¬ nI ru = 1 := fun q => c1 ((r1 1 (by decide)).mp q)
    by_cases c2 : z < 4095
    · have : ¬ (z = 4095 ∧ ru = 2 ∧ 64 ≤ lc) := by omega
      refine ⟨C, ?_, by unfold lk; rw [if_neg this, if_neg this]; exact h, FrCl.rf⟩
      unfold f_Co_isClearDue
      simp only [if_neg n1, gR_5_3, Option.bind_some, xcl_9, full_of i2 hz, if_pos c2, if_pos]
    · have c3 : ru = 2 := by
        have : ru ≠ 0 := fun q => hd ⟨by omega, Or.inl q⟩
        omega
      have n0 : ¬ nI ru = 0 := fun q => by have := (r1 0 (by decide)).mp q; omega
      have n10 : ¬ (1 : Int32) = 0 := by decide
      by_cases c4 : 64 ≤ lc
      · have c5 : 256 ≤ ls := by
          refine Classical.byContradiction fun q => hd ⟨by omega, Or.inr ⟨c3, c4, by omega⟩⟩
        have d4 : (64 : Int32) ≤ nI lc := by rw [show (64 : Int32) = nI 64 from rfl, nI_le_iff (by decide) (by omega)]; exact c4
        have d5 : (256 : Int32) ≤ nI ls := by rw [show (256 : Int32) = nI 256 from rfl, nI_le_iff (by decide) (by omega)]; exact c5
        have : z = 4095 ∧ ru = 2 ∧ 64 ≤ lc := by omega
        refine ⟨up2 (up2 C 5 10 0) 5 11 0, ?_, ?_, fun a q => by rw [up2_row _ _ _ _ (by omega), up2_row _ _ _ _ (by omega)]⟩
        · unfold f_Co_isClearDue f_Co_startLook
          simp only [if_neg n1, gR_5_3, Option.bind_some, xcl_9, full_of i2 hz, if_neg c2, if_neg n10, if_neg n0, gI_5_10, h10, if_pos d4, gI_5_11, h11, if_pos d5, xcl_5, pI_5_10, pI_5_11]
        · unfold lk
          rw [if_pos this, if_pos this]
          exact h.look (fun a q => by rw [up2_row _ _ _ _ q, up2_row _ _ _ _ q]) (fun j q1 q2 => by rw [up2_ne _ _ _ _ (Or.inr q2), up2_ne _ _ _ _ (Or.inr q1)]) (by rw [up2_ne _ _ _ _ (Or.inr (by decide)), up2_eq]; rfl) (by rw [up2_eq]; rfl)
      · have : ¬ (z = 4095 ∧ ru = 2 ∧ 64 ≤ lc) := by omega
        have d4 : ¬ (64 : Int32) ≤ nI lc := by rw [show (64 : Int32) = nI 64 from rfl, nI_le_iff (by decide) (by omega)]; exact c4
        refine ⟨C, ?_, by unfold lk; rw [if_neg this, if_neg this]; exact h, FrCl.rf⟩
        unfold f_Co_isClearDue
        simp only [if_neg n1, gR_5_3, Option.bind_some, xcl_9, full_of i2 hz, if_neg c2, if_neg n10, if_neg n0, gI_5_10, h10, if_neg d4]
theorem cdue_y (h : CS b r sy V T z wd sc lc ls pk a0 a1 a2 C) (hz : z ≤ 4095) (hru : ru ≤ 2) (hlc : lc ≤ 20000) (hls : ls ≤ 20000) (hd : due z ru lc ls) : ∃ C1 lc' ls', f_Co_isClearDue (SS n) 5 (nI ru) C = some (1, C1) ∧ CS b r sy V T z wd sc lc' ls' pk a0 a1 a2 C1 ∧ FrCl C C1 := by
  have i2 := h.2.1.2.1
  have h10 : C 5 10 = nI lc := h.2.2.2.2.2.2.2.2.2.2.2.1
  have h11 : C 5 11 = nI ls := h.2.2.2.2.2.2.2.2.2.2.2.2.1
  have r1 : ∀ k : Nat, k < 3 → (nI ru = nI k ↔ ru = k) := fun k hk => nI_eq_iff (by omega) (by omega)
  have c2 : ¬ z < 4095 := by have := hd.1; omega
  have n10 : ¬ (1 : Int32) = 0 := by decide
  have n1 : ¬ nI ru = 1 := fun q => by
    have := (r1 1 (by decide)).mp q
    rcases hd.2 with q | q
    · omega
    · omega
  rcases hd.2 with q | ⟨q1, q2, q3⟩
  · refine ⟨C, lc, ls, ?_, h, FrCl.rf⟩
    unfold f_Co_isClearDue
    simp only [if_neg n1, gR_5_3, Option.bind_some, xcl_9, full_of i2 hz, if_neg c2, if_neg n10, if_pos (show nI ru = 0 from (r1 0 (by decide)).mpr q)]
  · have n0 : ¬ nI ru = 0 := fun q => by have := (r1 0 (by decide)).mp q; omega
    have d4 : (64 : Int32) ≤ nI lc := by rw [show (64 : Int32) = nI 64 from rfl, nI_le_iff (by decide) (by omega)]; exact q2
    have d5 : ¬ (256 : Int32) ≤ nI ls := by rw [show (256 : Int32) = nI 256 from rfl, nI_le_iff (by decide) (by omega)]; omega
    refine ⟨up2 (up2 C 5 10 0) 5 11 0, 0, 0, ?_, ?_, fun a q => by rw [up2_row _ _ _ _ (by omega), up2_row _ _ _ _ (by omega)]⟩
    · unfold f_Co_isClearDue f_Co_startLook
      simp only [if_neg n1, gR_5_3, Option.bind_some, xcl_9, full_of i2 hz, if_neg c2, if_neg n10, if_neg n0, gI_5_10, h10, if_pos d4, gI_5_11, h11, if_neg d5, xcl_5, pI_5_10, pI_5_11]
    · exact h.look (fun a q => by rw [up2_row _ _ _ _ q, up2_row _ _ _ _ q]) (fun j q1 q2 => by rw [up2_ne _ _ _ _ (Or.inr q2), up2_ne _ _ _ _ (Or.inr q1)]) (by rw [up2_ne _ _ _ _ (Or.inr (by decide)), up2_eq]; rfl) (by rw [up2_eq]; rfl)
/-! the reference's tags -/
theorem me1 (fu : Nat) (h5 : M 71 5 = nI r) (h14 : M 71 14 = nI (z + 1)) (hz : z ≤ 4095) (hr : r ≤ 12000) (hi : i < r) : t_Mo_encode (SS n) N 71 (fu + 1) 1 (nI i) u2 u3 u4 u5 u6 u7 u8 M = t_Mo_encode (SS n) N 71 fu 2 (nI i) u2 u3 (if z < 4095 then 0 else 1) 0 0 0 0 M := by
  have c1 : ¬ nI r ≤ nI i := by rw [nI_le_iff (by omega) (by omega)]; omega
  rw [t_Mo_encode, if_neg (by decide), if_pos rfl]
  simp only [gI_71_5, h5, Option.bind_some, if_neg c1, gI_71_14, h14]
  by_cases c : z < 4095
  · rw [if_pos c, if_neg (by rw [show (4096 : Int32) = nI 4096 from rfl, nI_eq_iff (by omega) (by decide)]; omega)]
  · rw [if_neg c, if_pos (by rw [show z = 4095 by omega]; rfl)]
theorem me2a (fu : Nat) (h4 : M 71 4 = nI ru) (hc : ¬ (ru = 2 ∧ u4 ≠ 0 ∧ u2 = 64)) (hru : ru ≤ 2) : t_Mo_encode (SS n) N 71 (fu + 1) 2 u1 u2 u3 u4 u5 u6 u7 u8 M = t_Mo_encode (SS n) N 71 fu 3 u1 u2 u3 u4 0 0 0 0 M := by
  rw [t_Mo_encode, if_neg (by decide), if_neg (by decide), if_pos rfl]
  simp only [gI_71_4, h4, Option.bind_some]
  by_cases c1 : ru = 2
  · rw [if_pos (by rw [c1]; rfl)]
    by_cases c2 : u4 = 0
    · rw [if_pos c2]
    · rw [if_neg c2]
      by_cases c3 : u2 = 64
      · exact absurd ⟨c1, c2, c3⟩ hc
      · rw [if_neg c3]
  · rw [if_neg (by rw [show (2 : Int32) = nI 2 from rfl, nI_eq_iff (by omega) (by decide)]; exact c1)]
theorem me2b (fu : Nat) (h4 : M 71 4 = nI 2) (h2 : u4 ≠ 0) : t_Mo_encode (SS n) N 71 (fu + 1) 2 u1 64 u3 u4 u5 u6 u7 u8 M = t_Mo_encode (SS n) N 71 fu 4 u1 64 u3 u4 1 0 0 0 M := by
  rw [t_Mo_encode, if_neg (by decide), if_neg (by decide), if_pos rfl]
  simp only [gI_71_4, h4, Option.bind_some]
  rw [if_pos (by rfl), if_neg h2, if_pos trivial]
theorem me3 (fu : Nat) : t_Mo_encode (SS n) N 71 (fu + 1) 3 u1 u2 u3 u4 u5 u6 u7 u8 M = t_Mo_encode (SS n) N 71 fu 4 u1 u2 u3 u4 0 0 0 0 M := by
  rw [t_Mo_encode, if_neg (by decide), if_neg (by decide), if_neg (by decide), if_pos rfl]
theorem me4a (fu : Nat) (h4 : M 71 4 = nI ru) (hru : ru ≤ 2) (hc : ¬ (ru = 0 ∧ u4 ≠ 0)) : t_Mo_encode (SS n) N 71 (fu + 1) 4 u1 u2 u3 u4 u5 u6 u7 u8 M = t_Mo_encode (SS n) N 71 fu 5 u1 u2 u3 u4 u5 0 0 0 M := by
  rw [t_Mo_encode, if_neg (by decide), if_neg (by decide), if_neg (by decide), if_neg (by decide), if_pos rfl]
  simp only [gI_71_4, h4, Option.bind_some]
  by_cases c1 : ru = 0
  · rw [if_pos (by rw [c1]; rfl)]
    by_cases c2 : u4 = 0
    · rw [if_pos c2]
    · exact absurd ⟨c1, c2⟩ hc
  · rw [if_neg (nI_ne0 (by omega) (by omega))]
theorem me4b (fu : Nat) (h4 : M 71 4 = nI 0) (h2 : u4 ≠ 0) : t_Mo_encode (SS n) N 71 (fu + 1) 4 u1 u2 u3 u4 u5 u6 u7 u8 M = t_Mo_encode (SS n) N 71 fu 6 u1 u2 u3 u4 u5 0 0 0 M := by
  rw [t_Mo_encode, if_neg (by decide), if_neg (by decide), if_neg (by decide), if_neg (by decide), if_pos rfl]
  simp only [gI_71_4, h4, Option.bind_some]
  rw [if_pos (by rfl), if_neg h2]
theorem me5a (fu : Nat) : t_Mo_encode (SS n) N 71 (fu + 1) 5 u1 u2 u3 u4 0 u6 u7 u8 M = t_Mo_encode (SS n) N 71 fu 7 u1 u2 u3 u4 0 0 0 0 M := by
  rw [t_Mo_encode, if_neg (by decide), if_neg (by decide), if_neg (by decide), if_neg (by decide), if_neg (by decide), if_pos rfl, if_pos rfl]
theorem me5b (fu : Nat) (h : (256 : Int32) ≤ u3) : t_Mo_encode (SS n) N 71 (fu + 1) 5 u1 u2 u3 u4 1 u6 u7 u8 M = t_Mo_encode (SS n) N 71 fu 7 u1 u2 u3 u4 1 0 0 0 M := by
  rw [t_Mo_encode, if_neg (by decide), if_neg (by decide), if_neg (by decide), if_neg (by decide), if_neg (by decide), if_pos rfl, if_neg (by decide), if_pos h]
theorem me5c (fu : Nat) (h : ¬ (256 : Int32) ≤ u3) : t_Mo_encode (SS n) N 71 (fu + 1) 5 u1 u2 u3 u4 1 u6 u7 u8 M = t_Mo_encode (SS n) N 71 fu 6 u1 u2 u3 u4 1 0 0 0 M := by
  rw [t_Mo_encode, if_neg (by decide), if_neg (by decide), if_neg (by decide), if_neg (by decide), if_neg (by decide), if_pos rfl, if_neg (by decide), if_neg h]
theorem me6 (fu : Nat) (h : f_Mo_writeClear (SS n) N 71 M = some M1) : t_Mo_encode (SS n) N 71 (fu + 1) 6 u1 u2 u3 u4 u5 u6 u7 u8 M = t_Mo_encode (SS n) N 71 fu 7 u1 u2 u3 0 u5 0 0 0 M1 := by
  rw [t_Mo_encode, if_neg (by decide), if_neg (by decide), if_neg (by decide), if_neg (by decide), if_neg (by decide), if_neg (by decide), if_pos rfl, xcl_71, h, Option.bind_some]
theorem me7a (fu : Nat) (h : u4 ≠ 0) : t_Mo_encode (SS n) N 71 (fu + 1) 7 u1 u2 u3 u4 0 u6 u7 u8 M = t_Mo_encode (SS n) N 71 fu 9 u1 u2 u3 u4 0 0 0 0 M := by
  rw [t_Mo_encode, if_neg (by decide), if_neg (by decide), if_neg (by decide), if_neg (by decide), if_neg (by decide), if_neg (by decide), if_neg (by decide), if_pos rfl, if_pos rfl, if_neg h]
theorem me7b (fu : Nat) (h : u5 ≠ 0 ∨ u4 = 0) : t_Mo_encode (SS n) N 71 (fu + 1 + 1) 7 u1 u2 u3 u4 u5 u6 u7 u8 M = t_Mo_encode (SS n) N 71 fu 9 u1 0 0 u4 u5 0 0 0 M := by
  have e8 : t_Mo_encode (SS n) N 71 (fu + 1) 8 u1 u2 u3 u4 u5 0 0 0 M = t_Mo_encode (SS n) N 71 fu 9 u1 0 0 u4 u5 0 0 0 M := by
    rw [t_Mo_encode, if_neg (by decide), if_neg (by decide), if_neg (by decide), if_neg (by decide), if_neg (by decide), if_neg (by decide), if_neg (by decide), if_neg (by decide), if_pos rfl]
  rw [t_Mo_encode, if_neg (by decide), if_neg (by decide), if_neg (by decide), if_neg (by decide), if_neg (by decide), if_neg (by decide), if_neg (by decide), if_pos rfl]
  by_cases c : u5 = 0
  · rw [if_pos c, if_pos (h.resolve_left (fun q => q c)), e8]
  · rw [if_neg c, e8]
theorem me_keep (h5 : M 71 5 = nI r) (h14 : M 71 14 = nI (z + 1)) (h4 : M 71 4 = nI ru) (hz : z ≤ 4095) (hr : r ≤ 12000) (hi : i < r) (hru : ru ≤ 2) (hl1 : z < 4095 → lc = 0 ∧ ls = 0) (hl2 : ru = 2 → lc ≤ 64) (hls : ls ≤ 20000) (hd : ¬ due z ru lc ls) : ∃ k u5', k ≤ 7 ∧ ∀ fu, t_Mo_encode (SS n) N 71 (fu + k) 1 (nI i) (nI lc) (nI ls) 0 0 0 0 0 M = t_Mo_encode (SS n) N 71 fu 9 (nI i) (nI (lk z ru lc lc)) (nI (lk z ru lc ls)) (if z < 4095 then 0 else 1) u5' 0 0 0 M := by
  by_cases cz : z < 4095
  · obtain ⟨q1, q2⟩ := hl1 cz
    subst q1 q2
    have e : lk z ru 0 0 = 0 := by unfold lk; rw [if_neg (by omega)]
    rw [e, if_pos cz]
    refine ⟨7, 0, Nat.le_refl _, fun fu => ?_⟩
    rw [show fu + 7 = fu + 1 + 1 + 1 + 1 + 1 + 1 + 1 by omega, me1 _ h5 h14 hz hr hi, if_pos cz, me2a _ h4 (fun q => q.2.1 rfl) hru, me3, me4a _ h4 hru (fun q => q.2 rfl), me5a, me7b _ (Or.inr rfl)]
    rfl
  · have hz5 : z = 4095 := by omega
    have n10 : (1 : Int32) ≠ 0 := by decide
    have hr0 : ru ≠ 0 := fun q => hd ⟨hz5, Or.inl q⟩
    by_cases c2 : ru = 2 ∧ 64 ≤ lc
    · have hl : lc = 64 := by have := hl2 c2.1; omega
      have hls2 : 256 ≤ ls := by
        refine Classical.byContradiction fun q => hd ⟨hz5, Or.inr ⟨c2.1, c2.2, by omega⟩⟩
      have e1 : lk z ru lc lc = 0 := by unfold lk; rw [if_pos ⟨hz5, c2⟩]
      have e2 : lk z ru lc ls = 0 := by unfold lk; rw [if_pos ⟨hz5, c2⟩]
      rw [e1, e2, if_neg cz]
      have h4' : M 71 4 = nI 2 := by rw [h4, c2.1]
      refine ⟨6, 1, by omega, fun fu => ?_⟩
      rw [show fu + 6 = fu + 1 + 1 + 1 + 1 + 1 + 1 by omega, me1 _ h5 h14 hz hr hi, if_neg cz, hl, show nI 64 = (64 : Int32) from rfl, me2b _ h4' n10, me4a _ h4 hru (fun q => hr0 q.1), me5b _ (by rw [show (256 : Int32) = nI 256 from rfl, nI_le_iff (by decide) (by omega)]; exact hls2), me7b _ (Or.inl n10)]
      rfl
    · have e1 : lk z ru lc lc = lc := by unfold lk; rw [if_neg (fun q => c2 q.2)]
      have e2 : lk z ru lc ls = ls := by unfold lk; rw [if_neg (fun q => c2 q.2)]
      rw [e1, e2, if_neg cz]
      refine ⟨6, 0, by omega, fun fu => ?_⟩
      rw [show fu + 6 = fu + 1 + 1 + 1 + 1 + 1 + 1 by omega, me1 _ h5 h14 hz hr hi, if_neg cz, me2a _ h4 (fun q => c2 ⟨q.1, by
        have q3 := q.2.2
        have h64 := hl2 q.1
        rw [show (64 : Int32) = nI 64 from rfl, nI_eq_iff (by omega) (by decide)] at q3
        omega⟩) hru, me3, me4a _ h4 hru (fun q => hr0 q.1), me5a, me7a _ n10]
theorem me_clear (h5 : M 71 5 = nI r) (h14 : M 71 14 = nI (z + 1)) (h4 : M 71 4 = nI ru) (hr : r ≤ 12000) (hi : i < r) (hru : ru ≤ 2) (hl2 : ru = 2 → lc ≤ 64) (hls : ls ≤ 20000) (hd : due z ru lc ls) (hw : f_Mo_writeClear (SS n) N 71 M = some M1) : ∃ k u5', k ≤ 7 ∧ ∀ fu, t_Mo_encode (SS n) N 71 (fu + k) 1 (nI i) (nI lc) (nI ls) 0 0 0 0 0 M = t_Mo_encode (SS n) N 71 fu 9 (nI i) 0 0 0 u5' 0 0 0 M1 := by
  have hz5 : z = 4095 := hd.1
  have cz : ¬ z < 4095 := by omega
  have n10 : (1 : Int32) ≠ 0 := by decide
  rcases hd.2 with q | ⟨q1, q2, q3⟩
  · have h4' : M 71 4 = nI 0 := by rw [h4, q]
    refine ⟨7, 0, Nat.le_refl _, fun fu => ?_⟩
    rw [show fu + 7 = fu + 1 + 1 + 1 + 1 + 1 + 1 + 1 by omega, me1 _ h5 h14 (by omega) hr hi, if_neg cz, me2a _ h4 (fun q' => by omega) hru, me3, me4b _ h4' n10, me6 _ hw, me7b _ (Or.inr rfl)]
  · have h4' : M 71 4 = nI 2 := by rw [h4, q1]
    have hl : lc = 64 := by have := hl2 q1; omega
    refine ⟨7, 1, Nat.le_refl _, fun fu => ?_⟩
    rw [show fu + 7 = fu + 1 + 1 + 1 + 1 + 1 + 1 + 1 by omega, me1 _ h5 h14 (by omega) hr hi, if_neg cz, hl, show nI 64 = (64 : Int32) from rfl, me2b _ h4' n10, me4a _ h4 hru (fun q => by omega), me5c _ (by rw [show (256 : Int32) = nI 256 from rfl, nI_le_iff (by decide) (by omega)]; omega), me6 _ hw, me7b _ (Or.inl n10)]
theorem me9a (fu : Nat) (h5 : M 71 5 = nI r) (hr : r ≤ 12000) (hi : i + 1 = r) (h72 : M 72 i = nI s) : t_Mo_encode (SS n) N 71 (fu + 1) 9 (nI i) u2 u3 u4 u5 u6 u7 u8 M = t_Mo_encode (SS n) N 71 fu 10 (nI i) u2 u3 u4 u5 (nI s) (nI (i + 1)) (-1) M := by
  have c1 : nI r ≤ nI (i + 1) := by rw [nI_le_iff (by omega) (by omega)]; omega
  rw [t_Mo_encode, if_neg (by decide), if_neg (by decide), if_neg (by decide), if_neg (by decide), if_neg (by decide), if_neg (by decide), if_neg (by decide), if_neg (by decide), if_neg (by decide), if_pos rfl]
  simp only [gR_71_6, Option.bind_some, aG_nI sh_72 (show i < 12000 by omega) (show 12000 ≤ 100000 by decide), h72, gI_71_5, h5, nI_1, if_pos c1]
theorem me9b (fu : Nat) (h5 : M 71 5 = nI r) (hr : r ≤ 12000) (hi : i + 1 < r) (h72 : M 72 i = nI s) {s2 : Nat} (h73 : M 72 (i + 1) = nI s2) {v : Int32} (hc : f_Mo_childOf (SS n) N 71 (nI s) (nI s2) M = some v) : t_Mo_encode (SS n) N 71 (fu + 1) 9 (nI i) u2 u3 u4 u5 u6 u7 u8 M = t_Mo_encode (SS n) N 71 fu 10 (nI i) u2 u3 u4 u5 (nI s) (nI (i + 1)) v M := by
  have c1 : ¬ nI r ≤ nI (i + 1) := by rw [nI_le_iff (by omega) (by omega)]; omega
  rw [t_Mo_encode, if_neg (by decide), if_neg (by decide), if_neg (by decide), if_neg (by decide), if_neg (by decide), if_neg (by decide), if_neg (by decide), if_neg (by decide), if_neg (by decide), if_pos rfl]
  simp only [gR_71_6, Option.bind_some, aG_nI sh_72 (show i < 12000 by omega) (show 12000 ≤ 100000 by decide), h72, gI_71_5, h5, nI_1, if_neg c1, aG_nI sh_72 (show i + 1 < 12000 by omega) (show 12000 ≤ 100000 by decide), h73, xcl_71, hc]
theorem me10a (fu : Nat) {e : Nat} (he : e ≤ 4095) (h5 : M 71 5 = nI r) (hr : r ≤ 12000) (hi : i + 1 = r) : t_Mo_encode (SS n) N 71 (fu + 1 + 1) 10 u1 u2 u3 u4 u5 u6 (nI i) (nI e) M = t_Mo_encode (SS n) N 71 fu 10 u1 u2 u3 u4 u5 (nI e) (nI (i + 1)) (-1) M := by
  have c1 : nI r ≤ nI (i + 1) := by rw [nI_le_iff (by omega) (by omega)]; omega
  rw [t_Mo_encode, if_neg (by decide), if_neg (by decide), if_neg (by decide), if_neg (by decide), if_neg (by decide), if_neg (by decide), if_neg (by decide), if_neg (by decide), if_neg (by decide), if_neg (by decide), if_pos rfl, if_neg (nn0 (by omega))]
  simp only [gI_71_5, Option.bind_some, h5, nI_1, if_pos c1]
  rw [t_Mo_encode, if_neg (by decide), if_neg (by decide), if_neg (by decide), if_neg (by decide), if_neg (by decide), if_neg (by decide), if_neg (by decide), if_neg (by decide), if_neg (by decide), if_neg (by decide), if_neg (by decide), if_pos rfl]
theorem me10b (fu : Nat) {e : Nat} (he : e ≤ 4095) (h5 : M 71 5 = nI r) (hr : r ≤ 12000) (hi : i + 1 < r) {s2 : Nat} (h73 : M 72 (i + 1) = nI s2) {v : Int32} (hc : f_Mo_childOf (SS n) N 71 (nI e) (nI s2) M = some v) : t_Mo_encode (SS n) N 71 (fu + 1 + 1) 10 u1 u2 u3 u4 u5 u6 (nI i) (nI e) M = t_Mo_encode (SS n) N 71 fu 10 u1 u2 u3 u4 u5 (nI e) (nI (i + 1)) v M := by
  have c1 : ¬ nI r ≤ nI (i + 1) := by rw [nI_le_iff (by omega) (by omega)]; omega
  rw [t_Mo_encode, if_neg (by decide), if_neg (by decide), if_neg (by decide), if_neg (by decide), if_neg (by decide), if_neg (by decide), if_neg (by decide), if_neg (by decide), if_neg (by decide), if_neg (by decide), if_pos rfl, if_neg (nn0 (by omega))]
  simp only [gI_71_5, Option.bind_some, h5, nI_1, if_neg c1, gR_71_6, aG_nI sh_72 (show i + 1 < 12000 by omega) (show 12000 ≤ 100000 by decide), h73, xcl_71, hc]
  rw [t_Mo_encode, if_neg (by decide), if_neg (by decide), if_neg (by decide), if_neg (by decide), if_neg (by decide), if_neg (by decide), if_neg (by decide), if_neg (by decide), if_neg (by decide), if_neg (by decide), if_neg (by decide), if_pos rfl]
theorem me10n (fu : Nat) (hw : f_Mo_write (SS n) N 71 u6 M = some M1) (hd : f_Mo_widen (SS n) 71 M1 = some M2) (h5 : M2 71 5 = nI r) (hr : r ≤ 12000) (hi : i < r) (h72 : M2 72 i = nI s) (he : f_Mo_enter (SS n) 71 u6 (nI s) M2 = some M3) : t_Mo_encode (SS n) N 71 (fu + 1) 10 u1 u2 u3 u4 u5 u6 (nI i) (-1) M = t_Mo_encode (SS n) N 71 fu 12 u1 u2 u3 u4 u5 u6 (nI i) (-1) M3 := by
  have c1 : ¬ nI r ≤ nI i := by rw [nI_le_iff (by omega) (by omega)]; omega
  rw [t_Mo_encode, if_neg (by decide), if_neg (by decide), if_neg (by decide), if_neg (by decide), if_neg (by decide), if_neg (by decide), if_neg (by decide), if_neg (by decide), if_neg (by decide), if_neg (by decide), if_pos rfl, if_pos (by decide)]
  simp only [xcl_71, hw, Option.bind_some, hd, gI_71_5, h5, if_neg c1, gR_71_6, aG_nI sh_72 (show i < 12000 by omega) (show 12000 ≤ 100000 by decide), h72, he]
theorem me10e (fu : Nat) (hw : f_Mo_write (SS n) N 71 u6 M = some M1) (hd : f_Mo_widen (SS n) 71 M1 = some M2) (h5 : M2 71 5 = nI r) (hr : r ≤ 12000) : t_Mo_encode (SS n) N 71 (fu + 1) 10 u1 u2 u3 u4 u5 u6 (nI r) (-1) M = t_Mo_encode (SS n) N 71 fu 12 u1 u2 u3 u4 u5 u6 (nI r) (-1) M2 := by
  have c1 : nI r ≤ nI r := (nI_le_iff (by omega) (by omega)).mpr (Nat.le_refl r)
  rw [t_Mo_encode, if_neg (by decide), if_neg (by decide), if_neg (by decide), if_neg (by decide), if_neg (by decide), if_neg (by decide), if_neg (by decide), if_neg (by decide), if_neg (by decide), if_neg (by decide), if_pos rfl, if_pos (by decide)]
  simp only [xcl_71, hw, Option.bind_some, hd, gI_71_5, h5, if_pos c1]
theorem me12 (fu : Nat) (ha : at_ ≤ i) : t_Mo_encode (SS n) N 71 (fu + 1 + 1 + 1) 12 (nI at_) (nI lc) (nI ls) (if z < 4095 then 0 else 1) u5 u6 (nI i) u8 M = t_Mo_encode (SS n) N 71 fu 1 (nI i) (nI (if z < 4095 then lc else lc + 1)) (nI (if z < 4095 then ls else ls + (i - at_))) 0 0 0 0 0 M := by
  have e14 : ∀ v2 v3 v4 v6 v8 : Int32, t_Mo_encode (SS n) N 71 (fu + 1) 14 (nI at_) v2 v3 v4 u5 v6 (nI i) v8 M = t_Mo_encode (SS n) N 71 fu 1 (nI i) v2 v3 0 0 0 0 0 M := fun v2 v3 v4 v6 v8 => by
    rw [t_Mo_encode, if_neg (by decide), if_neg (by decide), if_neg (by decide), if_neg (by decide), if_neg (by decide), if_neg (by decide), if_neg (by decide), if_neg (by decide), if_neg (by decide), if_neg (by decide), if_neg (by decide), if_neg (by decide), if_neg (by decide), if_neg (by decide)]
  by_cases cz : z < 4095
  · rw [if_pos cz, if_pos cz, if_pos cz]
    rw [t_Mo_encode, if_neg (by decide), if_neg (by decide), if_neg (by decide), if_neg (by decide), if_neg (by decide), if_neg (by decide), if_neg (by decide), if_neg (by decide), if_neg (by decide), if_neg (by decide), if_neg (by decide), if_neg (by decide), if_pos rfl, if_pos rfl]
    rw [t_Mo_encode, if_neg (by decide), if_neg (by decide), if_neg (by decide), if_neg (by decide), if_neg (by decide), if_neg (by decide), if_neg (by decide), if_neg (by decide), if_neg (by decide), if_neg (by decide), if_neg (by decide), if_neg (by decide), if_neg (by decide), if_pos rfl, if_pos rfl, e14]
    rw [show (0 : Int32) = nI 0 from rfl, nI_ad, nI_ad, Nat.add_zero, Nat.add_zero]
  · rw [if_neg cz, if_neg cz, if_neg cz]
    rw [t_Mo_encode, if_neg (by decide), if_neg (by decide), if_neg (by decide), if_neg (by decide), if_neg (by decide), if_neg (by decide), if_neg (by decide), if_neg (by decide), if_neg (by decide), if_neg (by decide), if_neg (by decide), if_neg (by decide), if_pos rfl, if_neg (by decide)]
    rw [t_Mo_encode, if_neg (by decide), if_neg (by decide), if_neg (by decide), if_neg (by decide), if_neg (by decide), if_neg (by decide), if_neg (by decide), if_neg (by decide), if_neg (by decide), if_neg (by decide), if_neg (by decide), if_neg (by decide), if_neg (by decide), if_pos rfl, if_neg (by decide), e14]
    rw [nI_sub ha, nI_ad, nI_1]
end EL
