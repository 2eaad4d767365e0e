/-! encode: the two states, and what each call of theirs does to them -/
def FrCl (C C' : xF) : Prop := ∀ a, (a < 5 ∨ 12 < a) → C' a = C a
def FrMo (M M' : xF) : Prop := (∀ a, a ≠ 71 → a ≠ 73 → a ≠ 74 → (a < 77 ∨ 81 < a) → M' a = M a) ∧ (∀ j, j ≠ 14 → j ≠ 20 → j ≠ 21 → j ≠ 22 → M' 71 j = M 71 j) ∧ M' 74 3 = M 74 3
theorem FrCl.tr {A B C : xF} (h1 : FrCl A B) (h2 : FrCl B C) : FrCl A C := fun a q => by rw [h2 a q, h1 a q]
theorem FrMo.tr {A B C : xF} (h1 : FrMo A B) (h2 : FrMo B C) : FrMo A C := ⟨fun a q1 q2 q3 q4 => by rw [h2.1 a q1 q2 q3 q4, h1.1 a q1 q2 q3 q4], fun j q1 q2 q3 q4 => by rw [h2.2.1 j q1 q2 q3 q4, h1.2.1 j q1 q2 q3 q4], by rw [h2.2.2, h1.2.2]⟩
theorem FrCl.rf {A : xF} : FrCl A A := fun _ _ => rfl
theorem FrMo.rf {A : xF} : FrMo A A := ⟨fun _ _ _ _ _ => rfl, fun _ _ _ _ _ => rfl, rfl⟩
def CS (b r : Nat) (sy : Nat → Nat) (V T z wd sc lc ls : Nat) (pk : Nat → Nat) (a0 a1 a2 : Int32) (C : xF) : Prop :=
  CB V T C ∧ cTb (2 ^ b + 1) z pk C ∧ C 8 0 = nI b ∧ C 8 1 = nI (2 ^ b + 1) ∧ C 8 2 = nI wd ∧ C 8 3 = nI sc ∧ C 5 0 = nI (2 ^ b) ∧ C 5 1 = nI (2 ^ b + 1) ∧ C 5 5 = a0 ∧ C 5 6 = a1 ∧ C 5 7 = a2 ∧ C 5 10 = nI lc ∧ C 5 11 = nI ls ∧ C 1 1 = nI r ∧ ∀ k, k < r → C 2 k = nI (sy k)
def MS (b r ru : Nat) (sy : Nat → Nat) (V T z wd sc : Nat) (pk : Nat → Nat) (a0 a1 a2 : Int32) (M : xF) : Prop :=
  MB V T M ∧ mTb (2 ^ b + 1) z pk M ∧ M 71 0 = nI b ∧ M 71 1 = nI (2 ^ b) ∧ M 71 2 = nI (2 ^ b + 1) ∧ M 71 21 = nI wd ∧ M 71 22 = nI sc ∧ M 74 0 = a0 ∧ M 74 1 = a1 ∧ M 74 2 = a2 ∧ M 71 5 = nI r ∧ M 71 4 = nI ru ∧ ∀ k, k < r → M 72 k = nI (sy k)
def Inv (b V T z wd sc : Nat) (pk : Nat → Nat) : Prop := 2 ≤ b ∧ b ≤ 8 ∧ V < 2 ^ T ∧ Tbl (2 ^ b + 1) z pk ∧ Wok b (2 ^ b + 1) z wd sc
theorem CB.ag {V T : Nat} {C C' : xF} (h : CB V T C) (h1 : C' 6 1 = C 6 1) (h2 : C' 5 8 = C 5 8) (h3 : C' 5 9 = C 5 9) (h4 : C' 7 = C 7) : CB V T C' := by
  unfold CB at h ⊢
  rw [h1, h2, h3, h4]; exact h
theorem MB.ag {V T : Nat} {M M' : xF} (h : MB V T M) (h1 : M' 71 20 = M 71 20) (h2 : M' 73 = M 73) : MB V T M' := by
  unfold MB at h ⊢
  rw [h1, h2]; exact h
section EN
variable {b n N r ru V T z wd sc lc ls c m p s : Nat} {sy pk : Nat → Nat} {a0 a1 a2 : Int32} {C M : xF}
/-- the class writes a code -/
theorem cWr (h : CS b r sy V T z wd sc lc ls pk a0 a1 a2 C) (hI : Inv b V T z wd sc pk) (hc : c < 2 ^ wd) (hT : T + wd ≤ 144480) (hN : 100 < N) : ∃ C', f_Co_write (SS n) N 5 (nI c) C = some C' ∧ CS b r sy (V + c * 2 ^ T) (T + wd) z wd sc lc ls pk (a0 + 1) a1 (nI wd) C' ∧ FrCl C C' := by
  obtain ⟨h1, h2, h3, h4, h5, h6, h7, h8, h9, h10, h11, h12, h13, h14, h15⟩ := h
  obtain ⟨C', e1, e2, e3, e4, e5, e6⟩ := cwrite_of (n := n) (N := N) h1 hI.2.2.1 h5 hI.2.2.2.2.2.1 hc hT hN
  refine ⟨C', e1, ⟨e2, ?_, ?_, ?_, ?_, ?_, ?_, ?_, ?_, ?_, e4, ?_, ?_, ?_, fun k hk => ?_⟩, fun a q => e5 a (by omega) (by omega) (by omega)⟩
  · exact h2.ag (by rw [e5 9 (by decide) (by decide) (by decide)]) (by rw [e5 9 (by decide) (by decide) (by decide)]) (e5 10 (by decide) (by decide) (by decide)) (e5 11 (by decide) (by decide) (by decide)) (e5 12 (by decide) (by decide) (by decide))
  · rw [e5 8 (by decide) (by decide) (by decide)]; exact h3
  · rw [e5 8 (by decide) (by decide) (by decide)]; exact h4
  · rw [e5 8 (by decide) (by decide) (by decide)]; exact h5
  · rw [e5 8 (by decide) (by decide) (by decide)]; exact h6
  · rw [e6 0 (by decide) (by decide) (by decide) (by decide)]; exact h7
  · rw [e6 1 (by decide) (by decide) (by decide) (by decide)]; exact h8
  · rw [e3, h9]
  · rw [e6 6 (by decide) (by decide) (by decide) (by decide)]; exact h10
  · rw [e6 10 (by decide) (by decide) (by decide) (by decide)]; exact h12
  · rw [e6 11 (by decide) (by decide) (by decide) (by decide)]; exact h13
  · rw [e5 1 (by decide) (by decide) (by decide)]; exact h14
  · rw [e5 2 (by decide) (by decide) (by decide)]; exact h15 k hk
theorem mWr (h : MS b r ru sy V T z wd sc pk a0 a1 a2 M) (hI : Inv b V T z wd sc pk) (hc : c < 2 ^ wd) (hT : T + wd ≤ 144480) (hN : 100 < N) : ∃ M', f_Mo_write (SS n) N 71 (nI c) M = some M' ∧ MS b r ru sy (V + c * 2 ^ T) (T + wd) z wd sc pk (a0 + 1) a1 (nI wd) M' ∧ FrMo M M' := by
  obtain ⟨h1, h2, h3, h4, h5, h6, h7, h8, h9, h10, h11, h12, h13⟩ := h
  obtain ⟨M', e1, e2, e3, e4, e5, e6, e7⟩ := mwrite_of (n := n) (N := N) h1 hI.2.2.1 h6 hI.2.2.2.2.2.1 hc hT hN
  refine ⟨M', e1, ⟨e2, ?_, ?_, ?_, ?_, ?_, ?_, ?_, ?_, e4, ?_, ?_, fun k hk => ?_⟩, ⟨fun a q1 q2 q3 q4 => e6 a q1 q2 q3, fun j q1 q2 q3 q4 => e7 j q2, e5 3 (by decide) (by decide)⟩⟩
  · exact h2.ag (e7 14 (by decide)) (e6 77 (by decide) (by decide) (by decide)) (e6 78 (by decide) (by decide) (by decide)) (e6 80 (by decide) (by decide) (by decide)) (e6 81 (by decide) (by decide) (by decide))
  · rw [e7 0 (by decide)]; exact h3
  · rw [e7 1 (by decide)]; exact h4
  · rw [e7 2 (by decide)]; exact h5
  · rw [e7 21 (by decide)]; exact h6
  · rw [e7 22 (by decide)]; exact h7
  · rw [e3, h8]
  · rw [e5 1 (by decide) (by decide)]; exact h9
  · rw [e7 5 (by decide)]; exact h11
  · rw [e7 4 (by decide)]; exact h12
  · rw [e6 72 (by decide) (by decide) (by decide)]; exact h13 k hk
theorem Inv.wr (hI : Inv b V T z wd sc pk) (hc : c < 2 ^ wd) : Inv b (V + c * 2 ^ T) (T + wd) z wd sc pk := ⟨hI.1, hI.2.1, V_lt hI.2.2.1 hc, hI.2.2.2.1, hI.2.2.2.2⟩
theorem E_le (hI : Inv b V T z wd sc pk) : 2 ^ b + 1 ≤ 257 := by
  have := (pw8 hI.1 hI.2.1).2
  omega
/-- the width behind a code of an entry -/
theorem mWd (h : MS b r ru sy V T z wd sc pk a0 a1 a2 M) (hI : Inv b V T z wd sc pk) : ∃ M', f_Mo_widen (SS n) 71 M = some M' ∧ MS b r ru sy V T z (nw (2 ^ b + 1) wd sc) (sc + 1) pk a0 a1 a2 M' ∧ FrMo M M' := by
  obtain ⟨h1, h2, h3, h4, h5, h6, h7, h8, h9, h10, h11, h12, h13⟩ := h
  have hE := E_le hI
  obtain ⟨M', e1, e2, e3, e4, e5⟩ := mwi_of (n := n) h5 h6 h7 (show 2 ^ b + 1 ≤ 1000 by omega) hI.2.2.2.2.2.1 hI.2.2.2.2.2.2.2.2
  refine ⟨M', e1, ⟨h1.ag (e4 20 (by decide) (by decide)) (e5 73 (by decide)), h2.ag (e4 14 (by decide) (by decide)) (e5 77 (by decide)) (e5 78 (by decide)) (e5 80 (by decide)) (e5 81 (by decide)), ?_, ?_, ?_, e2, e3, ?_, ?_, ?_, ?_, ?_, fun k hk => ?_⟩, ⟨fun a q1 q2 q3 q4 => e5 a q1, fun j q1 q2 q3 q4 => e4 j q3 q4, by rw [e5 74 (by decide)]⟩⟩
  · rw [e4 0 (by decide) (by decide)]; exact h3
  · rw [e4 1 (by decide) (by decide)]; exact h4
  · rw [e4 2 (by decide) (by decide)]; exact h5
  · rw [e5 74 (by decide)]; exact h8
  · rw [e5 74 (by decide)]; exact h9
  · rw [e5 74 (by decide)]; exact h10
  · rw [e4 5 (by decide) (by decide)]; exact h11
  · rw [e4 4 (by decide) (by decide)]; exact h12
  · rw [e5 72 (by decide)]; exact h13 k hk
/-- the class writes a code of an entry -/
theorem cWE (h : CS b r sy V T z wd sc lc ls pk a0 a1 a2 C) (hI : Inv b V T z wd sc pk) (hc : c < 2 ^ wd) (hT : T + wd ≤ 144480) (hN : 100 < N) : ∃ C', f_Co_writeEntry (SS n) N 5 (nI c) (nI m) C = some C' ∧ CS b r sy (V + c * 2 ^ T) (T + wd) z (nw (2 ^ b + 1) wd sc) (sc + 1) (if z < 4095 then lc else lc + 1) (if z < 4095 then ls else ls + m) pk (a0 + 1) a1 (nI wd) C' ∧ FrCl C C' := by
  obtain ⟨C1, e1, e2, e3⟩ := cWr (n := n) h hI hc hT hN
  have hE := E_le hI
  have hz := hI.2.2.2.1.2.1
  obtain ⟨h1, h2, h3, h4, h5, h6, h7, h8, h9, h10, h11, h12, h13, h14, h15⟩ := e2
  have o8 : (SS n)[8]? = some (.inr (.inr (1, [none, none, none, none]))) := rfl
  obtain ⟨C2, k1, k2, k3, k4, k5⟩ := wi_of o8 h4 h5 h6 (show 2 ^ b + 1 ≤ 1000 by omega) hI.2.2.2.2.2.1 hI.2.2.2.2.2.2.2.2
  have f2 : FrCl C C2 := e3.tr (fun a q => k5 a (by omega))
  have i2 : C2 9 4 = nI z := by rw [k5 9 (by decide)]; exact h2.2.1
  have base : ∀ lc' ls' (K : xF), (∀ a, a ≠ 5 → K a = C2 a) → (∀ j, j ≠ 10 → j ≠ 11 → K 5 j = C2 5 j) → K 5 10 = nI lc' → K 5 11 = nI ls' → CS b r sy (V + c * 2 ^ T) (T + wd) z (nw (2 ^ b + 1) wd sc) (sc + 1) lc' ls' pk (a0 + 1) a1 (nI wd) K := fun lc' ls' K q1 q2 q3 q4 => by
    refine ⟨h1.ag (by rw [q1 6 (by decide), k5 6 (by decide)]) (by rw [q2 8 (by decide) (by decide), k5 5 (by decide)]) (by rw [q2 9 (by decide) (by decide), k5 5 (by decide)]) (by rw [q1 7 (by decide), k5 7 (by decide)]), h2.ag (by rw [q1 9 (by decide), k5 9 (by decide)]) (by rw [q1 9 (by decide), k5 9 (by decide)]) (by rw [q1 10 (by decide), k5 10 (by decide)]) (by rw [q1 11 (by decide), k5 11 (by decide)]) (by rw [q1 12 (by decide), k5 12 (by decide)]), ?_, ?_, ?_, ?_, ?_, ?_, ?_, ?_, ?_, q3, q4, ?_, fun k hk => ?_⟩
    · rw [q1 8 (by decide), k4 0 (by decide) (by decide)]; exact h3
    · rw [q1 8 (by decide), k4 1 (by decide) (by decide)]; exact h4
    · rw [q1 8 (by decide)]; exact k2
    · rw [q1 8 (by decide)]; exact k3
    · rw [q2 0 (by decide) (by decide), k5 5 (by decide)]; exact h7
    · rw [q2 1 (by decide) (by decide), k5 5 (by decide)]; exact h8
    · rw [q2 5 (by decide) (by decide), k5 5 (by decide)]; exact h9
    · rw [q2 6 (by decide) (by decide), k5 5 (by decide)]; exact h10
    · rw [q2 7 (by decide) (by decide), k5 5 (by decide)]; exact h11
    · rw [q1 1 (by decide), k5 1 (by decide)]; exact h14
    · rw [q1 2 (by decide), k5 2 (by decide)]; exact h15 k hk
  have t10 : C2 5 10 = nI lc := by rw [k5 5 (by decide)]; exact h12
  have t11 : C2 5 11 = nI ls := by rw [k5 5 (by decide)]; exact h13
  by_cases cz : z < 4095
  · refine ⟨C2, ?_, ?_, f2⟩
    · unfold f_Co_writeEntry
      simp only [xcl_5, e1, Option.bind_some, gR_5_2, xcl_8, k1, gR_5_3, xcl_9, full_of i2 hz, if_pos cz, if_pos]
    · rw [if_pos cz, if_pos cz]
      exact base lc ls C2 (fun _ _ => rfl) (fun _ _ _ => rfl) t10 t11
  · refine ⟨up2 (up2 C2 5 10 (nI (lc + 1))) 5 11 (nI (ls + m)), ?_, ?_, f2.tr (fun a q => by rw [up2_row _ _ _ _ (by omega), up2_row _ _ _ _ (by omega)])⟩
    · have s1 : up2 C2 5 10 (nI (lc + 1)) 5 11 = nI ls := by rw [up2_ne _ _ _ _ (Or.inr (by decide))]; exact t11
      unfold f_Co_writeEntry
      simp only [xcl_5, e1, Option.bind_some, gR_5_2, xcl_8, k1, gR_5_3, xcl_9, full_of i2 hz, if_neg cz, if_neg (show ¬ (1 : Int32) = 0 by decide), gI_5_10, t10, nI_1, pI_5_10, gI_5_11, s1, nI_ad, pI_5_11]
    · rw [if_neg cz, if_neg cz]
      exact base (lc + 1) (ls + m) _ (fun a q => by rw [up2_row _ _ _ _ q, up2_row _ _ _ _ q]) (fun j q1 q2 => by rw [up2_ne _ _ _ _ (Or.inr q2), up2_ne _ _ _ _ (Or.inr q1)]) (by rw [up2_ne _ _ _ _ (Or.inr (by decide)), up2_eq]) (up2_eq _ _ _ _)
/-- the table grows -/
theorem cAd (h : CS b r sy V T z wd sc lc ls pk a0 a1 a2 C) (hT : Tbl (2 ^ b + 1) z pk) (hz : z < 4095) (hp : p < 4096) (hs : s < 256) (hno : ∀ e, 2 ^ b + 1 < e → e ≤ z → pk e ≠ p * 256 + s) (hN : 8200 < N) : ∃ C', f_St_add (SS n) N 9 (nI p) (nI s) C = some C' ∧ CS b r sy V T (z + 1) wd sc lc ls (pku pk z (p * 256 + s)) a0 a1 a2 C' ∧ FrCl C C' := by
  obtain ⟨h1, h2, h3, h4, h5, h6, h7, h8, h9, h10, h11, h12, h13, h14, h15⟩ := h
  obtain ⟨C', e1, e2, e3, e4⟩ := add_of (n := n) (N := N) hT h2 hz hp hs hno hN
  have o : ∀ a, a < 9 → C' a = C a := fun a q => e3 a (by omega) (by omega) (by omega) (by omega)
  refine ⟨C', e1, ⟨h1.ag (by rw [o 6 (by decide)]) (by rw [o 5 (by decide)]) (by rw [o 5 (by decide)]) (by rw [o 7 (by decide)]), e2, ?_, ?_, ?_, ?_, ?_, ?_, ?_, ?_, ?_, ?_, ?_, ?_, fun k hk => ?_⟩, fun a q => e3 a (by omega) (by omega) (by omega) (by omega)⟩
  · rw [o 8 (by decide)]; exact h3
  · rw [o 8 (by decide)]; exact h4
  · rw [o 8 (by decide)]; exact h5
  · rw [o 8 (by decide)]; exact h6
  · rw [o 5 (by decide)]; exact h7
  · rw [o 5 (by decide)]; exact h8
  · rw [o 5 (by decide)]; exact h9
  · rw [o 5 (by decide)]; exact h10
  · rw [o 5 (by decide)]; exact h11
  · rw [o 5 (by decide)]; exact h12
  · rw [o 5 (by decide)]; exact h13
  · rw [o 1 (by decide)]; exact h14
  · rw [o 2 (by decide)]; exact h15 k hk
theorem mAd (h : MS b r ru sy V T z wd sc pk a0 a1 a2 M) (hEz : 2 ^ b + 1 ≤ z) (hz : z < 4095) (hp : p < 4096) (hs : s < 256) : ∃ M', f_Mo_enter (SS n) 71 (nI p) (nI s) M = some M' ∧ MS b r ru sy V T (z + 1) wd sc (pku pk z (p * 256 + s)) a0 a1 a2 M' ∧ FrMo M M' := by
  obtain ⟨h1, h2, h3, h4, h5, h6, h7, h8, h9, h10, h11, h12, h13⟩ := h
  obtain ⟨M', e1, e2, e3, e4, e5, e6, e7, e8⟩ := enter_of (n := n) h2 hEz hz hp hs
  have o : ∀ a, a ≠ 71 → (a < 77 ∨ 81 < a) → M' a = M a := fun a q1 q2 => e4 a q1 (by omega) (by omega) (by omega) (by omega) (by omega)
  refine ⟨M', e1, ⟨h1.ag (e5 20 (by decide)) (o 73 (by decide) (by decide)), e2, ?_, ?_, ?_, ?_, ?_, ?_, ?_, ?_, ?_, ?_, fun k hk => ?_⟩, ⟨fun a q1 q2 q3 q4 => o a q1 q4, fun j q1 q2 q3 q4 => e5 j q1, by rw [o 74 (by decide) (by decide)]⟩⟩
  · rw [e5 0 (by decide)]; exact h3
  · rw [e5 1 (by decide)]; exact h4
  · rw [e5 2 (by decide)]; exact h5
  · rw [e5 21 (by decide)]; exact h6
  · rw [e5 22 (by decide)]; exact h7
  · rw [o 74 (by decide) (by decide)]; exact h8
  · rw [o 74 (by decide) (by decide)]; exact h9
  · rw [o 74 (by decide) (by decide)]; exact h10
  · rw [e5 5 (by decide)]; exact h11
  · rw [e5 4 (by decide)]; exact h12
  · rw [o 72 (by decide) (by decide)]; exact h13 k hk
theorem cTb.tab {C : xF} (hI : Tbl (2 ^ b + 1) z pk) (h : cTb (2 ^ b + 1) z pk C) : Tab b C := by
  obtain ⟨h1, h2, h3, h4, h5, h6⟩ := h
  refine ⟨z, hI.1, hI.2.1, h2, fun e q1 q2 => ?_, fun s hs => ?_⟩
  · obtain ⟨s, s1, s2, s3, -⟩ := h4 e q1 q2
    exact ⟨s, s1, s2⟩
  · rcases h5 s hs with q | ⟨e, e1, e2, e3, e4⟩
    · exact Or.inl q
    · exact Or.inr ⟨e, e1, e2, e4⟩
/-- CLEAR is written -/
theorem cWC (h : CS b r sy V T z wd sc lc ls pk a0 a1 a2 C) (hI : Inv b V T z wd sc pk) (hT : T + wd ≤ 144480) (hN : 8200 < N) : ∃ C', f_Co_writeClear (SS n) N 5 C = some C' ∧ CS b r sy (V + 2 ^ b * 2 ^ T) (T + wd) (2 ^ b + 1) (b + 1) 0 0 0 pk (a0 + 1) (a1 + 1) (nI wd) C' ∧ FrCl C C' := by
  have hb1 : 1 ≤ b := by have := hI.1; omega
  have hcl := hI.2.2.2.2.low (c := 2 ^ b) hb1 (by omega)
  obtain ⟨C1, e1, e2, e3⟩ := cWr (n := n) h hI hcl hT (show 100 < N by omega)
  obtain ⟨h1, h2, h3, h4, h5, h6, h7, h8, h9, h10, h11, h12, h13, h14, h15⟩ := e2
  obtain ⟨C2, hC2⟩ : ∃ C2, C2 = up2 C1 5 6 (a1 + 1) := ⟨_, rfl⟩
  have o2 : ∀ a, a ≠ 5 → C2 a = C1 a := fun a q => by rw [hC2, up2_row _ _ _ _ q]
  have o2j : ∀ j, j ≠ 6 → C2 5 j = C1 5 j := fun j q => by rw [hC2, up2_ne _ _ _ _ (Or.inr q)]
  have o26 : C2 5 6 = a1 + 1 := by rw [hC2, up2_eq]
  have t2 : Tab b C2 := (cTb.tab hI.2.2.2.1 h2).ag ⟨by simp [o2], by simp [o2]⟩
  obtain ⟨sl, k1, k2⟩ := St_empty_of (n := n) (N := N) t2 (by rw [o2 9 (by decide)]; exact h2.1) (by omega)
  obtain ⟨C3, hC3⟩ : ∃ C3, C3 = up2 (upR C2 10 sl) 9 4 (nI (2 ^ b + 1)) := ⟨_, rfl⟩
  obtain ⟨C4, hC4⟩ : ∃ C4, C4 = up2 (up2 (up2 (up2 C3 8 2 (nI (b + 1))) 8 3 (nI 0)) 5 10 (nI 0)) 5 11 (nI 0) := ⟨_, rfl⟩
  have o3 : ∀ a, a ≠ 9 → a ≠ 10 → C3 a = C2 a := fun a q1 q2 => by rw [hC3, up2_row _ _ _ _ q1, upR_ne _ _ _ q2]
  have o4 : ∀ a, a ≠ 5 → a ≠ 8 → C4 a = C3 a := fun a q1 q2 => by rw [hC4, up2_row _ _ _ _ q1, up2_row _ _ _ _ q1, up2_row _ _ _ _ q2, up2_row _ _ _ _ q2]
  have o4j : ∀ j, j ≠ 10 → j ≠ 11 → C4 5 j = C2 5 j := fun j q1 q2 => by rw [hC4, up2_ne _ _ _ _ (Or.inr q2), up2_ne _ _ _ _ (Or.inr q1), up2_row _ _ _ _ (by decide), up2_row _ _ _ _ (by decide), o3 5 (by decide) (by decide)]
  have o48 : ∀ j, j ≠ 2 → j ≠ 3 → C4 8 j = C2 8 j := fun j q1 q2 => by rw [hC4, up2_row _ _ _ _ (by decide), up2_row _ _ _ _ (by decide), up2_ne _ _ _ _ (Or.inr q2), up2_ne _ _ _ _ (Or.inr q1), o3 8 (by decide) (by decide)]
  refine ⟨C4, ?_, ⟨?_, ?_, ?_, ?_, ?_, ?_, ?_, ?_, ?_, ?_, ?_, ?_, ?_, ?_, fun k hk => ?_⟩, fun a q => ?_⟩
  · unfold f_Co_writeClear f_Wi_restart f_Co_startLook
    have s1 : C3 8 0 = nI b := by rw [o3 8 (by decide) (by decide), o2 8 (by decide)]; exact h3
    simp only [gI_5_0, h.2.2.2.2.2.2.1, Option.bind_some, xcl_5, e1, gI_5_6, h10, pI_5_6, gR_5_3, xcl_9, ← hC2, k1, ← hC3, gR_5_2, xcl_8, gI_8_0, s1, nI_1, pI_8_2, pI_8_3, pI_5_10, pI_5_11]
    rw [hC4]; rfl
  · exact h1.ag (by rw [o4 6 (by decide) (by decide), o3 6 (by decide) (by decide), o2 6 (by decide)]) (by rw [o4j 8 (by decide) (by decide), o2j 8 (by decide)]) (by rw [o4j 9 (by decide) (by decide), o2j 9 (by decide)]) (by rw [o4 7 (by decide) (by decide), o3 7 (by decide) (by decide), o2 7 (by decide)])
  · refine cTb.new ?_ ?_ (fun s hs => ?_)
    · rw [o4 9 (by decide) (by decide), hC3, up2_ne _ _ _ _ (Or.inr (by decide)), upR_ne _ _ _ (by decide), o2 9 (by decide)]; exact h2.1
    · rw [o4 9 (by decide) (by decide), hC3, up2_eq]
    · rw [o4 10 (by decide) (by decide), hC3, up2_row _ _ _ _ (by decide), upR_eq]; exact k2 s hs
  · rw [o48 0 (by decide) (by decide), o2 8 (by decide)]; exact h3
  · rw [o48 1 (by decide) (by decide), o2 8 (by decide)]; exact h4
  · rw [hC4]; simp [up2]
  · rw [hC4]; simp [up2]
  · rw [o4j 0 (by decide) (by decide), o2j 0 (by decide)]; exact h7
  · rw [o4j 1 (by decide) (by decide), o2j 1 (by decide)]; exact h8
  · rw [o4j 5 (by decide) (by decide), o2j 5 (by decide)]; exact h9
  · rw [o4j 6 (by decide) (by decide), o26]
  · rw [o4j 7 (by decide) (by decide), o2j 7 (by decide)]; exact h11
  · rw [hC4]; simp [up2]
  · rw [hC4]; simp [up2]
  · rw [o4 1 (by decide) (by decide), o3 1 (by decide) (by decide), o2 1 (by decide)]; exact h14
  · rw [o4 2 (by decide) (by decide), o3 2 (by decide) (by decide), o2 2 (by decide)]; exact h15 k hk
  · rw [o4 a (by omega) (by omega), o3 a (by omega) (by omega), o2 a (by omega), e3 a q]
theorem mWC (h : MS b r ru sy V T z wd sc pk a0 a1 a2 M) (hI : Inv b V T z wd sc pk) (hT : T + wd ≤ 144480) (hN : 8200 < N) : ∃ M', f_Mo_writeClear (SS n) N 71 M = some M' ∧ MS b r ru sy (V + 2 ^ b * 2 ^ T) (T + wd) (2 ^ b + 1) (b + 1) 0 pk (a0 + 1) (a1 + 1) (nI wd) M' ∧ FrMo M M' := by
  have hb1 : 1 ≤ b := by have := hI.1; omega
  have hcl := hI.2.2.2.2.low (c := 2 ^ b) hb1 (by omega)
  obtain ⟨M1, e1, e2, e3⟩ := mWr (n := n) h hI hcl hT (show 100 < N by omega)
  obtain ⟨h1, h2, h3, h4, h5, h6, h7, h8, h9, h10, h11, h12, h13⟩ := e2
  obtain ⟨M2, hM2⟩ : ∃ M2, M2 = up2 M1 74 1 (a1 + 1) := ⟨_, rfl⟩
  have o2 : ∀ a, a ≠ 74 → M2 a = M1 a := fun a q => by rw [hM2, up2_row _ _ _ _ q]
  have o2j : ∀ j, j ≠ 1 → M2 74 j = M1 74 j := fun j q => by rw [hM2, up2_ne _ _ _ _ (Or.inr q)]
  have o71 : M2 71 = M1 71 := o2 71 (by decide)
  obtain ⟨M3, k1, k2, k3, k4, k5, k6, k7, k8⟩ := begin_of (n := n) (N := N) (M := M2) hI.1 hI.2.1 (by rw [o71]; exact h3) (by rw [o71]; exact h4) (by rw [o71]; exact h5) hN
  have o3 : ∀ a, a ≠ 71 → (a < 77 ∨ 80 < a) → M3 a = M2 a := fun a q1 q2 => k8 a q1 (by omega) (by omega) (by omega) (by omega)
  refine ⟨M3, ?_, ⟨?_, mTb.new k2 k6, ?_, ?_, ?_, k3, k4, ?_, ?_, ?_, ?_, ?_, fun k hk => ?_⟩, e3.tr ⟨fun a q1 q2 q3 q4 => ?_, fun j q1 q2 q3 q4 => ?_, ?_⟩⟩
  · have g1 := aG_nI (F := M1) (k := 1) (sh_74 (n := n)) (by decide) (by decide)
    have p1 := aP_nI (F := M1) (k := 1) (v := a1 + 1) (sh_74 (n := n)) (by decide) (by decide)
    rw [show nI 1 = (1 : Int32) from rfl] at g1 p1
    unfold f_Mo_writeClear
    simp only [gI_71_1, h.2.2.2.1, Option.bind_some, xcl_71, e1, gR_71_9, g1, h9, p1, ← hM2, k1]
  · exact h1.ag (by rw [k5 20 (by decide) (by decide) (by decide), o71]) (by rw [o3 73 (by decide) (by decide), o2 73 (by decide)])
  · rw [k5 0 (by decide) (by decide) (by decide), o71]; exact h3
  · rw [k5 1 (by decide) (by decide) (by decide), o71]; exact h4
  · rw [k5 2 (by decide) (by decide) (by decide), o71]; exact h5
  · rw [o3 74 (by decide) (by decide), o2j 0 (by decide)]; exact h8
  · rw [o3 74 (by decide) (by decide), hM2, up2_eq]
  · rw [o3 74 (by decide) (by decide), o2j 2 (by decide)]; exact h10
  · rw [k5 5 (by decide) (by decide) (by decide), o71]; exact h11
  · rw [k5 4 (by decide) (by decide) (by decide), o71]; exact h12
  · rw [o3 72 (by decide) (by decide), o2 72 (by decide)]; exact h13 k hk
  · rw [o3 a q1 (by omega), o2 a q3]
  · rw [k5 j q1 q3 q4, o71]
  · rw [o3 74 (by decide) (by decide), o2j 3 (by decide)]
theorem Inv.cl (hI : Inv b V T z wd sc pk) : Inv b (V + 2 ^ b * 2 ^ T) (T + wd) (2 ^ b + 1) (b + 1) 0 pk := by
  have hb1 : 1 ≤ b := by have := hI.1; omega
  have hcl := hI.2.2.2.2.low (c := 2 ^ b) hb1 (by omega)
  have hE := E_le hI
  exact ⟨hI.1, hI.2.1, V_lt hI.2.2.1 hcl, Tbl.new (by omega), Wok.new hI.1 hI.2.1⟩
theorem Inv.we (hI : Inv b V T z wd sc pk) (hc : c < 2 ^ wd) (hs : sc + 1 ≤ 100000) : Inv b (V + c * 2 ^ T) (T + wd) z (nw (2 ^ b + 1) wd sc) (sc + 1) pk := ⟨hI.1, hI.2.1, V_lt hI.2.2.1 hc, hI.2.2.2.1, hI.2.2.2.2.step (by omega) hs⟩
end EN
