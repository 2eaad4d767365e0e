/-! decode: one code -/
theorem Spl.uniq {B E z : Nat} {pk f f' : Nat → Nat} (hBE : B ≤ E) : ∀ (m m' k : Nat), Spl B E z pk f m k → Spl B E z pk f' m' k → m = m'
  | 0, _, _, h, _ => absurd h (fun q => q)
  | _, 0, _, _, h => absurd h (fun q => q)
  | 1, 1, _, _, _ => rfl
  | 1, m' + 2, k, h, h' => by have := h.1; have := h'.1; omega
  | m + 2, 1, k, h, h' => by have := h.1; have := h'.1; omega
  | m + 2, m' + 2, k, h, h' => by have := Spl.uniq hBE (m + 1) (m' + 1) (pk k / 256) h.2.2.2 h'.2.2.2; omega
def BfO (b q : Nat) (out : Nat → Nat) (z L : Nat) (pk bg ln : Nat → Nat) : Option Nat → Prop
  | none => z = 2 ^ b + 1 ∧ L = 2 ^ b + 1
  | some g => ∃ lb, 1 ≤ lb ∧ lb ≤ q ∧ Spl (2 ^ b) (2 ^ b + 1) z pk (fun j => out (q - lb + j)) lb g ∧ L = (if z < 4095 then z + 1 else z) ∧ (z < 4095 → bg (z + 1) = q - lb ∧ ln (z + 1) = lb + 1)
def DI (b q : Nat) (out : Nat → Nat) (z L : Nat) (pk bg ln : Nat → Nat) (bf : Option Nat) (wd : Nat) : Prop := 2 ≤ b ∧ b ≤ 8 ∧ q ≤ 12000 ∧ 2 ^ b + 1 ≤ z ∧ z ≤ 4095 ∧ b + 1 ≤ wd ∧ wd ≤ 12 ∧ (∀ e, 2 ^ b + 1 < e → e ≤ z → pk e < 1048576 ∧ 2 ≤ ln e ∧ bg e + ln e ≤ q ∧ Spl (2 ^ b) (2 ^ b + 1) z pk (fun j => out (bg e + j)) (ln e) e) ∧ (∀ k, k < q → out k < 2 ^ b) ∧ BfO b q out z L pk bg ln bf
def CD (b w V q : Nat) (out : Nat → Nat) (L : Nat) (bg ln : Nat → Nat) (wd sc : Nat) (C : xF) : Prop := C 14 1 = nI q ∧ (∀ k, k < q → C 15 k = nI (out k)) ∧ C 13 0 = nI (2 ^ b) ∧ C 13 1 = nI (2 ^ b + 1) ∧ C 13 6 = nI L ∧ (∀ e, 2 ^ b + 1 < e → e ≤ L → C 16 e = nI (bg e) ∧ C 17 e = nI (ln e)) ∧ C 18 0 = nI b ∧ C 18 1 = nI (2 ^ b + 1) ∧ C 18 2 = nI wd ∧ C 18 3 = nI sc ∧ C 3 1 = nI w ∧ ∀ k, k < w → C 4 k = nI (V / 2 ^ (8 * k) % 256)
def MD (b w V t q : Nat) (out : Nat → Nat) (z : Nat) (pk ln : Nat → Nat) (wd sc : Nat) (M : xF) : Prop := M 71 12 = nI q ∧ (∀ k, k < q → M 76 k = nI (out k)) ∧ mTb (2 ^ b + 1) z pk M ∧ (∀ k, k < 2 ^ b → M 77 k = -1 ∧ M 78 k = nI k ∧ M 79 k = nI 1) ∧ (∀ e, 2 ^ b + 1 < e → e ≤ z → M 79 e = nI (ln e)) ∧ M 71 0 = nI b ∧ M 71 1 = nI (2 ^ b) ∧ M 71 2 = nI (2 ^ b + 1) ∧ M 71 20 = nI t ∧ M 71 21 = nI wd ∧ M 71 22 = nI sc ∧ M 71 10 = nI w ∧ ∀ k, k < w → M 75 k = vp_nar .byte (nI (V / 2 ^ (8 * k) % 256))
def FrCd (C C' : xF) : Prop := ∀ a, (a < 13 ∨ 18 < a) → C' a = C a
def FrMd (M M' : xF) : Prop := (∀ a, a ≠ 71 → a ≠ 76 → (a < 77 ∨ 81 < a) → M' a = M a) ∧ ∀ j, j ≠ 12 → j ≠ 14 → j ≠ 20 → j ≠ 21 → j ≠ 22 → M' 71 j = M 71 j
theorem FrCd.tr {A B C : xF} (h1 : FrCd A B) (h2 : FrCd B C) : FrCd A C := fun a q => by rw [h2 a q, h1 a q]
theorem FrMd.tr {A B C : xF} (h1 : FrMd A B) (h2 : FrMd B C) : FrMd A C := ⟨fun a q1 q2 q3 => by rw [h2.1 a q1 q2 q3, h1.1 a q1 q2 q3], fun j q1 q2 q3 q4 q5 => by rw [h2.2 j q1 q2 q3 q4 q5, h1.2 j q1 q2 q3 q4 q5]⟩
theorem FrCd.rf {A : xF} : FrCd A A := fun _ _ => rfl
theorem FrMd.rf {A : xF} : FrMd A A := ⟨fun _ _ _ _ => rfl, fun _ _ _ _ _ _ => rfl⟩
def ext (q : Nat) (out f : Nat → Nat) : Nat → Nat := fun k => if k < q then out k else f (k - q)
theorem ext_lo {q k : Nat} {out f : Nat → Nat} (h : k < q) : ext q out f k = out k := by unfold ext; rw [if_pos h]
theorem ext_hi {q j : Nat} {out f : Nat → Nat} : ext q out f (q + j) = f j := by unfold ext; rw [if_neg (by omega), Nat.add_sub_cancel_left]
section DP
variable {b n N z q w wd sc t c V L len g lb : Nat} {out pk bg ln f : Nat → Nat} {bf : Option Nat} {C M M1 M2 : xF}
theorem MD.tb (h : MD b w V t q out z pk ln wd sc M) : TB (2 ^ b) (2 ^ b + 1) z pk M := ⟨fun k hk => ⟨(h.2.2.2.1 k hk).1, (h.2.2.2.1 k hk).2.1⟩, h.2.2.1.2.1⟩
theorem MD.lnt (h : MD b w V t q out z pk ln wd sc M) {ff : Nat → Nat → Nat} (hI : ∀ e, 2 ^ b + 1 < e → e ≤ z → Spl (2 ^ b) (2 ^ b + 1) z pk (ff e) (ln e) e) {f : Nat → Nat} {m k : Nat} (hs : Spl (2 ^ b) (2 ^ b + 1) z pk f m k) : M 79 k = nI m := by
  cases m with
  | zero => exact absurd hs (fun q => q)
  | succ m =>
    cases m with
    | zero => exact (h.2.2.2.1 k hs.1).2.2
    | succ m =>
      rw [h.2.2.2.2.1 k hs.1 hs.2.1, Spl.uniq (by omega) _ _ k (hI k hs.1 hs.2.1) hs]
theorem MD.bit (h : MD b w V t q out z pk ln wd sc M) {t' : Nat} : MD b w V t' q out z pk ln wd sc (up2 M 71 20 (nI t')) := by
  obtain ⟨h1, h2, h3, h4, h5, h6, h7, h8, h9, h10, h11, h12, h13⟩ := h
  have o : ∀ a, a ≠ 71 → up2 M 71 20 (nI t') a = M a := fun a r => up2_row _ _ _ _ r
  have oj : ∀ j, j ≠ 20 → up2 M 71 20 (nI t') 71 j = M 71 j := fun j r => up2_ne _ _ _ _ (Or.inr r)
  unfold MD
  rw [oj 12 (by decide), o 76 (by decide), o 77 (by decide), o 78 (by decide), o 79 (by decide), oj 0 (by decide), oj 1 (by decide), oj 2 (by decide), up2_eq, oj 21 (by decide), oj 22 (by decide), oj 10 (by decide), o 75 (by decide)]
  exact ⟨h1, h2, h3.ag (oj 14 (by decide)) (o 77 (by decide)) (o 78 (by decide)) (o 80 (by decide)) (o 81 (by decide)), h4, h5, h6, h7, h8, rfl, h10, h11, h12, h13⟩
/-- the reference's table behind the entry that was pending -/
theorem ent (hI : DI b q out z L pk bg ln bf wd) (hM : MD b w V t q out z pk ln wd sc M) (hx : len ≤ 1000000) (hx1 : 1 ≤ len) (hf0 : f 0 < 2 ^ b) : ∃ pk' M2, (∀ e, e ≤ z → pk' e = pk e) ∧ MD b w V t q out L pk' ln wd sc M2 ∧ FrMd M M2 ∧ (∀ e, 2 ^ b + 1 < e → e ≤ L → pk' e < 1048576 ∧ 2 ≤ ln e ∧ bg e + ln e ≤ q + len ∧ Spl (2 ^ b) (2 ^ b + 1) L pk' (fun j => ext q out f (bg e + j)) (ln e) e) ∧ z ≤ L ∧ L ≤ 4095 ∧ ((bf = none ∧ M2 = M) ∨ ∃ g lb, bf = some g ∧ g < 4096 ∧ f_Mo_enter (SS n) 71 (nI g) (nI (f 0)) M = some M2 ∧ 1 ≤ lb ∧ lb ≤ q ∧ Spl (2 ^ b) (2 ^ b + 1) z pk (fun j => out (q - lb + j)) lb g ∧ (z < 4095 → L = z + 1 ∧ pk' (z + 1) = g * 256 + f 0 ∧ bg (z + 1) = q - lb ∧ ln (z + 1) = lb + 1)) := by
  obtain ⟨i1, i2, i3, i4, i5, i6, i7, i8, i9, i10⟩ := hI
  have hp256 := (pw8 i1 i2).2
  have old : ∀ pk', (∀ e, e ≤ z → pk' e = pk e) → z ≤ L → ∀ e, 2 ^ b + 1 < e → e ≤ z → pk' e < 1048576 ∧ 2 ≤ ln e ∧ bg e + ln e ≤ q + len ∧ Spl (2 ^ b) (2 ^ b + 1) L pk' (fun j => ext q out f (bg e + j)) (ln e) e := fun pk' q1 q2 e e1 e2 => by
    obtain ⟨r1, r2, r3, r4⟩ := i8 e e1 e2
    refine ⟨by rw [q1 e e2]; exact r1, r2, by omega, Spl.mono q2 q1 _ _ (Spl.cg _ _ (fun j hj => ?_) r4)⟩
    exact ext_lo (show bg e + j < q by omega)
  cases bf with
  | none =>
    obtain ⟨b1, b2⟩ := i10
    have hzL : z = L := by omega
    subst hzL
    exact ⟨pk, M, fun e _ => rfl, hM, FrMd.rf, old pk (fun e _ => rfl) (Nat.le_refl _), Nat.le_refl _, i5, Or.inl ⟨rfl, rfl⟩⟩
  | some g =>
    obtain ⟨lb, b1, b2, b3, b4, b5⟩ := i10
    have hg := b3.le hp256 i5
    by_cases cz : z < 4095
    · rw [if_pos cz] at b4
      subst b4
      obtain ⟨c1, c2⟩ := b5 cz
      obtain ⟨h1, h2, h3, h4, h5, h6, h7, h8, h9, h10, h11, h12, h13⟩ := hM
      have hM' : MD b w V t q out z pk ln wd sc M := ⟨h1, h2, h3, h4, h5, h6, h7, h8, h9, h10, h11, h12, h13⟩
      have h79g : M 79 g = nI lb := hM'.lnt (ff := fun e j => out (bg e + j)) (fun e e1 e2 => (i8 e e1 e2).2.2.2) b3
      obtain ⟨M2, e1, e2, e3, e4, e5, e6, e7, e8⟩ := enter_of (n := n) h3 i4 cz hg (show f 0 < 256 by omega)
      have hpk : ∀ e, e ≤ z → pku pk z (g * 256 + f 0) e = pk e := fun e he => by unfold pku; rw [if_neg (by omega)]
      have hpk1 : pku pk z (g * 256 + f 0) (z + 1) = g * 256 + f 0 := by unfold pku; rw [if_pos rfl]
      have o : ∀ a, a ≠ 71 → (a < 77 ∨ 81 < a) → M2 a = M a := fun a q1 q2 => e4 a q1 (by omega) (by omega) (by omega) (by omega) (by omega)
      refine ⟨pku pk z (g * 256 + f 0), M2, hpk, ⟨?_, fun k hk => ?_, e2, fun k hk => ?_, fun e q1 q2 => ?_, ?_, ?_, ?_, ?_, ?_, ?_, ?_, fun k hk => ?_⟩, ⟨fun a q1 q2 q3 => o a q1 q3, fun j q1 q2 q3 q4 q5 => e5 j q2⟩, fun e q1 q2 => ?_, by omega, by omega, Or.inr ⟨g, lb, rfl, hg, e1, b1, b2, b3, fun _ => ⟨rfl, hpk1, c1, c2⟩⟩⟩
      · rw [e5 12 (by decide)]; exact h1
      · rw [o 76 (by decide) (by decide)]; exact h2 k hk
      · obtain ⟨r1, r2, r3⟩ := e6 k (by omega)
        rw [r1, r2, r3]; exact h4 k hk
      · by_cases he : e = z + 1
        · subst he
          rw [e3, h79g, nI_1, c2]
        · rw [(e6 e he).2.2]; exact h5 e q1 (by omega)
      · rw [e5 0 (by decide)]; exact h6
      · rw [e5 1 (by decide)]; exact h7
      · rw [e5 2 (by decide)]; exact h8
      · rw [e5 20 (by decide)]; exact h9
      · rw [e5 21 (by decide)]; exact h10
      · rw [e5 22 (by decide)]; exact h11
      · rw [e5 10 (by decide)]; exact h12
      · rw [o 75 (by decide) (by decide)]; exact h13 k hk
      · by_cases he : e = z + 1
        · subst he
          rw [hpk1, c1, c2]
          refine ⟨by omega, by omega, by omega, ?_⟩
          obtain ⟨m, rfl⟩ : ∃ m, lb = m + 1 := ⟨lb - 1, by omega⟩
          refine ⟨q1, Nat.le_refl _, ?_, ?_⟩
          · show pku pk z (g * 256 + f 0) (z + 1) % 256 = ext q out f (q - (m + 1) + (m + 1))
            rw [hpk1, show q - (m + 1) + (m + 1) = q + 0 by omega, ext_hi]
            omega
          · rw [hpk1, show (g * 256 + f 0) / 256 = g by omega]
            refine Spl.mono (Nat.le_succ z) hpk _ _ (Spl.cg _ _ (fun j hj => ?_) b3)
            exact ext_lo (show q - (m + 1) + j < q by omega)
        · exact old _ hpk (by omega) e q1 (by omega)
    · rw [if_neg cz] at b4
      subst b4
      exact ⟨pk, M, fun e _ => rfl, hM, FrMd.rf, old pk (fun e _ => rfl) (Nat.le_refl _), Nat.le_refl _, i5, Or.inr ⟨g, lb, rfl, hg, enter_full hM.2.2.1.1 (by omega), b1, b2, b3, fun r => by omega⟩⟩
/-- spelling and widening -/
theorem spw (hM : MD b w V t q out L pk ln wd sc M) (hb2 : 2 ≤ b) (hb8 : b ≤ 8) (hL : L ≤ 4095) (hs : Spl (2 ^ b) (2 ^ b + 1) L pk f len c) (h79 : M 79 c = nI len) (hq : q + len ≤ 12000) (hwd : wd ≤ 12) (hsc : sc ≤ 100000) (hN : 12100 < N) : ∃ M1 M2, f_Mo_spell (SS n) N 71 (nI c) M = some M1 ∧ f_Mo_widen (SS n) 71 M1 = some M2 ∧ MD b w V t (q + len) (ext q out f) L pk ln (nw (2 ^ b + 1) wd sc) (sc + 1) M2 ∧ FrMd M M2 := by
  have hp256 := (pw8 hb2 hb8).2
  obtain ⟨M1, k1, k2, k3, k4, k5, k6⟩ := spell_of (n := n) (N := N) hp256 hL hM.tb hs hM.1 h79 hq hN
  obtain ⟨h1, h2, h3, h4, h5, h6, h7, h8, h9, h10, h11, h12, h13⟩ := hM
  obtain ⟨M2, e1, e2, e3, e4, e5⟩ := mwi_of (n := n) (M := M1) (by rw [k6 2 (by decide)]; exact h8) (by rw [k6 21 (by decide)]; exact h10) (by rw [k6 22 (by decide)]; exact h11) (show 2 ^ b + 1 ≤ 1000 by omega) hwd hsc
  have o : ∀ a, a ≠ 71 → a ≠ 76 → M2 a = M a := fun a q1 q2 => by rw [e5 a q1, k5 a q1 q2]
  have oj : ∀ j, j ≠ 12 → j ≠ 21 → j ≠ 22 → M2 71 j = M 71 j := fun j q1 q2 q3 => by rw [e4 j q2 q3, k6 j q1]
  refine ⟨M1, M2, k1, e1, ⟨?_, fun k hk => ?_, ?_, fun k hk => ?_, fun e q1 q2 => ?_, ?_, ?_, ?_, ?_, e2, e3, ?_, fun k hk => ?_⟩, ⟨fun a q1 q2 q3 => o a q1 q2, fun j q1 q2 q3 q4 q5 => oj j q1 q4 q5⟩⟩
  · rw [e4 12 (by decide) (by decide)]; exact k2
  · rw [e5 76 (by decide)]
    by_cases hk2 : k < q
    · rw [k4 k (Or.inl hk2), h2 k hk2, ext_lo hk2]
    · have := k3 (k - q) (by omega)
      rw [show q + (k - q) = k by omega] at this
      rw [this, show k = q + (k - q) by omega, ext_hi]
      congr 2
      omega
  · exact h3.ag (oj 14 (by decide) (by decide) (by decide)) (o 77 (by decide) (by decide)) (o 78 (by decide) (by decide)) (o 80 (by decide) (by decide)) (o 81 (by decide) (by decide))
  · rw [o 77 (by decide) (by decide), o 78 (by decide) (by decide), o 79 (by decide) (by decide)]; exact h4 k hk
  · rw [o 79 (by decide) (by decide)]; exact h5 e q1 q2
  · rw [oj 0 (by decide) (by decide) (by decide)]; exact h6
  · rw [oj 1 (by decide) (by decide) (by decide)]; exact h7
  · rw [oj 2 (by decide) (by decide) (by decide)]; exact h8
  · rw [oj 20 (by decide) (by decide) (by decide)]; exact h9
  · rw [oj 10 (by decide) (by decide) (by decide)]; exact h12
  · rw [o 75 (by decide) (by decide)]; exact h13 k hk
end DP
