/-! decode: one code of a string, both sides -/
section DQ
variable {b n N z q w wd sc t c V L : Nat} {out pk bg ln : Nat → Nat} {bf : Option Nat} {C M : xF}
theorem nw_rng {E wd sc b : Nat} (h1 : b + 1 ≤ wd) (h2 : wd ≤ 12) : b + 1 ≤ nw E wd sc ∧ nw E wd sc ≤ 12 := by
  unfold nw
  by_cases c : wd < 12 ∧ E + (sc + 1) = 2 ^ wd
  · rw [if_pos c]; omega
  · rw [if_neg c]; omega
theorem dstep (hI : DI b q out z L pk bg ln bf wd) (hC : CD b w V q out L bg ln wd sc C) (hM : MD b w V t q out z pk ln wd sc M) (hcL : c ≤ L) (n1 : c ≠ 2 ^ b) (n2 : c ≠ 2 ^ b + 1) (hsc : sc ≤ 90000) (hnc : f_Mo_nextCode (SS n) N 71 M = some (nI c, up2 M 71 20 (nI (t + wd)))) (ht : t + wd ≤ 8 * w) (hw : w ≤ 24000) (hN : 20000 < N) :
    (f_Re_copyString (SS n) N 13 (nI c) C = some (0, C) ∧ ∃ k, k ≤ 7 ∧ ∀ fu, t_Mo_decode (SS n) N 71 (fu + k) 0 (oI bf) (-1) 1 0 0 0 M = t_Mo_decode (SS n) N 71 fu 0 (oI bf) (-1) 0 0 0 0 (up2 M 71 20 (nI (t + wd)))) ∨
    (∃ q' out' L' pk' bg' ln' C' M' k, k ≤ 8 ∧ f_Re_copyString (SS n) N 13 (nI c) C = some (1, C') ∧ (∀ fu, t_Mo_decode (SS n) N 71 (fu + k) 0 (oI bf) (-1) 1 0 0 0 M = t_Mo_decode (SS n) N 71 fu 0 (oI (some c)) (-1) 1 0 0 0 M') ∧ DI b q' out' L L' pk' bg' ln' (some c) (nw (2 ^ b + 1) wd sc) ∧ CD b w V q' out' L' bg' ln' (nw (2 ^ b + 1) wd sc) (sc + 1) C' ∧ MD b w V (t + wd) q' out' L pk' ln' (nw (2 ^ b + 1) wd sc) (sc + 1) M' ∧ FrCd C C' ∧ FrMd M M') := by
  obtain ⟨M1, hM1e⟩ : ∃ M1, M1 = up2 M 71 20 (nI (t + wd)) := ⟨_, rfl⟩
  rw [← hM1e] at hnc ⊢
  have hM1 : MD b w V (t + wd) q out z pk ln wd sc M1 := by rw [hM1e]; exact hM.bit
  have fM1 : FrMd M M1 := by
    rw [hM1e]
    exact ⟨fun a r1 r2 r3 => up2_row _ _ _ _ r1, fun j r1 r2 r3 r4 r5 => up2_ne _ _ _ _ (Or.inr r3)⟩
  have hI' := hI
  obtain ⟨i1, i2, i3, i4, i5, i6, i7, i8, i9, i10⟩ := hI
  obtain ⟨hp4, hp256⟩ := pw8 i1 i2
  have g20 : M 71 20 = nI t := hM.2.2.2.2.2.2.2.2.1
  have g21 : M 71 21 = nI wd := hM.2.2.2.2.2.2.2.2.2.1
  have g10 : M 71 10 = nI w := hM.2.2.2.2.2.2.2.2.2.2.2.1
  have k1 : M1 71 1 = nI (2 ^ b) := hM1.2.2.2.2.2.2.1
  have k2 : M1 71 2 = nI (2 ^ b + 1) := hM1.2.2.2.2.2.2.2.1
  have k14 : M1 71 14 = nI (z + 1) := hM1.2.2.1.1
  have k12 : M1 71 12 = nI q := hM1.1
  obtain ⟨c1, c2, c3, c4, c5, c6, c7, c8, c9, c10, c11, c12⟩ := hC
  have zL : z ≤ L ∧ L ≤ 4095 ∧ (bf = none → L = z) ∧ (∀ g, bf = some g → z < 4095 → L = z + 1) := by
    cases bf with
    | none =>
      obtain ⟨r1, r2⟩ := i10
      exact ⟨by omega, by omega, fun _ => by omega, fun g hg => by cases hg⟩
    | some g =>
      obtain ⟨lb, r1, r2, r3, r4, r5⟩ := i10
      by_cases cz : z < 4095
      · rw [if_pos cz] at r4
        exact ⟨by omega, by omega, (fun hg => by cases hg), fun _ _ _ => r4⟩
      · rw [if_neg cz] at r4
        exact ⟨by omega, by omega, (fun hg => by cases hg), fun _ _ r => by omega⟩
  obtain ⟨zL1, zL2, zL3, zL4⟩ := zL
  have str : ∃ len f, 1 ≤ len ∧ len ≤ 12001 ∧ (∀ j, j < len → f j < 2 ^ b) ∧ ((c < 2 ^ b ∧ len = 1 ∧ f 0 = c) ∨ (∃ bgc, 2 ^ b ≤ c ∧ C 16 c = nI bgc ∧ C 17 c = nI len ∧ ∀ i, i < len → bgc + i < q + i ∧ ext q out f (bgc + i) = ext q out f (q + i))) ∧ ((c ≤ z ∧ Spl (2 ^ b) (2 ^ b + 1) z pk f len c) ∨ (c = z + 1 ∧ z < 4095 ∧ ∃ g lb, bf = some g ∧ len = lb + 1 ∧ 1 ≤ lb ∧ lb ≤ q ∧ Spl (2 ^ b) (2 ^ b + 1) z pk (fun j => out (q - lb + j)) lb g ∧ (∀ j, j < lb → f j = out (q - lb + j)) ∧ f lb = f 0)) := by
    by_cases hc1 : c < 2 ^ b
    · exact ⟨1, fun _ => c, Nat.le_refl _, by decide, fun j _ => hc1, Or.inl ⟨hc1, rfl, rfl⟩, Or.inl ⟨by omega, ⟨hc1, rfl⟩⟩⟩
    · by_cases hc2 : c ≤ z
      · obtain ⟨r1, r2, r3, r4⟩ := i8 c (by omega) hc2
        obtain ⟨x1, x2⟩ := c6 c (by omega) hcL
        refine ⟨ln c, fun j => out (bg c + j), by omega, by omega, fun j hj => i9 _ (by omega), Or.inr ⟨bg c, by omega, x1, x2, fun i hi => ⟨by omega, ?_⟩⟩, Or.inl ⟨hc2, r4⟩⟩
        rw [ext_lo (show bg c + i < q by omega), ext_hi]
      · cases hbf : bf with
        | none => have := zL3 hbf; omega
        | some g =>
          subst hbf
          obtain ⟨lb, r1, r2, r3, r4, r5⟩ := i10
          by_cases cz : z < 4095
          · have hL1 := zL4 g rfl cz
            have hcz : c = z + 1 := by omega
            obtain ⟨y1, y2⟩ := r5 cz
            obtain ⟨x1, x2⟩ := c6 c (by omega) hcL
            rw [hcz, y1] at x1
            rw [hcz, y2] at x2
            have f1 : ∀ j, j < lb → (if j < lb then out (q - lb + j) else out (q - lb)) = out (q - lb + j) := fun j hj => by rw [if_pos hj]
            have f2 : (if lb < lb then out (q - lb + lb) else out (q - lb)) = out (q - lb) := by rw [if_neg (Nat.lt_irrefl _)]
            refine ⟨lb + 1, fun j => if j < lb then out (q - lb + j) else out (q - lb), by omega, by omega, fun j hj => ?_, Or.inr ⟨q - lb, by omega, by rw [hcz]; exact x1, by rw [hcz]; exact x2, fun i hi => ⟨by omega, ?_⟩⟩, Or.inr ⟨hcz, cz, g, lb, rfl, rfl, r1, r2, r3, f1, ?_⟩⟩
            · by_cases hj2 : j < lb
              · simp only [if_pos hj2]; exact i9 _ (by omega)
              · simp only [if_neg hj2]; exact i9 _ (by omega)
            · rw [ext_hi]
              by_cases hi2 : i < lb
              · rw [ext_lo (show q - lb + i < q by omega)]
                simp only [if_pos hi2]
              · have : i = lb := by omega
                subst this
                rw [show q - i + i = q + 0 by omega, ext_hi]
                simp only [if_neg (Nat.lt_irrefl i), if_pos (show 0 < i by omega), Nat.add_zero]
            · simp only [if_neg (Nat.lt_irrefl lb), if_pos (show 0 < lb by omega), Nat.add_zero]
          · rw [if_neg cz] at r4; omega
  obtain ⟨len, f, s1, s2, s3, s4, s5⟩ := str
  have hc96 : c < 4096 := by omega
  by_cases hq : q + len ≤ 12000
  · right
    have hcopy : ∃ C', f_Re_copyString (SS n) N 13 (nI c) C = some (1, C') ∧ CpO q len wd sc (2 ^ b + 1) L (ext q out f) C C' := by
      rcases s4 with ⟨r1, r2, r3⟩ | ⟨bgc, r1, r2, r3, r4⟩
      · subst r2
        exact copy_y1 (n := n) (N := N) c3 c1 hq hp256 r1 (by rw [show ext q out f q = ext q out f (q + 0) from rfl, ext_hi]; exact r3) (fun k hk => by rw [ext_lo hk]; exact c2 k hk) (by omega) i7 (by omega) zL2 c8 c9 c10 c5
      · exact copy_y2 (n := n) (N := N) c3 c1 hq hp256 r1 hc96 r2 r3 r4 (fun k hk => by rw [ext_lo hk]; exact c2 k hk) (by omega) i7 (by omega) zL2 c8 c9 c10 c5 (by omega)
    obtain ⟨C', e1, e2⟩ := hcopy
    obtain ⟨pk', M2, m1, m2, m3, m4, m5, m6, m7⟩ := ent (n := n) (f := f) (len := len) hI' hM1 (by omega) s1 (s3 0 (by omega))
    have hS : Spl (2 ^ b) (2 ^ b + 1) L pk' f len c := by
      rcases s5 with ⟨r1, r2⟩ | ⟨r1, r2, g, lb, r3, r4, r5, r6, r7, r8, r9⟩
      · exact Spl.mono m5 m1 _ _ r2
      · rcases m7 with ⟨w1, w2⟩ | ⟨g', lb', w1, w2, w3, w4, w5, w6, w7⟩
        · rw [r3] at w1; cases w1
        · rw [r3] at w1
          have hg : g = g' := Option.some.inj w1
          subst hg
          obtain ⟨x1, x2, x3, x4⟩ := w7 r2
          rw [r1, r4, x1]
          obtain ⟨m, rfl⟩ : ∃ m, lb = m + 1 := ⟨lb - 1, by omega⟩
          have hf256 := s3 0 (by omega)
          refine ⟨by omega, Nat.le_refl _, ?_, ?_⟩
          · rw [x2, r9]; omega
          · rw [x2, show (g * 256 + f 0) / 256 = g by omega, ← x1]
            exact Spl.mono m5 m1 _ _ (Spl.cg _ _ r8 r7)
    have h79 : M2 79 c = nI len := m2.lnt (ff := fun e j => ext q out f (bg e + j)) (fun e q1 q2 => (m4 e q1 q2).2.2.2) hS
    obtain ⟨M3, M4, p1, p2, p3, p4⟩ := spw (n := n) (N := N) m2 i1 i2 zL2 hS h79 hq i7 (show sc ≤ 100000 by omega) (by omega)
    have hfi : ∀ {f' : Nat → Nat} {m k : Nat}, Spl (2 ^ b) (2 ^ b + 1) z pk f' m k → m ≤ 12001 → f_Mo_firstOf (SS n) N 71 (nI k) M1 = some (nI (f' 0)) := fun {f' m k} h hm => first_of (n := n) (N := N) hp256 i5 hM1.tb h (by omega)
    have run : ∃ k, k ≤ 8 ∧ ∀ fu, t_Mo_decode (SS n) N 71 (fu + k) 0 (oI bf) (-1) 1 0 0 0 M = t_Mo_decode (SS n) N 71 fu 0 (oI (some c)) (-1) 1 0 0 0 M4 := by
      rcases s5 with ⟨r1, r2⟩ | ⟨r1, r2, g, lb, r3, r4, r5, r6, r7, r8, r9⟩
      · have hl := hM1.lnt (ff := fun e j => out (bg e + j)) (fun e q1 q2 => (i8 e q1 q2).2.2.2) r2
        refine ⟨8, Nat.le_refl _, fun fu => ?_⟩
        rw [show fu + 8 = fu + 1 + 1 + 1 + 1 + 1 + 1 + 1 + 1 by omega, md0_a _ g20 g21 g10 hw i7 ht hnc (by omega) k1 k2 hp256 n1 n2 k14 i5 (Or.inl (by omega)), md2_a _ k14 i5 r1 hl, md4_on _ k12 hq]
        rcases m7 with ⟨w1, w2⟩ | ⟨g', lb', w1, w2, w3, w4, w5, w6, w7⟩
        · subst w1 w2
          show t_Mo_decode (SS n) N 71 (fu + 1 + 1 + 1) 5 (-1) (-1) 1 (nI c) 0 (nI len) M2 = _
          rw [md5_n, md6 _ p1 p2]; rfl
        · subst w1
          show t_Mo_decode (SS n) N 71 (fu + 1 + 1 + 1) 5 (nI g') (-1) 1 (nI c) 0 (nI len) M1 = _
          rw [md5_0 _ (by omega) (hfi r2 s2) w3, md6 _ p1 p2]; rfl
      · rcases m7 with ⟨w1, w2⟩ | ⟨g', lb', w1, w2, w3, w4, w5, w6, w7⟩
        · rw [r3] at w1; cases w1
        · rw [r3] at w1
          have hg : g = g' := Option.some.inj w1
          subst hg
          subst r3
          have hl := hM1.lnt (ff := fun e j => out (bg e + j)) (fun e q1 q2 => (i8 e q1 q2).2.2.2) r7
          have hf0 : f_Mo_firstOf (SS n) N 71 (nI g) M1 = some (nI (f 0)) := by
            rw [hfi r7 (by omega), r8 0 (by omega)]
          refine ⟨7, by omega, fun fu => ?_⟩
          rw [show fu + 7 = fu + 1 + 1 + 1 + 1 + 1 + 1 + 1 by omega]
          show t_Mo_decode (SS n) N 71 (fu + 1 + 1 + 1 + 1 + 1 + 1 + 1) 0 (nI g) (-1) 1 0 0 0 M = _
          rw [md0_b _ g20 g21 g10 hw i7 ht hnc (by omega) k1 k2 hp256 n1 n2 k14 r1 (by omega), md2_b _ k14 i5 r1 w2 hl, ← r4, md4_on _ k12 hq, md5_1 _ (by omega) hf0 w3, md6 _ p1 p2]; rfl
    obtain ⟨k, kk1, kk2⟩ := run
    obtain ⟨o1, o2, o3, o4, o5, o6, o7, o8, o9, o10⟩ := e2
    have hnw := nw_rng (E := 2 ^ b + 1) (sc := sc) i6 i7
    refine ⟨q + len, ext q out f, (if L < 4095 then L + 1 else L), pk', (fun e => if e = L + 1 then q else bg e), (fun e => if e = L + 1 then len + 1 else ln e), C', M4, k, kk1, e1, kk2, ?_, ?_, ?_, o10, fM1.tr (m3.tr p4)⟩
    · refine ⟨i1, i2, hq, by omega, zL2, hnw.1, hnw.2, fun e q1 q2 => ?_, fun k hk => ?_, ⟨len, s1, by omega, ?_, rfl, fun _ => ⟨?_, ?_⟩⟩⟩
      · have hne : ¬ e = L + 1 := by omega
        simp only [if_neg hne]
        exact m4 e q1 q2
      · by_cases hk2 : k < q
        · rw [ext_lo hk2]; exact i9 k hk2
        · rw [show k = q + (k - q) by omega, ext_hi]; exact s3 _ (by omega)
      · refine Spl.cg _ _ (fun j hj => ?_) hS
        show ext q out f (q + len - len + j) = f j
        rw [Nat.add_sub_cancel, ext_hi]
      · simp only [if_true]; omega
      · simp only [if_true]
    · refine ⟨o1, o2, by rw [o9 0 (by decide)]; exact c3, by rw [o9 1 (by decide)]; exact c4, o6, fun e q1 q2 => ?_, by rw [o5 0 (by decide) (by decide)]; exact c7, by rw [o5 1 (by decide) (by decide)]; exact c8, o3, o4, by rw [o10 3 (by decide)]; exact c11, fun k hk => by rw [o10 4 (by decide)]; exact c12 k hk⟩
      by_cases he : e = L + 1
      · subst he
        have hL : L < 4095 := by
          refine Classical.byContradiction fun r => ?_
          rw [if_neg r] at q2
          omega
        simp only [if_true]
        exact o7 hL
      · simp only [if_neg he]
        have he2 : e ≤ L := by
          by_cases hL : L < 4095
          · rw [if_pos hL] at q2; omega
          · rw [if_neg hL] at q2; exact q2
        rw [(o8 e he2).1, (o8 e he2).2]
        exact c6 e q1 he2
    · obtain ⟨v1, v2, v3, v4, v5, v6⟩ := p3
      refine ⟨v1, v2, v3, v4, fun e q1 q2 => ?_, v6⟩
      have hne : ¬ e = L + 1 := by omega
      simp only [if_neg hne]
      exact v5 e q1 q2
  · left
    refine ⟨copy_no (n := n) (N := N) (len := len) c3 c1 i3 (by omega) hq hp256 ?_, ?_⟩
    · rcases s4 with ⟨r1, r2, r3⟩ | ⟨bgc, r1, r2, r3, r4⟩
      · exact Or.inl ⟨r1, r2⟩
      · exact Or.inr ⟨r1, hc96, r3⟩
    · rcases s5 with ⟨r1, r2⟩ | ⟨r1, r2, g, lb, r3, r4, r5, r6, r7, r8, r9⟩
      · have hl := hM1.lnt (ff := fun e j => out (bg e + j)) (fun e q1 q2 => (i8 e q1 q2).2.2.2) r2
        refine ⟨7, Nat.le_refl _, fun fu => ?_⟩
        rw [show fu + 7 = fu + 1 + 1 + 1 + 1 + 1 + 1 + 1 by omega, md0_a _ g20 g21 g10 hw i7 ht hnc (by omega) k1 k2 hp256 n1 n2 k14 i5 (Or.inl (by omega)), md2_a _ k14 i5 r1 hl, md4_off _ k12 i3 (by omega) hq]
      · subst r3
        have hl := hM1.lnt (ff := fun e j => out (bg e + j)) (fun e q1 q2 => (i8 e q1 q2).2.2.2) r7
        refine ⟨6, by omega, fun fu => ?_⟩
        rw [show fu + 6 = fu + 1 + 1 + 1 + 1 + 1 + 1 by omega]
        show t_Mo_decode (SS n) N 71 (fu + 1 + 1 + 1 + 1 + 1 + 1) 0 (nI g) (-1) 1 0 0 0 M = t_Mo_decode (SS n) N 71 fu 0 (nI g) (-1) 0 0 0 0 M1
        rw [md0_b _ g20 g21 g10 hw i7 ht hnc (by omega) k1 k2 hp256 n1 n2 k14 r1 (by have := r7.le hp256 i5; omega), md2_b _ k14 i5 r1 (r7.le hp256 i5) hl, ← r4, md4_off _ k12 i3 (by omega) hq]
end DQ
