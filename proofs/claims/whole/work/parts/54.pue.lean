/-! shown: the picture of one place of the screen; the class's side -/
def gX (F : xF) (i : Nat) : Nat := (F 82 i).toNatClampNeg
def gY (F : xF) (i : Nat) : Nat := (F 83 i).toNatClampNeg
def gW (F : xF) (i : Nat) : Nat := (F 84 i).toNatClampNeg
def gH (F : xF) (i : Nat) : Nat := (F 85 i).toNatClampNeg
def gE (F : xF) (i : Nat) : Nat := (F 86 i).toNatClampNeg
def cvr (F : xF) (x y i : Nat) : Bool := decide (gX F i ≤ x ∧ x < gX F i + gW F i ∧ gY F i ≤ y ∧ y < gY F i + gH F i)
def sgm (F : xF) (x y i : Nat) : Int32 := F 89 (576 * i + 24 * (y - gY F i) + (x - gX F i))
def vis (F : xF) (x y i : Nat) : Bool := cvr F x y i && decide (sgm F x y i ≠ F 88 i)
def srcA (F : xF) (x y : Nat) : Nat → Option Nat
  | 0 => none
  | i + 1 => if cvr F x y i = true then (if gE F i = 2 then none else if gE F i = 3 then srcA F x y i else if vis F x y i = true then some i else srcA F x y i) else srcA F x y i
def drw (F : xF) (x y i : Nat) : Option Nat := if vis F x y i = true then some i else srcA F x y i
def oI : Option Nat → Int32
  | none => -1
  | some k => nI k
theorem cvr_iff {F : xF} {x y i : Nat} : cvr F x y i = true ↔ gX F i ≤ x ∧ x < gX F i + gW F i ∧ gY F i ≤ y ∧ y < gY F i + gH F i := by
  unfold cvr; exact decide_eq_true_iff
theorem vis_iff {F : xF} {x y i : Nat} : vis F x y i = true ↔ cvr F x y i = true ∧ sgm F x y i ≠ F 88 i := by
  unfold vis
  rw [Bool.and_eq_true, decide_eq_true_iff]
theorem srcA_lt {F : xF} {x y k : Nat} : ∀ i, srcA F x y i = some k → k < i ∧ cvr F x y k = true
  | 0, h => by cases h
  | i + 1, h => by
    have ih := srcA_lt (F := F) (x := x) (y := y) (k := k) i
    have up : srcA F x y i = some k → k < i + 1 ∧ cvr F x y k = true := fun q => ⟨Nat.lt_succ_of_lt (ih q).1, (ih q).2⟩
    change (if cvr F x y i = true then (if gE F i = 2 then none else if gE F i = 3 then srcA F x y i else if vis F x y i = true then some i else srcA F x y i) else srcA F x y i) = some k at h
    by_cases c1 : cvr F x y i = true
    · rw [if_pos c1] at h
      by_cases c2 : gE F i = 2
      · rw [if_pos c2] at h; cases h
      · rw [if_neg c2] at h
        by_cases c3 : gE F i = 3
        · rw [if_pos c3] at h; exact up h
        · rw [if_neg c3] at h
          by_cases c4 : vis F x y i = true
          · rw [if_pos c4] at h
            have : i = k := Option.some.inj h
            subst this
            exact ⟨Nat.lt_succ_self _, c1⟩
          · rw [if_neg c4] at h; exact up h
    · rw [if_neg c1] at h; exact up h
theorem drw_le {F : xF} {x y k i : Nat} (h : drw F x y i = some k) : k ≤ i ∧ cvr F x y k = true := by
  unfold drw at h
  by_cases c4 : vis F x y i = true
  · rw [if_pos c4] at h
    have : i = k := Option.some.inj h
    subst this
    exact ⟨Nat.le_refl _, (vis_iff.mp c4).1⟩
  · rw [if_neg c4] at h
    have := srcA_lt i h
    exact ⟨Nat.le_of_lt this.1, this.2⟩
section SG
variable {b n N i f x y p : Nat} {F : xF} {G : xL} {p1 p2 p3 : Int32}
theorem geo (h : Frm b i F) : 1 ≤ gW F i ∧ 1 ≤ gH F i ∧ gX F i + gW F i ≤ 24 ∧ gY F i + gH F i ≤ 24 ∧ gE F i ≤ 3 ∧ F (23 + 4 * i) 2 = nI (gX F i) ∧ F 82 i = nI (gX F i) ∧ F (23 + 4 * i) 3 = nI (gY F i) ∧ F 83 i = nI (gY F i) ∧ F (23 + 4 * i) 4 = nI (gW F i) ∧ F 84 i = nI (gW F i) ∧ F (23 + 4 * i) 5 = nI (gH F i) ∧ F 85 i = nI (gH F i) ∧ F (23 + 4 * i) 6 = nI (gE F i) ∧ F 86 i = nI (gE F i) ∧ ∀ r c, r < gH F i → c < gW F i → ∃ s : Nat, s < 2 ^ b ∧ F (24 + 4 * i) (r * gW F i + c) = nI s ∧ F 89 (576 * i + 24 * r + c) = nI s := by
  obtain ⟨x, y, w, hh, e, d, h1, h2, h3, h4, h5, h6, a1, a2, a3, a4, a5, a6, a7, a8, a9, a10, a11, a12, hs⟩ := h.g
  have e1 : gX F i = x := by unfold gX; rw [a2, nI_cl (by omega)]
  have e2 : gY F i = y := by unfold gY; rw [a4, nI_cl (by omega)]
  have e3 : gW F i = w := by unfold gW; rw [a6, nI_cl (by omega)]
  have e4 : gH F i = hh := by unfold gH; rw [a8, nI_cl (by omega)]
  have e5 : gE F i = e := by unfold gE; rw [a10, nI_cl (by omega)]
  rw [e1, e2, e3, e4, e5]
  exact ⟨h1, h2, h3, h4, h5, a1, a2, a3, a4, a5, a6, a7, a8, a9, a10, hs⟩
theorem cov_of (h : Frm b i F) (hi : i < 12) (hx : x < 24) (hy : y < 24) : f_Fr_covers (SS n) (23 + 4 * i) (nI x) (nI y) F = some (if cvr F x y i = true then 1 else 0) := by
  obtain ⟨h1, h2, h3, h4, h5, a1, a2, a3, a4, a5, a6, a7, a8, a9, a10, hs⟩ := geo h
  have g2 := fr_get (n := n) (F := F) hi (show 2 ≤ 2 by decide) (show 2 ≤ 8 by decide)
  have g3 := fr_get (n := n) (F := F) hi (show 2 ≤ 3 by decide) (show 3 ≤ 8 by decide)
  have g4 := fr_get (n := n) (F := F) hi (show 2 ≤ 4 by decide) (show 4 ≤ 8 by decide)
  have g5 := fr_get (n := n) (F := F) hi (show 2 ≤ 5 by decide) (show 5 ≤ 8 by decide)
  unfold f_Fr_covers
  simp only [g2, g3, g4, g5, a1, a3, a5, a7, Option.bind_some]
  by_cases c1 : x < gX F i
  · rw [if_pos ((nI_lt_iff (by omega) (by omega)).mpr c1), if_neg (by rw [cvr_iff]; omega)]
  · rw [if_neg (by rw [nI_lt_iff (by omega) (by omega)]; exact c1), nI_sub (show gX F i ≤ x by omega)]
    by_cases c2 : gW F i ≤ x - gX F i
    · rw [if_pos ((nI_le_iff (by omega) (by omega)).mpr c2), if_neg (by rw [cvr_iff]; omega)]
    · rw [if_neg (by rw [nI_le_iff (by omega) (by omega)]; exact c2)]
      by_cases c3 : y < gY F i
      · rw [if_pos ((nI_lt_iff (by omega) (by omega)).mpr c3), if_neg (by rw [cvr_iff]; omega)]
      · rw [if_neg (by rw [nI_lt_iff (by omega) (by omega)]; exact c3), nI_sub (show gY F i ≤ y by omega)]
        by_cases c4 : gH F i ≤ y - gY F i
        · rw [if_pos ((nI_le_iff (by omega) (by omega)).mpr c4), if_neg (by rw [cvr_iff]; omega)]
        · rw [if_neg (by rw [nI_le_iff (by omega) (by omega)]; exact c4), if_pos (by rw [cvr_iff]; omega)]
theorem symOn_of (h : Frm b i F) (hi : i < 12) (hc : cvr F x y i = true) : f_Fr_symbolOn (SS n) (23 + 4 * i) (nI x) (nI y) F = some (sgm F x y i) ∧ ∃ s : Nat, s < 2 ^ b ∧ sgm F x y i = nI s := by
  obtain ⟨h1, h2, h3, h4, h5, a1, a2, a3, a4, a5, a6, a7, a8, a9, a10, hs⟩ := geo h
  rw [cvr_iff] at hc
  have g2 := fr_get (n := n) (F := F) hi (show 2 ≤ 2 by decide) (show 2 ≤ 8 by decide)
  have g3 := fr_get (n := n) (F := F) hi (show 2 ≤ 3 by decide) (show 3 ≤ 8 by decide)
  obtain ⟨s, s1, s2, s3⟩ := hs (y - gY F i) (x - gX F i) (by omega) (by omega)
  refine ⟨?_, s, s1, s3⟩
  unfold f_Fr_symbolOn sgm
  simp only [g2, g3, a1, a3, Option.bind_some, nI_sub (show gX F i ≤ x by omega), nI_sub (show gY F i ≤ y by omega), fr_xcl hi]
  rw [symIn_of hi a5 (sq24 (h := gH F i) (show y - gY F i < gH F i by omega) (show x - gX F i < gW F i by omega) (by omega) (by omega)), Option.bind_some, s2, s3]
theorem srcAf {E : Nat} (hE : E ≤ 3) {u v : Int32} : f_Sc_sourceAfter (SS n) (nI E) u v F = some (if E = 2 then -1 else if E = 3 then u else v) := by
  unfold f_Sc_sourceAfter
  by_cases c1 : E = 2
  · rw [if_pos c1, if_pos (by rw [c1]; rfl)]
  · rw [if_neg c1, if_neg (by rw [show (2 : Int32) = nI 2 from rfl, nI_eq_iff (by omega) (by decide)]; exact c1)]
    by_cases c2 : E = 3
    · rw [if_pos c2, if_pos (by rw [c2]; rfl)]
    · rw [if_neg c2, if_neg (by rw [show (3 : Int32) = nI 3 from rfl, nI_eq_iff (by omega) (by decide)]; exact c2)]
theorem sb_step (hf : f ≤ 12) (hf2 : F 19 2 = nI f) (hpf : p < f) (hip : i < p) (h : Frm b i F) (hx : x < 24) (hy : y < 24) (fu : Nat) : t_Sc_sourceBehind (SS n) N 19 (nI p) (nI x) (nI y) (fu + 1) (oI (srcA F x y i)) (nI i) F = t_Sc_sourceBehind (SS n) N 19 (nI p) (nI x) (nI y) fu (oI (srcA F x y (i + 1))) (nI (i + 1)) F := by
  have hi : i < 12 := by omega
  have c1 : ¬ nI p < nI i := by rw [nI_lt_iff (by omega) (by omega)]; omega
  have c2 : ¬ nI f ≤ nI i := by rw [nI_le_iff (by omega) (by omega)]; omega
  have c3 : ¬ nI p ≤ nI i := by rw [nI_le_iff (by omega) (by omega)]; omega
  obtain ⟨h1, h2, h3, h4, h5, a1, a2, a3, a4, a5, a6, a7, a8, a9, a10, hs⟩ := geo h
  have g6 := fr_get (n := n) (F := F) hi (show 2 ≤ 6 by decide) (show 6 ≤ 8 by decide)
  have g8 := fr_get (n := n) (F := F) hi (show 2 ≤ 8 by decide) (show 8 ≤ 8 by decide)
  rw [t_Sc_sourceBehind, if_neg c1]
  simp only [gI_19_2, hf2, Option.bind_some, if_neg c2, gR_19_0, fr_r i hi, fr_xcl hi, cov_of h hi hx hy]
  have e : srcA F x y (i + 1) = if cvr F x y i = true then (if gE F i = 2 then none else if gE F i = 3 then srcA F x y i else if vis F x y i = true then some i else srcA F x y i) else srcA F x y i := rfl
  rw [e]
  by_cases c4 : cvr F x y i = true
  · obtain ⟨o1, s, s1, s2⟩ := symOn_of (n := n) h hi c4
    rw [if_pos c4, if_neg (by decide), if_pos c4, o1, Option.bind_some, g8, Option.bind_some, ← h.t.1]
    by_cases c5 : sgm F x y i = F 88 i
    · have c6 : ¬ vis F x y i = true := by rw [vis_iff]; exact fun q => q.2 c5
      simp only [if_pos c5, if_neg c3, g6, a9, Option.bind_some, srcAf h5, if_neg c6, nI_1]
      by_cases c7 : gE F i = 2
      · rw [if_pos c7, if_pos c7]; rfl
      · rw [if_neg c7, if_neg c7]
        by_cases c8 : gE F i = 3
        · rw [if_pos c8, if_pos c8]
        · rw [if_neg c8, if_neg c8]
    · have c6 : vis F x y i = true := by rw [vis_iff]; exact ⟨c4, c5⟩
      simp only [if_neg c5, if_neg c3, g6, a9, Option.bind_some, srcAf h5, if_pos c6, nI_1]
      by_cases c7 : gE F i = 2
      · rw [if_pos c7, if_pos c7]; rfl
      · rw [if_neg c7, if_neg c7]
        by_cases c8 : gE F i = 3
        · rw [if_pos c8, if_pos c8]
        · rw [if_neg c8, if_neg c8]; rfl
  · rw [if_neg c4, if_pos rfl, if_neg c4, nI_1]
theorem sb_last (hf : f ≤ 12) (hf2 : F 19 2 = nI f) (hif : i < f) (h : Frm b i F) (hx : x < 24) (hy : y < 24) (fu : Nat) : t_Sc_sourceBehind (SS n) N 19 (nI i) (nI x) (nI y) (fu + 1 + 1) (oI (srcA F x y i)) (nI i) F = some (oI (drw F x y i)) := by
  have hi : i < 12 := by omega
  have c1 : ¬ nI i < nI i := by rw [nI_lt_iff (by omega) (by omega)]; omega
  have c2 : ¬ nI f ≤ nI i := by rw [nI_le_iff (by omega) (by omega)]; omega
  have c3 : nI i ≤ nI i := by rw [nI_le_iff (by omega) (by omega)]; omega
  have c0 : nI i < nI (i + 1) := by rw [nI_lt_iff (by omega) (by omega)]; omega
  have g8 := fr_get (n := n) (F := F) hi (show 2 ≤ 8 by decide) (show 8 ≤ 8 by decide)
  rw [t_Sc_sourceBehind, if_neg c1]
  simp only [gI_19_2, hf2, Option.bind_some, if_neg c2, gR_19_0, fr_r i hi, fr_xcl hi, cov_of h hi hx hy]
  unfold drw
  by_cases c4 : cvr F x y i = true
  · obtain ⟨o1, s, s1, s2⟩ := symOn_of (n := n) h hi c4
    rw [if_pos c4, if_neg (by decide), o1, Option.bind_some, g8, Option.bind_some, ← h.t.1]
    by_cases c5 : sgm F x y i = F 88 i
    · have c6 : ¬ vis F x y i = true := by rw [vis_iff]; exact fun q => q.2 c5
      rw [if_pos c5, if_pos c3, if_neg c6, nI_1, t_Sc_sourceBehind, if_pos c0]
    · have c6 : vis F x y i = true := by rw [vis_iff]; exact ⟨c4, c5⟩
      rw [if_neg c5, if_pos c3, if_pos c6, nI_1, t_Sc_sourceBehind, if_pos c0]
      rfl
  · have c6 : ¬ vis F x y i = true := by rw [vis_iff]; exact fun q => c4 q.1
    rw [if_neg c4, if_pos rfl, if_neg c6, nI_1, t_Sc_sourceBehind, if_pos c0]
theorem sb_all (hf : f ≤ 12) (hf2 : F 19 2 = nI f) (hpf : p < f) (h : ∀ i, i < f → Frm b i F) (hx : x < 24) (hy : y < 24) : ∀ (d i fu : Nat), i + d = p → t_Sc_sourceBehind (SS n) N 19 (nI p) (nI x) (nI y) (fu + 1 + 1 + d) (oI (srcA F x y i)) (nI i) F = some (oI (drw F x y p)) := by
  intro d
  induction d with
  | zero =>
    intro i fu hi
    have : i = p := by omega
    subst this
    exact sb_last hf hf2 hpf (h i hpf) hx hy fu
  | succ d ih =>
    intro i fu hi
    rw [← Nat.add_assoc, sb_step hf hf2 hpf (by omega) (h i (by omega)) hx hy]
    exact ih (i + 1) fu (by omega)
theorem sb_of (hf : f ≤ 12) (hf2 : F 19 2 = nI f) (hpf : p < f) (h : ∀ i, i < f → Frm b i F) (hx : x < 24) (hy : y < 24) (hN : 100 < N) : f_Sc_sourceBehind (SS n) N 19 (nI p) (nI x) (nI y) F = some (oI (drw F x y p)) := by
  unfold f_Sc_sourceBehind
  obtain ⟨M, hM⟩ : ∃ z, N = z + 1 + 1 + p := ⟨N - 2 - p, by omega⟩
  have e := sb_all (n := n) (N := N) hf hf2 hpf h hx hy p 0 M (by omega)
  rw [← hM] at e
  exact e
/-- the colour that both tell -/
def clo (F : xF) (x y : Nat) : Option Nat → Int32
  | none => -1
  | some k => if F 90 (256 * k + (sgm F x y k).toNatClampNeg) = -1 then F 90 (3072 + (sgm F x y k).toNatClampNeg) else F 90 (256 * k + (sgm F x y k).toNatClampNeg)
theorem col_of (hb8 : b ≤ 8) (hn : n = 2 ^ b) (hf : f ≤ 12) (hf2 : F 19 2 = nI f) (hpf : p < f) (h : ∀ i, i < f → Frm b i F) (hpa : Pal b F) (hx : x < 24) (hy : y < 24) (hN : 100 < N) : f_Sc_colourBehind (SS n) N 19 (nI p) (nI x) (nI y) F = some (clo F x y (drw F x y p)) := by
  unfold f_Sc_colourBehind
  have hn256 : n ≤ 256 := by rw [hn]; exact Nat.pow_le_pow_right (by decide) hb8
  rw [xcl_19, sb_of hf hf2 hpf h hx hy hN, Option.bind_some]
  cases hd : drw F x y p with
  | none => rw [if_pos (show oI none = -1 from rfl)]; rfl
  | some k =>
    obtain ⟨d1, d2⟩ := drw_le hd
    have hk : k < 12 := by omega
    obtain ⟨o1, s, s1, s2⟩ := symOn_of (n := n) (h k (by omega)) hk d2
    have o21 : (SS n)[21]? = some (.inr (.inr (5, [some (.ref 22)]))) := rfl
    have c1 : ¬ oI (some k) = -1 := neg1_ne (show k < 2147483648 by omega)
    have c2 : (sgm F x y k).toNatClampNeg = s := by rw [s2, nI_cl (by omega)]
    rw [if_neg c1]
    show _ = some (if F 90 (256 * k + (sgm F x y k).toNatClampNeg) = -1 then F 90 (3072 + (sgm F x y k).toNatClampNeg) else F 90 (256 * k + (sgm F x y k).toNatClampNeg))
    rw [c2]
    simp only [gR_19_0, Option.bind_some, show oI (some k) = nI k from rfl, fr_r k hk, fr_xcl hk, o1, s2, fr_R1 hk, fr_pxcl hk, Pa_get_of (fr_p (n := n) k hk) (fr_c (n := n) k hk) (show s < n by omega) (show n ≤ 100000 by omega), gR_19_1, xcl_21, Pa_get_of o21 (sh_22 (n := n)) (show s < n by omega) (show n ≤ 100000 by omega)]
    have q1 := ((h k (by omega)).c s s1).1
    have q2 := (hpa s s1).1
    rw [q1, q2]
    by_cases c3 : F (26 + 4 * k) s = -1
    · rw [if_pos c3, if_pos c3]
    · rw [if_neg c3, if_neg c3]
end SG
