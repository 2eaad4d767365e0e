/-! encode: the call -/
def Lon (b z r : Nat) (pk sy : Nat → Nat) (p i : Nat) (u8 : Int32) : Prop := (i = r ∧ u8 = -1) ∨ (i < r ∧ ((∃ e, 2 ^ b + 1 < e ∧ e ≤ z ∧ pk e = p * 256 + sy i ∧ u8 = nI e) ∨ ((∀ e, 2 ^ b + 1 < e → e ≤ z → pk e ≠ p * 256 + sy i) ∧ u8 = -1)))
section EC
variable {b n N r ru V T z wd sc lc ls c m p s i at_ ncl : Nat} {sy pk : Nat → Nat} {a0 a1 a2 u1 u2 u3 u4 u5 u6 u7 u8 rr : Int32} {C M M1 M2 M3 C0 M0 C' M' F : xF} {G : xL}
theorem lon_ex (hM : MS b r ru sy V T z wd sc pk a0 a1 a2 M) (hI : Inv b V T z wd sc pk) (hp : p ≤ z) (hi : i < r) (hs : sy i < 2 ^ b) (hN : 8200 < N) : ∃ v, f_Mo_childOf (SS n) N 71 (nI p) (nI (sy i)) M = some v ∧ Lon b z r pk sy p i v := by
  have hz := hI.2.2.2.1.2.1
  have hp256 := (pw8 hI.1 hI.2.1).2
  obtain ⟨k1, k2⟩ := child_of (n := n) (N := N) hI.2.2.2.1 hM.2.1 (show p < 4096 by omega) (show sy i < 256 by omega) hN
  by_cases h : ∃ e, 2 ^ b + 1 < e ∧ e ≤ z ∧ pk e = p * 256 + sy i
  · obtain ⟨e, e1, e2, e3⟩ := h
    exact ⟨nI e, k1 e e1 e2 e3, Or.inr ⟨hi, Or.inl ⟨e, e1, e2, e3, rfl⟩⟩⟩
  · have hno : ∀ e, 2 ^ b + 1 < e → e ≤ z → pk e ≠ p * 256 + sy i := fun e e1 e2 e3 => h ⟨e, e1, e2, e3⟩
    exact ⟨-1, k2 hno, Or.inr ⟨hi, Or.inr ⟨hno, rfl⟩⟩⟩
theorem sim (hr : r ≤ 12000) (hru : ru ≤ 2) (hsy : ∀ k, k < r → sy k < 2 ^ b) (hN : 8200 < N) : ∀ (d i p at_ V T z wd sc lc ls : Nat) (pk : Nat → Nat) (a0 a1 a2 : Int32) (ncl : Nat) (C M : xF) (u5 u8 : Int32), i + d = r → at_ < i → CS b r sy V T z wd sc lc ls pk a0 a1 a2 C → MS b r ru sy V T z wd sc pk a0 a1 a2 M → Inv b V T z wd sc pk → LI ru z lc ls → Bd b z T at_ ncl sc lc ls → p ≤ z → Lon b z r pk sy p i u8 → ∃ C' M' rr, (∀ fu, d < fu → t_Co_codeRow (SS n) N 5 1 (nI ru) fu (nI p) (nI at_) (nI i) C = some C') ∧ (∀ fu, 12 * d + 10 < fu → t_Mo_encode (SS n) N 71 fu 10 (nI at_) (nI lc) (nI ls) (if z < 4095 then 0 else 1) u5 (nI p) (nI i) u8 M = some (rr, M')) ∧ Fin b C M C' M' rr := by
  intro d
  induction d with
  | zero =>
    intro i p at_ V T z wd sc lc ls pk a0 a1 a2 ncl C M u5 u8 hi ha hC hM hI hL hB hp hU
    have : i = r := by omega
    subst this
    have hu : u8 = -1 := by
      rcases hU with q | q
      · exact q.2
      · omega
    subst hu
    have hTb := hI.2.2.2.1
    have hz := hTb.2.1
    have hwd := hI.2.2.2.2.2.1
    have hcode := hI.2.2.2.2.code hz hp
    have hrm := hB.room (show at_ ≤ 12000 by omega) hwd
    have hsc : sc ≤ at_ := hB.2.2.1
    obtain ⟨C1, c1, c2, c3⟩ := cWE (n := n) (N := N) (m := i - at_) hC hI hcode (by omega) (by omega)
    obtain ⟨M1, m1, m2, m3⟩ := mWr (n := n) (N := N) hM hI hcode (by omega) (by omega)
    obtain ⟨M2, m4, m5, m6⟩ := mWd (n := n) m2 (hI.wr hcode)
    have hI2 := hI.we hcode (show sc + 1 ≤ 100000 by omega)
    obtain ⟨C2, C', M', rr, f1, f2, f3, f4⟩ := fin_of (n := n) (N := N) c2 m5 hI2 hr (by have := hI2.2.2.2.2.2.1; omega) hN
    refine ⟨C', M', rr, fun fu hf => ?_, fun fu hf => ?_, f4.tr c3 (m3.tr m6)⟩
    · obtain ⟨fu, rfl⟩ : ∃ y, fu = y + 1 := ⟨fu - 1, by omega⟩
      have c11 : C 1 1 = nI i := hC.2.2.2.2.2.2.2.2.2.2.2.2.2.1
      have q1 : nI i ≤ nI i := (nI_le_iff (by omega) (by omega)).mpr (Nat.le_refl _)
      have q2 : C1 5 1 = nI (2 ^ b + 1) := c2.2.2.2.2.2.2.2.1
      rw [t_Co_codeRow]
      simp only [(Nu1 n).gI, c11, Option.bind_some, if_pos q1, if_neg (nI_nle (show 0 < i by omega) (show i < 2 ^ 31 by omega)), xcl_5, nI_sub (show at_ ≤ i by omega), c1, gI_5_1, q2, f1, f2]
    · obtain ⟨fu, rfl⟩ : ∃ y, fu = y + 1 + 1 + 1 + 1 + 1 := ⟨fu - 5, by omega⟩
      rw [me10e _ m1 m4 m5.2.2.2.2.2.2.2.2.2.2.1 hr, me12 _ (show at_ ≤ i by omega), f3]
  | succ d ih =>
    intro i p at_ V T z wd sc lc ls pk a0 a1 a2 ncl C M u5 u8 hi ha hC hM hI hL hB hp hU
    have hTb := hI.2.2.2.1
    have hz := hTb.2.1
    have hp256 := (pw8 hI.1 hI.2.1).2
    have hir : i < r := by omega
    have hs := hsy i hir
    have c11 : C 1 1 = nI r := hC.2.2.2.2.2.2.2.2.2.2.2.2.2.1
    have m5 : M 71 5 = nI r := hM.2.2.2.2.2.2.2.2.2.2.1
    have gk : f_Nu_get (SS n) 1 (nI i) C = some (nI (sy i)) := by
      rw [Nu_get_of (Nu1 n) c11 hr hir]
      show some (C 2 i) = _
      rw [hC.2.2.2.2.2.2.2.2.2.2.2.2.2.2 i hir]
    have cri : ¬ nI r ≤ nI i := by rw [nI_le_iff (by omega) (by omega)]; omega
    have hfd := find_of (n := n) (N := N) hTb hC.2.1 (show p < 4096 by omega) (show sy i < 256 by omega) hN
    rcases hU with q | ⟨-, ⟨e, e1, e2, e3, rfl⟩ | ⟨hno, rfl⟩⟩
    · omega
    · obtain ⟨e', g1, g2, g3, g4⟩ := hfd.resolve_right (fun q => absurd e3 (q.1 e e1 e2))
      have : e' = e := hTb.2.2.2 e' e g1 g2 e1 e2 (by rw [g3, e3])
      subst this
      have cls : ∀ fu, t_Co_codeRow (SS n) N 5 1 (nI ru) (fu + 1) (nI p) (nI at_) (nI i) C = t_Co_codeRow (SS n) N 5 1 (nI ru) fu (nI e') (nI at_) (nI (i + 1)) C := fun fu => by
        rw [t_Co_codeRow]
        simp only [(Nu1 n).gI, c11, Option.bind_some, if_neg cri, xcl_1, gk, gR_5_3, xcl_9, g4, if_neg (neg1_ne (show e' < 2147483648 by omega)), nI_1]
      have mst : ∃ v, Lon b z r pk sy e' (i + 1) v ∧ ∀ fu, t_Mo_encode (SS n) N 71 (fu + 1 + 1) 10 (nI at_) (nI lc) (nI ls) (if z < 4095 then 0 else 1) u5 (nI p) (nI i) (nI e') M = t_Mo_encode (SS n) N 71 fu 10 (nI at_) (nI lc) (nI ls) (if z < 4095 then 0 else 1) u5 (nI e') (nI (i + 1)) v M := by
        by_cases hl : i + 1 = r
        · exact ⟨-1, Or.inl ⟨hl, rfl⟩, fun fu => me10a fu (by omega) m5 hr hl⟩
        · obtain ⟨v, v1, v2⟩ := lon_ex (n := n) (N := N) (p := e') (i := i + 1) hM hI e2 (by omega) (hsy _ (by omega)) hN
          exact ⟨v, v2, fun fu => me10b fu (by omega) m5 hr (by omega) (hM.2.2.2.2.2.2.2.2.2.2.2.2 (i + 1) (by omega)) v1⟩
      obtain ⟨v, v1, v2⟩ := mst
      obtain ⟨C', M', rr, k1, k2, k3⟩ := ih (i + 1) e' at_ V T z wd sc lc ls pk a0 a1 a2 ncl C M u5 v (by omega) (by omega) hC hM hI hL hB e2 v1
      refine ⟨C', M', rr, fun fu hf => ?_, fun fu hf => ?_, k3⟩
      · obtain ⟨fu, rfl⟩ : ∃ y, fu = y + 1 := ⟨fu - 1, by omega⟩
        rw [cls]; exact k1 fu (by omega)
      · obtain ⟨fu, rfl⟩ : ∃ y, fu = y + 1 + 1 := ⟨fu - 2, by omega⟩
        rw [v2]; exact k2 fu (by omega)
    · rcases hfd with ⟨e', g1, g2, g3, g4⟩ | ⟨-, g1⟩
      · exact absurd g3 (hno e' g1 g2)
      obtain ⟨V', T', z', wd', sc', lc', ls', pk', a0', a1', a2', ncl', C1, M1, k, u5', x1, x2, x3, x4, x5, x6, x7, x8, x9, x10⟩ := emit (n := n) (N := N) hr hru hir ha hsy hC hM hI hL hB hp hno g1 hN
      have hsz : sy i ≤ z' := by have := x3.2.2.2.1.1; omega
      have m5' : M1 71 5 = nI r := x2.2.2.2.2.2.2.2.2.2.2.1
      have mst : ∃ v, Lon b z' r pk' sy (sy i) (i + 1) v ∧ ∀ fu, t_Mo_encode (SS n) N 71 (fu + 1) 9 (nI i) (nI lc') (nI ls') (if z' < 4095 then 0 else 1) u5' 0 0 0 M1 = t_Mo_encode (SS n) N 71 fu 10 (nI i) (nI lc') (nI ls') (if z' < 4095 then 0 else 1) u5' (nI (sy i)) (nI (i + 1)) v M1 := by
        have h72 := x2.2.2.2.2.2.2.2.2.2.2.2.2 i hir
        by_cases hl : i + 1 = r
        · exact ⟨-1, Or.inl ⟨hl, rfl⟩, fun fu => me9a fu m5' hr hl h72⟩
        · obtain ⟨v, v1, v2⟩ := lon_ex (n := n) (N := N) (p := sy i) (i := i + 1) x2 x3 hsz (by omega) (hsy _ (by omega)) hN
          exact ⟨v, v2, fun fu => me9b fu m5' hr (by omega) h72 (x2.2.2.2.2.2.2.2.2.2.2.2.2 (i + 1) (by omega)) v1⟩
      obtain ⟨v, v1, v2⟩ := mst
      obtain ⟨C', M', rr, k1, k2, k3⟩ := ih (i + 1) (sy i) i V' T' z' wd' sc' lc' ls' pk' a0' a1' a2' ncl' C1 M1 u5' v (by omega) (by omega) x1 x2 x3 x4 x5 hsz v1
      refine ⟨C', M', rr, fun fu hf => ?_, fun fu hf => ?_, k3.tr x6 x7⟩
      · obtain ⟨fu, rfl⟩ : ∃ y, fu = y + 1 := ⟨fu - 1, by omega⟩
        rw [x9]; exact k1 fu (by omega)
      · obtain ⟨fu, rfl⟩ : ∃ y, fu = y + 1 + k := ⟨fu - 1 - k, by omega⟩
        rw [x10, v2]; exact k2 fu (by omega)
theorem me0 : ∀ (d k : Nat) (R : xF), k + d = 4 → ∃ R', (∀ fu, t_Mo_encode (SS n) N 71 (fu + d) 0 (nI k) 0 0 0 0 0 0 0 R = t_Mo_encode (SS n) N 71 fu 0 (nI 4) 0 0 0 0 0 0 0 R') ∧ (∀ a, a ≠ 74 → R' a = R a) ∧ (∀ j, k ≤ j → j < 4 → R' 74 j = 0) ∧ (∀ j, j < k → R' 74 j = R 74 j) := by
  intro d
  induction d with
  | zero =>
    intro k R hk
    have : k = 4 := by omega
    subst this
    exact ⟨R, fun fu => rfl, fun a _ => rfl, fun j q1 q2 => by omega, fun j _ => rfl⟩
  | succ d ih =>
    intro k R hk
    obtain ⟨R', e1, e2, e3, e4⟩ := ih (k + 1) (up2 R 74 k 0) (by omega)
    have c : ¬ (4 : Int32) ≤ nI k := by rw [show (4 : Int32) = nI 4 from rfl, nI_le_iff (by decide) (by omega)]; omega
    refine ⟨R', fun fu => ?_, fun a q1 => ?_, fun j q1 q2 => ?_, fun j q1 => ?_⟩
    · rw [← Nat.add_assoc, t_Mo_encode, if_pos rfl, if_neg c]
      simp only [gR_71_9, Option.bind_some, aP_nI sh_74 (show k < 4 by omega) (show 4 ≤ 100000 by decide), nI_1]
      exact e1 fu
    · rw [e2 a q1, up2_row _ _ _ _ q1]
    · by_cases hj : j = k
      · subst hj
        rw [e4 j (by omega), up2_eq]
      · exact e3 j (by omega) q2
    · rw [e4 j (by omega), up2_ne _ _ _ _ (Or.inr (by omega))]
theorem Fin.tr2 (h : Fin b C M C' M' rr) (h1 : FrCl C0 C) (h2 : ∀ a, a ≠ 71 → a ≠ 73 → a ≠ 74 → (a < 77 ∨ 81 < a) → M a = M0 a) (h3 : ∀ j, j ≠ 7 → j ≠ 14 → j ≠ 20 → j ≠ 21 → j ≠ 22 → M 71 j = M0 71 j) : Fin b C0 M0 C' M' rr := by
  obtain ⟨c, k1, k2, k3, k4, k5, k6, k7, k8, k9, k10, k11, k12, k13, k14, k15, k16, k17, k18⟩ := h
  exact ⟨c, k1, k2, k3, k4, k5, k6, k7, k8, k9, k10, h1.tr k11, k12, k13, k14, k15, k16, fun a q1 q2 q3 q4 => by rw [k17 a q1 q2 q3 q4, h2 a q1 q2 q3 q4], fun j q1 q2 q3 q4 q5 => by rw [k18 j q1 q2 q3 q4 q5, h3 j q1 q2 q3 q4 q5]⟩
theorem joint (hx : Fix b C) (ht : Tab b C) (hr : r ≤ 12000) (hru : ru ≤ 2) (hsy : ∀ k, k < r → sy k < 2 ^ b) (hc1 : C 1 1 = nI r) (hc2 : ∀ k, k < r → C 2 k = nI (sy k)) (h0 : M 71 0 = nI b) (h1 : M 71 1 = nI (2 ^ b)) (h2 : M 71 2 = nI (2 ^ b + 1)) (h5 : M 71 5 = nI r) (h4 : M 71 4 = nI ru) (h72 : ∀ k, k < r → M 72 k = nI (sy k)) (hN : 200000 < N) : ∃ C' M' rr, f_Co_codeRow (SS n) N 5 1 (nI ru) C = some C' ∧ f_Mo_encode (SS n) N 71 M = some (rr, M') ∧ Fin b C (up2 M 71 3 0) C' M' rr := by
  have hb2 := hx.h2
  have hb8 := hx.h8
  obtain ⟨hp4, hp256⟩ := pw8 hb2 hb8
  obtain ⟨C1, e1, o1, e10, e94, e90, e61, e82, e83, e80, e81, e50, e51, e55, e56, e57, e58, e59⟩ := forget_of (n := n) (N := N) ht hx (by omega)
  have oC : FrCl C C1 := fun a q => o1 a (by omega) (by omega) (by omega) (by omega) (by omega)
  have hI0 : Inv b 0 0 (2 ^ b + 1) (b + 1) 0 (fun _ => 0) := ⟨hb2, hb8, by decide, Tbl.new (by omega), Wok.new hb2 hb8⟩
  have hC1 : CS b r sy 0 0 (2 ^ b + 1) (b + 1) 0 (C1 5 10).toBitVec.toNat (C1 5 11).toBitVec.toNat (fun _ => 0) 0 0 0 C1 := by
    refine ⟨⟨e61, e58.trans (by rw [Nat.zero_div]), e59, fun k hk => by omega⟩, cTb.new (by rw [e90]; exact hx.s0) e94 (fun s hs => e10 s hs), ?_, ?_, e82, e83, ?_, ?_, e55, e56, e57, nI_bv rfl, nI_bv rfl, ?_, fun k hk => ?_⟩
    · rw [e80]; exact hx.w0
    · rw [e81]; exact hx.w1
    · rw [e50]; exact hx.c0
    · rw [e51]; exact hx.c1
    · rw [oC 1 (by decide)]; exact hc1
    · rw [oC 2 (by decide)]; exact hc2 k hk
  obtain ⟨C2, c1, c2, c3⟩ := cWC (n := n) (N := N) hC1 hI0 (by omega) (by omega)
  have hI2 := hI0.cl
  obtain ⟨K, k1, k2, k3, -⟩ := me0 (n := n) (N := N) 4 0 (up2 (up2 M 71 3 0) 71 20 0) (by omega)
  have oK : ∀ a, a ≠ 71 → a ≠ 74 → K a = M a := fun a q1 q2 => by rw [k2 a q2, up2_row _ _ _ _ q1, up2_row _ _ _ _ q1]
  have oK71 : ∀ j, j ≠ 3 → j ≠ 20 → K 71 j = M 71 j := fun j q1 q2 => by rw [k2 71 (by decide), up2_ne _ _ _ _ (Or.inr q2), up2_ne _ _ _ _ (Or.inr q1)]
  have oK3 : K 71 3 = 0 := by rw [k2 71 (by decide), up2_ne _ _ _ _ (Or.inr (by decide)), up2_eq]
  have oK20 : K 71 20 = nI 0 := by rw [k2 71 (by decide), up2_eq]; rfl
  obtain ⟨M1, b1, b2, b3, b4, b5, b6, b7, b8⟩ := begin_of (n := n) (N := N) (M := K) hb2 hb8 (by rw [oK71 0 (by decide) (by decide)]; exact h0) (by rw [oK71 1 (by decide) (by decide)]; exact h1) (by rw [oK71 2 (by decide) (by decide)]; exact h2) (by omega)
  have o74 : M1 74 = K 74 := b8 74 (by decide) (by decide) (by decide) (by decide) (by decide)
  have hM1 : MS b r ru sy 0 0 (2 ^ b + 1) (b + 1) 0 (fun _ => 0) 0 0 0 M1 := by
    refine ⟨⟨by rw [b5 20 (by decide) (by decide) (by decide)]; exact oK20, fun k hk => by omega⟩, mTb.new b2 b6, ?_, ?_, ?_, b3, b4, ?_, ?_, ?_, ?_, ?_, fun k hk => ?_⟩
    · rw [b5 0 (by decide) (by decide) (by decide), oK71 0 (by decide) (by decide)]; exact h0
    · rw [b5 1 (by decide) (by decide) (by decide), oK71 1 (by decide) (by decide)]; exact h1
    · rw [b5 2 (by decide) (by decide) (by decide), oK71 2 (by decide) (by decide)]; exact h2
    · rw [o74]; exact k3 0 (by decide) (by decide)
    · rw [o74]; exact k3 1 (by decide) (by decide)
    · rw [o74]; exact k3 2 (by decide) (by decide)
    · rw [b5 5 (by decide) (by decide) (by decide), oK71 5 (by decide) (by decide)]; exact h5
    · rw [b5 4 (by decide) (by decide) (by decide), oK71 4 (by decide) (by decide)]; exact h4
    · rw [b8 72 (by decide) (by decide) (by decide) (by decide) (by decide), oK 72 (by decide) (by decide)]; exact h72 k hk
  obtain ⟨M2, m1, m2, m3⟩ := mWC (n := n) (N := N) hM1 hI0 (by omega) (by omega)
  have trF : ∀ {C' M' rr}, Fin b C2 M2 C' M' rr → Fin b C (up2 M 71 3 0) C' M' rr := fun {C' M' rr} hf => hf.tr2 (oC.tr c3) (fun a q1 q2 q3 q4 => by rw [m3.1 a q1 q2 q3 q4, b8 a q1 (by omega) (by omega) (by omega) (by omega), oK a q1 q3, up2_row _ _ _ _ q1]) (fun j q1 q2 q3 q4 q5 => by
    rw [m3.2.1 j q2 q3 q4 q5, b5 j q2 q4 q5]
    by_cases hj : j = 3
    · subst hj; rw [oK3, up2_eq]
    · rw [oK71 j hj q3, up2_ne _ _ _ _ (Or.inr hj)])
  have hc21 : C2 1 1 = nI r := c2.2.2.2.2.2.2.2.2.2.2.2.2.2.1
  have mrun : ∀ {rr M'}, t_Mo_encode (SS n) N 71 (N - 5) 1 0 0 0 0 0 0 0 0 M2 = some (rr, M') → f_Mo_encode (SS n) N 71 M = some (rr, M') := fun {rr M'} q => by
    unfold f_Mo_encode
    simp only [pI_71_3, pI_71_20, Option.bind_some]
    have e := k1 (N - 5 + 1)
    rw [show N - 5 + 1 + 4 = N by omega] at e
    refine Eq.trans e ?_
    rw [t_Mo_encode, if_pos rfl, if_pos (by decide), xcl_71, b1, Option.bind_some, m1, Option.bind_some]
    exact q
  by_cases hr0 : r = 0
  · obtain ⟨C3, C', M', rr, f1, f2, f3, f4⟩ := fin_of (n := n) (N := N) c2 m2 hI2 hr (by omega) (by omega)
    refine ⟨C', M', rr, ?_, mrun ?_, trF f4⟩
    · unfold f_Co_codeRow
      have g0 : f_Nu_get (SS n) 1 0 C2 = some (-1) := by
        unfold f_Nu_get
        have w0 : (if 0 ≤ (0 : Int32).toInt ∧ (0 : Int32).toInt < (r : Nat) then (1 : Int32) else 0) = 0 := by rw [hr0]; decide
        rw [(Nu1 n).xcl, Nu_has_of (Nu1 n) hc21 hr, Option.bind_some, w0, if_pos rfl]
      obtain ⟨M0, hM0⟩ : ∃ z, N = z + 1 := ⟨N - 1, by omega⟩
      have q2 : C2 5 1 = nI (2 ^ b + 1) := c2.2.2.2.2.2.2.2.1
      have z : t_Co_codeRow (SS n) N 5 1 (nI ru) (M0 + 1) (-1) 0 1 C2 = some C' := by
        rw [t_Co_codeRow]
        simp only [(Nu1 n).gI, hc21, hr0, Option.bind_some, if_pos (show nI 0 ≤ (1 : Int32) by decide), if_pos (show nI 0 ≤ (0 : Int32) by decide), gI_5_1, q2, xcl_5, f1, f2]
      rw [← hM0] at z
      simp only [xcl_5, e1, Option.bind_some, c1, xcl_1, g0]
      exact z
    · have f3' := f3 (N - 6) 0 0 0 0 0 0 0
      rw [show N - 6 + 1 = N - 5 by omega, hr0] at f3'
      exact f3'
  · have hr1 : 0 < r := by omega
    have hs0 := hsy 0 hr1
    obtain ⟨k, u5', x1, x2⟩ := me_keep (n := n) (N := N) (lc := 0) (ls := 0) (i := 0) (z := 2 ^ b + 1) m2.2.2.2.2.2.2.2.2.2.2.1 m2.2.1.1 m2.2.2.2.2.2.2.2.2.2.2.2.1 (by omega) hr hr1 hru (fun _ => ⟨rfl, rfl⟩) (fun _ => by decide) (by decide) (fun q => by have := q.1; omega)
    have elk : lk (2 ^ b + 1) ru 0 0 = 0 := by unfold lk; rw [if_neg (by omega)]
    rw [elk] at x2
    have mst : ∃ v, Lon b (2 ^ b + 1) r (fun _ => 0) sy (sy 0) 1 v ∧ ∀ fu, t_Mo_encode (SS n) N 71 (fu + 1) 9 (nI 0) (nI 0) (nI 0) (if 2 ^ b + 1 < 4095 then 0 else 1) u5' 0 0 0 M2 = t_Mo_encode (SS n) N 71 fu 10 (nI 0) (nI 0) (nI 0) (if 2 ^ b + 1 < 4095 then 0 else 1) u5' (nI (sy 0)) (nI 1) v M2 := by
      have h72' := m2.2.2.2.2.2.2.2.2.2.2.2.2 0 hr1
      have m5' := m2.2.2.2.2.2.2.2.2.2.2.1
      by_cases hl : 0 + 1 = r
      · exact ⟨-1, Or.inl ⟨hl, rfl⟩, fun fu => me9a fu m5' hr hl h72'⟩
      · obtain ⟨v, v1, v2⟩ := lon_ex (n := n) (N := N) (p := sy 0) (i := 1) m2 hI2 (by omega) (by omega) (hsy _ (by omega)) (by omega)
        exact ⟨v, v2, fun fu => me9b fu m5' hr (by omega) h72' (m2.2.2.2.2.2.2.2.2.2.2.2.2 1 (by omega)) v1⟩
    obtain ⟨v, v1, v2⟩ := mst
    obtain ⟨C', M', rr, k5, k6, k7⟩ := sim (n := n) (N := N) hr hru hsy (by omega) (r - 1) 1 (sy 0) 0 _ _ _ _ _ _ _ _ _ _ _ 0 C2 M2 u5' v (by omega) (by omega) c2 m2 hI2 ⟨fun _ => ⟨rfl, rfl⟩, fun _ => by decide⟩ ⟨by omega, by omega, by omega, by omega, by omega⟩ (by omega) v1
    refine ⟨C', M', rr, ?_, mrun ?_, trF k7⟩
    · unfold f_Co_codeRow
      have g0 : f_Nu_get (SS n) 1 0 C2 = some (nI (sy 0)) := by
        have := Nu_get_of (Nu1 n) hc21 hr hr1
        rw [show nI 0 = (0 : Int32) from rfl] at this
        rw [this]
        show some (C2 2 0) = _
        rw [c2.2.2.2.2.2.2.2.2.2.2.2.2.2.2 0 hr1]
      simp only [xcl_5, e1, Option.bind_some, c1, xcl_1, g0]
      exact k5 N (by omega)
    · have x3 := x2 (N - 5 - k)
      rw [show N - 5 - k + k = N - 5 by omega] at x3
      refine Eq.trans x3 ?_
      have x4 := v2 (N - 6 - k)
      rw [show N - 6 - k + 1 = N - 5 - k by omega] at x4
      rw [x4]
      exact k6 (N - 6 - k) (by omega)
theorem s_encode (h : RI b F) (hN : 200000 < N) : ∃ F2 G2, q_encode (SS n) N 0 71 95 F G = some (1, F2, G2) ∧ RI b F2 := by
  obtain ⟨r, hr1, hr2, hr3, hr4⟩ := h.ro
  obtain ⟨ru, u1, u2, u3⟩ := h.ru
  have hx := h.fx
  obtain ⟨hp4, hp256⟩ := pw8 hx.h2 hx.h8
  have hsy : ∀ k, k < r → F 2 k = nI (F 2 k).toNatClampNeg ∧ F 72 k = nI (F 2 k).toNatClampNeg ∧ (F 2 k).toNatClampNeg < 2 ^ b := fun k hk => by
    obtain ⟨s, s1, s2, s3⟩ := hr4 k hk
    have : (F 2 k).toNatClampNeg = s := by rw [s2, nI_cl (by omega)]
    rw [this]
    exact ⟨s2, s3, s1⟩
  obtain ⟨F1, X, rx, j1, -, j3⟩ := joint (n := n) (N := N) (C := F) (M := F) (sy := fun k => (F 2 k).toNatClampNeg) hx h.ta hr1 u1 (fun k hk => (hsy k hk).2.2) hr2 (fun k hk => (hsy k hk).1) hx.m0 hx.m1 hx.m2 hr3 u3 (fun k hk => (hsy k hk).2.1) hN
  have o1 : FrCl F F1 := by
    obtain ⟨c, -, -, -, -, -, -, -, -, -, -, k11, -⟩ := j3
    exact k11
  have o71 : F1 71 = F 71 := o1 71 (by decide)
  obtain ⟨F1', F2, rr, i1, i2, i3⟩ := joint (n := n) (N := N) (C := F) (M := F1) (sy := fun k => (F 2 k).toNatClampNeg) hx h.ta hr1 u1 (fun k hk => (hsy k hk).2.2) hr2 (fun k hk => (hsy k hk).1) (by rw [o71]; exact hx.m0) (by rw [o71]; exact hx.m1) (by rw [o71]; exact hx.m2) (by rw [o71]; exact hr3) (by rw [o71]; exact u3) (fun k hk => by rw [o1 72 (by decide)]; exact (hsy k hk).2.1) hN
  have : F1' = F1 := Option.some.inj (i1.symm.trans j1)
  subst this
  obtain ⟨c, k1, k2, k3, k4, k5, k6, k7, k8, k9, k10, k11, k12, k13, k14, k15, k16, k17, k18⟩ := i3
  have e1 : f_PF_encode (SS n) N 0 F = some (nI c, F1') := by
    unfold f_PF_encode
    simp only [gR_0_3, gR_0_1, gI_0_6, u2, Option.bind_some, xcl_5, i1, gR_5_4, (Nu6 n).gI, k3]
  refine ⟨F2, G, ?_, ?_⟩
  · unfold q_encode
    simp only [xcl_0, e1, Option.bind_some, xcl_71, i2, k2, if_pos]
  · have A : ∀ a, a ≠ 71 → a ≠ 73 → a ≠ 74 → (a < 77 ∨ 81 < a) → F2 a = F1' a := fun a q1 q2 q3 q4 => by rw [k17 a q1 q2 q3 q4, up2_row _ _ _ _ q1]
    have A2 : ∀ a, a ≠ 71 → a ≠ 73 → a ≠ 74 → (a < 5 ∨ (12 < a ∧ a < 77) ∨ 81 < a) → F2 a = F a := fun a q1 q2 q3 q4 => by rw [A a q1 q2 q3 (by omega), o1 a (by omega)]
    have B : ∀ j, j ≠ 3 → j ≠ 7 → j ≠ 14 → j ≠ 20 → j ≠ 21 → j ≠ 22 → F2 71 j = F 71 j := fun j q0 q1 q2 q3 q4 q5 => by rw [k18 j q1 q2 q3 q4 q5, up2_ne _ _ _ _ (Or.inr q0), o71]
    obtain ⟨h1, h2, ⟨r', h3⟩, ⟨c', h4⟩, h5, h6, ⟨w, h7⟩, ⟨q, h8⟩, ⟨f, h9⟩, h10⟩ := h
    have a5 : F2 5 = F1' 5 := A 5 (by decide) (by decide) (by decide) (by decide)
    have a8 : F2 8 = F1' 8 := A 8 (by decide) (by decide) (by decide) (by decide)
    have a9 : F2 9 = F1' 9 := A 9 (by decide) (by decide) (by decide) (by decide)
    refine ⟨⟨h1.h2, h1.h8, ?_, ?_, ?_, ?_, by rw [a5]; exact k12, by rw [a5]; exact k13, by rw [a8]; exact k14, by rw [a8]; exact k15, by rw [a9]; exact k16, ?_, ?_, ?_, ?_⟩, h2.ag ⟨by simp [A2, B], by simp⟩, ⟨r', h3.ag ⟨by simp [A2, B], by simp [A2]⟩⟩, ⟨c, k1, ?_, k4, fun k hk => ?_⟩, ?_, k10.ag ⟨by simp [A], by simp [A]⟩, ⟨w, h7.ag ⟨by simp [A2, B], by simp [A2]⟩⟩, ⟨q, h8.ag ⟨by simp [A2, B], by simp [A2]⟩⟩, ⟨f, h9.ag (by rw [A2 19 (by decide) (by decide) (by decide) (by decide)]) (B 23 (by decide) (by decide) (by decide) (by decide) (by decide) (by decide)) (fun k q1 q2 => A2 k (by omega) (by omega) (by omega) (by omega)) (fun k q1 q2 => A2 k (by omega) (by omega) (by omega) (by omega))⟩, h10.ag ⟨by simp, by simp [A2]⟩⟩
    · rw [A2 0 (by decide) (by decide) (by decide) (by decide)]; exact h1.a
    · rw [B 0 (by decide) (by decide) (by decide) (by decide) (by decide) (by decide)]; exact h1.m0
    · rw [B 1 (by decide) (by decide) (by decide) (by decide) (by decide) (by decide)]; exact h1.m1
    · rw [B 2 (by decide) (by decide) (by decide) (by decide) (by decide) (by decide)]; exact h1.m2
    · rw [A2 13 (by decide) (by decide) (by decide) (by decide)]; exact h1.r0
    · rw [A2 13 (by decide) (by decide) (by decide) (by decide)]; exact h1.r1
    · rw [A2 18 (by decide) (by decide) (by decide) (by decide)]; exact h1.v0
    · rw [A2 18 (by decide) (by decide) (by decide) (by decide)]; exact h1.v1
    · rw [A 6 (by decide) (by decide) (by decide) (by decide)]; exact k3
    · obtain ⟨s, s1, s2, s3⟩ := k5 k hk
      exact ⟨s, s1, by rw [A 7 (by decide) (by decide) (by decide) (by decide)]; exact s2, s3⟩
    · exact ⟨by rw [a5]; exact k6, by rw [a5]; exact k7, by rw [a5]; exact k8, by rw [a9]; exact k9⟩
end EC
