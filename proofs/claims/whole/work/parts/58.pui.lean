/-! the table of strings: the class's slots, the reference's children -/
def hm (k : Nat) : Nat := (nI k * (-1640531535 : Int32)).toBitVec.toNat / 2 ^ 19
theorem hm_lt (k : Nat) : hm k < 8192 := by
  unfold hm
  rw [Nat.div_lt_iff_lt_mul (by decide)]
  exact (nI k * (-1640531535 : Int32)).toBitVec.isLt
theorem hm_of (k : Nat) : ((nI k * (-1640531535 : Int32)).toUInt32 >>> ((19 : Int32).toUInt32 &&& Int32.toUInt32 31)).toInt32 = nI (hm k) := nI_bv (pk_ushr _ _ 19 (by decide))
theorem cntf_all_lt (P : Nat → Bool) : ∀ k, (∀ j, j < k → P j = true) → cntf P k = k
  | 0, _ => rfl
  | k + 1, h => by
    show cntf P k + (if P k = true then 1 else 0) = k + 1
    rw [if_pos (h k (Nat.lt_succ_self k)), cntf_all_lt P k (fun j hj => h j (Nat.lt_succ_of_lt hj))]
theorem cntf_none (P : Nat → Bool) : ∀ k, (∀ j, j < k → P j = false) → cntf P k = 0
  | 0, _ => rfl
  | k + 1, h => by
    show cntf P k + (if P k = true then 1 else 0) = 0
    rw [if_neg (by rw [h k (Nat.lt_succ_self k)]; decide), cntf_none P k (fun j hj => h j (Nat.lt_succ_of_lt hj))]
theorem cntf_upd (P P' : Nat → Bool) {s : Nat} (h1 : P s = false) (h2 : P' s = true) (h3 : ∀ j, j ≠ s → P' j = P j) : ∀ k, cntf P' k = cntf P k + (if s < k then 1 else 0)
  | 0 => by rw [if_neg (by omega)]; rfl
  | k + 1 => by
    have e := cntf_upd P P' h1 h2 h3 k
    show cntf P' k + (if P' k = true then 1 else 0) = cntf P k + (if P k = true then 1 else 0) + _
    by_cases hk : k = s
    · subst hk
      rw [if_neg (Nat.lt_irrefl k)] at e
      rw [if_pos h2, if_neg (by rw [h1]; decide), if_pos (Nat.lt_succ_self k)]
      omega
    · rw [h3 k hk]
      by_cases hs : s < k
      · rw [if_pos hs] at e
        rw [if_pos (show s < k + 1 by omega)]
        omega
      · rw [if_neg hs] at e
        rw [if_neg (show ¬ s < k + 1 by omega)]
        omega
def topE (pk : Nat → Nat) (E p : Nat) : Nat → Option Nat
  | 0 => none
  | k + 1 => if E < k + 1 ∧ pk (k + 1) / 256 = p then some (k + 1) else topE pk E p k
theorem topE_cg {pk pk' : Nat → Nat} {E p : Nat} : ∀ k, (∀ e, e ≤ k → pk' e = pk e) → topE pk' E p k = topE pk E p k
  | 0, _ => rfl
  | k + 1, h => by
    show (if E < k + 1 ∧ pk' (k + 1) / 256 = p then some (k + 1) else topE pk' E p k) = (if E < k + 1 ∧ pk (k + 1) / 256 = p then some (k + 1) else topE pk E p k)
    rw [h (k + 1) (Nat.le_refl _), topE_cg k (fun e he => h e (Nat.le_succ_of_le he))]
theorem topE_lo {pk : Nat → Nat} {E p : Nat} : ∀ k, k ≤ E → topE pk E p k = none
  | 0, _ => rfl
  | k + 1, h => by
    show (if E < k + 1 ∧ pk (k + 1) / 256 = p then some (k + 1) else topE pk E p k) = none
    rw [if_neg (by omega), topE_lo k (by omega)]
def Tbl (E z : Nat) (pk : Nat → Nat) : Prop := E ≤ z ∧ z ≤ 4095 ∧ (∀ e, E < e → e ≤ z → pk e < 1048576) ∧ ∀ e e', E < e → e ≤ z → E < e' → e' ≤ z → pk e = pk e' → e = e'
def cTb (E z : Nat) (pk : Nat → Nat) (C : xF) : Prop := C 9 0 = nI E ∧ C 9 4 = nI z ∧ (∀ e, E < e → e ≤ z → C 11 e = nI (pk e)) ∧ (∀ e, E < e → e ≤ z → ∃ s, s < 8192 ∧ C 12 e = nI s ∧ C 10 s = nI e ∧ ∃ d, s = (hm (pk e) + d) % 8192 ∧ ∀ d', d' < d → C 10 ((hm (pk e) + d') % 8192) ≠ 0) ∧ (∀ s, s < 8192 → C 10 s = 0 ∨ ∃ e, E < e ∧ e ≤ z ∧ C 10 s = nI e ∧ C 12 e = nI s) ∧ (∃ L, L = 8192 ∧ cntf (fun s => decide (C 10 s ≠ 0)) L = z - E)
def mTb (E z : Nat) (pk : Nat → Nat) (M : xF) : Prop := M 71 14 = nI (z + 1) ∧ (∀ e, E < e → e ≤ z → M 77 e = nI (pk e / 256) ∧ M 78 e = nI (pk e % 256)) ∧ (∀ p, p < 4096 → M 80 p = oI (topE pk E p z)) ∧ ∀ e, E < e → e ≤ z → M 81 e = oI (topE pk E (pk e / 256) (e - 1))
def pku (pk : Nat → Nat) (z k : Nat) : Nat → Nat := fun e => if e = z + 1 then k else pk e
section TA
variable {b n N E z p s wd sc : Nat} {pk : Nat → Nat} {C C' M M' : xF}
theorem cTb.ag (h : cTb E z pk C) (h1 : C' 9 0 = C 9 0) (h2 : C' 9 4 = C 9 4) (h3 : C' 10 = C 10) (h4 : C' 11 = C 11) (h5 : C' 12 = C 12) : cTb E z pk C' := by
  unfold cTb at h ⊢
  rw [h1, h2, h3, h4, h5]; exact h
theorem mTb.ag (h : mTb E z pk M) (h1 : M' 71 14 = M 71 14) (h2 : M' 77 = M 77) (h3 : M' 78 = M 78) (h4 : M' 80 = M 80) (h5 : M' 81 = M 81) : mTb E z pk M' := by
  unfold mTb at h ⊢
  rw [h1, h2, h3, h4, h5]; exact h
theorem Tbl.add {k : Nat} (h : Tbl E z pk) (hz : z < 4095) (hk : k < 1048576) (hno : ∀ e, E < e → e ≤ z → pk e ≠ k) : Tbl E (z + 1) (pku pk z k) := by
  obtain ⟨h1, h2, h3, h4⟩ := h
  refine ⟨by omega, by omega, fun e q1 q2 => ?_, fun e e' q1 q2 q3 q4 q5 => ?_⟩
  · unfold pku
    by_cases he : e = z + 1
    · rw [if_pos he]; exact hk
    · rw [if_neg he]; exact h3 e q1 (by omega)
  · unfold pku at q5
    by_cases he : e = z + 1
    · by_cases he' : e' = z + 1
      · omega
      · rw [if_pos he, if_neg he'] at q5
        exact absurd q5.symm (hno e' q3 (by omega))
    · by_cases he' : e' = z + 1
      · rw [if_neg he, if_pos he'] at q5
        exact absurd q5 (hno e q1 (by omega))
      · rw [if_neg he, if_neg he'] at q5
        exact h4 e e' q1 (by omega) q3 (by omega) q5
theorem Tbl.new (hE : E ≤ 4095) : Tbl E E pk := ⟨Nat.le_refl _, hE, fun e q1 q2 => by omega, fun e e' q1 q2 q3 q4 q5 => by omega⟩
theorem cTb.new (h1 : C 9 0 = nI E) (h2 : C 9 4 = nI E) (h3 : ∀ s, s < 8192 → C 10 s = 0) : cTb E E pk C := by
  refine ⟨h1, h2, fun e q1 q2 => by omega, fun e q1 q2 => by omega, fun s hs => Or.inl (h3 s hs), ?_⟩
  obtain ⟨L, hL⟩ : ∃ L, L = 8192 := ⟨_, rfl⟩
  exact ⟨L, hL, by rw [cntf_none _ L (fun j hj => by rw [h3 j (by omega)]; decide), Nat.sub_self]⟩
theorem mTb.new (h1 : M 71 14 = nI (E + 1)) (h3 : ∀ p, p < 4096 → M 80 p = -1) : mTb E E pk M := by
  refine ⟨h1, fun e q1 q2 => by omega, fun p hp => ?_, fun e q1 q2 => by omega⟩
  rw [topE_lo E (Nat.le_refl _), h3 p hp]; rfl
theorem slot_nx {x : Nat} (hx : x < 8192) : nI (x + 1) &&& 8191 = nI ((x + 1) % 8192) := pk_andN (n := x + 1) (m := 8191) (by omega) 13 (by decide)
theorem slot_loop {k t0 h0 : Nat} (hk : k < 1048576) (ht : t0 < 8192) (hocc : ∀ t, t < t0 → ∃ e, 0 < e ∧ e < 4096 ∧ C 10 ((h0 + t) % 8192) = nI e ∧ C 11 e ≠ nI k) (hst : C 10 ((h0 + t0) % 8192) = 0 ∨ ∃ e, 0 < e ∧ e < 4096 ∧ C 10 ((h0 + t0) % 8192) = nI e ∧ C 11 e = nI k) : ∀ (d t fu : Nat), t + d = t0 → d < fu → t_St_slotFor (SS n) N 9 (nI k) fu (nI ((h0 + t) % 8192)) (nI t) C = some (nI ((h0 + t0) % 8192)) := by
  intro d
  induction d with
  | zero =>
    intro t fu ht' hf
    obtain ⟨fu, rfl⟩ : ∃ z, fu = z + 1 := ⟨fu - 1, by omega⟩
    have : t = t0 := by omega
    subst this
    have c1 : ¬ (8192 : Int32) ≤ nI t := by rw [show (8192 : Int32) = nI 8192 from rfl, nI_le_iff (by decide) (by omega)]; omega
    have hs : (h0 + t) % 8192 < 8192 := Nat.mod_lt _ (by decide)
    rw [t_St_slotFor, if_neg c1]
    simp only [gR_9_1, Option.bind_some, aG_nI sh_10 hs (show 8192 ≤ 100000 by decide)]
    rcases hst with q | ⟨e, q1, q2, q3, q4⟩
    · rw [if_pos q]
    · rw [q3, if_neg (nI_ne0 q1 (by omega))]
      simp only [gR_9_2, Option.bind_some, aG_nI sh_11 q2 (show 4096 ≤ 100000 by decide)]
      rw [if_pos q4]
  | succ d ih =>
    intro t fu ht' hf
    obtain ⟨fu, rfl⟩ : ∃ z, fu = z + 1 := ⟨fu - 1, by omega⟩
    have c1 : ¬ (8192 : Int32) ≤ nI t := by rw [show (8192 : Int32) = nI 8192 from rfl, nI_le_iff (by decide) (by omega)]; omega
    have hs : (h0 + t) % 8192 < 8192 := Nat.mod_lt _ (by decide)
    obtain ⟨e, q1, q2, q3, q4⟩ := hocc t (by omega)
    have e1 : nI ((h0 + t) % 8192 + 1) &&& 8191 = nI ((h0 + (t + 1)) % 8192) := by
      rw [slot_nx hs, show ((h0 + t) % 8192 + 1) % 8192 = (h0 + (t + 1)) % 8192 by omega]
    rw [t_St_slotFor, if_neg c1]
    simp only [gR_9_1, Option.bind_some, aG_nI sh_10 hs (show 8192 ≤ 100000 by decide), q3, if_neg (nI_ne0 q1 (show e < 2 ^ 31 by omega)), gR_9_2, aG_nI sh_11 q2 (show 4096 ≤ 100000 by decide), if_neg q4, e1, nI_1]
    exact ih (t + 1) fu (by omega) (by omega)
theorem slot_of {k : Nat} (hT : Tbl E z pk) (h : cTb E z pk C) (hk : k < 1048576) (hN : 8200 < N) : ∃ t sl, t < 8192 ∧ sl = (hm k + t) % 8192 ∧ f_St_slotFor (SS n) N 9 (nI k) C = some (nI sl) ∧ (∀ t', t' < t → C 10 ((hm k + t') % 8192) ≠ 0) ∧ ((C 10 sl = 0 ∧ ∀ e, E < e → e ≤ z → pk e ≠ k) ∨ ∃ e, E < e ∧ e ≤ z ∧ pk e = k ∧ C 10 sl = nI e) := by
  obtain ⟨T1, T2, T3, T4⟩ := hT
  obtain ⟨h1, h2, h3, h4, h5, h6⟩ := h
  have free : ∃ s, s < 8192 ∧ C 10 s = 0 := by
    refine Classical.byContradiction fun hn => ?_
    obtain ⟨L, hL, hc⟩ := h6
    have : cntf (fun s => decide (C 10 s ≠ 0)) L = L := cntf_all_lt _ _ (fun j hj => by
      rw [decide_eq_true_iff]
      exact fun q => hn ⟨j, by omega, q⟩)
    omega
  obtain ⟨s0, s1, s2⟩ := free
  have hh := hm_lt k
  obtain ⟨t0, p1, p2⟩ := pk_least (fun t => C 10 ((hm k + t) % 8192) = 0 ∨ ∃ e, E < e ∧ e ≤ z ∧ pk e = k ∧ C 10 ((hm k + t) % 8192) = nI e) ⟨(s0 + 8192 - hm k) % 8192, Or.inl (by rw [show (hm k + (s0 + 8192 - hm k) % 8192) % 8192 = s0 by omega]; exact s2)⟩
  have ht0 : t0 < 8192 := by
    refine Classical.byContradiction fun hn => ?_
    exact p2 ((s0 + 8192 - hm k) % 8192) (by omega) (Or.inl (by rw [show (hm k + (s0 + 8192 - hm k) % 8192) % 8192 = s0 by omega]; exact s2))
  have hocc : ∀ t, t < t0 → ∃ e, E < e ∧ e ≤ z ∧ C 10 ((hm k + t) % 8192) = nI e ∧ pk e ≠ k := fun t ht => by
    have q := p2 t ht
    rcases h5 ((hm k + t) % 8192) (Nat.mod_lt _ (by decide)) with q' | ⟨e, e1, e2, e3, e4⟩
    · exact absurd (Or.inl q') q
    · exact ⟨e, e1, e2, e3, fun q' => q (Or.inr ⟨e, e1, e2, q', e3⟩)⟩
  refine ⟨t0, (hm k + t0) % 8192, ht0, rfl, ?_, fun t' ht' q => ?_, ?_⟩
  · unfold f_St_slotFor
    rw [hm_of]
    have e := slot_loop (n := n) (N := N) (C := C) (h0 := hm k) hk ht0 (fun t ht => by
      obtain ⟨e, e1, e2, e3, e4⟩ := hocc t ht
      refine ⟨e, by omega, by omega, e3, ?_⟩
      rw [h3 e e1 e2]
      intro q
      have := T3 e e1 e2
      exact e4 ((nI_eq_iff (by omega) (by omega)).mp q)) (by
      rcases p1 with q | ⟨e, e1, e2, e3, e4⟩
      · exact Or.inl q
      · exact Or.inr ⟨e, by omega, by omega, e4, by rw [h3 e e1 e2, e3]⟩) t0 0 N (by omega) (by omega)
    rw [Nat.add_zero, Nat.mod_eq_of_lt hh] at e
    exact e
  · obtain ⟨e, e1, e2, e3, e4⟩ := hocc t' ht'
    rw [e3] at q
    exact nI_ne0 (show 0 < e by omega) (by omega) q
  · rcases p1 with q | q
    · refine Or.inl ⟨q, fun e e1 e2 e3 => ?_⟩
      obtain ⟨s, v1, v2, v3, d, v4, v5⟩ := h4 e e1 e2
      rw [e3] at v4 v5
      by_cases c1 : t0 < d
      · exact v5 t0 c1 q
      · by_cases c2 : d < t0
        · obtain ⟨e', w1, w2, w3, w4⟩ := hocc d c2
          rw [← v4, v3] at w3
          have := (nI_eq_iff (by omega) (by omega)).mp w3
          subst this
          exact w4 e3
        · have : d = t0 := by omega
          subst this
          rw [← v4, v3] at q
          exact nI_ne0 (show 0 < e by omega) (by omega) q
    · exact Or.inr q
theorem key_of (hp : p < 4096) (hs : s < 256) : f_St_keyOf (SS n) (nI p) (nI s) C = some (nI (p * 256 + s)) := by
  unfold f_St_keyOf
  rw [show (8 : Int32) = nI 8 from rfl, nI_sl (by omega) (by decide), nI_or (by omega) (by omega), Nat.or_comm, or_add (show s < 2 ^ 8 by omega), Nat.add_comm]
theorem find_of (hT : Tbl E z pk) (h : cTb E z pk C) (hp : p < 4096) (hs : s < 256) (hN : 8200 < N) : (∃ e, E < e ∧ e ≤ z ∧ pk e = p * 256 + s ∧ f_St_find (SS n) N 9 (nI p) (nI s) C = some (nI e)) ∨ ((∀ e, E < e → e ≤ z → pk e ≠ p * 256 + s) ∧ f_St_find (SS n) N 9 (nI p) (nI s) C = some (-1)) := by
  obtain ⟨t, sl, t1, t2, t3, t4, t5⟩ := slot_of (n := n) hT h (show p * 256 + s < 1048576 by omega) hN
  have hsl : sl < 8192 := by rw [t2]; exact Nat.mod_lt _ (by decide)
  rcases t5 with ⟨q1, q2⟩ | ⟨e, e1, e2, e3, e4⟩
  · refine Or.inr ⟨q2, ?_⟩
    unfold f_St_find
    simp only [gR_9_1, Option.bind_some, key_of hp hs, xcl_9, t3, aG_nI sh_10 hsl (show 8192 ≤ 100000 by decide), q1, if_pos]
  · refine Or.inl ⟨e, e1, e2, e3, ?_⟩
    have := hT.2.1
    unfold f_St_find
    simp only [gR_9_1, Option.bind_some, key_of hp hs, xcl_9, t3, aG_nI sh_10 hsl (show 8192 ≤ 100000 by decide), e4, if_neg (nI_ne0 (show 0 < e by omega) (show e < 2 ^ 31 by omega))]
theorem full_of (h : C 9 4 = nI z) (hz : z ≤ 4095) : f_St_isFull (SS n) 9 C = some (if z < 4095 then 0 else 1) := by
  unfold f_St_isFull
  rw [gI_9_4, Option.bind_some, h, show (4095 : Int32) = nI 4095 from rfl]
  by_cases c : z < 4095
  · rw [if_pos c, if_pos ((nI_lt_iff (by omega) (by decide)).mpr c)]
  · rw [if_neg c, if_neg (by rw [nI_lt_iff (by omega) (by decide)]; exact c)]
theorem add_full (h : cTb E z pk C) (hz : z = 4095) {p0 p1 : Int32} : f_St_add (SS n) N 9 p0 p1 C = some C := by
  unfold f_St_add
  rw [xcl_9, full_of h.2.1 (by omega), Option.bind_some, if_neg (show ¬ z < 4095 by omega), if_neg (show ¬ (1 : Int32) = 0 by decide)]
theorem add_of (hT : Tbl E z pk) (h : cTb E z pk C) (hz : z < 4095) (hp : p < 4096) (hs : s < 256) (hno : ∀ e, E < e → e ≤ z → pk e ≠ p * 256 + s) (hN : 8200 < N) : ∃ C', f_St_add (SS n) N 9 (nI p) (nI s) C = some C' ∧ cTb E (z + 1) (pku pk z (p * 256 + s)) C' ∧ (∀ a, a ≠ 9 → a ≠ 10 → a ≠ 11 → a ≠ 12 → C' a = C a) ∧ (∀ j, j ≠ 4 → C' 9 j = C 9 j) := by
  obtain ⟨t, sl, t1, t2, t3, t4, t5⟩ := slot_of (n := n) hT h (show p * 256 + s < 1048576 by omega) hN
  have hsl : sl < 8192 := by rw [t2]; exact Nat.mod_lt _ (by decide)
  have q1 : C 10 sl = 0 := by
    rcases t5 with ⟨q1, q2⟩ | ⟨e, e1, e2, e3, e4⟩
    · exact q1
    · exact absurd e3 (hno e e1 e2)
  have hE := hT.1
  obtain ⟨C', hC'⟩ : ∃ C', C' = up2 (up2 (up2 (up2 C 9 4 (nI (z + 1))) 10 sl (nI (z + 1))) 11 (z + 1) (nI (p * 256 + s))) 12 (z + 1) (nI sl) := ⟨_, rfl⟩
  have o : ∀ a, a ≠ 9 → a ≠ 10 → a ≠ 11 → a ≠ 12 → C' a = C a := fun a r1 r2 r3 r4 => by rw [hC', up2_row _ _ _ _ r4, up2_row _ _ _ _ r3, up2_row _ _ _ _ r2, up2_row _ _ _ _ r1]
  have o9 : ∀ j, j ≠ 4 → C' 9 j = C 9 j := fun j r => by rw [hC', up2_row _ _ _ _ (by decide), up2_row _ _ _ _ (by decide), up2_row _ _ _ _ (by decide), up2_ne _ _ _ _ (Or.inr r)]
  have o94 : C' 9 4 = nI (z + 1) := by rw [hC', up2_row _ _ _ _ (by decide), up2_row _ _ _ _ (by decide), up2_row _ _ _ _ (by decide), up2_eq]
  have o10 : ∀ j, j ≠ sl → C' 10 j = C 10 j := fun j r => by rw [hC', up2_row _ _ _ _ (by decide), up2_row _ _ _ _ (by decide), up2_ne _ _ _ _ (Or.inr r), up2_row _ _ _ _ (by decide)]
  have o10s : C' 10 sl = nI (z + 1) := by rw [hC', up2_row _ _ _ _ (by decide), up2_row _ _ _ _ (by decide), up2_eq]
  have o11 : ∀ j, j ≠ z + 1 → C' 11 j = C 11 j := fun j r => by rw [hC', up2_row _ _ _ _ (by decide), up2_ne _ _ _ _ (Or.inr r), up2_row _ _ _ _ (by decide), up2_row _ _ _ _ (by decide)]
  have o11s : C' 11 (z + 1) = nI (p * 256 + s) := by rw [hC', up2_row _ _ _ _ (by decide), up2_eq]
  have o12 : ∀ j, j ≠ z + 1 → C' 12 j = C 12 j := fun j r => by rw [hC', up2_ne _ _ _ _ (Or.inr r), up2_row _ _ _ _ (by decide), up2_row _ _ _ _ (by decide), up2_row _ _ _ _ (by decide)]
  have o12s : C' 12 (z + 1) = nI sl := by rw [hC', up2_eq]
  have nz : nI (z + 1) ≠ 0 := nI_ne0 (by omega) (by omega)
  have o10n : ∀ j, C 10 j ≠ 0 → C' 10 j ≠ 0 := fun j r => by
    by_cases hj : j = sl
    · rw [hj, o10s]; exact nz
    · rw [o10 j hj]; exact r
  refine ⟨C', ?_, ?_, o, o9⟩
  · unfold f_St_add
    have s1 : up2 (up2 C 9 4 (nI (z + 1))) 10 sl (nI (z + 1)) 9 4 = nI (z + 1) := by rw [up2_row _ _ _ _ (by decide), up2_eq]
    have s2 : up2 (up2 (up2 C 9 4 (nI (z + 1))) 10 sl (nI (z + 1))) 11 (z + 1) (nI (p * 256 + s)) 9 4 = nI (z + 1) := by rw [up2_row _ _ _ _ (by decide), s1]
    simp only [xcl_9, full_of h.2.1 (show z ≤ 4095 by omega), Option.bind_some, if_pos hz, if_pos, key_of hp hs, t3, gI_9_4, h.2.1, nI_1, pI_9_4, gR_9_1, up2_eq, aP_nI sh_10 hsl (show 8192 ≤ 100000 by decide), gR_9_2, s1, aP_nI sh_11 (show z + 1 < 4096 by omega) (show 4096 ≤ 100000 by decide), gR_9_3, s2, aP_nI sh_12 (show z + 1 < 4096 by omega) (show 4096 ≤ 100000 by decide)]
    rw [← hC']
  · obtain ⟨h1, h2, h3, h4, h5, h6⟩ := h
    refine ⟨by rw [o9 0 (by decide)]; exact h1, o94, fun e r1 r2 => ?_, fun e r1 r2 => ?_, fun j hj => ?_, ?_⟩
    · unfold pku
      by_cases he : e = z + 1
      · subst he; rw [if_pos rfl, o11s]
      · rw [if_neg he, o11 e he]; exact h3 e r1 (by omega)
    · by_cases he : e = z + 1
      · subst he
        have e9 : pku pk z (p * 256 + s) (z + 1) = p * 256 + s := by unfold pku; rw [if_pos rfl]
        rw [e9]
        exact ⟨sl, hsl, o12s, o10s, t, t2, fun d' hd' => o10n _ (t4 d' hd')⟩
      · have e9 : pku pk z (p * 256 + s) e = pk e := by unfold pku; rw [if_neg he]
        rw [e9]
        obtain ⟨s', v1, v2, v3, d, v4, v5⟩ := h4 e r1 (by omega)
        refine ⟨s', v1, by rw [o12 e he]; exact v2, ?_, d, v4, fun d' hd' => o10n _ (v5 d' hd')⟩
        rw [o10 s' (fun q => by
          rw [q, q1] at v3
          exact nI_ne0 (show 0 < e by omega) (by omega) v3.symm)]
        exact v3
    · by_cases hjs : j = sl
      · subst hjs
        exact Or.inr ⟨z + 1, by omega, Nat.le_refl _, o10s, o12s⟩
      · rcases h5 j hj with q | ⟨e, r1, r2, r3, r4⟩
        · exact Or.inl (by rw [o10 j hjs]; exact q)
        · exact Or.inr ⟨e, r1, by omega, by rw [o10 j hjs]; exact r3, by rw [o12 e (by omega)]; exact r4⟩
    · obtain ⟨L, hL, hc⟩ := h6
      have e := cntf_upd (fun j => decide (C 10 j ≠ 0)) (fun j => decide (C' 10 j ≠ 0)) (s := sl) (by rw [q1]; decide) (by rw [decide_eq_true_iff, o10s]; exact nz) (fun j hj => by rw [o10 j hj]) L
      refine ⟨L, hL, ?_⟩
      rw [e, hc, if_pos (by omega)]
      omega
theorem ch_loop (hT : Tbl E z pk) (h : mTb E z pk M) (hp : p < 4096) (hs : s < 256) : ∀ (k fu : Nat), k ≤ z → k < fu → ∃ o, t_Mo_childOf (SS n) N 71 (nI p) (nI s) fu (oI (topE pk E p k)) M = some (oI o) ∧ (∀ e, o = some e → E < e ∧ e ≤ k ∧ pk e = p * 256 + s) ∧ (o = none → ∀ e, E < e → e ≤ k → pk e ≠ p * 256 + s)
  | 0, fu, _, hf => by
    obtain ⟨fu, rfl⟩ : ∃ z, fu = z + 1 := ⟨fu - 1, by omega⟩
    refine ⟨none, ?_, fun e he => (by cases he), fun _ e q1 q2 => by omega⟩
    show t_Mo_childOf (SS n) N 71 (nI p) (nI s) (fu + 1) (-1) M = some (-1)
    rw [t_Mo_childOf, if_pos (by decide)]
  | k + 1, fu, hk, hf => by
    have hz := hT.2.1
    have et : topE pk E p (k + 1) = if E < k + 1 ∧ pk (k + 1) / 256 = p then some (k + 1) else topE pk E p k := rfl
    rw [et]
    by_cases c : E < k + 1 ∧ pk (k + 1) / 256 = p
    · rw [if_pos c]
      obtain ⟨fu, rfl⟩ : ∃ z, fu = z + 1 := ⟨fu - 1, by omega⟩
      obtain ⟨m1, m2⟩ := h.2.1 (k + 1) c.1 hk
      have m3 := h.2.2.2 (k + 1) c.1 hk
      rw [c.2, Nat.add_sub_cancel] at m3
      rw [t_Mo_childOf]
      show ∃ o, (if nI (k + 1) < 0 then _ else _) = _ ∧ _
      rw [if_neg (nn0 (by omega))]
      simp only [show oI (some (k + 1)) = nI (k + 1) from rfl, gR_71_16, Option.bind_some, aG_nI sh_78 (show k + 1 < 4096 by omega) (show 4096 ≤ 100000 by decide), m2]
      by_cases c2 : pk (k + 1) % 256 = s
      · refine ⟨some (k + 1), ?_, fun e he => ?_, fun q => by cases q⟩
        · rw [c2, if_pos rfl]; rfl
        · have : k + 1 = e := Option.some.inj he
          subst this
          exact ⟨c.1, Nat.le_refl _, by omega⟩
      · have c3 : ¬ nI (pk (k + 1) % 256) = nI s := by rw [nI_eq_iff (by omega) (by omega)]; exact c2
        obtain ⟨o, o1, o2, o3⟩ := ch_loop hT h hp hs k fu (by omega) (by omega)
        refine ⟨o, ?_, fun e he => ?_, fun q e r1 r2 => ?_⟩
        · rw [if_neg c3]
          simp only [gR_71_19, Option.bind_some, aG_nI sh_81 (show k + 1 < 4096 by omega) (show 4096 ≤ 100000 by decide), m3]
          exact o1
        · have := o2 e he
          exact ⟨this.1, by omega, this.2.2⟩
        · by_cases he : e = k + 1
          · subst he; omega
          · exact o3 q e r1 (by omega)
    · rw [if_neg c]
      obtain ⟨o, o1, o2, o3⟩ := ch_loop hT h hp hs k fu (by omega) (by omega)
      refine ⟨o, o1, fun e he => ?_, fun q e r1 r2 => ?_⟩
      · have := o2 e he
        exact ⟨this.1, by omega, this.2.2⟩
      · by_cases he : e = k + 1
        · subst he
          intro q'
          exact c ⟨r1, by omega⟩
        · exact o3 q e r1 (by omega)
theorem child_of (hT : Tbl E z pk) (h : mTb E z pk M) (hp : p < 4096) (hs : s < 256) (hN : 8200 < N) : (∀ e, E < e → e ≤ z → pk e = p * 256 + s → f_Mo_childOf (SS n) N 71 (nI p) (nI s) M = some (nI e)) ∧ ((∀ e, E < e → e ≤ z → pk e ≠ p * 256 + s) → f_Mo_childOf (SS n) N 71 (nI p) (nI s) M = some (-1)) := by
  have hz := hT.2.1
  obtain ⟨o, o1, o2, o3⟩ := ch_loop (n := n) (N := N) hT h hp hs z N (Nat.le_refl _) (by omega)
  have e1 : f_Mo_childOf (SS n) N 71 (nI p) (nI s) M = some (oI o) := by
    unfold f_Mo_childOf
    simp only [gR_71_18, Option.bind_some, aG_nI sh_80 hp (show 4096 ≤ 100000 by decide), h.2.2.1 p hp]
    exact o1
  rw [e1]
  cases o with
  | none => exact ⟨fun e q1 q2 q3 => absurd q3 (o3 rfl e q1 q2), fun _ => rfl⟩
  | some e' =>
    obtain ⟨w1, w2, w3⟩ := o2 e' rfl
    refine ⟨fun e q1 q2 q3 => ?_, fun q => absurd w3 (q e' w1 w2)⟩
    have := hT.2.2.2 e e' q1 q2 w1 w2 (by rw [q3, w3])
    rw [this]; rfl
theorem enter_full (h : M 71 14 = nI (z + 1)) (hz : z = 4095) {p0 p1 : Int32} : f_Mo_enter (SS n) 71 p0 p1 M = some M := by
  unfold f_Mo_enter
  rw [gI_71_14, Option.bind_some, h, hz, if_pos (by decide)]
theorem enter_of (h : mTb E z pk M) (hEz : E ≤ z) (hz : z < 4095) (hp : p < 4096) (hs : s < 256) : ∃ M', f_Mo_enter (SS n) 71 (nI p) (nI s) M = some M' ∧ mTb E (z + 1) (pku pk z (p * 256 + s)) M' ∧ M' 79 (z + 1) = M 79 p + 1 ∧ (∀ a, a ≠ 71 → a ≠ 77 → a ≠ 78 → a ≠ 79 → a ≠ 80 → a ≠ 81 → M' a = M a) ∧ (∀ j, j ≠ 14 → M' 71 j = M 71 j) ∧ (∀ j, j ≠ z + 1 → M' 77 j = M 77 j ∧ M' 78 j = M 78 j ∧ M' 79 j = M 79 j) ∧ M' 77 (z + 1) = nI p ∧ M' 78 (z + 1) = nI s := by
  obtain ⟨h1, h2, h3, h4⟩ := h
  obtain ⟨M', hM'⟩ : ∃ M', M' = up2 (up2 (up2 (up2 (up2 (up2 M 77 (z + 1) (nI p)) 78 (z + 1) (nI s)) 79 (z + 1) (M 79 p + 1)) 81 (z + 1) (M 80 p)) 80 p (nI (z + 1))) 71 14 (nI (z + 2)) := ⟨_, rfl⟩
  have o : ∀ a, a ≠ 71 → a ≠ 77 → a ≠ 78 → a ≠ 79 → a ≠ 80 → a ≠ 81 → M' a = M a := fun a r1 r2 r3 r4 r5 r6 => by rw [hM', up2_row _ _ _ _ r1, up2_row _ _ _ _ r5, up2_row _ _ _ _ r6, up2_row _ _ _ _ r4, up2_row _ _ _ _ r3, up2_row _ _ _ _ r2]
  have o71 : ∀ j, j ≠ 14 → M' 71 j = M 71 j := fun j r => by rw [hM', up2_ne _ _ _ _ (Or.inr r), up2_row _ _ _ _ (by decide), up2_row _ _ _ _ (by decide), up2_row _ _ _ _ (by decide), up2_row _ _ _ _ (by decide), up2_row _ _ _ _ (by decide)]
  have o14 : M' 71 14 = nI (z + 2) := by rw [hM', up2_eq]
  have o77 : ∀ j, j ≠ z + 1 → M' 77 j = M 77 j := fun j r => by rw [hM', up2_row _ _ _ _ (by decide), up2_row _ _ _ _ (by decide), up2_row _ _ _ _ (by decide), up2_row _ _ _ _ (by decide), up2_row _ _ _ _ (by decide), up2_ne _ _ _ _ (Or.inr r)]
  have o77s : M' 77 (z + 1) = nI p := by rw [hM', up2_row _ _ _ _ (by decide), up2_row _ _ _ _ (by decide), up2_row _ _ _ _ (by decide), up2_row _ _ _ _ (by decide), up2_row _ _ _ _ (by decide), up2_eq]
  have o78 : ∀ j, j ≠ z + 1 → M' 78 j = M 78 j := fun j r => by rw [hM', up2_row _ _ _ _ (by decide), up2_row _ _ _ _ (by decide), up2_row _ _ _ _ (by decide), up2_row _ _ _ _ (by decide), up2_ne _ _ _ _ (Or.inr r), up2_row _ _ _ _ (by decide)]
  have o78s : M' 78 (z + 1) = nI s := by rw [hM', up2_row _ _ _ _ (by decide), up2_row _ _ _ _ (by decide), up2_row _ _ _ _ (by decide), up2_row _ _ _ _ (by decide), up2_eq]
  have o79 : ∀ j, j ≠ z + 1 → M' 79 j = M 79 j := fun j r => by rw [hM', up2_row _ _ _ _ (by decide), up2_row _ _ _ _ (by decide), up2_row _ _ _ _ (by decide), up2_ne _ _ _ _ (Or.inr r), up2_row _ _ _ _ (by decide), up2_row _ _ _ _ (by decide)]
  have o79s : M' 79 (z + 1) = M 79 p + 1 := by rw [hM', up2_row _ _ _ _ (by decide), up2_row _ _ _ _ (by decide), up2_row _ _ _ _ (by decide), up2_eq]
  have o81 : ∀ j, j ≠ z + 1 → M' 81 j = M 81 j := fun j r => by rw [hM', up2_row _ _ _ _ (by decide), up2_row _ _ _ _ (by decide), up2_ne _ _ _ _ (Or.inr r), up2_row _ _ _ _ (by decide), up2_row _ _ _ _ (by decide), up2_row _ _ _ _ (by decide)]
  have o81s : M' 81 (z + 1) = M 80 p := by rw [hM', up2_row _ _ _ _ (by decide), up2_row _ _ _ _ (by decide), up2_eq]
  have o80 : ∀ j, j ≠ p → M' 80 j = M 80 j := fun j r => by rw [hM', up2_row _ _ _ _ (by decide), up2_ne _ _ _ _ (Or.inr r), up2_row _ _ _ _ (by decide), up2_row _ _ _ _ (by decide), up2_row _ _ _ _ (by decide), up2_row _ _ _ _ (by decide)]
  have o80s : M' 80 p = nI (z + 1) := by rw [hM', up2_row _ _ _ _ (by decide), up2_eq]
  refine ⟨M', ?_, ⟨o14, fun e r1 r2 => ?_, fun q hq => ?_, fun e r1 r2 => ?_⟩, o79s, o, o71, fun j r => ⟨o77 j r, o78 j r, o79 j r⟩, o77s, o78s⟩
  · unfold f_Mo_enter
    have c1 : ¬ (4096 : Int32) ≤ nI (z + 1) := by rw [show (4096 : Int32) = nI 4096 from rfl, nI_le_iff (by decide) (by omega)]; omega
    have s1 : ∀ (a k : Nat) (v : Int32) (K : xF), a ≠ 71 → K 71 14 = nI (z + 1) → up2 K a k v 71 14 = nI (z + 1) := fun a k v K r1 r2 => by rw [up2_row _ _ _ _ (Ne.symm r1)]; exact r2
    have t1 := s1 77 (z + 1) (nI p) M (by decide) h1
    have t2 := s1 78 (z + 1) (nI s) _ (by decide) t1
    have t3 := s1 79 (z + 1) (M 79 p + 1) _ (by decide) t2
    have t4 := s1 81 (z + 1) (M 80 p) _ (by decide) t3
    have t5 := s1 80 p (nI (z + 1)) _ (by decide) t4
    have hz1 : z + 1 < 4096 := by omega
    have u1 : up2 (up2 M 77 (z + 1) (nI p)) 78 (z + 1) (nI s) 79 p = M 79 p := by rw [up2_row _ _ _ _ (by decide), up2_row _ _ _ _ (by decide)]
    have u2 : up2 (up2 (up2 M 77 (z + 1) (nI p)) 78 (z + 1) (nI s)) 79 (z + 1) (M 79 p + 1) 80 p = M 80 p := by rw [up2_row _ _ _ _ (by decide), up2_row _ _ _ _ (by decide), up2_row _ _ _ _ (by decide)]
    simp only [gI_71_14, h1, Option.bind_some, if_neg c1, gR_71_15, gR_71_16, gR_71_17, gR_71_18, gR_71_19, aP_nI sh_77 hz1 (show 4096 ≤ 100000 by decide), t1, aP_nI sh_78 hz1 (show 4096 ≤ 100000 by decide), t2, aG_nI sh_79 hp (show 4096 ≤ 100000 by decide), u1, aP_nI sh_79 hz1 (show 4096 ≤ 100000 by decide), t3, aG_nI sh_80 hp (show 4096 ≤ 100000 by decide), u2, aP_nI sh_81 hz1 (show 4096 ≤ 100000 by decide), t4, aP_nI sh_80 hp (show 4096 ≤ 100000 by decide), t5, nI_1, pI_71_14]
    rw [← hM']
  · unfold pku
    by_cases he : e = z + 1
    · subst he
      rw [if_pos rfl, o77s, o78s]
      exact ⟨by congr 1; omega, by congr 1; omega⟩
    · rw [if_neg he, o77 e he, o78 e he]
      exact h2 e r1 (by omega)
  · have et : topE (pku pk z (p * 256 + s)) E q (z + 1) = if E < z + 1 ∧ pku pk z (p * 256 + s) (z + 1) / 256 = q then some (z + 1) else topE (pku pk z (p * 256 + s)) E q z := rfl
    have e9 : pku pk z (p * 256 + s) (z + 1) / 256 = p := by unfold pku; rw [if_pos rfl]; omega
    rw [et, e9, topE_cg z (fun e he => by unfold pku; rw [if_neg (by omega)])]
    by_cases hqp : q = p
    · subst hqp
      rw [if_pos ⟨by omega, rfl⟩, o80s]; rfl
    · rw [if_neg (fun r => hqp r.2.symm), o80 q hqp]
      exact h3 q hq
  · by_cases he : e = z + 1
    · subst he
      have e9 : pku pk z (p * 256 + s) (z + 1) / 256 = p := by unfold pku; rw [if_pos rfl]; omega
      rw [e9, Nat.add_sub_cancel, topE_cg z (fun e he => by unfold pku; rw [if_neg (by omega)]), o81s]
      exact h3 p hp
    · have e9 : pku pk z (p * 256 + s) e = pk e := by unfold pku; rw [if_neg he]
      rw [e9, topE_cg (e - 1) (fun e' he' => by unfold pku; rw [if_neg (by omega)]), o81 e he]
      exact h4 e r1 (by omega)
end TA
