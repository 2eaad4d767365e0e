/-! decode: the codes -/
theorem mod24 {X s w K : Nat} (h : s + w ≤ K) : X % 2 ^ K / 2 ^ s % 2 ^ w = X / 2 ^ s % 2 ^ w := by
  have e : 2 ^ K = 2 ^ s * 2 ^ (K - s) := by rw [← Nat.pow_add]; congr 1; omega
  rw [e, Nat.mod_mul_right_div_self, Nat.mod_mod_of_dvd _ (Nat.pow_dvd_pow 2 (show w ≤ K - s by omega))]
theorem divdiv {V a c : Nat} : V / 2 ^ a / 2 ^ c = V / 2 ^ (a + c) := by rw [Nat.div_div_eq_div_mul, ← Nat.pow_add]
theorem up2_id {F : xF} {a k : Nat} {v : Int32} (h : F a k = v) : up2 F a k v = F := by
  funext i j
  by_cases hi : i = a
  · subst hi
    by_cases hj : j = k
    · subst hj; rw [up2_eq, h]
    · rw [up2_ne _ _ _ _ (Or.inr hj)]
  · rw [up2_row _ _ _ _ hi]
theorem bybit {x o : Nat} (hx : x < 256) (ho : o < 8) : (vp_nar .byte (nI x) >>> (nI o &&& 31)) &&& 1 = nI (x / 2 ^ o % 2) := by
  have : ∀ j : Nat, j < 256 → ∀ k : Nat, k < 8 → (vp_nar .byte (nI j) >>> (nI k &&& 31)) &&& 1 = nI (j / 2 ^ k % 2) := by decide +kernel
  exact this x hx o ho
section DC
variable {n N V w wd t : Nat} {C M : xF}
theorem hs_y (h : C 3 1 = nI w) (hw : w ≤ 24000) {k : Nat} (hk : k < w) : f_Nu_has (SS n) 3 (nI k) C = some 1 := by
  rw [Nu_has_of (Nu3 n) h hw, nI_toInt (show k < 2 ^ 31 by omega), if_pos (by omega)]
theorem hs_n (h : C 3 1 = nI w) (hw : w ≤ 24000) {k : Nat} (hk : ¬ k < w) (hk2 : k < 100000) : f_Nu_has (SS n) 3 (nI k) C = some 0 := by
  rw [Nu_has_of (Nu3 n) h hw, nI_toInt (show k < 2 ^ 31 by omega), if_neg (by omega)]
theorem gt_y (h : C 3 1 = nI w) (hw : w ≤ 24000) (hb : ∀ k, k < w → C 4 k = nI (V / 2 ^ (8 * k) % 256)) {k : Nat} (hk : k < w) : f_Nu_get (SS n) 3 (nI k) C = some (nI (V / 2 ^ (8 * k) % 256)) := by
  rw [Nu_get_of (Nu3 n) h hw hk]
  show some (C 4 k) = _
  rw [hb k hk]
theorem cf_of (h : C 3 1 = nI w) (hw : w ≤ 24000) (hV : V < 2 ^ (8 * w)) (hb : ∀ k, k < w → C 4 k = nI (V / 2 ^ (8 * k) % 256)) (h18 : C 18 2 = nI wd) (hwd : wd ≤ 12) (ht : t + wd ≤ 8 * w) (h0 : 0 < wd) : f_Re_codeFrom (SS n) 13 3 (nI t) C = some (nI (V / 2 ^ t % 2 ^ wd)) := by
  obtain ⟨X, hX⟩ : ∃ X, X = V / 2 ^ (8 * (t / 8)) := ⟨_, rfl⟩
  have x1 : V / 2 ^ (8 * (t / 8 + 1)) = X / 256 := by rw [hX, show (256 : Nat) = 2 ^ 8 from rfl, divdiv]; congr 1
  have x2 : V / 2 ^ (8 * (t / 8 + 2)) = X / 65536 := by rw [hX, show (65536 : Nat) = 2 ^ 16 from rfl, divdiv]; congr 1
  have zero : ∀ k, ¬ k < w → V / 2 ^ (8 * k) = 0 := fun k hk => Nat.div_eq_of_lt (Nat.lt_of_lt_of_le hV (p2le (by omega)))
  have s3 : nI t >>> ((3 : Int32) &&& 31) = nI (t / 8) := by
    rw [show (3 : Int32) = nI 3 from rfl, nI_sr (by omega) (by decide)]
  have k1 : t / 8 < w := by omega
  have g0 := gt_y (n := n) h hw hb k1
  rw [← hX] at g0
  have a7 : nI t &&& 7 = nI (t % 8) := pk_andN (by omega) 3 (by decide)
  have hpw : 2 ^ wd ≤ 4096 := p2le hwd
  have hp0 := Nat.two_pow_pos wd
  have msk : (1 : Int32) <<< (nI wd &&& 31) - 1 = nI (2 ^ wd - 1) := by rw [sh1 hwd, show (1 : Int32) = nI 1 from rfl, nI_sub hp0]
  have fin : ∀ Y : Nat, Y = X % 2 ^ 24 → (nI Y >>> (nI (t % 8) &&& 31)) &&& nI (2 ^ wd - 1) = nI (V / 2 ^ t % 2 ^ wd) := fun Y hY => by
    have hY2 : Y < 16777216 := by rw [hY]; exact Nat.mod_lt _ (by decide)
    have hYd : Y / 2 ^ (t % 8) ≤ Y := Nat.div_le_self _ _
    rw [nI_sr (by omega) (by omega), pk_andN (show Y / 2 ^ (t % 8) < 2 ^ 32 by omega) wd (nI_tn (by omega)), hY, mod24 (by omega), hX, divdiv, show 8 * (t / 8) + t % 8 = t by omega]
  have o1 : ∀ a c : Nat, a < 256 → c < 256 → nI a ||| (nI c <<< ((8 : Int32) &&& 31)) = nI (a + c * 256) := fun a c ha hc => by
    rw [show (8 : Int32) = nI 8 from rfl, nI_sl (by omega) (by decide), nI_or (by omega) (by omega), or_add (show a < 2 ^ 8 by omega)]
  have o2 : ∀ a c : Nat, a < 65536 → c < 256 → nI a ||| (nI c <<< ((16 : Int32) &&& 31)) = nI (a + c * 65536) := fun a c ha hc => by
    rw [show (16 : Int32) = nI 16 from rfl, nI_sl (by omega) (by decide), nI_or (by omega) (by omega), or_add (show a < 2 ^ 16 by omega)]
  have n2 : nI (t / 8) + 2 = nI (t / 8 + 2) := by rw [show (2 : Int32) = nI 2 from rfl, nI_ad]
  have n10 : ¬ (1 : Int32) = 0 := by decide
  unfold f_Re_codeFrom
  rw [s3, xcl_3, g0, Option.bind_some, nI_1, n2, a7, gR_13_2]
  simp only [Option.bind_some, gI_18_2, h18, msk]
  by_cases c1 : t / 8 + 1 < w
  · have g1 := gt_y (n := n) h hw hb c1
    rw [x1] at g1
    rw [hs_y h hw c1, Option.bind_some, if_neg n10, g1, Option.bind_some]
    by_cases c2 : t / 8 + 2 < w
    · have g2 := gt_y (n := n) h hw hb c2
      rw [x2] at g2
      rw [hs_y h hw c2, Option.bind_some, if_neg n10, g2, Option.bind_some, o1 _ _ (by omega) (by omega), o2 _ _ (by omega) (by omega), fin _ (by
        show X % 256 + X / 256 % 256 * 256 + X / 65536 % 256 * 65536 = X % 16777216
        omega)]
    · have z2 := zero _ c2
      rw [x2] at z2
      rw [hs_n h hw c2 (by omega), Option.bind_some, if_pos rfl, o1 _ _ (by omega) (by omega), fin _ (by
        show X % 256 + X / 256 % 256 * 256 = X % 16777216
        omega)]
  · have z1 := zero _ c1
    rw [x1] at z1
    have c2 : ¬ t / 8 + 2 < w := by omega
    rw [hs_n h hw c1 (by omega), Option.bind_some, if_pos rfl, hs_n h hw c2 (by omega), Option.bind_some, if_pos rfl, fin _ (by
        show X % 256 = X % 16777216
        omega)]
theorem nc_loop (hw : w ≤ 24000) (hb : ∀ k, k < w → M 75 k = vp_nar .byte (nI (V / 2 ^ (8 * k) % 256))) (h21 : M 71 21 = nI wd) (hwd : wd ≤ 12) (ht : t + wd ≤ 8 * w) : ∀ (d j fu : Nat), j + d = wd → d < fu → t_Mo_nextCode (SS n) N 71 fu (nI (V / 2 ^ t % 2 ^ j)) (nI j) (up2 M 71 20 (nI (t + j))) = some (nI (V / 2 ^ t % 2 ^ wd), up2 M 71 20 (nI (t + wd))) := by
  intro d
  induction d with
  | zero =>
    intro j fu hj hf
    obtain ⟨fu, rfl⟩ : ∃ z, fu = z + 1 := ⟨fu - 1, by omega⟩
    have : j = wd := by omega
    subst this
    have c1 : nI j ≤ nI j := (nI_le_iff (by omega) (by omega)).mpr (Nat.le_refl _)
    rw [t_Mo_nextCode]
    simp only [gI_71_21, up2_ne M 71 20 _ (Or.inr (show 21 ≠ 20 by decide)), h21, Option.bind_some, if_pos c1]
  | succ d ih =>
    intro j fu hj hf
    obtain ⟨fu, rfl⟩ : ∃ z, fu = z + 1 := ⟨fu - 1, by omega⟩
    have c1 : ¬ nI wd ≤ nI j := by rw [nI_le_iff (by omega) (by omega)]; omega
    have n8 : ¬ (8 : Int32) = 0 := by decide
    have e8 : nI (t + j) / 8 = nI ((t + j) / 8) := by rw [show (8 : Int32) = nI 8 from rfl, nI_div (by omega) (by decide)]
    have er : nI (t + j) - nI ((t + j) / 8) * 8 = nI ((t + j) % 8) := by
      rw [show (8 : Int32) = nI 8 from rfl, nI_mul, nI_sub (by omega)]; congr 1; omega
    have hk : (t + j) / 8 < w := by omega
    have hbit : V / 2 ^ (8 * ((t + j) / 8)) % 256 / 2 ^ ((t + j) % 8) % 2 = V / 2 ^ (t + j) % 2 := by
      have e := mod24 (X := V / 2 ^ (8 * ((t + j) / 8))) (s := (t + j) % 8) (w := 1) (K := 8) (by omega)
      rw [show (2 : Nat) ^ 8 = 256 from rfl, show (2 : Nat) ^ 1 = 2 from rfl, divdiv, show 8 * ((t + j) / 8) + (t + j) % 8 = t + j by omega] at e
      exact e
    have hlt : V / 2 ^ t % 2 ^ j < 2 ^ j := Nat.mod_lt _ (Nat.two_pow_pos j)
    have hpj : 2 ^ j ≤ 4096 := p2le (show j ≤ 12 by omega)
    have hb2 : V / 2 ^ (t + j) % 2 < 2 := Nat.mod_lt _ (by decide)
    have hb3 : V / 2 ^ (t + j) % 2 * 2 ^ j ≤ 1 * 2 ^ j := Nat.mul_le_mul_right _ (by omega)
    have ev : nI (V / 2 ^ t % 2 ^ j) ||| (nI (V / 2 ^ (t + j) % 2) <<< (nI j &&& 31)) = nI (V / 2 ^ t % 2 ^ (j + 1)) := by
      rw [nI_sl (by omega) (by omega), nI_or (by omega) (by omega), or_add hlt, Nat.mod_pow_succ, divdiv, Nat.mul_comm (2 ^ j)]
    rw [t_Mo_nextCode]
    simp only [gI_71_21, gI_71_20, gR_71_11, up2_ne M 71 20 _ (Or.inr (show 21 ≠ 20 by decide)), h21, up2_eq, Option.bind_some, if_neg c1, if_neg n8, e8, er, bG_nI sh_75 (show (t + j) / 8 < 24000 by omega) (show 24000 ≤ 100000 by decide), up2_row M 71 20 _ (show 75 ≠ 71 by decide), hb _ hk, bybit (show V / 2 ^ (8 * ((t + j) / 8)) % 256 < 256 from Nat.mod_lt _ (by decide)) (show (t + j) % 8 < 8 by omega), hbit, ev, nI_1, pI_71_20, up2_up2]
    exact ih (j + 1) fu (by omega) (by omega)
theorem nc_of (hw : w ≤ 24000) (hb : ∀ k, k < w → M 75 k = vp_nar .byte (nI (V / 2 ^ (8 * k) % 256))) (h20 : M 71 20 = nI t) (h21 : M 71 21 = nI wd) (hwd : wd ≤ 12) (ht : t + wd ≤ 8 * w) (hN : 100 < N) : f_Mo_nextCode (SS n) N 71 M = some (nI (V / 2 ^ t % 2 ^ wd), up2 M 71 20 (nI (t + wd))) := by
  unfold f_Mo_nextCode
  have e := nc_loop (n := n) (N := N) hw hb h21 hwd ht wd 0 N (by omega) (by omega)
  rw [show (2 : Nat) ^ 0 = 1 from rfl, Nat.mod_one, Nat.add_zero, up2_id h20] at e
  exact e
/-- the bytes as one number -/
def VV (wb : Nat → Nat) : Nat → Nat
  | 0 => 0
  | k + 1 => VV wb k + wb k * 2 ^ (8 * k)
theorem VV_lt (wb : Nat → Nat) : ∀ k, (∀ j, j < k → wb j < 256) → VV wb k < 2 ^ (8 * k)
  | 0, _ => by show 0 < 2 ^ (8 * 0); decide
  | k + 1, h => V_lt (w := 8) (VV_lt wb k (fun j hj => h j (Nat.lt_succ_of_lt hj))) (h k (Nat.lt_succ_self k))
theorem VV_at (wb : Nat → Nat) : ∀ k, (∀ j, j < k → wb j < 256) → ∀ i, i < k → VV wb k / 2 ^ (8 * i) % 256 = wb i
  | 0, _, i, hi => by omega
  | k + 1, h, i, hi => by
    have hl := VV_lt wb k (fun j hj => h j (Nat.lt_succ_of_lt hj))
    show (VV wb k + wb k * 2 ^ (8 * k)) / 2 ^ (8 * i) % 256 = wb i
    by_cases hik : i = k
    · subst hik
      rw [div_add8 (Nat.le_refl _), Nat.sub_self, Nat.div_eq_of_lt hl, show (2 : Nat) ^ 0 = 1 from rfl, Nat.mul_one, Nat.zero_add, Nat.mod_eq_of_lt (h i (Nat.lt_succ_self i))]
    · rw [byte_keep (by omega)]
      exact VV_at wb k (fun j hj => h j (Nat.lt_succ_of_lt hj)) i (by omega)
end DC
