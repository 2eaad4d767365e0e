/-! frame: counting lines, the class's side -/
def cntf (P : Nat → Bool) : Nat → Nat
  | 0 => 0
  | k + 1 => cntf P k + (if P k = true then 1 else 0)
theorem cntf_two (P Q : Nat → Bool) (hd : ∀ j, ¬ (P j = true ∧ Q j = true)) : ∀ k, cntf P k + cntf Q k ≤ k
  | 0 => Nat.le_refl _
  | k + 1 => by
    have h1 := cntf_two P Q hd k
    have h2 := hd k
    show cntf P k + (if P k = true then 1 else 0) + (cntf Q k + (if Q k = true then 1 else 0)) ≤ k + 1
    by_cases c1 : P k = true
    · by_cases c2 : Q k = true
      · exact absurd ⟨c1, c2⟩ h2
      · rw [if_pos c1, if_neg c2]; omega
    · by_cases c2 : Q k = true
      · rw [if_neg c1, if_pos c2]; omega
      · rw [if_neg c1, if_neg c2]; omega
theorem cntf_mono (P : Nat → Bool) {a : Nat} : ∀ c, a ≤ c → cntf P a ≤ cntf P c
  | 0, h => by have : a = 0 := by omega
               subst this; exact Nat.le_refl _
  | c + 1, h => by
    by_cases hc : a = c + 1
    · subst hc; exact Nat.le_refl _
    · have := cntf_mono P c (show a ≤ c by omega)
      show _ ≤ cntf P c + _
      omega
theorem cntf_add (P Q R : Nat → Bool) (h1 : ∀ j, R j = true → P j = true ∨ Q j = true) (h2 : ∀ j, P j = true → R j = true) (h3 : ∀ j, Q j = true → R j = true) (h4 : ∀ j, ¬ (P j = true ∧ Q j = true)) : ∀ k, cntf R k = cntf P k + cntf Q k
  | 0 => rfl
  | k + 1 => by
    have e := cntf_add P Q R h1 h2 h3 h4 k
    show cntf R k + (if R k = true then 1 else 0) = cntf P k + (if P k = true then 1 else 0) + (cntf Q k + (if Q k = true then 1 else 0))
    by_cases c1 : P k = true
    · have c2 : ¬ Q k = true := fun q => h4 k ⟨c1, q⟩
      rw [if_pos c1, if_neg c2, if_pos (h2 k c1)]; omega
    · by_cases c2 : Q k = true
      · rw [if_neg c1, if_pos c2, if_pos (h3 k c2)]; omega
      · rw [if_neg c1, if_neg c2, if_neg (fun q => (h1 k q).elim c1 c2)]; omega
theorem cntf_all (P : Nat → Bool) (h : ∀ j, P j = true) : ∀ k, cntf P k = k
  | 0 => rfl
  | k + 1 => by
    show cntf P k + (if P k = true then 1 else 0) = k + 1
    rw [if_pos (h k), cntf_all P h k]
def pnn (l : Nat) : Nat := if l % 2 = 1 then 3 else if l % 4 = 2 then 2 else if l % 8 = 4 then 1 else 0
def PN (il : Int32) (l : Nat) : Nat := if il = 0 then 0 else pnn l
theorem PN_lt (il : Int32) (l : Nat) : PN il l < 4 := by
  unfold PN pnn
  split
  · decide
  · split
    · decide
    · split
      · decide
      · split <;> decide
def pnI (x : Int32) : Int32 := if (x &&& 1) = 0 then (if (x &&& 2) = 0 then (if (x &&& 4) = 0 then 0 else 1) else 2) else 3
theorem pnI_of : ∀ l : Nat, l < 24 → pnI (nI l) = nI (pnn l) := by decide +kernel
section SD
variable {b n N i w hh r l p st : Nat} {F : xF} {G : xL} {il p1 p2 p3 p4 p5 p6 p7 : Int32} {g : Nat → Int32}
theorem pn_pnI {x : Int32} : f_Fr_passNumber (SS n) x F = some (pnI x) := by
  unfold f_Fr_passNumber pnI
  by_cases c1 : (x &&& 1) = 0
  · by_cases c2 : (x &&& 2) = 0
    · by_cases c3 : (x &&& 4) = 0
      · rw [if_pos c1, if_pos c2, if_pos c3, if_pos c1, if_pos c2, if_pos c3]
      · rw [if_pos c1, if_pos c2, if_neg c3, if_pos c1, if_pos c2, if_neg c3]
    · rw [if_pos c1, if_neg c2, if_pos c1, if_neg c2]
  · rw [if_neg c1, if_neg c1]
theorem pn_of (hl : l < 24) : f_Fr_passNumber (SS n) (nI l) F = some (nI (pnn l)) := by rw [pn_pnI, pnI_of l hl]
theorem mpn_of (hl : l < 24) : f_Mo_passNumber (SS n) (nI l) F = some (nI (pnn l)) := by rw [pn_eq (show l < 2147483648 by omega) F F, pn_of hl]
def stp (w h : Nat) (pn : Nat → Nat) (p l : Nat) : Nat := w * (cntf (fun j => decide (pn j < p)) h + cntf (fun j => decide (pn j = p)) l)
theorem stp_00 {w h : Nat} {pn : Nat → Nat} : stp w h pn 0 0 = 0 := by
  unfold stp
  have : ∀ k, cntf (fun j => decide (pn j < 0)) k = 0 := by
    intro k
    induction k with
    | zero => rfl
    | succ k ih =>
      show cntf (fun j => decide (pn j < 0)) k + (if decide (pn k < 0) = true then 1 else 0) = 0
      rw [ih, if_neg (by simp)]
  rw [this]
  rfl
theorem stp_y {w h : Nat} {pn : Nat → Nat} (e : pn l = p) : stp w h pn p (l + 1) = stp w h pn p l + w := by
  unfold stp
  have : cntf (fun j => decide (pn j = p)) (l + 1) = cntf (fun j => decide (pn j = p)) l + 1 := by
    show cntf (fun j => decide (pn j = p)) l + (if decide (pn l = p) = true then 1 else 0) = _
    rw [if_pos (by simp [e])]
  rw [this, ← Nat.add_assoc, Nat.mul_succ]
theorem stp_n {w h : Nat} {pn : Nat → Nat} (e : pn l ≠ p) : stp w h pn p (l + 1) = stp w h pn p l := by
  unfold stp
  have : cntf (fun j => decide (pn j = p)) (l + 1) = cntf (fun j => decide (pn j = p)) l := by
    show cntf (fun j => decide (pn j = p)) l + (if decide (pn l = p) = true then 1 else 0) = _
    rw [if_neg (by simp [e])]
    rfl
  rw [this]
theorem stp_next {w h : Nat} {pn : Nat → Nat} : stp w h pn (p + 1) 0 = stp w h pn p h := by
  unfold stp
  rw [cntf_add (fun j => decide (pn j < p)) (fun j => decide (pn j = p)) (fun j => decide (pn j < p + 1)) (fun j q => by simp at q ⊢; omega) (fun j q => by simp at q ⊢; omega) (fun j q => by simp at q ⊢; omega) (fun j q => by simp at q; omega)]
  rfl
theorem stp_room {w h : Nat} {pn : Nat → Nat} (e : pn l = p) (hl : l < h) : stp w h pn p l + w ≤ w * h := by
  rw [← stp_y (h := h) e]
  unfold stp
  apply Nat.mul_le_mul_left
  have h1 := cntf_mono (fun j => decide (pn j = p)) h (show l + 1 ≤ h by omega)
  have h2 := cntf_two (fun j => decide (pn j < p)) (fun j => decide (pn j = p)) (fun j q => by simp at q; omega) h
  omega
theorem stp_40 {w h : Nat} {pn : Nat → Nat} (hp : ∀ j, pn j < 4) : stp w h pn 4 0 = w * h := by
  unfold stp
  rw [cntf_all (fun j => decide (pn j < 4)) (fun j => by simp [hp j])]
  rfl
/-- the lines that are laid before the line l of the pass p -/
def FilI (w h : Nat) (pn : Nat → Nat) (src : Nat → Int32) (bs : Nat → Nat) (g0 : Nat → Int32) (p l : Nat) (g : Nat → Int32) : Prop :=
  (∀ l' c, l' < h → (pn l' < p ∨ (pn l' = p ∧ l' < l)) → c < w → g (bs l' + c) = src (stp w h pn (pn l') l' + c)) ∧ ∀ k, (∀ l', l' < h → ¬ (bs l' ≤ k ∧ k < bs l' + w)) → g k = g0 k
def Dis (w h : Nat) (bs : Nat → Nat) : Prop := ∀ l l', l < h → l' < h → l ≠ l' → bs l + w ≤ bs l' ∨ bs l' + w ≤ bs l
section FI
variable {h : Nat} {pn : Nat → Nat} {src : Nat → Int32} {bs : Nat → Nat} {g0 : Nat → Int32}
theorem FilI.y (hI : FilI w h pn src bs g0 p l g) (hd : Dis w h bs) (hm : pn l = p) (hl : l < h) : FilI w h pn src bs g0 p (l + 1) (rowAdd g (bs l) w (fun c => src (stp w h pn p l + c))) := by
  refine ⟨fun l' c h1 h2 h3 => ?_, fun k hk => ?_⟩
  · by_cases hll : l' = l
    · subst hll
      simp only [rowAdd]
      rw [if_pos (by omega), Nat.add_sub_cancel_left, hm]
    · simp only [rowAdd]
      rw [if_neg (by have := hd l l' hl h1 (Ne.symm hll); omega)]
      exact hI.1 l' c h1 (by omega) h3
  · simp only [rowAdd]
    rw [if_neg (hk l hl)]
    exact hI.2 k hk
theorem FilI.no (hI : FilI w h pn src bs g0 p l g) (hm : pn l ≠ p) : FilI w h pn src bs g0 p (l + 1) g := by
  refine ⟨fun l' c h1 h2 h3 => hI.1 l' c h1 ?_ h3, hI.2⟩
  rcases h2 with q | ⟨q1, q2⟩
  · exact Or.inl q
  · by_cases hll : l' = l
    · subst hll; exact absurd q1 hm
    · exact Or.inr ⟨q1, by omega⟩
theorem FilI.next (hI : FilI w h pn src bs g0 p h g) : FilI w h pn src bs g0 (p + 1) 0 g := by
  refine ⟨fun l' c h1 h2 h3 => hI.1 l' c h1 ?_ h3, hI.2⟩
  omega
theorem FilI.z (src : Nat → Int32) (bs : Nat → Nat) (g0 : Nat → Int32) : FilI w h pn src bs g0 0 0 g0 := by
  refine ⟨fun l' c h1 h2 h3 => ?_, fun k hk => rfl⟩
  omega
end FI
theorem Dis_c : Dis w hh (fun l => l * w) := by
  intro l l' h1 h2 h3
  rcases Nat.lt_or_gt_of_ne h3 with q | q
  · left
    have := Nat.mul_le_mul_right w (show l + 1 ≤ l' by omega)
    rw [Nat.succ_mul] at this
    exact this
  · right
    have := Nat.mul_le_mul_right w (show l' + 1 ≤ l by omega)
    rw [Nat.succ_mul] at this
    exact this
theorem Dis_m (hw : w ≤ 24) : Dis w hh (fun l => 576 * i + 24 * l) := by
  intro l l' h1 h2 h3
  show 576 * i + 24 * l + w ≤ 576 * i + 24 * l' ∨ 576 * i + 24 * l' + w ≤ 576 * i + 24 * l
  omega
theorem ln576 (hl : l < hh) (hh1 : hh ≤ 24) (hw : w ≤ 24) : l * w + w ≤ 576 := by
  have := Nat.mul_le_mul (show l + 1 ≤ 24 by omega) hw
  rw [Nat.succ_mul] at this
  omega
theorem fline (hi : i < 12) (hw : F (23 + 4 * i) 4 = nI w) (hr : r ≤ 12000) (h1 : F 1 1 = nI r) (hst : st + w ≤ r) (hl : l * w + w ≤ 576) : ∀ (d c fu : Nat), c + d = w → d < fu → t_Fr_fillLine (SS n) N (23 + 4 * i) 1 (nI st) (nI l) fu (nI c) (upR F (24 + 4 * i) (rowAdd g (l * w) c (fun c => F 2 (st + c)))) = some (upR F (24 + 4 * i) (rowAdd g (l * w) w (fun c => F 2 (st + c)))) := by
  intro d
  induction d with
  | zero =>
    intro c fu hc hf
    obtain ⟨fu, rfl⟩ : ∃ z, fu = z + 1 := ⟨fu - 1, by omega⟩
    have : c = w := by omega
    subst this
    rw [t_Fr_fillLine]
    simp only [fr_get hi (show 2 ≤ 4 by decide) (show 4 ≤ 8 by decide), upR_ne F (24 + 4 * i) _ (show 23 + 4 * i ≠ 24 + 4 * i by omega), hw, Option.bind_some, if_pos ((nI_le_iff (show c < 2147483648 by omega) (show c < 2147483648 by omega)).mpr (Nat.le_refl c))]
  | succ d ih =>
    intro c fu hc hf
    obtain ⟨fu, rfl⟩ : ∃ z, fu = z + 1 := ⟨fu - 1, by omega⟩
    have c1 : ¬ nI w ≤ nI c := by rw [nI_le_iff (by omega) (by omega)]; omega
    have c2 : ¬ nI 576 ≤ nI (l * w + c) := by rw [nI_le_iff (by decide) (by omega)]; omega
    have gk : f_Nu_get (SS n) 1 (nI (st + c)) (upR F (24 + 4 * i) (rowAdd g (l * w) c (fun c => F 2 (st + c)))) = some (F 2 (st + c)) := by
      rw [Nu_get_of (Nu1 n) (z := r) (by rw [upR_ne F _ _ (show 1 ≠ 24 + 4 * i by omega)]; exact h1) hr (by omega)]
      show some (upR F (24 + 4 * i) _ 2 (st + c)) = _
      rw [upR_ne F _ _ (show 2 ≠ 24 + 4 * i by omega)]
    rw [t_Fr_fillLine]
    simp only [fr_get hi (show 2 ≤ 4 by decide) (show 4 ≤ 8 by decide), upR_ne F (24 + 4 * i) _ (show 23 + 4 * i ≠ 24 + 4 * i by omega), hw, Option.bind_some, if_neg c1, nI_mul, nI_ad, if_neg (nn0 (show l * w + c < 2147483648 by omega)), fr_R0 hi, aN_of (fr_s i hi), if_neg c2, xcl_1, gk, aP_nI (fr_s i hi) (show l * w + c < 576 by omega) (show 576 ≤ 100000 by decide), nI_1]
    rw [upR_succ (by rfl)]
    exact ih (c + 1) fu (by omega) (by omega)
theorem fline_of (hi : i < 12) (hw : F (23 + 4 * i) 4 = nI w) (hr : r ≤ 12000) (h1 : F 1 1 = nI r) (hst : st + w ≤ r) (hl : l * w + w ≤ 576) (hN : 600 < N) : f_Fr_fillLine (SS n) N (23 + 4 * i) 1 (nI st) (nI l) (upR F (24 + 4 * i) g) = some (upR F (24 + 4 * i) (rowAdd g (l * w) w (fun c => F 2 (st + c)))) := by
  unfold f_Fr_fillLine
  have e := fline (n := n) (N := N) (g := g) hi hw hr h1 hst hl w 0 N (by omega) (by omega)
  rw [rowAdd_zero] at e
  exact e
theorem fl_y (hi : i < 12) (hw : F (23 + 4 * i) 4 = nI w) (hh5 : F (23 + 4 * i) 5 = nI hh) (hh24 : hh ≤ 24) (hw24 : w ≤ 24) (hr : r ≤ 12000) (h1 : F 1 1 = nI r) (hst : st + w ≤ r) (hl : l < hh) (hN : 600 < N) (hm : PN il l = p) (fu : Nat) : t_Fr_fill (SS n) N (23 + 4 * i) 1 il (fu + 1) 1 (nI st) (nI p) (nI l) (upR F (24 + 4 * i) g) = t_Fr_fill (SS n) N (23 + 4 * i) 1 il fu 1 (nI (st + w)) (nI p) (nI (l + 1)) (upR F (24 + 4 * i) (rowAdd g (l * w) w (fun c => F 2 (st + c)))) := by
  have c1 : ¬ nI hh ≤ nI l := by rw [nI_le_iff (by omega) (by omega)]; omega
  rw [t_Fr_fill, if_neg (by decide)]
  simp only [fr_get hi (show 2 ≤ 5 by decide) (show 5 ≤ 8 by decide), fr_get hi (show 2 ≤ 4 by decide) (show 4 ≤ 8 by decide), upR_ne F (24 + 4 * i) _ (show 23 + 4 * i ≠ 24 + 4 * i by omega), hh5, hw, Option.bind_some, if_neg c1, fr_xcl hi, fline_of hi hw hr h1 hst (ln576 hl hh24 hw24) hN, nI_ad, nI_1, pn_of (show l < 24 by omega)]
  by_cases c2 : il = 0
  · have : p = 0 := by rw [← hm]; unfold PN; rw [if_pos c2]
    subst this
    rw [if_pos c2, if_pos (show (0 : Int32) = nI 0 from rfl)]
  · have : pnn l = p := by rw [← hm]; unfold PN; rw [if_neg c2]
    rw [if_neg c2, this, if_pos rfl]
theorem fl_n (hi : i < 12) (hh5 : F (23 + 4 * i) 5 = nI hh) (hh24 : hh ≤ 24) (hl : l < hh) (hm : PN il l ≠ p) (hp : p < 4) (fu : Nat) {u3 : Int32} : t_Fr_fill (SS n) N (23 + 4 * i) 1 il (fu + 1) 1 u3 (nI p) (nI l) (upR F (24 + 4 * i) g) = t_Fr_fill (SS n) N (23 + 4 * i) 1 il fu 1 u3 (nI p) (nI (l + 1)) (upR F (24 + 4 * i) g) := by
  have c1 : ¬ nI hh ≤ nI l := by rw [nI_le_iff (by omega) (by omega)]; omega
  rw [t_Fr_fill, if_neg (by decide)]
  simp only [fr_get hi (show 2 ≤ 5 by decide) (show 5 ≤ 8 by decide), upR_ne F (24 + 4 * i) _ (show 23 + 4 * i ≠ 24 + 4 * i by omega), hh5, Option.bind_some, if_neg c1, nI_1, pn_of (show l < 24 by omega)]
  have h4 := PN_lt il l
  by_cases c2 : il = 0
  · have h5 : PN il l = 0 := by unfold PN; rw [if_pos c2]
    have : ¬ (0 : Int32) = nI p := by rw [show (0 : Int32) = nI 0 from rfl, nI_eq_iff (by decide) (by omega)]; omega
    rw [if_pos c2, if_neg this]
  · have h5 : PN il l = pnn l := by unfold PN; rw [if_neg c2]
    have : ¬ nI (pnn l) = nI p := by rw [nI_eq_iff (by omega) (by omega)]; omega
    rw [if_neg c2, if_neg this]
theorem fl_pass (hi : i < 12) (hw : F (23 + 4 * i) 4 = nI w) (hh5 : F (23 + 4 * i) 5 = nI hh) (hh24 : hh ≤ 24) (hw24 : w ≤ 24) (hr : r ≤ 12000) (h1 : F 1 1 = nI r) (hwh : w * hh ≤ r) (hp : p < 4) (hN : 600 < N) (g0 : Nat → Int32) : ∀ (d l : Nat) (g : Nat → Int32), l + d = hh → FilI w hh (PN il) (F 2) (fun l => l * w) g0 p l g → ∃ g', FilI w hh (PN il) (F 2) (fun l => l * w) g0 p hh g' ∧ ∀ fu, t_Fr_fill (SS n) N (23 + 4 * i) 1 il (fu + d) 1 (nI (stp w hh (PN il) p l)) (nI p) (nI l) (upR F (24 + 4 * i) g) = t_Fr_fill (SS n) N (23 + 4 * i) 1 il fu 1 (nI (stp w hh (PN il) p hh)) (nI p) (nI hh) (upR F (24 + 4 * i) g') := by
  intro d
  induction d with
  | zero =>
    intro l g hl hI
    have : l = hh := by omega
    subst this
    exact ⟨g, hI, fun fu => rfl⟩
  | succ d ih =>
    intro l g hl hI
    by_cases hm : PN il l = p
    · have h3 := stp_room (w := w) (pn := PN il) hm (show l < hh by omega)
      obtain ⟨g', k1, k2⟩ := ih (l + 1) _ (by omega) (hI.y Dis_c hm (by omega))
      refine ⟨g', k1, fun fu => ?_⟩
      rw [← Nat.add_assoc, fl_y hi hw hh5 hh24 hw24 hr h1 (by omega) (by omega) hN hm, ← stp_y (h := hh) hm]
      exact k2 fu
    · obtain ⟨g', k1, k2⟩ := ih (l + 1) _ (by omega) (hI.no hm)
      refine ⟨g', k1, fun fu => ?_⟩
      rw [← Nat.add_assoc, fl_n hi hh5 hh24 (by omega) hm hp, ← stp_n (h := hh) (w := w) hm]
      exact k2 fu
theorem fl_all (hi : i < 12) (hw : F (23 + 4 * i) 4 = nI w) (hh5 : F (23 + 4 * i) 5 = nI hh) (hh24 : hh ≤ 24) (hw24 : w ≤ 24) (hr : r ≤ 12000) (h1 : F 1 1 = nI r) (hwh : w * hh ≤ r) (hN : 600 < N) (g0 : Nat → Int32) : ∀ (d p : Nat) (g : Nat → Int32), p + d = 4 → FilI w hh (PN il) (F 2) (fun l => l * w) g0 p 0 g → ∃ k g', k ≤ d * 30 ∧ FilI w hh (PN il) (F 2) (fun l => l * w) g0 4 0 g' ∧ ∀ fu, t_Fr_fill (SS n) N (23 + 4 * i) 1 il (fu + k) 0 (nI (stp w hh (PN il) p 0)) (nI p) 0 (upR F (24 + 4 * i) g) = t_Fr_fill (SS n) N (23 + 4 * i) 1 il fu 0 (nI (stp w hh (PN il) 4 0)) (nI 4) 0 (upR F (24 + 4 * i) g') := by
  intro d
  induction d with
  | zero =>
    intro p g hp hI
    have : p = 4 := by omega
    subst this
    exact ⟨0, g, Nat.le_refl _, hI, fun fu => rfl⟩
  | succ d ih =>
    intro p g hp hI
    obtain ⟨g1, k1, k2⟩ := fl_pass (n := n) (N := N) hi hw hh5 hh24 hw24 hr h1 hwh (show p < 4 by omega) hN g0 hh 0 g (by omega) hI
    obtain ⟨k, g', m1, m2, m3⟩ := ih (p + 1) g1 (by omega) k1.next
    refine ⟨k + 1 + hh + 1, g', by omega, m2, fun fu => ?_⟩
    have c1 : ¬ (4 : Int32) ≤ nI p := by rw [show (4 : Int32) = nI 4 from rfl, nI_le_iff (by decide) (by omega)]; omega
    have c2 : nI hh ≤ nI hh := (nI_le_iff (by omega) (by omega)).mpr (Nat.le_refl hh)
    rw [show fu + (k + 1 + hh + 1) = fu + k + 1 + hh + 1 by omega, t_Fr_fill, if_pos rfl, if_neg c1]
    have k3 := k2 (fu + k + 1)
    rw [show nI 0 = (0 : Int32) from rfl] at k3
    rw [k3, t_Fr_fill, if_neg (by decide)]
    simp only [fr_get hi (show 2 ≤ 5 by decide) (show 5 ≤ 8 by decide), upR_ne F (24 + 4 * i) _ (show 23 + 4 * i ≠ 24 + 4 * i by omega), hh5, Option.bind_some, if_pos c2, nI_1]
    rw [← stp_next]
    exact m3 fu
theorem fill_frame (hi : i < 12) (hw : F (23 + 4 * i) 4 = nI w) (hh5 : F (23 + 4 * i) 5 = nI hh) (hh24 : hh ≤ 24) (hw24 : w ≤ 24) (hr : r ≤ 12000) (h1 : F 1 1 = nI r) (hwh : w * hh ≤ r) (hN : 600 < N) : ∃ g, f_Fr_fill (SS n) N (23 + 4 * i) 1 il F = some (upR F (24 + 4 * i) g) ∧ ∀ l c, l < hh → c < w → g (l * w + c) = F 2 (stp w hh (PN il) (PN il l) l + c) := by
  obtain ⟨k, g, k1, k2, k3⟩ := fl_all (n := n) (N := N) (il := il) hi hw hh5 hh24 hw24 hr h1 hwh hN (F (24 + 4 * i)) 4 0 (F (24 + 4 * i)) (by omega) (FilI.z _ _ _)
  refine ⟨g, ?_, fun l c h2 h3 => k2.1 l c h2 (Or.inl (PN_lt il l)) h3⟩
  have e := k3 (N - k)
  rw [show N - k + k = N by omega, upR_self, stp_00] at e
  obtain ⟨M, hM⟩ : ∃ z, N - k = z + 1 := ⟨N - k - 1, by omega⟩
  rw [hM, t_Fr_fill, if_pos rfl, if_pos (by decide)] at e
  exact e
theorem drop_of {m : Nat} (hr : r ≤ 12000) (hm : m ≤ r) (h1 : F 1 1 = nI r) : f_Nu_dropFirst (SS n) 1 (nI m) F = some (up2 (upR F 2 (va_cpy (F 2) (F 2) m 0 (r - m))) 1 1 (nI (r - m))) := by
  unfold f_Nu_dropFirst
  have c1 : ¬ nI r < nI m := by rw [nI_lt_iff (by omega) (by omega)]; omega
  have e : aC (SS n) 2 (nI m) 0 (nI (r - m)) F = some (upR F 2 (va_cpy (F 2) (F 2) m 0 (r - m))) := by
    unfold aC
    rw [sh_2]
    show (if 0 ≤ (nI m).toInt ∧ 0 ≤ (0 : Int32).toInt ∧ 0 ≤ (nI (r - m)).toInt ∧ (nI m).toInt + (nI (r - m)).toInt ≤ (12000 : Nat) ∧ (0 : Int32).toInt + (nI (r - m)).toInt ≤ (12000 : Nat) then _ else _) = _
    have h0 : (0 : Int32).toInt = 0 := by decide
    rw [nI_toInt (show m < 2 ^ 31 by omega), nI_toInt (show r - m < 2 ^ 31 by omega), h0, if_pos (by omega), nI_cl (by omega), nI_cl (by omega)]
    rfl
  simp only [if_neg (nn0 (show m < 2147483648 by omega)), (Nu1 n).gI, (Nu1 n).gR, (Nu1 n).pI, h1, Option.bind_some, if_neg c1, nI_sub hm, e, upR_ne F 2 _ (show 1 ≠ 2 by decide)]
end SD
