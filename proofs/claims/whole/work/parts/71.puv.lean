/-! the start: the shapes -/
section IN
variable {b n N k a q m : Nat} {F : xF} {S : List xO} {p0 : Int32}
theorem ge_lt {x : xO} (h : S[a]? = some x) : a < S.length := (List.getElem?_eq_some_iff.mp h).1
theorem ge_app {x y : xO} (h : S[a]? = some x) : (S ++ [y])[a]? = some x := by rw [List.getElem?_append_left (ge_lt h)]; exact h
theorem ge_last {y : xO} : (S ++ [y])[S.length]? = some y := by simp
theorem ge_same {x y : xO} (h : S[a]? = some y) : (S.set a x)[a]? = some x := by rw [List.getElem?_set_self (ge_lt h)]
theorem ge_diff {x : xO} {c : Nat} (h : a ≠ c) : (S.set a x)[c]? = S[c]? := List.getElem?_set_ne h
theorem nO_of {ci : Nat} {fs : List (Option Value)} (h : S.length + 1 ≤ xKK) : nO S ci fs F = some (S ++ [Sum.inr (.inr (ci, fs))], upR F S.length (fun _ => 0), S.length) := by unfold nO; rw [if_pos h]
theorem nA_of {t lim : Nat} (h : S.length + 1 ≤ xKK) (hn : n ≤ lim) (h2 : n < 2147483648) : nA S t lim (nI n) F = some (S ++ [Sum.inl (t, n)], upR F S.length (fun _ => 0), S.length) := by
  unfold nA
  rw [nI_toInt h2, if_pos ⟨h, by omega, by omega⟩, nI_cl h2]
theorem pR_of {ci : Nat} {fs : List (Option Value)} (h : S[a]? = some (.inr (.inr (ci, fs)))) (hk : k < fs.length) : pR S ci a k q = some (S.set a (.inr (.inr (ci, fs.set k (some (.ref q)))))) := by
  unfold pR
  rw [h]
  show (if ci = ci ∧ k < fs.length then _ else _) = _
  rw [if_pos ⟨rfl, hk⟩]
theorem upR_upR {f g : Nat → Int32} : upR (upR F a f) a g = upR F a g := by
  funext i
  by_cases h : i = a
  · subst h; rw [upR_eq, upR_eq]
  · rw [upR_ne _ _ _ h, upR_ne _ _ _ h, upR_ne _ _ _ h]
theorem Pa_init_of (ha : S[a]? = some (.inr (.inr (5, [some .null])))) (hk : S.length + 1 ≤ xKK) (hn : n ≤ 256) (hN : 300 < N) : f_Pa_init S N a (nI n) F = some ((S ++ [Sum.inl (0, n)]).set a (.inr (.inr (5, [some (.ref S.length)]))), upR F S.length (rowAdd (fun _ => 0) 0 n (fun _ => -1))) := by
  have h1 : (S ++ [Sum.inl (0, n)])[a]? = some (.inr (.inr (5, [some .null]))) := ge_app ha
  have e1 := nA_of (F := F) (t := 0) hk hn (show n < 2147483648 by omega)
  have e2 : pR (S ++ [Sum.inl (0, n)]) 5 a 0 S.length = some ((S ++ [Sum.inl (0, n)]).set a (.inr (.inr (5, [some (.ref S.length)])))) := pR_of h1 (by decide)
  have h2 : ((S ++ [Sum.inl (0, n)]).set a (.inr (.inr (5, [some (.ref S.length)]))))[a]? = some (.inr (.inr (5, [some (.ref S.length)]))) := ge_same h1
  have e3 : gR ((S ++ [Sum.inl (0, n)]).set a (.inr (.inr (5, [some (.ref S.length)])))) 5 a 0 = some S.length := by unfold gR; rw [h2]; rfl
  have h3 : ((S ++ [Sum.inl (0, n)]).set a (.inr (.inr (5, [some (.ref S.length)]))))[S.length]? = some (.inl (0, n)) := by
    rw [ge_diff (show a ≠ S.length by have := ge_lt ha; omega), ge_last]
  have e4 := fill_of (F := upR F S.length (fun _ => 0)) (N := N) (v := -1) h3 (show n ≤ 100000 by omega) (show n < N by omega)
  rw [upR_eq, upR_upR] at e4
  unfold f_Pa_init
  simp only [e1, Option.bind_some, e2, e3, e4]
def frO (x y : Value) : xO := .inr (.inr (6, [some x, some y, none, none, none, none, none, none, none]))
def frA (S : List xO) (a : Nat) : List xO := (S ++ [Sum.inl (0, 576)]).set a (frO (.ref S.length) .null)
def frB (S : List xO) (a : Nat) : List xO := frA S a ++ [Sum.inr (.inr (5, [some .null]))]
def frS (S : List xO) (a n : Nat) : List xO := ((frB S a ++ [Sum.inl (0, n)]).set (frA S a).length (.inr (.inr (5, [some (.ref (frB S a).length)])))).set a (frO (.ref S.length) (.ref (frA S a).length))
theorem frA_len : (frA S a).length = S.length + 1 := by unfold frA; simp
theorem frB_len : (frB S a).length = S.length + 2 := by unfold frB; simp [frA_len]
theorem frS_len : (frS S a n).length = S.length + 3 := by unfold frS; simp [frB_len]
theorem frA_a (ha : a < S.length) : (frA S a)[a]? = some (frO (.ref S.length) .null) := by
  unfold frA
  rw [List.getElem?_set_self (by simp; omega)]
theorem frS_o {c : Nat} {x : xO} (ha : a < S.length) (hx : S[c]? = some x) (hca : c ≠ a) : (frS S a n)[c]? = some x := by
  have hc := ge_lt hx
  have h1 : (frA S a)[c]? = some x := by
    unfold frA
    rw [ge_diff (Ne.symm hca)]
    exact ge_app hx
  unfold frS
  rw [ge_diff (Ne.symm hca), ge_diff (show (frA S a).length ≠ c by rw [frA_len]; omega)]
  exact ge_app (ge_app h1)
theorem Fr_init_of (ha : S[a]? = some (frO .null .null)) (hk : S.length + 3 ≤ xKK) (hn : n ≤ 256) (hN : 600 < N) : ∃ F', f_Fr_init S N a (nI n) F = some (frS S a n, F') ∧ (frS S a n)[a]? = some (frO (.ref S.length) (.ref (frA S a).length)) ∧ ∀ c, c < S.length → c ≠ a → F' c = F c := by
  have hal := ge_lt ha
  have h1 : (S ++ [Sum.inl (0, 576)])[a]? = some (frO .null .null) := ge_app ha
  have e1 : nA S 0 576 576 F = some (S ++ [Sum.inl (0, 576)], upR F S.length (fun _ => 0), S.length) := nA_of (n := 576) (by omega) (Nat.le_refl _) (by decide)
  have e2 : pR (S ++ [Sum.inl (0, 576)]) 6 a 0 S.length = some (frA S a) := pR_of h1 (by decide)
  have e3 : nO (frA S a) 5 [some .null] (upR F S.length (fun _ => 0)) = some (frB S a, upR (upR F S.length (fun _ => 0)) (frA S a).length (fun _ => 0), (frA S a).length) := nO_of (by rw [frA_len]; omega)
  have h3 : (frB S a)[(frA S a).length]? = some (.inr (.inr (5, [some .null]))) := ge_last
  have e4 := Pa_init_of (F := upR (upR F S.length (fun _ => 0)) (frA S a).length (fun _ => 0)) (N := N) h3 (by rw [frB_len]; omega) hn (by omega)
  have h4 : ((frB S a ++ [Sum.inl (0, n)]).set (frA S a).length (.inr (.inr (5, [some (.ref (frB S a).length)]))))[a]? = some (frO (.ref S.length) .null) := by
    rw [ge_diff (show (frA S a).length ≠ a by rw [frA_len]; omega)]
    exact ge_app (ge_app (frA_a hal))
  have e5 : pR ((frB S a ++ [Sum.inl (0, n)]).set (frA S a).length (.inr (.inr (5, [some (.ref (frB S a).length)])))) 6 a 1 (frA S a).length = some (frS S a n) := pR_of h4 (show 1 < 9 by decide)
  have h5 : (frS S a n)[a]? = some (frO (.ref S.length) (.ref (frA S a).length)) := ge_same h4
  have e6 : ∀ K : xF, pI (frS S a n) 6 a 8 (-1) K = some (up2 K a 8 (-1)) := fun K => pI_of h5 rfl
  refine ⟨up2 (upR (upR (upR F S.length (fun _ => 0)) (frA S a).length (fun _ => 0)) (frB S a).length (rowAdd (fun _ => 0) 0 n (fun _ => -1))) a 8 (-1), ?_, h5, fun c hc hca => ?_⟩
  · unfold f_Fr_init
    simp only [e1, Option.bind_some, e2, e3, e4, e5, e6]
  · rw [up2_row _ _ _ _ hca, upR_ne _ _ _ (by rw [frB_len]; omega), upR_ne _ _ _ (by rw [frA_len]; omega), upR_ne _ _ _ (by omega)]
def onS (S : List xO) (m n : Nat) (rs : List (Option Nat)) : List xO := (frS (S ++ [frO .null .null]) S.length n).set 20 (.inr (.inl (2, rs.set m (some S.length))))
/-- the screen with m frames made -/
def GG (S : List xO) (m : Nat) (rs : List (Option Nat)) : Prop := S.length = 23 + 4 * m ∧ S[19]? = some (.inr (.inr (7, [some (.ref 20), some (.ref 21), none]))) ∧ S[20]? = some (.inr (.inl (2, rs))) ∧ rs.length = 12
theorem one_of {rs : List (Option Nat)} (h : GG S m rs) (hm : m < 12) (hn : n ≤ 256) (hN : 600 < N) : ∃ F', f_Sc_one S N 19 (nI n) (nI m) F = some (onS S m n rs, F') ∧ GG (onS S m n rs) (m + 1) (rs.set m (some S.length)) ∧ ∀ c, c < 23 → F' c = F c := by
  obtain ⟨h1, h2, h3, h4⟩ := h
  have hK : xKK = 96 := rfl
  have e1 : gR S 7 19 0 = some 20 := by unfold gR; rw [h2]; rfl
  have e2 : nO S 6 [some .null, some .null, none, none, none, none, none, none, none] F = some (S ++ [frO .null .null], upR F S.length (fun _ => 0), S.length) := nO_of (by omega)
  have hl : (S ++ [frO .null .null]).length = S.length + 1 := by simp
  obtain ⟨F', k1, k2, k3⟩ := Fr_init_of (S := S ++ [frO .null .null]) (a := S.length) (n := n) (N := N) (F := upR F S.length (fun _ => 0)) ge_last (by rw [hl]; omega) hn hN
  have g20 : (frS (S ++ [frO .null .null]) S.length n)[20]? = some (.inr (.inl (2, rs))) := frS_o (by rw [hl]; omega) (ge_app h3) (by omega)
  have g19 : (frS (S ++ [frO .null .null]) S.length n)[19]? = some (.inr (.inr (7, [some (.ref 20), some (.ref 21), none]))) := frS_o (by rw [hl]; omega) (ge_app h2) (by omega)
  have e4 : rP (frS (S ++ [frO .null .null]) S.length n) 20 (nI m) 6 S.length = some (onS S m n rs) := by
    unfold rP
    rw [g20]
    show (if 2 = 2 ∧ 0 ≤ (nI m).toInt ∧ (nI m).toInt < rs.length then _ else _) = _
    rw [nI_toInt (show m < 2 ^ 31 by omega), if_pos ⟨rfl, by omega, by omega⟩, nI_cl (by omega)]
    exact xcl_of k2
  refine ⟨F', ?_, ⟨?_, ?_, ?_, ?_⟩, fun c hc => ?_⟩
  · unfold f_Sc_one
    simp only [e1, Option.bind_some, e2, k1, e4]
  · unfold onS
    rw [List.length_set, frS_len, hl, h1]
    omega
  · unfold onS
    rw [ge_diff (by decide)]
    exact g19
  · exact ge_same g20
  · rw [List.length_set]; exact h4
  · rw [k3 c (by rw [hl]; omega) (by omega), upR_ne _ _ _ (by omega)]
end IN
