/-! a step of the law, and all of them -/
section ST
variable {b n N L : Nat} {F : xF} {G : xL} {c : Int32} {v : Int32 → Int32} {xs : Nat → Int32}
theorem s_step (h : RI b F) (hn : n = 2 ^ b) (hN : 600000 < N) : ∃ F2 G2, q_step (SS n) N 0 71 95 c v F G = some (1, F2, G2) ∧ RI b F2 := by
  unfold q_step
  by_cases c0 : c = 0
  · rw [if_pos c0]; exact s_put h (by omega)
  rw [if_neg c0]
  by_cases c1 : c = 1
  · rw [if_pos c1]; exact s_rule h
  rw [if_neg c1]
  by_cases c2 : c = 2
  · rw [if_pos c2]; exact s_encode h (by omega)
  rw [if_neg c2]
  by_cases c3 : c = 3
  · rw [if_pos c3]; exact s_byteAt h
  rw [if_neg c3]
  by_cases c4 : c = 4
  · rw [if_pos c4]; exact s_coded h
  rw [if_neg c4]
  by_cases c5 : c = 5
  · rw [if_pos c5]; exact s_feed h
  rw [if_neg c5]
  by_cases c6 : c = 6
  · rw [if_pos c6]; exact s_pass h (by omega)
  rw [if_neg c6]
  by_cases c7 : c = 7
  · rw [if_pos c7]; exact s_decode h (by omega)
  rw [if_neg c7]
  by_cases c8 : c = 8
  · rw [if_pos c8]; exact s_at h
  rw [if_neg c8]
  by_cases c9 : c = 9
  · rw [if_pos c9]; exact s_take h (by omega)
  rw [if_neg c9]
  by_cases c10 : c = 10
  · rw [if_pos c10]; exact s_frame h hn (by omega)
  rw [if_neg c10]
  by_cases c11 : c = 11
  · rw [if_pos c11]; exact s_colour h hn (by omega)
  rw [if_neg c11]
  by_cases c12 : c = 12
  · rw [if_pos c12]; exact s_through h
  rw [if_neg c12]
  by_cases c13 : c = 13
  · rw [if_pos c13]; exact s_shown h hn (by omega)
  rw [if_neg c13]
  by_cases c14 : c = 14
  · rw [if_pos c14]; exact s_symbol h
  rw [if_neg c14]
  by_cases c15 : c = 15
  · rw [if_pos c15]; exact s_when h (by omega)
  rw [if_neg c15]
  by_cases c16 : c = 16
  · rw [if_pos c16]; exact s_passOf h
  rw [if_neg c16]
  by_cases c17 : c = 17
  · rw [if_pos c17]; exact s_told h
  rw [if_neg c17]
  by_cases c18 : c = 18
  · rw [if_pos c18]; exact s_clear h hn (by omega)
  rw [if_neg c18]
  exact ⟨F, G, rfl, h⟩
theorem law_loop (hn : n = 2 ^ b) (hN : 600000 < N) (hL : L ≤ 4097) : ∀ (fu m : Nat) (F : xF) (G : xL), RI b F → 1 ≤ fu → L < m + 8 * fu → m ≤ 100000 → t_law (SS n) N 0 71 95 L xs fu (nI m) F G = some 1 := by
  intro fu
  induction fu with
  | zero => intro m F G h h1; omega
  | succ fu ih =>
    intro m F G h h1 h2 h3
    rw [t_law]
    have e : (nI L - 8).toInt = (L : Int) - 8 := pk_sub_toInt (a := L) (b := 8) (by omega) (by decide)
    by_cases cc : nI L - 8 < nI m
    · rw [if_pos cc]
    · rw [if_neg cc]
      rw [Int32.lt_iff_toInt_lt, e, nI_toInt (show m < 2 ^ 31 by omega)] at cc
      obtain ⟨F2, G2, k1, k2⟩ := s_step (c := xs (nI m).toNatClampNeg &&& 31) (v := fun k => xs (nI m + k).toNatClampNeg) (G := G) h hn hN
      rw [k1, Option.bind_some, if_pos rfl, show (8 : Int32) = nI 8 from rfl, nI_ad]
      exact ih (m + 8) F2 G2 k2 (by omega) (by omega) (by omega)
end ST
