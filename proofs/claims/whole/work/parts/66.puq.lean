/-! decode: the reference's tags -/
section DT
variable {b n N z q w wd t c g len v : Nat} {bf : Option Nat} {M M1 M2 M3 M4 : xF} {u1 u2 u3 u4 u5 u6 : Int32}
theorem md0_end (fu : Nat) (h20 : M 71 20 = nI t) (h21 : M 71 21 = nI wd) (h10 : M 71 10 = nI w) (hw : w ≤ 24000) (ht : t ≤ 1000000) (hwd : wd ≤ 12) (h : 8 * w < t + wd) : t_Mo_decode (SS n) N 71 (fu + 1) 0 u1 u2 1 u4 u5 u6 M = t_Mo_decode (SS n) N 71 fu 8 u1 u2 1 0 0 0 M := by
  have c1 : (8 : Int32) * nI w < nI (t + wd) := by rw [show (8 : Int32) = nI 8 from rfl, nI_mul, nI_lt_iff (by omega) (by omega)]; exact h
  rw [t_Mo_decode, if_pos rfl, if_neg (by decide)]
  simp only [gI_71_20, h20, gI_71_21, h21, gI_71_10, h10, Option.bind_some, nI_ad, if_pos c1]
theorem md0_off (fu : Nat) : t_Mo_decode (SS n) N 71 (fu + 1) 0 u1 u2 0 u4 u5 u6 M = t_Mo_decode (SS n) N 71 fu 8 u1 u2 0 0 0 0 M := by
  rw [t_Mo_decode, if_pos rfl, if_pos rfl]
theorem md8 (fu : Nat) : t_Mo_decode (SS n) N 71 (fu + 1) 8 u1 u2 u3 u4 u5 u6 M = if u2 < 0 then some (M 71 12, up2 M 71 10 0) else some (-1 - u2, up2 M 71 10 0) := by
  rw [t_Mo_decode, if_neg (by decide), if_neg (by decide), if_neg (by decide), if_neg (by decide), if_neg (by decide), if_neg (by decide), if_neg (by decide), if_neg (by decide)]
  simp only [pI_71_10, Option.bind_some, gI_71_12, up2_ne M 71 10 0 (Or.inr (show 12 ≠ 10 by decide))]
theorem md7 (fu : Nat) : t_Mo_decode (SS n) N 71 (fu + 1) 7 u1 u2 u3 u4 u5 u6 M = t_Mo_decode (SS n) N 71 fu 0 u1 u2 u3 0 0 0 M := by
  rw [t_Mo_decode, if_neg (by decide), if_neg (by decide), if_neg (by decide), if_neg (by decide), if_neg (by decide), if_neg (by decide), if_neg (by decide), if_pos rfl]
theorem md1 (fu : Nat) : t_Mo_decode (SS n) N 71 (fu + 1) 1 u1 u2 u3 u4 u5 u6 M = t_Mo_decode (SS n) N 71 fu 2 u1 u2 u3 u4 0 0 M := by
  rw [t_Mo_decode, if_neg (by decide), if_pos rfl]
theorem md0_clear (fu : Nat) (h20 : M 71 20 = nI t) (h21 : M 71 21 = nI wd) (h10 : M 71 10 = nI w) (hw : w ≤ 24000) (hwd : wd ≤ 12) (h : t + wd ≤ 8 * w) (hn : f_Mo_nextCode (SS n) N 71 M = some (nI c, M1)) (h1 : M1 71 1 = nI c) (hb : f_Mo_begin (SS n) N 71 M1 = some M2) : t_Mo_decode (SS n) N 71 (fu + 1 + 1) 0 u1 u2 1 u4 u5 u6 M = t_Mo_decode (SS n) N 71 fu 0 (-1) u2 1 0 0 0 M2 := by
  have c1 : ¬ (8 : Int32) * nI w < nI (t + wd) := by rw [show (8 : Int32) = nI 8 from rfl, nI_mul, nI_lt_iff (by omega) (by omega)]; omega
  rw [t_Mo_decode, if_pos rfl, if_neg (by decide)]
  simp only [gI_71_20, h20, gI_71_21, h21, gI_71_10, h10, Option.bind_some, nI_ad, if_neg c1, xcl_71, hn, gI_71_1, h1, if_pos, hb]
  rw [md7]
theorem md0_stop (fu : Nat) (h20 : M 71 20 = nI t) (h21 : M 71 21 = nI wd) (h10 : M 71 10 = nI w) (hw : w ≤ 24000) (hwd : wd ≤ 12) (h : t + wd ≤ 8 * w) (hn : f_Mo_nextCode (SS n) N 71 M = some (nI c, M1)) (h1 : M1 71 1 = nI g) (hg : g ≠ c) (hg2 : g < 100000) (hc : c < 100000) (h2 : M1 71 2 = nI c) : t_Mo_decode (SS n) N 71 (fu + 1 + 1) 0 u1 u2 1 u4 u5 u6 M = t_Mo_decode (SS n) N 71 fu 0 u1 u2 0 0 0 0 M1 := by
  have c1 : ¬ (8 : Int32) * nI w < nI (t + wd) := by rw [show (8 : Int32) = nI 8 from rfl, nI_mul, nI_lt_iff (by omega) (by omega)]; omega
  have c2 : ¬ nI c = nI g := by rw [nI_eq_iff (by omega) (by omega)]; omega
  rw [t_Mo_decode, if_pos rfl, if_neg (by decide)]
  simp only [gI_71_20, h20, gI_71_21, h21, gI_71_10, h10, Option.bind_some, nI_ad, if_neg c1, xcl_71, hn, gI_71_1, h1, if_neg c2, gI_71_2, h2, if_pos]
  rw [md7]
theorem md0_a (fu : Nat) (h20 : M 71 20 = nI t) (h21 : M 71 21 = nI wd) (h10 : M 71 10 = nI w) (hw : w ≤ 24000) (hwd : wd ≤ 12) (h : t + wd ≤ 8 * w) (hn : f_Mo_nextCode (SS n) N 71 M = some (nI c, M1)) (hc : c < 100000) (h1 : M1 71 1 = nI (2 ^ b)) (h2 : M1 71 2 = nI (2 ^ b + 1)) (hp : 2 ^ b ≤ 256) (n1 : c ≠ 2 ^ b) (n2 : c ≠ 2 ^ b + 1) (h14 : M1 71 14 = nI (z + 1)) (hz : z ≤ 4095) (hf : c ≠ z + 1 ∨ bf = none) : t_Mo_decode (SS n) N 71 (fu + 1 + 1) 0 (oI bf) u2 1 u4 u5 u6 M = t_Mo_decode (SS n) N 71 fu 2 (oI bf) u2 1 (nI c) 0 0 M1 := by
  have c1 : ¬ (8 : Int32) * nI w < nI (t + wd) := by rw [show (8 : Int32) = nI 8 from rfl, nI_mul, nI_lt_iff (by omega) (by omega)]; omega
  have c2 : ¬ nI c = nI (2 ^ b) := by rw [nI_eq_iff (by omega) (by omega)]; exact n1
  have c3 : ¬ nI c = nI (2 ^ b + 1) := by rw [nI_eq_iff (by omega) (by omega)]; exact n2
  rw [t_Mo_decode, if_pos rfl, if_neg (by decide)]
  simp only [gI_71_20, h20, gI_71_21, h21, gI_71_10, h10, Option.bind_some, nI_ad, if_neg c1, xcl_71, hn, gI_71_1, h1, if_neg c2, gI_71_2, h2, if_neg c3, gI_71_14, h14]
  by_cases c4 : c = z + 1
  · have hb := hf.resolve_left (fun r => r c4)
    subst hb
    rw [if_pos (by rw [c4]), if_pos (show oI none < 0 by decide), md1]
  · rw [if_neg (by rw [nI_eq_iff (by omega) (by omega)]; exact c4), md1]
theorem md0_b (fu : Nat) (h20 : M 71 20 = nI t) (h21 : M 71 21 = nI wd) (h10 : M 71 10 = nI w) (hw : w ≤ 24000) (hwd : wd ≤ 12) (h : t + wd ≤ 8 * w) (hn : f_Mo_nextCode (SS n) N 71 M = some (nI c, M1)) (hc : c < 100000) (h1 : M1 71 1 = nI (2 ^ b)) (h2 : M1 71 2 = nI (2 ^ b + 1)) (hp : 2 ^ b ≤ 256) (n1 : c ≠ 2 ^ b) (n2 : c ≠ 2 ^ b + 1) (h14 : M1 71 14 = nI (z + 1)) (hf : c = z + 1) (hg : g < 100000) : t_Mo_decode (SS n) N 71 (fu + 1) 0 (nI g) u2 1 u4 u5 u6 M = t_Mo_decode (SS n) N 71 fu 2 (nI g) u2 1 (nI c) 1 0 M1 := by
  have c1 : ¬ (8 : Int32) * nI w < nI (t + wd) := by rw [show (8 : Int32) = nI 8 from rfl, nI_mul, nI_lt_iff (by omega) (by omega)]; omega
  have c2 : ¬ nI c = nI (2 ^ b) := by rw [nI_eq_iff (by omega) (by omega)]; exact n1
  have c3 : ¬ nI c = nI (2 ^ b + 1) := by rw [nI_eq_iff (by omega) (by omega)]; exact n2
  rw [t_Mo_decode, if_pos rfl, if_neg (by decide)]
  simp only [gI_71_20, h20, gI_71_21, h21, gI_71_10, h10, Option.bind_some, nI_ad, if_neg c1, xcl_71, hn, gI_71_1, h1, if_neg c2, gI_71_2, h2, if_neg c3, gI_71_14, h14]
  rw [if_pos (by rw [hf]), if_neg (nn0 (by omega))]
theorem md2_odd (fu : Nat) (h14 : M 71 14 = nI (z + 1)) (hz : z ≤ 4095) (hc : c < 100000) (h : z + 1 ≤ c) : t_Mo_decode (SS n) N 71 (fu + 1 + 1) 2 u1 u2 u3 (nI c) 0 u6 M = t_Mo_decode (SS n) N 71 fu 0 u1 (nI c) 0 0 0 0 M := by
  have c1 : ¬ nI c < nI (z + 1) := by rw [nI_lt_iff (by omega) (by omega)]; omega
  rw [t_Mo_decode, if_neg (by decide), if_neg (by decide), if_pos rfl]
  simp only [gI_71_14, h14, Option.bind_some, if_neg c1, if_pos]
  rw [md7]
theorem md2_a (fu : Nat) (h14 : M 71 14 = nI (z + 1)) (hz : z ≤ 4095) (h : c ≤ z) (h79 : M 79 c = nI len) : t_Mo_decode (SS n) N 71 (fu + 1 + 1) 2 u1 u2 u3 (nI c) 0 u6 M = t_Mo_decode (SS n) N 71 fu 4 u1 u2 u3 (nI c) 0 (nI len) M := by
  have c1 : nI c < nI (z + 1) := by rw [nI_lt_iff (by omega) (by omega)]; omega
  rw [t_Mo_decode, if_neg (by decide), if_neg (by decide), if_pos rfl]
  simp only [gI_71_14, h14, Option.bind_some, if_pos c1]
  rw [t_Mo_decode, if_neg (by decide), if_neg (by decide), if_neg (by decide), if_pos rfl, if_pos rfl]
  simp only [gR_71_17, Option.bind_some, aG_nI sh_79 (show c < 4096 by omega) (show 4096 ≤ 100000 by decide), h79]
theorem md2_b (fu : Nat) (h14 : M 71 14 = nI (z + 1)) (hz : z ≤ 4095) (h : c = z + 1) (hg : g < 4096) (h79 : M 79 g = nI v) : t_Mo_decode (SS n) N 71 (fu + 1 + 1) 2 (nI g) u2 u3 (nI c) 1 u6 M = t_Mo_decode (SS n) N 71 fu 4 (nI g) u2 u3 (nI c) 1 (nI (v + 1)) M := by
  have c1 : ¬ nI c < nI (z + 1) := by rw [nI_lt_iff (by omega) (by omega)]; omega
  rw [t_Mo_decode, if_neg (by decide), if_neg (by decide), if_pos rfl]
  simp only [gI_71_14, h14, Option.bind_some, if_neg c1, if_neg (show ¬ (1 : Int32) = 0 by decide)]
  rw [t_Mo_decode, if_neg (by decide), if_neg (by decide), if_neg (by decide), if_pos rfl, if_neg (by decide)]
  simp only [gR_71_17, Option.bind_some, aG_nI sh_79 hg (show 4096 ≤ 100000 by decide), h79, nI_1]
theorem md4_off (fu : Nat) (h12 : M 71 12 = nI q) (hq : q ≤ 12000) (hl : len ≤ 100000) (h : ¬ q + len ≤ 12000) : t_Mo_decode (SS n) N 71 (fu + 1 + 1 + 1) 4 u1 u2 u3 u4 u5 (nI len) M = t_Mo_decode (SS n) N 71 fu 0 u1 u2 0 0 0 0 M := by
  have c1 : (12000 : Int32) < nI (q + len) := by rw [show (12000 : Int32) = nI 12000 from rfl, nI_lt_iff (by decide) (by omega)]; omega
  rw [t_Mo_decode, if_neg (by decide), if_neg (by decide), if_neg (by decide), if_neg (by decide), if_pos rfl]
  simp only [gI_71_12, h12, Option.bind_some, nI_ad, if_pos c1]
  rw [t_Mo_decode, if_neg (by decide), if_neg (by decide), if_neg (by decide), if_neg (by decide), if_neg (by decide), if_pos rfl, if_pos rfl, md7]
theorem md4_on (fu : Nat) (h12 : M 71 12 = nI q) (h : q + len ≤ 12000) : t_Mo_decode (SS n) N 71 (fu + 1) 4 u1 u2 u3 u4 u5 (nI len) M = t_Mo_decode (SS n) N 71 fu 5 u1 u2 1 u4 u5 (nI len) M := by
  have c1 : ¬ (12000 : Int32) < nI (q + len) := by rw [show (12000 : Int32) = nI 12000 from rfl, nI_lt_iff (by decide) (by omega)]; omega
  rw [t_Mo_decode, if_neg (by decide), if_neg (by decide), if_neg (by decide), if_neg (by decide), if_pos rfl]
  simp only [gI_71_12, h12, Option.bind_some, nI_ad, if_neg c1]
theorem md5_n (fu : Nat) : t_Mo_decode (SS n) N 71 (fu + 1) 5 (-1) u2 1 u4 u5 u6 M = t_Mo_decode (SS n) N 71 fu 6 (-1) u2 1 u4 u5 u6 M := by
  rw [t_Mo_decode, if_neg (by decide), if_neg (by decide), if_neg (by decide), if_neg (by decide), if_neg (by decide), if_pos rfl, if_neg (by decide), if_pos (by decide)]
theorem md5_0 (fu : Nat) (hg : g < 100000) {x : Int32} (hf : f_Mo_firstOf (SS n) N 71 u4 M = some x) (he : f_Mo_enter (SS n) 71 (nI g) x M = some M2) : t_Mo_decode (SS n) N 71 (fu + 1) 5 (nI g) u2 1 u4 0 u6 M = t_Mo_decode (SS n) N 71 fu 6 (nI g) u2 1 u4 0 u6 M2 := by
  rw [t_Mo_decode, if_neg (by decide), if_neg (by decide), if_neg (by decide), if_neg (by decide), if_neg (by decide), if_pos rfl, if_neg (by decide), if_neg (nn0 (by omega)), if_pos rfl]
  simp only [xcl_71, hf, Option.bind_some, he]
theorem md5_1 (fu : Nat) (hg : g < 100000) {x : Int32} (hf : f_Mo_firstOf (SS n) N 71 (nI g) M = some x) (he : f_Mo_enter (SS n) 71 (nI g) x M = some M2) : t_Mo_decode (SS n) N 71 (fu + 1) 5 (nI g) u2 1 u4 1 u6 M = t_Mo_decode (SS n) N 71 fu 6 (nI g) u2 1 u4 1 u6 M2 := by
  rw [t_Mo_decode, if_neg (by decide), if_neg (by decide), if_neg (by decide), if_neg (by decide), if_neg (by decide), if_pos rfl, if_neg (by decide), if_neg (nn0 (by omega)), if_neg (by decide)]
  simp only [xcl_71, hf, Option.bind_some, he]
theorem md6 (fu : Nat) (hs : f_Mo_spell (SS n) N 71 u4 M = some M1) (hw : f_Mo_widen (SS n) 71 M1 = some M2) : t_Mo_decode (SS n) N 71 (fu + 1 + 1) 6 u1 u2 u3 u4 u5 u6 M = t_Mo_decode (SS n) N 71 fu 0 u4 u2 u3 0 0 0 M2 := by
  rw [t_Mo_decode, if_neg (by decide), if_neg (by decide), if_neg (by decide), if_neg (by decide), if_neg (by decide), if_neg (by decide), if_pos rfl]
  simp only [xcl_71, hs, Option.bind_some, hw]
  rw [md7]
end DT
