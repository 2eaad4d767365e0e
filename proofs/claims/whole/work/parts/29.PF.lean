def f_PF_encode (S : List xO) (N : Nat) (a : Nat) (F : xF) : Option (Int32 × xF) :=
  (gR S 8 a 3).bind fun q1 =>
  (gR S 8 a 1).bind fun q3 =>
  (gI S 8 a 6 F).bind fun v5 =>
  (xcl S 3 q1 (f_Co_codeRow S N q1 q3 v5 F)).bind fun F7 =>
  (gR S 3 q1 4).bind fun q9 =>
  (gI S 0 q9 1 F7).bind fun v11 =>
  some (v11, F7)
set_option maxHeartbeats 4000000 in
set_option maxRecDepth 100000 in
theorem c_PF_encode {l : Launch} {g : xG} {S : List xO} {G : xL} {a : Nat} {N : Nat} {F : xF} {r : Int32} {F2 : xF} (h : f_PF_encode S N a F = some (r, F2)) : CT l g 4 92 0 0 y_PF_encode b_PF_encode 1 (some .int) 1 [.ref a] S F G (some (.int r)) S F2 G := by
  refine CT.of [some (.ref a)] (by decide) (Nat.le_of_ble_eq_true rfl) rfl ?_
  intro p e s m args below meth c C hr hmn hz
  unfold f_PF_encode at h
  refine V.aload_n C 0 rfl rfl d_PF_encode_0 ?_
  obtain ⟨q1, e2, h⟩ := Option.bind_eq_some_iff.mp h
  refine V.xgetR C fl_PF_37 e2 d_PF_encode_1 ?_
  refine V.aload_n C 0 rfl rfl d_PF_encode_4 ?_
  obtain ⟨q3, e4, h⟩ := Option.bind_eq_some_iff.mp h
  refine V.xgetR C fl_PF_27 e4 d_PF_encode_5 ?_
  refine V.aload_n C 0 rfl rfl d_PF_encode_8 ?_
  obtain ⟨v5, e6, h⟩ := Option.bind_eq_some_iff.mp h
  refine V.xgetI C fl_PF_55 e6 d_PF_encode_9 ?_
  obtain ⟨F7, e8, h⟩ := Option.bind_eq_some_iff.mp h
  obtain ⟨⟨fs_e8, s_e8⟩, e8⟩ := xcl_spec e8
  refine V.cVv C (c_Co_codeRow e8) ml_PF_82 s_e8 rfl rfl (by decide) (Nat.le_of_ble_eq_true rfl) d_PF_encode_12 ?_
  refine V.aload_n C 0 rfl rfl d_PF_encode_15 ?_
  refine V.xgetR C fl_PF_37 e2 d_PF_encode_16 ?_
  obtain ⟨q9, e10, h⟩ := Option.bind_eq_some_iff.mp h
  refine V.xgetR C fl_PF_86 e10 d_PF_encode_19 ?_
  obtain ⟨v11, e12, h⟩ := Option.bind_eq_some_iff.mp h
  refine V.xgetI C fl_PF_77 e12 d_PF_encode_22 ?_
  obtain ⟨rfl, rfl⟩ := Prod.mk.inj (Option.some.inj h)
  exact V.iret C hr d_PF_encode_25 rfl rfl rfl rfl
def f_PF_coded (S : List xO) (a : Nat) (p0 : Int32) (F : xF) : Option Int32 :=
  if p0 = (0 : Int32) then
    (gR S 8 a 3).bind fun q2 =>
    (gI S 3 q2 5 F).bind fun v4 =>
    some v4
  else
  if p0 = (1 : Int32) then
    (gR S 8 a 3).bind fun q7 =>
    (gI S 3 q7 6 F).bind fun v9 =>
    some v9
  else
  if p0 = (2 : Int32) then
    (gR S 8 a 3).bind fun q12 =>
    (gI S 3 q12 7 F).bind fun v14 =>
    some v14
  else
  if p0 = (3 : Int32) then
    (gR S 8 a 3).bind fun q17 =>
    (gR S 3 q17 3).bind fun q19 =>
    (xcl S 2 q19 (f_St_count S q19 F)).bind fun v21 =>
    some v21
  else
  some (-1 : Int32)
set_option maxHeartbeats 4000000 in
set_option maxRecDepth 100000 in
theorem c_PF_coded {l : Launch} {g : xG} {S : List xO} {G : xL} {a : Nat} {p0 : Int32} {F : xF} {r : Int32} (h : f_PF_coded S a p0 F = some r) : CT l g 1 20 0 0 y_PF_coded b_PF_coded 2 (some .int) 1 [.ref a, .int p0] S F G (some (.int r)) S F G := by
  refine CT.of [some (.ref a), some (.int p0)] (by decide) (Nat.le_of_ble_eq_true rfl) rfl ?_
  intro p e s m args below meth c C hr hmn hz
  unfold f_PF_coded at h
  refine V.iload_n C 1 rfl rfl d_PF_coded_0 ?_
  by_cases c1 : p0 = (0 : Int32)
  · rw [if_pos c1] at h
    refine V.tableIn C 32 (by rw [c1]; decide) (by rw [c1]; decide) (by rw [c1]; rfl) (by decide) d_PF_coded_1 ?_
    refine V.aload_n C 0 rfl rfl d_PF_coded_32 ?_
    obtain ⟨q2, e3, h⟩ := Option.bind_eq_some_iff.mp h
    refine V.xgetR C fl_PF_37 e3 d_PF_coded_33 ?_
    obtain ⟨v4, e5, h⟩ := Option.bind_eq_some_iff.mp h
    refine V.xgetI C fl_PF_102 e5 d_PF_coded_36 ?_
    obtain rfl := Option.some.inj h
    exact V.iret C hr d_PF_coded_39 rfl rfl rfl rfl
  rw [if_neg c1] at h
  by_cases c6 : p0 = (1 : Int32)
  · rw [if_pos c6] at h
    refine V.tableIn C 40 (by rw [c6]; decide) (by rw [c6]; decide) (by rw [c6]; rfl) (by decide) d_PF_coded_1 ?_
    refine V.aload_n C 0 rfl rfl d_PF_coded_40 ?_
    obtain ⟨q7, e8, h⟩ := Option.bind_eq_some_iff.mp h
    refine V.xgetR C fl_PF_37 e8 d_PF_coded_41 ?_
    obtain ⟨v9, e10, h⟩ := Option.bind_eq_some_iff.mp h
    refine V.xgetI C fl_PF_105 e10 d_PF_coded_44 ?_
    obtain rfl := Option.some.inj h
    exact V.iret C hr d_PF_coded_47 rfl rfl rfl rfl
  rw [if_neg c6] at h
  by_cases c11 : p0 = (2 : Int32)
  · rw [if_pos c11] at h
    refine V.tableIn C 48 (by rw [c11]; decide) (by rw [c11]; decide) (by rw [c11]; rfl) (by decide) d_PF_coded_1 ?_
    refine V.aload_n C 0 rfl rfl d_PF_coded_48 ?_
    obtain ⟨q12, e13, h⟩ := Option.bind_eq_some_iff.mp h
    refine V.xgetR C fl_PF_37 e13 d_PF_coded_49 ?_
    obtain ⟨v14, e15, h⟩ := Option.bind_eq_some_iff.mp h
    refine V.xgetI C fl_PF_108 e15 d_PF_coded_52 ?_
    obtain rfl := Option.some.inj h
    exact V.iret C hr d_PF_coded_55 rfl rfl rfl rfl
  rw [if_neg c11] at h
  by_cases c16 : p0 = (3 : Int32)
  · rw [if_pos c16] at h
    refine V.tableIn C 56 (by rw [c16]; decide) (by rw [c16]; decide) (by rw [c16]; rfl) (by decide) d_PF_coded_1 ?_
    refine V.aload_n C 0 rfl rfl d_PF_coded_56 ?_
    obtain ⟨q17, e18, h⟩ := Option.bind_eq_some_iff.mp h
    refine V.xgetR C fl_PF_37 e18 d_PF_coded_57 ?_
    obtain ⟨q19, e20, h⟩ := Option.bind_eq_some_iff.mp h
    refine V.xgetR C fl_PF_111 e20 d_PF_coded_60 ?_
    obtain ⟨v21, e22, h⟩ := Option.bind_eq_some_iff.mp h
    obtain ⟨⟨fs_e22, s_e22⟩, e22⟩ := xcl_spec e22
    refine V.cVr C (c_St_count e22) ml_PF_115 s_e22 rfl rfl (by decide) (Nat.le_of_ble_eq_true rfl) d_PF_coded_63 ?_
    obtain rfl := Option.some.inj h
    exact V.iret C hr d_PF_coded_66 rfl rfl rfl rfl
  rw [if_neg c16] at h
  have k_c1 := lv_neT c1 (show (0 : Int32).toInt = 0 by decide)
  have k_c6 := lv_neT c6 (show (1 : Int32).toInt = 1 by decide)
  have k_c11 := lv_neT c11 (show (2 : Int32).toInt = 2 by decide)
  have k_c16 := lv_neT c16 (show (3 : Int32).toInt = 3 by decide)
  refine V.tableOut C 67 (by omega) (by decide) d_PF_coded_1 ?_
  refine V.iconst C (-1) (by decide) d_PF_coded_67 ?_
  obtain rfl := Option.some.inj h
  exact V.iret C hr d_PF_coded_68 rfl rfl rfl rfl
def f_PF_decode (S : List xO) (N : Nat) (a : Nat) (F : xF) : Option (Int32 × xF) :=
  (gR S 8 a 4).bind fun q1 =>
  (gR S 8 a 2).bind fun q3 =>
  (xcl S 4 q1 (f_Re_readAll S N q1 q3 F)).bind fun ⟨v5, F6⟩ =>
  (xcl S 0 q3 (f_Nu_empty S q3 F6)).bind fun F8 =>
  if v5 = (-1 : Int32) then
    (gR S 4 q1 3).bind fun q11 =>
    (gI S 0 q11 1 F8).bind fun v13 =>
    some (v13, F8)
  else
  some ((-1 : Int32) - v5, F8)
set_option maxHeartbeats 4000000 in
set_option maxRecDepth 100000 in
theorem c_PF_decode {l : Launch} {g : xG} {S : List xO} {G : xL} {a : Nat} {N : Nat} {F : xF} {r : Int32} {F2 : xF} (h : f_PF_decode S N a F = some (r, F2)) : CT l g 4 92 0 0 y_PF_decode b_PF_decode 2 (some .int) 1 [.ref a] S F G (some (.int r)) S F2 G := by
  refine CT.of [some (.ref a), none] (by decide) (Nat.le_of_ble_eq_true rfl) rfl ?_
  intro p e s m args below meth c C hr hmn hz
  unfold f_PF_decode at h
  refine V.aload_n C 0 rfl rfl d_PF_decode_0 ?_
  obtain ⟨q1, e2, h⟩ := Option.bind_eq_some_iff.mp h
  refine V.xgetR C fl_PF_44 e2 d_PF_decode_1 ?_
  refine V.aload_n C 0 rfl rfl d_PF_decode_4 ?_
  obtain ⟨q3, e4, h⟩ := Option.bind_eq_some_iff.mp h
  refine V.xgetR C fl_PF_31 e4 d_PF_decode_5 ?_
  obtain ⟨⟨v5, F6⟩, e7, h⟩ := Option.bind_eq_some_iff.mp h
  dsimp only at h
  obtain ⟨⟨fs_e7, s_e7⟩, e7⟩ := xcl_spec e7
  refine V.cVr C (c_Re_readAll e7) ml_PF_128 s_e7 rfl rfl (by decide) (Nat.le_of_ble_eq_true rfl) d_PF_decode_8 ?_
  refine V.is1 C (by decide) rfl d_PF_decode_11 ?_
  refine V.aload_n C 0 rfl rfl d_PF_decode_12 ?_
  refine V.xgetR C fl_PF_31 e4 d_PF_decode_13 ?_
  obtain ⟨F8, e9, h⟩ := Option.bind_eq_some_iff.mp h
  obtain ⟨⟨fs_e9, s_e9⟩, e9⟩ := xcl_spec e9
  refine V.cVv C (c_Nu_empty e9) ml_PF_132 s_e9 rfl rfl (by decide) (Nat.le_of_ble_eq_true rfl) d_PF_decode_16 ?_
  refine V.iload_n C 1 rfl rfl d_PF_decode_19 ?_
  refine V.iconst C (-1) (by decide) d_PF_decode_20 ?_
  refine V.icmp_ne C 37 (by decide) d_PF_decode_21 (fun c10 => ?_) (fun c10 => ?_)
  · rw [if_neg c10] at h
    refine V.iconst C (-1) (by decide) d_PF_decode_37 ?_
    refine V.iload_n C 1 rfl rfl d_PF_decode_38 ?_
    refine V.isub C d_PF_decode_39 ?_
    obtain ⟨rfl, rfl⟩ := Prod.mk.inj (Option.some.inj h)
    exact V.iret C hr d_PF_decode_40 rfl rfl rfl rfl
  · rw [if_pos c10] at h
    refine V.aload_n C 0 rfl rfl d_PF_decode_24 ?_
    refine V.xgetR C fl_PF_44 e2 d_PF_decode_25 ?_
    obtain ⟨q11, e12, h⟩ := Option.bind_eq_some_iff.mp h
    refine V.xgetR C fl_PF_135 e12 d_PF_decode_28 ?_
    obtain ⟨v13, e14, h⟩ := Option.bind_eq_some_iff.mp h
    refine V.xgetI C fl_PF_77 e14 d_PF_decode_31 ?_
    refine V.goto C 40 (by decide) d_PF_decode_34 ?_
    obtain ⟨rfl, rfl⟩ := Prod.mk.inj (Option.some.inj h)
    exact V.iret C hr d_PF_decode_40 rfl rfl rfl rfl
def t_PF_take (S : List xO) (N : Nat) (a : Nat) : Nat → Int32 → xF → Option (Int32 × xF)
  | 0, _, _ => none
  | n + 1, u1, F =>
    (gR S 8 a 4).bind fun q5 =>
    (gR S 4 q5 3).bind fun q7 =>
    (gI S 0 q7 1 F).bind fun v9 =>
    if v9 ≤ u1 then
      (gR S 8 a 1).bind fun q12 =>
      (gI S 0 q12 1 F).bind fun v14 =>
      some (v14, F)
    else
    (gR S 8 a 1).bind fun q16 =>
    (xcl S 0 q7 (f_Nu_get S q7 u1 F)).bind fun v18 =>
    (xcl S 0 q16 (f_Nu_add S q16 v18 F)).bind fun F20 =>
    t_PF_take S N a n (u1 + (1 : Int32)) F20
set_option maxHeartbeats 4000000 in
set_option maxRecDepth 100000 in
theorem l_PF_take {p : Program} {l : Launch} {e : Env} {s : State} {m : MethodId} {args : Array Value} {below : List Frame} {meth : Method} {c : Code} {g : xG} {S : List xO} {G : xL} {a : Nat} {N : Nat} (C : Cx p s m args meth c b_PF_take 2 "PaletteFrames" g) (hr : meth.sig.returnType = (some .int)) : ∀ (n : Nat), (∀ (u1 : Int32) (F : xF) (r : Int32) (F2 : xF), t_PF_take S N a n u1 F = some (r, F2) → V p l e (xRm 2 42 0 0) s m args below meth c (xMQ g below args s 0 0 S F2 G (some (.int r))) 2 g S F G 0 0 9 [some (.ref a), some (.int u1)] []) := by
  intro n
  induction n with
  | zero =>
    intro u1 F r F2 h
    cases h
  | succ n ih =>
    intro u1 F r F2 h
    rw [t_PF_take] at h
    refine V.iload_n C 1 rfl rfl d_PF_take_9 ?_
    refine V.aload_n C 0 rfl rfl d_PF_take_10 ?_
    obtain ⟨q5, e6, h⟩ := Option.bind_eq_some_iff.mp h
    refine V.xgetR C fl_PF_44 e6 d_PF_take_11 ?_
    obtain ⟨q7, e8, h⟩ := Option.bind_eq_some_iff.mp h
    refine V.xgetR C fl_PF_135 e8 d_PF_take_14 ?_
    obtain ⟨v9, e10, h⟩ := Option.bind_eq_some_iff.mp h
    refine V.xgetI C fl_PF_77 e10 d_PF_take_17 ?_
    refine V.icmp_ge C 47 (by decide) d_PF_take_20 (fun c11 => ?_) (fun c11 => ?_)
    · rw [if_pos c11] at h
      refine V.aload_n C 0 rfl rfl d_PF_take_47 ?_
      obtain ⟨q12, e13, h⟩ := Option.bind_eq_some_iff.mp h
      refine V.xgetR C fl_PF_27 e13 d_PF_take_48 ?_
      obtain ⟨v14, e15, h⟩ := Option.bind_eq_some_iff.mp h
      refine V.xgetI C fl_PF_77 e15 d_PF_take_51 ?_
      obtain ⟨rfl, rfl⟩ := Prod.mk.inj (Option.some.inj h)
      exact V.iret C hr d_PF_take_54 rfl rfl rfl rfl
    · rw [if_neg c11] at h
      refine V.aload_n C 0 rfl rfl d_PF_take_23 ?_
      obtain ⟨q16, e17, h⟩ := Option.bind_eq_some_iff.mp h
      refine V.xgetR C fl_PF_27 e17 d_PF_take_24 ?_
      refine V.aload_n C 0 rfl rfl d_PF_take_27 ?_
      refine V.xgetR C fl_PF_44 e6 d_PF_take_28 ?_
      refine V.xgetR C fl_PF_135 e8 d_PF_take_31 ?_
      refine V.iload_n C 1 rfl rfl d_PF_take_34 ?_
      obtain ⟨v18, e19, h⟩ := Option.bind_eq_some_iff.mp h
      obtain ⟨⟨fs_e19, s_e19⟩, e19⟩ := xcl_spec e19
      refine V.cVr C (c_Nu_get e19) ml_PF_98 s_e19 rfl rfl (by decide) (Nat.le_of_ble_eq_true rfl) d_PF_take_35 ?_
      obtain ⟨F20, e21, h⟩ := Option.bind_eq_some_iff.mp h
      obtain ⟨⟨fs_e21, s_e21⟩, e21⟩ := xcl_spec e21
      refine V.cVv C (c_Nu_add e21) ml_PF_74 s_e21 rfl rfl (by decide) (Nat.le_of_ble_eq_true rfl) d_PF_take_38 ?_
      refine V.inc1 C 1 (by decide) (by decide) rfl d_PF_take_41 ?_
      refine V.goto C 9 (by decide) d_PF_take_44 ?_
      exact V.weak (xsub_spec (by simp [xsub])) (ih (u1 + (1 : Int32)) F20 _ _ h)
def f_PF_take (S : List xO) (N : Nat) (a : Nat) (F : xF) : Option (Int32 × xF) :=
  (gR S 8 a 1).bind fun q1 =>
  (xcl S 0 q1 (f_Nu_empty S q1 F)).bind fun F3 =>
  t_PF_take S N a N (0 : Int32) F3
set_option maxHeartbeats 4000000 in
set_option maxRecDepth 100000 in
theorem c_PF_take {l : Launch} {g : xG} {S : List xO} {G : xL} {a : Nat} {N : Nat} {F : xF} {r : Int32} {F2 : xF} (h : f_PF_take S N a F = some (r, F2)) : CT l g 2 42 0 0 y_PF_take b_PF_take 2 (some .int) 1 [.ref a] S F G (some (.int r)) S F2 G := by
  refine CT.of [some (.ref a), none] (by decide) (Nat.le_of_ble_eq_true rfl) rfl ?_
  intro p e s m args below meth c C hr hmn hz
  unfold f_PF_take at h
  refine V.aload_n C 0 rfl rfl d_PF_take_0 ?_
  obtain ⟨q1, e2, h⟩ := Option.bind_eq_some_iff.mp h
  refine V.xgetR C fl_PF_27 e2 d_PF_take_1 ?_
  obtain ⟨F3, e4, h⟩ := Option.bind_eq_some_iff.mp h
  obtain ⟨⟨fs_e4, s_e4⟩, e4⟩ := xcl_spec e4
  refine V.cVv C (c_Nu_empty e4) ml_PF_132 s_e4 rfl rfl (by decide) (Nat.le_of_ble_eq_true rfl) d_PF_take_4 ?_
  refine V.iconst C 0 (by decide) d_PF_take_7 ?_
  refine V.is1 C (by decide) rfl d_PF_take_8 ?_
  exact V.weak (xsub_spec (by simp [xsub])) ((l_PF_take C hr N) (0 : Int32) F3 _ _ h)
def f_PF_fits (S : List xO) (p0 : Int32) (p1 : Int32) (F : xF) : Option Int32 :=
  if p1 < (1 : Int32) then
    some (0 : Int32)
  else
  if (24 : Int32) < p1 then
    some (0 : Int32)
  else
  if p0 < (0 : Int32) then
    some (0 : Int32)
  else
  if ((24 : Int32) - p1) < p0 then
    some (0 : Int32)
  else
  some (1 : Int32)
set_option maxHeartbeats 4000000 in
set_option maxRecDepth 100000 in
theorem c_PF_fits {l : Launch} {g : xG} {S : List xO} {G : xL} {p0 : Int32} {p1 : Int32} {F : xF} {r : Int32} (h : f_PF_fits S p0 p1 F = some r) : CT l g 0 0 0 0 y_PF_fits b_PF_fits 2 (some .boolean) 1 [.int p0, .int p1] S F G (some (.int r)) S F G := by
  refine CT.of [some (.int p0), some (.int p1)] (by decide) (Nat.le_of_ble_eq_true rfl) rfl ?_
  intro p e s m args below meth c C hr hmn hz
  unfold f_PF_fits at h
  refine V.iload_n C 1 rfl rfl d_PF_fits_0 ?_
  refine V.iconst C 1 (by decide) d_PF_fits_1 ?_
  refine V.icmp_lt C 27 (by decide) d_PF_fits_2 (fun c1 => ?_) (fun c1 => ?_)
  · rw [if_pos c1] at h
    refine V.iconst C 0 (by decide) d_PF_fits_27 ?_
    obtain rfl := Option.some.inj h
    exact V.zret C hr (by first | rfl | exact xz_narrow (by assumption)) d_PF_fits_28 rfl rfl rfl rfl
  · rw [if_neg c1] at h
    refine V.iload_n C 1 rfl rfl d_PF_fits_5 ?_
    refine V.bipush C 24 (by decide) d_PF_fits_6 ?_
    refine V.icmp_gt C 27 (by decide) d_PF_fits_8 (fun c2 => ?_) (fun c2 => ?_)
    · rw [if_pos c2] at h
      refine V.iconst C 0 (by decide) d_PF_fits_27 ?_
      obtain rfl := Option.some.inj h
      exact V.zret C hr (by first | rfl | exact xz_narrow (by assumption)) d_PF_fits_28 rfl rfl rfl rfl
    · rw [if_neg c2] at h
      refine V.iload_n C 0 rfl rfl d_PF_fits_11 ?_
      refine V.if_lt C 27 (by decide) d_PF_fits_12 (fun c3 => ?_) (fun c3 => ?_)
      · rw [if_pos c3] at h
        refine V.iconst C 0 (by decide) d_PF_fits_27 ?_
        obtain rfl := Option.some.inj h
        exact V.zret C hr (by first | rfl | exact xz_narrow (by assumption)) d_PF_fits_28 rfl rfl rfl rfl
      · rw [if_neg c3] at h
        refine V.iload_n C 0 rfl rfl d_PF_fits_15 ?_
        refine V.bipush C 24 (by decide) d_PF_fits_16 ?_
        refine V.iload_n C 1 rfl rfl d_PF_fits_18 ?_
        refine V.isub C d_PF_fits_19 ?_
        refine V.icmp_gt C 27 (by decide) d_PF_fits_20 (fun c4 => ?_) (fun c4 => ?_)
        · rw [if_pos c4] at h
          refine V.iconst C 0 (by decide) d_PF_fits_27 ?_
          obtain rfl := Option.some.inj h
          exact V.zret C hr (by first | rfl | exact xz_narrow (by assumption)) d_PF_fits_28 rfl rfl rfl rfl
        · rw [if_neg c4] at h
          refine V.iconst C 1 (by decide) d_PF_fits_23 ?_
          refine V.goto C 28 (by decide) d_PF_fits_24 ?_
          obtain rfl := Option.some.inj h
          exact V.zret C hr (by first | rfl | exact xz_narrow (by assumption)) d_PF_fits_28 rfl rfl rfl rfl
def f_PF_isSymbol (S : List xO) (a : Nat) (p0 : Int32) (F : xF) : Option Int32 :=
  if p0 < (0 : Int32) then
    some (0 : Int32)
  else
  (gI S 8 a 0 F).bind fun v2 =>
  if ((1 : Int32) <<< (v2 &&& 31)) ≤ p0 then
    some (0 : Int32)
  else
  some (1 : Int32)
set_option maxHeartbeats 4000000 in
set_option maxRecDepth 100000 in
theorem c_PF_isSymbol {l : Launch} {g : xG} {S : List xO} {G : xL} {a : Nat} {p0 : Int32} {F : xF} {r : Int32} (h : f_PF_isSymbol S a p0 F = some r) : CT l g 0 0 0 0 y_PF_isSymbol b_PF_isSymbol 2 (some .boolean) 1 [.ref a, .int p0] S F G (some (.int r)) S F G := by
  refine CT.of [some (.ref a), some (.int p0)] (by decide) (Nat.le_of_ble_eq_true rfl) rfl ?_
  intro p e s m args below meth c C hr hmn hz
  unfold f_PF_isSymbol at h
  refine V.iload_n C 1 rfl rfl d_PF_isSymbol_0 ?_
  refine V.if_lt C 18 (by decide) d_PF_isSymbol_1 (fun c1 => ?_) (fun c1 => ?_)
  · rw [if_pos c1] at h
    refine V.iconst C 0 (by decide) d_PF_isSymbol_18 ?_
    obtain rfl := Option.some.inj h
    exact V.zret C hr (by first | rfl | exact xz_narrow (by assumption)) d_PF_isSymbol_19 rfl rfl rfl rfl
  · rw [if_neg c1] at h
    refine V.iload_n C 1 rfl rfl d_PF_isSymbol_4 ?_
    refine V.iconst C 1 (by decide) d_PF_isSymbol_5 ?_
    refine V.aload_n C 0 rfl rfl d_PF_isSymbol_6 ?_
    obtain ⟨v2, e3, h⟩ := Option.bind_eq_some_iff.mp h
    refine V.xgetI C fl_PF_18 e3 d_PF_isSymbol_7 ?_
    refine V.ishl C d_PF_isSymbol_10 ?_
    refine V.icmp_ge C 18 (by decide) d_PF_isSymbol_11 (fun c4 => ?_) (fun c4 => ?_)
    · rw [if_pos c4] at h
      refine V.iconst C 0 (by decide) d_PF_isSymbol_18 ?_
      obtain rfl := Option.some.inj h
      exact V.zret C hr (by first | rfl | exact xz_narrow (by assumption)) d_PF_isSymbol_19 rfl rfl rfl rfl
    · rw [if_neg c4] at h
      refine V.iconst C 1 (by decide) d_PF_isSymbol_14 ?_
      refine V.goto C 19 (by decide) d_PF_isSymbol_15 ?_
      obtain rfl := Option.some.inj h
      exact V.zret C hr (by first | rfl | exact xz_narrow (by assumption)) d_PF_isSymbol_19 rfl rfl rfl rfl
def f_PF_told (S : List xO) (a : Nat) (p0 : Int32) (F : xF) : Option Int32 :=
  if p0 = (0 : Int32) then
    (gI S 8 a 0 F).bind fun v2 =>
    some v2
  else
  if p0 = (1 : Int32) then
    (gR S 8 a 1).bind fun q5 =>
    (gI S 0 q5 1 F).bind fun v7 =>
    some v7
  else
  if p0 = (2 : Int32) then
    (gR S 8 a 2).bind fun q10 =>
    (gI S 0 q10 1 F).bind fun v12 =>
    some v12
  else
  if p0 = (3 : Int32) then
    (gR S 8 a 4).bind fun q15 =>
    (gR S 4 q15 3).bind fun q17 =>
    (gI S 0 q17 1 F).bind fun v19 =>
    some v19
  else
  if p0 = (4 : Int32) then
    (gR S 8 a 5).bind fun q22 =>
    (gI S 7 q22 2 F).bind fun v24 =>
    some v24
  else
  some (-1 : Int32)
set_option maxHeartbeats 4000000 in
set_option maxRecDepth 100000 in
theorem c_PF_told {l : Launch} {g : xG} {S : List xO} {G : xL} {a : Nat} {p0 : Int32} {F : xF} {r : Int32} (h : f_PF_told S a p0 F = some r) : CT l g 0 0 0 0 y_PF_told b_PF_told 2 (some .int) 1 [.ref a, .int p0] S F G (some (.int r)) S F G := by
  refine CT.of [some (.ref a), some (.int p0)] (by decide) (Nat.le_of_ble_eq_true rfl) rfl ?_
  intro p e s m args below meth c C hr hmn hz
  unfold f_PF_told at h
  refine V.iload_n C 1 rfl rfl d_PF_told_0 ?_
  by_cases c1 : p0 = (0 : Int32)
  · rw [if_pos c1] at h
    refine V.tableIn C 36 (by rw [c1]; decide) (by rw [c1]; decide) (by rw [c1]; rfl) (by decide) d_PF_told_1 ?_
    refine V.aload_n C 0 rfl rfl d_PF_told_36 ?_
    obtain ⟨v2, e3, h⟩ := Option.bind_eq_some_iff.mp h
    refine V.xgetI C fl_PF_18 e3 d_PF_told_37 ?_
    obtain rfl := Option.some.inj h
    exact V.iret C hr d_PF_told_40 rfl rfl rfl rfl
  rw [if_neg c1] at h
  by_cases c4 : p0 = (1 : Int32)
  · rw [if_pos c4] at h
    refine V.tableIn C 41 (by rw [c4]; decide) (by rw [c4]; decide) (by rw [c4]; rfl) (by decide) d_PF_told_1 ?_
    refine V.aload_n C 0 rfl rfl d_PF_told_41 ?_
    obtain ⟨q5, e6, h⟩ := Option.bind_eq_some_iff.mp h
    refine V.xgetR C fl_PF_27 e6 d_PF_told_42 ?_
    obtain ⟨v7, e8, h⟩ := Option.bind_eq_some_iff.mp h
    refine V.xgetI C fl_PF_77 e8 d_PF_told_45 ?_
    obtain rfl := Option.some.inj h
    exact V.iret C hr d_PF_told_48 rfl rfl rfl rfl
  rw [if_neg c4] at h
  by_cases c9 : p0 = (2 : Int32)
  · rw [if_pos c9] at h
    refine V.tableIn C 49 (by rw [c9]; decide) (by rw [c9]; decide) (by rw [c9]; rfl) (by decide) d_PF_told_1 ?_
    refine V.aload_n C 0 rfl rfl d_PF_told_49 ?_
    obtain ⟨q10, e11, h⟩ := Option.bind_eq_some_iff.mp h
    refine V.xgetR C fl_PF_31 e11 d_PF_told_50 ?_
    obtain ⟨v12, e13, h⟩ := Option.bind_eq_some_iff.mp h
    refine V.xgetI C fl_PF_77 e13 d_PF_told_53 ?_
    obtain rfl := Option.some.inj h
    exact V.iret C hr d_PF_told_56 rfl rfl rfl rfl
  rw [if_neg c9] at h
  by_cases c14 : p0 = (3 : Int32)
  · rw [if_pos c14] at h
    refine V.tableIn C 57 (by rw [c14]; decide) (by rw [c14]; decide) (by rw [c14]; rfl) (by decide) d_PF_told_1 ?_
    refine V.aload_n C 0 rfl rfl d_PF_told_57 ?_
    obtain ⟨q15, e16, h⟩ := Option.bind_eq_some_iff.mp h
    refine V.xgetR C fl_PF_44 e16 d_PF_told_58 ?_
    obtain ⟨q17, e18, h⟩ := Option.bind_eq_some_iff.mp h
    refine V.xgetR C fl_PF_135 e18 d_PF_told_61 ?_
    obtain ⟨v19, e20, h⟩ := Option.bind_eq_some_iff.mp h
    refine V.xgetI C fl_PF_77 e20 d_PF_told_64 ?_
    obtain rfl := Option.some.inj h
    exact V.iret C hr d_PF_told_67 rfl rfl rfl rfl
  rw [if_neg c14] at h
  by_cases c21 : p0 = (4 : Int32)
  · rw [if_pos c21] at h
    refine V.tableIn C 68 (by rw [c21]; decide) (by rw [c21]; decide) (by rw [c21]; rfl) (by decide) d_PF_told_1 ?_
    refine V.aload_n C 0 rfl rfl d_PF_told_68 ?_
    obtain ⟨q22, e23, h⟩ := Option.bind_eq_some_iff.mp h
    refine V.xgetR C fl_PF_51 e23 d_PF_told_69 ?_
    obtain ⟨v24, e25, h⟩ := Option.bind_eq_some_iff.mp h
    refine V.xgetI C fl_PF_155 e25 d_PF_told_72 ?_
    obtain rfl := Option.some.inj h
    exact V.iret C hr d_PF_told_75 rfl rfl rfl rfl
  rw [if_neg c21] at h
  have k_c1 := lv_neT c1 (show (0 : Int32).toInt = 0 by decide)
  have k_c4 := lv_neT c4 (show (1 : Int32).toInt = 1 by decide)
  have k_c9 := lv_neT c9 (show (2 : Int32).toInt = 2 by decide)
  have k_c14 := lv_neT c14 (show (3 : Int32).toInt = 3 by decide)
  have k_c21 := lv_neT c21 (show (4 : Int32).toInt = 4 by decide)
  refine V.tableOut C 76 (by omega) (by decide) d_PF_told_1 ?_
  refine V.iconst C (-1) (by decide) d_PF_told_76 ?_
  obtain rfl := Option.some.inj h
  exact V.iret C hr d_PF_told_77 rfl rfl rfl rfl
def f_PF_clear (S : List xO) (N : Nat) (a : Nat) (F : xF) : Option xF :=
  (pI S 8 a 6 (0 : Int32) F).bind fun F1 =>
  (gR S 8 a 1).bind fun q3 =>
  (xcl S 0 q3 (f_Nu_empty S q3 F1)).bind fun F5 =>
  (gR S 8 a 2).bind fun q7 =>
  (xcl S 0 q7 (f_Nu_empty S q7 F5)).bind fun F9 =>
  (gR S 8 a 3).bind fun q11 =>
  (xcl S 3 q11 (f_Co_forget S N q11 F9)).bind fun F13 =>
  (gR S 8 a 4).bind fun q15 =>
  (gR S 4 q15 3).bind fun q17 =>
  (xcl S 0 q17 (f_Nu_empty S q17 F13)).bind fun F19 =>
  (gR S 8 a 5).bind fun q21 =>
  (xcl S 7 q21 (f_Sc_forget S N q21 F19)).bind fun F23 =>
  some F23
set_option maxHeartbeats 4000000 in
set_option maxRecDepth 100000 in
theorem c_PF_clear {l : Launch} {g : xG} {S : List xO} {G : xL} {a : Nat} {N : Nat} {F : xF} {F2 : xF} (h : f_PF_clear S N a F = some F2) : CT l g 3 63 0 0 y_PF_clear b_PF_clear 1 none 1 [.ref a] S F G none S F2 G := by
  refine CT.of [some (.ref a)] (by decide) (Nat.le_of_ble_eq_true rfl) rfl ?_
  intro p e s m args below meth c C hr hmn hz
  unfold f_PF_clear at h
  refine V.aload_n C 0 rfl rfl d_PF_clear_0 ?_
  refine V.iconst C 0 (by decide) d_PF_clear_1 ?_
  obtain ⟨F1, e2, h⟩ := Option.bind_eq_some_iff.mp h
  refine V.xputI C fl_PF_55 ft_8 fi_8_6 e2 d_PF_clear_2 ?_
  refine V.aload_n C 0 rfl rfl d_PF_clear_5 ?_
  obtain ⟨q3, e4, h⟩ := Option.bind_eq_some_iff.mp h
  refine V.xgetR C fl_PF_27 e4 d_PF_clear_6 ?_
  obtain ⟨F5, e6, h⟩ := Option.bind_eq_some_iff.mp h
  obtain ⟨⟨fs_e6, s_e6⟩, e6⟩ := xcl_spec e6
  refine V.cVv C (c_Nu_empty e6) ml_PF_132 s_e6 rfl rfl (by decide) (Nat.le_of_ble_eq_true rfl) d_PF_clear_9 ?_
  refine V.aload_n C 0 rfl rfl d_PF_clear_12 ?_
  obtain ⟨q7, e8, h⟩ := Option.bind_eq_some_iff.mp h
  refine V.xgetR C fl_PF_31 e8 d_PF_clear_13 ?_
  obtain ⟨F9, e10, h⟩ := Option.bind_eq_some_iff.mp h
  obtain ⟨⟨fs_e10, s_e10⟩, e10⟩ := xcl_spec e10
  refine V.cVv C (c_Nu_empty e10) ml_PF_132 s_e10 rfl rfl (by decide) (Nat.le_of_ble_eq_true rfl) d_PF_clear_16 ?_
  refine V.aload_n C 0 rfl rfl d_PF_clear_19 ?_
  obtain ⟨q11, e12, h⟩ := Option.bind_eq_some_iff.mp h
  refine V.xgetR C fl_PF_37 e12 d_PF_clear_20 ?_
  obtain ⟨F13, e14, h⟩ := Option.bind_eq_some_iff.mp h
  obtain ⟨⟨fs_e14, s_e14⟩, e14⟩ := xcl_spec e14
  refine V.cVv C (c_Co_forget e14) ml_PF_233 s_e14 rfl rfl (by decide) (Nat.le_of_ble_eq_true rfl) d_PF_clear_23 ?_
  refine V.aload_n C 0 rfl rfl d_PF_clear_26 ?_
  obtain ⟨q15, e16, h⟩ := Option.bind_eq_some_iff.mp h
  refine V.xgetR C fl_PF_44 e16 d_PF_clear_27 ?_
  obtain ⟨q17, e18, h⟩ := Option.bind_eq_some_iff.mp h
  refine V.xgetR C fl_PF_135 e18 d_PF_clear_30 ?_
  obtain ⟨F19, e20, h⟩ := Option.bind_eq_some_iff.mp h
  obtain ⟨⟨fs_e20, s_e20⟩, e20⟩ := xcl_spec e20
  refine V.cVv C (c_Nu_empty e20) ml_PF_132 s_e20 rfl rfl (by decide) (Nat.le_of_ble_eq_true rfl) d_PF_clear_33 ?_
  refine V.aload_n C 0 rfl rfl d_PF_clear_36 ?_
  obtain ⟨q21, e22, h⟩ := Option.bind_eq_some_iff.mp h
  refine V.xgetR C fl_PF_51 e22 d_PF_clear_37 ?_
  obtain ⟨F23, e24, h⟩ := Option.bind_eq_some_iff.mp h
  obtain ⟨⟨fs_e24, s_e24⟩, e24⟩ := xcl_spec e24
  refine V.cVv C (c_Sc_forget e24) ml_PF_236 s_e24 rfl rfl (by decide) (Nat.le_of_ble_eq_true rfl) d_PF_clear_40 ?_
  obtain rfl := Option.some.inj h
  exact V.vret C hr d_PF_clear_43 rfl rfl rfl
