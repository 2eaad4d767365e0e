def f_Co_forget (S : List xO) (N : Nat) (a : Nat) (F : xF) : Option xF :=
  (gR S 3 a 4).bind fun q1 =>
  (xcl S 0 q1 (f_Nu_empty S q1 F)).bind fun F3 =>
  (gR S 3 a 3).bind fun q5 =>
  (xcl S 2 q5 (f_St_empty S N q5 F3)).bind fun F7 =>
  (gR S 3 a 2).bind fun q9 =>
  (xcl S 1 q9 (f_Wi_restart S q9 F7)).bind fun F11 =>
  (pI S 3 a 5 (0 : Int32) F11).bind fun F13 =>
  (pI S 3 a 6 (0 : Int32) F13).bind fun F15 =>
  (pI S 3 a 7 (0 : Int32) F15).bind fun F17 =>
  (pI S 3 a 8 (0 : Int32) F17).bind fun F19 =>
  (pI S 3 a 9 (0 : Int32) F19).bind fun F21 =>
  some F21
set_option maxHeartbeats 4000000 in
set_option maxRecDepth 100000 in
theorem c_Co_forget {l : Launch} {g : xG} {S : List xO} {G : xL} {a : Nat} {N : Nat} {F : xF} {F2 : xF} (h : f_Co_forget S N a F = some F2) : CT l g 1 21 0 0 y_Co_forget b_Co_forget 1 none 1 [.ref a] S F G none S F2 G := by
  refine CT.of [some (.ref a)] (by decide) (Nat.le_of_ble_eq_true rfl) rfl ?_
  intro p e s m args below meth c C hr hmn hz
  unfold f_Co_forget at h
  refine V.aload_n C 0 rfl rfl d_Co_forget_0 ?_
  obtain ⟨q1, e2, h⟩ := Option.bind_eq_some_iff.mp h
  refine V.xgetR C fl_Co_14 e2 d_Co_forget_1 ?_
  obtain ⟨F3, e4, h⟩ := Option.bind_eq_some_iff.mp h
  obtain ⟨⟨fs_e4, s_e4⟩, e4⟩ := xcl_spec e4
  refine V.cVv C (c_Nu_empty e4) ml_Co_41 s_e4 rfl rfl (by decide) (Nat.le_of_ble_eq_true rfl) d_Co_forget_4 ?_
  refine V.aload_n C 0 rfl rfl d_Co_forget_7 ?_
  obtain ⟨q5, e6, h⟩ := Option.bind_eq_some_iff.mp h
  refine V.xgetR C fl_Co_37 e6 d_Co_forget_8 ?_
  obtain ⟨F7, e8, h⟩ := Option.bind_eq_some_iff.mp h
  obtain ⟨⟨fs_e8, s_e8⟩, e8⟩ := xcl_spec e8
  refine V.cVv C (c_St_empty e8) ml_Co_44 s_e8 rfl rfl (by decide) (Nat.le_of_ble_eq_true rfl) d_Co_forget_11 ?_
  refine V.aload_n C 0 rfl rfl d_Co_forget_14 ?_
  obtain ⟨q9, e10, h⟩ := Option.bind_eq_some_iff.mp h
  refine V.xgetR C fl_Co_30 e10 d_Co_forget_15 ?_
  obtain ⟨F11, e12, h⟩ := Option.bind_eq_some_iff.mp h
  obtain ⟨⟨fs_e12, s_e12⟩, e12⟩ := xcl_spec e12
  refine V.cVv C (c_Wi_restart e12) ml_Co_45 s_e12 rfl rfl (by decide) (Nat.le_of_ble_eq_true rfl) d_Co_forget_18 ?_
  refine V.aload_n C 0 rfl rfl d_Co_forget_21 ?_
  refine V.iconst C 0 (by decide) d_Co_forget_22 ?_
  obtain ⟨F13, e14, h⟩ := Option.bind_eq_some_iff.mp h
  refine V.xputI C fl_Co_48 ft_3 fi_3_5 e14 d_Co_forget_23 ?_
  refine V.aload_n C 0 rfl rfl d_Co_forget_26 ?_
  refine V.iconst C 0 (by decide) d_Co_forget_27 ?_
  obtain ⟨F15, e16, h⟩ := Option.bind_eq_some_iff.mp h
  refine V.xputI C fl_Co_51 ft_3 fi_3_6 e16 d_Co_forget_28 ?_
  refine V.aload_n C 0 rfl rfl d_Co_forget_31 ?_
  refine V.iconst C 0 (by decide) d_Co_forget_32 ?_
  obtain ⟨F17, e18, h⟩ := Option.bind_eq_some_iff.mp h
  refine V.xputI C fl_Co_54 ft_3 fi_3_7 e18 d_Co_forget_33 ?_
  refine V.aload_n C 0 rfl rfl d_Co_forget_36 ?_
  refine V.iconst C 0 (by decide) d_Co_forget_37 ?_
  obtain ⟨F19, e20, h⟩ := Option.bind_eq_some_iff.mp h
  refine V.xputI C fl_Co_57 ft_3 fi_3_8 e20 d_Co_forget_38 ?_
  refine V.aload_n C 0 rfl rfl d_Co_forget_41 ?_
  refine V.iconst C 0 (by decide) d_Co_forget_42 ?_
  obtain ⟨F21, e22, h⟩ := Option.bind_eq_some_iff.mp h
  refine V.xputI C fl_Co_60 ft_3 fi_3_9 e22 d_Co_forget_43 ?_
  obtain rfl := Option.some.inj h
  exact V.vret C hr d_Co_forget_46 rfl rfl rfl
def t_Co_write (S : List xO) (N : Nat) (a : Nat) (p0 : Int32) : Nat → Int32 → xF → Option xF
  | 0, _, _ => none
  | n + 1, u2, F =>
    if u2 ≤ (0 : Int32) then
      some F
    else
    (gR S 3 a 4).bind fun q27 =>
    (gI S 3 a 8 F).bind fun v29 =>
    (xcl S 0 q27 (f_Nu_add S q27 (v29 &&& (255 : Int32)) F)).bind fun F31 =>
    (gI S 3 a 8 F31).bind fun v33 =>
    (pI S 3 a 8 ((v33.toUInt32 >>> ((8 : Int32).toUInt32 &&& Int32.toUInt32 31)).toInt32) F31).bind fun F35 =>
    (gI S 3 a 9 F35).bind fun v37 =>
    (pI S 3 a 9 (v37 - (8 : Int32)) F35).bind fun F39 =>
    t_Co_write S N a p0 n (u2 + (-1 : Int32)) F39
set_option maxHeartbeats 4000000 in
set_option maxRecDepth 100000 in
theorem l_Co_write {p : Program} {l : Launch} {e : Env} {s : State} {m : MethodId} {args : Array Value} {below : List Frame} {meth : Method} {c : Code} {g : xG} {S : List xO} {G : xL} {a : Nat} {p0 : Int32} {N : Nat} (C : Cx p s m args meth c b_Co_write 3 "PaletteFrames$Coder" g) (hr : meth.sig.returnType = none) : ∀ (n : Nat), (∀ (u2 : Int32) (F : xF) (F2 : xF), t_Co_write S N a p0 n u2 F = some F2 → V p l e (xRm 1 21 0 0) s m args below meth c (xMQ g below args s 0 0 S F2 G none) 3 g S F G 0 0 60 [some (.ref a), some (.int p0), some (.int u2)] []) := by
  intro n
  induction n with
  | zero =>
    intro u2 F F2 h
    cases h
  | succ n ih =>
    intro u2 F F2 h
    rw [t_Co_write] at h
    refine V.iload_n C 2 rfl rfl d_Co_write_60 ?_
    refine V.if_le C 107 (by decide) d_Co_write_61 (fun c26 => ?_) (fun c26 => ?_)
    · rw [if_pos c26] at h
      obtain rfl := Option.some.inj h
      exact V.vret C hr d_Co_write_107 rfl rfl rfl
    · rw [if_neg c26] at h
      refine V.aload_n C 0 rfl rfl d_Co_write_64 ?_
      obtain ⟨q27, e28, h⟩ := Option.bind_eq_some_iff.mp h
      refine V.xgetR C fl_Co_14 e28 d_Co_write_65 ?_
      refine V.aload_n C 0 rfl rfl d_Co_write_68 ?_
      obtain ⟨v29, e30, h⟩ := Option.bind_eq_some_iff.mp h
      refine V.xgetI C fl_Co_57 e30 d_Co_write_69 ?_
      refine V.sipush C 255 (by decide) d_Co_write_72 ?_
      refine V.iand C d_Co_write_75 ?_
      obtain ⟨F31, e32, h⟩ := Option.bind_eq_some_iff.mp h
      obtain ⟨⟨fs_e32, s_e32⟩, e32⟩ := xcl_spec e32
      refine V.cVv C (c_Nu_add e32) ml_Co_116 s_e32 rfl rfl (by decide) (Nat.le_of_ble_eq_true rfl) d_Co_write_76 ?_
      refine V.aload_n C 0 rfl rfl d_Co_write_79 ?_
      refine V.dup C rfl d_Co_write_80 ?_
      obtain ⟨v33, e34, h⟩ := Option.bind_eq_some_iff.mp h
      refine V.xgetI C fl_Co_57 e34 d_Co_write_81 ?_
      refine V.bipush C 8 (by decide) d_Co_write_84 ?_
      refine V.iushr C d_Co_write_86 ?_
      obtain ⟨F35, e36, h⟩ := Option.bind_eq_some_iff.mp h
      refine V.xputI C fl_Co_57 ft_3 fi_3_8 e36 d_Co_write_87 ?_
      refine V.aload_n C 0 rfl rfl d_Co_write_90 ?_
      refine V.dup C rfl d_Co_write_91 ?_
      obtain ⟨v37, e38, h⟩ := Option.bind_eq_some_iff.mp h
      refine V.xgetI C fl_Co_60 e38 d_Co_write_92 ?_
      refine V.bipush C 8 (by decide) d_Co_write_95 ?_
      refine V.isub C d_Co_write_97 ?_
      obtain ⟨F39, e40, h⟩ := Option.bind_eq_some_iff.mp h
      refine V.xputI C fl_Co_60 ft_3 fi_3_9 e40 d_Co_write_98 ?_
      refine V.inc2 C (-1) (by decide) (by decide) rfl d_Co_write_101 ?_
      refine V.goto C 60 (by decide) d_Co_write_104 ?_
      exact V.weak (xsub_spec (by simp [xsub])) (ih (u2 + (-1 : Int32)) F39 _ h)
def f_Co_write (S : List xO) (N : Nat) (a : Nat) (p0 : Int32) (F : xF) : Option xF :=
  (gI S 3 a 5 F).bind fun v1 =>
  (pI S 3 a 5 (v1 + (1 : Int32)) F).bind fun F3 =>
  (gR S 3 a 2).bind fun q5 =>
  (gI S 1 q5 2 F3).bind fun v7 =>
  (pI S 3 a 7 v7 F3).bind fun F9 =>
  (gI S 3 a 8 F9).bind fun v11 =>
  (gI S 3 a 9 F9).bind fun v13 =>
  (pI S 3 a 8 (v11 ||| (p0 <<< (v13 &&& 31))) F9).bind fun F15 =>
  (gI S 3 a 9 F15).bind fun v17 =>
  (gI S 1 q5 2 F15).bind fun v19 =>
  (pI S 3 a 9 (v17 + v19) F15).bind fun F21 =>
  (gI S 3 a 9 F21).bind fun v23 =>
  if (8 : Int32) = (0 : Int32) then none else
  t_Co_write S N a p0 N (v23 / (8 : Int32)) F21
set_option maxHeartbeats 4000000 in
set_option maxRecDepth 100000 in
theorem c_Co_write {l : Launch} {g : xG} {S : List xO} {G : xL} {a : Nat} {p0 : Int32} {N : Nat} {F : xF} {F2 : xF} (h : f_Co_write S N a p0 F = some F2) : CT l g 1 21 0 0 y_Co_write b_Co_write 3 none 1 [.ref a, .int p0] S F G none S F2 G := by
  refine CT.of [some (.ref a), some (.int p0), none] (by decide) (Nat.le_of_ble_eq_true rfl) rfl ?_
  intro p e s m args below meth c C hr hmn hz
  unfold f_Co_write at h
  refine V.aload_n C 0 rfl rfl d_Co_write_0 ?_
  refine V.dup C rfl d_Co_write_1 ?_
  obtain ⟨v1, e2, h⟩ := Option.bind_eq_some_iff.mp h
  refine V.xgetI C fl_Co_48 e2 d_Co_write_2 ?_
  refine V.iconst C 1 (by decide) d_Co_write_5 ?_
  refine V.iadd C d_Co_write_6 ?_
  obtain ⟨F3, e4, h⟩ := Option.bind_eq_some_iff.mp h
  refine V.xputI C fl_Co_48 ft_3 fi_3_5 e4 d_Co_write_7 ?_
  refine V.aload_n C 0 rfl rfl d_Co_write_10 ?_
  refine V.aload_n C 0 rfl rfl d_Co_write_11 ?_
  obtain ⟨q5, e6, h⟩ := Option.bind_eq_some_iff.mp h
  refine V.xgetR C fl_Co_30 e6 d_Co_write_12 ?_
  obtain ⟨v7, e8, h⟩ := Option.bind_eq_some_iff.mp h
  refine V.xgetI C fl_Co_113 e8 d_Co_write_15 ?_
  obtain ⟨F9, e10, h⟩ := Option.bind_eq_some_iff.mp h
  refine V.xputI C fl_Co_54 ft_3 fi_3_7 e10 d_Co_write_18 ?_
  refine V.aload_n C 0 rfl rfl d_Co_write_21 ?_
  refine V.dup C rfl d_Co_write_22 ?_
  obtain ⟨v11, e12, h⟩ := Option.bind_eq_some_iff.mp h
  refine V.xgetI C fl_Co_57 e12 d_Co_write_23 ?_
  refine V.iload_n C 1 rfl rfl d_Co_write_26 ?_
  refine V.aload_n C 0 rfl rfl d_Co_write_27 ?_
  obtain ⟨v13, e14, h⟩ := Option.bind_eq_some_iff.mp h
  refine V.xgetI C fl_Co_60 e14 d_Co_write_28 ?_
  refine V.ishl C d_Co_write_31 ?_
  refine V.ior C d_Co_write_32 ?_
  obtain ⟨F15, e16, h⟩ := Option.bind_eq_some_iff.mp h
  refine V.xputI C fl_Co_57 ft_3 fi_3_8 e16 d_Co_write_33 ?_
  refine V.aload_n C 0 rfl rfl d_Co_write_36 ?_
  refine V.dup C rfl d_Co_write_37 ?_
  obtain ⟨v17, e18, h⟩ := Option.bind_eq_some_iff.mp h
  refine V.xgetI C fl_Co_60 e18 d_Co_write_38 ?_
  refine V.aload_n C 0 rfl rfl d_Co_write_41 ?_
  refine V.xgetR C fl_Co_30 e6 d_Co_write_42 ?_
  obtain ⟨v19, e20, h⟩ := Option.bind_eq_some_iff.mp h
  refine V.xgetI C fl_Co_113 e20 d_Co_write_45 ?_
  refine V.iadd C d_Co_write_48 ?_
  obtain ⟨F21, e22, h⟩ := Option.bind_eq_some_iff.mp h
  refine V.xputI C fl_Co_60 ft_3 fi_3_9 e22 d_Co_write_49 ?_
  refine V.aload_n C 0 rfl rfl d_Co_write_52 ?_
  obtain ⟨v23, e24, h⟩ := Option.bind_eq_some_iff.mp h
  refine V.xgetI C fl_Co_60 e24 d_Co_write_53 ?_
  refine V.bipush C 8 (by decide) d_Co_write_56 ?_
  have c25 : ¬ (8 : Int32) = (0 : Int32) := fun q => by rw [if_pos q] at h; cases h
  rw [if_neg c25] at h
  refine V.idiv C c25 d_Co_write_58 ?_
  refine V.is2 C (by decide) rfl d_Co_write_59 ?_
  exact V.weak (xsub_spec (by simp [xsub])) ((l_Co_write C hr N) (v23 / (8 : Int32)) F21 _ h)
def f_Co_startLook (S : List xO) (a : Nat) (F : xF) : Option xF :=
  (pI S 3 a 10 (0 : Int32) F).bind fun F1 =>
  (pI S 3 a 11 (0 : Int32) F1).bind fun F3 =>
  some F3
set_option maxHeartbeats 4000000 in
set_option maxRecDepth 100000 in
theorem c_Co_startLook {l : Launch} {g : xG} {S : List xO} {G : xL} {a : Nat} {F : xF} {F2 : xF} (h : f_Co_startLook S a F = some F2) : CT l g 0 0 0 0 y_Co_startLook b_Co_startLook 1 none 1 [.ref a] S F G none S F2 G := by
  refine CT.of [some (.ref a)] (by decide) (Nat.le_of_ble_eq_true rfl) rfl ?_
  intro p e s m args below meth c C hr hmn hz
  unfold f_Co_startLook at h
  refine V.aload_n C 0 rfl rfl d_Co_startLook_0 ?_
  refine V.iconst C 0 (by decide) d_Co_startLook_1 ?_
  obtain ⟨F1, e2, h⟩ := Option.bind_eq_some_iff.mp h
  refine V.xputI C fl_Co_107 ft_3 fi_3_10 e2 d_Co_startLook_2 ?_
  refine V.aload_n C 0 rfl rfl d_Co_startLook_5 ?_
  refine V.iconst C 0 (by decide) d_Co_startLook_6 ?_
  obtain ⟨F3, e4, h⟩ := Option.bind_eq_some_iff.mp h
  refine V.xputI C fl_Co_110 ft_3 fi_3_11 e4 d_Co_startLook_7 ?_
  obtain rfl := Option.some.inj h
  exact V.vret C hr d_Co_startLook_10 rfl rfl rfl
def f_Co_writeClear (S : List xO) (N : Nat) (a : Nat) (F : xF) : Option xF :=
  (gI S 3 a 0 F).bind fun v1 =>
  (xcl S 3 a (f_Co_write S N a v1 F)).bind fun F3 =>
  (gI S 3 a 6 F3).bind fun v5 =>
  (pI S 3 a 6 (v5 + (1 : Int32)) F3).bind fun F7 =>
  (gR S 3 a 3).bind fun q9 =>
  (xcl S 2 q9 (f_St_empty S N q9 F7)).bind fun F11 =>
  (gR S 3 a 2).bind fun q13 =>
  (xcl S 1 q13 (f_Wi_restart S q13 F11)).bind fun F15 =>
  (f_Co_startLook S a F15).bind fun F17 =>
  some F17
set_option maxHeartbeats 4000000 in
set_option maxRecDepth 100000 in
theorem c_Co_writeClear {l : Launch} {g : xG} {S : List xO} {G : xL} {a : Nat} {N : Nat} {F : xF} {F2 : xF} (h : f_Co_writeClear S N a F = some F2) : CT l g 2 43 0 0 y_Co_writeClear b_Co_writeClear 1 none 1 [.ref a] S F G none S F2 G := by
  refine CT.of [some (.ref a)] (by decide) (Nat.le_of_ble_eq_true rfl) rfl ?_
  intro p e s m args below meth c C hr hmn hz
  unfold f_Co_writeClear at h
  refine V.aload_n C 0 rfl rfl d_Co_writeClear_0 ?_
  refine V.aload_n C 0 rfl rfl d_Co_writeClear_1 ?_
  obtain ⟨v1, e2, h⟩ := Option.bind_eq_some_iff.mp h
  refine V.xgetI C fl_Co_20 e2 d_Co_writeClear_2 ?_
  obtain ⟨F3, e4, h⟩ := Option.bind_eq_some_iff.mp h
  obtain ⟨⟨fs_e4, s_e4⟩, e4⟩ := xcl_spec e4
  refine V.cVv C (c_Co_write e4) ml_Co_91 s_e4 rfl rfl (by decide) (Nat.le_of_ble_eq_true rfl) d_Co_writeClear_5 ?_
  refine V.aload_n C 0 rfl rfl d_Co_writeClear_8 ?_
  refine V.dup C rfl d_Co_writeClear_9 ?_
  obtain ⟨v5, e6, h⟩ := Option.bind_eq_some_iff.mp h
  refine V.xgetI C fl_Co_51 e6 d_Co_writeClear_10 ?_
  refine V.iconst C 1 (by decide) d_Co_writeClear_13 ?_
  refine V.iadd C d_Co_writeClear_14 ?_
  obtain ⟨F7, e8, h⟩ := Option.bind_eq_some_iff.mp h
  refine V.xputI C fl_Co_51 ft_3 fi_3_6 e8 d_Co_writeClear_15 ?_
  refine V.aload_n C 0 rfl rfl d_Co_writeClear_18 ?_
  obtain ⟨q9, e10, h⟩ := Option.bind_eq_some_iff.mp h
  refine V.xgetR C fl_Co_37 e10 d_Co_writeClear_19 ?_
  obtain ⟨F11, e12, h⟩ := Option.bind_eq_some_iff.mp h
  obtain ⟨⟨fs_e12, s_e12⟩, e12⟩ := xcl_spec e12
  refine V.cVv C (c_St_empty e12) ml_Co_44 s_e12 rfl rfl (by decide) (Nat.le_of_ble_eq_true rfl) d_Co_writeClear_22 ?_
  refine V.aload_n C 0 rfl rfl d_Co_writeClear_25 ?_
  obtain ⟨q13, e14, h⟩ := Option.bind_eq_some_iff.mp h
  refine V.xgetR C fl_Co_30 e14 d_Co_writeClear_26 ?_
  obtain ⟨F15, e16, h⟩ := Option.bind_eq_some_iff.mp h
  obtain ⟨⟨fs_e16, s_e16⟩, e16⟩ := xcl_spec e16
  refine V.cVv C (c_Wi_restart e16) ml_Co_45 s_e16 rfl rfl (by decide) (Nat.le_of_ble_eq_true rfl) d_Co_writeClear_29 ?_
  refine V.aload_n C 0 rfl rfl d_Co_writeClear_32 ?_
  obtain ⟨F17, e18, h⟩ := Option.bind_eq_some_iff.mp h
  refine V.cVv C (c_Co_startLook e18) ml_Co_97 s_e4 rfl rfl (by decide) (Nat.le_of_ble_eq_true rfl) d_Co_writeClear_33 ?_
  obtain rfl := Option.some.inj h
  exact V.vret C hr d_Co_writeClear_36 rfl rfl rfl
def f_Co_writeEntry (S : List xO) (N : Nat) (a : Nat) (p0 : Int32) (p1 : Int32) (F : xF) : Option xF :=
  (xcl S 3 a (f_Co_write S N a p0 F)).bind fun F1 =>
  (gR S 3 a 2).bind fun q3 =>
  (xcl S 1 q3 (f_Wi_behindEntry S q3 F1)).bind fun F5 =>
  (gR S 3 a 3).bind fun q7 =>
  (xcl S 2 q7 (f_St_isFull S q7 F5)).bind fun v9 =>
  if v9 = (0 : Int32) then
    some F5
  else
  (gI S 3 a 10 F5).bind fun v12 =>
  (pI S 3 a 10 (v12 + (1 : Int32)) F5).bind fun F14 =>
  (gI S 3 a 11 F14).bind fun v16 =>
  (pI S 3 a 11 (v16 + p1) F14).bind fun F18 =>
  some F18
set_option maxHeartbeats 4000000 in
set_option maxRecDepth 100000 in
theorem c_Co_writeEntry {l : Launch} {g : xG} {S : List xO} {G : xL} {a : Nat} {p0 : Int32} {p1 : Int32} {N : Nat} {F : xF} {F2 : xF} (h : f_Co_writeEntry S N a p0 p1 F = some F2) : CT l g 2 43 0 0 y_Co_writeEntry b_Co_writeEntry 3 none 1 [.ref a, .int p0, .int p1] S F G none S F2 G := by
  refine CT.of [some (.ref a), some (.int p0), some (.int p1)] (by decide) (Nat.le_of_ble_eq_true rfl) rfl ?_
  intro p e s m args below meth c C hr hmn hz
  unfold f_Co_writeEntry at h
  refine V.aload_n C 0 rfl rfl d_Co_writeEntry_0 ?_
  refine V.iload_n C 1 rfl rfl d_Co_writeEntry_1 ?_
  obtain ⟨F1, e2, h⟩ := Option.bind_eq_some_iff.mp h
  obtain ⟨⟨fs_e2, s_e2⟩, e2⟩ := xcl_spec e2
  refine V.cVv C (c_Co_write e2) ml_Co_91 s_e2 rfl rfl (by decide) (Nat.le_of_ble_eq_true rfl) d_Co_writeEntry_2 ?_
  refine V.aload_n C 0 rfl rfl d_Co_writeEntry_5 ?_
  obtain ⟨q3, e4, h⟩ := Option.bind_eq_some_iff.mp h
  refine V.xgetR C fl_Co_30 e4 d_Co_writeEntry_6 ?_
  obtain ⟨F5, e6, h⟩ := Option.bind_eq_some_iff.mp h
  obtain ⟨⟨fs_e6, s_e6⟩, e6⟩ := xcl_spec e6
  refine V.cVv C (c_Wi_behindEntry e6) ml_Co_100 s_e6 rfl rfl (by decide) (Nat.le_of_ble_eq_true rfl) d_Co_writeEntry_9 ?_
  refine V.aload_n C 0 rfl rfl d_Co_writeEntry_12 ?_
  obtain ⟨q7, e8, h⟩ := Option.bind_eq_some_iff.mp h
  refine V.xgetR C fl_Co_37 e8 d_Co_writeEntry_13 ?_
  obtain ⟨v9, e10, h⟩ := Option.bind_eq_some_iff.mp h
  obtain ⟨⟨fs_e10, s_e10⟩, e10⟩ := xcl_spec e10
  refine V.cVr C (c_St_isFull e10) ml_Co_103 s_e10 rfl rfl (by decide) (Nat.le_of_ble_eq_true rfl) d_Co_writeEntry_16 ?_
  refine V.if_eq C 42 (by decide) d_Co_writeEntry_19 (fun c11 => ?_) (fun c11 => ?_)
  · rw [if_pos c11] at h
    obtain rfl := Option.some.inj h
    exact V.vret C hr d_Co_writeEntry_42 rfl rfl rfl
  · rw [if_neg c11] at h
    refine V.aload_n C 0 rfl rfl d_Co_writeEntry_22 ?_
    refine V.dup C rfl d_Co_writeEntry_23 ?_
    obtain ⟨v12, e13, h⟩ := Option.bind_eq_some_iff.mp h
    refine V.xgetI C fl_Co_107 e13 d_Co_writeEntry_24 ?_
    refine V.iconst C 1 (by decide) d_Co_writeEntry_27 ?_
    refine V.iadd C d_Co_writeEntry_28 ?_
    obtain ⟨F14, e15, h⟩ := Option.bind_eq_some_iff.mp h
    refine V.xputI C fl_Co_107 ft_3 fi_3_10 e15 d_Co_writeEntry_29 ?_
    refine V.aload_n C 0 rfl rfl d_Co_writeEntry_32 ?_
    refine V.dup C rfl d_Co_writeEntry_33 ?_
    obtain ⟨v16, e17, h⟩ := Option.bind_eq_some_iff.mp h
    refine V.xgetI C fl_Co_110 e17 d_Co_writeEntry_34 ?_
    refine V.iload_n C 2 rfl rfl d_Co_writeEntry_37 ?_
    refine V.iadd C d_Co_writeEntry_38 ?_
    obtain ⟨F18, e19, h⟩ := Option.bind_eq_some_iff.mp h
    refine V.xputI C fl_Co_110 ft_3 fi_3_11 e19 d_Co_writeEntry_39 ?_
    obtain rfl := Option.some.inj h
    exact V.vret C hr d_Co_writeEntry_42 rfl rfl rfl
def f_Co_isClearDue (S : List xO) (a : Nat) (p0 : Int32) (F : xF) : Option (Int32 × xF) :=
  if p0 = (1 : Int32) then
    some ((0 : Int32), F)
  else
  (gR S 3 a 3).bind fun q2 =>
  (xcl S 2 q2 (f_St_isFull S q2 F)).bind fun v4 =>
  if v4 = (0 : Int32) then
    some ((0 : Int32), F)
  else
  if p0 = (0 : Int32) then
    some ((1 : Int32), F)
  else
  (gI S 3 a 10 F).bind fun v8 =>
  if (64 : Int32) ≤ v8 then
    (gI S 3 a 11 F).bind fun v11 =>
    if (256 : Int32) ≤ v11 then
      (xcl S 3 a (f_Co_startLook S a F)).bind fun F14 =>
      some ((0 : Int32), F14)
    else
    (xcl S 3 a (f_Co_startLook S a F)).bind fun F16 =>
    some ((1 : Int32), F16)
  else
  some ((0 : Int32), F)
set_option maxHeartbeats 4000000 in
set_option maxRecDepth 100000 in
theorem c_Co_isClearDue {l : Launch} {g : xG} {S : List xO} {G : xL} {a : Nat} {p0 : Int32} {F : xF} {r : Int32} {F2 : xF} (h : f_Co_isClearDue S a p0 F = some (r, F2)) : CT l g 1 20 0 0 y_Co_isClearDue b_Co_isClearDue 3 (some .boolean) 1 [.ref a, .int p0] S F G (some (.int r)) S F2 G := by
  refine CT.of [some (.ref a), some (.int p0), none] (by decide) (Nat.le_of_ble_eq_true rfl) rfl ?_
  intro p e s m args below meth c C hr hmn hz
  unfold f_Co_isClearDue at h
  refine V.iload_n C 1 rfl rfl d_Co_isClearDue_0 ?_
  refine V.iconst C 1 (by decide) d_Co_isClearDue_1 ?_
  refine V.icmp_eq C 15 (by decide) d_Co_isClearDue_2 (fun c1 => ?_) (fun c1 => ?_)
  · rw [if_pos c1] at h
    refine V.iconst C 0 (by decide) d_Co_isClearDue_15 ?_
    obtain ⟨rfl, rfl⟩ := Prod.mk.inj (Option.some.inj h)
    exact V.zret C hr (by first | rfl | exact xz_narrow (by assumption)) d_Co_isClearDue_16 rfl rfl rfl rfl
  · rw [if_neg c1] at h
    refine V.aload_n C 0 rfl rfl d_Co_isClearDue_5 ?_
    obtain ⟨q2, e3, h⟩ := Option.bind_eq_some_iff.mp h
    refine V.xgetR C fl_Co_37 e3 d_Co_isClearDue_6 ?_
    obtain ⟨v4, e5, h⟩ := Option.bind_eq_some_iff.mp h
    obtain ⟨⟨fs_e5, s_e5⟩, e5⟩ := xcl_spec e5
    refine V.cVr C (c_St_isFull e5) ml_Co_103 s_e5 rfl rfl (by decide) (Nat.le_of_ble_eq_true rfl) d_Co_isClearDue_9 ?_
    refine V.if_ne C 17 (by decide) d_Co_isClearDue_12 (fun c6 => ?_) (fun c6 => ?_)
    · rw [if_neg c6] at h
      refine V.iload_n C 1 rfl rfl d_Co_isClearDue_17 ?_
      refine V.if_ne C 23 (by decide) d_Co_isClearDue_18 (fun c7 => ?_) (fun c7 => ?_)
      · rw [if_neg c7] at h
        refine V.aload_n C 0 rfl rfl d_Co_isClearDue_23 ?_
        obtain ⟨v8, e9, h⟩ := Option.bind_eq_some_iff.mp h
        refine V.xgetI C fl_Co_107 e9 d_Co_isClearDue_24 ?_
        refine V.bipush C 64 (by decide) d_Co_isClearDue_27 ?_
        refine V.icmp_ge C 34 (by decide) d_Co_isClearDue_29 (fun c10 => ?_) (fun c10 => ?_)
        · rw [if_pos c10] at h
          refine V.aload_n C 0 rfl rfl d_Co_isClearDue_34 ?_
          obtain ⟨v11, e12, h⟩ := Option.bind_eq_some_iff.mp h
          refine V.xgetI C fl_Co_110 e12 d_Co_isClearDue_35 ?_
          refine V.sipush C 256 (by decide) d_Co_isClearDue_38 ?_
          refine V.icmp_ge C 48 (by decide) d_Co_isClearDue_41 (fun c13 => ?_) (fun c13 => ?_)
          · rw [if_pos c13] at h
            refine V.iconst C 0 (by decide) d_Co_isClearDue_48 ?_
            refine V.is2 C (by decide) rfl d_Co_isClearDue_49 ?_
            refine V.aload_n C 0 rfl rfl d_Co_isClearDue_50 ?_
            obtain ⟨F14, e15, h⟩ := Option.bind_eq_some_iff.mp h
            obtain ⟨⟨fs_e15, s_e15⟩, e15⟩ := xcl_spec e15
            refine V.cVv C (c_Co_startLook e15) ml_Co_97 s_e15 rfl rfl (by decide) (Nat.le_of_ble_eq_true rfl) d_Co_isClearDue_51 ?_
            refine V.iload_n C 2 rfl rfl d_Co_isClearDue_54 ?_
            obtain ⟨rfl, rfl⟩ := Prod.mk.inj (Option.some.inj h)
            exact V.zret C hr (by first | rfl | exact xz_narrow (by assumption)) d_Co_isClearDue_55 rfl rfl rfl rfl
          · rw [if_neg c13] at h
            refine V.iconst C 1 (by decide) d_Co_isClearDue_44 ?_
            refine V.goto C 49 (by decide) d_Co_isClearDue_45 ?_
            refine V.is2 C (by decide) rfl d_Co_isClearDue_49 ?_
            refine V.aload_n C 0 rfl rfl d_Co_isClearDue_50 ?_
            obtain ⟨F16, e17, h⟩ := Option.bind_eq_some_iff.mp h
            obtain ⟨⟨fs_e17, s_e17⟩, e17⟩ := xcl_spec e17
            refine V.cVv C (c_Co_startLook e17) ml_Co_97 s_e17 rfl rfl (by decide) (Nat.le_of_ble_eq_true rfl) d_Co_isClearDue_51 ?_
            refine V.iload_n C 2 rfl rfl d_Co_isClearDue_54 ?_
            obtain ⟨rfl, rfl⟩ := Prod.mk.inj (Option.some.inj h)
            exact V.zret C hr (by first | rfl | exact xz_narrow (by assumption)) d_Co_isClearDue_55 rfl rfl rfl rfl
        · rw [if_neg c10] at h
          refine V.iconst C 0 (by decide) d_Co_isClearDue_32 ?_
          obtain ⟨rfl, rfl⟩ := Prod.mk.inj (Option.some.inj h)
          exact V.zret C hr (by first | rfl | exact xz_narrow (by assumption)) d_Co_isClearDue_33 rfl rfl rfl rfl
      · rw [if_pos c7] at h
        refine V.iconst C 1 (by decide) d_Co_isClearDue_21 ?_
        obtain ⟨rfl, rfl⟩ := Prod.mk.inj (Option.some.inj h)
        exact V.zret C hr (by first | rfl | exact xz_narrow (by assumption)) d_Co_isClearDue_22 rfl rfl rfl rfl
    · rw [if_pos c6] at h
      refine V.iconst C 0 (by decide) d_Co_isClearDue_15 ?_
      obtain ⟨rfl, rfl⟩ := Prod.mk.inj (Option.some.inj h)
      exact V.zret C hr (by first | rfl | exact xz_narrow (by assumption)) d_Co_isClearDue_16 rfl rfl rfl rfl
def f_Co_writeRest (S : List xO) (a : Nat) (F : xF) : Option xF :=
  (gI S 3 a 9 F).bind fun v1 =>
  if v1 ≤ (0 : Int32) then
    some F
  else
  (gR S 3 a 4).bind fun q4 =>
  (gI S 3 a 8 F).bind fun v6 =>
  (xcl S 0 q4 (f_Nu_add S q4 (v6 &&& (255 : Int32)) F)).bind fun F8 =>
  some F8
set_option maxHeartbeats 4000000 in
set_option maxRecDepth 100000 in
theorem c_Co_writeRest {l : Launch} {g : xG} {S : List xO} {G : xL} {a : Nat} {F : xF} {F2 : xF} (h : f_Co_writeRest S a F = some F2) : CT l g 1 21 0 0 y_Co_writeRest b_Co_writeRest 1 none 1 [.ref a] S F G none S F2 G := by
  refine CT.of [some (.ref a)] (by decide) (Nat.le_of_ble_eq_true rfl) rfl ?_
  intro p e s m args below meth c C hr hmn hz
  unfold f_Co_writeRest at h
  refine V.aload_n C 0 rfl rfl d_Co_writeRest_0 ?_
  obtain ⟨v1, e2, h⟩ := Option.bind_eq_some_iff.mp h
  refine V.xgetI C fl_Co_60 e2 d_Co_writeRest_1 ?_
  refine V.if_le C 22 (by decide) d_Co_writeRest_4 (fun c3 => ?_) (fun c3 => ?_)
  · rw [if_pos c3] at h
    obtain rfl := Option.some.inj h
    exact V.vret C hr d_Co_writeRest_22 rfl rfl rfl
  · rw [if_neg c3] at h
    refine V.aload_n C 0 rfl rfl d_Co_writeRest_7 ?_
    obtain ⟨q4, e5, h⟩ := Option.bind_eq_some_iff.mp h
    refine V.xgetR C fl_Co_14 e5 d_Co_writeRest_8 ?_
    refine V.aload_n C 0 rfl rfl d_Co_writeRest_11 ?_
    obtain ⟨v6, e7, h⟩ := Option.bind_eq_some_iff.mp h
    refine V.xgetI C fl_Co_57 e7 d_Co_writeRest_12 ?_
    refine V.sipush C 255 (by decide) d_Co_writeRest_15 ?_
    refine V.iand C d_Co_writeRest_18 ?_
    obtain ⟨F8, e9, h⟩ := Option.bind_eq_some_iff.mp h
    obtain ⟨⟨fs_e9, s_e9⟩, e9⟩ := xcl_spec e9
    refine V.cVv C (c_Nu_add e9) ml_Co_116 s_e9 rfl rfl (by decide) (Nat.le_of_ble_eq_true rfl) d_Co_writeRest_19 ?_
    obtain rfl := Option.some.inj h
    exact V.vret C hr d_Co_writeRest_22 rfl rfl rfl
def t_Co_codeRow (S : List xO) (N : Nat) (a : Nat) (p0 : Nat) (p1 : Int32) : Nat → Int32 → Int32 → Int32 → xF → Option xF
  | 0, _, _, _, _ => none
  | n + 1, u3, u4, u5, F =>
    (gI S 0 p0 1 F).bind fun v7 =>
    if v7 ≤ u5 then
      (gI S 0 p0 1 F).bind fun v10 =>
      if v10 ≤ (0 : Int32) then
        (gI S 3 a 1 F).bind fun v13 =>
        (xcl S 3 a (f_Co_write S N a v13 F)).bind fun F15 =>
        (f_Co_writeRest S a F15).bind fun F17 =>
        some F17
      else
      (gI S 0 p0 1 F).bind fun v19 =>
      (xcl S 3 a (f_Co_writeEntry S N a u3 (v19 - u4) F)).bind fun F21 =>
      (gI S 3 a 1 F21).bind fun v23 =>
      (f_Co_write S N a v23 F21).bind fun F25 =>
      (f_Co_writeRest S a F25).bind fun F27 =>
      some F27
    else
    (xcl S 0 p0 (f_Nu_get S p0 u5 F)).bind fun v29 =>
    (gR S 3 a 3).bind fun q31 =>
    (xcl S 2 q31 (f_St_find S N q31 u3 v29 F)).bind fun v33 =>
    if v33 = (-1 : Int32) then
      (xcl S 3 a (f_Co_writeEntry S N a u3 (u5 - u4) F)).bind fun F36 =>
      (f_St_add S N q31 u3 v29 F36).bind fun F38 =>
      (f_Co_isClearDue S a p1 F38).bind fun ⟨v40, F41⟩ =>
      if v40 = (0 : Int32) then
        t_Co_codeRow S N a p0 p1 n v29 u5 (u5 + (1 : Int32)) F41
      else
      (f_Co_writeClear S N a F41).bind fun F44 =>
      t_Co_codeRow S N a p0 p1 n v29 u5 (u5 + (1 : Int32)) F44
    else
    t_Co_codeRow S N a p0 p1 n v33 u4 (u5 + (1 : Int32)) F
set_option maxHeartbeats 4000000 in
set_option maxRecDepth 100000 in
theorem l_Co_codeRow {p : Program} {l : Launch} {e : Env} {s : State} {m : MethodId} {args : Array Value} {below : List Frame} {meth : Method} {c : Code} {g : xG} {S : List xO} {G : xL} {a : Nat} {p0 : Nat} {p1 : Int32} {N : Nat} (C : Cx p s m args meth c b_Co_codeRow 8 "PaletteFrames$Coder" g) (hr : meth.sig.returnType = none) : ∀ (n : Nat), (∀ (u3 : Int32) (u4 : Int32) (u5 : Int32) (F : xF) (F2 : xF), t_Co_codeRow S N a p0 p1 n u3 u4 u5 F = some F2 → V p l e (xRm 3 65 0 0) s m args below meth c (xMQ g below args s 0 0 S F2 G none) 8 g S F G 0 0 20 [some (.ref a), some (.ref p0), some (.int p1), some (.int u3), some (.int u4), some (.int u5), none, none] []) := by
  intro n
  induction n with
  | zero =>
    intro u3 u4 u5 F F2 h
    cases h
  | succ n ih =>
    intro u3 u4 u5 F F2 h
    rw [t_Co_codeRow] at h
    refine V.iload C rfl d_Co_codeRow_20 ?_
    refine V.aload_n C 1 rfl rfl d_Co_codeRow_22 ?_
    obtain ⟨v7, e8, h⟩ := Option.bind_eq_some_iff.mp h
    refine V.xgetI C fl_Co_73 e8 d_Co_codeRow_23 ?_
    refine V.icmp_ge C 106 (by decide) d_Co_codeRow_26 (fun c9 => ?_) (fun c9 => ?_)
    · rw [if_pos c9] at h
      refine V.aload_n C 1 rfl rfl d_Co_codeRow_106 ?_
      obtain ⟨v10, e11, h⟩ := Option.bind_eq_some_iff.mp h
      refine V.xgetI C fl_Co_73 e11 d_Co_codeRow_107 ?_
      refine V.if_le C 125 (by decide) d_Co_codeRow_110 (fun c12 => ?_) (fun c12 => ?_)
      · rw [if_pos c12] at h
        refine V.aload_n C 0 rfl rfl d_Co_codeRow_125 ?_
        refine V.aload_n C 0 rfl rfl d_Co_codeRow_126 ?_
        obtain ⟨v13, e14, h⟩ := Option.bind_eq_some_iff.mp h
        refine V.xgetI C fl_Co_24 e14 d_Co_codeRow_127 ?_
        obtain ⟨F15, e16, h⟩ := Option.bind_eq_some_iff.mp h
        obtain ⟨⟨fs_e16, s_e16⟩, e16⟩ := xcl_spec e16
        refine V.cVv C (c_Co_write e16) ml_Co_91 s_e16 rfl rfl (by decide) (Nat.le_of_ble_eq_true rfl) d_Co_codeRow_130 ?_
        refine V.aload_n C 0 rfl rfl d_Co_codeRow_133 ?_
        obtain ⟨F17, e18, h⟩ := Option.bind_eq_some_iff.mp h
        refine V.cVv C (c_Co_writeRest e18) ml_Co_94 s_e16 rfl rfl (by decide) (Nat.le_of_ble_eq_true rfl) d_Co_codeRow_134 ?_
        obtain rfl := Option.some.inj h
        exact V.vret C hr d_Co_codeRow_137 rfl rfl rfl
      · rw [if_neg c12] at h
        refine V.aload_n C 0 rfl rfl d_Co_codeRow_113 ?_
        refine V.iload_n C 3 rfl rfl d_Co_codeRow_114 ?_
        refine V.aload_n C 1 rfl rfl d_Co_codeRow_115 ?_
        obtain ⟨v19, e20, h⟩ := Option.bind_eq_some_iff.mp h
        refine V.xgetI C fl_Co_73 e20 d_Co_codeRow_116 ?_
        refine V.iload C rfl d_Co_codeRow_119 ?_
        refine V.isub C d_Co_codeRow_121 ?_
        obtain ⟨F21, e22, h⟩ := Option.bind_eq_some_iff.mp h
        obtain ⟨⟨fs_e22, s_e22⟩, e22⟩ := xcl_spec e22
        refine V.cVv C (c_Co_writeEntry e22) ml_Co_80 s_e22 rfl rfl (by decide) (Nat.le_of_ble_eq_true rfl) d_Co_codeRow_122 ?_
        refine V.aload_n C 0 rfl rfl d_Co_codeRow_125 ?_
        refine V.aload_n C 0 rfl rfl d_Co_codeRow_126 ?_
        obtain ⟨v23, e24, h⟩ := Option.bind_eq_some_iff.mp h
        refine V.xgetI C fl_Co_24 e24 d_Co_codeRow_127 ?_
        obtain ⟨F25, e26, h⟩ := Option.bind_eq_some_iff.mp h
        refine V.cVv C (c_Co_write e26) ml_Co_91 s_e22 rfl rfl (by decide) (Nat.le_of_ble_eq_true rfl) d_Co_codeRow_130 ?_
        refine V.aload_n C 0 rfl rfl d_Co_codeRow_133 ?_
        obtain ⟨F27, e28, h⟩ := Option.bind_eq_some_iff.mp h
        refine V.cVv C (c_Co_writeRest e28) ml_Co_94 s_e22 rfl rfl (by decide) (Nat.le_of_ble_eq_true rfl) d_Co_codeRow_134 ?_
        obtain rfl := Option.some.inj h
        exact V.vret C hr d_Co_codeRow_137 rfl rfl rfl
    · rw [if_neg c9] at h
      refine V.aload_n C 1 rfl rfl d_Co_codeRow_29 ?_
      refine V.iload C rfl d_Co_codeRow_30 ?_
      obtain ⟨v29, e30, h⟩ := Option.bind_eq_some_iff.mp h
      obtain ⟨⟨fs_e30, s_e30⟩, e30⟩ := xcl_spec e30
      refine V.cVr C (c_Nu_get e30) ml_Co_69 s_e30 rfl rfl (by decide) (Nat.le_of_ble_eq_true rfl) d_Co_codeRow_32 ?_
      refine V.is6 C (by decide) rfl d_Co_codeRow_35 ?_
      refine V.aload_n C 0 rfl rfl d_Co_codeRow_37 ?_
      obtain ⟨q31, e32, h⟩ := Option.bind_eq_some_iff.mp h
      refine V.xgetR C fl_Co_37 e32 d_Co_codeRow_38 ?_
      refine V.iload_n C 3 rfl rfl d_Co_codeRow_41 ?_
      refine V.iload C rfl d_Co_codeRow_42 ?_
      obtain ⟨v33, e34, h⟩ := Option.bind_eq_some_iff.mp h
      obtain ⟨⟨fs_e34, s_e34⟩, e34⟩ := xcl_spec e34
      refine V.cVr C (c_St_find e34) ml_Co_76 s_e34 rfl rfl (by decide) (Nat.le_of_ble_eq_true rfl) d_Co_codeRow_44 ?_
      refine V.is7 C (by decide) rfl d_Co_codeRow_47 ?_
      refine V.iload C rfl d_Co_codeRow_49 ?_
      refine V.iconst C (-1) (by decide) d_Co_codeRow_51 ?_
      refine V.icmp_eq C 61 (by decide) d_Co_codeRow_52 (fun c35 => ?_) (fun c35 => ?_)
      · rw [if_pos c35] at h
        refine V.aload_n C 0 rfl rfl d_Co_codeRow_61 ?_
        refine V.iload_n C 3 rfl rfl d_Co_codeRow_62 ?_
        refine V.iload C rfl d_Co_codeRow_63 ?_
        refine V.iload C rfl d_Co_codeRow_65 ?_
        refine V.isub C d_Co_codeRow_67 ?_
        obtain ⟨F36, e37, h⟩ := Option.bind_eq_some_iff.mp h
        obtain ⟨⟨fs_e37, s_e37⟩, e37⟩ := xcl_spec e37
        refine V.cVv C (c_Co_writeEntry e37) ml_Co_80 s_e37 rfl rfl (by decide) (Nat.le_of_ble_eq_true rfl) d_Co_codeRow_68 ?_
        refine V.aload_n C 0 rfl rfl d_Co_codeRow_71 ?_
        refine V.xgetR C fl_Co_37 e32 d_Co_codeRow_72 ?_
        refine V.iload_n C 3 rfl rfl d_Co_codeRow_75 ?_
        refine V.iload C rfl d_Co_codeRow_76 ?_
        obtain ⟨F38, e39, h⟩ := Option.bind_eq_some_iff.mp h
        refine V.cVv C (c_St_add e39) ml_Co_84 s_e34 rfl rfl (by decide) (Nat.le_of_ble_eq_true rfl) d_Co_codeRow_78 ?_
        refine V.aload_n C 0 rfl rfl d_Co_codeRow_81 ?_
        refine V.iload_n C 2 rfl rfl d_Co_codeRow_82 ?_
        obtain ⟨⟨v40, F41⟩, e42, h⟩ := Option.bind_eq_some_iff.mp h
        dsimp only at h
        refine V.cVr C (c_Co_isClearDue e42) ml_Co_87 s_e37 rfl rfl (by decide) (Nat.le_of_ble_eq_true rfl) d_Co_codeRow_83 ?_
        refine V.if_eq C 93 (by decide) d_Co_codeRow_86 (fun c43 => ?_) (fun c43 => ?_)
        · rw [if_pos c43] at h
          refine V.iload C rfl d_Co_codeRow_93 ?_
          refine V.is3 C (by decide) rfl d_Co_codeRow_95 ?_
          refine V.iload C rfl d_Co_codeRow_96 ?_
          refine V.is4 C (by decide) rfl d_Co_codeRow_98 ?_
          refine V.inc5 C 1 (by decide) (by decide) rfl d_Co_codeRow_100 ?_
          refine V.goto C 20 (by decide) d_Co_codeRow_103 ?_
          exact V.weak (xsub_spec (by simp [xsub])) (ih v29 u5 (u5 + (1 : Int32)) F41 _ h)
        · rw [if_neg c43] at h
          refine V.aload_n C 0 rfl rfl d_Co_codeRow_89 ?_
          obtain ⟨F44, e45, h⟩ := Option.bind_eq_some_iff.mp h
          refine V.cVv C (c_Co_writeClear e45) ml_Co_66 s_e37 rfl rfl (by decide) (Nat.le_of_ble_eq_true rfl) d_Co_codeRow_90 ?_
          refine V.iload C rfl d_Co_codeRow_93 ?_
          refine V.is3 C (by decide) rfl d_Co_codeRow_95 ?_
          refine V.iload C rfl d_Co_codeRow_96 ?_
          refine V.is4 C (by decide) rfl d_Co_codeRow_98 ?_
          refine V.inc5 C 1 (by decide) (by decide) rfl d_Co_codeRow_100 ?_
          refine V.goto C 20 (by decide) d_Co_codeRow_103 ?_
          exact V.weak (xsub_spec (by simp [xsub])) (ih v29 u5 (u5 + (1 : Int32)) F44 _ h)
      · rw [if_neg c35] at h
        refine V.iload C rfl d_Co_codeRow_55 ?_
        refine V.is3 C (by decide) rfl d_Co_codeRow_57 ?_
        refine V.goto C 100 (by decide) d_Co_codeRow_58 ?_
        refine V.inc5 C 1 (by decide) (by decide) rfl d_Co_codeRow_100 ?_
        refine V.goto C 20 (by decide) d_Co_codeRow_103 ?_
        exact V.weak (xsub_spec (by simp [xsub])) (ih v33 u4 (u5 + (1 : Int32)) F _ h)
def f_Co_codeRow (S : List xO) (N : Nat) (a : Nat) (p0 : Nat) (p1 : Int32) (F : xF) : Option xF :=
  (xcl S 3 a (f_Co_forget S N a F)).bind fun F1 =>
  (f_Co_writeClear S N a F1).bind fun F3 =>
  (xcl S 0 p0 (f_Nu_get S p0 (0 : Int32) F3)).bind fun v5 =>
  t_Co_codeRow S N a p0 p1 N v5 (0 : Int32) (1 : Int32) F3
set_option maxHeartbeats 4000000 in
set_option maxRecDepth 100000 in
theorem c_Co_codeRow {l : Launch} {g : xG} {S : List xO} {G : xL} {a : Nat} {p0 : Nat} {p1 : Int32} {N : Nat} {F : xF} {F2 : xF} (h : f_Co_codeRow S N a p0 p1 F = some F2) : CT l g 3 65 0 0 y_Co_codeRow b_Co_codeRow 8 none 1 [.ref a, .ref p0, .int p1] S F G none S F2 G := by
  refine CT.of [some (.ref a), some (.ref p0), some (.int p1), none, none, none, none, none] (by decide) (Nat.le_of_ble_eq_true rfl) rfl ?_
  intro p e s m args below meth c C hr hmn hz
  unfold f_Co_codeRow at h
  refine V.aload_n C 0 rfl rfl d_Co_codeRow_0 ?_
  obtain ⟨F1, e2, h⟩ := Option.bind_eq_some_iff.mp h
  obtain ⟨⟨fs_e2, s_e2⟩, e2⟩ := xcl_spec e2
  refine V.cVv C (c_Co_forget e2) ml_Co_63 s_e2 rfl rfl (by decide) (Nat.le_of_ble_eq_true rfl) d_Co_codeRow_1 ?_
  refine V.aload_n C 0 rfl rfl d_Co_codeRow_4 ?_
  obtain ⟨F3, e4, h⟩ := Option.bind_eq_some_iff.mp h
  refine V.cVv C (c_Co_writeClear e4) ml_Co_66 s_e2 rfl rfl (by decide) (Nat.le_of_ble_eq_true rfl) d_Co_codeRow_5 ?_
  refine V.aload_n C 1 rfl rfl d_Co_codeRow_8 ?_
  refine V.iconst C 0 (by decide) d_Co_codeRow_9 ?_
  obtain ⟨v5, e6, h⟩ := Option.bind_eq_some_iff.mp h
  obtain ⟨⟨fs_e6, s_e6⟩, e6⟩ := xcl_spec e6
  refine V.cVr C (c_Nu_get e6) ml_Co_69 s_e6 rfl rfl (by decide) (Nat.le_of_ble_eq_true rfl) d_Co_codeRow_10 ?_
  refine V.is3 C (by decide) rfl d_Co_codeRow_13 ?_
  refine V.iconst C 0 (by decide) d_Co_codeRow_14 ?_
  refine V.is4 C (by decide) rfl d_Co_codeRow_15 ?_
  refine V.iconst C 1 (by decide) d_Co_codeRow_17 ?_
  refine V.is5 C (by decide) rfl d_Co_codeRow_18 ?_
  exact V.weak (xsub_spec (by simp [xsub])) ((l_Co_codeRow C hr N) v5 (0 : Int32) (1 : Int32) F3 _ h)
