def t_Mo_clear (S : List xO) (N : Nat) (a : Nat) : Nat → Nat → Int32 → xF → Option xF
  | 0, _, _, _ => none
  | n + 1, tg, u1, F =>
    if tg = 0 then
      if (4 : Int32) ≤ u1 then
        (pI S 9 a 10 (0 : Int32) F).bind fun F10 =>
        (pI S 9 a 12 (0 : Int32) F10).bind fun F12 =>
        (pI S 9 a 23 (0 : Int32) F12).bind fun F14 =>
        t_Mo_clear S N a n 1 (0 : Int32) F14
      else
      (gR S 9 a 9).bind fun q16 =>
      (aP S q16 u1 (0 : Int32) F).bind fun F18 =>
      t_Mo_clear S N a n 0 (u1 + (1 : Int32)) F18
    else
    if (3328 : Int32) ≤ u1 then
      some F
    else
    (gR S 9 a 32).bind fun q21 =>
    (aP S q21 u1 (-1 : Int32) F).bind fun F23 =>
    t_Mo_clear S N a n 1 (u1 + (1 : Int32)) F23
set_option maxHeartbeats 4000000 in
set_option maxRecDepth 100000 in
theorem l_Mo_clear {p : Program} {l : Launch} {e : Env} {s : State} {m : MethodId} {args : Array Value} {below : List Frame} {meth : Method} {c : Code} {g : xG} {S : List xO} {G : xL} {a : Nat} {N : Nat} (C : Cx p s m args meth c b_Mo_clear 2 "PaletteFramesModel" g) (hr : meth.sig.returnType = none) : ∀ (n : Nat), (∀ (u1 : Int32) (F : xF) (F2 : xF), t_Mo_clear S N a n 0 u1 F = some F2 → V p l e (xRm 0 0 0 0) s m args below meth c (xMQ g below args s 0 0 S F2 G none) 2 g S F G 0 0 22 [some (.ref a), some (.int u1)] []) ∧ (∀ (u1 : Int32) (F : xF) (F2 : xF), t_Mo_clear S N a n 1 u1 F = some F2 → V p l e (xRm 0 0 0 0) s m args below meth c (xMQ g below args s 0 0 S F2 G none) 2 g S F G 0 0 57 [some (.ref a), some (.int u1)] []) := by
  intro n
  induction n with
  | zero =>
    refine ⟨?_, ?_⟩
    · intro u1 F F2 h
      cases h
    · intro u1 F F2 h
      cases h
  | succ n ih =>
    refine ⟨?_, ?_⟩
    · intro u1 F F2 h
      rw [t_Mo_clear] at h
      rw [if_pos rfl] at h
      refine V.iload_n C 1 rfl rfl d_Mo_clear_22 ?_
      refine V.iconst C 4 (by decide) d_Mo_clear_23 ?_
      refine V.icmp_ge C 40 (by decide) d_Mo_clear_24 (fun c9 => ?_) (fun c9 => ?_)
      · rw [if_pos c9] at h
        refine V.aload_n C 0 rfl rfl d_Mo_clear_40 ?_
        refine V.iconst C 0 (by decide) d_Mo_clear_41 ?_
        obtain ⟨F10, e11, h⟩ := Option.bind_eq_some_iff.mp h
        refine V.xputI C fl_Mo_104 ft_9 fi_9_10 e11 d_Mo_clear_42 ?_
        refine V.aload_n C 0 rfl rfl d_Mo_clear_45 ?_
        refine V.iconst C 0 (by decide) d_Mo_clear_46 ?_
        obtain ⟨F12, e13, h⟩ := Option.bind_eq_some_iff.mp h
        refine V.xputI C fl_Mo_107 ft_9 fi_9_12 e13 d_Mo_clear_47 ?_
        refine V.aload_n C 0 rfl rfl d_Mo_clear_50 ?_
        refine V.iconst C 0 (by decide) d_Mo_clear_51 ?_
        obtain ⟨F14, e15, h⟩ := Option.bind_eq_some_iff.mp h
        refine V.xputI C fl_Mo_110 ft_9 fi_9_23 e15 d_Mo_clear_52 ?_
        refine V.iconst C 0 (by decide) d_Mo_clear_55 ?_
        refine V.is1 C (by decide) rfl d_Mo_clear_56 ?_
        exact V.weak (xsub_spec (by simp [xsub])) (ih.2 (0 : Int32) F14 _ h)
      · rw [if_neg c9] at h
        refine V.aload_n C 0 rfl rfl d_Mo_clear_27 ?_
        obtain ⟨q16, e17, h⟩ := Option.bind_eq_some_iff.mp h
        refine V.xgetR C fl_Mo_17 e17 d_Mo_clear_28 ?_
        refine V.iload_n C 1 rfl rfl d_Mo_clear_31 ?_
        refine V.iconst C 0 (by decide) d_Mo_clear_32 ?_
        obtain ⟨F18, e19, h⟩ := Option.bind_eq_some_iff.mp h
        refine V.xiast C e19 d_Mo_clear_33 ?_
        refine V.inc1 C 1 (by decide) (by decide) rfl d_Mo_clear_34 ?_
        refine V.goto C 22 (by decide) d_Mo_clear_37 ?_
        exact V.weak (xsub_spec (by simp [xsub])) (ih.1 (u1 + (1 : Int32)) F18 _ h)
    · intro u1 F F2 h
      rw [t_Mo_clear] at h
      rw [if_neg (by decide)] at h
      refine V.iload_n C 1 rfl rfl d_Mo_clear_57 ?_
      refine V.sipush C 3328 (by decide) d_Mo_clear_58 ?_
      refine V.icmp_ge C 77 (by decide) d_Mo_clear_61 (fun c20 => ?_) (fun c20 => ?_)
      · rw [if_pos c20] at h
        obtain rfl := Option.some.inj h
        exact V.vret C hr d_Mo_clear_77 rfl rfl rfl
      · rw [if_neg c20] at h
        refine V.aload_n C 0 rfl rfl d_Mo_clear_64 ?_
        obtain ⟨q21, e22, h⟩ := Option.bind_eq_some_iff.mp h
        refine V.xgetR C fl_Mo_65 e22 d_Mo_clear_65 ?_
        refine V.iload_n C 1 rfl rfl d_Mo_clear_68 ?_
        refine V.iconst C (-1) (by decide) d_Mo_clear_69 ?_
        obtain ⟨F23, e24, h⟩ := Option.bind_eq_some_iff.mp h
        refine V.xiast C e24 d_Mo_clear_70 ?_
        refine V.inc1 C 1 (by decide) (by decide) rfl d_Mo_clear_71 ?_
        refine V.goto C 57 (by decide) d_Mo_clear_74 ?_
        exact V.weak (xsub_spec (by simp [xsub])) (ih.2 (u1 + (1 : Int32)) F23 _ h)
def f_Mo_clear (S : List xO) (N : Nat) (a : Nat) (F : xF) : Option xF :=
  (pI S 9 a 3 (0 : Int32) F).bind fun F1 =>
  (pI S 9 a 4 (0 : Int32) F1).bind fun F3 =>
  (pI S 9 a 5 (0 : Int32) F3).bind fun F5 =>
  (pI S 9 a 7 (0 : Int32) F5).bind fun F7 =>
  t_Mo_clear S N a N 0 (0 : Int32) F7
set_option maxHeartbeats 4000000 in
set_option maxRecDepth 100000 in
theorem c_Mo_clear {l : Launch} {g : xG} {S : List xO} {G : xL} {a : Nat} {N : Nat} {F : xF} {F2 : xF} (h : f_Mo_clear S N a F = some F2) : CT l g 0 0 0 0 y_Mo_clear b_Mo_clear 2 none 1 [.ref a] S F G none S F2 G := by
  refine CT.of [some (.ref a), none] (by decide) (Nat.le_of_ble_eq_true rfl) rfl ?_
  intro p e s m args below meth c C hr hmn hz
  unfold f_Mo_clear at h
  refine V.aload_n C 0 rfl rfl d_Mo_clear_0 ?_
  refine V.iconst C 0 (by decide) d_Mo_clear_1 ?_
  obtain ⟨F1, e2, h⟩ := Option.bind_eq_some_iff.mp h
  refine V.xputI C fl_Mo_92 ft_9 fi_9_3 e2 d_Mo_clear_2 ?_
  refine V.aload_n C 0 rfl rfl d_Mo_clear_5 ?_
  refine V.iconst C 0 (by decide) d_Mo_clear_6 ?_
  obtain ⟨F3, e4, h⟩ := Option.bind_eq_some_iff.mp h
  refine V.xputI C fl_Mo_95 ft_9 fi_9_4 e4 d_Mo_clear_7 ?_
  refine V.aload_n C 0 rfl rfl d_Mo_clear_10 ?_
  refine V.iconst C 0 (by decide) d_Mo_clear_11 ?_
  obtain ⟨F5, e6, h⟩ := Option.bind_eq_some_iff.mp h
  refine V.xputI C fl_Mo_98 ft_9 fi_9_5 e6 d_Mo_clear_12 ?_
  refine V.aload_n C 0 rfl rfl d_Mo_clear_15 ?_
  refine V.iconst C 0 (by decide) d_Mo_clear_16 ?_
  obtain ⟨F7, e8, h⟩ := Option.bind_eq_some_iff.mp h
  refine V.xputI C fl_Mo_101 ft_9 fi_9_7 e8 d_Mo_clear_17 ?_
  refine V.iconst C 0 (by decide) d_Mo_clear_20 ?_
  refine V.is1 C (by decide) rfl d_Mo_clear_21 ?_
  exact V.weak (xsub_spec (by simp [xsub])) ((l_Mo_clear C hr N).1 (0 : Int32) F7 _ h)
def f_Mo_thrown (S : List xO) (a : Nat) (F : xF) : Option Int32 :=
  (gI S 9 a 3 F).bind fun v1 =>
  some v1
set_option maxHeartbeats 4000000 in
set_option maxRecDepth 100000 in
theorem c_Mo_thrown {l : Launch} {g : xG} {S : List xO} {G : xL} {a : Nat} {F : xF} {r : Int32} (h : f_Mo_thrown S a F = some r) : CT l g 0 0 0 0 y_Mo_thrown b_Mo_thrown 1 (some .int) 1 [.ref a] S F G (some (.int r)) S F G := by
  refine CT.of [some (.ref a)] (by decide) (Nat.le_of_ble_eq_true rfl) rfl ?_
  intro p e s m args below meth c C hr hmn hz
  unfold f_Mo_thrown at h
  refine V.aload_n C 0 rfl rfl d_Mo_thrown_0 ?_
  obtain ⟨v1, e2, h⟩ := Option.bind_eq_some_iff.mp h
  refine V.xgetI C fl_Mo_92 e2 d_Mo_thrown_1 ?_
  obtain rfl := Option.some.inj h
  exact V.iret C hr d_Mo_thrown_4 rfl rfl rfl rfl
def t_Mo_put (S : List xO) (N : Nat) (a : Nat) (p0 : Int32) (p1 : Int32) (p2 : Int32) : Nat → Int32 → Int32 → xF → Option (Int32 × xF)
  | 0, _, _, _ => none
  | n + 1, u4, u5, F =>
    if p2 ≤ u5 then
      (gI S 9 a 5 F).bind fun v27 =>
      some (v27, F)
    else
    (gR S 9 a 6).bind fun q29 =>
    (gI S 9 a 5 F).bind fun v31 =>
    (gI S 9 a 1 F).bind fun v33 =>
    (aP S q29 v31 (u4 &&& (v33 - (1 : Int32))) F).bind fun F35 =>
    (gI S 9 a 5 F35).bind fun v37 =>
    (pI S 9 a 5 (v37 + (1 : Int32)) F35).bind fun F39 =>
    t_Mo_put S N a p0 p1 p2 n (u4 + p1) (u5 + (1 : Int32)) F39
set_option maxHeartbeats 4000000 in
set_option maxRecDepth 100000 in
theorem l_Mo_put {p : Program} {l : Launch} {e : Env} {s : State} {m : MethodId} {args : Array Value} {below : List Frame} {meth : Method} {c : Code} {g : xG} {S : List xO} {G : xL} {a : Nat} {p0 : Int32} {p1 : Int32} {p2 : Int32} {N : Nat} (C : Cx p s m args meth c b_Mo_put 6 "PaletteFramesModel" g) (hr : meth.sig.returnType = (some .int)) : ∀ (n : Nat), (∀ (u4 : Int32) (u5 : Int32) (F : xF) (r : Int32) (F2 : xF), t_Mo_put S N a p0 p1 p2 n u4 u5 F = some (r, F2) → V p l e (xRm 0 0 0 0) s m args below meth c (xMQ g below args s 0 0 S F2 G (some (.int r))) 6 g S F G 0 0 52 [some (.ref a), some (.int p0), some (.int p1), some (.int p2), some (.int u4), some (.int u5)] []) := by
  intro n
  induction n with
  | zero =>
    intro u4 u5 F r F2 h
    cases h
  | succ n ih =>
    intro u4 u5 F r F2 h
    rw [t_Mo_put] at h
    refine V.iload C rfl d_Mo_put_52 ?_
    refine V.iload_n C 3 rfl rfl d_Mo_put_54 ?_
    refine V.icmp_ge C 98 (by decide) d_Mo_put_55 (fun c26 => ?_) (fun c26 => ?_)
    · rw [if_pos c26] at h
      refine V.aload_n C 0 rfl rfl d_Mo_put_98 ?_
      obtain ⟨v27, e28, h⟩ := Option.bind_eq_some_iff.mp h
      refine V.xgetI C fl_Mo_98 e28 d_Mo_put_99 ?_
      obtain ⟨rfl, rfl⟩ := Prod.mk.inj (Option.some.inj h)
      exact V.iret C hr d_Mo_put_102 rfl rfl rfl rfl
    · rw [if_neg c26] at h
      refine V.aload_n C 0 rfl rfl d_Mo_put_58 ?_
      obtain ⟨q29, e30, h⟩ := Option.bind_eq_some_iff.mp h
      refine V.xgetR C fl_Mo_7 e30 d_Mo_put_59 ?_
      refine V.aload_n C 0 rfl rfl d_Mo_put_62 ?_
      obtain ⟨v31, e32, h⟩ := Option.bind_eq_some_iff.mp h
      refine V.xgetI C fl_Mo_98 e32 d_Mo_put_63 ?_
      refine V.iload C rfl d_Mo_put_66 ?_
      refine V.aload_n C 0 rfl rfl d_Mo_put_68 ?_
      obtain ⟨v33, e34, h⟩ := Option.bind_eq_some_iff.mp h
      refine V.xgetI C fl_Mo_84 e34 d_Mo_put_69 ?_
      refine V.iconst C 1 (by decide) d_Mo_put_72 ?_
      refine V.isub C d_Mo_put_73 ?_
      refine V.iand C d_Mo_put_74 ?_
      obtain ⟨F35, e36, h⟩ := Option.bind_eq_some_iff.mp h
      refine V.xiast C e36 d_Mo_put_75 ?_
      refine V.aload_n C 0 rfl rfl d_Mo_put_76 ?_
      refine V.dup C rfl d_Mo_put_77 ?_
      obtain ⟨v37, e38, h⟩ := Option.bind_eq_some_iff.mp h
      refine V.xgetI C fl_Mo_98 e38 d_Mo_put_78 ?_
      refine V.iconst C 1 (by decide) d_Mo_put_81 ?_
      refine V.iadd C d_Mo_put_82 ?_
      obtain ⟨F39, e40, h⟩ := Option.bind_eq_some_iff.mp h
      refine V.xputI C fl_Mo_98 ft_9 fi_9_5 e40 d_Mo_put_83 ?_
      refine V.iload C rfl d_Mo_put_86 ?_
      refine V.iload_n C 2 rfl rfl d_Mo_put_88 ?_
      refine V.iadd C d_Mo_put_89 ?_
      refine V.is4 C (by decide) rfl d_Mo_put_90 ?_
      refine V.inc5 C 1 (by decide) (by decide) rfl d_Mo_put_92 ?_
      refine V.goto C 52 (by decide) d_Mo_put_95 ?_
      exact V.weak (xsub_spec (by simp [xsub])) (ih (u4 + p1) (u5 + (1 : Int32)) F39 _ _ h)
def f_Mo_put (S : List xO) (N : Nat) (a : Nat) (p0 : Int32) (p1 : Int32) (p2 : Int32) (F : xF) : Option (Int32 × xF) :=
  if p2 < (1 : Int32) then
    (pI S 9 a 3 (1 : Int32) F).bind fun F2 =>
    (gI S 9 a 3 F2).bind fun v4 =>
    if v4 ≤ (0 : Int32) then
      t_Mo_put S N a p0 p1 p2 N p0 (0 : Int32) F2
    else
    some ((0 : Int32), F2)
  else
  if p2 ≤ (1000 : Int32) then
    (gI S 9 a 5 F).bind fun v8 =>
    if (v8 + p2) ≤ (12000 : Int32) then
      (pI S 9 a 3 (0 : Int32) F).bind fun F11 =>
      (gI S 9 a 3 F11).bind fun v13 =>
      if v13 ≤ (0 : Int32) then
        t_Mo_put S N a p0 p1 p2 N p0 (0 : Int32) F11
      else
      some ((0 : Int32), F11)
    else
    (pI S 9 a 3 (2 : Int32) F).bind fun F16 =>
    (gI S 9 a 3 F16).bind fun v18 =>
    if v18 ≤ (0 : Int32) then
      t_Mo_put S N a p0 p1 p2 N p0 (0 : Int32) F16
    else
    some ((0 : Int32), F16)
  else
  (pI S 9 a 3 (1 : Int32) F).bind fun F21 =>
  (gI S 9 a 3 F21).bind fun v23 =>
  if v23 ≤ (0 : Int32) then
    t_Mo_put S N a p0 p1 p2 N p0 (0 : Int32) F21
  else
  some ((0 : Int32), F21)
set_option maxHeartbeats 4000000 in
set_option maxRecDepth 100000 in
theorem c_Mo_put {l : Launch} {g : xG} {S : List xO} {G : xL} {a : Nat} {p0 : Int32} {p1 : Int32} {p2 : Int32} {N : Nat} {F : xF} {r : Int32} {F2 : xF} (h : f_Mo_put S N a p0 p1 p2 F = some (r, F2)) : CT l g 0 0 0 0 y_Mo_put b_Mo_put 6 (some .int) 1 [.ref a, .int p0, .int p1, .int p2] S F G (some (.int r)) S F2 G := by
  refine CT.of [some (.ref a), some (.int p0), some (.int p1), some (.int p2), none, none] (by decide) (Nat.le_of_ble_eq_true rfl) rfl ?_
  intro p e s m args below meth c C hr hmn hz
  unfold f_Mo_put at h
  refine V.aload_n C 0 rfl rfl d_Mo_put_0 ?_
  refine V.iload_n C 3 rfl rfl d_Mo_put_1 ?_
  refine V.iconst C 1 (by decide) d_Mo_put_2 ?_
  refine V.icmp_lt C 13 (by decide) d_Mo_put_3 (fun c1 => ?_) (fun c1 => ?_)
  · rw [if_pos c1] at h
    refine V.iconst C 1 (by decide) d_Mo_put_13 ?_
    refine V.goto C 34 (by decide) d_Mo_put_14 ?_
    obtain ⟨F2, e3, h⟩ := Option.bind_eq_some_iff.mp h
    refine V.xputI C fl_Mo_92 ft_9 fi_9_3 e3 d_Mo_put_34 ?_
    refine V.aload_n C 0 rfl rfl d_Mo_put_37 ?_
    obtain ⟨v4, e5, h⟩ := Option.bind_eq_some_iff.mp h
    refine V.xgetI C fl_Mo_92 e5 d_Mo_put_38 ?_
    refine V.if_le C 46 (by decide) d_Mo_put_41 (fun c6 => ?_) (fun c6 => ?_)
    · rw [if_pos c6] at h
      refine V.iload_n C 1 rfl rfl d_Mo_put_46 ?_
      refine V.is4 C (by decide) rfl d_Mo_put_47 ?_
      refine V.iconst C 0 (by decide) d_Mo_put_49 ?_
      refine V.is5 C (by decide) rfl d_Mo_put_50 ?_
      exact V.weak (xsub_spec (by simp [xsub])) ((l_Mo_put C hr N) p0 (0 : Int32) F2 _ _ h)
    · rw [if_neg c6] at h
      refine V.iconst C 0 (by decide) d_Mo_put_44 ?_
      obtain ⟨rfl, rfl⟩ := Prod.mk.inj (Option.some.inj h)
      exact V.iret C hr d_Mo_put_45 rfl rfl rfl rfl
  · rw [if_neg c1] at h
    refine V.iload_n C 3 rfl rfl d_Mo_put_6 ?_
    refine V.sipush C 1000 (by decide) d_Mo_put_7 ?_
    refine V.icmp_le C 17 (by decide) d_Mo_put_10 (fun c7 => ?_) (fun c7 => ?_)
    · rw [if_pos c7] at h
      refine V.aload_n C 0 rfl rfl d_Mo_put_17 ?_
      obtain ⟨v8, e9, h⟩ := Option.bind_eq_some_iff.mp h
      refine V.xgetI C fl_Mo_98 e9 d_Mo_put_18 ?_
      refine V.iload_n C 3 rfl rfl d_Mo_put_21 ?_
      refine V.iadd C d_Mo_put_22 ?_
      refine V.sipush C 12000 (by decide) d_Mo_put_23 ?_
      refine V.icmp_le C 33 (by decide) d_Mo_put_26 (fun c10 => ?_) (fun c10 => ?_)
      · rw [if_pos c10] at h
        refine V.iconst C 0 (by decide) d_Mo_put_33 ?_
        obtain ⟨F11, e12, h⟩ := Option.bind_eq_some_iff.mp h
        refine V.xputI C fl_Mo_92 ft_9 fi_9_3 e12 d_Mo_put_34 ?_
        refine V.aload_n C 0 rfl rfl d_Mo_put_37 ?_
        obtain ⟨v13, e14, h⟩ := Option.bind_eq_some_iff.mp h
        refine V.xgetI C fl_Mo_92 e14 d_Mo_put_38 ?_
        refine V.if_le C 46 (by decide) d_Mo_put_41 (fun c15 => ?_) (fun c15 => ?_)
        · rw [if_pos c15] at h
          refine V.iload_n C 1 rfl rfl d_Mo_put_46 ?_
          refine V.is4 C (by decide) rfl d_Mo_put_47 ?_
          refine V.iconst C 0 (by decide) d_Mo_put_49 ?_
          refine V.is5 C (by decide) rfl d_Mo_put_50 ?_
          exact V.weak (xsub_spec (by simp [xsub])) ((l_Mo_put C hr N) p0 (0 : Int32) F11 _ _ h)
        · rw [if_neg c15] at h
          refine V.iconst C 0 (by decide) d_Mo_put_44 ?_
          obtain ⟨rfl, rfl⟩ := Prod.mk.inj (Option.some.inj h)
          exact V.iret C hr d_Mo_put_45 rfl rfl rfl rfl
      · rw [if_neg c10] at h
        refine V.iconst C 2 (by decide) d_Mo_put_29 ?_
        refine V.goto C 34 (by decide) d_Mo_put_30 ?_
        obtain ⟨F16, e17, h⟩ := Option.bind_eq_some_iff.mp h
        refine V.xputI C fl_Mo_92 ft_9 fi_9_3 e17 d_Mo_put_34 ?_
        refine V.aload_n C 0 rfl rfl d_Mo_put_37 ?_
        obtain ⟨v18, e19, h⟩ := Option.bind_eq_some_iff.mp h
        refine V.xgetI C fl_Mo_92 e19 d_Mo_put_38 ?_
        refine V.if_le C 46 (by decide) d_Mo_put_41 (fun c20 => ?_) (fun c20 => ?_)
        · rw [if_pos c20] at h
          refine V.iload_n C 1 rfl rfl d_Mo_put_46 ?_
          refine V.is4 C (by decide) rfl d_Mo_put_47 ?_
          refine V.iconst C 0 (by decide) d_Mo_put_49 ?_
          refine V.is5 C (by decide) rfl d_Mo_put_50 ?_
          exact V.weak (xsub_spec (by simp [xsub])) ((l_Mo_put C hr N) p0 (0 : Int32) F16 _ _ h)
        · rw [if_neg c20] at h
          refine V.iconst C 0 (by decide) d_Mo_put_44 ?_
          obtain ⟨rfl, rfl⟩ := Prod.mk.inj (Option.some.inj h)
          exact V.iret C hr d_Mo_put_45 rfl rfl rfl rfl
    · rw [if_neg c7] at h
      refine V.iconst C 1 (by decide) d_Mo_put_13 ?_
      refine V.goto C 34 (by decide) d_Mo_put_14 ?_
      obtain ⟨F21, e22, h⟩ := Option.bind_eq_some_iff.mp h
      refine V.xputI C fl_Mo_92 ft_9 fi_9_3 e22 d_Mo_put_34 ?_
      refine V.aload_n C 0 rfl rfl d_Mo_put_37 ?_
      obtain ⟨v23, e24, h⟩ := Option.bind_eq_some_iff.mp h
      refine V.xgetI C fl_Mo_92 e24 d_Mo_put_38 ?_
      refine V.if_le C 46 (by decide) d_Mo_put_41 (fun c25 => ?_) (fun c25 => ?_)
      · rw [if_pos c25] at h
        refine V.iload_n C 1 rfl rfl d_Mo_put_46 ?_
        refine V.is4 C (by decide) rfl d_Mo_put_47 ?_
        refine V.iconst C 0 (by decide) d_Mo_put_49 ?_
        refine V.is5 C (by decide) rfl d_Mo_put_50 ?_
        exact V.weak (xsub_spec (by simp [xsub])) ((l_Mo_put C hr N) p0 (0 : Int32) F21 _ _ h)
      · rw [if_neg c25] at h
        refine V.iconst C 0 (by decide) d_Mo_put_44 ?_
        obtain ⟨rfl, rfl⟩ := Prod.mk.inj (Option.some.inj h)
        exact V.iret C hr d_Mo_put_45 rfl rfl rfl rfl
def f_Mo_rule (S : List xO) (a : Nat) (p0 : Int32) (F : xF) : Option (Int32 × xF) :=
  if p0 < (0 : Int32) then
    (pI S 9 a 3 (1 : Int32) F).bind fun F2 =>
    (gI S 9 a 3 F2).bind fun v4 =>
    if v4 ≤ (0 : Int32) then
      (gI S 9 a 4 F2).bind fun v7 =>
      (pI S 9 a 4 p0 F2).bind fun F9 =>
      some (v7, F9)
    else
    some ((0 : Int32), F2)
  else
  if p0 ≤ (2 : Int32) then
    (pI S 9 a 3 (0 : Int32) F).bind fun F12 =>
    (gI S 9 a 3 F12).bind fun v14 =>
    if v14 ≤ (0 : Int32) then
      (gI S 9 a 4 F12).bind fun v17 =>
      (pI S 9 a 4 p0 F12).bind fun F19 =>
      some (v17, F19)
    else
    some ((0 : Int32), F12)
  else
  (pI S 9 a 3 (1 : Int32) F).bind fun F21 =>
  (gI S 9 a 3 F21).bind fun v23 =>
  if v23 ≤ (0 : Int32) then
    (gI S 9 a 4 F21).bind fun v26 =>
    (pI S 9 a 4 p0 F21).bind fun F28 =>
    some (v26, F28)
  else
  some ((0 : Int32), F21)
set_option maxHeartbeats 4000000 in
set_option maxRecDepth 100000 in
theorem c_Mo_rule {l : Launch} {g : xG} {S : List xO} {G : xL} {a : Nat} {p0 : Int32} {F : xF} {r : Int32} {F2 : xF} (h : f_Mo_rule S a p0 F = some (r, F2)) : CT l g 0 0 0 0 y_Mo_rule b_Mo_rule 3 (some .int) 1 [.ref a, .int p0] S F G (some (.int r)) S F2 G := by
  refine CT.of [some (.ref a), some (.int p0), none] (by decide) (Nat.le_of_ble_eq_true rfl) rfl ?_
  intro p e s m args below meth c C hr hmn hz
  unfold f_Mo_rule at h
  refine V.aload_n C 0 rfl rfl d_Mo_rule_0 ?_
  refine V.iload_n C 1 rfl rfl d_Mo_rule_1 ?_
  refine V.if_lt C 10 (by decide) d_Mo_rule_2 (fun c1 => ?_) (fun c1 => ?_)
  · rw [if_pos c1] at h
    refine V.iconst C 1 (by decide) d_Mo_rule_10 ?_
    refine V.goto C 15 (by decide) d_Mo_rule_11 ?_
    obtain ⟨F2, e3, h⟩ := Option.bind_eq_some_iff.mp h
    refine V.xputI C fl_Mo_92 ft_9 fi_9_3 e3 d_Mo_rule_15 ?_
    refine V.aload_n C 0 rfl rfl d_Mo_rule_18 ?_
    obtain ⟨v4, e5, h⟩ := Option.bind_eq_some_iff.mp h
    refine V.xgetI C fl_Mo_92 e5 d_Mo_rule_19 ?_
    refine V.if_le C 27 (by decide) d_Mo_rule_22 (fun c6 => ?_) (fun c6 => ?_)
    · rw [if_pos c6] at h
      refine V.aload_n C 0 rfl rfl d_Mo_rule_27 ?_
      obtain ⟨v7, e8, h⟩ := Option.bind_eq_some_iff.mp h
      refine V.xgetI C fl_Mo_95 e8 d_Mo_rule_28 ?_
      refine V.is2 C (by decide) rfl d_Mo_rule_31 ?_
      refine V.aload_n C 0 rfl rfl d_Mo_rule_32 ?_
      refine V.iload_n C 1 rfl rfl d_Mo_rule_33 ?_
      obtain ⟨F9, e10, h⟩ := Option.bind_eq_some_iff.mp h
      refine V.xputI C fl_Mo_95 ft_9 fi_9_4 e10 d_Mo_rule_34 ?_
      refine V.iload_n C 2 rfl rfl d_Mo_rule_37 ?_
      obtain ⟨rfl, rfl⟩ := Prod.mk.inj (Option.some.inj h)
      exact V.iret C hr d_Mo_rule_38 rfl rfl rfl rfl
    · rw [if_neg c6] at h
      refine V.iconst C 0 (by decide) d_Mo_rule_25 ?_
      obtain ⟨rfl, rfl⟩ := Prod.mk.inj (Option.some.inj h)
      exact V.iret C hr d_Mo_rule_26 rfl rfl rfl rfl
  · rw [if_neg c1] at h
    refine V.iload_n C 1 rfl rfl d_Mo_rule_5 ?_
    refine V.iconst C 2 (by decide) d_Mo_rule_6 ?_
    refine V.icmp_le C 14 (by decide) d_Mo_rule_7 (fun c11 => ?_) (fun c11 => ?_)
    · rw [if_pos c11] at h
      refine V.iconst C 0 (by decide) d_Mo_rule_14 ?_
      obtain ⟨F12, e13, h⟩ := Option.bind_eq_some_iff.mp h
      refine V.xputI C fl_Mo_92 ft_9 fi_9_3 e13 d_Mo_rule_15 ?_
      refine V.aload_n C 0 rfl rfl d_Mo_rule_18 ?_
      obtain ⟨v14, e15, h⟩ := Option.bind_eq_some_iff.mp h
      refine V.xgetI C fl_Mo_92 e15 d_Mo_rule_19 ?_
      refine V.if_le C 27 (by decide) d_Mo_rule_22 (fun c16 => ?_) (fun c16 => ?_)
      · rw [if_pos c16] at h
        refine V.aload_n C 0 rfl rfl d_Mo_rule_27 ?_
        obtain ⟨v17, e18, h⟩ := Option.bind_eq_some_iff.mp h
        refine V.xgetI C fl_Mo_95 e18 d_Mo_rule_28 ?_
        refine V.is2 C (by decide) rfl d_Mo_rule_31 ?_
        refine V.aload_n C 0 rfl rfl d_Mo_rule_32 ?_
        refine V.iload_n C 1 rfl rfl d_Mo_rule_33 ?_
        obtain ⟨F19, e20, h⟩ := Option.bind_eq_some_iff.mp h
        refine V.xputI C fl_Mo_95 ft_9 fi_9_4 e20 d_Mo_rule_34 ?_
        refine V.iload_n C 2 rfl rfl d_Mo_rule_37 ?_
        obtain ⟨rfl, rfl⟩ := Prod.mk.inj (Option.some.inj h)
        exact V.iret C hr d_Mo_rule_38 rfl rfl rfl rfl
      · rw [if_neg c16] at h
        refine V.iconst C 0 (by decide) d_Mo_rule_25 ?_
        obtain ⟨rfl, rfl⟩ := Prod.mk.inj (Option.some.inj h)
        exact V.iret C hr d_Mo_rule_26 rfl rfl rfl rfl
    · rw [if_neg c11] at h
      refine V.iconst C 1 (by decide) d_Mo_rule_10 ?_
      refine V.goto C 15 (by decide) d_Mo_rule_11 ?_
      obtain ⟨F21, e22, h⟩ := Option.bind_eq_some_iff.mp h
      refine V.xputI C fl_Mo_92 ft_9 fi_9_3 e22 d_Mo_rule_15 ?_
      refine V.aload_n C 0 rfl rfl d_Mo_rule_18 ?_
      obtain ⟨v23, e24, h⟩ := Option.bind_eq_some_iff.mp h
      refine V.xgetI C fl_Mo_92 e24 d_Mo_rule_19 ?_
      refine V.if_le C 27 (by decide) d_Mo_rule_22 (fun c25 => ?_) (fun c25 => ?_)
      · rw [if_pos c25] at h
        refine V.aload_n C 0 rfl rfl d_Mo_rule_27 ?_
        obtain ⟨v26, e27, h⟩ := Option.bind_eq_some_iff.mp h
        refine V.xgetI C fl_Mo_95 e27 d_Mo_rule_28 ?_
        refine V.is2 C (by decide) rfl d_Mo_rule_31 ?_
        refine V.aload_n C 0 rfl rfl d_Mo_rule_32 ?_
        refine V.iload_n C 1 rfl rfl d_Mo_rule_33 ?_
        obtain ⟨F28, e29, h⟩ := Option.bind_eq_some_iff.mp h
        refine V.xputI C fl_Mo_95 ft_9 fi_9_4 e29 d_Mo_rule_34 ?_
        refine V.iload_n C 2 rfl rfl d_Mo_rule_37 ?_
        obtain ⟨rfl, rfl⟩ := Prod.mk.inj (Option.some.inj h)
        exact V.iret C hr d_Mo_rule_38 rfl rfl rfl rfl
      · rw [if_neg c25] at h
        refine V.iconst C 0 (by decide) d_Mo_rule_25 ?_
        obtain ⟨rfl, rfl⟩ := Prod.mk.inj (Option.some.inj h)
        exact V.iret C hr d_Mo_rule_26 rfl rfl rfl rfl
def t_Mo_begin (S : List xO) (N : Nat) (a : Nat) : Nat → Nat → Int32 → xF → Option xF
  | 0, _, _, _ => none
  | n + 1, tg, u1, F =>
    if tg = 0 then
      if (4096 : Int32) ≤ u1 then
        t_Mo_begin S N a n 1 (0 : Int32) F
      else
      (gR S 9 a 18).bind fun q12 =>
      (aP S q12 u1 (-1 : Int32) F).bind fun F14 =>
      t_Mo_begin S N a n 0 (u1 + (1 : Int32)) F14
    else
    (gI S 9 a 1 F).bind fun v16 =>
    if v16 ≤ u1 then
      some F
    else
    (gR S 9 a 15).bind fun q19 =>
    (aP S q19 u1 (-1 : Int32) F).bind fun F21 =>
    (gR S 9 a 16).bind fun q23 =>
    (aP S q23 u1 u1 F21).bind fun F25 =>
    (gR S 9 a 17).bind fun q27 =>
    (aP S q27 u1 (1 : Int32) F25).bind fun F29 =>
    t_Mo_begin S N a n 1 (u1 + (1 : Int32)) F29
set_option maxHeartbeats 4000000 in
set_option maxRecDepth 100000 in
theorem l_Mo_begin {p : Program} {l : Launch} {e : Env} {s : State} {m : MethodId} {args : Array Value} {below : List Frame} {meth : Method} {c : Code} {g : xG} {S : List xO} {G : xL} {a : Nat} {N : Nat} (C : Cx p s m args meth c b_Mo_begin 2 "PaletteFramesModel" g) (hr : meth.sig.returnType = none) : ∀ (n : Nat), (∀ (u1 : Int32) (F : xF) (F2 : xF), t_Mo_begin S N a n 0 u1 F = some F2 → V p l e (xRm 0 0 0 0) s m args below meth c (xMQ g below args s 0 0 S F2 G none) 2 g S F G 0 0 27 [some (.ref a), some (.int u1)] []) ∧ (∀ (u1 : Int32) (F : xF) (F2 : xF), t_Mo_begin S N a n 1 u1 F = some F2 → V p l e (xRm 0 0 0 0) s m args below meth c (xMQ g below args s 0 0 S F2 G none) 2 g S F G 0 0 49 [some (.ref a), some (.int u1)] []) := by
  intro n
  induction n with
  | zero =>
    refine ⟨?_, ?_⟩
    · intro u1 F F2 h
      cases h
    · intro u1 F F2 h
      cases h
  | succ n ih =>
    refine ⟨?_, ?_⟩
    · intro u1 F F2 h
      rw [t_Mo_begin] at h
      rw [if_pos rfl] at h
      refine V.iload_n C 1 rfl rfl d_Mo_begin_27 ?_
      refine V.sipush C 4096 (by decide) d_Mo_begin_28 ?_
      refine V.icmp_ge C 47 (by decide) d_Mo_begin_31 (fun c11 => ?_) (fun c11 => ?_)
      · rw [if_pos c11] at h
        refine V.iconst C 0 (by decide) d_Mo_begin_47 ?_
        refine V.is1 C (by decide) rfl d_Mo_begin_48 ?_
        exact V.weak (xsub_spec (by simp [xsub])) (ih.2 (0 : Int32) F _ h)
      · rw [if_neg c11] at h
        refine V.aload_n C 0 rfl rfl d_Mo_begin_34 ?_
        obtain ⟨q12, e13, h⟩ := Option.bind_eq_some_iff.mp h
        refine V.xgetR C fl_Mo_35 e13 d_Mo_begin_35 ?_
        refine V.iload_n C 1 rfl rfl d_Mo_begin_38 ?_
        refine V.iconst C (-1) (by decide) d_Mo_begin_39 ?_
        obtain ⟨F14, e15, h⟩ := Option.bind_eq_some_iff.mp h
        refine V.xiast C e15 d_Mo_begin_40 ?_
        refine V.inc1 C 1 (by decide) (by decide) rfl d_Mo_begin_41 ?_
        refine V.goto C 27 (by decide) d_Mo_begin_44 ?_
        exact V.weak (xsub_spec (by simp [xsub])) (ih.1 (u1 + (1 : Int32)) F14 _ h)
    · intro u1 F F2 h
      rw [t_Mo_begin] at h
      rw [if_neg (by decide)] at h
      refine V.iload_n C 1 rfl rfl d_Mo_begin_49 ?_
      refine V.aload_n C 0 rfl rfl d_Mo_begin_50 ?_
      obtain ⟨v16, e17, h⟩ := Option.bind_eq_some_iff.mp h
      refine V.xgetI C fl_Mo_84 e17 d_Mo_begin_51 ?_
      refine V.icmp_ge C 84 (by decide) d_Mo_begin_54 (fun c18 => ?_) (fun c18 => ?_)
      · rw [if_pos c18] at h
        obtain rfl := Option.some.inj h
        exact V.vret C hr d_Mo_begin_84 rfl rfl rfl
      · rw [if_neg c18] at h
        refine V.aload_n C 0 rfl rfl d_Mo_begin_57 ?_
        obtain ⟨q19, e20, h⟩ := Option.bind_eq_some_iff.mp h
        refine V.xgetR C fl_Mo_26 e20 d_Mo_begin_58 ?_
        refine V.iload_n C 1 rfl rfl d_Mo_begin_61 ?_
        refine V.iconst C (-1) (by decide) d_Mo_begin_62 ?_
        obtain ⟨F21, e22, h⟩ := Option.bind_eq_some_iff.mp h
        refine V.xiast C e22 d_Mo_begin_63 ?_
        refine V.aload_n C 0 rfl rfl d_Mo_begin_64 ?_
        obtain ⟨q23, e24, h⟩ := Option.bind_eq_some_iff.mp h
        refine V.xgetR C fl_Mo_29 e24 d_Mo_begin_65 ?_
        refine V.iload_n C 1 rfl rfl d_Mo_begin_68 ?_
        refine V.iload_n C 1 rfl rfl d_Mo_begin_69 ?_
        obtain ⟨F25, e26, h⟩ := Option.bind_eq_some_iff.mp h
        refine V.xiast C e26 d_Mo_begin_70 ?_
        refine V.aload_n C 0 rfl rfl d_Mo_begin_71 ?_
        obtain ⟨q27, e28, h⟩ := Option.bind_eq_some_iff.mp h
        refine V.xgetR C fl_Mo_32 e28 d_Mo_begin_72 ?_
        refine V.iload_n C 1 rfl rfl d_Mo_begin_75 ?_
        refine V.iconst C 1 (by decide) d_Mo_begin_76 ?_
        obtain ⟨F29, e30, h⟩ := Option.bind_eq_some_iff.mp h
        refine V.xiast C e30 d_Mo_begin_77 ?_
        refine V.inc1 C 1 (by decide) (by decide) rfl d_Mo_begin_78 ?_
        refine V.goto C 49 (by decide) d_Mo_begin_81 ?_
        exact V.weak (xsub_spec (by simp [xsub])) (ih.2 (u1 + (1 : Int32)) F29 _ h)
def f_Mo_begin (S : List xO) (N : Nat) (a : Nat) (F : xF) : Option xF :=
  (gI S 9 a 2 F).bind fun v1 =>
  (pI S 9 a 14 (v1 + (1 : Int32)) F).bind fun F3 =>
  (gI S 9 a 0 F3).bind fun v5 =>
  (pI S 9 a 21 (v5 + (1 : Int32)) F3).bind fun F7 =>
  (pI S 9 a 22 (0 : Int32) F7).bind fun F9 =>
  t_Mo_begin S N a N 0 (0 : Int32) F9
set_option maxHeartbeats 4000000 in
set_option maxRecDepth 100000 in
theorem c_Mo_begin {l : Launch} {g : xG} {S : List xO} {G : xL} {a : Nat} {N : Nat} {F : xF} {F2 : xF} (h : f_Mo_begin S N a F = some F2) : CT l g 0 0 0 0 y_Mo_begin b_Mo_begin 2 none 1 [.ref a] S F G none S F2 G := by
  refine CT.of [some (.ref a), none] (by decide) (Nat.le_of_ble_eq_true rfl) rfl ?_
  intro p e s m args below meth c C hr hmn hz
  unfold f_Mo_begin at h
  refine V.aload_n C 0 rfl rfl d_Mo_begin_0 ?_
  refine V.aload_n C 0 rfl rfl d_Mo_begin_1 ?_
  obtain ⟨v1, e2, h⟩ := Option.bind_eq_some_iff.mp h
  refine V.xgetI C fl_Mo_87 e2 d_Mo_begin_2 ?_
  refine V.iconst C 1 (by decide) d_Mo_begin_5 ?_
  refine V.iadd C d_Mo_begin_6 ?_
  obtain ⟨F3, e4, h⟩ := Option.bind_eq_some_iff.mp h
  refine V.xputI C fl_Mo_113 ft_9 fi_9_14 e4 d_Mo_begin_7 ?_
  refine V.aload_n C 0 rfl rfl d_Mo_begin_10 ?_
  refine V.aload_n C 0 rfl rfl d_Mo_begin_11 ?_
  obtain ⟨v5, e6, h⟩ := Option.bind_eq_some_iff.mp h
  refine V.xgetI C fl_Mo_80 e6 d_Mo_begin_12 ?_
  refine V.iconst C 1 (by decide) d_Mo_begin_15 ?_
  refine V.iadd C d_Mo_begin_16 ?_
  obtain ⟨F7, e8, h⟩ := Option.bind_eq_some_iff.mp h
  refine V.xputI C fl_Mo_116 ft_9 fi_9_21 e8 d_Mo_begin_17 ?_
  refine V.aload_n C 0 rfl rfl d_Mo_begin_20 ?_
  refine V.iconst C 0 (by decide) d_Mo_begin_21 ?_
  obtain ⟨F9, e10, h⟩ := Option.bind_eq_some_iff.mp h
  refine V.xputI C fl_Mo_119 ft_9 fi_9_22 e10 d_Mo_begin_22 ?_
  refine V.iconst C 0 (by decide) d_Mo_begin_25 ?_
  refine V.is1 C (by decide) rfl d_Mo_begin_26 ?_
  exact V.weak (xsub_spec (by simp [xsub])) ((l_Mo_begin C hr N).1 (0 : Int32) F9 _ h)
def f_Mo_enter (S : List xO) (a : Nat) (p0 : Int32) (p1 : Int32) (F : xF) : Option xF :=
  (gI S 9 a 14 F).bind fun v1 =>
  if (4096 : Int32) ≤ v1 then
    some F
  else
  (gR S 9 a 15).bind fun q4 =>
  (gI S 9 a 14 F).bind fun v6 =>
  (aP S q4 v6 p0 F).bind fun F8 =>
  (gR S 9 a 16).bind fun q10 =>
  (gI S 9 a 14 F8).bind fun v12 =>
  (aP S q10 v12 p1 F8).bind fun F14 =>
  (gR S 9 a 17).bind fun q16 =>
  (gI S 9 a 14 F14).bind fun v18 =>
  (aG S q16 p0 F14).bind fun v20 =>
  (aP S q16 v18 (v20 + (1 : Int32)) F14).bind fun F22 =>
  (gR S 9 a 19).bind fun q24 =>
  (gI S 9 a 14 F22).bind fun v26 =>
  (gR S 9 a 18).bind fun q28 =>
  (aG S q28 p0 F22).bind fun v30 =>
  (aP S q24 v26 v30 F22).bind fun F32 =>
  (gI S 9 a 14 F32).bind fun v34 =>
  (aP S q28 p0 v34 F32).bind fun F36 =>
  (gI S 9 a 14 F36).bind fun v38 =>
  (pI S 9 a 14 (v38 + (1 : Int32)) F36).bind fun F40 =>
  some F40
set_option maxHeartbeats 4000000 in
set_option maxRecDepth 100000 in
theorem c_Mo_enter {l : Launch} {g : xG} {S : List xO} {G : xL} {a : Nat} {p0 : Int32} {p1 : Int32} {F : xF} {F2 : xF} (h : f_Mo_enter S a p0 p1 F = some F2) : CT l g 0 0 0 0 y_Mo_enter b_Mo_enter 3 none 1 [.ref a, .int p0, .int p1] S F G none S F2 G := by
  refine CT.of [some (.ref a), some (.int p0), some (.int p1)] (by decide) (Nat.le_of_ble_eq_true rfl) rfl ?_
  intro p e s m args below meth c C hr hmn hz
  unfold f_Mo_enter at h
  refine V.aload_n C 0 rfl rfl d_Mo_enter_0 ?_
  obtain ⟨v1, e2, h⟩ := Option.bind_eq_some_iff.mp h
  refine V.xgetI C fl_Mo_113 e2 d_Mo_enter_1 ?_
  refine V.sipush C 4096 (by decide) d_Mo_enter_4 ?_
  refine V.icmp_ge C 82 (by decide) d_Mo_enter_7 (fun c3 => ?_) (fun c3 => ?_)
  · rw [if_pos c3] at h
    obtain rfl := Option.some.inj h
    exact V.vret C hr d_Mo_enter_82 rfl rfl rfl
  · rw [if_neg c3] at h
    refine V.aload_n C 0 rfl rfl d_Mo_enter_10 ?_
    obtain ⟨q4, e5, h⟩ := Option.bind_eq_some_iff.mp h
    refine V.xgetR C fl_Mo_26 e5 d_Mo_enter_11 ?_
    refine V.aload_n C 0 rfl rfl d_Mo_enter_14 ?_
    obtain ⟨v6, e7, h⟩ := Option.bind_eq_some_iff.mp h
    refine V.xgetI C fl_Mo_113 e7 d_Mo_enter_15 ?_
    refine V.iload_n C 1 rfl rfl d_Mo_enter_18 ?_
    obtain ⟨F8, e9, h⟩ := Option.bind_eq_some_iff.mp h
    refine V.xiast C e9 d_Mo_enter_19 ?_
    refine V.aload_n C 0 rfl rfl d_Mo_enter_20 ?_
    obtain ⟨q10, e11, h⟩ := Option.bind_eq_some_iff.mp h
    refine V.xgetR C fl_Mo_29 e11 d_Mo_enter_21 ?_
    refine V.aload_n C 0 rfl rfl d_Mo_enter_24 ?_
    obtain ⟨v12, e13, h⟩ := Option.bind_eq_some_iff.mp h
    refine V.xgetI C fl_Mo_113 e13 d_Mo_enter_25 ?_
    refine V.iload_n C 2 rfl rfl d_Mo_enter_28 ?_
    obtain ⟨F14, e15, h⟩ := Option.bind_eq_some_iff.mp h
    refine V.xiast C e15 d_Mo_enter_29 ?_
    refine V.aload_n C 0 rfl rfl d_Mo_enter_30 ?_
    obtain ⟨q16, e17, h⟩ := Option.bind_eq_some_iff.mp h
    refine V.xgetR C fl_Mo_32 e17 d_Mo_enter_31 ?_
    refine V.aload_n C 0 rfl rfl d_Mo_enter_34 ?_
    obtain ⟨v18, e19, h⟩ := Option.bind_eq_some_iff.mp h
    refine V.xgetI C fl_Mo_113 e19 d_Mo_enter_35 ?_
    refine V.aload_n C 0 rfl rfl d_Mo_enter_38 ?_
    refine V.xgetR C fl_Mo_32 e17 d_Mo_enter_39 ?_
    refine V.iload_n C 1 rfl rfl d_Mo_enter_42 ?_
    obtain ⟨v20, e21, h⟩ := Option.bind_eq_some_iff.mp h
    refine V.xiald C e21 d_Mo_enter_43 ?_
    refine V.iconst C 1 (by decide) d_Mo_enter_44 ?_
    refine V.iadd C d_Mo_enter_45 ?_
    obtain ⟨F22, e23, h⟩ := Option.bind_eq_some_iff.mp h
    refine V.xiast C e23 d_Mo_enter_46 ?_
    refine V.aload_n C 0 rfl rfl d_Mo_enter_47 ?_
    obtain ⟨q24, e25, h⟩ := Option.bind_eq_some_iff.mp h
    refine V.xgetR C fl_Mo_38 e25 d_Mo_enter_48 ?_
    refine V.aload_n C 0 rfl rfl d_Mo_enter_51 ?_
    obtain ⟨v26, e27, h⟩ := Option.bind_eq_some_iff.mp h
    refine V.xgetI C fl_Mo_113 e27 d_Mo_enter_52 ?_
    refine V.aload_n C 0 rfl rfl d_Mo_enter_55 ?_
    obtain ⟨q28, e29, h⟩ := Option.bind_eq_some_iff.mp h
    refine V.xgetR C fl_Mo_35 e29 d_Mo_enter_56 ?_
    refine V.iload_n C 1 rfl rfl d_Mo_enter_59 ?_
    obtain ⟨v30, e31, h⟩ := Option.bind_eq_some_iff.mp h
    refine V.xiald C e31 d_Mo_enter_60 ?_
    obtain ⟨F32, e33, h⟩ := Option.bind_eq_some_iff.mp h
    refine V.xiast C e33 d_Mo_enter_61 ?_
    refine V.aload_n C 0 rfl rfl d_Mo_enter_62 ?_
    refine V.xgetR C fl_Mo_35 e29 d_Mo_enter_63 ?_
    refine V.iload_n C 1 rfl rfl d_Mo_enter_66 ?_
    refine V.aload_n C 0 rfl rfl d_Mo_enter_67 ?_
    obtain ⟨v34, e35, h⟩ := Option.bind_eq_some_iff.mp h
    refine V.xgetI C fl_Mo_113 e35 d_Mo_enter_68 ?_
    obtain ⟨F36, e37, h⟩ := Option.bind_eq_some_iff.mp h
    refine V.xiast C e37 d_Mo_enter_71 ?_
    refine V.aload_n C 0 rfl rfl d_Mo_enter_72 ?_
    refine V.dup C rfl d_Mo_enter_73 ?_
    obtain ⟨v38, e39, h⟩ := Option.bind_eq_some_iff.mp h
    refine V.xgetI C fl_Mo_113 e39 d_Mo_enter_74 ?_
    refine V.iconst C 1 (by decide) d_Mo_enter_77 ?_
    refine V.iadd C d_Mo_enter_78 ?_
    obtain ⟨F40, e41, h⟩ := Option.bind_eq_some_iff.mp h
    refine V.xputI C fl_Mo_113 ft_9 fi_9_14 e41 d_Mo_enter_79 ?_
    obtain rfl := Option.some.inj h
    exact V.vret C hr d_Mo_enter_82 rfl rfl rfl
def t_Mo_childOf (S : List xO) (N : Nat) (a : Nat) (p0 : Int32) (p1 : Int32) : Nat → Int32 → xF → Option Int32
  | 0, _, _ => none
  | n + 1, u3, F =>
    if u3 < (0 : Int32) then
      some u3
    else
    (gR S 9 a 16).bind fun q6 =>
    (aG S q6 u3 F).bind fun v8 =>
    if v8 = p1 then
      some u3
    else
    (gR S 9 a 19).bind fun q11 =>
    (aG S q11 u3 F).bind fun v13 =>
    t_Mo_childOf S N a p0 p1 n v13 F
set_option maxHeartbeats 4000000 in
set_option maxRecDepth 100000 in
theorem l_Mo_childOf {p : Program} {l : Launch} {e : Env} {s : State} {m : MethodId} {args : Array Value} {below : List Frame} {meth : Method} {c : Code} {g : xG} {S : List xO} {G : xL} {a : Nat} {p0 : Int32} {p1 : Int32} {N : Nat} (C : Cx p s m args meth c b_Mo_childOf 4 "PaletteFramesModel" g) (hr : meth.sig.returnType = (some .int)) : ∀ (n : Nat), (∀ (u3 : Int32) (F : xF) (r : Int32), t_Mo_childOf S N a p0 p1 n u3 F = some r → V p l e (xRm 0 0 0 0) s m args below meth c (xMQ g below args s 0 0 S F G (some (.int r))) 4 g S F G 0 0 7 [some (.ref a), some (.int p0), some (.int p1), some (.int u3)] []) := by
  intro n
  induction n with
  | zero =>
    intro u3 F r h
    cases h
  | succ n ih =>
    intro u3 F r h
    rw [t_Mo_childOf] at h
    refine V.iload_n C 3 rfl rfl d_Mo_childOf_7 ?_
    refine V.if_lt C 31 (by decide) d_Mo_childOf_8 (fun c5 => ?_) (fun c5 => ?_)
    · rw [if_pos c5] at h
      refine V.iload_n C 3 rfl rfl d_Mo_childOf_31 ?_
      obtain rfl := Option.some.inj h
      exact V.iret C hr d_Mo_childOf_32 rfl rfl rfl rfl
    · rw [if_neg c5] at h
      refine V.aload_n C 0 rfl rfl d_Mo_childOf_11 ?_
      obtain ⟨q6, e7, h⟩ := Option.bind_eq_some_iff.mp h
      refine V.xgetR C fl_Mo_29 e7 d_Mo_childOf_12 ?_
      refine V.iload_n C 3 rfl rfl d_Mo_childOf_15 ?_
      obtain ⟨v8, e9, h⟩ := Option.bind_eq_some_iff.mp h
      refine V.xiald C e9 d_Mo_childOf_16 ?_
      refine V.iload_n C 2 rfl rfl d_Mo_childOf_17 ?_
      refine V.icmp_eq C 31 (by decide) d_Mo_childOf_18 (fun c10 => ?_) (fun c10 => ?_)
      · rw [if_pos c10] at h
        refine V.iload_n C 3 rfl rfl d_Mo_childOf_31 ?_
        obtain rfl := Option.some.inj h
        exact V.iret C hr d_Mo_childOf_32 rfl rfl rfl rfl
      · rw [if_neg c10] at h
        refine V.aload_n C 0 rfl rfl d_Mo_childOf_21 ?_
        obtain ⟨q11, e12, h⟩ := Option.bind_eq_some_iff.mp h
        refine V.xgetR C fl_Mo_38 e12 d_Mo_childOf_22 ?_
        refine V.iload_n C 3 rfl rfl d_Mo_childOf_25 ?_
        obtain ⟨v13, e14, h⟩ := Option.bind_eq_some_iff.mp h
        refine V.xiald C e14 d_Mo_childOf_26 ?_
        refine V.is3 C (by decide) rfl d_Mo_childOf_27 ?_
        refine V.goto C 7 (by decide) d_Mo_childOf_28 ?_
        exact V.weak (xsub_spec (by simp [xsub])) (ih v13 F _ h)
def f_Mo_childOf (S : List xO) (N : Nat) (a : Nat) (p0 : Int32) (p1 : Int32) (F : xF) : Option Int32 :=
  (gR S 9 a 18).bind fun q1 =>
  (aG S q1 p0 F).bind fun v3 =>
  t_Mo_childOf S N a p0 p1 N v3 F
set_option maxHeartbeats 4000000 in
set_option maxRecDepth 100000 in
theorem c_Mo_childOf {l : Launch} {g : xG} {S : List xO} {G : xL} {a : Nat} {p0 : Int32} {p1 : Int32} {N : Nat} {F : xF} {r : Int32} (h : f_Mo_childOf S N a p0 p1 F = some r) : CT l g 0 0 0 0 y_Mo_childOf b_Mo_childOf 4 (some .int) 1 [.ref a, .int p0, .int p1] S F G (some (.int r)) S F G := by
  refine CT.of [some (.ref a), some (.int p0), some (.int p1), none] (by decide) (Nat.le_of_ble_eq_true rfl) rfl ?_
  intro p e s m args below meth c C hr hmn hz
  unfold f_Mo_childOf at h
  refine V.aload_n C 0 rfl rfl d_Mo_childOf_0 ?_
  obtain ⟨q1, e2, h⟩ := Option.bind_eq_some_iff.mp h
  refine V.xgetR C fl_Mo_35 e2 d_Mo_childOf_1 ?_
  refine V.iload_n C 1 rfl rfl d_Mo_childOf_4 ?_
  obtain ⟨v3, e4, h⟩ := Option.bind_eq_some_iff.mp h
  refine V.xiald C e4 d_Mo_childOf_5 ?_
  refine V.is3 C (by decide) rfl d_Mo_childOf_6 ?_
  exact V.weak (xsub_spec (by simp [xsub])) ((l_Mo_childOf C hr N) v3 F _ h)
def f_Mo_widen (S : List xO) (a : Nat) (F : xF) : Option xF :=
  (gI S 9 a 22 F).bind fun v1 =>
  (pI S 9 a 22 (v1 + (1 : Int32)) F).bind fun F3 =>
  (gI S 9 a 21 F3).bind fun v5 =>
  if (12 : Int32) ≤ v5 then
    some F3
  else
  (gI S 9 a 2 F3).bind fun v8 =>
  (gI S 9 a 22 F3).bind fun v10 =>
  (gI S 9 a 21 F3).bind fun v12 =>
  if (v8 + v10) = ((1 : Int32) <<< (v12 &&& 31)) then
    (gI S 9 a 21 F3).bind fun v15 =>
    (pI S 9 a 21 (v15 + (1 : Int32)) F3).bind fun F17 =>
    some F17
  else
  some F3
set_option maxHeartbeats 4000000 in
set_option maxRecDepth 100000 in
theorem c_Mo_widen {l : Launch} {g : xG} {S : List xO} {G : xL} {a : Nat} {F : xF} {F2 : xF} (h : f_Mo_widen S a F = some F2) : CT l g 0 0 0 0 y_Mo_widen b_Mo_widen 1 none 1 [.ref a] S F G none S F2 G := by
  refine CT.of [some (.ref a)] (by decide) (Nat.le_of_ble_eq_true rfl) rfl ?_
  intro p e s m args below meth c C hr hmn hz
  unfold f_Mo_widen at h
  refine V.aload_n C 0 rfl rfl d_Mo_widen_0 ?_
  refine V.dup C rfl d_Mo_widen_1 ?_
  obtain ⟨v1, e2, h⟩ := Option.bind_eq_some_iff.mp h
  refine V.xgetI C fl_Mo_119 e2 d_Mo_widen_2 ?_
  refine V.iconst C 1 (by decide) d_Mo_widen_5 ?_
  refine V.iadd C d_Mo_widen_6 ?_
  obtain ⟨F3, e4, h⟩ := Option.bind_eq_some_iff.mp h
  refine V.xputI C fl_Mo_119 ft_9 fi_9_22 e4 d_Mo_widen_7 ?_
  refine V.aload_n C 0 rfl rfl d_Mo_widen_10 ?_
  obtain ⟨v5, e6, h⟩ := Option.bind_eq_some_iff.mp h
  refine V.xgetI C fl_Mo_116 e6 d_Mo_widen_11 ?_
  refine V.bipush C 12 (by decide) d_Mo_widen_14 ?_
  refine V.icmp_ge C 47 (by decide) d_Mo_widen_16 (fun c7 => ?_) (fun c7 => ?_)
  · rw [if_pos c7] at h
    obtain rfl := Option.some.inj h
    exact V.vret C hr d_Mo_widen_47 rfl rfl rfl
  · rw [if_neg c7] at h
    refine V.aload_n C 0 rfl rfl d_Mo_widen_19 ?_
    obtain ⟨v8, e9, h⟩ := Option.bind_eq_some_iff.mp h
    refine V.xgetI C fl_Mo_87 e9 d_Mo_widen_20 ?_
    refine V.aload_n C 0 rfl rfl d_Mo_widen_23 ?_
    obtain ⟨v10, e11, h⟩ := Option.bind_eq_some_iff.mp h
    refine V.xgetI C fl_Mo_119 e11 d_Mo_widen_24 ?_
    refine V.iadd C d_Mo_widen_27 ?_
    refine V.iconst C 1 (by decide) d_Mo_widen_28 ?_
    refine V.aload_n C 0 rfl rfl d_Mo_widen_29 ?_
    obtain ⟨v12, e13, h⟩ := Option.bind_eq_some_iff.mp h
    refine V.xgetI C fl_Mo_116 e13 d_Mo_widen_30 ?_
    refine V.ishl C d_Mo_widen_33 ?_
    refine V.icmp_ne C 47 (by decide) d_Mo_widen_34 (fun c14 => ?_) (fun c14 => ?_)
    · rw [if_neg c14] at h
      obtain rfl := Option.some.inj h
      exact V.vret C hr d_Mo_widen_47 rfl rfl rfl
    · rw [if_pos c14] at h
      refine V.aload_n C 0 rfl rfl d_Mo_widen_37 ?_
      refine V.dup C rfl d_Mo_widen_38 ?_
      obtain ⟨v15, e16, h⟩ := Option.bind_eq_some_iff.mp h
      refine V.xgetI C fl_Mo_116 e16 d_Mo_widen_39 ?_
      refine V.iconst C 1 (by decide) d_Mo_widen_42 ?_
      refine V.iadd C d_Mo_widen_43 ?_
      obtain ⟨F17, e18, h⟩ := Option.bind_eq_some_iff.mp h
      refine V.xputI C fl_Mo_116 ft_9 fi_9_21 e18 d_Mo_widen_44 ?_
      obtain rfl := Option.some.inj h
      exact V.vret C hr d_Mo_widen_47 rfl rfl rfl
def t_Mo_write (S : List xO) (N : Nat) (a : Nat) (p0 : Int32) : Nat → Int32 → xF → Option xF
  | 0, _, _ => none
  | n + 1, u2, F =>
    (gI S 9 a 21 F).bind fun v1 =>
    if v1 ≤ u2 then
      (gR S 9 a 9).bind fun q4 =>
      (aG S q4 (0 : Int32) F).bind fun v6 =>
      (aP S q4 (0 : Int32) (v6 + (1 : Int32)) F).bind fun F8 =>
      (gI S 9 a 21 F8).bind fun v10 =>
      (aP S q4 (2 : Int32) v10 F8).bind fun F12 =>
      some F12
    else
    (gI S 9 a 20 F).bind fun v14 =>
    if (8 : Int32) = (0 : Int32) then none else
    (gI S 9 a 20 F).bind fun v17 =>
    if (8 : Int32) = (0 : Int32) then none else
    if (v17 - v17 / (8 : Int32) * (8 : Int32)) = (0 : Int32) then
      (gR S 9 a 8).bind fun q34 =>
      (bP S q34 (v14 / (8 : Int32)) (0 : Int32) F).bind fun F36 =>
      (bG S q34 (v14 / (8 : Int32)) F36).bind fun v38 =>
      (gI S 9 a 20 F36).bind fun v40 =>
      if (8 : Int32) = (0 : Int32) then none else
      (bP S q34 (v14 / (8 : Int32)) ((v38 ||| (((p0 >>> (u2 &&& 31)) &&& (1 : Int32)) <<< ((v40 - v40 / (8 : Int32) * (8 : Int32)) &&& 31))).toInt8.toInt32) F36).bind fun F43 =>
      (gI S 9 a 20 F43).bind fun v45 =>
      (pI S 9 a 20 (v45 + (1 : Int32)) F43).bind fun F47 =>
      t_Mo_write S N a p0 n (u2 + (1 : Int32)) F47
    else
    (gR S 9 a 8).bind fun q21 =>
    (bG S q21 (v14 / (8 : Int32)) F).bind fun v23 =>
    (gI S 9 a 20 F).bind fun v25 =>
    if (8 : Int32) = (0 : Int32) then none else
    (bP S q21 (v14 / (8 : Int32)) ((v23 ||| (((p0 >>> (u2 &&& 31)) &&& (1 : Int32)) <<< ((v25 - v25 / (8 : Int32) * (8 : Int32)) &&& 31))).toInt8.toInt32) F).bind fun F28 =>
    (gI S 9 a 20 F28).bind fun v30 =>
    (pI S 9 a 20 (v30 + (1 : Int32)) F28).bind fun F32 =>
    t_Mo_write S N a p0 n (u2 + (1 : Int32)) F32
set_option maxHeartbeats 4000000 in
set_option maxRecDepth 100000 in
theorem l_Mo_write {p : Program} {l : Launch} {e : Env} {s : State} {m : MethodId} {args : Array Value} {below : List Frame} {meth : Method} {c : Code} {g : xG} {S : List xO} {G : xL} {a : Nat} {p0 : Int32} {N : Nat} (C : Cx p s m args meth c b_Mo_write 4 "PaletteFramesModel" g) (hr : meth.sig.returnType = none) : ∀ (n : Nat), (∀ (u2 : Int32) (F : xF) (F2 : xF), t_Mo_write S N a p0 n u2 F = some F2 → V p l e (xRm 0 0 0 0) s m args below meth c (xMQ g below args s 0 0 S F2 G none) 4 g S F G 0 0 2 [some (.ref a), some (.int p0), some (.int u2), none] []) := by
  intro n
  induction n with
  | zero =>
    intro u2 F F2 h
    cases h
  | succ n ih =>
    intro u2 F F2 h
    rw [t_Mo_write] at h
    refine V.iload_n C 2 rfl rfl d_Mo_write_2 ?_
    refine V.aload_n C 0 rfl rfl d_Mo_write_3 ?_
    obtain ⟨v1, e2, h⟩ := Option.bind_eq_some_iff.mp h
    refine V.xgetI C fl_Mo_116 e2 d_Mo_write_4 ?_
    refine V.icmp_ge C 78 (by decide) d_Mo_write_7 (fun c3 => ?_) (fun c3 => ?_)
    · rw [if_pos c3] at h
      refine V.aload_n C 0 rfl rfl d_Mo_write_78 ?_
      obtain ⟨q4, e5, h⟩ := Option.bind_eq_some_iff.mp h
      refine V.xgetR C fl_Mo_17 e5 d_Mo_write_79 ?_
      refine V.iconst C 0 (by decide) d_Mo_write_82 ?_
      refine V.dup2 C rfl rfl d_Mo_write_83 ?_
      obtain ⟨v6, e7, h⟩ := Option.bind_eq_some_iff.mp h
      refine V.xiald C e7 d_Mo_write_84 ?_
      refine V.iconst C 1 (by decide) d_Mo_write_85 ?_
      refine V.iadd C d_Mo_write_86 ?_
      obtain ⟨F8, e9, h⟩ := Option.bind_eq_some_iff.mp h
      refine V.xiast C e9 d_Mo_write_87 ?_
      refine V.aload_n C 0 rfl rfl d_Mo_write_88 ?_
      refine V.xgetR C fl_Mo_17 e5 d_Mo_write_89 ?_
      refine V.iconst C 2 (by decide) d_Mo_write_92 ?_
      refine V.aload_n C 0 rfl rfl d_Mo_write_93 ?_
      obtain ⟨v10, e11, h⟩ := Option.bind_eq_some_iff.mp h
      refine V.xgetI C fl_Mo_116 e11 d_Mo_write_94 ?_
      obtain ⟨F12, e13, h⟩ := Option.bind_eq_some_iff.mp h
      refine V.xiast C e13 d_Mo_write_97 ?_
      obtain rfl := Option.some.inj h
      exact V.vret C hr d_Mo_write_98 rfl rfl rfl
    · rw [if_neg c3] at h
      refine V.aload_n C 0 rfl rfl d_Mo_write_10 ?_
      obtain ⟨v14, e15, h⟩ := Option.bind_eq_some_iff.mp h
      refine V.xgetI C fl_Mo_122 e15 d_Mo_write_11 ?_
      refine V.bipush C 8 (by decide) d_Mo_write_14 ?_
      have c16 : ¬ (8 : Int32) = (0 : Int32) := fun q => by rw [if_pos q] at h; cases h
      rw [if_neg c16] at h
      refine V.idiv C c16 d_Mo_write_16 ?_
      refine V.is3 C (by decide) rfl d_Mo_write_17 ?_
      refine V.aload_n C 0 rfl rfl d_Mo_write_18 ?_
      obtain ⟨v17, e18, h⟩ := Option.bind_eq_some_iff.mp h
      refine V.xgetI C fl_Mo_122 e18 d_Mo_write_19 ?_
      refine V.bipush C 8 (by decide) d_Mo_write_22 ?_
      have c19 : ¬ (8 : Int32) = (0 : Int32) := fun q => by rw [if_pos q] at h; cases h
      rw [if_neg c19] at h
      refine V.irem C c19 d_Mo_write_24 ?_
      refine V.if_ne C 35 (by decide) d_Mo_write_25 (fun c20 => ?_) (fun c20 => ?_)
      · rw [if_neg c20] at h
        refine V.aload_n C 0 rfl rfl d_Mo_write_35 ?_
        obtain ⟨q21, e22, h⟩ := Option.bind_eq_some_iff.mp h
        refine V.xgetR C fl_Mo_13 e22 d_Mo_write_36 ?_
        refine V.iload_n C 3 rfl rfl d_Mo_write_39 ?_
        refine V.aload_n C 0 rfl rfl d_Mo_write_40 ?_
        refine V.xgetR C fl_Mo_13 e22 d_Mo_write_41 ?_
        refine V.iload_n C 3 rfl rfl d_Mo_write_44 ?_
        obtain ⟨v23, e24, h⟩ := Option.bind_eq_some_iff.mp h
        refine V.xbald C e24 d_Mo_write_45 ?_
        refine V.iload_n C 1 rfl rfl d_Mo_write_46 ?_
        refine V.iload_n C 2 rfl rfl d_Mo_write_47 ?_
        refine V.ishr C d_Mo_write_48 ?_
        refine V.iconst C 1 (by decide) d_Mo_write_49 ?_
        refine V.iand C d_Mo_write_50 ?_
        refine V.aload_n C 0 rfl rfl d_Mo_write_51 ?_
        obtain ⟨v25, e26, h⟩ := Option.bind_eq_some_iff.mp h
        refine V.xgetI C fl_Mo_122 e26 d_Mo_write_52 ?_
        refine V.bipush C 8 (by decide) d_Mo_write_55 ?_
        have c27 : ¬ (8 : Int32) = (0 : Int32) := fun q => by rw [if_pos q] at h; cases h
        rw [if_neg c27] at h
        refine V.irem C c27 d_Mo_write_57 ?_
        refine V.ishl C d_Mo_write_58 ?_
        refine V.ior C d_Mo_write_59 ?_
        refine V.i2b C d_Mo_write_60 ?_
        obtain ⟨F28, e29, h⟩ := Option.bind_eq_some_iff.mp h
        refine V.xbast C e29 d_Mo_write_61 ?_
        refine V.aload_n C 0 rfl rfl d_Mo_write_62 ?_
        refine V.dup C rfl d_Mo_write_63 ?_
        obtain ⟨v30, e31, h⟩ := Option.bind_eq_some_iff.mp h
        refine V.xgetI C fl_Mo_122 e31 d_Mo_write_64 ?_
        refine V.iconst C 1 (by decide) d_Mo_write_67 ?_
        refine V.iadd C d_Mo_write_68 ?_
        obtain ⟨F32, e33, h⟩ := Option.bind_eq_some_iff.mp h
        refine V.xputI C fl_Mo_122 ft_9 fi_9_20 e33 d_Mo_write_69 ?_
        refine V.inc2 C 1 (by decide) (by decide) rfl d_Mo_write_72 ?_
        refine V.goto C 2 (by decide) d_Mo_write_75 ?_
        exact V.weak (xsub_spec (by simp [xsub])) (ih (u2 + (1 : Int32)) F32 _ h)
      · rw [if_pos c20] at h
        refine V.aload_n C 0 rfl rfl d_Mo_write_28 ?_
        obtain ⟨q34, e35, h⟩ := Option.bind_eq_some_iff.mp h
        refine V.xgetR C fl_Mo_13 e35 d_Mo_write_29 ?_
        refine V.iload_n C 3 rfl rfl d_Mo_write_32 ?_
        refine V.iconst C 0 (by decide) d_Mo_write_33 ?_
        obtain ⟨F36, e37, h⟩ := Option.bind_eq_some_iff.mp h
        refine V.xbast C e37 d_Mo_write_34 ?_
        refine V.aload_n C 0 rfl rfl d_Mo_write_35 ?_
        refine V.xgetR C fl_Mo_13 e35 d_Mo_write_36 ?_
        refine V.iload_n C 3 rfl rfl d_Mo_write_39 ?_
        refine V.aload_n C 0 rfl rfl d_Mo_write_40 ?_
        refine V.xgetR C fl_Mo_13 e35 d_Mo_write_41 ?_
        refine V.iload_n C 3 rfl rfl d_Mo_write_44 ?_
        obtain ⟨v38, e39, h⟩ := Option.bind_eq_some_iff.mp h
        refine V.xbald C e39 d_Mo_write_45 ?_
        refine V.iload_n C 1 rfl rfl d_Mo_write_46 ?_
        refine V.iload_n C 2 rfl rfl d_Mo_write_47 ?_
        refine V.ishr C d_Mo_write_48 ?_
        refine V.iconst C 1 (by decide) d_Mo_write_49 ?_
        refine V.iand C d_Mo_write_50 ?_
        refine V.aload_n C 0 rfl rfl d_Mo_write_51 ?_
        obtain ⟨v40, e41, h⟩ := Option.bind_eq_some_iff.mp h
        refine V.xgetI C fl_Mo_122 e41 d_Mo_write_52 ?_
        refine V.bipush C 8 (by decide) d_Mo_write_55 ?_
        have c42 : ¬ (8 : Int32) = (0 : Int32) := fun q => by rw [if_pos q] at h; cases h
        rw [if_neg c42] at h
        refine V.irem C c42 d_Mo_write_57 ?_
        refine V.ishl C d_Mo_write_58 ?_
        refine V.ior C d_Mo_write_59 ?_
        refine V.i2b C d_Mo_write_60 ?_
        obtain ⟨F43, e44, h⟩ := Option.bind_eq_some_iff.mp h
        refine V.xbast C e44 d_Mo_write_61 ?_
        refine V.aload_n C 0 rfl rfl d_Mo_write_62 ?_
        refine V.dup C rfl d_Mo_write_63 ?_
        obtain ⟨v45, e46, h⟩ := Option.bind_eq_some_iff.mp h
        refine V.xgetI C fl_Mo_122 e46 d_Mo_write_64 ?_
        refine V.iconst C 1 (by decide) d_Mo_write_67 ?_
        refine V.iadd C d_Mo_write_68 ?_
        obtain ⟨F47, e48, h⟩ := Option.bind_eq_some_iff.mp h
        refine V.xputI C fl_Mo_122 ft_9 fi_9_20 e48 d_Mo_write_69 ?_
        refine V.inc2 C 1 (by decide) (by decide) rfl d_Mo_write_72 ?_
        refine V.goto C 2 (by decide) d_Mo_write_75 ?_
        exact V.weak (xsub_spec (by simp [xsub])) (ih (u2 + (1 : Int32)) F47 _ h)
def f_Mo_write (S : List xO) (N : Nat) (a : Nat) (p0 : Int32) (F : xF) : Option xF :=
  t_Mo_write S N a p0 N (0 : Int32) F
set_option maxHeartbeats 4000000 in
set_option maxRecDepth 100000 in
theorem c_Mo_write {l : Launch} {g : xG} {S : List xO} {G : xL} {a : Nat} {p0 : Int32} {N : Nat} {F : xF} {F2 : xF} (h : f_Mo_write S N a p0 F = some F2) : CT l g 0 0 0 0 y_Mo_write b_Mo_write 4 none 1 [.ref a, .int p0] S F G none S F2 G := by
  refine CT.of [some (.ref a), some (.int p0), none, none] (by decide) (Nat.le_of_ble_eq_true rfl) rfl ?_
  intro p e s m args below meth c C hr hmn hz
  unfold f_Mo_write at h
  refine V.iconst C 0 (by decide) d_Mo_write_0 ?_
  refine V.is2 C (by decide) rfl d_Mo_write_1 ?_
  exact V.weak (xsub_spec (by simp [xsub])) ((l_Mo_write C hr N) (0 : Int32) F _ h)
def f_Mo_writeClear (S : List xO) (N : Nat) (a : Nat) (F : xF) : Option xF :=
  (gI S 9 a 1 F).bind fun v1 =>
  (xcl S 9 a (f_Mo_write S N a v1 F)).bind fun F3 =>
  (gR S 9 a 9).bind fun q5 =>
  (aG S q5 (1 : Int32) F3).bind fun v7 =>
  (aP S q5 (1 : Int32) (v7 + (1 : Int32)) F3).bind fun F9 =>
  (f_Mo_begin S N a F9).bind fun F11 =>
  some F11
set_option maxHeartbeats 4000000 in
set_option maxRecDepth 100000 in
theorem c_Mo_writeClear {l : Launch} {g : xG} {S : List xO} {G : xL} {a : Nat} {N : Nat} {F : xF} {F2 : xF} (h : f_Mo_writeClear S N a F = some F2) : CT l g 1 23 0 0 y_Mo_writeClear b_Mo_writeClear 1 none 1 [.ref a] S F G none S F2 G := by
  refine CT.of [some (.ref a)] (by decide) (Nat.le_of_ble_eq_true rfl) rfl ?_
  intro p e s m args below meth c C hr hmn hz
  unfold f_Mo_writeClear at h
  refine V.aload_n C 0 rfl rfl d_Mo_writeClear_0 ?_
  refine V.aload_n C 0 rfl rfl d_Mo_writeClear_1 ?_
  obtain ⟨v1, e2, h⟩ := Option.bind_eq_some_iff.mp h
  refine V.xgetI C fl_Mo_84 e2 d_Mo_writeClear_2 ?_
  obtain ⟨F3, e4, h⟩ := Option.bind_eq_some_iff.mp h
  obtain ⟨⟨fs_e4, s_e4⟩, e4⟩ := xcl_spec e4
  refine V.cVv C (c_Mo_write e4) ml_Mo_125 s_e4 rfl rfl (by decide) (Nat.le_of_ble_eq_true rfl) d_Mo_writeClear_5 ?_
  refine V.aload_n C 0 rfl rfl d_Mo_writeClear_8 ?_
  obtain ⟨q5, e6, h⟩ := Option.bind_eq_some_iff.mp h
  refine V.xgetR C fl_Mo_17 e6 d_Mo_writeClear_9 ?_
  refine V.iconst C 1 (by decide) d_Mo_writeClear_12 ?_
  refine V.dup2 C rfl rfl d_Mo_writeClear_13 ?_
  obtain ⟨v7, e8, h⟩ := Option.bind_eq_some_iff.mp h
  refine V.xiald C e8 d_Mo_writeClear_14 ?_
  refine V.iconst C 1 (by decide) d_Mo_writeClear_15 ?_
  refine V.iadd C d_Mo_writeClear_16 ?_
  obtain ⟨F9, e10, h⟩ := Option.bind_eq_some_iff.mp h
  refine V.xiast C e10 d_Mo_writeClear_17 ?_
  refine V.aload_n C 0 rfl rfl d_Mo_writeClear_18 ?_
  obtain ⟨F11, e12, h⟩ := Option.bind_eq_some_iff.mp h
  refine V.cVv C (c_Mo_begin e12) ml_Mo_129 s_e4 rfl rfl (by decide) (Nat.le_of_ble_eq_true rfl) d_Mo_writeClear_19 ?_
  obtain rfl := Option.some.inj h
  exact V.vret C hr d_Mo_writeClear_22 rfl rfl rfl
def t_Mo_encode (S : List xO) (N : Nat) (a : Nat) : Nat → Nat → Int32 → Int32 → Int32 → Int32 → Int32 → Int32 → Int32 → Int32 → xF → Option (Int32 × xF)
  | 0, _, _, _, _, _, _, _, _, _, _ => none
  | n + 1, tg, u1, u2, u3, u4, u5, u6, u7, u8, F =>
    if tg = 0 then
      if (4 : Int32) ≤ u1 then
        (xcl S 9 a (f_Mo_begin S N a F)).bind fun F6 =>
        (f_Mo_writeClear S N a F6).bind fun F8 =>
        t_Mo_encode S N a n 1 (0 : Int32) (0 : Int32) (0 : Int32) 0 0 0 0 0 F8
      else
      (gR S 9 a 9).bind fun q10 =>
      (aP S q10 u1 (0 : Int32) F).bind fun F12 =>
      t_Mo_encode S N a n 0 (u1 + (1 : Int32)) 0 0 0 0 0 0 0 F12
    else
    if tg = 1 then
      (gI S 9 a 5 F).bind fun v14 =>
      if v14 ≤ u1 then
        (gR S 9 a 9).bind fun q17 =>
        (gI S 9 a 14 F).bind fun v19 =>
        (gI S 9 a 2 F).bind fun v21 =>
        (aP S q17 (3 : Int32) ((v19 - v21) - (1 : Int32)) F).bind fun F23 =>
        (gI S 9 a 2 F23).bind fun v25 =>
        (xcl S 9 a (f_Mo_write S N a v25 F23)).bind fun F27 =>
        (gI S 9 a 20 F27).bind fun v29 =>
        if (8 : Int32) = (0 : Int32) then none else
        (pI S 9 a 7 ((v29 + (7 : Int32)) / (8 : Int32)) F27).bind fun F32 =>
        (gI S 9 a 7 F32).bind fun v34 =>
        some (v34, F32)
      else
      (gI S 9 a 14 F).bind fun v36 =>
      if v36 = (4096 : Int32) then
        t_Mo_encode S N a n 2 u1 u2 u3 (1 : Int32) 0 0 0 0 F
      else
      t_Mo_encode S N a n 2 u1 u2 u3 (0 : Int32) 0 0 0 0 F
    else
    if tg = 2 then
      (gI S 9 a 4 F).bind fun v39 =>
      if v39 = (2 : Int32) then
        if u4 = (0 : Int32) then
          t_Mo_encode S N a n 3 u1 u2 u3 u4 0 0 0 0 F
        else
        if u2 = (64 : Int32) then
          t_Mo_encode S N a n 4 u1 u2 u3 u4 (1 : Int32) 0 0 0 F
        else
        t_Mo_encode S N a n 3 u1 u2 u3 u4 0 0 0 0 F
      else
      t_Mo_encode S N a n 3 u1 u2 u3 u4 0 0 0 0 F
    else
    if tg = 3 then
      t_Mo_encode S N a n 4 u1 u2 u3 u4 (0 : Int32) 0 0 0 F
    else
    if tg = 4 then
      (gI S 9 a 4 F).bind fun v44 =>
      if v44 = (0 : Int32) then
        if u4 = (0 : Int32) then
          t_Mo_encode S N a n 5 u1 u2 u3 u4 u5 0 0 0 F
        else
        t_Mo_encode S N a n 6 u1 u2 u3 u4 u5 0 0 0 F
      else
      t_Mo_encode S N a n 5 u1 u2 u3 u4 u5 0 0 0 F
    else
    if tg = 5 then
      if u5 = (0 : Int32) then
        t_Mo_encode S N a n 7 u1 u2 u3 u4 u5 0 0 0 F
      else
      if (256 : Int32) ≤ u3 then
        t_Mo_encode S N a n 7 u1 u2 u3 u4 u5 0 0 0 F
      else
      t_Mo_encode S N a n 6 u1 u2 u3 u4 u5 0 0 0 F
    else
    if tg = 6 then
      (xcl S 9 a (f_Mo_writeClear S N a F)).bind fun F50 =>
      t_Mo_encode S N a n 7 u1 u2 u3 (0 : Int32) u5 0 0 0 F50
    else
    if tg = 7 then
      if u5 = (0 : Int32) then
        if u4 = (0 : Int32) then
          t_Mo_encode S N a n 8 u1 u2 u3 u4 u5 0 0 0 F
        else
        t_Mo_encode S N a n 9 u1 u2 u3 u4 u5 0 0 0 F
      else
      t_Mo_encode S N a n 8 u1 u2 u3 u4 u5 0 0 0 F
    else
    if tg = 8 then
      t_Mo_encode S N a n 9 u1 (0 : Int32) (0 : Int32) u4 u5 0 0 0 F
    else
    if tg = 9 then
      (gR S 9 a 6).bind fun q54 =>
      (aG S q54 u1 F).bind fun v56 =>
      (gI S 9 a 5 F).bind fun v58 =>
      if v58 ≤ (u1 + (1 : Int32)) then
        t_Mo_encode S N a n 10 u1 u2 u3 u4 u5 v56 (u1 + (1 : Int32)) (-1 : Int32) F
      else
      (aG S q54 (u1 + (1 : Int32)) F).bind fun v61 =>
      (xcl S 9 a (f_Mo_childOf S N a v56 v61 F)).bind fun v63 =>
      t_Mo_encode S N a n 10 u1 u2 u3 u4 u5 v56 (u1 + (1 : Int32)) v63 F
    else
    if tg = 10 then
      if u8 < (0 : Int32) then
        (xcl S 9 a (f_Mo_write S N a u6 F)).bind fun F66 =>
        (f_Mo_widen S a F66).bind fun F68 =>
        (gI S 9 a 5 F68).bind fun v70 =>
        if v70 ≤ u7 then
          t_Mo_encode S N a n 12 u1 u2 u3 u4 u5 u6 u7 u8 F68
        else
        (gR S 9 a 6).bind fun q73 =>
        (aG S q73 u7 F68).bind fun v75 =>
        (f_Mo_enter S a u6 v75 F68).bind fun F77 =>
        t_Mo_encode S N a n 12 u1 u2 u3 u4 u5 u6 u7 u8 F77
      else
      (gI S 9 a 5 F).bind fun v79 =>
      if v79 ≤ (u7 + (1 : Int32)) then
        t_Mo_encode S N a n 11 u1 u2 u3 u4 u5 u8 (u7 + (1 : Int32)) (-1 : Int32) F
      else
      (gR S 9 a 6).bind fun q82 =>
      (aG S q82 (u7 + (1 : Int32)) F).bind fun v84 =>
      (xcl S 9 a (f_Mo_childOf S N a u8 v84 F)).bind fun v86 =>
      t_Mo_encode S N a n 11 u1 u2 u3 u4 u5 u8 (u7 + (1 : Int32)) v86 F
    else
    if tg = 11 then
      t_Mo_encode S N a n 10 u1 u2 u3 u4 u5 u6 u7 u8 F
    else
    if tg = 12 then
      if u4 = (0 : Int32) then
        t_Mo_encode S N a n 13 u1 (u2 + (0 : Int32)) u3 u4 u5 u6 u7 u8 F
      else
      t_Mo_encode S N a n 13 u1 (u2 + (1 : Int32)) u3 u4 u5 u6 u7 u8 F
    else
    if tg = 13 then
      if u4 = (0 : Int32) then
        t_Mo_encode S N a n 14 u1 u2 (u3 + (0 : Int32)) u4 u5 u6 u7 u8 F
      else
      t_Mo_encode S N a n 14 u1 u2 (u3 + (u7 - u1)) u4 u5 u6 u7 u8 F
    else
    t_Mo_encode S N a n 1 u7 u2 u3 0 0 0 0 0 F
set_option maxHeartbeats 4000000 in
set_option maxRecDepth 100000 in
theorem l_Mo_encode {p : Program} {l : Launch} {e : Env} {s : State} {m : MethodId} {args : Array Value} {below : List Frame} {meth : Method} {c : Code} {g : xG} {S : List xO} {G : xL} {a : Nat} {N : Nat} (C : Cx p s m args meth c b_Mo_encode 9 "PaletteFramesModel" g) (hr : meth.sig.returnType = (some .int)) : ∀ (n : Nat), (∀ (u1 : Int32) (F : xF) (r : Int32) (F2 : xF), t_Mo_encode S N a n 0 u1 0 0 0 0 0 0 0 F = some (r, F2) → V p l e (xRm 2 43 0 0) s m args below meth c (xMQ g below args s 0 0 S F2 G (some (.int r))) 9 g S F G 0 0 12 [some (.ref a), some (.int u1), none, none, none, none, none, none, none] []) ∧ (∀ (u1 : Int32) (u2 : Int32) (u3 : Int32) (F : xF) (r : Int32) (F2 : xF), t_Mo_encode S N a n 1 u1 u2 u3 0 0 0 0 0 F = some (r, F2) → V p l e (xRm 2 43 0 0) s m args below meth c (xMQ g below args s 0 0 S F2 G (some (.int r))) 9 g S F G 0 0 44 [some (.ref a), some (.int u1), some (.int u2), some (.int u3), none, none, none, none, none] []) ∧ (∀ (u1 : Int32) (u2 : Int32) (u3 : Int32) (u4 : Int32) (F : xF) (r : Int32) (F2 : xF), t_Mo_encode S N a n 2 u1 u2 u3 u4 0 0 0 0 F = some (r, F2) → V p l e (xRm 2 43 0 0) s m args below meth c (xMQ g below args s 0 0 S F2 G (some (.int r))) 9 g S F G 0 0 69 [some (.ref a), some (.int u1), some (.int u2), some (.int u3), some (.int u4), none, none, none, none] []) ∧ (∀ (u1 : Int32) (u2 : Int32) (u3 : Int32) (u4 : Int32) (F : xF) (r : Int32) (F2 : xF), t_Mo_encode S N a n 3 u1 u2 u3 u4 0 0 0 0 F = some (r, F2) → V p l e (xRm 2 43 0 0) s m args below meth c (xMQ g below args s 0 0 S F2 G (some (.int r))) 9 g S F G 0 0 92 [some (.ref a), some (.int u1), some (.int u2), some (.int u3), some (.int u4), none, none, none, none] []) ∧ (∀ (u1 : Int32) (u2 : Int32) (u3 : Int32) (u4 : Int32) (u5 : Int32) (F : xF) (r : Int32) (F2 : xF), t_Mo_encode S N a n 4 u1 u2 u3 u4 u5 0 0 0 F = some (r, F2) → V p l e (xRm 2 43 0 0) s m args below meth c (xMQ g below args s 0 0 S F2 G (some (.int r))) 9 g S F G 0 0 95 [some (.ref a), some (.int u1), some (.int u2), some (.int u3), some (.int u4), some (.int u5), none, none, none] []) ∧ (∀ (u1 : Int32) (u2 : Int32) (u3 : Int32) (u4 : Int32) (u5 : Int32) (F : xF) (r : Int32) (F2 : xF), t_Mo_encode S N a n 5 u1 u2 u3 u4 u5 0 0 0 F = some (r, F2) → V p l e (xRm 2 43 0 0) s m args below meth c (xMQ g below args s 0 0 S F2 G (some (.int r))) 9 g S F G 0 0 107 [some (.ref a), some (.int u1), some (.int u2), some (.int u3), some (.int u4), some (.int u5), none, none, none] []) ∧ (∀ (u1 : Int32) (u2 : Int32) (u3 : Int32) (u4 : Int32) (u5 : Int32) (F : xF) (r : Int32) (F2 : xF), t_Mo_encode S N a n 6 u1 u2 u3 u4 u5 0 0 0 F = some (r, F2) → V p l e (xRm 2 43 0 0) s m args below meth c (xMQ g below args s 0 0 S F2 G (some (.int r))) 9 g S F G 0 0 119 [some (.ref a), some (.int u1), some (.int u2), some (.int u3), some (.int u4), some (.int u5), none, none, none] []) ∧ (∀ (u1 : Int32) (u2 : Int32) (u3 : Int32) (u4 : Int32) (u5 : Int32) (F : xF) (r : Int32) (F2 : xF), t_Mo_encode S N a n 7 u1 u2 u3 u4 u5 0 0 0 F = some (r, F2) → V p l e (xRm 2 43 0 0) s m args below meth c (xMQ g below args s 0 0 S F2 G (some (.int r))) 9 g S F G 0 0 126 [some (.ref a), some (.int u1), some (.int u2), some (.int u3), some (.int u4), some (.int u5), none, none, none] []) ∧ (∀ (u1 : Int32) (u2 : Int32) (u3 : Int32) (u4 : Int32) (u5 : Int32) (F : xF) (r : Int32) (F2 : xF), t_Mo_encode S N a n 8 u1 u2 u3 u4 u5 0 0 0 F = some (r, F2) → V p l e (xRm 2 43 0 0) s m args below meth c (xMQ g below args s 0 0 S F2 G (some (.int r))) 9 g S F G 0 0 136 [some (.ref a), some (.int u1), some (.int u2), some (.int u3), some (.int u4), some (.int u5), none, none, none] []) ∧ (∀ (u1 : Int32) (u2 : Int32) (u3 : Int32) (u4 : Int32) (u5 : Int32) (F : xF) (r : Int32) (F2 : xF), t_Mo_encode S N a n 9 u1 u2 u3 u4 u5 0 0 0 F = some (r, F2) → V p l e (xRm 2 43 0 0) s m args below meth c (xMQ g below args s 0 0 S F2 G (some (.int r))) 9 g S F G 0 0 140 [some (.ref a), some (.int u1), some (.int u2), some (.int u3), some (.int u4), some (.int u5), none, none, none] []) ∧ (∀ (u1 : Int32) (u2 : Int32) (u3 : Int32) (u4 : Int32) (u5 : Int32) (u6 : Int32) (u7 : Int32) (u8 : Int32) (F : xF) (r : Int32) (F2 : xF), t_Mo_encode S N a n 10 u1 u2 u3 u4 u5 u6 u7 u8 F = some (r, F2) → V p l e (xRm 2 43 0 0) s m args below meth c (xMQ g below args s 0 0 S F2 G (some (.int r))) 9 g S F G 0 0 181 [some (.ref a), some (.int u1), some (.int u2), some (.int u3), some (.int u4), some (.int u5), some (.int u6), some (.int u7), some (.int u8)] []) ∧ (∀ (u1 : Int32) (u2 : Int32) (u3 : Int32) (u4 : Int32) (u5 : Int32) (u6 : Int32) (u7 : Int32) (u8 : Int32) (F : xF) (r : Int32) (F2 : xF), t_Mo_encode S N a n 11 u1 u2 u3 u4 u5 u6 u7 u8 F = some (r, F2) → V p l e (xRm 2 43 0 0) s m args below meth c (xMQ g below args s 0 0 S F2 G (some (.int r))) 9 g S F G 0 0 221 [some (.ref a), some (.int u1), some (.int u2), some (.int u3), some (.int u4), some (.int u5), some (.int u6), some (.int u7), some (.int u8)] []) ∧ (∀ (u1 : Int32) (u2 : Int32) (u3 : Int32) (u4 : Int32) (u5 : Int32) (u6 : Int32) (u7 : Int32) (u8 : Int32) (F : xF) (r : Int32) (F2 : xF), t_Mo_encode S N a n 12 u1 u2 u3 u4 u5 u6 u7 u8 F = some (r, F2) → V p l e (xRm 2 43 0 0) s m args below meth c (xMQ g below args s 0 0 S F2 G (some (.int r))) 9 g S F G 0 0 256 [some (.ref a), some (.int u1), some (.int u2), some (.int u3), some (.int u4), some (.int u5), some (.int u6), some (.int u7), some (.int u8)] []) ∧ (∀ (u1 : Int32) (u2 : Int32) (u3 : Int32) (u4 : Int32) (u5 : Int32) (u6 : Int32) (u7 : Int32) (u8 : Int32) (F : xF) (r : Int32) (F2 : xF), t_Mo_encode S N a n 13 u1 u2 u3 u4 u5 u6 u7 u8 F = some (r, F2) → V p l e (xRm 2 43 0 0) s m args below meth c (xMQ g below args s 0 0 S F2 G (some (.int r))) 9 g S F G 0 0 269 [some (.ref a), some (.int u1), some (.int u2), some (.int u3), some (.int u4), some (.int u5), some (.int u6), some (.int u7), some (.int u8)] []) ∧ (∀ (u1 : Int32) (u2 : Int32) (u3 : Int32) (u4 : Int32) (u5 : Int32) (u6 : Int32) (u7 : Int32) (u8 : Int32) (F : xF) (r : Int32) (F2 : xF), t_Mo_encode S N a n 14 u1 u2 u3 u4 u5 u6 u7 u8 F = some (r, F2) → V p l e (xRm 2 43 0 0) s m args below meth c (xMQ g below args s 0 0 S F2 G (some (.int r))) 9 g S F G 0 0 285 [some (.ref a), some (.int u1), some (.int u2), some (.int u3), some (.int u4), some (.int u5), some (.int u6), some (.int u7), some (.int u8)] []) := by
  intro n
  induction n with
  | zero =>
    refine ⟨?_, ?_⟩
    · intro u1 F r F2 h
      cases h
    refine ⟨?_, ?_⟩
    · intro u1 u2 u3 F r F2 h
      cases h
    refine ⟨?_, ?_⟩
    · intro u1 u2 u3 u4 F r F2 h
      cases h
    refine ⟨?_, ?_⟩
    · intro u1 u2 u3 u4 F r F2 h
      cases h
    refine ⟨?_, ?_⟩
    · intro u1 u2 u3 u4 u5 F r F2 h
      cases h
    refine ⟨?_, ?_⟩
    · intro u1 u2 u3 u4 u5 F r F2 h
      cases h
    refine ⟨?_, ?_⟩
    · intro u1 u2 u3 u4 u5 F r F2 h
      cases h
    refine ⟨?_, ?_⟩
    · intro u1 u2 u3 u4 u5 F r F2 h
      cases h
    refine ⟨?_, ?_⟩
    · intro u1 u2 u3 u4 u5 F r F2 h
      cases h
    refine ⟨?_, ?_⟩
    · intro u1 u2 u3 u4 u5 F r F2 h
      cases h
    refine ⟨?_, ?_⟩
    · intro u1 u2 u3 u4 u5 u6 u7 u8 F r F2 h
      cases h
    refine ⟨?_, ?_⟩
    · intro u1 u2 u3 u4 u5 u6 u7 u8 F r F2 h
      cases h
    refine ⟨?_, ?_⟩
    · intro u1 u2 u3 u4 u5 u6 u7 u8 F r F2 h
      cases h
    refine ⟨?_, ?_⟩
    · intro u1 u2 u3 u4 u5 u6 u7 u8 F r F2 h
      cases h
    · intro u1 u2 u3 u4 u5 u6 u7 u8 F r F2 h
      cases h
  | succ n ih =>
    refine ⟨?_, ?_⟩
    · intro u1 F r F2 h
      rw [t_Mo_encode] at h
      rw [if_pos rfl] at h
      refine V.iload_n C 1 rfl rfl d_Mo_encode_12 ?_
      refine V.iconst C 4 (by decide) d_Mo_encode_13 ?_
      refine V.icmp_ge C 30 (by decide) d_Mo_encode_14 (fun c5 => ?_) (fun c5 => ?_)
      · rw [if_pos c5] at h
        refine V.aload_n C 0 rfl rfl d_Mo_encode_30 ?_
        obtain ⟨F6, e7, h⟩ := Option.bind_eq_some_iff.mp h
        obtain ⟨⟨fs_e7, s_e7⟩, e7⟩ := xcl_spec e7
        refine V.cVv C (c_Mo_begin e7) ml_Mo_129 s_e7 rfl rfl (by decide) (Nat.le_of_ble_eq_true rfl) d_Mo_encode_31 ?_
        refine V.aload_n C 0 rfl rfl d_Mo_encode_34 ?_
        obtain ⟨F8, e9, h⟩ := Option.bind_eq_some_iff.mp h
        refine V.cVv C (c_Mo_writeClear e9) ml_Mo_132 s_e7 rfl rfl (by decide) (Nat.le_of_ble_eq_true rfl) d_Mo_encode_35 ?_
        refine V.iconst C 0 (by decide) d_Mo_encode_38 ?_
        refine V.is1 C (by decide) rfl d_Mo_encode_39 ?_
        refine V.iconst C 0 (by decide) d_Mo_encode_40 ?_
        refine V.is2 C (by decide) rfl d_Mo_encode_41 ?_
        refine V.iconst C 0 (by decide) d_Mo_encode_42 ?_
        refine V.is3 C (by decide) rfl d_Mo_encode_43 ?_
        exact V.weak (xsub_spec (by simp [xsub])) (ih.2.1 (0 : Int32) (0 : Int32) (0 : Int32) F8 _ _ h)
      · rw [if_neg c5] at h
        refine V.aload_n C 0 rfl rfl d_Mo_encode_17 ?_
        obtain ⟨q10, e11, h⟩ := Option.bind_eq_some_iff.mp h
        refine V.xgetR C fl_Mo_17 e11 d_Mo_encode_18 ?_
        refine V.iload_n C 1 rfl rfl d_Mo_encode_21 ?_
        refine V.iconst C 0 (by decide) d_Mo_encode_22 ?_
        obtain ⟨F12, e13, h⟩ := Option.bind_eq_some_iff.mp h
        refine V.xiast C e13 d_Mo_encode_23 ?_
        refine V.inc1 C 1 (by decide) (by decide) rfl d_Mo_encode_24 ?_
        refine V.goto C 12 (by decide) d_Mo_encode_27 ?_
        exact V.weak (xsub_spec (by simp [xsub])) (ih.1 (u1 + (1 : Int32)) F12 _ _ h)
    refine ⟨?_, ?_⟩
    · intro u1 u2 u3 F r F2 h
      rw [t_Mo_encode] at h
      rw [if_neg (by decide)] at h
      rw [if_pos rfl] at h
      refine V.iload_n C 1 rfl rfl d_Mo_encode_44 ?_
      refine V.aload_n C 0 rfl rfl d_Mo_encode_45 ?_
      obtain ⟨v14, e15, h⟩ := Option.bind_eq_some_iff.mp h
      refine V.xgetI C fl_Mo_98 e15 d_Mo_encode_46 ?_
      refine V.icmp_ge C 291 (by decide) d_Mo_encode_49 (fun c16 => ?_) (fun c16 => ?_)
      · rw [if_pos c16] at h
        refine V.aload_n C 0 rfl rfl d_Mo_encode_291 ?_
        obtain ⟨q17, e18, h⟩ := Option.bind_eq_some_iff.mp h
        refine V.xgetR C fl_Mo_17 e18 d_Mo_encode_292 ?_
        refine V.iconst C 3 (by decide) d_Mo_encode_295 ?_
        refine V.aload_n C 0 rfl rfl d_Mo_encode_296 ?_
        obtain ⟨v19, e20, h⟩ := Option.bind_eq_some_iff.mp h
        refine V.xgetI C fl_Mo_113 e20 d_Mo_encode_297 ?_
        refine V.aload_n C 0 rfl rfl d_Mo_encode_300 ?_
        obtain ⟨v21, e22, h⟩ := Option.bind_eq_some_iff.mp h
        refine V.xgetI C fl_Mo_87 e22 d_Mo_encode_301 ?_
        refine V.isub C d_Mo_encode_304 ?_
        refine V.iconst C 1 (by decide) d_Mo_encode_305 ?_
        refine V.isub C d_Mo_encode_306 ?_
        obtain ⟨F23, e24, h⟩ := Option.bind_eq_some_iff.mp h
        refine V.xiast C e24 d_Mo_encode_307 ?_
        refine V.aload_n C 0 rfl rfl d_Mo_encode_308 ?_
        refine V.aload_n C 0 rfl rfl d_Mo_encode_309 ?_
        obtain ⟨v25, e26, h⟩ := Option.bind_eq_some_iff.mp h
        refine V.xgetI C fl_Mo_87 e26 d_Mo_encode_310 ?_
        obtain ⟨F27, e28, h⟩ := Option.bind_eq_some_iff.mp h
        obtain ⟨⟨fs_e28, s_e28⟩, e28⟩ := xcl_spec e28
        refine V.cVv C (c_Mo_write e28) ml_Mo_125 s_e28 rfl rfl (by decide) (Nat.le_of_ble_eq_true rfl) d_Mo_encode_313 ?_
        refine V.aload_n C 0 rfl rfl d_Mo_encode_316 ?_
        refine V.aload_n C 0 rfl rfl d_Mo_encode_317 ?_
        obtain ⟨v29, e30, h⟩ := Option.bind_eq_some_iff.mp h
        refine V.xgetI C fl_Mo_122 e30 d_Mo_encode_318 ?_
        refine V.bipush C 7 (by decide) d_Mo_encode_321 ?_
        refine V.iadd C d_Mo_encode_323 ?_
        refine V.bipush C 8 (by decide) d_Mo_encode_324 ?_
        have c31 : ¬ (8 : Int32) = (0 : Int32) := fun q => by rw [if_pos q] at h; cases h
        rw [if_neg c31] at h
        refine V.idiv C c31 d_Mo_encode_326 ?_
        obtain ⟨F32, e33, h⟩ := Option.bind_eq_some_iff.mp h
        refine V.xputI C fl_Mo_101 ft_9 fi_9_7 e33 d_Mo_encode_327 ?_
        refine V.aload_n C 0 rfl rfl d_Mo_encode_330 ?_
        obtain ⟨v34, e35, h⟩ := Option.bind_eq_some_iff.mp h
        refine V.xgetI C fl_Mo_101 e35 d_Mo_encode_331 ?_
        obtain ⟨rfl, rfl⟩ := Prod.mk.inj (Option.some.inj h)
        exact V.iret C hr d_Mo_encode_334 rfl rfl rfl rfl
      · rw [if_neg c16] at h
        refine V.aload_n C 0 rfl rfl d_Mo_encode_52 ?_
        obtain ⟨v36, e37, h⟩ := Option.bind_eq_some_iff.mp h
        refine V.xgetI C fl_Mo_113 e37 d_Mo_encode_53 ?_
        refine V.sipush C 4096 (by decide) d_Mo_encode_56 ?_
        refine V.icmp_ne C 66 (by decide) d_Mo_encode_59 (fun c38 => ?_) (fun c38 => ?_)
        · rw [if_neg c38] at h
          refine V.iconst C 0 (by decide) d_Mo_encode_66 ?_
          refine V.is4 C (by decide) rfl d_Mo_encode_67 ?_
          exact V.weak (xsub_spec (by simp [xsub])) (ih.2.2.1 u1 u2 u3 (0 : Int32) F _ _ h)
        · rw [if_pos c38] at h
          refine V.iconst C 1 (by decide) d_Mo_encode_62 ?_
          refine V.goto C 67 (by decide) d_Mo_encode_63 ?_
          refine V.is4 C (by decide) rfl d_Mo_encode_67 ?_
          exact V.weak (xsub_spec (by simp [xsub])) (ih.2.2.1 u1 u2 u3 (1 : Int32) F _ _ h)
    refine ⟨?_, ?_⟩
    · intro u1 u2 u3 u4 F r F2 h
      rw [t_Mo_encode] at h
      rw [if_neg (by decide)] at h
      rw [if_neg (by decide)] at h
      rw [if_pos rfl] at h
      refine V.aload_n C 0 rfl rfl d_Mo_encode_69 ?_
      obtain ⟨v39, e40, h⟩ := Option.bind_eq_some_iff.mp h
      refine V.xgetI C fl_Mo_95 e40 d_Mo_encode_70 ?_
      refine V.iconst C 2 (by decide) d_Mo_encode_73 ?_
      refine V.icmp_ne C 92 (by decide) d_Mo_encode_74 (fun c41 => ?_) (fun c41 => ?_)
      · rw [if_neg c41] at h
        exact V.weak (xsub_spec (by simp [xsub])) (ih.2.2.2.1 u1 u2 u3 u4 F _ _ h)
      · rw [if_pos c41] at h
        refine V.iload C rfl d_Mo_encode_77 ?_
        refine V.if_eq C 92 (by decide) d_Mo_encode_79 (fun c42 => ?_) (fun c42 => ?_)
        · rw [if_pos c42] at h
          exact V.weak (xsub_spec (by simp [xsub])) (ih.2.2.2.1 u1 u2 u3 u4 F _ _ h)
        · rw [if_neg c42] at h
          refine V.iload_n C 2 rfl rfl d_Mo_encode_82 ?_
          refine V.bipush C 64 (by decide) d_Mo_encode_83 ?_
          refine V.icmp_ne C 92 (by decide) d_Mo_encode_85 (fun c43 => ?_) (fun c43 => ?_)
          · rw [if_neg c43] at h
            exact V.weak (xsub_spec (by simp [xsub])) (ih.2.2.2.1 u1 u2 u3 u4 F _ _ h)
          · rw [if_pos c43] at h
            refine V.iconst C 1 (by decide) d_Mo_encode_88 ?_
            refine V.goto C 93 (by decide) d_Mo_encode_89 ?_
            refine V.is5 C (by decide) rfl d_Mo_encode_93 ?_
            exact V.weak (xsub_spec (by simp [xsub])) (ih.2.2.2.2.1 u1 u2 u3 u4 (1 : Int32) F _ _ h)
    refine ⟨?_, ?_⟩
    · intro u1 u2 u3 u4 F r F2 h
      rw [t_Mo_encode] at h
      rw [if_neg (by decide)] at h
      rw [if_neg (by decide)] at h
      rw [if_neg (by decide)] at h
      rw [if_pos rfl] at h
      refine V.iconst C 0 (by decide) d_Mo_encode_92 ?_
      refine V.is5 C (by decide) rfl d_Mo_encode_93 ?_
      exact V.weak (xsub_spec (by simp [xsub])) (ih.2.2.2.2.1 u1 u2 u3 u4 (0 : Int32) F _ _ h)
    refine ⟨?_, ?_⟩
    · intro u1 u2 u3 u4 u5 F r F2 h
      rw [t_Mo_encode] at h
      rw [if_neg (by decide)] at h
      rw [if_neg (by decide)] at h
      rw [if_neg (by decide)] at h
      rw [if_neg (by decide)] at h
      rw [if_pos rfl] at h
      refine V.aload_n C 0 rfl rfl d_Mo_encode_95 ?_
      obtain ⟨v44, e45, h⟩ := Option.bind_eq_some_iff.mp h
      refine V.xgetI C fl_Mo_95 e45 d_Mo_encode_96 ?_
      refine V.if_ne C 107 (by decide) d_Mo_encode_99 (fun c46 => ?_) (fun c46 => ?_)
      · rw [if_neg c46] at h
        exact V.weak (xsub_spec (by simp [xsub])) (ih.2.2.2.2.2.1 u1 u2 u3 u4 u5 F _ _ h)
      · rw [if_pos c46] at h
        refine V.iload C rfl d_Mo_encode_102 ?_
        refine V.if_ne C 119 (by decide) d_Mo_encode_104 (fun c47 => ?_) (fun c47 => ?_)
        · rw [if_neg c47] at h
          exact V.weak (xsub_spec (by simp [xsub])) (ih.2.2.2.2.2.2.1 u1 u2 u3 u4 u5 F _ _ h)
        · rw [if_pos c47] at h
          exact V.weak (xsub_spec (by simp [xsub])) (ih.2.2.2.2.2.1 u1 u2 u3 u4 u5 F _ _ h)
    refine ⟨?_, ?_⟩
    · intro u1 u2 u3 u4 u5 F r F2 h
      rw [t_Mo_encode] at h
      rw [if_neg (by decide)] at h
      rw [if_neg (by decide)] at h
      rw [if_neg (by decide)] at h
      rw [if_neg (by decide)] at h
      rw [if_neg (by decide)] at h
      rw [if_pos rfl] at h
      refine V.iload C rfl d_Mo_encode_107 ?_
      refine V.if_eq C 126 (by decide) d_Mo_encode_109 (fun c48 => ?_) (fun c48 => ?_)
      · rw [if_pos c48] at h
        exact V.weak (xsub_spec (by simp [xsub])) (ih.2.2.2.2.2.2.2.1 u1 u2 u3 u4 u5 F _ _ h)
      · rw [if_neg c48] at h
        refine V.iload_n C 3 rfl rfl d_Mo_encode_112 ?_
        refine V.sipush C 256 (by decide) d_Mo_encode_113 ?_
        refine V.icmp_ge C 126 (by decide) d_Mo_encode_116 (fun c49 => ?_) (fun c49 => ?_)
        · rw [if_pos c49] at h
          exact V.weak (xsub_spec (by simp [xsub])) (ih.2.2.2.2.2.2.2.1 u1 u2 u3 u4 u5 F _ _ h)
        · rw [if_neg c49] at h
          exact V.weak (xsub_spec (by simp [xsub])) (ih.2.2.2.2.2.2.1 u1 u2 u3 u4 u5 F _ _ h)
    refine ⟨?_, ?_⟩
    · intro u1 u2 u3 u4 u5 F r F2 h
      rw [t_Mo_encode] at h
      rw [if_neg (by decide)] at h
      rw [if_neg (by decide)] at h
      rw [if_neg (by decide)] at h
      rw [if_neg (by decide)] at h
      rw [if_neg (by decide)] at h
      rw [if_neg (by decide)] at h
      rw [if_pos rfl] at h
      refine V.aload_n C 0 rfl rfl d_Mo_encode_119 ?_
      obtain ⟨F50, e51, h⟩ := Option.bind_eq_some_iff.mp h
      obtain ⟨⟨fs_e51, s_e51⟩, e51⟩ := xcl_spec e51
      refine V.cVv C (c_Mo_writeClear e51) ml_Mo_132 s_e51 rfl rfl (by decide) (Nat.le_of_ble_eq_true rfl) d_Mo_encode_120 ?_
      refine V.iconst C 0 (by decide) d_Mo_encode_123 ?_
      refine V.is4 C (by decide) rfl d_Mo_encode_124 ?_
      exact V.weak (xsub_spec (by simp [xsub])) (ih.2.2.2.2.2.2.2.1 u1 u2 u3 (0 : Int32) u5 F50 _ _ h)
    refine ⟨?_, ?_⟩
    · intro u1 u2 u3 u4 u5 F r F2 h
      rw [t_Mo_encode] at h
      rw [if_neg (by decide)] at h
      rw [if_neg (by decide)] at h
      rw [if_neg (by decide)] at h
      rw [if_neg (by decide)] at h
      rw [if_neg (by decide)] at h
      rw [if_neg (by decide)] at h
      rw [if_neg (by decide)] at h
      rw [if_pos rfl] at h
      refine V.iload C rfl d_Mo_encode_126 ?_
      refine V.if_ne C 136 (by decide) d_Mo_encode_128 (fun c52 => ?_) (fun c52 => ?_)
      · rw [if_neg c52] at h
        exact V.weak (xsub_spec (by simp [xsub])) (ih.2.2.2.2.2.2.2.2.1 u1 u2 u3 u4 u5 F _ _ h)
      · rw [if_pos c52] at h
        refine V.iload C rfl d_Mo_encode_131 ?_
        refine V.if_ne C 140 (by decide) d_Mo_encode_133 (fun c53 => ?_) (fun c53 => ?_)
        · rw [if_neg c53] at h
          exact V.weak (xsub_spec (by simp [xsub])) (ih.2.2.2.2.2.2.2.2.2.1 u1 u2 u3 u4 u5 F _ _ h)
        · rw [if_pos c53] at h
          exact V.weak (xsub_spec (by simp [xsub])) (ih.2.2.2.2.2.2.2.2.1 u1 u2 u3 u4 u5 F _ _ h)
    refine ⟨?_, ?_⟩
    · intro u1 u2 u3 u4 u5 F r F2 h
      rw [t_Mo_encode] at h
      rw [if_neg (by decide)] at h
      rw [if_neg (by decide)] at h
      rw [if_neg (by decide)] at h
      rw [if_neg (by decide)] at h
      rw [if_neg (by decide)] at h
      rw [if_neg (by decide)] at h
      rw [if_neg (by decide)] at h
      rw [if_neg (by decide)] at h
      rw [if_pos rfl] at h
      refine V.iconst C 0 (by decide) d_Mo_encode_136 ?_
      refine V.is2 C (by decide) rfl d_Mo_encode_137 ?_
      refine V.iconst C 0 (by decide) d_Mo_encode_138 ?_
      refine V.is3 C (by decide) rfl d_Mo_encode_139 ?_
      exact V.weak (xsub_spec (by simp [xsub])) (ih.2.2.2.2.2.2.2.2.2.1 u1 (0 : Int32) (0 : Int32) u4 u5 F _ _ h)
    refine ⟨?_, ?_⟩
    · intro u1 u2 u3 u4 u5 F r F2 h
      rw [t_Mo_encode] at h
      rw [if_neg (by decide)] at h
      rw [if_neg (by decide)] at h
      rw [if_neg (by decide)] at h
      rw [if_neg (by decide)] at h
      rw [if_neg (by decide)] at h
      rw [if_neg (by decide)] at h
      rw [if_neg (by decide)] at h
      rw [if_neg (by decide)] at h
      rw [if_neg (by decide)] at h
      rw [if_pos rfl] at h
      refine V.aload_n C 0 rfl rfl d_Mo_encode_140 ?_
      obtain ⟨q54, e55, h⟩ := Option.bind_eq_some_iff.mp h
      refine V.xgetR C fl_Mo_7 e55 d_Mo_encode_141 ?_
      refine V.iload_n C 1 rfl rfl d_Mo_encode_144 ?_
      obtain ⟨v56, e57, h⟩ := Option.bind_eq_some_iff.mp h
      refine V.xiald C e57 d_Mo_encode_145 ?_
      refine V.is6 C (by decide) rfl d_Mo_encode_146 ?_
      refine V.iload_n C 1 rfl rfl d_Mo_encode_148 ?_
      refine V.iconst C 1 (by decide) d_Mo_encode_149 ?_
      refine V.iadd C d_Mo_encode_150 ?_
      refine V.is7 C (by decide) rfl d_Mo_encode_151 ?_
      refine V.iload C rfl d_Mo_encode_153 ?_
      refine V.aload_n C 0 rfl rfl d_Mo_encode_155 ?_
      obtain ⟨v58, e59, h⟩ := Option.bind_eq_some_iff.mp h
      refine V.xgetI C fl_Mo_98 e59 d_Mo_encode_156 ?_
      refine V.icmp_ge C 178 (by decide) d_Mo_encode_159 (fun c60 => ?_) (fun c60 => ?_)
      · rw [if_pos c60] at h
        refine V.iconst C (-1) (by decide) d_Mo_encode_178 ?_
        refine V.is8 C (by decide) rfl d_Mo_encode_179 ?_
        exact V.weak (xsub_spec (by simp [xsub])) (ih.2.2.2.2.2.2.2.2.2.2.1 u1 u2 u3 u4 u5 v56 (u1 + (1 : Int32)) (-1 : Int32) F _ _ h)
      · rw [if_neg c60] at h
        refine V.aload_n C 0 rfl rfl d_Mo_encode_162 ?_
        refine V.iload C rfl d_Mo_encode_163 ?_
        refine V.aload_n C 0 rfl rfl d_Mo_encode_165 ?_
        refine V.xgetR C fl_Mo_7 e55 d_Mo_encode_166 ?_
        refine V.iload C rfl d_Mo_encode_169 ?_
        obtain ⟨v61, e62, h⟩ := Option.bind_eq_some_iff.mp h
        refine V.xiald C e62 d_Mo_encode_171 ?_
        obtain ⟨v63, e64, h⟩ := Option.bind_eq_some_iff.mp h
        obtain ⟨⟨fs_e64, s_e64⟩, e64⟩ := xcl_spec e64
        refine V.cVr C (c_Mo_childOf e64) ml_Mo_135 s_e64 rfl rfl (by decide) (Nat.le_of_ble_eq_true rfl) d_Mo_encode_172 ?_
        refine V.goto C 179 (by decide) d_Mo_encode_175 ?_
        refine V.is8 C (by decide) rfl d_Mo_encode_179 ?_
        exact V.weak (xsub_spec (by simp [xsub])) (ih.2.2.2.2.2.2.2.2.2.2.1 u1 u2 u3 u4 u5 v56 (u1 + (1 : Int32)) v63 F _ _ h)
    refine ⟨?_, ?_⟩
    · intro u1 u2 u3 u4 u5 u6 u7 u8 F r F2 h
      rw [t_Mo_encode] at h
      rw [if_neg (by decide)] at h
      rw [if_neg (by decide)] at h
      rw [if_neg (by decide)] at h
      rw [if_neg (by decide)] at h
      rw [if_neg (by decide)] at h
      rw [if_neg (by decide)] at h
      rw [if_neg (by decide)] at h
      rw [if_neg (by decide)] at h
      rw [if_neg (by decide)] at h
      rw [if_neg (by decide)] at h
      rw [if_pos rfl] at h
      refine V.iload C rfl d_Mo_encode_181 ?_
      refine V.if_lt C 224 (by decide) d_Mo_encode_183 (fun c65 => ?_) (fun c65 => ?_)
      · rw [if_pos c65] at h
        refine V.aload_n C 0 rfl rfl d_Mo_encode_224 ?_
        refine V.iload C rfl d_Mo_encode_225 ?_
        obtain ⟨F66, e67, h⟩ := Option.bind_eq_some_iff.mp h
        obtain ⟨⟨fs_e67, s_e67⟩, e67⟩ := xcl_spec e67
        refine V.cVv C (c_Mo_write e67) ml_Mo_125 s_e67 rfl rfl (by decide) (Nat.le_of_ble_eq_true rfl) d_Mo_encode_227 ?_
        refine V.aload_n C 0 rfl rfl d_Mo_encode_230 ?_
        obtain ⟨F68, e69, h⟩ := Option.bind_eq_some_iff.mp h
        refine V.cVv C (c_Mo_widen e69) ml_Mo_139 s_e67 rfl rfl (by decide) (Nat.le_of_ble_eq_true rfl) d_Mo_encode_231 ?_
        refine V.iload C rfl d_Mo_encode_234 ?_
        refine V.aload_n C 0 rfl rfl d_Mo_encode_236 ?_
        obtain ⟨v70, e71, h⟩ := Option.bind_eq_some_iff.mp h
        refine V.xgetI C fl_Mo_98 e71 d_Mo_encode_237 ?_
        refine V.icmp_ge C 256 (by decide) d_Mo_encode_240 (fun c72 => ?_) (fun c72 => ?_)
        · rw [if_pos c72] at h
          exact V.weak (xsub_spec (by simp [xsub])) (ih.2.2.2.2.2.2.2.2.2.2.2.2.1 u1 u2 u3 u4 u5 u6 u7 u8 F68 _ _ h)
        · rw [if_neg c72] at h
          refine V.aload_n C 0 rfl rfl d_Mo_encode_243 ?_
          refine V.iload C rfl d_Mo_encode_244 ?_
          refine V.aload_n C 0 rfl rfl d_Mo_encode_246 ?_
          obtain ⟨q73, e74, h⟩ := Option.bind_eq_some_iff.mp h
          refine V.xgetR C fl_Mo_7 e74 d_Mo_encode_247 ?_
          refine V.iload C rfl d_Mo_encode_250 ?_
          obtain ⟨v75, e76, h⟩ := Option.bind_eq_some_iff.mp h
          refine V.xiald C e76 d_Mo_encode_252 ?_
          obtain ⟨F77, e78, h⟩ := Option.bind_eq_some_iff.mp h
          refine V.cVv C (c_Mo_enter e78) ml_Mo_142 s_e67 rfl rfl (by decide) (Nat.le_of_ble_eq_true rfl) d_Mo_encode_253 ?_
          exact V.weak (xsub_spec (by simp [xsub])) (ih.2.2.2.2.2.2.2.2.2.2.2.2.1 u1 u2 u3 u4 u5 u6 u7 u8 F77 _ _ h)
      · rw [if_neg c65] at h
        refine V.iload C rfl d_Mo_encode_186 ?_
        refine V.is6 C (by decide) rfl d_Mo_encode_188 ?_
        refine V.inc7 C 1 (by decide) (by decide) rfl d_Mo_encode_190 ?_
        refine V.iload C rfl d_Mo_encode_193 ?_
        refine V.aload_n C 0 rfl rfl d_Mo_encode_195 ?_
        obtain ⟨v79, e80, h⟩ := Option.bind_eq_some_iff.mp h
        refine V.xgetI C fl_Mo_98 e80 d_Mo_encode_196 ?_
        refine V.icmp_ge C 218 (by decide) d_Mo_encode_199 (fun c81 => ?_) (fun c81 => ?_)
        · rw [if_pos c81] at h
          refine V.iconst C (-1) (by decide) d_Mo_encode_218 ?_
          refine V.is8 C (by decide) rfl d_Mo_encode_219 ?_
          exact V.weak (xsub_spec (by simp [xsub])) (ih.2.2.2.2.2.2.2.2.2.2.2.1 u1 u2 u3 u4 u5 u8 (u7 + (1 : Int32)) (-1 : Int32) F _ _ h)
        · rw [if_neg c81] at h
          refine V.aload_n C 0 rfl rfl d_Mo_encode_202 ?_
          refine V.iload C rfl d_Mo_encode_203 ?_
          refine V.aload_n C 0 rfl rfl d_Mo_encode_205 ?_
          obtain ⟨q82, e83, h⟩ := Option.bind_eq_some_iff.mp h
          refine V.xgetR C fl_Mo_7 e83 d_Mo_encode_206 ?_
          refine V.iload C rfl d_Mo_encode_209 ?_
          obtain ⟨v84, e85, h⟩ := Option.bind_eq_some_iff.mp h
          refine V.xiald C e85 d_Mo_encode_211 ?_
          obtain ⟨v86, e87, h⟩ := Option.bind_eq_some_iff.mp h
          obtain ⟨⟨fs_e87, s_e87⟩, e87⟩ := xcl_spec e87
          refine V.cVr C (c_Mo_childOf e87) ml_Mo_135 s_e87 rfl rfl (by decide) (Nat.le_of_ble_eq_true rfl) d_Mo_encode_212 ?_
          refine V.goto C 219 (by decide) d_Mo_encode_215 ?_
          refine V.is8 C (by decide) rfl d_Mo_encode_219 ?_
          exact V.weak (xsub_spec (by simp [xsub])) (ih.2.2.2.2.2.2.2.2.2.2.2.1 u1 u2 u3 u4 u5 u8 (u7 + (1 : Int32)) v86 F _ _ h)
    refine ⟨?_, ?_⟩
    · intro u1 u2 u3 u4 u5 u6 u7 u8 F r F2 h
      rw [t_Mo_encode] at h
      rw [if_neg (by decide)] at h
      rw [if_neg (by decide)] at h
      rw [if_neg (by decide)] at h
      rw [if_neg (by decide)] at h
      rw [if_neg (by decide)] at h
      rw [if_neg (by decide)] at h
      rw [if_neg (by decide)] at h
      rw [if_neg (by decide)] at h
      rw [if_neg (by decide)] at h
      rw [if_neg (by decide)] at h
      rw [if_neg (by decide)] at h
      rw [if_pos rfl] at h
      refine V.goto C 181 (by decide) d_Mo_encode_221 ?_
      exact V.weak (xsub_spec (by simp [xsub])) (ih.2.2.2.2.2.2.2.2.2.2.1 u1 u2 u3 u4 u5 u6 u7 u8 F _ _ h)
    refine ⟨?_, ?_⟩
    · intro u1 u2 u3 u4 u5 u6 u7 u8 F r F2 h
      rw [t_Mo_encode] at h
      rw [if_neg (by decide)] at h
      rw [if_neg (by decide)] at h
      rw [if_neg (by decide)] at h
      rw [if_neg (by decide)] at h
      rw [if_neg (by decide)] at h
      rw [if_neg (by decide)] at h
      rw [if_neg (by decide)] at h
      rw [if_neg (by decide)] at h
      rw [if_neg (by decide)] at h
      rw [if_neg (by decide)] at h
      rw [if_neg (by decide)] at h
      rw [if_neg (by decide)] at h
      rw [if_pos rfl] at h
      refine V.iload_n C 2 rfl rfl d_Mo_encode_256 ?_
      refine V.iload C rfl d_Mo_encode_257 ?_
      refine V.if_eq C 266 (by decide) d_Mo_encode_259 (fun c88 => ?_) (fun c88 => ?_)
      · rw [if_pos c88] at h
        refine V.iconst C 0 (by decide) d_Mo_encode_266 ?_
        refine V.iadd C d_Mo_encode_267 ?_
        refine V.is2 C (by decide) rfl d_Mo_encode_268 ?_
        exact V.weak (xsub_spec (by simp [xsub])) (ih.2.2.2.2.2.2.2.2.2.2.2.2.2.1 u1 (u2 + (0 : Int32)) u3 u4 u5 u6 u7 u8 F _ _ h)
      · rw [if_neg c88] at h
        refine V.iconst C 1 (by decide) d_Mo_encode_262 ?_
        refine V.goto C 267 (by decide) d_Mo_encode_263 ?_
        refine V.iadd C d_Mo_encode_267 ?_
        refine V.is2 C (by decide) rfl d_Mo_encode_268 ?_
        exact V.weak (xsub_spec (by simp [xsub])) (ih.2.2.2.2.2.2.2.2.2.2.2.2.2.1 u1 (u2 + (1 : Int32)) u3 u4 u5 u6 u7 u8 F _ _ h)
    refine ⟨?_, ?_⟩
    · intro u1 u2 u3 u4 u5 u6 u7 u8 F r F2 h
      rw [t_Mo_encode] at h
      rw [if_neg (by decide)] at h
      rw [if_neg (by decide)] at h
      rw [if_neg (by decide)] at h
      rw [if_neg (by decide)] at h
      rw [if_neg (by decide)] at h
      rw [if_neg (by decide)] at h
      rw [if_neg (by decide)] at h
      rw [if_neg (by decide)] at h
      rw [if_neg (by decide)] at h
      rw [if_neg (by decide)] at h
      rw [if_neg (by decide)] at h
      rw [if_neg (by decide)] at h
      rw [if_neg (by decide)] at h
      rw [if_pos rfl] at h
      refine V.iload_n C 3 rfl rfl d_Mo_encode_269 ?_
      refine V.iload C rfl d_Mo_encode_270 ?_
      refine V.if_eq C 282 (by decide) d_Mo_encode_272 (fun c89 => ?_) (fun c89 => ?_)
      · rw [if_pos c89] at h
        refine V.iconst C 0 (by decide) d_Mo_encode_282 ?_
        refine V.iadd C d_Mo_encode_283 ?_
        refine V.is3 C (by decide) rfl d_Mo_encode_284 ?_
        exact V.weak (xsub_spec (by simp [xsub])) (ih.2.2.2.2.2.2.2.2.2.2.2.2.2.2 u1 u2 (u3 + (0 : Int32)) u4 u5 u6 u7 u8 F _ _ h)
      · rw [if_neg c89] at h
        refine V.iload C rfl d_Mo_encode_275 ?_
        refine V.iload_n C 1 rfl rfl d_Mo_encode_277 ?_
        refine V.isub C d_Mo_encode_278 ?_
        refine V.goto C 283 (by decide) d_Mo_encode_279 ?_
        refine V.iadd C d_Mo_encode_283 ?_
        refine V.is3 C (by decide) rfl d_Mo_encode_284 ?_
        exact V.weak (xsub_spec (by simp [xsub])) (ih.2.2.2.2.2.2.2.2.2.2.2.2.2.2 u1 u2 (u3 + (u7 - u1)) u4 u5 u6 u7 u8 F _ _ h)
    · intro u1 u2 u3 u4 u5 u6 u7 u8 F r F2 h
      rw [t_Mo_encode] at h
      rw [if_neg (by decide)] at h
      rw [if_neg (by decide)] at h
      rw [if_neg (by decide)] at h
      rw [if_neg (by decide)] at h
      rw [if_neg (by decide)] at h
      rw [if_neg (by decide)] at h
      rw [if_neg (by decide)] at h
      rw [if_neg (by decide)] at h
      rw [if_neg (by decide)] at h
      rw [if_neg (by decide)] at h
      rw [if_neg (by decide)] at h
      rw [if_neg (by decide)] at h
      rw [if_neg (by decide)] at h
      rw [if_neg (by decide)] at h
      refine V.iload C rfl d_Mo_encode_285 ?_
      refine V.is1 C (by decide) rfl d_Mo_encode_287 ?_
      refine V.goto C 44 (by decide) d_Mo_encode_288 ?_
      exact V.weak (xsub_spec (by simp [xsub])) (ih.2.1 u7 u2 u3 F _ _ h)
def f_Mo_encode (S : List xO) (N : Nat) (a : Nat) (F : xF) : Option (Int32 × xF) :=
  (pI S 9 a 3 (0 : Int32) F).bind fun F1 =>
  (pI S 9 a 20 (0 : Int32) F1).bind fun F3 =>
  t_Mo_encode S N a N 0 (0 : Int32) 0 0 0 0 0 0 0 F3
set_option maxHeartbeats 4000000 in
set_option maxRecDepth 100000 in
theorem c_Mo_encode {l : Launch} {g : xG} {S : List xO} {G : xL} {a : Nat} {N : Nat} {F : xF} {r : Int32} {F2 : xF} (h : f_Mo_encode S N a F = some (r, F2)) : CT l g 2 43 0 0 y_Mo_encode b_Mo_encode 9 (some .int) 1 [.ref a] S F G (some (.int r)) S F2 G := by
  refine CT.of [some (.ref a), none, none, none, none, none, none, none, none] (by decide) (Nat.le_of_ble_eq_true rfl) rfl ?_
  intro p e s m args below meth c C hr hmn hz
  unfold f_Mo_encode at h
  refine V.aload_n C 0 rfl rfl d_Mo_encode_0 ?_
  refine V.iconst C 0 (by decide) d_Mo_encode_1 ?_
  obtain ⟨F1, e2, h⟩ := Option.bind_eq_some_iff.mp h
  refine V.xputI C fl_Mo_92 ft_9 fi_9_3 e2 d_Mo_encode_2 ?_
  refine V.aload_n C 0 rfl rfl d_Mo_encode_5 ?_
  refine V.iconst C 0 (by decide) d_Mo_encode_6 ?_
  obtain ⟨F3, e4, h⟩ := Option.bind_eq_some_iff.mp h
  refine V.xputI C fl_Mo_122 ft_9 fi_9_20 e4 d_Mo_encode_7 ?_
  refine V.iconst C 0 (by decide) d_Mo_encode_10 ?_
  refine V.is1 C (by decide) rfl d_Mo_encode_11 ?_
  exact V.weak (xsub_spec (by simp [xsub])) ((l_Mo_encode C hr N).1 (0 : Int32) F3 _ _ h)
def f_Mo_byteAt (S : List xO) (a : Nat) (p0 : Int32) (F : xF) : Option (Int32 × xF) :=
  if p0 < (0 : Int32) then
    (pI S 9 a 3 (1 : Int32) F).bind fun F2 =>
    (gI S 9 a 3 F2).bind fun v4 =>
    if v4 ≤ (0 : Int32) then
      (gR S 9 a 8).bind fun q7 =>
      (bG S q7 p0 F2).bind fun v9 =>
      some (v9 &&& (255 : Int32), F2)
    else
    some ((0 : Int32), F2)
  else
  (gI S 9 a 7 F).bind fun v11 =>
  if p0 < v11 then
    (pI S 9 a 3 (0 : Int32) F).bind fun F14 =>
    (gI S 9 a 3 F14).bind fun v16 =>
    if v16 ≤ (0 : Int32) then
      (gR S 9 a 8).bind fun q19 =>
      (bG S q19 p0 F14).bind fun v21 =>
      some (v21 &&& (255 : Int32), F14)
    else
    some ((0 : Int32), F14)
  else
  (pI S 9 a 3 (1 : Int32) F).bind fun F23 =>
  (gI S 9 a 3 F23).bind fun v25 =>
  if v25 ≤ (0 : Int32) then
    (gR S 9 a 8).bind fun q28 =>
    (bG S q28 p0 F23).bind fun v30 =>
    some (v30 &&& (255 : Int32), F23)
  else
  some ((0 : Int32), F23)
set_option maxHeartbeats 4000000 in
set_option maxRecDepth 100000 in
theorem c_Mo_byteAt {l : Launch} {g : xG} {S : List xO} {G : xL} {a : Nat} {p0 : Int32} {F : xF} {r : Int32} {F2 : xF} (h : f_Mo_byteAt S a p0 F = some (r, F2)) : CT l g 0 0 0 0 y_Mo_byteAt b_Mo_byteAt 2 (some .int) 1 [.ref a, .int p0] S F G (some (.int r)) S F2 G := by
  refine CT.of [some (.ref a), some (.int p0)] (by decide) (Nat.le_of_ble_eq_true rfl) rfl ?_
  intro p e s m args below meth c C hr hmn hz
  unfold f_Mo_byteAt at h
  refine V.aload_n C 0 rfl rfl d_Mo_byteAt_0 ?_
  refine V.iload_n C 1 rfl rfl d_Mo_byteAt_1 ?_
  refine V.if_lt C 13 (by decide) d_Mo_byteAt_2 (fun c1 => ?_) (fun c1 => ?_)
  · rw [if_pos c1] at h
    refine V.iconst C 1 (by decide) d_Mo_byteAt_13 ?_
    refine V.goto C 18 (by decide) d_Mo_byteAt_14 ?_
    obtain ⟨F2, e3, h⟩ := Option.bind_eq_some_iff.mp h
    refine V.xputI C fl_Mo_92 ft_9 fi_9_3 e3 d_Mo_byteAt_18 ?_
    refine V.aload_n C 0 rfl rfl d_Mo_byteAt_21 ?_
    obtain ⟨v4, e5, h⟩ := Option.bind_eq_some_iff.mp h
    refine V.xgetI C fl_Mo_92 e5 d_Mo_byteAt_22 ?_
    refine V.if_le C 32 (by decide) d_Mo_byteAt_25 (fun c6 => ?_) (fun c6 => ?_)
    · rw [if_pos c6] at h
      refine V.aload_n C 0 rfl rfl d_Mo_byteAt_32 ?_
      obtain ⟨q7, e8, h⟩ := Option.bind_eq_some_iff.mp h
      refine V.xgetR C fl_Mo_13 e8 d_Mo_byteAt_33 ?_
      refine V.iload_n C 1 rfl rfl d_Mo_byteAt_36 ?_
      obtain ⟨v9, e10, h⟩ := Option.bind_eq_some_iff.mp h
      refine V.xbald C e10 d_Mo_byteAt_37 ?_
      refine V.sipush C 255 (by decide) d_Mo_byteAt_38 ?_
      refine V.iand C d_Mo_byteAt_41 ?_
      obtain ⟨rfl, rfl⟩ := Prod.mk.inj (Option.some.inj h)
      exact V.iret C hr d_Mo_byteAt_42 rfl rfl rfl rfl
    · rw [if_neg c6] at h
      refine V.iconst C 0 (by decide) d_Mo_byteAt_28 ?_
      refine V.goto C 42 (by decide) d_Mo_byteAt_29 ?_
      obtain ⟨rfl, rfl⟩ := Prod.mk.inj (Option.some.inj h)
      exact V.iret C hr d_Mo_byteAt_42 rfl rfl rfl rfl
  · rw [if_neg c1] at h
    refine V.iload_n C 1 rfl rfl d_Mo_byteAt_5 ?_
    refine V.aload_n C 0 rfl rfl d_Mo_byteAt_6 ?_
    obtain ⟨v11, e12, h⟩ := Option.bind_eq_some_iff.mp h
    refine V.xgetI C fl_Mo_101 e12 d_Mo_byteAt_7 ?_
    refine V.icmp_lt C 17 (by decide) d_Mo_byteAt_10 (fun c13 => ?_) (fun c13 => ?_)
    · rw [if_pos c13] at h
      refine V.iconst C 0 (by decide) d_Mo_byteAt_17 ?_
      obtain ⟨F14, e15, h⟩ := Option.bind_eq_some_iff.mp h
      refine V.xputI C fl_Mo_92 ft_9 fi_9_3 e15 d_Mo_byteAt_18 ?_
      refine V.aload_n C 0 rfl rfl d_Mo_byteAt_21 ?_
      obtain ⟨v16, e17, h⟩ := Option.bind_eq_some_iff.mp h
      refine V.xgetI C fl_Mo_92 e17 d_Mo_byteAt_22 ?_
      refine V.if_le C 32 (by decide) d_Mo_byteAt_25 (fun c18 => ?_) (fun c18 => ?_)
      · rw [if_pos c18] at h
        refine V.aload_n C 0 rfl rfl d_Mo_byteAt_32 ?_
        obtain ⟨q19, e20, h⟩ := Option.bind_eq_some_iff.mp h
        refine V.xgetR C fl_Mo_13 e20 d_Mo_byteAt_33 ?_
        refine V.iload_n C 1 rfl rfl d_Mo_byteAt_36 ?_
        obtain ⟨v21, e22, h⟩ := Option.bind_eq_some_iff.mp h
        refine V.xbald C e22 d_Mo_byteAt_37 ?_
        refine V.sipush C 255 (by decide) d_Mo_byteAt_38 ?_
        refine V.iand C d_Mo_byteAt_41 ?_
        obtain ⟨rfl, rfl⟩ := Prod.mk.inj (Option.some.inj h)
        exact V.iret C hr d_Mo_byteAt_42 rfl rfl rfl rfl
      · rw [if_neg c18] at h
        refine V.iconst C 0 (by decide) d_Mo_byteAt_28 ?_
        refine V.goto C 42 (by decide) d_Mo_byteAt_29 ?_
        obtain ⟨rfl, rfl⟩ := Prod.mk.inj (Option.some.inj h)
        exact V.iret C hr d_Mo_byteAt_42 rfl rfl rfl rfl
    · rw [if_neg c13] at h
      refine V.iconst C 1 (by decide) d_Mo_byteAt_13 ?_
      refine V.goto C 18 (by decide) d_Mo_byteAt_14 ?_
      obtain ⟨F23, e24, h⟩ := Option.bind_eq_some_iff.mp h
      refine V.xputI C fl_Mo_92 ft_9 fi_9_3 e24 d_Mo_byteAt_18 ?_
      refine V.aload_n C 0 rfl rfl d_Mo_byteAt_21 ?_
      obtain ⟨v25, e26, h⟩ := Option.bind_eq_some_iff.mp h
      refine V.xgetI C fl_Mo_92 e26 d_Mo_byteAt_22 ?_
      refine V.if_le C 32 (by decide) d_Mo_byteAt_25 (fun c27 => ?_) (fun c27 => ?_)
      · rw [if_pos c27] at h
        refine V.aload_n C 0 rfl rfl d_Mo_byteAt_32 ?_
        obtain ⟨q28, e29, h⟩ := Option.bind_eq_some_iff.mp h
        refine V.xgetR C fl_Mo_13 e29 d_Mo_byteAt_33 ?_
        refine V.iload_n C 1 rfl rfl d_Mo_byteAt_36 ?_
        obtain ⟨v30, e31, h⟩ := Option.bind_eq_some_iff.mp h
        refine V.xbald C e31 d_Mo_byteAt_37 ?_
        refine V.sipush C 255 (by decide) d_Mo_byteAt_38 ?_
        refine V.iand C d_Mo_byteAt_41 ?_
        obtain ⟨rfl, rfl⟩ := Prod.mk.inj (Option.some.inj h)
        exact V.iret C hr d_Mo_byteAt_42 rfl rfl rfl rfl
      · rw [if_neg c27] at h
        refine V.iconst C 0 (by decide) d_Mo_byteAt_28 ?_
        refine V.goto C 42 (by decide) d_Mo_byteAt_29 ?_
        obtain ⟨rfl, rfl⟩ := Prod.mk.inj (Option.some.inj h)
        exact V.iret C hr d_Mo_byteAt_42 rfl rfl rfl rfl
def f_Mo_coded (S : List xO) (a : Nat) (p0 : Int32) (F : xF) : Option (Int32 × xF) :=
  (pI S 9 a 3 (0 : Int32) F).bind fun F1 =>
  if p0 < (0 : Int32) then
    some ((-1 : Int32), F1)
  else
  if p0 ≤ (3 : Int32) then
    (gR S 9 a 9).bind fun q5 =>
    (aG S q5 p0 F1).bind fun v7 =>
    some (v7, F1)
  else
  some ((-1 : Int32), F1)
set_option maxHeartbeats 4000000 in
set_option maxRecDepth 100000 in
theorem c_Mo_coded {l : Launch} {g : xG} {S : List xO} {G : xL} {a : Nat} {p0 : Int32} {F : xF} {r : Int32} {F2 : xF} (h : f_Mo_coded S a p0 F = some (r, F2)) : CT l g 0 0 0 0 y_Mo_coded b_Mo_coded 2 (some .int) 1 [.ref a, .int p0] S F G (some (.int r)) S F2 G := by
  refine CT.of [some (.ref a), some (.int p0)] (by decide) (Nat.le_of_ble_eq_true rfl) rfl ?_
  intro p e s m args below meth c C hr hmn hz
  unfold f_Mo_coded at h
  refine V.aload_n C 0 rfl rfl d_Mo_coded_0 ?_
  refine V.iconst C 0 (by decide) d_Mo_coded_1 ?_
  obtain ⟨F1, e2, h⟩ := Option.bind_eq_some_iff.mp h
  refine V.xputI C fl_Mo_92 ft_9 fi_9_3 e2 d_Mo_coded_2 ?_
  refine V.iload_n C 1 rfl rfl d_Mo_coded_5 ?_
  refine V.if_lt C 14 (by decide) d_Mo_coded_6 (fun c3 => ?_) (fun c3 => ?_)
  · rw [if_pos c3] at h
    refine V.iconst C (-1) (by decide) d_Mo_coded_14 ?_
    refine V.goto C 24 (by decide) d_Mo_coded_15 ?_
    obtain ⟨rfl, rfl⟩ := Prod.mk.inj (Option.some.inj h)
    exact V.iret C hr d_Mo_coded_24 rfl rfl rfl rfl
  · rw [if_neg c3] at h
    refine V.iload_n C 1 rfl rfl d_Mo_coded_9 ?_
    refine V.iconst C 3 (by decide) d_Mo_coded_10 ?_
    refine V.icmp_le C 18 (by decide) d_Mo_coded_11 (fun c4 => ?_) (fun c4 => ?_)
    · rw [if_pos c4] at h
      refine V.aload_n C 0 rfl rfl d_Mo_coded_18 ?_
      obtain ⟨q5, e6, h⟩ := Option.bind_eq_some_iff.mp h
      refine V.xgetR C fl_Mo_17 e6 d_Mo_coded_19 ?_
      refine V.iload_n C 1 rfl rfl d_Mo_coded_22 ?_
      obtain ⟨v7, e8, h⟩ := Option.bind_eq_some_iff.mp h
      refine V.xiald C e8 d_Mo_coded_23 ?_
      obtain ⟨rfl, rfl⟩ := Prod.mk.inj (Option.some.inj h)
      exact V.iret C hr d_Mo_coded_24 rfl rfl rfl rfl
    · rw [if_neg c4] at h
      refine V.iconst C (-1) (by decide) d_Mo_coded_14 ?_
      refine V.goto C 24 (by decide) d_Mo_coded_15 ?_
      obtain ⟨rfl, rfl⟩ := Prod.mk.inj (Option.some.inj h)
      exact V.iret C hr d_Mo_coded_24 rfl rfl rfl rfl
def f_Mo_feed (S : List xO) (a : Nat) (p0 : Int32) (F : xF) : Option (Int32 × xF) :=
  if p0 < (0 : Int32) then
    (pI S 9 a 3 (1 : Int32) F).bind fun F2 =>
    (gI S 9 a 3 F2).bind fun v4 =>
    if v4 ≤ (0 : Int32) then
      (gR S 9 a 11).bind fun q7 =>
      (gI S 9 a 10 F2).bind fun v9 =>
      (bP S q7 v9 p0.toInt8.toInt32 F2).bind fun F11 =>
      (gI S 9 a 10 F11).bind fun v13 =>
      (pI S 9 a 10 (v13 + (1 : Int32)) F11).bind fun F15 =>
      (gI S 9 a 10 F15).bind fun v17 =>
      some (v17, F15)
    else
    some ((0 : Int32), F2)
  else
  if p0 ≤ (255 : Int32) then
    (gI S 9 a 10 F).bind fun v20 =>
    if v20 = (24000 : Int32) then
      (pI S 9 a 3 (2 : Int32) F).bind fun F40 =>
      (gI S 9 a 3 F40).bind fun v42 =>
      if v42 ≤ (0 : Int32) then
        (gR S 9 a 11).bind fun q45 =>
        (gI S 9 a 10 F40).bind fun v47 =>
        (bP S q45 v47 p0.toInt8.toInt32 F40).bind fun F49 =>
        (gI S 9 a 10 F49).bind fun v51 =>
        (pI S 9 a 10 (v51 + (1 : Int32)) F49).bind fun F53 =>
        (gI S 9 a 10 F53).bind fun v55 =>
        some (v55, F53)
      else
      some ((0 : Int32), F40)
    else
    (pI S 9 a 3 (0 : Int32) F).bind fun F23 =>
    (gI S 9 a 3 F23).bind fun v25 =>
    if v25 ≤ (0 : Int32) then
      (gR S 9 a 11).bind fun q28 =>
      (gI S 9 a 10 F23).bind fun v30 =>
      (bP S q28 v30 p0.toInt8.toInt32 F23).bind fun F32 =>
      (gI S 9 a 10 F32).bind fun v34 =>
      (pI S 9 a 10 (v34 + (1 : Int32)) F32).bind fun F36 =>
      (gI S 9 a 10 F36).bind fun v38 =>
      some (v38, F36)
    else
    some ((0 : Int32), F23)
  else
  (pI S 9 a 3 (1 : Int32) F).bind fun F57 =>
  (gI S 9 a 3 F57).bind fun v59 =>
  if v59 ≤ (0 : Int32) then
    (gR S 9 a 11).bind fun q62 =>
    (gI S 9 a 10 F57).bind fun v64 =>
    (bP S q62 v64 p0.toInt8.toInt32 F57).bind fun F66 =>
    (gI S 9 a 10 F66).bind fun v68 =>
    (pI S 9 a 10 (v68 + (1 : Int32)) F66).bind fun F70 =>
    (gI S 9 a 10 F70).bind fun v72 =>
    some (v72, F70)
  else
  some ((0 : Int32), F57)
set_option maxHeartbeats 4000000 in
set_option maxRecDepth 100000 in
theorem c_Mo_feed {l : Launch} {g : xG} {S : List xO} {G : xL} {a : Nat} {p0 : Int32} {F : xF} {r : Int32} {F2 : xF} (h : f_Mo_feed S a p0 F = some (r, F2)) : CT l g 0 0 0 0 y_Mo_feed b_Mo_feed 2 (some .int) 1 [.ref a, .int p0] S F G (some (.int r)) S F2 G := by
  refine CT.of [some (.ref a), some (.int p0)] (by decide) (Nat.le_of_ble_eq_true rfl) rfl ?_
  intro p e s m args below meth c C hr hmn hz
  unfold f_Mo_feed at h
  refine V.aload_n C 0 rfl rfl d_Mo_feed_0 ?_
  refine V.iload_n C 1 rfl rfl d_Mo_feed_1 ?_
  refine V.if_lt C 12 (by decide) d_Mo_feed_2 (fun c1 => ?_) (fun c1 => ?_)
  · rw [if_pos c1] at h
    refine V.iconst C 1 (by decide) d_Mo_feed_12 ?_
    refine V.goto C 31 (by decide) d_Mo_feed_13 ?_
    obtain ⟨F2, e3, h⟩ := Option.bind_eq_some_iff.mp h
    refine V.xputI C fl_Mo_92 ft_9 fi_9_3 e3 d_Mo_feed_31 ?_
    refine V.aload_n C 0 rfl rfl d_Mo_feed_34 ?_
    obtain ⟨v4, e5, h⟩ := Option.bind_eq_some_iff.mp h
    refine V.xgetI C fl_Mo_92 e5 d_Mo_feed_35 ?_
    refine V.if_le C 43 (by decide) d_Mo_feed_38 (fun c6 => ?_) (fun c6 => ?_)
    · rw [if_pos c6] at h
      refine V.aload_n C 0 rfl rfl d_Mo_feed_43 ?_
      obtain ⟨q7, e8, h⟩ := Option.bind_eq_some_iff.mp h
      refine V.xgetR C fl_Mo_20 e8 d_Mo_feed_44 ?_
      refine V.aload_n C 0 rfl rfl d_Mo_feed_47 ?_
      obtain ⟨v9, e10, h⟩ := Option.bind_eq_some_iff.mp h
      refine V.xgetI C fl_Mo_104 e10 d_Mo_feed_48 ?_
      refine V.iload_n C 1 rfl rfl d_Mo_feed_51 ?_
      refine V.i2b C d_Mo_feed_52 ?_
      obtain ⟨F11, e12, h⟩ := Option.bind_eq_some_iff.mp h
      refine V.xbast C e12 d_Mo_feed_53 ?_
      refine V.aload_n C 0 rfl rfl d_Mo_feed_54 ?_
      refine V.dup C rfl d_Mo_feed_55 ?_
      obtain ⟨v13, e14, h⟩ := Option.bind_eq_some_iff.mp h
      refine V.xgetI C fl_Mo_104 e14 d_Mo_feed_56 ?_
      refine V.iconst C 1 (by decide) d_Mo_feed_59 ?_
      refine V.iadd C d_Mo_feed_60 ?_
      obtain ⟨F15, e16, h⟩ := Option.bind_eq_some_iff.mp h
      refine V.xputI C fl_Mo_104 ft_9 fi_9_10 e16 d_Mo_feed_61 ?_
      refine V.aload_n C 0 rfl rfl d_Mo_feed_64 ?_
      obtain ⟨v17, e18, h⟩ := Option.bind_eq_some_iff.mp h
      refine V.xgetI C fl_Mo_104 e18 d_Mo_feed_65 ?_
      obtain ⟨rfl, rfl⟩ := Prod.mk.inj (Option.some.inj h)
      exact V.iret C hr d_Mo_feed_68 rfl rfl rfl rfl
    · rw [if_neg c6] at h
      refine V.iconst C 0 (by decide) d_Mo_feed_41 ?_
      obtain ⟨rfl, rfl⟩ := Prod.mk.inj (Option.some.inj h)
      exact V.iret C hr d_Mo_feed_42 rfl rfl rfl rfl
  · rw [if_neg c1] at h
    refine V.iload_n C 1 rfl rfl d_Mo_feed_5 ?_
    refine V.sipush C 255 (by decide) d_Mo_feed_6 ?_
    refine V.icmp_le C 16 (by decide) d_Mo_feed_9 (fun c19 => ?_) (fun c19 => ?_)
    · rw [if_pos c19] at h
      refine V.aload_n C 0 rfl rfl d_Mo_feed_16 ?_
      obtain ⟨v20, e21, h⟩ := Option.bind_eq_some_iff.mp h
      refine V.xgetI C fl_Mo_104 e21 d_Mo_feed_17 ?_
      refine V.sipush C 24000 (by decide) d_Mo_feed_20 ?_
      refine V.icmp_ne C 30 (by decide) d_Mo_feed_23 (fun c22 => ?_) (fun c22 => ?_)
      · rw [if_neg c22] at h
        refine V.iconst C 0 (by decide) d_Mo_feed_30 ?_
        obtain ⟨F23, e24, h⟩ := Option.bind_eq_some_iff.mp h
        refine V.xputI C fl_Mo_92 ft_9 fi_9_3 e24 d_Mo_feed_31 ?_
        refine V.aload_n C 0 rfl rfl d_Mo_feed_34 ?_
        obtain ⟨v25, e26, h⟩ := Option.bind_eq_some_iff.mp h
        refine V.xgetI C fl_Mo_92 e26 d_Mo_feed_35 ?_
        refine V.if_le C 43 (by decide) d_Mo_feed_38 (fun c27 => ?_) (fun c27 => ?_)
        · rw [if_pos c27] at h
          refine V.aload_n C 0 rfl rfl d_Mo_feed_43 ?_
          obtain ⟨q28, e29, h⟩ := Option.bind_eq_some_iff.mp h
          refine V.xgetR C fl_Mo_20 e29 d_Mo_feed_44 ?_
          refine V.aload_n C 0 rfl rfl d_Mo_feed_47 ?_
          obtain ⟨v30, e31, h⟩ := Option.bind_eq_some_iff.mp h
          refine V.xgetI C fl_Mo_104 e31 d_Mo_feed_48 ?_
          refine V.iload_n C 1 rfl rfl d_Mo_feed_51 ?_
          refine V.i2b C d_Mo_feed_52 ?_
          obtain ⟨F32, e33, h⟩ := Option.bind_eq_some_iff.mp h
          refine V.xbast C e33 d_Mo_feed_53 ?_
          refine V.aload_n C 0 rfl rfl d_Mo_feed_54 ?_
          refine V.dup C rfl d_Mo_feed_55 ?_
          obtain ⟨v34, e35, h⟩ := Option.bind_eq_some_iff.mp h
          refine V.xgetI C fl_Mo_104 e35 d_Mo_feed_56 ?_
          refine V.iconst C 1 (by decide) d_Mo_feed_59 ?_
          refine V.iadd C d_Mo_feed_60 ?_
          obtain ⟨F36, e37, h⟩ := Option.bind_eq_some_iff.mp h
          refine V.xputI C fl_Mo_104 ft_9 fi_9_10 e37 d_Mo_feed_61 ?_
          refine V.aload_n C 0 rfl rfl d_Mo_feed_64 ?_
          obtain ⟨v38, e39, h⟩ := Option.bind_eq_some_iff.mp h
          refine V.xgetI C fl_Mo_104 e39 d_Mo_feed_65 ?_
          obtain ⟨rfl, rfl⟩ := Prod.mk.inj (Option.some.inj h)
          exact V.iret C hr d_Mo_feed_68 rfl rfl rfl rfl
        · rw [if_neg c27] at h
          refine V.iconst C 0 (by decide) d_Mo_feed_41 ?_
          obtain ⟨rfl, rfl⟩ := Prod.mk.inj (Option.some.inj h)
          exact V.iret C hr d_Mo_feed_42 rfl rfl rfl rfl
      · rw [if_pos c22] at h
        refine V.iconst C 2 (by decide) d_Mo_feed_26 ?_
        refine V.goto C 31 (by decide) d_Mo_feed_27 ?_
        obtain ⟨F40, e41, h⟩ := Option.bind_eq_some_iff.mp h
        refine V.xputI C fl_Mo_92 ft_9 fi_9_3 e41 d_Mo_feed_31 ?_
        refine V.aload_n C 0 rfl rfl d_Mo_feed_34 ?_
        obtain ⟨v42, e43, h⟩ := Option.bind_eq_some_iff.mp h
        refine V.xgetI C fl_Mo_92 e43 d_Mo_feed_35 ?_
        refine V.if_le C 43 (by decide) d_Mo_feed_38 (fun c44 => ?_) (fun c44 => ?_)
        · rw [if_pos c44] at h
          refine V.aload_n C 0 rfl rfl d_Mo_feed_43 ?_
          obtain ⟨q45, e46, h⟩ := Option.bind_eq_some_iff.mp h
          refine V.xgetR C fl_Mo_20 e46 d_Mo_feed_44 ?_
          refine V.aload_n C 0 rfl rfl d_Mo_feed_47 ?_
          obtain ⟨v47, e48, h⟩ := Option.bind_eq_some_iff.mp h
          refine V.xgetI C fl_Mo_104 e48 d_Mo_feed_48 ?_
          refine V.iload_n C 1 rfl rfl d_Mo_feed_51 ?_
          refine V.i2b C d_Mo_feed_52 ?_
          obtain ⟨F49, e50, h⟩ := Option.bind_eq_some_iff.mp h
          refine V.xbast C e50 d_Mo_feed_53 ?_
          refine V.aload_n C 0 rfl rfl d_Mo_feed_54 ?_
          refine V.dup C rfl d_Mo_feed_55 ?_
          obtain ⟨v51, e52, h⟩ := Option.bind_eq_some_iff.mp h
          refine V.xgetI C fl_Mo_104 e52 d_Mo_feed_56 ?_
          refine V.iconst C 1 (by decide) d_Mo_feed_59 ?_
          refine V.iadd C d_Mo_feed_60 ?_
          obtain ⟨F53, e54, h⟩ := Option.bind_eq_some_iff.mp h
          refine V.xputI C fl_Mo_104 ft_9 fi_9_10 e54 d_Mo_feed_61 ?_
          refine V.aload_n C 0 rfl rfl d_Mo_feed_64 ?_
          obtain ⟨v55, e56, h⟩ := Option.bind_eq_some_iff.mp h
          refine V.xgetI C fl_Mo_104 e56 d_Mo_feed_65 ?_
          obtain ⟨rfl, rfl⟩ := Prod.mk.inj (Option.some.inj h)
          exact V.iret C hr d_Mo_feed_68 rfl rfl rfl rfl
        · rw [if_neg c44] at h
          refine V.iconst C 0 (by decide) d_Mo_feed_41 ?_
          obtain ⟨rfl, rfl⟩ := Prod.mk.inj (Option.some.inj h)
          exact V.iret C hr d_Mo_feed_42 rfl rfl rfl rfl
    · rw [if_neg c19] at h
      refine V.iconst C 1 (by decide) d_Mo_feed_12 ?_
      refine V.goto C 31 (by decide) d_Mo_feed_13 ?_
      obtain ⟨F57, e58, h⟩ := Option.bind_eq_some_iff.mp h
      refine V.xputI C fl_Mo_92 ft_9 fi_9_3 e58 d_Mo_feed_31 ?_
      refine V.aload_n C 0 rfl rfl d_Mo_feed_34 ?_
      obtain ⟨v59, e60, h⟩ := Option.bind_eq_some_iff.mp h
      refine V.xgetI C fl_Mo_92 e60 d_Mo_feed_35 ?_
      refine V.if_le C 43 (by decide) d_Mo_feed_38 (fun c61 => ?_) (fun c61 => ?_)
      · rw [if_pos c61] at h
        refine V.aload_n C 0 rfl rfl d_Mo_feed_43 ?_
        obtain ⟨q62, e63, h⟩ := Option.bind_eq_some_iff.mp h
        refine V.xgetR C fl_Mo_20 e63 d_Mo_feed_44 ?_
        refine V.aload_n C 0 rfl rfl d_Mo_feed_47 ?_
        obtain ⟨v64, e65, h⟩ := Option.bind_eq_some_iff.mp h
        refine V.xgetI C fl_Mo_104 e65 d_Mo_feed_48 ?_
        refine V.iload_n C 1 rfl rfl d_Mo_feed_51 ?_
        refine V.i2b C d_Mo_feed_52 ?_
        obtain ⟨F66, e67, h⟩ := Option.bind_eq_some_iff.mp h
        refine V.xbast C e67 d_Mo_feed_53 ?_
        refine V.aload_n C 0 rfl rfl d_Mo_feed_54 ?_
        refine V.dup C rfl d_Mo_feed_55 ?_
        obtain ⟨v68, e69, h⟩ := Option.bind_eq_some_iff.mp h
        refine V.xgetI C fl_Mo_104 e69 d_Mo_feed_56 ?_
        refine V.iconst C 1 (by decide) d_Mo_feed_59 ?_
        refine V.iadd C d_Mo_feed_60 ?_
        obtain ⟨F70, e71, h⟩ := Option.bind_eq_some_iff.mp h
        refine V.xputI C fl_Mo_104 ft_9 fi_9_10 e71 d_Mo_feed_61 ?_
        refine V.aload_n C 0 rfl rfl d_Mo_feed_64 ?_
        obtain ⟨v72, e73, h⟩ := Option.bind_eq_some_iff.mp h
        refine V.xgetI C fl_Mo_104 e73 d_Mo_feed_65 ?_
        obtain ⟨rfl, rfl⟩ := Prod.mk.inj (Option.some.inj h)
        exact V.iret C hr d_Mo_feed_68 rfl rfl rfl rfl
      · rw [if_neg c61] at h
        refine V.iconst C 0 (by decide) d_Mo_feed_41 ?_
        obtain ⟨rfl, rfl⟩ := Prod.mk.inj (Option.some.inj h)
        exact V.iret C hr d_Mo_feed_42 rfl rfl rfl rfl
def t_Mo_pass (S : List xO) (N : Nat) (a : Nat) (p0 : Int32) (p1 : Int32) : Nat → Nat → Int32 → Int32 → Int32 → xF → Option (Int32 × xF)
  | 0, _, _, _, _, _ => none
  | n + 1, tg, u3, u4, u5, F =>
    if tg = 0 then
      t_Mo_pass S N a p0 p1 n 1 (0 : Int32) 0 0 F
    else
    if tg = 1 then
      if u3 = (0 : Int32) then
        t_Mo_pass S N a p0 p1 n 2 u3 0 0 F
      else
      (gI S 9 a 7 F).bind fun v6 =>
      if p1 ≤ (v6 - p0) then
        t_Mo_pass S N a p0 p1 n 2 u3 0 0 F
      else
      (gI S 9 a 7 F).bind fun v9 =>
      t_Mo_pass S N a p0 p1 n 3 u3 (v9 - p0) 0 F
    else
    if tg = 2 then
      t_Mo_pass S N a p0 p1 n 3 u3 p1 0 F
    else
    if tg = 3 then
      if u3 = (0 : Int32) then
        (pI S 9 a 3 (1 : Int32) F).bind fun F22 =>
        t_Mo_pass S N a p0 p1 n 4 u3 u4 0 F22
      else
      if (0 : Int32) ≤ p1 then
        (gI S 9 a 10 F).bind fun v13 =>
        if (v13 + u4) ≤ (24000 : Int32) then
          (pI S 9 a 3 (0 : Int32) F).bind fun F16 =>
          t_Mo_pass S N a p0 p1 n 4 u3 u4 0 F16
        else
        (pI S 9 a 3 (3 : Int32) F).bind fun F18 =>
        t_Mo_pass S N a p0 p1 n 4 u3 u4 0 F18
      else
      (pI S 9 a 3 (2 : Int32) F).bind fun F20 =>
      t_Mo_pass S N a p0 p1 n 4 u3 u4 0 F20
    else
    if tg = 4 then
      (gI S 9 a 3 F).bind fun v24 =>
      if v24 ≤ (0 : Int32) then
        t_Mo_pass S N a p0 p1 n 5 u3 u4 (0 : Int32) F
      else
      some ((0 : Int32), F)
    else
    if u4 ≤ u5 then
      some (u4, F)
    else
    (gR S 9 a 11).bind fun q28 =>
    (gI S 9 a 10 F).bind fun v30 =>
    (gR S 9 a 8).bind fun q32 =>
    (bG S q32 (p0 + u5) F).bind fun v34 =>
    (bP S q28 v30 v34 F).bind fun F36 =>
    (gI S 9 a 10 F36).bind fun v38 =>
    (pI S 9 a 10 (v38 + (1 : Int32)) F36).bind fun F40 =>
    t_Mo_pass S N a p0 p1 n 5 u3 u4 (u5 + (1 : Int32)) F40
set_option maxHeartbeats 4000000 in
set_option maxRecDepth 100000 in
theorem l_Mo_pass {p : Program} {l : Launch} {e : Env} {s : State} {m : MethodId} {args : Array Value} {below : List Frame} {meth : Method} {c : Code} {g : xG} {S : List xO} {G : xL} {a : Nat} {p0 : Int32} {p1 : Int32} {N : Nat} (C : Cx p s m args meth c b_Mo_pass 6 "PaletteFramesModel" g) (hr : meth.sig.returnType = (some .int)) : ∀ (n : Nat), (∀ (F : xF) (r : Int32) (F2 : xF), t_Mo_pass S N a p0 p1 n 0 0 0 0 F = some (r, F2) → V p l e (xRm 0 0 0 0) s m args below meth c (xMQ g below args s 0 0 S F2 G (some (.int r))) 6 g S F G 0 0 16 [some (.ref a), some (.int p0), some (.int p1), none, none, none] []) ∧ (∀ (u3 : Int32) (F : xF) (r : Int32) (F2 : xF), t_Mo_pass S N a p0 p1 n 1 u3 0 0 F = some (r, F2) → V p l e (xRm 0 0 0 0) s m args below meth c (xMQ g below args s 0 0 S F2 G (some (.int r))) 6 g S F G 0 0 18 [some (.ref a), some (.int p0), some (.int p1), some (.int u3), none, none] []) ∧ (∀ (u3 : Int32) (F : xF) (r : Int32) (F2 : xF), t_Mo_pass S N a p0 p1 n 2 u3 0 0 F = some (r, F2) → V p l e (xRm 0 0 0 0) s m args below meth c (xMQ g below args s 0 0 S F2 G (some (.int r))) 6 g S F G 0 0 41 [some (.ref a), some (.int p0), some (.int p1), some (.int u3), none, none] []) ∧ (∀ (u3 : Int32) (u4 : Int32) (F : xF) (r : Int32) (F2 : xF), t_Mo_pass S N a p0 p1 n 3 u3 u4 0 F = some (r, F2) → V p l e (xRm 0 0 0 0) s m args below meth c (xMQ g below args s 0 0 S F2 G (some (.int r))) 6 g S F G 0 0 44 [some (.ref a), some (.int p0), some (.int p1), some (.int u3), some (.int u4), none] []) ∧ (∀ (u3 : Int32) (u4 : Int32) (F : xF) (r : Int32) (F2 : xF), t_Mo_pass S N a p0 p1 n 4 u3 u4 0 F = some (r, F2) → V p l e (xRm 0 0 0 0) s m args below meth c (xMQ g below args s 0 0 S F2 G (some (.int r))) 6 g S F G 0 0 82 [some (.ref a), some (.int p0), some (.int p1), some (.int u3), some (.int u4), none] []) ∧ (∀ (u3 : Int32) (u4 : Int32) (u5 : Int32) (F : xF) (r : Int32) (F2 : xF), t_Mo_pass S N a p0 p1 n 5 u3 u4 u5 F = some (r, F2) → V p l e (xRm 0 0 0 0) s m args below meth c (xMQ g below args s 0 0 S F2 G (some (.int r))) 6 g S F G 0 0 94 [some (.ref a), some (.int p0), some (.int p1), some (.int u3), some (.int u4), some (.int u5)] []) := by
  intro n
  induction n with
  | zero =>
    refine ⟨?_, ?_⟩
    · intro F r F2 h
      cases h
    refine ⟨?_, ?_⟩
    · intro u3 F r F2 h
      cases h
    refine ⟨?_, ?_⟩
    · intro u3 F r F2 h
      cases h
    refine ⟨?_, ?_⟩
    · intro u3 u4 F r F2 h
      cases h
    refine ⟨?_, ?_⟩
    · intro u3 u4 F r F2 h
      cases h
    · intro u3 u4 u5 F r F2 h
      cases h
  | succ n ih =>
    refine ⟨?_, ?_⟩
    · intro F r F2 h
      rw [t_Mo_pass] at h
      rw [if_pos rfl] at h
      refine V.iconst C 0 (by decide) d_Mo_pass_16 ?_
      refine V.is3 C (by decide) rfl d_Mo_pass_17 ?_
      exact V.weak (xsub_spec (by simp [xsub])) (ih.2.1 (0 : Int32) F _ _ h)
    refine ⟨?_, ?_⟩
    · intro u3 F r F2 h
      rw [t_Mo_pass] at h
      rw [if_neg (by decide)] at h
      rw [if_pos rfl] at h
      refine V.iload_n C 3 rfl rfl d_Mo_pass_18 ?_
      refine V.if_eq C 41 (by decide) d_Mo_pass_19 (fun c5 => ?_) (fun c5 => ?_)
      · rw [if_pos c5] at h
        exact V.weak (xsub_spec (by simp [xsub])) (ih.2.2.1 u3 F _ _ h)
      · rw [if_neg c5] at h
        refine V.iload_n C 2 rfl rfl d_Mo_pass_22 ?_
        refine V.aload_n C 0 rfl rfl d_Mo_pass_23 ?_
        obtain ⟨v6, e7, h⟩ := Option.bind_eq_some_iff.mp h
        refine V.xgetI C fl_Mo_101 e7 d_Mo_pass_24 ?_
        refine V.iload_n C 1 rfl rfl d_Mo_pass_27 ?_
        refine V.isub C d_Mo_pass_28 ?_
        refine V.icmp_le C 41 (by decide) d_Mo_pass_29 (fun c8 => ?_) (fun c8 => ?_)
        · rw [if_pos c8] at h
          exact V.weak (xsub_spec (by simp [xsub])) (ih.2.2.1 u3 F _ _ h)
        · rw [if_neg c8] at h
          refine V.aload_n C 0 rfl rfl d_Mo_pass_32 ?_
          obtain ⟨v9, e10, h⟩ := Option.bind_eq_some_iff.mp h
          refine V.xgetI C fl_Mo_101 e10 d_Mo_pass_33 ?_
          refine V.iload_n C 1 rfl rfl d_Mo_pass_36 ?_
          refine V.isub C d_Mo_pass_37 ?_
          refine V.goto C 42 (by decide) d_Mo_pass_38 ?_
          refine V.is4 C (by decide) rfl d_Mo_pass_42 ?_
          exact V.weak (xsub_spec (by simp [xsub])) (ih.2.2.2.1 u3 (v9 - p0) F _ _ h)
    refine ⟨?_, ?_⟩
    · intro u3 F r F2 h
      rw [t_Mo_pass] at h
      rw [if_neg (by decide)] at h
      rw [if_neg (by decide)] at h
      rw [if_pos rfl] at h
      refine V.iload_n C 2 rfl rfl d_Mo_pass_41 ?_
      refine V.is4 C (by decide) rfl d_Mo_pass_42 ?_
      exact V.weak (xsub_spec (by simp [xsub])) (ih.2.2.2.1 u3 p1 F _ _ h)
    refine ⟨?_, ?_⟩
    · intro u3 u4 F r F2 h
      rw [t_Mo_pass] at h
      rw [if_neg (by decide)] at h
      rw [if_neg (by decide)] at h
      rw [if_neg (by decide)] at h
      rw [if_pos rfl] at h
      refine V.aload_n C 0 rfl rfl d_Mo_pass_44 ?_
      refine V.iload_n C 3 rfl rfl d_Mo_pass_45 ?_
      refine V.if_ne C 53 (by decide) d_Mo_pass_46 (fun c11 => ?_) (fun c11 => ?_)
      · rw [if_neg c11] at h
        refine V.iload_n C 2 rfl rfl d_Mo_pass_53 ?_
        refine V.if_ge C 61 (by decide) d_Mo_pass_54 (fun c12 => ?_) (fun c12 => ?_)
        · rw [if_pos c12] at h
          refine V.aload_n C 0 rfl rfl d_Mo_pass_61 ?_
          obtain ⟨v13, e14, h⟩ := Option.bind_eq_some_iff.mp h
          refine V.xgetI C fl_Mo_104 e14 d_Mo_pass_62 ?_
          refine V.iload C rfl d_Mo_pass_65 ?_
          refine V.iadd C d_Mo_pass_67 ?_
          refine V.sipush C 24000 (by decide) d_Mo_pass_68 ?_
          refine V.icmp_le C 78 (by decide) d_Mo_pass_71 (fun c15 => ?_) (fun c15 => ?_)
          · rw [if_pos c15] at h
            refine V.iconst C 0 (by decide) d_Mo_pass_78 ?_
            obtain ⟨F16, e17, h⟩ := Option.bind_eq_some_iff.mp h
            refine V.xputI C fl_Mo_92 ft_9 fi_9_3 e17 d_Mo_pass_79 ?_
            exact V.weak (xsub_spec (by simp [xsub])) (ih.2.2.2.2.1 u3 u4 F16 _ _ h)
          · rw [if_neg c15] at h
            refine V.iconst C 3 (by decide) d_Mo_pass_74 ?_
            refine V.goto C 79 (by decide) d_Mo_pass_75 ?_
            obtain ⟨F18, e19, h⟩ := Option.bind_eq_some_iff.mp h
            refine V.xputI C fl_Mo_92 ft_9 fi_9_3 e19 d_Mo_pass_79 ?_
            exact V.weak (xsub_spec (by simp [xsub])) (ih.2.2.2.2.1 u3 u4 F18 _ _ h)
        · rw [if_neg c12] at h
          refine V.iconst C 2 (by decide) d_Mo_pass_57 ?_
          refine V.goto C 79 (by decide) d_Mo_pass_58 ?_
          obtain ⟨F20, e21, h⟩ := Option.bind_eq_some_iff.mp h
          refine V.xputI C fl_Mo_92 ft_9 fi_9_3 e21 d_Mo_pass_79 ?_
          exact V.weak (xsub_spec (by simp [xsub])) (ih.2.2.2.2.1 u3 u4 F20 _ _ h)
      · rw [if_pos c11] at h
        refine V.iconst C 1 (by decide) d_Mo_pass_49 ?_
        refine V.goto C 79 (by decide) d_Mo_pass_50 ?_
        obtain ⟨F22, e23, h⟩ := Option.bind_eq_some_iff.mp h
        refine V.xputI C fl_Mo_92 ft_9 fi_9_3 e23 d_Mo_pass_79 ?_
        exact V.weak (xsub_spec (by simp [xsub])) (ih.2.2.2.2.1 u3 u4 F22 _ _ h)
    refine ⟨?_, ?_⟩
    · intro u3 u4 F r F2 h
      rw [t_Mo_pass] at h
      rw [if_neg (by decide)] at h
      rw [if_neg (by decide)] at h
      rw [if_neg (by decide)] at h
      rw [if_neg (by decide)] at h
      rw [if_pos rfl] at h
      refine V.aload_n C 0 rfl rfl d_Mo_pass_82 ?_
      obtain ⟨v24, e25, h⟩ := Option.bind_eq_some_iff.mp h
      refine V.xgetI C fl_Mo_92 e25 d_Mo_pass_83 ?_
      refine V.if_le C 91 (by decide) d_Mo_pass_86 (fun c26 => ?_) (fun c26 => ?_)
      · rw [if_pos c26] at h
        refine V.iconst C 0 (by decide) d_Mo_pass_91 ?_
        refine V.is5 C (by decide) rfl d_Mo_pass_92 ?_
        exact V.weak (xsub_spec (by simp [xsub])) (ih.2.2.2.2.2 u3 u4 (0 : Int32) F _ _ h)
      · rw [if_neg c26] at h
        refine V.iconst C 0 (by decide) d_Mo_pass_89 ?_
        obtain ⟨rfl, rfl⟩ := Prod.mk.inj (Option.some.inj h)
        exact V.iret C hr d_Mo_pass_90 rfl rfl rfl rfl
    · intro u3 u4 u5 F r F2 h
      rw [t_Mo_pass] at h
      rw [if_neg (by decide)] at h
      rw [if_neg (by decide)] at h
      rw [if_neg (by decide)] at h
      rw [if_neg (by decide)] at h
      rw [if_neg (by decide)] at h
      refine V.iload C rfl d_Mo_pass_94 ?_
      refine V.iload C rfl d_Mo_pass_96 ?_
      refine V.icmp_ge C 135 (by decide) d_Mo_pass_98 (fun c27 => ?_) (fun c27 => ?_)
      · rw [if_pos c27] at h
        refine V.iload C rfl d_Mo_pass_135 ?_
        obtain ⟨rfl, rfl⟩ := Prod.mk.inj (Option.some.inj h)
        exact V.iret C hr d_Mo_pass_137 rfl rfl rfl rfl
      · rw [if_neg c27] at h
        refine V.aload_n C 0 rfl rfl d_Mo_pass_101 ?_
        obtain ⟨q28, e29, h⟩ := Option.bind_eq_some_iff.mp h
        refine V.xgetR C fl_Mo_20 e29 d_Mo_pass_102 ?_
        refine V.aload_n C 0 rfl rfl d_Mo_pass_105 ?_
        obtain ⟨v30, e31, h⟩ := Option.bind_eq_some_iff.mp h
        refine V.xgetI C fl_Mo_104 e31 d_Mo_pass_106 ?_
        refine V.aload_n C 0 rfl rfl d_Mo_pass_109 ?_
        obtain ⟨q32, e33, h⟩ := Option.bind_eq_some_iff.mp h
        refine V.xgetR C fl_Mo_13 e33 d_Mo_pass_110 ?_
        refine V.iload_n C 1 rfl rfl d_Mo_pass_113 ?_
        refine V.iload C rfl d_Mo_pass_114 ?_
        refine V.iadd C d_Mo_pass_116 ?_
        obtain ⟨v34, e35, h⟩ := Option.bind_eq_some_iff.mp h
        refine V.xbald C e35 d_Mo_pass_117 ?_
        obtain ⟨F36, e37, h⟩ := Option.bind_eq_some_iff.mp h
        refine V.xbast C e37 d_Mo_pass_118 ?_
        refine V.aload_n C 0 rfl rfl d_Mo_pass_119 ?_
        refine V.dup C rfl d_Mo_pass_120 ?_
        obtain ⟨v38, e39, h⟩ := Option.bind_eq_some_iff.mp h
        refine V.xgetI C fl_Mo_104 e39 d_Mo_pass_121 ?_
        refine V.iconst C 1 (by decide) d_Mo_pass_124 ?_
        refine V.iadd C d_Mo_pass_125 ?_
        obtain ⟨F40, e41, h⟩ := Option.bind_eq_some_iff.mp h
        refine V.xputI C fl_Mo_104 ft_9 fi_9_10 e41 d_Mo_pass_126 ?_
        refine V.inc5 C 1 (by decide) (by decide) rfl d_Mo_pass_129 ?_
        refine V.goto C 94 (by decide) d_Mo_pass_132 ?_
        exact V.weak (xsub_spec (by simp [xsub])) (ih.2.2.2.2.2 u3 u4 (u5 + (1 : Int32)) F40 _ _ h)
def f_Mo_pass (S : List xO) (N : Nat) (a : Nat) (p0 : Int32) (p1 : Int32) (F : xF) : Option (Int32 × xF) :=
  if p0 < (0 : Int32) then
    t_Mo_pass S N a p0 p1 N 0 0 0 0 F
  else
  (gI S 9 a 7 F).bind fun v2 =>
  if v2 ≤ p0 then
    t_Mo_pass S N a p0 p1 N 0 0 0 0 F
  else
  t_Mo_pass S N a p0 p1 N 1 (1 : Int32) 0 0 F
set_option maxHeartbeats 4000000 in
set_option maxRecDepth 100000 in
theorem c_Mo_pass {l : Launch} {g : xG} {S : List xO} {G : xL} {a : Nat} {p0 : Int32} {p1 : Int32} {N : Nat} {F : xF} {r : Int32} {F2 : xF} (h : f_Mo_pass S N a p0 p1 F = some (r, F2)) : CT l g 0 0 0 0 y_Mo_pass b_Mo_pass 6 (some .int) 1 [.ref a, .int p0, .int p1] S F G (some (.int r)) S F2 G := by
  refine CT.of [some (.ref a), some (.int p0), some (.int p1), none, none, none] (by decide) (Nat.le_of_ble_eq_true rfl) rfl ?_
  intro p e s m args below meth c C hr hmn hz
  unfold f_Mo_pass at h
  refine V.iload_n C 1 rfl rfl d_Mo_pass_0 ?_
  refine V.if_lt C 16 (by decide) d_Mo_pass_1 (fun c1 => ?_) (fun c1 => ?_)
  · rw [if_pos c1] at h
    exact V.weak (xsub_spec (by simp [xsub])) ((l_Mo_pass C hr N).1 F _ _ h)
  · rw [if_neg c1] at h
    refine V.iload_n C 1 rfl rfl d_Mo_pass_4 ?_
    refine V.aload_n C 0 rfl rfl d_Mo_pass_5 ?_
    obtain ⟨v2, e3, h⟩ := Option.bind_eq_some_iff.mp h
    refine V.xgetI C fl_Mo_101 e3 d_Mo_pass_6 ?_
    refine V.icmp_ge C 16 (by decide) d_Mo_pass_9 (fun c4 => ?_) (fun c4 => ?_)
    · rw [if_pos c4] at h
      exact V.weak (xsub_spec (by simp [xsub])) ((l_Mo_pass C hr N).1 F _ _ h)
    · rw [if_neg c4] at h
      refine V.iconst C 1 (by decide) d_Mo_pass_12 ?_
      refine V.goto C 17 (by decide) d_Mo_pass_13 ?_
      refine V.is3 C (by decide) rfl d_Mo_pass_17 ?_
      exact V.weak (xsub_spec (by simp [xsub])) ((l_Mo_pass C hr N).2.1 (1 : Int32) F _ _ h)
def t_Mo_nextCode (S : List xO) (N : Nat) (a : Nat) : Nat → Int32 → Int32 → xF → Option (Int32 × xF)
  | 0, _, _, _ => none
  | n + 1, u1, u2, F =>
    (gI S 9 a 21 F).bind fun v1 =>
    if v1 ≤ u2 then
      some (u1, F)
    else
    (gR S 9 a 11).bind fun q4 =>
    (gI S 9 a 20 F).bind fun v6 =>
    if (8 : Int32) = (0 : Int32) then none else
    (bG S q4 (v6 / (8 : Int32)) F).bind fun v9 =>
    (gI S 9 a 20 F).bind fun v11 =>
    if (8 : Int32) = (0 : Int32) then none else
    (gI S 9 a 20 F).bind fun v14 =>
    (pI S 9 a 20 (v14 + (1 : Int32)) F).bind fun F16 =>
    t_Mo_nextCode S N a n (u1 ||| (((v9 >>> ((v11 - v11 / (8 : Int32) * (8 : Int32)) &&& 31)) &&& (1 : Int32)) <<< (u2 &&& 31))) (u2 + (1 : Int32)) F16
set_option maxHeartbeats 4000000 in
set_option maxRecDepth 100000 in
theorem l_Mo_nextCode {p : Program} {l : Launch} {e : Env} {s : State} {m : MethodId} {args : Array Value} {below : List Frame} {meth : Method} {c : Code} {g : xG} {S : List xO} {G : xL} {a : Nat} {N : Nat} (C : Cx p s m args meth c b_Mo_nextCode 3 "PaletteFramesModel" g) (hr : meth.sig.returnType = (some .int)) : ∀ (n : Nat), (∀ (u1 : Int32) (u2 : Int32) (F : xF) (r : Int32) (F2 : xF), t_Mo_nextCode S N a n u1 u2 F = some (r, F2) → V p l e (xRm 0 0 0 0) s m args below meth c (xMQ g below args s 0 0 S F2 G (some (.int r))) 3 g S F G 0 0 4 [some (.ref a), some (.int u1), some (.int u2)] []) := by
  intro n
  induction n with
  | zero =>
    intro u1 u2 F r F2 h
    cases h
  | succ n ih =>
    intro u1 u2 F r F2 h
    rw [t_Mo_nextCode] at h
    refine V.iload_n C 2 rfl rfl d_Mo_nextCode_4 ?_
    refine V.aload_n C 0 rfl rfl d_Mo_nextCode_5 ?_
    obtain ⟨v1, e2, h⟩ := Option.bind_eq_some_iff.mp h
    refine V.xgetI C fl_Mo_116 e2 d_Mo_nextCode_6 ?_
    refine V.icmp_ge C 55 (by decide) d_Mo_nextCode_9 (fun c3 => ?_) (fun c3 => ?_)
    · rw [if_pos c3] at h
      refine V.iload_n C 1 rfl rfl d_Mo_nextCode_55 ?_
      obtain ⟨rfl, rfl⟩ := Prod.mk.inj (Option.some.inj h)
      exact V.iret C hr d_Mo_nextCode_56 rfl rfl rfl rfl
    · rw [if_neg c3] at h
      refine V.iload_n C 1 rfl rfl d_Mo_nextCode_12 ?_
      refine V.aload_n C 0 rfl rfl d_Mo_nextCode_13 ?_
      obtain ⟨q4, e5, h⟩ := Option.bind_eq_some_iff.mp h
      refine V.xgetR C fl_Mo_20 e5 d_Mo_nextCode_14 ?_
      refine V.aload_n C 0 rfl rfl d_Mo_nextCode_17 ?_
      obtain ⟨v6, e7, h⟩ := Option.bind_eq_some_iff.mp h
      refine V.xgetI C fl_Mo_122 e7 d_Mo_nextCode_18 ?_
      refine V.bipush C 8 (by decide) d_Mo_nextCode_21 ?_
      have c8 : ¬ (8 : Int32) = (0 : Int32) := fun q => by rw [if_pos q] at h; cases h
      rw [if_neg c8] at h
      refine V.idiv C c8 d_Mo_nextCode_23 ?_
      obtain ⟨v9, e10, h⟩ := Option.bind_eq_some_iff.mp h
      refine V.xbald C e10 d_Mo_nextCode_24 ?_
      refine V.aload_n C 0 rfl rfl d_Mo_nextCode_25 ?_
      obtain ⟨v11, e12, h⟩ := Option.bind_eq_some_iff.mp h
      refine V.xgetI C fl_Mo_122 e12 d_Mo_nextCode_26 ?_
      refine V.bipush C 8 (by decide) d_Mo_nextCode_29 ?_
      have c13 : ¬ (8 : Int32) = (0 : Int32) := fun q => by rw [if_pos q] at h; cases h
      rw [if_neg c13] at h
      refine V.irem C c13 d_Mo_nextCode_31 ?_
      refine V.ishr C d_Mo_nextCode_32 ?_
      refine V.iconst C 1 (by decide) d_Mo_nextCode_33 ?_
      refine V.iand C d_Mo_nextCode_34 ?_
      refine V.iload_n C 2 rfl rfl d_Mo_nextCode_35 ?_
      refine V.ishl C d_Mo_nextCode_36 ?_
      refine V.ior C d_Mo_nextCode_37 ?_
      refine V.is1 C (by decide) rfl d_Mo_nextCode_38 ?_
      refine V.aload_n C 0 rfl rfl d_Mo_nextCode_39 ?_
      refine V.dup C rfl d_Mo_nextCode_40 ?_
      obtain ⟨v14, e15, h⟩ := Option.bind_eq_some_iff.mp h
      refine V.xgetI C fl_Mo_122 e15 d_Mo_nextCode_41 ?_
      refine V.iconst C 1 (by decide) d_Mo_nextCode_44 ?_
      refine V.iadd C d_Mo_nextCode_45 ?_
      obtain ⟨F16, e17, h⟩ := Option.bind_eq_some_iff.mp h
      refine V.xputI C fl_Mo_122 ft_9 fi_9_20 e17 d_Mo_nextCode_46 ?_
      refine V.inc2 C 1 (by decide) (by decide) rfl d_Mo_nextCode_49 ?_
      refine V.goto C 4 (by decide) d_Mo_nextCode_52 ?_
      exact V.weak (xsub_spec (by simp [xsub])) (ih (u1 ||| (((v9 >>> ((v11 - v11 / (8 : Int32) * (8 : Int32)) &&& 31)) &&& (1 : Int32)) <<< (u2 &&& 31))) (u2 + (1 : Int32)) F16 _ _ h)
def f_Mo_nextCode (S : List xO) (N : Nat) (a : Nat) (F : xF) : Option (Int32 × xF) :=
  t_Mo_nextCode S N a N (0 : Int32) (0 : Int32) F
set_option maxHeartbeats 4000000 in
set_option maxRecDepth 100000 in
theorem c_Mo_nextCode {l : Launch} {g : xG} {S : List xO} {G : xL} {a : Nat} {N : Nat} {F : xF} {r : Int32} {F2 : xF} (h : f_Mo_nextCode S N a F = some (r, F2)) : CT l g 0 0 0 0 y_Mo_nextCode b_Mo_nextCode 3 (some .int) 1 [.ref a] S F G (some (.int r)) S F2 G := by
  refine CT.of [some (.ref a), none, none] (by decide) (Nat.le_of_ble_eq_true rfl) rfl ?_
  intro p e s m args below meth c C hr hmn hz
  unfold f_Mo_nextCode at h
  refine V.iconst C 0 (by decide) d_Mo_nextCode_0 ?_
  refine V.is1 C (by decide) rfl d_Mo_nextCode_1 ?_
  refine V.iconst C 0 (by decide) d_Mo_nextCode_2 ?_
  refine V.is2 C (by decide) rfl d_Mo_nextCode_3 ?_
  exact V.weak (xsub_spec (by simp [xsub])) ((l_Mo_nextCode C hr N) (0 : Int32) (0 : Int32) F _ _ h)
def t_Mo_firstOf (S : List xO) (N : Nat) (a : Nat) (p0 : Int32) : Nat → Int32 → xF → Option Int32
  | 0, _, _ => none
  | n + 1, u2, F =>
    (gR S 9 a 15).bind fun q1 =>
    (aG S q1 u2 F).bind fun v3 =>
    if v3 < (0 : Int32) then
      (gR S 9 a 16).bind fun q6 =>
      (aG S q6 u2 F).bind fun v8 =>
      some v8
    else
    (aG S q1 u2 F).bind fun v10 =>
    t_Mo_firstOf S N a p0 n v10 F
set_option maxHeartbeats 4000000 in
set_option maxRecDepth 100000 in
theorem l_Mo_firstOf {p : Program} {l : Launch} {e : Env} {s : State} {m : MethodId} {args : Array Value} {below : List Frame} {meth : Method} {c : Code} {g : xG} {S : List xO} {G : xL} {a : Nat} {p0 : Int32} {N : Nat} (C : Cx p s m args meth c b_Mo_firstOf 3 "PaletteFramesModel" g) (hr : meth.sig.returnType = (some .int)) : ∀ (n : Nat), (∀ (u2 : Int32) (F : xF) (r : Int32), t_Mo_firstOf S N a p0 n u2 F = some r → V p l e (xRm 0 0 0 0) s m args below meth c (xMQ g below args s 0 0 S F G (some (.int r))) 3 g S F G 0 0 2 [some (.ref a), some (.int p0), some (.int u2)] []) := by
  intro n
  induction n with
  | zero =>
    intro u2 F r h
    cases h
  | succ n ih =>
    intro u2 F r h
    rw [t_Mo_firstOf] at h
    refine V.aload_n C 0 rfl rfl d_Mo_firstOf_2 ?_
    obtain ⟨q1, e2, h⟩ := Option.bind_eq_some_iff.mp h
    refine V.xgetR C fl_Mo_26 e2 d_Mo_firstOf_3 ?_
    refine V.iload_n C 2 rfl rfl d_Mo_firstOf_6 ?_
    obtain ⟨v3, e4, h⟩ := Option.bind_eq_some_iff.mp h
    refine V.xiald C e4 d_Mo_firstOf_7 ?_
    refine V.if_lt C 21 (by decide) d_Mo_firstOf_8 (fun c5 => ?_) (fun c5 => ?_)
    · rw [if_pos c5] at h
      refine V.aload_n C 0 rfl rfl d_Mo_firstOf_21 ?_
      obtain ⟨q6, e7, h⟩ := Option.bind_eq_some_iff.mp h
      refine V.xgetR C fl_Mo_29 e7 d_Mo_firstOf_22 ?_
      refine V.iload_n C 2 rfl rfl d_Mo_firstOf_25 ?_
      obtain ⟨v8, e9, h⟩ := Option.bind_eq_some_iff.mp h
      refine V.xiald C e9 d_Mo_firstOf_26 ?_
      obtain rfl := Option.some.inj h
      exact V.iret C hr d_Mo_firstOf_27 rfl rfl rfl rfl
    · rw [if_neg c5] at h
      refine V.aload_n C 0 rfl rfl d_Mo_firstOf_11 ?_
      refine V.xgetR C fl_Mo_26 e2 d_Mo_firstOf_12 ?_
      refine V.iload_n C 2 rfl rfl d_Mo_firstOf_15 ?_
      obtain ⟨v10, e11, h⟩ := Option.bind_eq_some_iff.mp h
      refine V.xiald C e11 d_Mo_firstOf_16 ?_
      refine V.is2 C (by decide) rfl d_Mo_firstOf_17 ?_
      refine V.goto C 2 (by decide) d_Mo_firstOf_18 ?_
      exact V.weak (xsub_spec (by simp [xsub])) (ih v10 F _ h)
def f_Mo_firstOf (S : List xO) (N : Nat) (a : Nat) (p0 : Int32) (F : xF) : Option Int32 :=
  t_Mo_firstOf S N a p0 N p0 F
set_option maxHeartbeats 4000000 in
set_option maxRecDepth 100000 in
theorem c_Mo_firstOf {l : Launch} {g : xG} {S : List xO} {G : xL} {a : Nat} {p0 : Int32} {N : Nat} {F : xF} {r : Int32} (h : f_Mo_firstOf S N a p0 F = some r) : CT l g 0 0 0 0 y_Mo_firstOf b_Mo_firstOf 3 (some .int) 1 [.ref a, .int p0] S F G (some (.int r)) S F G := by
  refine CT.of [some (.ref a), some (.int p0), none] (by decide) (Nat.le_of_ble_eq_true rfl) rfl ?_
  intro p e s m args below meth c C hr hmn hz
  unfold f_Mo_firstOf at h
  refine V.iload_n C 1 rfl rfl d_Mo_firstOf_0 ?_
  refine V.is2 C (by decide) rfl d_Mo_firstOf_1 ?_
  exact V.weak (xsub_spec (by simp [xsub])) ((l_Mo_firstOf C hr N) p0 F _ h)
def t_Mo_spell (S : List xO) (N : Nat) (a : Nat) (p0 : Int32) : Nat → Int32 → Int32 → xF → Option xF
  | 0, _, _, _ => none
  | n + 1, u2, u3, F =>
    (gI S 9 a 12 F).bind fun v7 =>
    if u3 < v7 then
      (gI S 9 a 12 F).bind fun v10 =>
      (gR S 9 a 17).bind fun q12 =>
      (aG S q12 p0 F).bind fun v14 =>
      (pI S 9 a 12 (v10 + v14) F).bind fun F16 =>
      some F16
    else
    (gR S 9 a 13).bind fun q18 =>
    (gR S 9 a 16).bind fun q20 =>
    (aG S q20 u2 F).bind fun v22 =>
    (aP S q18 u3 v22 F).bind fun F24 =>
    (gR S 9 a 15).bind fun q26 =>
    (aG S q26 u2 F24).bind fun v28 =>
    t_Mo_spell S N a p0 n v28 (u3 + (-1 : Int32)) F24
set_option maxHeartbeats 4000000 in
set_option maxRecDepth 100000 in
theorem l_Mo_spell {p : Program} {l : Launch} {e : Env} {s : State} {m : MethodId} {args : Array Value} {below : List Frame} {meth : Method} {c : Code} {g : xG} {S : List xO} {G : xL} {a : Nat} {p0 : Int32} {N : Nat} (C : Cx p s m args meth c b_Mo_spell 4 "PaletteFramesModel" g) (hr : meth.sig.returnType = none) : ∀ (n : Nat), (∀ (u2 : Int32) (u3 : Int32) (F : xF) (F2 : xF), t_Mo_spell S N a p0 n u2 u3 F = some F2 → V p l e (xRm 0 0 0 0) s m args below meth c (xMQ g below args s 0 0 S F2 G none) 4 g S F G 0 0 16 [some (.ref a), some (.int p0), some (.int u2), some (.int u3)] []) := by
  intro n
  induction n with
  | zero =>
    intro u2 u3 F F2 h
    cases h
  | succ n ih =>
    intro u2 u3 F F2 h
    rw [t_Mo_spell] at h
    refine V.iload_n C 3 rfl rfl d_Mo_spell_16 ?_
    refine V.aload_n C 0 rfl rfl d_Mo_spell_17 ?_
    obtain ⟨v7, e8, h⟩ := Option.bind_eq_some_iff.mp h
    refine V.xgetI C fl_Mo_107 e8 d_Mo_spell_18 ?_
    refine V.icmp_lt C 49 (by decide) d_Mo_spell_21 (fun c9 => ?_) (fun c9 => ?_)
    · rw [if_pos c9] at h
      refine V.aload_n C 0 rfl rfl d_Mo_spell_49 ?_
      refine V.dup C rfl d_Mo_spell_50 ?_
      obtain ⟨v10, e11, h⟩ := Option.bind_eq_some_iff.mp h
      refine V.xgetI C fl_Mo_107 e11 d_Mo_spell_51 ?_
      refine V.aload_n C 0 rfl rfl d_Mo_spell_54 ?_
      obtain ⟨q12, e13, h⟩ := Option.bind_eq_some_iff.mp h
      refine V.xgetR C fl_Mo_32 e13 d_Mo_spell_55 ?_
      refine V.iload_n C 1 rfl rfl d_Mo_spell_58 ?_
      obtain ⟨v14, e15, h⟩ := Option.bind_eq_some_iff.mp h
      refine V.xiald C e15 d_Mo_spell_59 ?_
      refine V.iadd C d_Mo_spell_60 ?_
      obtain ⟨F16, e17, h⟩ := Option.bind_eq_some_iff.mp h
      refine V.xputI C fl_Mo_107 ft_9 fi_9_12 e17 d_Mo_spell_61 ?_
      obtain rfl := Option.some.inj h
      exact V.vret C hr d_Mo_spell_64 rfl rfl rfl
    · rw [if_neg c9] at h
      refine V.aload_n C 0 rfl rfl d_Mo_spell_24 ?_
      obtain ⟨q18, e19, h⟩ := Option.bind_eq_some_iff.mp h
      refine V.xgetR C fl_Mo_23 e19 d_Mo_spell_25 ?_
      refine V.iload_n C 3 rfl rfl d_Mo_spell_28 ?_
      refine V.aload_n C 0 rfl rfl d_Mo_spell_29 ?_
      obtain ⟨q20, e21, h⟩ := Option.bind_eq_some_iff.mp h
      refine V.xgetR C fl_Mo_29 e21 d_Mo_spell_30 ?_
      refine V.iload_n C 2 rfl rfl d_Mo_spell_33 ?_
      obtain ⟨v22, e23, h⟩ := Option.bind_eq_some_iff.mp h
      refine V.xiald C e23 d_Mo_spell_34 ?_
      obtain ⟨F24, e25, h⟩ := Option.bind_eq_some_iff.mp h
      refine V.xiast C e25 d_Mo_spell_35 ?_
      refine V.aload_n C 0 rfl rfl d_Mo_spell_36 ?_
      obtain ⟨q26, e27, h⟩ := Option.bind_eq_some_iff.mp h
      refine V.xgetR C fl_Mo_26 e27 d_Mo_spell_37 ?_
      refine V.iload_n C 2 rfl rfl d_Mo_spell_40 ?_
      obtain ⟨v28, e29, h⟩ := Option.bind_eq_some_iff.mp h
      refine V.xiald C e29 d_Mo_spell_41 ?_
      refine V.is2 C (by decide) rfl d_Mo_spell_42 ?_
      refine V.inc3 C (-1) (by decide) (by decide) rfl d_Mo_spell_43 ?_
      refine V.goto C 16 (by decide) d_Mo_spell_46 ?_
      exact V.weak (xsub_spec (by simp [xsub])) (ih v28 (u3 + (-1 : Int32)) F24 _ h)
def f_Mo_spell (S : List xO) (N : Nat) (a : Nat) (p0 : Int32) (F : xF) : Option xF :=
  (gI S 9 a 12 F).bind fun v1 =>
  (gR S 9 a 17).bind fun q3 =>
  (aG S q3 p0 F).bind fun v5 =>
  t_Mo_spell S N a p0 N p0 ((v1 + v5) - (1 : Int32)) F
set_option maxHeartbeats 4000000 in
set_option maxRecDepth 100000 in
theorem c_Mo_spell {l : Launch} {g : xG} {S : List xO} {G : xL} {a : Nat} {p0 : Int32} {N : Nat} {F : xF} {F2 : xF} (h : f_Mo_spell S N a p0 F = some F2) : CT l g 0 0 0 0 y_Mo_spell b_Mo_spell 4 none 1 [.ref a, .int p0] S F G none S F2 G := by
  refine CT.of [some (.ref a), some (.int p0), none, none] (by decide) (Nat.le_of_ble_eq_true rfl) rfl ?_
  intro p e s m args below meth c C hr hmn hz
  unfold f_Mo_spell at h
  refine V.iload_n C 1 rfl rfl d_Mo_spell_0 ?_
  refine V.is2 C (by decide) rfl d_Mo_spell_1 ?_
  refine V.aload_n C 0 rfl rfl d_Mo_spell_2 ?_
  obtain ⟨v1, e2, h⟩ := Option.bind_eq_some_iff.mp h
  refine V.xgetI C fl_Mo_107 e2 d_Mo_spell_3 ?_
  refine V.aload_n C 0 rfl rfl d_Mo_spell_6 ?_
  obtain ⟨q3, e4, h⟩ := Option.bind_eq_some_iff.mp h
  refine V.xgetR C fl_Mo_32 e4 d_Mo_spell_7 ?_
  refine V.iload_n C 1 rfl rfl d_Mo_spell_10 ?_
  obtain ⟨v5, e6, h⟩ := Option.bind_eq_some_iff.mp h
  refine V.xiald C e6 d_Mo_spell_11 ?_
  refine V.iadd C d_Mo_spell_12 ?_
  refine V.iconst C 1 (by decide) d_Mo_spell_13 ?_
  refine V.isub C d_Mo_spell_14 ?_
  refine V.is3 C (by decide) rfl d_Mo_spell_15 ?_
  exact V.weak (xsub_spec (by simp [xsub])) ((l_Mo_spell C hr N) p0 ((v1 + v5) - (1 : Int32)) F _ h)
def t_Mo_decode (S : List xO) (N : Nat) (a : Nat) : Nat → Nat → Int32 → Int32 → Int32 → Int32 → Int32 → Int32 → xF → Option (Int32 × xF)
  | 0, _, _, _, _, _, _, _, _ => none
  | n + 1, tg, u1, u2, u3, u4, u5, u6, F =>
    if tg = 0 then
      if u3 = (0 : Int32) then
        t_Mo_decode S N a n 8 u1 u2 u3 0 0 0 F
      else
      (gI S 9 a 20 F).bind fun v10 =>
      (gI S 9 a 21 F).bind fun v12 =>
      (gI S 9 a 10 F).bind fun v14 =>
      if ((8 : Int32) * v14) < (v10 + v12) then
        t_Mo_decode S N a n 8 u1 u2 u3 0 0 0 F
      else
      (xcl S 9 a (f_Mo_nextCode S N a F)).bind fun ⟨v17, F18⟩ =>
      (gI S 9 a 1 F18).bind fun v20 =>
      if v17 = v20 then
        (f_Mo_begin S N a F18).bind fun F30 =>
        t_Mo_decode S N a n 7 (-1 : Int32) u2 u3 v17 0 0 F30
      else
      (gI S 9 a 2 F18).bind fun v23 =>
      if v17 = v23 then
        t_Mo_decode S N a n 7 u1 u2 (0 : Int32) v17 0 0 F18
      else
      (gI S 9 a 14 F18).bind fun v26 =>
      if v17 = v26 then
        if u1 < (0 : Int32) then
          t_Mo_decode S N a n 1 u1 u2 u3 v17 0 0 F18
        else
        t_Mo_decode S N a n 2 u1 u2 u3 v17 (1 : Int32) 0 F18
      else
      t_Mo_decode S N a n 1 u1 u2 u3 v17 0 0 F18
    else
    if tg = 1 then
      t_Mo_decode S N a n 2 u1 u2 u3 u4 (0 : Int32) 0 F
    else
    if tg = 2 then
      (gI S 9 a 14 F).bind fun v37 =>
      if u4 < v37 then
        t_Mo_decode S N a n 3 u1 u2 u3 u4 u5 0 F
      else
      if u5 = (0 : Int32) then
        t_Mo_decode S N a n 7 u1 u4 (0 : Int32) u4 0 0 F
      else
      t_Mo_decode S N a n 3 u1 u2 u3 u4 u5 0 F
    else
    if tg = 3 then
      if u5 = (0 : Int32) then
        (gR S 9 a 17).bind fun q42 =>
        (aG S q42 u4 F).bind fun v44 =>
        t_Mo_decode S N a n 4 u1 u2 u3 u4 u5 v44 F
      else
      (gR S 9 a 17).bind fun q46 =>
      (aG S q46 u1 F).bind fun v48 =>
      t_Mo_decode S N a n 4 u1 u2 u3 u4 u5 (v48 + (1 : Int32)) F
    else
    if tg = 4 then
      (gI S 9 a 12 F).bind fun v50 =>
      if (12000 : Int32) < (v50 + u6) then
        t_Mo_decode S N a n 5 u1 u2 (0 : Int32) u4 u5 u6 F
      else
      t_Mo_decode S N a n 5 u1 u2 (1 : Int32) u4 u5 u6 F
    else
    if tg = 5 then
      if u3 = (0 : Int32) then
        t_Mo_decode S N a n 7 u1 u2 u3 u4 0 0 F
      else
      if u1 < (0 : Int32) then
        t_Mo_decode S N a n 6 u1 u2 u3 u4 u5 u6 F
      else
      if u5 = (0 : Int32) then
        (xcl S 9 a (f_Mo_firstOf S N a u4 F)).bind fun v56 =>
        (f_Mo_enter S a u1 v56 F).bind fun F58 =>
        t_Mo_decode S N a n 6 u1 u2 u3 u4 u5 u6 F58
      else
      (xcl S 9 a (f_Mo_firstOf S N a u1 F)).bind fun v60 =>
      (f_Mo_enter S a u1 v60 F).bind fun F62 =>
      t_Mo_decode S N a n 6 u1 u2 u3 u4 u5 u6 F62
    else
    if tg = 6 then
      (xcl S 9 a (f_Mo_spell S N a u4 F)).bind fun F64 =>
      (f_Mo_widen S a F64).bind fun F66 =>
      t_Mo_decode S N a n 7 u4 u2 u3 u4 0 0 F66
    else
    if tg = 7 then
      t_Mo_decode S N a n 0 u1 u2 u3 0 0 0 F
    else
    (pI S 9 a 10 (0 : Int32) F).bind fun F32 =>
    if u2 < (0 : Int32) then
      (gI S 9 a 12 F32).bind fun v35 =>
      some (v35, F32)
    else
    some ((-1 : Int32) - u2, F32)
set_option maxHeartbeats 4000000 in
set_option maxRecDepth 100000 in
theorem l_Mo_decode {p : Program} {l : Launch} {e : Env} {s : State} {m : MethodId} {args : Array Value} {below : List Frame} {meth : Method} {c : Code} {g : xG} {S : List xO} {G : xL} {a : Nat} {N : Nat} (C : Cx p s m args meth c b_Mo_decode 7 "PaletteFramesModel" g) (hr : meth.sig.returnType = (some .int)) : ∀ (n : Nat), (∀ (u1 : Int32) (u2 : Int32) (u3 : Int32) (F : xF) (r : Int32) (F2 : xF), t_Mo_decode S N a n 0 u1 u2 u3 0 0 0 F = some (r, F2) → V p l e (xRm 1 23 0 0) s m args below meth c (xMQ g below args s 0 0 S F2 G (some (.int r))) 7 g S F G 0 0 25 [some (.ref a), some (.int u1), some (.int u2), some (.int u3), none, none, none] []) ∧ (∀ (u1 : Int32) (u2 : Int32) (u3 : Int32) (u4 : Int32) (F : xF) (r : Int32) (F2 : xF), t_Mo_decode S N a n 1 u1 u2 u3 u4 0 0 F = some (r, F2) → V p l e (xRm 1 23 0 0) s m args below meth c (xMQ g below args s 0 0 S F2 G (some (.int r))) 7 g S F G 0 0 103 [some (.ref a), some (.int u1), some (.int u2), some (.int u3), some (.int u4), none, none] []) ∧ (∀ (u1 : Int32) (u2 : Int32) (u3 : Int32) (u4 : Int32) (u5 : Int32) (F : xF) (r : Int32) (F2 : xF), t_Mo_decode S N a n 2 u1 u2 u3 u4 u5 0 F = some (r, F2) → V p l e (xRm 1 23 0 0) s m args below meth c (xMQ g below args s 0 0 S F2 G (some (.int r))) 7 g S F G 0 0 106 [some (.ref a), some (.int u1), some (.int u2), some (.int u3), some (.int u4), some (.int u5), none] []) ∧ (∀ (u1 : Int32) (u2 : Int32) (u3 : Int32) (u4 : Int32) (u5 : Int32) (F : xF) (r : Int32) (F2 : xF), t_Mo_decode S N a n 3 u1 u2 u3 u4 u5 0 F = some (r, F2) → V p l e (xRm 1 23 0 0) s m args below meth c (xMQ g below args s 0 0 S F2 G (some (.int r))) 7 g S F G 0 0 128 [some (.ref a), some (.int u1), some (.int u2), some (.int u3), some (.int u4), some (.int u5), none] []) ∧ (∀ (u1 : Int32) (u2 : Int32) (u3 : Int32) (u4 : Int32) (u5 : Int32) (u6 : Int32) (F : xF) (r : Int32) (F2 : xF), t_Mo_decode S N a n 4 u1 u2 u3 u4 u5 u6 F = some (r, F2) → V p l e (xRm 1 23 0 0) s m args below meth c (xMQ g below args s 0 0 S F2 G (some (.int r))) 7 g S F G 0 0 153 [some (.ref a), some (.int u1), some (.int u2), some (.int u3), some (.int u4), some (.int u5), some (.int u6)] []) ∧ (∀ (u1 : Int32) (u2 : Int32) (u3 : Int32) (u4 : Int32) (u5 : Int32) (u6 : Int32) (F : xF) (r : Int32) (F2 : xF), t_Mo_decode S N a n 5 u1 u2 u3 u4 u5 u6 F = some (r, F2) → V p l e (xRm 1 23 0 0) s m args below meth c (xMQ g below args s 0 0 S F2 G (some (.int r))) 7 g S F G 0 0 172 [some (.ref a), some (.int u1), some (.int u2), some (.int u3), some (.int u4), some (.int u5), some (.int u6)] []) ∧ (∀ (u1 : Int32) (u2 : Int32) (u3 : Int32) (u4 : Int32) (u5 : Int32) (u6 : Int32) (F : xF) (r : Int32) (F2 : xF), t_Mo_decode S N a n 6 u1 u2 u3 u4 u5 u6 F = some (r, F2) → V p l e (xRm 1 23 0 0) s m args below meth c (xMQ g below args s 0 0 S F2 G (some (.int r))) 7 g S F G 0 0 200 [some (.ref a), some (.int u1), some (.int u2), some (.int u3), some (.int u4), some (.int u5), some (.int u6)] []) ∧ (∀ (u1 : Int32) (u2 : Int32) (u3 : Int32) (u4 : Int32) (F : xF) (r : Int32) (F2 : xF), t_Mo_decode S N a n 7 u1 u2 u3 u4 0 0 F = some (r, F2) → V p l e (xRm 1 23 0 0) s m args below meth c (xMQ g below args s 0 0 S F2 G (some (.int r))) 7 g S F G 0 0 213 [some (.ref a), some (.int u1), some (.int u2), some (.int u3), some (.int u4), none, none] []) ∧ (∀ (u1 : Int32) (u2 : Int32) (u3 : Int32) (F : xF) (r : Int32) (F2 : xF), t_Mo_decode S N a n 8 u1 u2 u3 0 0 0 F = some (r, F2) → V p l e (xRm 1 23 0 0) s m args below meth c (xMQ g below args s 0 0 S F2 G (some (.int r))) 7 g S F G 0 0 216 [some (.ref a), some (.int u1), some (.int u2), some (.int u3), none, none, none] []) := by
  intro n
  induction n with
  | zero =>
    refine ⟨?_, ?_⟩
    · intro u1 u2 u3 F r F2 h
      cases h
    refine ⟨?_, ?_⟩
    · intro u1 u2 u3 u4 F r F2 h
      cases h
    refine ⟨?_, ?_⟩
    · intro u1 u2 u3 u4 u5 F r F2 h
      cases h
    refine ⟨?_, ?_⟩
    · intro u1 u2 u3 u4 u5 F r F2 h
      cases h
    refine ⟨?_, ?_⟩
    · intro u1 u2 u3 u4 u5 u6 F r F2 h
      cases h
    refine ⟨?_, ?_⟩
    · intro u1 u2 u3 u4 u5 u6 F r F2 h
      cases h
    refine ⟨?_, ?_⟩
    · intro u1 u2 u3 u4 u5 u6 F r F2 h
      cases h
    refine ⟨?_, ?_⟩
    · intro u1 u2 u3 u4 F r F2 h
      cases h
    · intro u1 u2 u3 F r F2 h
      cases h
  | succ n ih =>
    refine ⟨?_, ?_⟩
    · intro u1 u2 u3 F r F2 h
      rw [t_Mo_decode] at h
      rw [if_pos rfl] at h
      refine V.iload_n C 3 rfl rfl d_Mo_decode_25 ?_
      refine V.if_eq C 216 (by decide) d_Mo_decode_26 (fun c9 => ?_) (fun c9 => ?_)
      · rw [if_pos c9] at h
        exact V.weak (xsub_spec (by simp [xsub])) (ih.2.2.2.2.2.2.2.2 u1 u2 u3 F _ _ h)
      · rw [if_neg c9] at h
        refine V.aload_n C 0 rfl rfl d_Mo_decode_29 ?_
        obtain ⟨v10, e11, h⟩ := Option.bind_eq_some_iff.mp h
        refine V.xgetI C fl_Mo_122 e11 d_Mo_decode_30 ?_
        refine V.aload_n C 0 rfl rfl d_Mo_decode_33 ?_
        obtain ⟨v12, e13, h⟩ := Option.bind_eq_some_iff.mp h
        refine V.xgetI C fl_Mo_116 e13 d_Mo_decode_34 ?_
        refine V.iadd C d_Mo_decode_37 ?_
        refine V.bipush C 8 (by decide) d_Mo_decode_38 ?_
        refine V.aload_n C 0 rfl rfl d_Mo_decode_40 ?_
        obtain ⟨v14, e15, h⟩ := Option.bind_eq_some_iff.mp h
        refine V.xgetI C fl_Mo_104 e15 d_Mo_decode_41 ?_
        refine V.imul C d_Mo_decode_44 ?_
        refine V.icmp_gt C 216 (by decide) d_Mo_decode_45 (fun c16 => ?_) (fun c16 => ?_)
        · rw [if_pos c16] at h
          exact V.weak (xsub_spec (by simp [xsub])) (ih.2.2.2.2.2.2.2.2 u1 u2 u3 F _ _ h)
        · rw [if_neg c16] at h
          refine V.aload_n C 0 rfl rfl d_Mo_decode_48 ?_
          obtain ⟨⟨v17, F18⟩, e19, h⟩ := Option.bind_eq_some_iff.mp h
          dsimp only at h
          obtain ⟨⟨fs_e19, s_e19⟩, e19⟩ := xcl_spec e19
          refine V.cVr C (c_Mo_nextCode e19) ml_Mo_146 s_e19 rfl rfl (by decide) (Nat.le_of_ble_eq_true rfl) d_Mo_decode_49 ?_
          refine V.is4 C (by decide) rfl d_Mo_decode_52 ?_
          refine V.iload C rfl d_Mo_decode_54 ?_
          refine V.aload_n C 0 rfl rfl d_Mo_decode_56 ?_
          obtain ⟨v20, e21, h⟩ := Option.bind_eq_some_iff.mp h
          refine V.xgetI C fl_Mo_84 e21 d_Mo_decode_57 ?_
          refine V.icmp_ne C 72 (by decide) d_Mo_decode_60 (fun c22 => ?_) (fun c22 => ?_)
          · rw [if_neg c22] at h
            refine V.iload C rfl d_Mo_decode_72 ?_
            refine V.aload_n C 0 rfl rfl d_Mo_decode_74 ?_
            obtain ⟨v23, e24, h⟩ := Option.bind_eq_some_iff.mp h
            refine V.xgetI C fl_Mo_87 e24 d_Mo_decode_75 ?_
            refine V.icmp_ne C 86 (by decide) d_Mo_decode_78 (fun c25 => ?_) (fun c25 => ?_)
            · rw [if_neg c25] at h
              refine V.iload C rfl d_Mo_decode_86 ?_
              refine V.aload_n C 0 rfl rfl d_Mo_decode_88 ?_
              obtain ⟨v26, e27, h⟩ := Option.bind_eq_some_iff.mp h
              refine V.xgetI C fl_Mo_113 e27 d_Mo_decode_89 ?_
              refine V.icmp_ne C 103 (by decide) d_Mo_decode_92 (fun c28 => ?_) (fun c28 => ?_)
              · rw [if_neg c28] at h
                exact V.weak (xsub_spec (by simp [xsub])) (ih.2.1 u1 u2 u3 v17 F18 _ _ h)
              · rw [if_pos c28] at h
                refine V.iload_n C 1 rfl rfl d_Mo_decode_95 ?_
                refine V.if_lt C 103 (by decide) d_Mo_decode_96 (fun c29 => ?_) (fun c29 => ?_)
                · rw [if_pos c29] at h
                  exact V.weak (xsub_spec (by simp [xsub])) (ih.2.1 u1 u2 u3 v17 F18 _ _ h)
                · rw [if_neg c29] at h
                  refine V.iconst C 1 (by decide) d_Mo_decode_99 ?_
                  refine V.goto C 104 (by decide) d_Mo_decode_100 ?_
                  refine V.is5 C (by decide) rfl d_Mo_decode_104 ?_
                  exact V.weak (xsub_spec (by simp [xsub])) (ih.2.2.1 u1 u2 u3 v17 (1 : Int32) F18 _ _ h)
            · rw [if_pos c25] at h
              refine V.iconst C 0 (by decide) d_Mo_decode_81 ?_
              refine V.is3 C (by decide) rfl d_Mo_decode_82 ?_
              refine V.goto C 213 (by decide) d_Mo_decode_83 ?_
              exact V.weak (xsub_spec (by simp [xsub])) (ih.2.2.2.2.2.2.2.1 u1 u2 (0 : Int32) v17 F18 _ _ h)
          · rw [if_pos c22] at h
            refine V.aload_n C 0 rfl rfl d_Mo_decode_63 ?_
            obtain ⟨F30, e31, h⟩ := Option.bind_eq_some_iff.mp h
            refine V.cVv C (c_Mo_begin e31) ml_Mo_129 s_e19 rfl rfl (by decide) (Nat.le_of_ble_eq_true rfl) d_Mo_decode_64 ?_
            refine V.iconst C (-1) (by decide) d_Mo_decode_67 ?_
            refine V.is1 C (by decide) rfl d_Mo_decode_68 ?_
            refine V.goto C 213 (by decide) d_Mo_decode_69 ?_
            exact V.weak (xsub_spec (by simp [xsub])) (ih.2.2.2.2.2.2.2.1 (-1 : Int32) u2 u3 v17 F30 _ _ h)
    refine ⟨?_, ?_⟩
    · intro u1 u2 u3 u4 F r F2 h
      rw [t_Mo_decode] at h
      rw [if_neg (by decide)] at h
      rw [if_pos rfl] at h
      refine V.iconst C 0 (by decide) d_Mo_decode_103 ?_
      refine V.is5 C (by decide) rfl d_Mo_decode_104 ?_
      exact V.weak (xsub_spec (by simp [xsub])) (ih.2.2.1 u1 u2 u3 u4 (0 : Int32) F _ _ h)
    refine ⟨?_, ?_⟩
    · intro u1 u2 u3 u4 u5 F r F2 h
      rw [t_Mo_decode] at h
      rw [if_neg (by decide)] at h
      rw [if_neg (by decide)] at h
      rw [if_pos rfl] at h
      refine V.iload C rfl d_Mo_decode_106 ?_
      refine V.aload_n C 0 rfl rfl d_Mo_decode_108 ?_
      obtain ⟨v37, e38, h⟩ := Option.bind_eq_some_iff.mp h
      refine V.xgetI C fl_Mo_113 e38 d_Mo_decode_109 ?_
      refine V.icmp_lt C 128 (by decide) d_Mo_decode_112 (fun c39 => ?_) (fun c39 => ?_)
      · rw [if_pos c39] at h
        exact V.weak (xsub_spec (by simp [xsub])) (ih.2.2.2.1 u1 u2 u3 u4 u5 F _ _ h)
      · rw [if_neg c39] at h
        refine V.iload C rfl d_Mo_decode_115 ?_
        refine V.if_ne C 128 (by decide) d_Mo_decode_117 (fun c40 => ?_) (fun c40 => ?_)
        · rw [if_neg c40] at h
          exact V.weak (xsub_spec (by simp [xsub])) (ih.2.2.2.1 u1 u2 u3 u4 u5 F _ _ h)
        · rw [if_pos c40] at h
          refine V.iload C rfl d_Mo_decode_120 ?_
          refine V.is2 C (by decide) rfl d_Mo_decode_122 ?_
          refine V.iconst C 0 (by decide) d_Mo_decode_123 ?_
          refine V.is3 C (by decide) rfl d_Mo_decode_124 ?_
          refine V.goto C 213 (by decide) d_Mo_decode_125 ?_
          exact V.weak (xsub_spec (by simp [xsub])) (ih.2.2.2.2.2.2.2.1 u1 u4 (0 : Int32) u4 F _ _ h)
    refine ⟨?_, ?_⟩
    · intro u1 u2 u3 u4 u5 F r F2 h
      rw [t_Mo_decode] at h
      rw [if_neg (by decide)] at h
      rw [if_neg (by decide)] at h
      rw [if_neg (by decide)] at h
      rw [if_pos rfl] at h
      refine V.iload C rfl d_Mo_decode_128 ?_
      refine V.if_eq C 144 (by decide) d_Mo_decode_130 (fun c41 => ?_) (fun c41 => ?_)
      · rw [if_pos c41] at h
        refine V.aload_n C 0 rfl rfl d_Mo_decode_144 ?_
        obtain ⟨q42, e43, h⟩ := Option.bind_eq_some_iff.mp h
        refine V.xgetR C fl_Mo_32 e43 d_Mo_decode_145 ?_
        refine V.iload C rfl d_Mo_decode_148 ?_
        obtain ⟨v44, e45, h⟩ := Option.bind_eq_some_iff.mp h
        refine V.xiald C e45 d_Mo_decode_150 ?_
        refine V.is6 C (by decide) rfl d_Mo_decode_151 ?_
        exact V.weak (xsub_spec (by simp [xsub])) (ih.2.2.2.2.1 u1 u2 u3 u4 u5 v44 F _ _ h)
      · rw [if_neg c41] at h
        refine V.aload_n C 0 rfl rfl d_Mo_decode_133 ?_
        obtain ⟨q46, e47, h⟩ := Option.bind_eq_some_iff.mp h
        refine V.xgetR C fl_Mo_32 e47 d_Mo_decode_134 ?_
        refine V.iload_n C 1 rfl rfl d_Mo_decode_137 ?_
        obtain ⟨v48, e49, h⟩ := Option.bind_eq_some_iff.mp h
        refine V.xiald C e49 d_Mo_decode_138 ?_
        refine V.iconst C 1 (by decide) d_Mo_decode_139 ?_
        refine V.iadd C d_Mo_decode_140 ?_
        refine V.goto C 151 (by decide) d_Mo_decode_141 ?_
        refine V.is6 C (by decide) rfl d_Mo_decode_151 ?_
        exact V.weak (xsub_spec (by simp [xsub])) (ih.2.2.2.2.1 u1 u2 u3 u4 u5 (v48 + (1 : Int32)) F _ _ h)
    refine ⟨?_, ?_⟩
    · intro u1 u2 u3 u4 u5 u6 F r F2 h
      rw [t_Mo_decode] at h
      rw [if_neg (by decide)] at h
      rw [if_neg (by decide)] at h
      rw [if_neg (by decide)] at h
      rw [if_neg (by decide)] at h
      rw [if_pos rfl] at h
      refine V.aload_n C 0 rfl rfl d_Mo_decode_153 ?_
      obtain ⟨v50, e51, h⟩ := Option.bind_eq_some_iff.mp h
      refine V.xgetI C fl_Mo_107 e51 d_Mo_decode_154 ?_
      refine V.iload C rfl d_Mo_decode_157 ?_
      refine V.iadd C d_Mo_decode_159 ?_
      refine V.sipush C 12000 (by decide) d_Mo_decode_160 ?_
      refine V.icmp_gt C 170 (by decide) d_Mo_decode_163 (fun c52 => ?_) (fun c52 => ?_)
      · rw [if_pos c52] at h
        refine V.iconst C 0 (by decide) d_Mo_decode_170 ?_
        refine V.is3 C (by decide) rfl d_Mo_decode_171 ?_
        exact V.weak (xsub_spec (by simp [xsub])) (ih.2.2.2.2.2.1 u1 u2 (0 : Int32) u4 u5 u6 F _ _ h)
      · rw [if_neg c52] at h
        refine V.iconst C 1 (by decide) d_Mo_decode_166 ?_
        refine V.goto C 171 (by decide) d_Mo_decode_167 ?_
        refine V.is3 C (by decide) rfl d_Mo_decode_171 ?_
        exact V.weak (xsub_spec (by simp [xsub])) (ih.2.2.2.2.2.1 u1 u2 (1 : Int32) u4 u5 u6 F _ _ h)
    refine ⟨?_, ?_⟩
    · intro u1 u2 u3 u4 u5 u6 F r F2 h
      rw [t_Mo_decode] at h
      rw [if_neg (by decide)] at h
      rw [if_neg (by decide)] at h
      rw [if_neg (by decide)] at h
      rw [if_neg (by decide)] at h
      rw [if_neg (by decide)] at h
      rw [if_pos rfl] at h
      refine V.iload_n C 3 rfl rfl d_Mo_decode_172 ?_
      refine V.if_eq C 213 (by decide) d_Mo_decode_173 (fun c53 => ?_) (fun c53 => ?_)
      · rw [if_pos c53] at h
        exact V.weak (xsub_spec (by simp [xsub])) (ih.2.2.2.2.2.2.2.1 u1 u2 u3 u4 F _ _ h)
      · rw [if_neg c53] at h
        refine V.iload_n C 1 rfl rfl d_Mo_decode_176 ?_
        refine V.if_lt C 200 (by decide) d_Mo_decode_177 (fun c54 => ?_) (fun c54 => ?_)
        · rw [if_pos c54] at h
          exact V.weak (xsub_spec (by simp [xsub])) (ih.2.2.2.2.2.2.1 u1 u2 u3 u4 u5 u6 F _ _ h)
        · rw [if_neg c54] at h
          refine V.aload_n C 0 rfl rfl d_Mo_decode_180 ?_
          refine V.iload_n C 1 rfl rfl d_Mo_decode_181 ?_
          refine V.aload_n C 0 rfl rfl d_Mo_decode_182 ?_
          refine V.iload C rfl d_Mo_decode_183 ?_
          refine V.if_eq C 192 (by decide) d_Mo_decode_185 (fun c55 => ?_) (fun c55 => ?_)
          · rw [if_pos c55] at h
            refine V.iload C rfl d_Mo_decode_192 ?_
            obtain ⟨v56, e57, h⟩ := Option.bind_eq_some_iff.mp h
            obtain ⟨⟨fs_e57, s_e57⟩, e57⟩ := xcl_spec e57
            refine V.cVr C (c_Mo_firstOf e57) ml_Mo_150 s_e57 rfl rfl (by decide) (Nat.le_of_ble_eq_true rfl) d_Mo_decode_194 ?_
            obtain ⟨F58, e59, h⟩ := Option.bind_eq_some_iff.mp h
            refine V.cVv C (c_Mo_enter e59) ml_Mo_142 s_e57 rfl rfl (by decide) (Nat.le_of_ble_eq_true rfl) d_Mo_decode_197 ?_
            exact V.weak (xsub_spec (by simp [xsub])) (ih.2.2.2.2.2.2.1 u1 u2 u3 u4 u5 u6 F58 _ _ h)
          · rw [if_neg c55] at h
            refine V.iload_n C 1 rfl rfl d_Mo_decode_188 ?_
            refine V.goto C 194 (by decide) d_Mo_decode_189 ?_
            obtain ⟨v60, e61, h⟩ := Option.bind_eq_some_iff.mp h
            obtain ⟨⟨fs_e61, s_e61⟩, e61⟩ := xcl_spec e61
            refine V.cVr C (c_Mo_firstOf e61) ml_Mo_150 s_e61 rfl rfl (by decide) (Nat.le_of_ble_eq_true rfl) d_Mo_decode_194 ?_
            obtain ⟨F62, e63, h⟩ := Option.bind_eq_some_iff.mp h
            refine V.cVv C (c_Mo_enter e63) ml_Mo_142 s_e61 rfl rfl (by decide) (Nat.le_of_ble_eq_true rfl) d_Mo_decode_197 ?_
            exact V.weak (xsub_spec (by simp [xsub])) (ih.2.2.2.2.2.2.1 u1 u2 u3 u4 u5 u6 F62 _ _ h)
    refine ⟨?_, ?_⟩
    · intro u1 u2 u3 u4 u5 u6 F r F2 h
      rw [t_Mo_decode] at h
      rw [if_neg (by decide)] at h
      rw [if_neg (by decide)] at h
      rw [if_neg (by decide)] at h
      rw [if_neg (by decide)] at h
      rw [if_neg (by decide)] at h
      rw [if_neg (by decide)] at h
      rw [if_pos rfl] at h
      refine V.aload_n C 0 rfl rfl d_Mo_decode_200 ?_
      refine V.iload C rfl d_Mo_decode_201 ?_
      obtain ⟨F64, e65, h⟩ := Option.bind_eq_some_iff.mp h
      obtain ⟨⟨fs_e65, s_e65⟩, e65⟩ := xcl_spec e65
      refine V.cVv C (c_Mo_spell e65) ml_Mo_154 s_e65 rfl rfl (by decide) (Nat.le_of_ble_eq_true rfl) d_Mo_decode_203 ?_
      refine V.aload_n C 0 rfl rfl d_Mo_decode_206 ?_
      obtain ⟨F66, e67, h⟩ := Option.bind_eq_some_iff.mp h
      refine V.cVv C (c_Mo_widen e67) ml_Mo_139 s_e65 rfl rfl (by decide) (Nat.le_of_ble_eq_true rfl) d_Mo_decode_207 ?_
      refine V.iload C rfl d_Mo_decode_210 ?_
      refine V.is1 C (by decide) rfl d_Mo_decode_212 ?_
      exact V.weak (xsub_spec (by simp [xsub])) (ih.2.2.2.2.2.2.2.1 u4 u2 u3 u4 F66 _ _ h)
    refine ⟨?_, ?_⟩
    · intro u1 u2 u3 u4 F r F2 h
      rw [t_Mo_decode] at h
      rw [if_neg (by decide)] at h
      rw [if_neg (by decide)] at h
      rw [if_neg (by decide)] at h
      rw [if_neg (by decide)] at h
      rw [if_neg (by decide)] at h
      rw [if_neg (by decide)] at h
      rw [if_neg (by decide)] at h
      rw [if_pos rfl] at h
      refine V.goto C 25 (by decide) d_Mo_decode_213 ?_
      exact V.weak (xsub_spec (by simp [xsub])) (ih.1 u1 u2 u3 F _ _ h)
    · intro u1 u2 u3 F r F2 h
      rw [t_Mo_decode] at h
      rw [if_neg (by decide)] at h
      rw [if_neg (by decide)] at h
      rw [if_neg (by decide)] at h
      rw [if_neg (by decide)] at h
      rw [if_neg (by decide)] at h
      rw [if_neg (by decide)] at h
      rw [if_neg (by decide)] at h
      rw [if_neg (by decide)] at h
      refine V.aload_n C 0 rfl rfl d_Mo_decode_216 ?_
      refine V.iconst C 0 (by decide) d_Mo_decode_217 ?_
      obtain ⟨F32, e33, h⟩ := Option.bind_eq_some_iff.mp h
      refine V.xputI C fl_Mo_104 ft_9 fi_9_10 e33 d_Mo_decode_218 ?_
      refine V.iload_n C 2 rfl rfl d_Mo_decode_221 ?_
      refine V.if_lt C 231 (by decide) d_Mo_decode_222 (fun c34 => ?_) (fun c34 => ?_)
      · rw [if_pos c34] at h
        refine V.aload_n C 0 rfl rfl d_Mo_decode_231 ?_
        obtain ⟨v35, e36, h⟩ := Option.bind_eq_some_iff.mp h
        refine V.xgetI C fl_Mo_107 e36 d_Mo_decode_232 ?_
        obtain ⟨rfl, rfl⟩ := Prod.mk.inj (Option.some.inj h)
        exact V.iret C hr d_Mo_decode_235 rfl rfl rfl rfl
      · rw [if_neg c34] at h
        refine V.iconst C (-1) (by decide) d_Mo_decode_225 ?_
        refine V.iload_n C 2 rfl rfl d_Mo_decode_226 ?_
        refine V.isub C d_Mo_decode_227 ?_
        refine V.goto C 235 (by decide) d_Mo_decode_228 ?_
        obtain ⟨rfl, rfl⟩ := Prod.mk.inj (Option.some.inj h)
        exact V.iret C hr d_Mo_decode_235 rfl rfl rfl rfl
def f_Mo_decode (S : List xO) (N : Nat) (a : Nat) (F : xF) : Option (Int32 × xF) :=
  (pI S 9 a 3 (0 : Int32) F).bind fun F1 =>
  (pI S 9 a 20 (0 : Int32) F1).bind fun F3 =>
  (pI S 9 a 12 (0 : Int32) F3).bind fun F5 =>
  (xcl S 9 a (f_Mo_begin S N a F5)).bind fun F7 =>
  t_Mo_decode S N a N 0 (-1 : Int32) (-1 : Int32) (1 : Int32) 0 0 0 F7
set_option maxHeartbeats 4000000 in
set_option maxRecDepth 100000 in
theorem c_Mo_decode {l : Launch} {g : xG} {S : List xO} {G : xL} {a : Nat} {N : Nat} {F : xF} {r : Int32} {F2 : xF} (h : f_Mo_decode S N a F = some (r, F2)) : CT l g 1 23 0 0 y_Mo_decode b_Mo_decode 7 (some .int) 1 [.ref a] S F G (some (.int r)) S F2 G := by
  refine CT.of [some (.ref a), none, none, none, none, none, none] (by decide) (Nat.le_of_ble_eq_true rfl) rfl ?_
  intro p e s m args below meth c C hr hmn hz
  unfold f_Mo_decode at h
  refine V.aload_n C 0 rfl rfl d_Mo_decode_0 ?_
  refine V.iconst C 0 (by decide) d_Mo_decode_1 ?_
  obtain ⟨F1, e2, h⟩ := Option.bind_eq_some_iff.mp h
  refine V.xputI C fl_Mo_92 ft_9 fi_9_3 e2 d_Mo_decode_2 ?_
  refine V.aload_n C 0 rfl rfl d_Mo_decode_5 ?_
  refine V.iconst C 0 (by decide) d_Mo_decode_6 ?_
  obtain ⟨F3, e4, h⟩ := Option.bind_eq_some_iff.mp h
  refine V.xputI C fl_Mo_122 ft_9 fi_9_20 e4 d_Mo_decode_7 ?_
  refine V.aload_n C 0 rfl rfl d_Mo_decode_10 ?_
  refine V.iconst C 0 (by decide) d_Mo_decode_11 ?_
  obtain ⟨F5, e6, h⟩ := Option.bind_eq_some_iff.mp h
  refine V.xputI C fl_Mo_107 ft_9 fi_9_12 e6 d_Mo_decode_12 ?_
  refine V.aload_n C 0 rfl rfl d_Mo_decode_15 ?_
  obtain ⟨F7, e8, h⟩ := Option.bind_eq_some_iff.mp h
  obtain ⟨⟨fs_e8, s_e8⟩, e8⟩ := xcl_spec e8
  refine V.cVv C (c_Mo_begin e8) ml_Mo_129 s_e8 rfl rfl (by decide) (Nat.le_of_ble_eq_true rfl) d_Mo_decode_16 ?_
  refine V.iconst C (-1) (by decide) d_Mo_decode_19 ?_
  refine V.is1 C (by decide) rfl d_Mo_decode_20 ?_
  refine V.iconst C (-1) (by decide) d_Mo_decode_21 ?_
  refine V.is2 C (by decide) rfl d_Mo_decode_22 ?_
  refine V.iconst C 1 (by decide) d_Mo_decode_23 ?_
  refine V.is3 C (by decide) rfl d_Mo_decode_24 ?_
  exact V.weak (xsub_spec (by simp [xsub])) ((l_Mo_decode C hr N).1 (-1 : Int32) (-1 : Int32) (1 : Int32) F7 _ _ h)
def f_Mo_at (S : List xO) (a : Nat) (p0 : Int32) (F : xF) : Option (Int32 × xF) :=
  if p0 < (0 : Int32) then
    (pI S 9 a 3 (1 : Int32) F).bind fun F2 =>
    (gI S 9 a 3 F2).bind fun v4 =>
    if v4 ≤ (0 : Int32) then
      (gR S 9 a 13).bind fun q7 =>
      (aG S q7 p0 F2).bind fun v9 =>
      some (v9, F2)
    else
    some ((0 : Int32), F2)
  else
  (gI S 9 a 12 F).bind fun v11 =>
  if p0 < v11 then
    (pI S 9 a 3 (0 : Int32) F).bind fun F14 =>
    (gI S 9 a 3 F14).bind fun v16 =>
    if v16 ≤ (0 : Int32) then
      (gR S 9 a 13).bind fun q19 =>
      (aG S q19 p0 F14).bind fun v21 =>
      some (v21, F14)
    else
    some ((0 : Int32), F14)
  else
  (pI S 9 a 3 (1 : Int32) F).bind fun F23 =>
  (gI S 9 a 3 F23).bind fun v25 =>
  if v25 ≤ (0 : Int32) then
    (gR S 9 a 13).bind fun q28 =>
    (aG S q28 p0 F23).bind fun v30 =>
    some (v30, F23)
  else
  some ((0 : Int32), F23)
set_option maxHeartbeats 4000000 in
set_option maxRecDepth 100000 in
theorem c_Mo_at {l : Launch} {g : xG} {S : List xO} {G : xL} {a : Nat} {p0 : Int32} {F : xF} {r : Int32} {F2 : xF} (h : f_Mo_at S a p0 F = some (r, F2)) : CT l g 0 0 0 0 y_Mo_at b_Mo_at 2 (some .int) 1 [.ref a, .int p0] S F G (some (.int r)) S F2 G := by
  refine CT.of [some (.ref a), some (.int p0)] (by decide) (Nat.le_of_ble_eq_true rfl) rfl ?_
  intro p e s m args below meth c C hr hmn hz
  unfold f_Mo_at at h
  refine V.aload_n C 0 rfl rfl d_Mo_at_0 ?_
  refine V.iload_n C 1 rfl rfl d_Mo_at_1 ?_
  refine V.if_lt C 13 (by decide) d_Mo_at_2 (fun c1 => ?_) (fun c1 => ?_)
  · rw [if_pos c1] at h
    refine V.iconst C 1 (by decide) d_Mo_at_13 ?_
    refine V.goto C 18 (by decide) d_Mo_at_14 ?_
    obtain ⟨F2, e3, h⟩ := Option.bind_eq_some_iff.mp h
    refine V.xputI C fl_Mo_92 ft_9 fi_9_3 e3 d_Mo_at_18 ?_
    refine V.aload_n C 0 rfl rfl d_Mo_at_21 ?_
    obtain ⟨v4, e5, h⟩ := Option.bind_eq_some_iff.mp h
    refine V.xgetI C fl_Mo_92 e5 d_Mo_at_22 ?_
    refine V.if_le C 32 (by decide) d_Mo_at_25 (fun c6 => ?_) (fun c6 => ?_)
    · rw [if_pos c6] at h
      refine V.aload_n C 0 rfl rfl d_Mo_at_32 ?_
      obtain ⟨q7, e8, h⟩ := Option.bind_eq_some_iff.mp h
      refine V.xgetR C fl_Mo_23 e8 d_Mo_at_33 ?_
      refine V.iload_n C 1 rfl rfl d_Mo_at_36 ?_
      obtain ⟨v9, e10, h⟩ := Option.bind_eq_some_iff.mp h
      refine V.xiald C e10 d_Mo_at_37 ?_
      obtain ⟨rfl, rfl⟩ := Prod.mk.inj (Option.some.inj h)
      exact V.iret C hr d_Mo_at_38 rfl rfl rfl rfl
    · rw [if_neg c6] at h
      refine V.iconst C 0 (by decide) d_Mo_at_28 ?_
      refine V.goto C 38 (by decide) d_Mo_at_29 ?_
      obtain ⟨rfl, rfl⟩ := Prod.mk.inj (Option.some.inj h)
      exact V.iret C hr d_Mo_at_38 rfl rfl rfl rfl
  · rw [if_neg c1] at h
    refine V.iload_n C 1 rfl rfl d_Mo_at_5 ?_
    refine V.aload_n C 0 rfl rfl d_Mo_at_6 ?_
    obtain ⟨v11, e12, h⟩ := Option.bind_eq_some_iff.mp h
    refine V.xgetI C fl_Mo_107 e12 d_Mo_at_7 ?_
    refine V.icmp_lt C 17 (by decide) d_Mo_at_10 (fun c13 => ?_) (fun c13 => ?_)
    · rw [if_pos c13] at h
      refine V.iconst C 0 (by decide) d_Mo_at_17 ?_
      obtain ⟨F14, e15, h⟩ := Option.bind_eq_some_iff.mp h
      refine V.xputI C fl_Mo_92 ft_9 fi_9_3 e15 d_Mo_at_18 ?_
      refine V.aload_n C 0 rfl rfl d_Mo_at_21 ?_
      obtain ⟨v16, e17, h⟩ := Option.bind_eq_some_iff.mp h
      refine V.xgetI C fl_Mo_92 e17 d_Mo_at_22 ?_
      refine V.if_le C 32 (by decide) d_Mo_at_25 (fun c18 => ?_) (fun c18 => ?_)
      · rw [if_pos c18] at h
        refine V.aload_n C 0 rfl rfl d_Mo_at_32 ?_
        obtain ⟨q19, e20, h⟩ := Option.bind_eq_some_iff.mp h
        refine V.xgetR C fl_Mo_23 e20 d_Mo_at_33 ?_
        refine V.iload_n C 1 rfl rfl d_Mo_at_36 ?_
        obtain ⟨v21, e22, h⟩ := Option.bind_eq_some_iff.mp h
        refine V.xiald C e22 d_Mo_at_37 ?_
        obtain ⟨rfl, rfl⟩ := Prod.mk.inj (Option.some.inj h)
        exact V.iret C hr d_Mo_at_38 rfl rfl rfl rfl
      · rw [if_neg c18] at h
        refine V.iconst C 0 (by decide) d_Mo_at_28 ?_
        refine V.goto C 38 (by decide) d_Mo_at_29 ?_
        obtain ⟨rfl, rfl⟩ := Prod.mk.inj (Option.some.inj h)
        exact V.iret C hr d_Mo_at_38 rfl rfl rfl rfl
    · rw [if_neg c13] at h
      refine V.iconst C 1 (by decide) d_Mo_at_13 ?_
      refine V.goto C 18 (by decide) d_Mo_at_14 ?_
      obtain ⟨F23, e24, h⟩ := Option.bind_eq_some_iff.mp h
      refine V.xputI C fl_Mo_92 ft_9 fi_9_3 e24 d_Mo_at_18 ?_
      refine V.aload_n C 0 rfl rfl d_Mo_at_21 ?_
      obtain ⟨v25, e26, h⟩ := Option.bind_eq_some_iff.mp h
      refine V.xgetI C fl_Mo_92 e26 d_Mo_at_22 ?_
      refine V.if_le C 32 (by decide) d_Mo_at_25 (fun c27 => ?_) (fun c27 => ?_)
      · rw [if_pos c27] at h
        refine V.aload_n C 0 rfl rfl d_Mo_at_32 ?_
        obtain ⟨q28, e29, h⟩ := Option.bind_eq_some_iff.mp h
        refine V.xgetR C fl_Mo_23 e29 d_Mo_at_33 ?_
        refine V.iload_n C 1 rfl rfl d_Mo_at_36 ?_
        obtain ⟨v30, e31, h⟩ := Option.bind_eq_some_iff.mp h
        refine V.xiald C e31 d_Mo_at_37 ?_
        obtain ⟨rfl, rfl⟩ := Prod.mk.inj (Option.some.inj h)
        exact V.iret C hr d_Mo_at_38 rfl rfl rfl rfl
      · rw [if_neg c27] at h
        refine V.iconst C 0 (by decide) d_Mo_at_28 ?_
        refine V.goto C 38 (by decide) d_Mo_at_29 ?_
        obtain ⟨rfl, rfl⟩ := Prod.mk.inj (Option.some.inj h)
        exact V.iret C hr d_Mo_at_38 rfl rfl rfl rfl
def t_Mo_take (S : List xO) (N : Nat) (a : Nat) : Nat → Int32 → xF → Option (Int32 × xF)
  | 0, _, _ => none
  | n + 1, u1, F =>
    (gI S 9 a 12 F).bind fun v7 =>
    if v7 ≤ u1 then
      (gI S 9 a 5 F).bind fun v10 =>
      some (v10, F)
    else
    (gR S 9 a 6).bind fun q12 =>
    (gR S 9 a 13).bind fun q14 =>
    (aG S q14 u1 F).bind fun v16 =>
    (aP S q12 u1 v16 F).bind fun F18 =>
    t_Mo_take S N a n (u1 + (1 : Int32)) F18
set_option maxHeartbeats 4000000 in
set_option maxRecDepth 100000 in
theorem l_Mo_take {p : Program} {l : Launch} {e : Env} {s : State} {m : MethodId} {args : Array Value} {below : List Frame} {meth : Method} {c : Code} {g : xG} {S : List xO} {G : xL} {a : Nat} {N : Nat} (C : Cx p s m args meth c b_Mo_take 2 "PaletteFramesModel" g) (hr : meth.sig.returnType = (some .int)) : ∀ (n : Nat), (∀ (u1 : Int32) (F : xF) (r : Int32) (F2 : xF), t_Mo_take S N a n u1 F = some (r, F2) → V p l e (xRm 0 0 0 0) s m args below meth c (xMQ g below args s 0 0 S F2 G (some (.int r))) 2 g S F G 0 0 15 [some (.ref a), some (.int u1)] []) := by
  intro n
  induction n with
  | zero =>
    intro u1 F r F2 h
    cases h
  | succ n ih =>
    intro u1 F r F2 h
    rw [t_Mo_take] at h
    refine V.iload_n C 1 rfl rfl d_Mo_take_15 ?_
    refine V.aload_n C 0 rfl rfl d_Mo_take_16 ?_
    obtain ⟨v7, e8, h⟩ := Option.bind_eq_some_iff.mp h
    refine V.xgetI C fl_Mo_107 e8 d_Mo_take_17 ?_
    refine V.icmp_ge C 41 (by decide) d_Mo_take_20 (fun c9 => ?_) (fun c9 => ?_)
    · rw [if_pos c9] at h
      refine V.aload_n C 0 rfl rfl d_Mo_take_41 ?_
      obtain ⟨v10, e11, h⟩ := Option.bind_eq_some_iff.mp h
      refine V.xgetI C fl_Mo_98 e11 d_Mo_take_42 ?_
      obtain ⟨rfl, rfl⟩ := Prod.mk.inj (Option.some.inj h)
      exact V.iret C hr d_Mo_take_45 rfl rfl rfl rfl
    · rw [if_neg c9] at h
      refine V.aload_n C 0 rfl rfl d_Mo_take_23 ?_
      obtain ⟨q12, e13, h⟩ := Option.bind_eq_some_iff.mp h
      refine V.xgetR C fl_Mo_7 e13 d_Mo_take_24 ?_
      refine V.iload_n C 1 rfl rfl d_Mo_take_27 ?_
      refine V.aload_n C 0 rfl rfl d_Mo_take_28 ?_
      obtain ⟨q14, e15, h⟩ := Option.bind_eq_some_iff.mp h
      refine V.xgetR C fl_Mo_23 e15 d_Mo_take_29 ?_
      refine V.iload_n C 1 rfl rfl d_Mo_take_32 ?_
      obtain ⟨v16, e17, h⟩ := Option.bind_eq_some_iff.mp h
      refine V.xiald C e17 d_Mo_take_33 ?_
      obtain ⟨F18, e19, h⟩ := Option.bind_eq_some_iff.mp h
      refine V.xiast C e19 d_Mo_take_34 ?_
      refine V.inc1 C 1 (by decide) (by decide) rfl d_Mo_take_35 ?_
      refine V.goto C 15 (by decide) d_Mo_take_38 ?_
      exact V.weak (xsub_spec (by simp [xsub])) (ih (u1 + (1 : Int32)) F18 _ _ h)
def f_Mo_take (S : List xO) (N : Nat) (a : Nat) (F : xF) : Option (Int32 × xF) :=
  (pI S 9 a 3 (0 : Int32) F).bind fun F1 =>
  (gI S 9 a 12 F1).bind fun v3 =>
  (pI S 9 a 5 v3 F1).bind fun F5 =>
  t_Mo_take S N a N (0 : Int32) F5
set_option maxHeartbeats 4000000 in
set_option maxRecDepth 100000 in
theorem c_Mo_take {l : Launch} {g : xG} {S : List xO} {G : xL} {a : Nat} {N : Nat} {F : xF} {r : Int32} {F2 : xF} (h : f_Mo_take S N a F = some (r, F2)) : CT l g 0 0 0 0 y_Mo_take b_Mo_take 2 (some .int) 1 [.ref a] S F G (some (.int r)) S F2 G := by
  refine CT.of [some (.ref a), none] (by decide) (Nat.le_of_ble_eq_true rfl) rfl ?_
  intro p e s m args below meth c C hr hmn hz
  unfold f_Mo_take at h
  refine V.aload_n C 0 rfl rfl d_Mo_take_0 ?_
  refine V.iconst C 0 (by decide) d_Mo_take_1 ?_
  obtain ⟨F1, e2, h⟩ := Option.bind_eq_some_iff.mp h
  refine V.xputI C fl_Mo_92 ft_9 fi_9_3 e2 d_Mo_take_2 ?_
  refine V.aload_n C 0 rfl rfl d_Mo_take_5 ?_
  refine V.aload_n C 0 rfl rfl d_Mo_take_6 ?_
  obtain ⟨v3, e4, h⟩ := Option.bind_eq_some_iff.mp h
  refine V.xgetI C fl_Mo_107 e4 d_Mo_take_7 ?_
  obtain ⟨F5, e6, h⟩ := Option.bind_eq_some_iff.mp h
  refine V.xputI C fl_Mo_98 ft_9 fi_9_5 e6 d_Mo_take_10 ?_
  refine V.iconst C 0 (by decide) d_Mo_take_13 ?_
  refine V.is1 C (by decide) rfl d_Mo_take_14 ?_
  exact V.weak (xsub_spec (by simp [xsub])) ((l_Mo_take C hr N) (0 : Int32) F5 _ _ h)
def f_Mo_passNumber (S : List xO) (p0 : Int32) (F : xF) : Option Int32 :=
  if (8 : Int32) = (0 : Int32) then none else
  if (p0 - p0 / (8 : Int32) * (8 : Int32)) = (0 : Int32) then
    some (0 : Int32)
  else
  if (8 : Int32) = (0 : Int32) then none else
  if (p0 - p0 / (8 : Int32) * (8 : Int32)) = (4 : Int32) then
    some (1 : Int32)
  else
  if (4 : Int32) = (0 : Int32) then none else
  if (p0 - p0 / (4 : Int32) * (4 : Int32)) = (2 : Int32) then
    some (2 : Int32)
  else
  some (3 : Int32)
set_option maxHeartbeats 4000000 in
set_option maxRecDepth 100000 in
theorem c_Mo_passNumber {l : Launch} {g : xG} {S : List xO} {G : xL} {p0 : Int32} {F : xF} {r : Int32} (h : f_Mo_passNumber S p0 F = some r) : CT l g 0 0 0 0 y_Mo_passNumber b_Mo_passNumber 1 (some .int) 1 [.int p0] S F G (some (.int r)) S F G := by
  refine CT.of [some (.int p0)] (by decide) (Nat.le_of_ble_eq_true rfl) rfl ?_
  intro p e s m args below meth c C hr hmn hz
  unfold f_Mo_passNumber at h
  refine V.iload_n C 0 rfl rfl d_Mo_passNumber_0 ?_
  refine V.bipush C 8 (by decide) d_Mo_passNumber_1 ?_
  have c1 : ¬ (8 : Int32) = (0 : Int32) := fun q => by rw [if_pos q] at h; cases h
  rw [if_neg c1] at h
  refine V.irem C c1 d_Mo_passNumber_3 ?_
  refine V.if_ne C 11 (by decide) d_Mo_passNumber_4 (fun c2 => ?_) (fun c2 => ?_)
  · rw [if_neg c2] at h
    refine V.iload_n C 0 rfl rfl d_Mo_passNumber_11 ?_
    refine V.bipush C 8 (by decide) d_Mo_passNumber_12 ?_
    have c3 : ¬ (8 : Int32) = (0 : Int32) := fun q => by rw [if_pos q] at h; cases h
    rw [if_neg c3] at h
    refine V.irem C c3 d_Mo_passNumber_14 ?_
    refine V.iconst C 4 (by decide) d_Mo_passNumber_15 ?_
    refine V.icmp_ne C 23 (by decide) d_Mo_passNumber_16 (fun c4 => ?_) (fun c4 => ?_)
    · rw [if_neg c4] at h
      refine V.iload_n C 0 rfl rfl d_Mo_passNumber_23 ?_
      refine V.iconst C 4 (by decide) d_Mo_passNumber_24 ?_
      have c5 : ¬ (4 : Int32) = (0 : Int32) := fun q => by rw [if_pos q] at h; cases h
      rw [if_neg c5] at h
      refine V.irem C c5 d_Mo_passNumber_25 ?_
      refine V.iconst C 2 (by decide) d_Mo_passNumber_26 ?_
      refine V.icmp_ne C 34 (by decide) d_Mo_passNumber_27 (fun c6 => ?_) (fun c6 => ?_)
      · rw [if_neg c6] at h
        refine V.iconst C 3 (by decide) d_Mo_passNumber_34 ?_
        obtain rfl := Option.some.inj h
        exact V.iret C hr d_Mo_passNumber_35 rfl rfl rfl rfl
      · rw [if_pos c6] at h
        refine V.iconst C 2 (by decide) d_Mo_passNumber_30 ?_
        refine V.goto C 35 (by decide) d_Mo_passNumber_31 ?_
        obtain rfl := Option.some.inj h
        exact V.iret C hr d_Mo_passNumber_35 rfl rfl rfl rfl
    · rw [if_pos c4] at h
      refine V.iconst C 1 (by decide) d_Mo_passNumber_19 ?_
      refine V.goto C 35 (by decide) d_Mo_passNumber_20 ?_
      obtain rfl := Option.some.inj h
      exact V.iret C hr d_Mo_passNumber_35 rfl rfl rfl rfl
  · rw [if_pos c2] at h
    refine V.iconst C 0 (by decide) d_Mo_passNumber_7 ?_
    refine V.goto C 35 (by decide) d_Mo_passNumber_8 ?_
    obtain rfl := Option.some.inj h
    exact V.iret C hr d_Mo_passNumber_35 rfl rfl rfl rfl
def t_Mo_frame (S : List xO) (N : Nat) (a : Nat) (p0 : Int32) (p1 : Int32) (p2 : Int32) (p3 : Int32) (p4 : Int32) (p5 : Int32) (p6 : Int32) : Nat → Nat → Int32 → Int32 → Int32 → Int32 → Int32 → Int32 → xF → Option (Int32 × xF)
  | 0, _, _, _, _, _, _, _, _ => none
  | n + 1, tg, u8, u9, u10, u11, u12, u13, F =>
    if tg = 0 then
      t_Mo_frame S N a p0 p1 p2 p3 p4 p5 p6 n 1 (0 : Int32) 0 0 0 0 0 F
    else
    if tg = 1 then
      if u8 = (0 : Int32) then
        t_Mo_frame S N a p0 p1 p2 p3 p4 p5 p6 n 2 u8 0 0 0 0 0 F
      else
      if p5 < (0 : Int32) then
        t_Mo_frame S N a p0 p1 p2 p3 p4 p5 p6 n 2 u8 0 0 0 0 0 F
      else
      if (3 : Int32) < p5 then
        t_Mo_frame S N a p0 p1 p2 p3 p4 p5 p6 n 2 u8 0 0 0 0 0 F
      else
      if p6 < (0 : Int32) then
        t_Mo_frame S N a p0 p1 p2 p3 p4 p5 p6 n 2 u8 0 0 0 0 0 F
      else
      if (1000 : Int32) < p6 then
        t_Mo_frame S N a p0 p1 p2 p3 p4 p5 p6 n 2 u8 0 0 0 0 0 F
      else
      t_Mo_frame S N a p0 p1 p2 p3 p4 p5 p6 n 3 (1 : Int32) 0 0 0 0 0 F
    else
    if tg = 2 then
      t_Mo_frame S N a p0 p1 p2 p3 p4 p5 p6 n 3 (0 : Int32) 0 0 0 0 0 F
    else
    if tg = 3 then
      if u8 = (0 : Int32) then
        (pI S 9 a 3 (1 : Int32) F).bind fun F27 =>
        t_Mo_frame S N a p0 p1 p2 p3 p4 p5 p6 n 4 u8 0 0 0 0 0 F27
      else
      (gI S 9 a 5 F).bind fun v15 =>
      if (p2 * p3) ≤ v15 then
        (gI S 9 a 23 F).bind fun v18 =>
        if v18 = (12 : Int32) then
          (pI S 9 a 3 (3 : Int32) F).bind fun F23 =>
          t_Mo_frame S N a p0 p1 p2 p3 p4 p5 p6 n 4 u8 0 0 0 0 0 F23
        else
        (pI S 9 a 3 (0 : Int32) F).bind fun F21 =>
        t_Mo_frame S N a p0 p1 p2 p3 p4 p5 p6 n 4 u8 0 0 0 0 0 F21
      else
      (pI S 9 a 3 (2 : Int32) F).bind fun F25 =>
      t_Mo_frame S N a p0 p1 p2 p3 p4 p5 p6 n 4 u8 0 0 0 0 0 F25
    else
    if tg = 4 then
      (gI S 9 a 3 F).bind fun v29 =>
      if v29 ≤ (0 : Int32) then
        (gI S 9 a 23 F).bind fun v32 =>
        (gR S 9 a 24).bind fun q34 =>
        (aP S q34 v32 p0 F).bind fun F36 =>
        (gR S 9 a 25).bind fun q38 =>
        (aP S q38 v32 p1 F36).bind fun F40 =>
        (gR S 9 a 26).bind fun q42 =>
        (aP S q42 v32 p2 F40).bind fun F44 =>
        (gR S 9 a 27).bind fun q46 =>
        (aP S q46 v32 p3 F44).bind fun F48 =>
        (gR S 9 a 28).bind fun q50 =>
        (aP S q50 v32 p5 F48).bind fun F52 =>
        (gR S 9 a 29).bind fun q54 =>
        (aP S q54 v32 p6 F52).bind fun F56 =>
        (gR S 9 a 30).bind fun q58 =>
        (aP S q58 v32 (-1 : Int32) F56).bind fun F60 =>
        t_Mo_frame S N a p0 p1 p2 p3 p4 p5 p6 n 5 u8 v32 (0 : Int32) 0 0 0 F60
      else
      some ((0 : Int32), F)
    else
    if tg = 5 then
      if (256 : Int32) ≤ u10 then
        t_Mo_frame S N a p0 p1 p2 p3 p4 p5 p6 n 6 u8 u9 (0 : Int32) (0 : Int32) 0 0 F
      else
      (gR S 9 a 32).bind fun q63 =>
      (aP S q63 (((256 : Int32) * u9) + u10) (-1 : Int32) F).bind fun F65 =>
      t_Mo_frame S N a p0 p1 p2 p3 p4 p5 p6 n 5 u8 u9 (u10 + (1 : Int32)) 0 0 0 F65
    else
    if tg = 6 then
      if (4 : Int32) ≤ u11 then
        (gI S 9 a 5 F).bind fun v68 =>
        (pI S 9 a 5 (v68 - u10) F).bind fun F70 =>
        t_Mo_frame S N a p0 p1 p2 p3 p4 p5 p6 n 11 u8 u9 u10 (0 : Int32) 0 0 F70
      else
      t_Mo_frame S N a p0 p1 p2 p3 p4 p5 p6 n 7 u8 u9 u10 u11 (0 : Int32) 0 F
    else
    if tg = 7 then
      if p3 ≤ u12 then
        t_Mo_frame S N a p0 p1 p2 p3 p4 p5 p6 n 6 u8 u9 u10 (u11 + (1 : Int32)) 0 0 F
      else
      if p4 = (0 : Int32) then
        if u11 = (0 : Int32) then
          t_Mo_frame S N a p0 p1 p2 p3 p4 p5 p6 n 8 u8 u9 u10 u11 u12 0 F
        else
        t_Mo_frame S N a p0 p1 p2 p3 p4 p5 p6 n 10 u8 u9 u10 u11 u12 0 F
      else
      (f_Mo_passNumber S u12 F).bind fun v88 =>
      if v88 = u11 then
        t_Mo_frame S N a p0 p1 p2 p3 p4 p5 p6 n 8 u8 u9 u10 u11 u12 0 F
      else
      t_Mo_frame S N a p0 p1 p2 p3 p4 p5 p6 n 10 u8 u9 u10 u11 u12 0 F
    else
    if tg = 8 then
      t_Mo_frame S N a p0 p1 p2 p3 p4 p5 p6 n 9 u8 u9 u10 u11 u12 (0 : Int32) F
    else
    if tg = 9 then
      if p2 ≤ u13 then
        t_Mo_frame S N a p0 p1 p2 p3 p4 p5 p6 n 10 u8 u9 u10 u11 u12 0 F
      else
      (gR S 9 a 31).bind fun q92 =>
      (gR S 9 a 6).bind fun q94 =>
      (aG S q94 u10 F).bind fun v96 =>
      (aP S q92 ((((576 : Int32) * u9) + ((24 : Int32) * u12)) + u13) v96 F).bind fun F98 =>
      t_Mo_frame S N a p0 p1 p2 p3 p4 p5 p6 n 9 u8 u9 (u10 + (1 : Int32)) u11 u12 (u13 + (1 : Int32)) F98
    else
    if tg = 10 then
      t_Mo_frame S N a p0 p1 p2 p3 p4 p5 p6 n 7 u8 u9 u10 u11 (u12 + (1 : Int32)) 0 F
    else
    (gI S 9 a 5 F).bind fun v72 =>
    if v72 ≤ u11 then
      (gI S 9 a 23 F).bind fun v75 =>
      (pI S 9 a 23 (v75 + (1 : Int32)) F).bind fun F77 =>
      some (u9, F77)
    else
    (gR S 9 a 6).bind fun q79 =>
    (aG S q79 (u11 + u10) F).bind fun v81 =>
    (aP S q79 u11 v81 F).bind fun F83 =>
    t_Mo_frame S N a p0 p1 p2 p3 p4 p5 p6 n 11 u8 u9 u10 (u11 + (1 : Int32)) 0 0 F83
set_option maxHeartbeats 4000000 in
set_option maxRecDepth 100000 in
theorem l_Mo_frame {p : Program} {l : Launch} {e : Env} {s : State} {m : MethodId} {args : Array Value} {below : List Frame} {meth : Method} {c : Code} {g : xG} {S : List xO} {G : xL} {a : Nat} {p0 : Int32} {p1 : Int32} {p2 : Int32} {p3 : Int32} {p4 : Int32} {p5 : Int32} {p6 : Int32} {N : Nat} (C : Cx p s m args meth c b_Mo_frame 14 "PaletteFramesModel" g) (hr : meth.sig.returnType = (some .int)) : ∀ (n : Nat), (∀ (F : xF) (r : Int32) (F2 : xF), t_Mo_frame S N a p0 p1 p2 p3 p4 p5 p6 n 0 0 0 0 0 0 0 F = some (r, F2) → V p l e (xRm 1 20 0 0) s m args below meth c (xMQ g below args s 0 0 S F2 G (some (.int r))) 14 g S F G 0 0 53 [some (.ref a), some (.int p0), some (.int p1), some (.int p2), some (.int p3), some (.int p4), some (.int p5), some (.int p6), none, none, none, none, none, none] []) ∧ (∀ (u8 : Int32) (F : xF) (r : Int32) (F2 : xF), t_Mo_frame S N a p0 p1 p2 p3 p4 p5 p6 n 1 u8 0 0 0 0 0 F = some (r, F2) → V p l e (xRm 1 20 0 0) s m args below meth c (xMQ g below args s 0 0 S F2 G (some (.int r))) 14 g S F G 0 0 56 [some (.ref a), some (.int p0), some (.int p1), some (.int p2), some (.int p3), some (.int p4), some (.int p5), some (.int p6), some (.int u8), none, none, none, none, none] []) ∧ (∀ (u8 : Int32) (F : xF) (r : Int32) (F2 : xF), t_Mo_frame S N a p0 p1 p2 p3 p4 p5 p6 n 2 u8 0 0 0 0 0 F = some (r, F2) → V p l e (xRm 1 20 0 0) s m args below meth c (xMQ g below args s 0 0 S F2 G (some (.int r))) 14 g S F G 0 0 89 [some (.ref a), some (.int p0), some (.int p1), some (.int p2), some (.int p3), some (.int p4), some (.int p5), some (.int p6), some (.int u8), none, none, none, none, none] []) ∧ (∀ (u8 : Int32) (F : xF) (r : Int32) (F2 : xF), t_Mo_frame S N a p0 p1 p2 p3 p4 p5 p6 n 3 u8 0 0 0 0 0 F = some (r, F2) → V p l e (xRm 1 20 0 0) s m args below meth c (xMQ g below args s 0 0 S F2 G (some (.int r))) 14 g S F G 0 0 92 [some (.ref a), some (.int p0), some (.int p1), some (.int p2), some (.int p3), some (.int p4), some (.int p5), some (.int p6), some (.int u8), none, none, none, none, none] []) ∧ (∀ (u8 : Int32) (F : xF) (r : Int32) (F2 : xF), t_Mo_frame S N a p0 p1 p2 p3 p4 p5 p6 n 4 u8 0 0 0 0 0 F = some (r, F2) → V p l e (xRm 1 20 0 0) s m args below meth c (xMQ g below args s 0 0 S F2 G (some (.int r))) 14 g S F G 0 0 134 [some (.ref a), some (.int p0), some (.int p1), some (.int p2), some (.int p3), some (.int p4), some (.int p5), some (.int p6), some (.int u8), none, none, none, none, none] []) ∧ (∀ (u8 : Int32) (u9 : Int32) (u10 : Int32) (F : xF) (r : Int32) (F2 : xF), t_Mo_frame S N a p0 p1 p2 p3 p4 p5 p6 n 5 u8 u9 u10 0 0 0 F = some (r, F2) → V p l e (xRm 1 20 0 0) s m args below meth c (xMQ g below args s 0 0 S F2 G (some (.int r))) 14 g S F G 0 0 211 [some (.ref a), some (.int p0), some (.int p1), some (.int p2), some (.int p3), some (.int p4), some (.int p5), some (.int p6), some (.int u8), some (.int u9), some (.int u10), none, none, none] []) ∧ (∀ (u8 : Int32) (u9 : Int32) (u10 : Int32) (u11 : Int32) (F : xF) (r : Int32) (F2 : xF), t_Mo_frame S N a p0 p1 p2 p3 p4 p5 p6 n 6 u8 u9 u10 u11 0 0 F = some (r, F2) → V p l e (xRm 1 20 0 0) s m args below meth c (xMQ g below args s 0 0 S F2 G (some (.int r))) 14 g S F G 0 0 246 [some (.ref a), some (.int p0), some (.int p1), some (.int p2), some (.int p3), some (.int p4), some (.int p5), some (.int p6), some (.int u8), some (.int u9), some (.int u10), some (.int u11), none, none] []) ∧ (∀ (u8 : Int32) (u9 : Int32) (u10 : Int32) (u11 : Int32) (u12 : Int32) (F : xF) (r : Int32) (F2 : xF), t_Mo_frame S N a p0 p1 p2 p3 p4 p5 p6 n 7 u8 u9 u10 u11 u12 0 F = some (r, F2) → V p l e (xRm 1 20 0 0) s m args below meth c (xMQ g below args s 0 0 S F2 G (some (.int r))) 14 g S F G 0 0 255 [some (.ref a), some (.int p0), some (.int p1), some (.int p2), some (.int p3), some (.int p4), some (.int p5), some (.int p6), some (.int u8), some (.int u9), some (.int u10), some (.int u11), some (.int u12), none] []) ∧ (∀ (u8 : Int32) (u9 : Int32) (u10 : Int32) (u11 : Int32) (u12 : Int32) (F : xF) (r : Int32) (F2 : xF), t_Mo_frame S N a p0 p1 p2 p3 p4 p5 p6 n 8 u8 u9 u10 u11 u12 0 F = some (r, F2) → V p l e (xRm 1 20 0 0) s m args below meth c (xMQ g below args s 0 0 S F2 G (some (.int r))) 14 g S F G 0 0 285 [some (.ref a), some (.int p0), some (.int p1), some (.int p2), some (.int p3), some (.int p4), some (.int p5), some (.int p6), some (.int u8), some (.int u9), some (.int u10), some (.int u11), some (.int u12), none] []) ∧ (∀ (u8 : Int32) (u9 : Int32) (u10 : Int32) (u11 : Int32) (u12 : Int32) (u13 : Int32) (F : xF) (r : Int32) (F2 : xF), t_Mo_frame S N a p0 p1 p2 p3 p4 p5 p6 n 9 u8 u9 u10 u11 u12 u13 F = some (r, F2) → V p l e (xRm 1 20 0 0) s m args below meth c (xMQ g below args s 0 0 S F2 G (some (.int r))) 14 g S F G 0 0 288 [some (.ref a), some (.int p0), some (.int p1), some (.int p2), some (.int p3), some (.int p4), some (.int p5), some (.int p6), some (.int u8), some (.int u9), some (.int u10), some (.int u11), some (.int u12), some (.int u13)] []) ∧ (∀ (u8 : Int32) (u9 : Int32) (u10 : Int32) (u11 : Int32) (u12 : Int32) (F : xF) (r : Int32) (F2 : xF), t_Mo_frame S N a p0 p1 p2 p3 p4 p5 p6 n 10 u8 u9 u10 u11 u12 0 F = some (r, F2) → V p l e (xRm 1 20 0 0) s m args below meth c (xMQ g below args s 0 0 S F2 G (some (.int r))) 14 g S F G 0 0 330 [some (.ref a), some (.int p0), some (.int p1), some (.int p2), some (.int p3), some (.int p4), some (.int p5), some (.int p6), some (.int u8), some (.int u9), some (.int u10), some (.int u11), some (.int u12), none] []) ∧ (∀ (u8 : Int32) (u9 : Int32) (u10 : Int32) (u11 : Int32) (F : xF) (r : Int32) (F2 : xF), t_Mo_frame S N a p0 p1 p2 p3 p4 p5 p6 n 11 u8 u9 u10 u11 0 0 F = some (r, F2) → V p l e (xRm 1 20 0 0) s m args below meth c (xMQ g below args s 0 0 S F2 G (some (.int r))) 14 g S F G 0 0 356 [some (.ref a), some (.int p0), some (.int p1), some (.int p2), some (.int p3), some (.int p4), some (.int p5), some (.int p6), some (.int u8), some (.int u9), some (.int u10), some (.int u11), none, none] []) := by
  intro n
  induction n with
  | zero =>
    refine ⟨?_, ?_⟩
    · intro F r F2 h
      cases h
    refine ⟨?_, ?_⟩
    · intro u8 F r F2 h
      cases h
    refine ⟨?_, ?_⟩
    · intro u8 F r F2 h
      cases h
    refine ⟨?_, ?_⟩
    · intro u8 F r F2 h
      cases h
    refine ⟨?_, ?_⟩
    · intro u8 F r F2 h
      cases h
    refine ⟨?_, ?_⟩
    · intro u8 u9 u10 F r F2 h
      cases h
    refine ⟨?_, ?_⟩
    · intro u8 u9 u10 u11 F r F2 h
      cases h
    refine ⟨?_, ?_⟩
    · intro u8 u9 u10 u11 u12 F r F2 h
      cases h
    refine ⟨?_, ?_⟩
    · intro u8 u9 u10 u11 u12 F r F2 h
      cases h
    refine ⟨?_, ?_⟩
    · intro u8 u9 u10 u11 u12 u13 F r F2 h
      cases h
    refine ⟨?_, ?_⟩
    · intro u8 u9 u10 u11 u12 F r F2 h
      cases h
    · intro u8 u9 u10 u11 F r F2 h
      cases h
  | succ n ih =>
    refine ⟨?_, ?_⟩
    · intro F r F2 h
      rw [t_Mo_frame] at h
      rw [if_pos rfl] at h
      refine V.iconst C 0 (by decide) d_Mo_frame_53 ?_
      refine V.is8 C (by decide) rfl d_Mo_frame_54 ?_
      exact V.weak (xsub_spec (by simp [xsub])) (ih.2.1 (0 : Int32) F _ _ h)
    refine ⟨?_, ?_⟩
    · intro u8 F r F2 h
      rw [t_Mo_frame] at h
      rw [if_neg (by decide)] at h
      rw [if_pos rfl] at h
      refine V.iload C rfl d_Mo_frame_56 ?_
      refine V.if_eq C 89 (by decide) d_Mo_frame_58 (fun c9 => ?_) (fun c9 => ?_)
      · rw [if_pos c9] at h
        exact V.weak (xsub_spec (by simp [xsub])) (ih.2.2.1 u8 F _ _ h)
      · rw [if_neg c9] at h
        refine V.iload C rfl d_Mo_frame_61 ?_
        refine V.if_lt C 89 (by decide) d_Mo_frame_63 (fun c10 => ?_) (fun c10 => ?_)
        · rw [if_pos c10] at h
          exact V.weak (xsub_spec (by simp [xsub])) (ih.2.2.1 u8 F _ _ h)
        · rw [if_neg c10] at h
          refine V.iload C rfl d_Mo_frame_66 ?_
          refine V.iconst C 3 (by decide) d_Mo_frame_68 ?_
          refine V.icmp_gt C 89 (by decide) d_Mo_frame_69 (fun c11 => ?_) (fun c11 => ?_)
          · rw [if_pos c11] at h
            exact V.weak (xsub_spec (by simp [xsub])) (ih.2.2.1 u8 F _ _ h)
          · rw [if_neg c11] at h
            refine V.iload C rfl d_Mo_frame_72 ?_
            refine V.if_lt C 89 (by decide) d_Mo_frame_74 (fun c12 => ?_) (fun c12 => ?_)
            · rw [if_pos c12] at h
              exact V.weak (xsub_spec (by simp [xsub])) (ih.2.2.1 u8 F _ _ h)
            · rw [if_neg c12] at h
              refine V.iload C rfl d_Mo_frame_77 ?_
              refine V.sipush C 1000 (by decide) d_Mo_frame_79 ?_
              refine V.icmp_gt C 89 (by decide) d_Mo_frame_82 (fun c13 => ?_) (fun c13 => ?_)
              · rw [if_pos c13] at h
                exact V.weak (xsub_spec (by simp [xsub])) (ih.2.2.1 u8 F _ _ h)
              · rw [if_neg c13] at h
                refine V.iconst C 1 (by decide) d_Mo_frame_85 ?_
                refine V.goto C 90 (by decide) d_Mo_frame_86 ?_
                refine V.is8 C (by decide) rfl d_Mo_frame_90 ?_
                exact V.weak (xsub_spec (by simp [xsub])) (ih.2.2.2.1 (1 : Int32) F _ _ h)
    refine ⟨?_, ?_⟩
    · intro u8 F r F2 h
      rw [t_Mo_frame] at h
      rw [if_neg (by decide)] at h
      rw [if_neg (by decide)] at h
      rw [if_pos rfl] at h
      refine V.iconst C 0 (by decide) d_Mo_frame_89 ?_
      refine V.is8 C (by decide) rfl d_Mo_frame_90 ?_
      exact V.weak (xsub_spec (by simp [xsub])) (ih.2.2.2.1 (0 : Int32) F _ _ h)
    refine ⟨?_, ?_⟩
    · intro u8 F r F2 h
      rw [t_Mo_frame] at h
      rw [if_neg (by decide)] at h
      rw [if_neg (by decide)] at h
      rw [if_neg (by decide)] at h
      rw [if_pos rfl] at h
      refine V.aload_n C 0 rfl rfl d_Mo_frame_92 ?_
      refine V.iload C rfl d_Mo_frame_93 ?_
      refine V.if_ne C 102 (by decide) d_Mo_frame_95 (fun c14 => ?_) (fun c14 => ?_)
      · rw [if_neg c14] at h
        refine V.aload_n C 0 rfl rfl d_Mo_frame_102 ?_
        obtain ⟨v15, e16, h⟩ := Option.bind_eq_some_iff.mp h
        refine V.xgetI C fl_Mo_98 e16 d_Mo_frame_103 ?_
        refine V.iload_n C 3 rfl rfl d_Mo_frame_106 ?_
        refine V.iload C rfl d_Mo_frame_107 ?_
        refine V.imul C d_Mo_frame_109 ?_
        refine V.icmp_ge C 117 (by decide) d_Mo_frame_110 (fun c17 => ?_) (fun c17 => ?_)
        · rw [if_pos c17] at h
          refine V.aload_n C 0 rfl rfl d_Mo_frame_117 ?_
          obtain ⟨v18, e19, h⟩ := Option.bind_eq_some_iff.mp h
          refine V.xgetI C fl_Mo_110 e19 d_Mo_frame_118 ?_
          refine V.bipush C 12 (by decide) d_Mo_frame_121 ?_
          refine V.icmp_ne C 130 (by decide) d_Mo_frame_123 (fun c20 => ?_) (fun c20 => ?_)
          · rw [if_neg c20] at h
            refine V.iconst C 0 (by decide) d_Mo_frame_130 ?_
            obtain ⟨F21, e22, h⟩ := Option.bind_eq_some_iff.mp h
            refine V.xputI C fl_Mo_92 ft_9 fi_9_3 e22 d_Mo_frame_131 ?_
            exact V.weak (xsub_spec (by simp [xsub])) (ih.2.2.2.2.1 u8 F21 _ _ h)
          · rw [if_pos c20] at h
            refine V.iconst C 3 (by decide) d_Mo_frame_126 ?_
            refine V.goto C 131 (by decide) d_Mo_frame_127 ?_
            obtain ⟨F23, e24, h⟩ := Option.bind_eq_some_iff.mp h
            refine V.xputI C fl_Mo_92 ft_9 fi_9_3 e24 d_Mo_frame_131 ?_
            exact V.weak (xsub_spec (by simp [xsub])) (ih.2.2.2.2.1 u8 F23 _ _ h)
        · rw [if_neg c17] at h
          refine V.iconst C 2 (by decide) d_Mo_frame_113 ?_
          refine V.goto C 131 (by decide) d_Mo_frame_114 ?_
          obtain ⟨F25, e26, h⟩ := Option.bind_eq_some_iff.mp h
          refine V.xputI C fl_Mo_92 ft_9 fi_9_3 e26 d_Mo_frame_131 ?_
          exact V.weak (xsub_spec (by simp [xsub])) (ih.2.2.2.2.1 u8 F25 _ _ h)
      · rw [if_pos c14] at h
        refine V.iconst C 1 (by decide) d_Mo_frame_98 ?_
        refine V.goto C 131 (by decide) d_Mo_frame_99 ?_
        obtain ⟨F27, e28, h⟩ := Option.bind_eq_some_iff.mp h
        refine V.xputI C fl_Mo_92 ft_9 fi_9_3 e28 d_Mo_frame_131 ?_
        exact V.weak (xsub_spec (by simp [xsub])) (ih.2.2.2.2.1 u8 F27 _ _ h)
    refine ⟨?_, ?_⟩
    · intro u8 F r F2 h
      rw [t_Mo_frame] at h
      rw [if_neg (by decide)] at h
      rw [if_neg (by decide)] at h
      rw [if_neg (by decide)] at h
      rw [if_neg (by decide)] at h
      rw [if_pos rfl] at h
      refine V.aload_n C 0 rfl rfl d_Mo_frame_134 ?_
      obtain ⟨v29, e30, h⟩ := Option.bind_eq_some_iff.mp h
      refine V.xgetI C fl_Mo_92 e30 d_Mo_frame_135 ?_
      refine V.if_le C 143 (by decide) d_Mo_frame_138 (fun c31 => ?_) (fun c31 => ?_)
      · rw [if_pos c31] at h
        refine V.aload_n C 0 rfl rfl d_Mo_frame_143 ?_
        obtain ⟨v32, e33, h⟩ := Option.bind_eq_some_iff.mp h
        refine V.xgetI C fl_Mo_110 e33 d_Mo_frame_144 ?_
        refine V.is9 C (by decide) rfl d_Mo_frame_147 ?_
        refine V.aload_n C 0 rfl rfl d_Mo_frame_149 ?_
        obtain ⟨q34, e35, h⟩ := Option.bind_eq_some_iff.mp h
        refine V.xgetR C fl_Mo_41 e35 d_Mo_frame_150 ?_
        refine V.iload C rfl d_Mo_frame_153 ?_
        refine V.iload_n C 1 rfl rfl d_Mo_frame_155 ?_
        obtain ⟨F36, e37, h⟩ := Option.bind_eq_some_iff.mp h
        refine V.xiast C e37 d_Mo_frame_156 ?_
        refine V.aload_n C 0 rfl rfl d_Mo_frame_157 ?_
        obtain ⟨q38, e39, h⟩ := Option.bind_eq_some_iff.mp h
        refine V.xgetR C fl_Mo_44 e39 d_Mo_frame_158 ?_
        refine V.iload C rfl d_Mo_frame_161 ?_
        refine V.iload_n C 2 rfl rfl d_Mo_frame_163 ?_
        obtain ⟨F40, e41, h⟩ := Option.bind_eq_some_iff.mp h
        refine V.xiast C e41 d_Mo_frame_164 ?_
        refine V.aload_n C 0 rfl rfl d_Mo_frame_165 ?_
        obtain ⟨q42, e43, h⟩ := Option.bind_eq_some_iff.mp h
        refine V.xgetR C fl_Mo_47 e43 d_Mo_frame_166 ?_
        refine V.iload C rfl d_Mo_frame_169 ?_
        refine V.iload_n C 3 rfl rfl d_Mo_frame_171 ?_
        obtain ⟨F44, e45, h⟩ := Option.bind_eq_some_iff.mp h
        refine V.xiast C e45 d_Mo_frame_172 ?_
        refine V.aload_n C 0 rfl rfl d_Mo_frame_173 ?_
        obtain ⟨q46, e47, h⟩ := Option.bind_eq_some_iff.mp h
        refine V.xgetR C fl_Mo_50 e47 d_Mo_frame_174 ?_
        refine V.iload C rfl d_Mo_frame_177 ?_
        refine V.iload C rfl d_Mo_frame_179 ?_
        obtain ⟨F48, e49, h⟩ := Option.bind_eq_some_iff.mp h
        refine V.xiast C e49 d_Mo_frame_181 ?_
        refine V.aload_n C 0 rfl rfl d_Mo_frame_182 ?_
        obtain ⟨q50, e51, h⟩ := Option.bind_eq_some_iff.mp h
        refine V.xgetR C fl_Mo_53 e51 d_Mo_frame_183 ?_
        refine V.iload C rfl d_Mo_frame_186 ?_
        refine V.iload C rfl d_Mo_frame_188 ?_
        obtain ⟨F52, e53, h⟩ := Option.bind_eq_some_iff.mp h
        refine V.xiast C e53 d_Mo_frame_190 ?_
        refine V.aload_n C 0 rfl rfl d_Mo_frame_191 ?_
        obtain ⟨q54, e55, h⟩ := Option.bind_eq_some_iff.mp h
        refine V.xgetR C fl_Mo_56 e55 d_Mo_frame_192 ?_
        refine V.iload C rfl d_Mo_frame_195 ?_
        refine V.iload C rfl d_Mo_frame_197 ?_
        obtain ⟨F56, e57, h⟩ := Option.bind_eq_some_iff.mp h
        refine V.xiast C e57 d_Mo_frame_199 ?_
        refine V.aload_n C 0 rfl rfl d_Mo_frame_200 ?_
        obtain ⟨q58, e59, h⟩ := Option.bind_eq_some_iff.mp h
        refine V.xgetR C fl_Mo_59 e59 d_Mo_frame_201 ?_
        refine V.iload C rfl d_Mo_frame_204 ?_
        refine V.iconst C (-1) (by decide) d_Mo_frame_206 ?_
        obtain ⟨F60, e61, h⟩ := Option.bind_eq_some_iff.mp h
        refine V.xiast C e61 d_Mo_frame_207 ?_
        refine V.iconst C 0 (by decide) d_Mo_frame_208 ?_
        refine V.is10 C (by decide) rfl d_Mo_frame_209 ?_
        exact V.weak (xsub_spec (by simp [xsub])) (ih.2.2.2.2.2.1 u8 v32 (0 : Int32) F60 _ _ h)
      · rw [if_neg c31] at h
        refine V.iconst C 0 (by decide) d_Mo_frame_141 ?_
        obtain ⟨rfl, rfl⟩ := Prod.mk.inj (Option.some.inj h)
        exact V.iret C hr d_Mo_frame_142 rfl rfl rfl rfl
    refine ⟨?_, ?_⟩
    · intro u8 u9 u10 F r F2 h
      rw [t_Mo_frame] at h
      rw [if_neg (by decide)] at h
      rw [if_neg (by decide)] at h
      rw [if_neg (by decide)] at h
      rw [if_neg (by decide)] at h
      rw [if_neg (by decide)] at h
      rw [if_pos rfl] at h
      refine V.iload C rfl d_Mo_frame_211 ?_
      refine V.sipush C 256 (by decide) d_Mo_frame_213 ?_
      refine V.icmp_ge C 240 (by decide) d_Mo_frame_216 (fun c62 => ?_) (fun c62 => ?_)
      · rw [if_pos c62] at h
        refine V.iconst C 0 (by decide) d_Mo_frame_240 ?_
        refine V.is10 C (by decide) rfl d_Mo_frame_241 ?_
        refine V.iconst C 0 (by decide) d_Mo_frame_243 ?_
        refine V.is11 C (by decide) rfl d_Mo_frame_244 ?_
        exact V.weak (xsub_spec (by simp [xsub])) (ih.2.2.2.2.2.2.1 u8 u9 (0 : Int32) (0 : Int32) F _ _ h)
      · rw [if_neg c62] at h
        refine V.aload_n C 0 rfl rfl d_Mo_frame_219 ?_
        obtain ⟨q63, e64, h⟩ := Option.bind_eq_some_iff.mp h
        refine V.xgetR C fl_Mo_65 e64 d_Mo_frame_220 ?_
        refine V.sipush C 256 (by decide) d_Mo_frame_223 ?_
        refine V.iload C rfl d_Mo_frame_226 ?_
        refine V.imul C d_Mo_frame_228 ?_
        refine V.iload C rfl d_Mo_frame_229 ?_
        refine V.iadd C d_Mo_frame_231 ?_
        refine V.iconst C (-1) (by decide) d_Mo_frame_232 ?_
        obtain ⟨F65, e66, h⟩ := Option.bind_eq_some_iff.mp h
        refine V.xiast C e66 d_Mo_frame_233 ?_
        refine V.inc10 C 1 (by decide) (by decide) rfl d_Mo_frame_234 ?_
        refine V.goto C 211 (by decide) d_Mo_frame_237 ?_
        exact V.weak (xsub_spec (by simp [xsub])) (ih.2.2.2.2.2.1 u8 u9 (u10 + (1 : Int32)) F65 _ _ h)
    refine ⟨?_, ?_⟩
    · intro u8 u9 u10 u11 F r F2 h
      rw [t_Mo_frame] at h
      rw [if_neg (by decide)] at h
      rw [if_neg (by decide)] at h
      rw [if_neg (by decide)] at h
      rw [if_neg (by decide)] at h
      rw [if_neg (by decide)] at h
      rw [if_neg (by decide)] at h
      rw [if_pos rfl] at h
      refine V.iload C rfl d_Mo_frame_246 ?_
      refine V.iconst C 4 (by decide) d_Mo_frame_248 ?_
      refine V.icmp_ge C 342 (by decide) d_Mo_frame_249 (fun c67 => ?_) (fun c67 => ?_)
      · rw [if_pos c67] at h
        refine V.aload_n C 0 rfl rfl d_Mo_frame_342 ?_
        refine V.dup C rfl d_Mo_frame_343 ?_
        obtain ⟨v68, e69, h⟩ := Option.bind_eq_some_iff.mp h
        refine V.xgetI C fl_Mo_98 e69 d_Mo_frame_344 ?_
        refine V.iload C rfl d_Mo_frame_347 ?_
        refine V.isub C d_Mo_frame_349 ?_
        obtain ⟨F70, e71, h⟩ := Option.bind_eq_some_iff.mp h
        refine V.xputI C fl_Mo_98 ft_9 fi_9_5 e71 d_Mo_frame_350 ?_
        refine V.iconst C 0 (by decide) d_Mo_frame_353 ?_
        refine V.is11 C (by decide) rfl d_Mo_frame_354 ?_
        exact V.weak (xsub_spec (by simp [xsub])) (ih.2.2.2.2.2.2.2.2.2.2.2 u8 u9 u10 (0 : Int32) F70 _ _ h)
      · rw [if_neg c67] at h
        refine V.iconst C 0 (by decide) d_Mo_frame_252 ?_
        refine V.is12 C (by decide) rfl d_Mo_frame_253 ?_
        exact V.weak (xsub_spec (by simp [xsub])) (ih.2.2.2.2.2.2.2.1 u8 u9 u10 u11 (0 : Int32) F _ _ h)
    refine ⟨?_, ?_⟩
    · intro u8 u9 u10 u11 u12 F r F2 h
      rw [t_Mo_frame] at h
      rw [if_neg (by decide)] at h
      rw [if_neg (by decide)] at h
      rw [if_neg (by decide)] at h
      rw [if_neg (by decide)] at h
      rw [if_neg (by decide)] at h
      rw [if_neg (by decide)] at h
      rw [if_neg (by decide)] at h
      rw [if_pos rfl] at h
      refine V.iload C rfl d_Mo_frame_255 ?_
      refine V.iload C rfl d_Mo_frame_257 ?_
      refine V.icmp_ge C 336 (by decide) d_Mo_frame_259 (fun c85 => ?_) (fun c85 => ?_)
      · rw [if_pos c85] at h
        refine V.inc11 C 1 (by decide) (by decide) rfl d_Mo_frame_336 ?_
        refine V.goto C 246 (by decide) d_Mo_frame_339 ?_
        exact V.weak (xsub_spec (by simp [xsub])) (ih.2.2.2.2.2.2.1 u8 u9 u10 (u11 + (1 : Int32)) F _ _ h)
      · rw [if_neg c85] at h
        refine V.iload C rfl d_Mo_frame_262 ?_
        refine V.if_eq C 280 (by decide) d_Mo_frame_264 (fun c86 => ?_) (fun c86 => ?_)
        · rw [if_pos c86] at h
          refine V.iload C rfl d_Mo_frame_280 ?_
          refine V.if_ne C 330 (by decide) d_Mo_frame_282 (fun c87 => ?_) (fun c87 => ?_)
          · rw [if_neg c87] at h
            exact V.weak (xsub_spec (by simp [xsub])) (ih.2.2.2.2.2.2.2.2.2.2.1 u8 u9 u10 u11 u12 F _ _ h)
          · rw [if_pos c87] at h
            exact V.weak (xsub_spec (by simp [xsub])) (ih.2.2.2.2.2.2.2.2.1 u8 u9 u10 u11 u12 F _ _ h)
        · rw [if_neg c86] at h
          refine V.iload C rfl d_Mo_frame_267 ?_
          obtain ⟨v88, e89, h⟩ := Option.bind_eq_some_iff.mp h
          refine V.cSr C (c_Mo_passNumber e89) ml_Mo_157 rfl rfl (by decide) (Nat.le_of_ble_eq_true rfl) d_Mo_frame_269 ?_
          refine V.iload C rfl d_Mo_frame_272 ?_
          refine V.icmp_ne C 330 (by decide) d_Mo_frame_274 (fun c90 => ?_) (fun c90 => ?_)
          · rw [if_neg c90] at h
            exact V.weak (xsub_spec (by simp [xsub])) (ih.2.2.2.2.2.2.2.2.2.2.1 u8 u9 u10 u11 u12 F _ _ h)
          · rw [if_pos c90] at h
            refine V.goto C 285 (by decide) d_Mo_frame_277 ?_
            exact V.weak (xsub_spec (by simp [xsub])) (ih.2.2.2.2.2.2.2.2.1 u8 u9 u10 u11 u12 F _ _ h)
    refine ⟨?_, ?_⟩
    · intro u8 u9 u10 u11 u12 F r F2 h
      rw [t_Mo_frame] at h
      rw [if_neg (by decide)] at h
      rw [if_neg (by decide)] at h
      rw [if_neg (by decide)] at h
      rw [if_neg (by decide)] at h
      rw [if_neg (by decide)] at h
      rw [if_neg (by decide)] at h
      rw [if_neg (by decide)] at h
      rw [if_neg (by decide)] at h
      rw [if_pos rfl] at h
      refine V.iconst C 0 (by decide) d_Mo_frame_285 ?_
      refine V.is13 C (by decide) rfl d_Mo_frame_286 ?_
      exact V.weak (xsub_spec (by simp [xsub])) (ih.2.2.2.2.2.2.2.2.2.1 u8 u9 u10 u11 u12 (0 : Int32) F _ _ h)
    refine ⟨?_, ?_⟩
    · intro u8 u9 u10 u11 u12 u13 F r F2 h
      rw [t_Mo_frame] at h
      rw [if_neg (by decide)] at h
      rw [if_neg (by decide)] at h
      rw [if_neg (by decide)] at h
      rw [if_neg (by decide)] at h
      rw [if_neg (by decide)] at h
      rw [if_neg (by decide)] at h
      rw [if_neg (by decide)] at h
      rw [if_neg (by decide)] at h
      rw [if_neg (by decide)] at h
      rw [if_pos rfl] at h
      refine V.iload C rfl d_Mo_frame_288 ?_
      refine V.iload_n C 3 rfl rfl d_Mo_frame_290 ?_
      refine V.icmp_ge C 330 (by decide) d_Mo_frame_291 (fun c91 => ?_) (fun c91 => ?_)
      · rw [if_pos c91] at h
        exact V.weak (xsub_spec (by simp [xsub])) (ih.2.2.2.2.2.2.2.2.2.2.1 u8 u9 u10 u11 u12 F _ _ h)
      · rw [if_neg c91] at h
        refine V.aload_n C 0 rfl rfl d_Mo_frame_294 ?_
        obtain ⟨q92, e93, h⟩ := Option.bind_eq_some_iff.mp h
        refine V.xgetR C fl_Mo_62 e93 d_Mo_frame_295 ?_
        refine V.sipush C 576 (by decide) d_Mo_frame_298 ?_
        refine V.iload C rfl d_Mo_frame_301 ?_
        refine V.imul C d_Mo_frame_303 ?_
        refine V.bipush C 24 (by decide) d_Mo_frame_304 ?_
        refine V.iload C rfl d_Mo_frame_306 ?_
        refine V.imul C d_Mo_frame_308 ?_
        refine V.iadd C d_Mo_frame_309 ?_
        refine V.iload C rfl d_Mo_frame_310 ?_
        refine V.iadd C d_Mo_frame_312 ?_
        refine V.aload_n C 0 rfl rfl d_Mo_frame_313 ?_
        obtain ⟨q94, e95, h⟩ := Option.bind_eq_some_iff.mp h
        refine V.xgetR C fl_Mo_7 e95 d_Mo_frame_314 ?_
        refine V.iload C rfl d_Mo_frame_317 ?_
        obtain ⟨v96, e97, h⟩ := Option.bind_eq_some_iff.mp h
        refine V.xiald C e97 d_Mo_frame_319 ?_
        obtain ⟨F98, e99, h⟩ := Option.bind_eq_some_iff.mp h
        refine V.xiast C e99 d_Mo_frame_320 ?_
        refine V.inc10 C 1 (by decide) (by decide) rfl d_Mo_frame_321 ?_
        refine V.inc13 C 1 (by decide) (by decide) rfl d_Mo_frame_324 ?_
        refine V.goto C 288 (by decide) d_Mo_frame_327 ?_
        exact V.weak (xsub_spec (by simp [xsub])) (ih.2.2.2.2.2.2.2.2.2.1 u8 u9 (u10 + (1 : Int32)) u11 u12 (u13 + (1 : Int32)) F98 _ _ h)
    refine ⟨?_, ?_⟩
    · intro u8 u9 u10 u11 u12 F r F2 h
      rw [t_Mo_frame] at h
      rw [if_neg (by decide)] at h
      rw [if_neg (by decide)] at h
      rw [if_neg (by decide)] at h
      rw [if_neg (by decide)] at h
      rw [if_neg (by decide)] at h
      rw [if_neg (by decide)] at h
      rw [if_neg (by decide)] at h
      rw [if_neg (by decide)] at h
      rw [if_neg (by decide)] at h
      rw [if_neg (by decide)] at h
      rw [if_pos rfl] at h
      refine V.inc12 C 1 (by decide) (by decide) rfl d_Mo_frame_330 ?_
      refine V.goto C 255 (by decide) d_Mo_frame_333 ?_
      exact V.weak (xsub_spec (by simp [xsub])) (ih.2.2.2.2.2.2.2.1 u8 u9 u10 u11 (u12 + (1 : Int32)) F _ _ h)
    · intro u8 u9 u10 u11 F r F2 h
      rw [t_Mo_frame] at h
      rw [if_neg (by decide)] at h
      rw [if_neg (by decide)] at h
      rw [if_neg (by decide)] at h
      rw [if_neg (by decide)] at h
      rw [if_neg (by decide)] at h
      rw [if_neg (by decide)] at h
      rw [if_neg (by decide)] at h
      rw [if_neg (by decide)] at h
      rw [if_neg (by decide)] at h
      rw [if_neg (by decide)] at h
      rw [if_neg (by decide)] at h
      refine V.iload C rfl d_Mo_frame_356 ?_
      refine V.aload_n C 0 rfl rfl d_Mo_frame_358 ?_
      obtain ⟨v72, e73, h⟩ := Option.bind_eq_some_iff.mp h
      refine V.xgetI C fl_Mo_98 e73 d_Mo_frame_359 ?_
      refine V.icmp_ge C 388 (by decide) d_Mo_frame_362 (fun c74 => ?_) (fun c74 => ?_)
      · rw [if_pos c74] at h
        refine V.aload_n C 0 rfl rfl d_Mo_frame_388 ?_
        refine V.dup C rfl d_Mo_frame_389 ?_
        obtain ⟨v75, e76, h⟩ := Option.bind_eq_some_iff.mp h
        refine V.xgetI C fl_Mo_110 e76 d_Mo_frame_390 ?_
        refine V.iconst C 1 (by decide) d_Mo_frame_393 ?_
        refine V.iadd C d_Mo_frame_394 ?_
        obtain ⟨F77, e78, h⟩ := Option.bind_eq_some_iff.mp h
        refine V.xputI C fl_Mo_110 ft_9 fi_9_23 e78 d_Mo_frame_395 ?_
        refine V.iload C rfl d_Mo_frame_398 ?_
        obtain ⟨rfl, rfl⟩ := Prod.mk.inj (Option.some.inj h)
        exact V.iret C hr d_Mo_frame_400 rfl rfl rfl rfl
      · rw [if_neg c74] at h
        refine V.aload_n C 0 rfl rfl d_Mo_frame_365 ?_
        obtain ⟨q79, e80, h⟩ := Option.bind_eq_some_iff.mp h
        refine V.xgetR C fl_Mo_7 e80 d_Mo_frame_366 ?_
        refine V.iload C rfl d_Mo_frame_369 ?_
        refine V.aload_n C 0 rfl rfl d_Mo_frame_371 ?_
        refine V.xgetR C fl_Mo_7 e80 d_Mo_frame_372 ?_
        refine V.iload C rfl d_Mo_frame_375 ?_
        refine V.iload C rfl d_Mo_frame_377 ?_
        refine V.iadd C d_Mo_frame_379 ?_
        obtain ⟨v81, e82, h⟩ := Option.bind_eq_some_iff.mp h
        refine V.xiald C e82 d_Mo_frame_380 ?_
        obtain ⟨F83, e84, h⟩ := Option.bind_eq_some_iff.mp h
        refine V.xiast C e84 d_Mo_frame_381 ?_
        refine V.inc11 C 1 (by decide) (by decide) rfl d_Mo_frame_382 ?_
        refine V.goto C 356 (by decide) d_Mo_frame_385 ?_
        exact V.weak (xsub_spec (by simp [xsub])) (ih.2.2.2.2.2.2.2.2.2.2.2 u8 u9 u10 (u11 + (1 : Int32)) F83 _ _ h)
def f_Mo_frame (S : List xO) (N : Nat) (a : Nat) (p0 : Int32) (p1 : Int32) (p2 : Int32) (p3 : Int32) (p4 : Int32) (p5 : Int32) (p6 : Int32) (F : xF) : Option (Int32 × xF) :=
  if p2 < (1 : Int32) then
    t_Mo_frame S N a p0 p1 p2 p3 p4 p5 p6 N 0 0 0 0 0 0 0 F
  else
  if (24 : Int32) < p2 then
    t_Mo_frame S N a p0 p1 p2 p3 p4 p5 p6 N 0 0 0 0 0 0 0 F
  else
  if p3 < (1 : Int32) then
    t_Mo_frame S N a p0 p1 p2 p3 p4 p5 p6 N 0 0 0 0 0 0 0 F
  else
  if (24 : Int32) < p3 then
    t_Mo_frame S N a p0 p1 p2 p3 p4 p5 p6 N 0 0 0 0 0 0 0 F
  else
  if p0 < (0 : Int32) then
    t_Mo_frame S N a p0 p1 p2 p3 p4 p5 p6 N 0 0 0 0 0 0 0 F
  else
  if ((24 : Int32) - p2) < p0 then
    t_Mo_frame S N a p0 p1 p2 p3 p4 p5 p6 N 0 0 0 0 0 0 0 F
  else
  if p1 < (0 : Int32) then
    t_Mo_frame S N a p0 p1 p2 p3 p4 p5 p6 N 0 0 0 0 0 0 0 F
  else
  if ((24 : Int32) - p3) < p1 then
    t_Mo_frame S N a p0 p1 p2 p3 p4 p5 p6 N 0 0 0 0 0 0 0 F
  else
  t_Mo_frame S N a p0 p1 p2 p3 p4 p5 p6 N 1 (1 : Int32) 0 0 0 0 0 F
set_option maxHeartbeats 4000000 in
set_option maxRecDepth 100000 in
theorem c_Mo_frame {l : Launch} {g : xG} {S : List xO} {G : xL} {a : Nat} {p0 : Int32} {p1 : Int32} {p2 : Int32} {p3 : Int32} {p4 : Int32} {p5 : Int32} {p6 : Int32} {N : Nat} {F : xF} {r : Int32} {F2 : xF} (h : f_Mo_frame S N a p0 p1 p2 p3 p4 p5 p6 F = some (r, F2)) : CT l g 1 20 0 0 y_Mo_frame b_Mo_frame 14 (some .int) 1 [.ref a, .int p0, .int p1, .int p2, .int p3, .int p4, .int p5, .int p6] S F G (some (.int r)) S F2 G := by
  refine CT.of [some (.ref a), some (.int p0), some (.int p1), some (.int p2), some (.int p3), some (.int p4), some (.int p5), some (.int p6), none, none, none, none, none, none] (by decide) (Nat.le_of_ble_eq_true rfl) rfl ?_
  intro p e s m args below meth c C hr hmn hz
  unfold f_Mo_frame at h
  refine V.iload_n C 3 rfl rfl d_Mo_frame_0 ?_
  refine V.iconst C 1 (by decide) d_Mo_frame_1 ?_
  refine V.icmp_lt C 53 (by decide) d_Mo_frame_2 (fun c1 => ?_) (fun c1 => ?_)
  · rw [if_pos c1] at h
    exact V.weak (xsub_spec (by simp [xsub])) ((l_Mo_frame C hr N).1 F _ _ h)
  · rw [if_neg c1] at h
    refine V.iload_n C 3 rfl rfl d_Mo_frame_5 ?_
    refine V.bipush C 24 (by decide) d_Mo_frame_6 ?_
    refine V.icmp_gt C 53 (by decide) d_Mo_frame_8 (fun c2 => ?_) (fun c2 => ?_)
    · rw [if_pos c2] at h
      exact V.weak (xsub_spec (by simp [xsub])) ((l_Mo_frame C hr N).1 F _ _ h)
    · rw [if_neg c2] at h
      refine V.iload C rfl d_Mo_frame_11 ?_
      refine V.iconst C 1 (by decide) d_Mo_frame_13 ?_
      refine V.icmp_lt C 53 (by decide) d_Mo_frame_14 (fun c3 => ?_) (fun c3 => ?_)
      · rw [if_pos c3] at h
        exact V.weak (xsub_spec (by simp [xsub])) ((l_Mo_frame C hr N).1 F _ _ h)
      · rw [if_neg c3] at h
        refine V.iload C rfl d_Mo_frame_17 ?_
        refine V.bipush C 24 (by decide) d_Mo_frame_19 ?_
        refine V.icmp_gt C 53 (by decide) d_Mo_frame_21 (fun c4 => ?_) (fun c4 => ?_)
        · rw [if_pos c4] at h
          exact V.weak (xsub_spec (by simp [xsub])) ((l_Mo_frame C hr N).1 F _ _ h)
        · rw [if_neg c4] at h
          refine V.iload_n C 1 rfl rfl d_Mo_frame_24 ?_
          refine V.if_lt C 53 (by decide) d_Mo_frame_25 (fun c5 => ?_) (fun c5 => ?_)
          · rw [if_pos c5] at h
            exact V.weak (xsub_spec (by simp [xsub])) ((l_Mo_frame C hr N).1 F _ _ h)
          · rw [if_neg c5] at h
            refine V.iload_n C 1 rfl rfl d_Mo_frame_28 ?_
            refine V.bipush C 24 (by decide) d_Mo_frame_29 ?_
            refine V.iload_n C 3 rfl rfl d_Mo_frame_31 ?_
            refine V.isub C d_Mo_frame_32 ?_
            refine V.icmp_gt C 53 (by decide) d_Mo_frame_33 (fun c6 => ?_) (fun c6 => ?_)
            · rw [if_pos c6] at h
              exact V.weak (xsub_spec (by simp [xsub])) ((l_Mo_frame C hr N).1 F _ _ h)
            · rw [if_neg c6] at h
              refine V.iload_n C 2 rfl rfl d_Mo_frame_36 ?_
              refine V.if_lt C 53 (by decide) d_Mo_frame_37 (fun c7 => ?_) (fun c7 => ?_)
              · rw [if_pos c7] at h
                exact V.weak (xsub_spec (by simp [xsub])) ((l_Mo_frame C hr N).1 F _ _ h)
              · rw [if_neg c7] at h
                refine V.iload_n C 2 rfl rfl d_Mo_frame_40 ?_
                refine V.bipush C 24 (by decide) d_Mo_frame_41 ?_
                refine V.iload C rfl d_Mo_frame_43 ?_
                refine V.isub C d_Mo_frame_45 ?_
                refine V.icmp_gt C 53 (by decide) d_Mo_frame_46 (fun c8 => ?_) (fun c8 => ?_)
                · rw [if_pos c8] at h
                  exact V.weak (xsub_spec (by simp [xsub])) ((l_Mo_frame C hr N).1 F _ _ h)
                · rw [if_neg c8] at h
                  refine V.iconst C 1 (by decide) d_Mo_frame_49 ?_
                  refine V.goto C 54 (by decide) d_Mo_frame_50 ?_
                  refine V.is8 C (by decide) rfl d_Mo_frame_54 ?_
                  exact V.weak (xsub_spec (by simp [xsub])) ((l_Mo_frame C hr N).2.1 (1 : Int32) F _ _ h)
def f_Mo_isFrame (S : List xO) (a : Nat) (p0 : Int32) (F : xF) : Option Int32 :=
  if p0 < (0 : Int32) then
    some (0 : Int32)
  else
  (gI S 9 a 23 F).bind fun v2 =>
  if v2 ≤ p0 then
    some (0 : Int32)
  else
  some (1 : Int32)
set_option maxHeartbeats 4000000 in
set_option maxRecDepth 100000 in
theorem c_Mo_isFrame {l : Launch} {g : xG} {S : List xO} {G : xL} {a : Nat} {p0 : Int32} {F : xF} {r : Int32} (h : f_Mo_isFrame S a p0 F = some r) : CT l g 0 0 0 0 y_Mo_isFrame b_Mo_isFrame 2 (some .boolean) 1 [.ref a, .int p0] S F G (some (.int r)) S F G := by
  refine CT.of [some (.ref a), some (.int p0)] (by decide) (Nat.le_of_ble_eq_true rfl) rfl ?_
  intro p e s m args below meth c C hr hmn hz
  unfold f_Mo_isFrame at h
  refine V.iload_n C 1 rfl rfl d_Mo_isFrame_0 ?_
  refine V.if_lt C 16 (by decide) d_Mo_isFrame_1 (fun c1 => ?_) (fun c1 => ?_)
  · rw [if_pos c1] at h
    refine V.iconst C 0 (by decide) d_Mo_isFrame_16 ?_
    obtain rfl := Option.some.inj h
    exact V.zret C hr (by first | rfl | exact xz_narrow (by assumption)) d_Mo_isFrame_17 rfl rfl rfl rfl
  · rw [if_neg c1] at h
    refine V.iload_n C 1 rfl rfl d_Mo_isFrame_4 ?_
    refine V.aload_n C 0 rfl rfl d_Mo_isFrame_5 ?_
    obtain ⟨v2, e3, h⟩ := Option.bind_eq_some_iff.mp h
    refine V.xgetI C fl_Mo_110 e3 d_Mo_isFrame_6 ?_
    refine V.icmp_ge C 16 (by decide) d_Mo_isFrame_9 (fun c4 => ?_) (fun c4 => ?_)
    · rw [if_pos c4] at h
      refine V.iconst C 0 (by decide) d_Mo_isFrame_16 ?_
      obtain rfl := Option.some.inj h
      exact V.zret C hr (by first | rfl | exact xz_narrow (by assumption)) d_Mo_isFrame_17 rfl rfl rfl rfl
    · rw [if_neg c4] at h
      refine V.iconst C 1 (by decide) d_Mo_isFrame_12 ?_
      refine V.goto C 17 (by decide) d_Mo_isFrame_13 ?_
      obtain rfl := Option.some.inj h
      exact V.zret C hr (by first | rfl | exact xz_narrow (by assumption)) d_Mo_isFrame_17 rfl rfl rfl rfl
def f_Mo_isSymbol (S : List xO) (a : Nat) (p0 : Int32) (F : xF) : Option Int32 :=
  if p0 < (0 : Int32) then
    some (0 : Int32)
  else
  (gI S 9 a 1 F).bind fun v2 =>
  if v2 ≤ p0 then
    some (0 : Int32)
  else
  some (1 : Int32)
set_option maxHeartbeats 4000000 in
set_option maxRecDepth 100000 in
theorem c_Mo_isSymbol {l : Launch} {g : xG} {S : List xO} {G : xL} {a : Nat} {p0 : Int32} {F : xF} {r : Int32} (h : f_Mo_isSymbol S a p0 F = some r) : CT l g 0 0 0 0 y_Mo_isSymbol b_Mo_isSymbol 2 (some .boolean) 1 [.ref a, .int p0] S F G (some (.int r)) S F G := by
  refine CT.of [some (.ref a), some (.int p0)] (by decide) (Nat.le_of_ble_eq_true rfl) rfl ?_
  intro p e s m args below meth c C hr hmn hz
  unfold f_Mo_isSymbol at h
  refine V.iload_n C 1 rfl rfl d_Mo_isSymbol_0 ?_
  refine V.if_lt C 16 (by decide) d_Mo_isSymbol_1 (fun c1 => ?_) (fun c1 => ?_)
  · rw [if_pos c1] at h
    refine V.iconst C 0 (by decide) d_Mo_isSymbol_16 ?_
    obtain rfl := Option.some.inj h
    exact V.zret C hr (by first | rfl | exact xz_narrow (by assumption)) d_Mo_isSymbol_17 rfl rfl rfl rfl
  · rw [if_neg c1] at h
    refine V.iload_n C 1 rfl rfl d_Mo_isSymbol_4 ?_
    refine V.aload_n C 0 rfl rfl d_Mo_isSymbol_5 ?_
    obtain ⟨v2, e3, h⟩ := Option.bind_eq_some_iff.mp h
    refine V.xgetI C fl_Mo_84 e3 d_Mo_isSymbol_6 ?_
    refine V.icmp_ge C 16 (by decide) d_Mo_isSymbol_9 (fun c4 => ?_) (fun c4 => ?_)
    · rw [if_pos c4] at h
      refine V.iconst C 0 (by decide) d_Mo_isSymbol_16 ?_
      obtain rfl := Option.some.inj h
      exact V.zret C hr (by first | rfl | exact xz_narrow (by assumption)) d_Mo_isSymbol_17 rfl rfl rfl rfl
    · rw [if_neg c4] at h
      refine V.iconst C 1 (by decide) d_Mo_isSymbol_12 ?_
      refine V.goto C 17 (by decide) d_Mo_isSymbol_13 ?_
      obtain rfl := Option.some.inj h
      exact V.zret C hr (by first | rfl | exact xz_narrow (by assumption)) d_Mo_isSymbol_17 rfl rfl rfl rfl
def t_Mo_colour (S : List xO) (N : Nat) (a : Nat) (p0 : Int32) (p1 : Int32) (p2 : Int32) : Nat → Nat → Int32 → Int32 → xF → Option (Int32 × xF)
  | 0, _, _, _, _ => none
  | n + 1, tg, u4, u5, F =>
    if tg = 0 then
      (xcl S 9 a (f_Mo_isSymbol S a p1 F)).bind fun v5 =>
      if v5 = (0 : Int32) then
        t_Mo_colour S N a p0 p1 p2 n 1 0 0 F
      else
      t_Mo_colour S N a p0 p1 p2 n 2 (1 : Int32) 0 F
    else
    if tg = 1 then
      t_Mo_colour S N a p0 p1 p2 n 2 (0 : Int32) 0 F
    else
    if tg = 2 then
      if u4 = (0 : Int32) then
        (pI S 9 a 3 (1 : Int32) F).bind fun F17 =>
        t_Mo_colour S N a p0 p1 p2 n 3 u4 0 F17
      else
      if p2 < (-1 : Int32) then
        (pI S 9 a 3 (2 : Int32) F).bind fun F10 =>
        t_Mo_colour S N a p0 p1 p2 n 3 u4 0 F10
      else
      if p2 ≤ (16777215 : Int32) then
        (pI S 9 a 3 (0 : Int32) F).bind fun F13 =>
        t_Mo_colour S N a p0 p1 p2 n 3 u4 0 F13
      else
      (pI S 9 a 3 (2 : Int32) F).bind fun F15 =>
      t_Mo_colour S N a p0 p1 p2 n 3 u4 0 F15
    else
    if tg = 3 then
      (gI S 9 a 3 F).bind fun v19 =>
      if v19 ≤ (0 : Int32) then
        if (0 : Int32) ≤ p0 then
          t_Mo_colour S N a p0 p1 p2 n 4 u4 (((256 : Int32) * p0) + p1) F
        else
        t_Mo_colour S N a p0 p1 p2 n 4 u4 (((256 : Int32) * (12 : Int32)) + p1) F
      else
      some ((0 : Int32), F)
    else
    (gR S 9 a 32).bind fun q23 =>
    (aG S q23 u5 F).bind fun v25 =>
    (aP S q23 u5 p2 F).bind fun F27 =>
    some (v25, F27)
set_option maxHeartbeats 4000000 in
set_option maxRecDepth 100000 in
theorem l_Mo_colour {p : Program} {l : Launch} {e : Env} {s : State} {m : MethodId} {args : Array Value} {below : List Frame} {meth : Method} {c : Code} {g : xG} {S : List xO} {G : xL} {a : Nat} {p0 : Int32} {p1 : Int32} {p2 : Int32} {N : Nat} (C : Cx p s m args meth c b_Mo_colour 7 "PaletteFramesModel" g) (hr : meth.sig.returnType = (some .int)) : ∀ (n : Nat), (∀ (F : xF) (r : Int32) (F2 : xF), t_Mo_colour S N a p0 p1 p2 n 0 0 0 F = some (r, F2) → V p l e (xRm 1 21 0 0) s m args below meth c (xMQ g below args s 0 0 S F2 G (some (.int r))) 7 g S F G 0 0 13 [some (.ref a), some (.int p0), some (.int p1), some (.int p2), none, none, none] []) ∧ (∀ (F : xF) (r : Int32) (F2 : xF), t_Mo_colour S N a p0 p1 p2 n 1 0 0 F = some (r, F2) → V p l e (xRm 1 21 0 0) s m args below meth c (xMQ g below args s 0 0 S F2 G (some (.int r))) 7 g S F G 0 0 25 [some (.ref a), some (.int p0), some (.int p1), some (.int p2), none, none, none] []) ∧ (∀ (u4 : Int32) (F : xF) (r : Int32) (F2 : xF), t_Mo_colour S N a p0 p1 p2 n 2 u4 0 F = some (r, F2) → V p l e (xRm 1 21 0 0) s m args below meth c (xMQ g below args s 0 0 S F2 G (some (.int r))) 7 g S F G 0 0 28 [some (.ref a), some (.int p0), some (.int p1), some (.int p2), some (.int u4), none, none] []) ∧ (∀ (u4 : Int32) (F : xF) (r : Int32) (F2 : xF), t_Mo_colour S N a p0 p1 p2 n 3 u4 0 F = some (r, F2) → V p l e (xRm 1 21 0 0) s m args below meth c (xMQ g below args s 0 0 S F2 G (some (.int r))) 7 g S F G 0 0 57 [some (.ref a), some (.int p0), some (.int p1), some (.int p2), some (.int u4), none, none] []) ∧ (∀ (u4 : Int32) (u5 : Int32) (F : xF) (r : Int32) (F2 : xF), t_Mo_colour S N a p0 p1 p2 n 4 u4 u5 F = some (r, F2) → V p l e (xRm 1 21 0 0) s m args below meth c (xMQ g below args s 0 0 S F2 G (some (.int r))) 7 g S F G 0 0 84 [some (.ref a), some (.int p0), some (.int p1), some (.int p2), some (.int u4), some (.int u5), none] []) := by
  intro n
  induction n with
  | zero =>
    refine ⟨?_, ?_⟩
    · intro F r F2 h
      cases h
    refine ⟨?_, ?_⟩
    · intro F r F2 h
      cases h
    refine ⟨?_, ?_⟩
    · intro u4 F r F2 h
      cases h
    refine ⟨?_, ?_⟩
    · intro u4 F r F2 h
      cases h
    · intro u4 u5 F r F2 h
      cases h
  | succ n ih =>
    refine ⟨?_, ?_⟩
    · intro F r F2 h
      rw [t_Mo_colour] at h
      rw [if_pos rfl] at h
      refine V.aload_n C 0 rfl rfl d_Mo_colour_13 ?_
      refine V.iload_n C 2 rfl rfl d_Mo_colour_14 ?_
      obtain ⟨v5, e6, h⟩ := Option.bind_eq_some_iff.mp h
      obtain ⟨⟨fs_e6, s_e6⟩, e6⟩ := xcl_spec e6
      refine V.cVr C (c_Mo_isSymbol e6) ml_Mo_164 s_e6 rfl rfl (by decide) (Nat.le_of_ble_eq_true rfl) d_Mo_colour_15 ?_
      refine V.if_eq C 25 (by decide) d_Mo_colour_18 (fun c7 => ?_) (fun c7 => ?_)
      · rw [if_pos c7] at h
        exact V.weak (xsub_spec (by simp [xsub])) (ih.2.1 F _ _ h)
      · rw [if_neg c7] at h
        refine V.iconst C 1 (by decide) d_Mo_colour_21 ?_
        refine V.goto C 26 (by decide) d_Mo_colour_22 ?_
        refine V.is4 C (by decide) rfl d_Mo_colour_26 ?_
        exact V.weak (xsub_spec (by simp [xsub])) (ih.2.2.1 (1 : Int32) F _ _ h)
    refine ⟨?_, ?_⟩
    · intro F r F2 h
      rw [t_Mo_colour] at h
      rw [if_neg (by decide)] at h
      rw [if_pos rfl] at h
      refine V.iconst C 0 (by decide) d_Mo_colour_25 ?_
      refine V.is4 C (by decide) rfl d_Mo_colour_26 ?_
      exact V.weak (xsub_spec (by simp [xsub])) (ih.2.2.1 (0 : Int32) F _ _ h)
    refine ⟨?_, ?_⟩
    · intro u4 F r F2 h
      rw [t_Mo_colour] at h
      rw [if_neg (by decide)] at h
      rw [if_neg (by decide)] at h
      rw [if_pos rfl] at h
      refine V.aload_n C 0 rfl rfl d_Mo_colour_28 ?_
      refine V.iload C rfl d_Mo_colour_29 ?_
      refine V.if_ne C 38 (by decide) d_Mo_colour_31 (fun c8 => ?_) (fun c8 => ?_)
      · rw [if_neg c8] at h
        refine V.iload_n C 3 rfl rfl d_Mo_colour_38 ?_
        refine V.iconst C (-1) (by decide) d_Mo_colour_39 ?_
        refine V.icmp_lt C 49 (by decide) d_Mo_colour_40 (fun c9 => ?_) (fun c9 => ?_)
        · rw [if_pos c9] at h
          refine V.iconst C 2 (by decide) d_Mo_colour_49 ?_
          refine V.goto C 54 (by decide) d_Mo_colour_50 ?_
          obtain ⟨F10, e11, h⟩ := Option.bind_eq_some_iff.mp h
          refine V.xputI C fl_Mo_92 ft_9 fi_9_3 e11 d_Mo_colour_54 ?_
          exact V.weak (xsub_spec (by simp [xsub])) (ih.2.2.2.1 u4 F10 _ _ h)
        · rw [if_neg c9] at h
          refine V.iload_n C 3 rfl rfl d_Mo_colour_43 ?_
          refine V.ldc C (v := 16777215) (by decide +kernel) d_Mo_colour_44 ?_
          refine V.icmp_le C 53 (by decide) d_Mo_colour_46 (fun c12 => ?_) (fun c12 => ?_)
          · rw [if_pos c12] at h
            refine V.iconst C 0 (by decide) d_Mo_colour_53 ?_
            obtain ⟨F13, e14, h⟩ := Option.bind_eq_some_iff.mp h
            refine V.xputI C fl_Mo_92 ft_9 fi_9_3 e14 d_Mo_colour_54 ?_
            exact V.weak (xsub_spec (by simp [xsub])) (ih.2.2.2.1 u4 F13 _ _ h)
          · rw [if_neg c12] at h
            refine V.iconst C 2 (by decide) d_Mo_colour_49 ?_
            refine V.goto C 54 (by decide) d_Mo_colour_50 ?_
            obtain ⟨F15, e16, h⟩ := Option.bind_eq_some_iff.mp h
            refine V.xputI C fl_Mo_92 ft_9 fi_9_3 e16 d_Mo_colour_54 ?_
            exact V.weak (xsub_spec (by simp [xsub])) (ih.2.2.2.1 u4 F15 _ _ h)
      · rw [if_pos c8] at h
        refine V.iconst C 1 (by decide) d_Mo_colour_34 ?_
        refine V.goto C 54 (by decide) d_Mo_colour_35 ?_
        obtain ⟨F17, e18, h⟩ := Option.bind_eq_some_iff.mp h
        refine V.xputI C fl_Mo_92 ft_9 fi_9_3 e18 d_Mo_colour_54 ?_
        exact V.weak (xsub_spec (by simp [xsub])) (ih.2.2.2.1 u4 F17 _ _ h)
    refine ⟨?_, ?_⟩
    · intro u4 F r F2 h
      rw [t_Mo_colour] at h
      rw [if_neg (by decide)] at h
      rw [if_neg (by decide)] at h
      rw [if_neg (by decide)] at h
      rw [if_pos rfl] at h
      refine V.aload_n C 0 rfl rfl d_Mo_colour_57 ?_
      obtain ⟨v19, e20, h⟩ := Option.bind_eq_some_iff.mp h
      refine V.xgetI C fl_Mo_92 e20 d_Mo_colour_58 ?_
      refine V.if_le C 66 (by decide) d_Mo_colour_61 (fun c21 => ?_) (fun c21 => ?_)
      · rw [if_pos c21] at h
        refine V.sipush C 256 (by decide) d_Mo_colour_66 ?_
        refine V.iload_n C 1 rfl rfl d_Mo_colour_69 ?_
        refine V.if_ge C 78 (by decide) d_Mo_colour_70 (fun c22 => ?_) (fun c22 => ?_)
        · rw [if_pos c22] at h
          refine V.iload_n C 1 rfl rfl d_Mo_colour_78 ?_
          refine V.imul C d_Mo_colour_79 ?_
          refine V.iload_n C 2 rfl rfl d_Mo_colour_80 ?_
          refine V.iadd C d_Mo_colour_81 ?_
          refine V.is5 C (by decide) rfl d_Mo_colour_82 ?_
          exact V.weak (xsub_spec (by simp [xsub])) (ih.2.2.2.2 u4 (((256 : Int32) * p0) + p1) F _ _ h)
        · rw [if_neg c22] at h
          refine V.bipush C 12 (by decide) d_Mo_colour_73 ?_
          refine V.goto C 79 (by decide) d_Mo_colour_75 ?_
          refine V.imul C d_Mo_colour_79 ?_
          refine V.iload_n C 2 rfl rfl d_Mo_colour_80 ?_
          refine V.iadd C d_Mo_colour_81 ?_
          refine V.is5 C (by decide) rfl d_Mo_colour_82 ?_
          exact V.weak (xsub_spec (by simp [xsub])) (ih.2.2.2.2 u4 (((256 : Int32) * (12 : Int32)) + p1) F _ _ h)
      · rw [if_neg c21] at h
        refine V.iconst C 0 (by decide) d_Mo_colour_64 ?_
        obtain ⟨rfl, rfl⟩ := Prod.mk.inj (Option.some.inj h)
        exact V.iret C hr d_Mo_colour_65 rfl rfl rfl rfl
    · intro u4 u5 F r F2 h
      rw [t_Mo_colour] at h
      rw [if_neg (by decide)] at h
      rw [if_neg (by decide)] at h
      rw [if_neg (by decide)] at h
      rw [if_neg (by decide)] at h
      refine V.aload_n C 0 rfl rfl d_Mo_colour_84 ?_
      obtain ⟨q23, e24, h⟩ := Option.bind_eq_some_iff.mp h
      refine V.xgetR C fl_Mo_65 e24 d_Mo_colour_85 ?_
      refine V.iload C rfl d_Mo_colour_88 ?_
      obtain ⟨v25, e26, h⟩ := Option.bind_eq_some_iff.mp h
      refine V.xiald C e26 d_Mo_colour_90 ?_
      refine V.is6 C (by decide) rfl d_Mo_colour_91 ?_
      refine V.aload_n C 0 rfl rfl d_Mo_colour_93 ?_
      refine V.xgetR C fl_Mo_65 e24 d_Mo_colour_94 ?_
      refine V.iload C rfl d_Mo_colour_97 ?_
      refine V.iload_n C 3 rfl rfl d_Mo_colour_99 ?_
      obtain ⟨F27, e28, h⟩ := Option.bind_eq_some_iff.mp h
      refine V.xiast C e28 d_Mo_colour_100 ?_
      refine V.iload C rfl d_Mo_colour_101 ?_
      obtain ⟨rfl, rfl⟩ := Prod.mk.inj (Option.some.inj h)
      exact V.iret C hr d_Mo_colour_103 rfl rfl rfl rfl
def f_Mo_colour (S : List xO) (N : Nat) (a : Nat) (p0 : Int32) (p1 : Int32) (p2 : Int32) (F : xF) : Option (Int32 × xF) :=
  if p0 = (-1 : Int32) then
    t_Mo_colour S N a p0 p1 p2 N 0 0 0 F
  else
  (xcl S 9 a (f_Mo_isFrame S a p0 F)).bind fun v2 =>
  if v2 = (0 : Int32) then
    t_Mo_colour S N a p0 p1 p2 N 1 0 0 F
  else
  t_Mo_colour S N a p0 p1 p2 N 0 0 0 F
set_option maxHeartbeats 4000000 in
set_option maxRecDepth 100000 in
theorem c_Mo_colour {l : Launch} {g : xG} {S : List xO} {G : xL} {a : Nat} {p0 : Int32} {p1 : Int32} {p2 : Int32} {N : Nat} {F : xF} {r : Int32} {F2 : xF} (h : f_Mo_colour S N a p0 p1 p2 F = some (r, F2)) : CT l g 1 21 0 0 y_Mo_colour b_Mo_colour 7 (some .int) 1 [.ref a, .int p0, .int p1, .int p2] S F G (some (.int r)) S F2 G := by
  refine CT.of [some (.ref a), some (.int p0), some (.int p1), some (.int p2), none, none, none] (by decide) (Nat.le_of_ble_eq_true rfl) rfl ?_
  intro p e s m args below meth c C hr hmn hz
  unfold f_Mo_colour at h
  refine V.iload_n C 1 rfl rfl d_Mo_colour_0 ?_
  refine V.iconst C (-1) (by decide) d_Mo_colour_1 ?_
  refine V.icmp_eq C 13 (by decide) d_Mo_colour_2 (fun c1 => ?_) (fun c1 => ?_)
  · rw [if_pos c1] at h
    exact V.weak (xsub_spec (by simp [xsub])) ((l_Mo_colour C hr N).1 F _ _ h)
  · rw [if_neg c1] at h
    refine V.aload_n C 0 rfl rfl d_Mo_colour_5 ?_
    refine V.iload_n C 1 rfl rfl d_Mo_colour_6 ?_
    obtain ⟨v2, e3, h⟩ := Option.bind_eq_some_iff.mp h
    obtain ⟨⟨fs_e3, s_e3⟩, e3⟩ := xcl_spec e3
    refine V.cVr C (c_Mo_isFrame e3) ml_Mo_160 s_e3 rfl rfl (by decide) (Nat.le_of_ble_eq_true rfl) d_Mo_colour_7 ?_
    refine V.if_eq C 25 (by decide) d_Mo_colour_10 (fun c4 => ?_) (fun c4 => ?_)
    · rw [if_pos c4] at h
      exact V.weak (xsub_spec (by simp [xsub])) ((l_Mo_colour C hr N).2.1 F _ _ h)
    · rw [if_neg c4] at h
      exact V.weak (xsub_spec (by simp [xsub])) ((l_Mo_colour C hr N).1 F _ _ h)
def f_Mo_through (S : List xO) (a : Nat) (p0 : Int32) (p1 : Int32) (F : xF) : Option (Int32 × xF) :=
  (xcl S 9 a (f_Mo_isFrame S a p0 F)).bind fun v1 =>
  if v1 = (0 : Int32) then
    (pI S 9 a 3 (1 : Int32) F).bind fun F4 =>
    (gI S 9 a 3 F4).bind fun v6 =>
    if v6 ≤ (0 : Int32) then
      (gR S 9 a 30).bind fun q9 =>
      (aG S q9 p0 F4).bind fun v11 =>
      (aP S q9 p0 p1 F4).bind fun F13 =>
      some (v11, F13)
    else
    some ((0 : Int32), F4)
  else
  if p1 = (-1 : Int32) then
    (pI S 9 a 3 (0 : Int32) F).bind fun F16 =>
    (gI S 9 a 3 F16).bind fun v18 =>
    if v18 ≤ (0 : Int32) then
      (gR S 9 a 30).bind fun q21 =>
      (aG S q21 p0 F16).bind fun v23 =>
      (aP S q21 p0 p1 F16).bind fun F25 =>
      some (v23, F25)
    else
    some ((0 : Int32), F16)
  else
  (f_Mo_isSymbol S a p1 F).bind fun v27 =>
  if v27 = (0 : Int32) then
    (pI S 9 a 3 (1 : Int32) F).bind fun F30 =>
    (gI S 9 a 3 F30).bind fun v32 =>
    if v32 ≤ (0 : Int32) then
      (gR S 9 a 30).bind fun q35 =>
      (aG S q35 p0 F30).bind fun v37 =>
      (aP S q35 p0 p1 F30).bind fun F39 =>
      some (v37, F39)
    else
    some ((0 : Int32), F30)
  else
  (pI S 9 a 3 (0 : Int32) F).bind fun F41 =>
  (gI S 9 a 3 F41).bind fun v43 =>
  if v43 ≤ (0 : Int32) then
    (gR S 9 a 30).bind fun q46 =>
    (aG S q46 p0 F41).bind fun v48 =>
    (aP S q46 p0 p1 F41).bind fun F50 =>
    some (v48, F50)
  else
  some ((0 : Int32), F41)
set_option maxHeartbeats 4000000 in
set_option maxRecDepth 100000 in
theorem c_Mo_through {l : Launch} {g : xG} {S : List xO} {G : xL} {a : Nat} {p0 : Int32} {p1 : Int32} {F : xF} {r : Int32} {F2 : xF} (h : f_Mo_through S a p0 p1 F = some (r, F2)) : CT l g 1 21 0 0 y_Mo_through b_Mo_through 4 (some .int) 1 [.ref a, .int p0, .int p1] S F G (some (.int r)) S F2 G := by
  refine CT.of [some (.ref a), some (.int p0), some (.int p1), none] (by decide) (Nat.le_of_ble_eq_true rfl) rfl ?_
  intro p e s m args below meth c C hr hmn hz
  unfold f_Mo_through at h
  refine V.aload_n C 0 rfl rfl d_Mo_through_0 ?_
  refine V.aload_n C 0 rfl rfl d_Mo_through_1 ?_
  refine V.iload_n C 1 rfl rfl d_Mo_through_2 ?_
  obtain ⟨v1, e2, h⟩ := Option.bind_eq_some_iff.mp h
  obtain ⟨⟨fs_e2, s_e2⟩, e2⟩ := xcl_spec e2
  refine V.cVr C (c_Mo_isFrame e2) ml_Mo_160 s_e2 rfl rfl (by decide) (Nat.le_of_ble_eq_true rfl) d_Mo_through_3 ?_
  refine V.if_eq C 26 (by decide) d_Mo_through_6 (fun c3 => ?_) (fun c3 => ?_)
  · rw [if_pos c3] at h
    refine V.iconst C 1 (by decide) d_Mo_through_26 ?_
    obtain ⟨F4, e5, h⟩ := Option.bind_eq_some_iff.mp h
    refine V.xputI C fl_Mo_92 ft_9 fi_9_3 e5 d_Mo_through_27 ?_
    refine V.aload_n C 0 rfl rfl d_Mo_through_30 ?_
    obtain ⟨v6, e7, h⟩ := Option.bind_eq_some_iff.mp h
    refine V.xgetI C fl_Mo_92 e7 d_Mo_through_31 ?_
    refine V.if_le C 39 (by decide) d_Mo_through_34 (fun c8 => ?_) (fun c8 => ?_)
    · rw [if_pos c8] at h
      refine V.aload_n C 0 rfl rfl d_Mo_through_39 ?_
      obtain ⟨q9, e10, h⟩ := Option.bind_eq_some_iff.mp h
      refine V.xgetR C fl_Mo_59 e10 d_Mo_through_40 ?_
      refine V.iload_n C 1 rfl rfl d_Mo_through_43 ?_
      obtain ⟨v11, e12, h⟩ := Option.bind_eq_some_iff.mp h
      refine V.xiald C e12 d_Mo_through_44 ?_
      refine V.is3 C (by decide) rfl d_Mo_through_45 ?_
      refine V.aload_n C 0 rfl rfl d_Mo_through_46 ?_
      refine V.xgetR C fl_Mo_59 e10 d_Mo_through_47 ?_
      refine V.iload_n C 1 rfl rfl d_Mo_through_50 ?_
      refine V.iload_n C 2 rfl rfl d_Mo_through_51 ?_
      obtain ⟨F13, e14, h⟩ := Option.bind_eq_some_iff.mp h
      refine V.xiast C e14 d_Mo_through_52 ?_
      refine V.iload_n C 3 rfl rfl d_Mo_through_53 ?_
      obtain ⟨rfl, rfl⟩ := Prod.mk.inj (Option.some.inj h)
      exact V.iret C hr d_Mo_through_54 rfl rfl rfl rfl
    · rw [if_neg c8] at h
      refine V.iconst C 0 (by decide) d_Mo_through_37 ?_
      obtain ⟨rfl, rfl⟩ := Prod.mk.inj (Option.some.inj h)
      exact V.iret C hr d_Mo_through_38 rfl rfl rfl rfl
  · rw [if_neg c3] at h
    refine V.iload_n C 2 rfl rfl d_Mo_through_9 ?_
    refine V.iconst C (-1) (by decide) d_Mo_through_10 ?_
    refine V.icmp_eq C 22 (by decide) d_Mo_through_11 (fun c15 => ?_) (fun c15 => ?_)
    · rw [if_pos c15] at h
      refine V.iconst C 0 (by decide) d_Mo_through_22 ?_
      refine V.goto C 27 (by decide) d_Mo_through_23 ?_
      obtain ⟨F16, e17, h⟩ := Option.bind_eq_some_iff.mp h
      refine V.xputI C fl_Mo_92 ft_9 fi_9_3 e17 d_Mo_through_27 ?_
      refine V.aload_n C 0 rfl rfl d_Mo_through_30 ?_
      obtain ⟨v18, e19, h⟩ := Option.bind_eq_some_iff.mp h
      refine V.xgetI C fl_Mo_92 e19 d_Mo_through_31 ?_
      refine V.if_le C 39 (by decide) d_Mo_through_34 (fun c20 => ?_) (fun c20 => ?_)
      · rw [if_pos c20] at h
        refine V.aload_n C 0 rfl rfl d_Mo_through_39 ?_
        obtain ⟨q21, e22, h⟩ := Option.bind_eq_some_iff.mp h
        refine V.xgetR C fl_Mo_59 e22 d_Mo_through_40 ?_
        refine V.iload_n C 1 rfl rfl d_Mo_through_43 ?_
        obtain ⟨v23, e24, h⟩ := Option.bind_eq_some_iff.mp h
        refine V.xiald C e24 d_Mo_through_44 ?_
        refine V.is3 C (by decide) rfl d_Mo_through_45 ?_
        refine V.aload_n C 0 rfl rfl d_Mo_through_46 ?_
        refine V.xgetR C fl_Mo_59 e22 d_Mo_through_47 ?_
        refine V.iload_n C 1 rfl rfl d_Mo_through_50 ?_
        refine V.iload_n C 2 rfl rfl d_Mo_through_51 ?_
        obtain ⟨F25, e26, h⟩ := Option.bind_eq_some_iff.mp h
        refine V.xiast C e26 d_Mo_through_52 ?_
        refine V.iload_n C 3 rfl rfl d_Mo_through_53 ?_
        obtain ⟨rfl, rfl⟩ := Prod.mk.inj (Option.some.inj h)
        exact V.iret C hr d_Mo_through_54 rfl rfl rfl rfl
      · rw [if_neg c20] at h
        refine V.iconst C 0 (by decide) d_Mo_through_37 ?_
        obtain ⟨rfl, rfl⟩ := Prod.mk.inj (Option.some.inj h)
        exact V.iret C hr d_Mo_through_38 rfl rfl rfl rfl
    · rw [if_neg c15] at h
      refine V.aload_n C 0 rfl rfl d_Mo_through_14 ?_
      refine V.iload_n C 2 rfl rfl d_Mo_through_15 ?_
      obtain ⟨v27, e28, h⟩ := Option.bind_eq_some_iff.mp h
      refine V.cVr C (c_Mo_isSymbol e28) ml_Mo_164 s_e2 rfl rfl (by decide) (Nat.le_of_ble_eq_true rfl) d_Mo_through_16 ?_
      refine V.if_eq C 26 (by decide) d_Mo_through_19 (fun c29 => ?_) (fun c29 => ?_)
      · rw [if_pos c29] at h
        refine V.iconst C 1 (by decide) d_Mo_through_26 ?_
        obtain ⟨F30, e31, h⟩ := Option.bind_eq_some_iff.mp h
        refine V.xputI C fl_Mo_92 ft_9 fi_9_3 e31 d_Mo_through_27 ?_
        refine V.aload_n C 0 rfl rfl d_Mo_through_30 ?_
        obtain ⟨v32, e33, h⟩ := Option.bind_eq_some_iff.mp h
        refine V.xgetI C fl_Mo_92 e33 d_Mo_through_31 ?_
        refine V.if_le C 39 (by decide) d_Mo_through_34 (fun c34 => ?_) (fun c34 => ?_)
        · rw [if_pos c34] at h
          refine V.aload_n C 0 rfl rfl d_Mo_through_39 ?_
          obtain ⟨q35, e36, h⟩ := Option.bind_eq_some_iff.mp h
          refine V.xgetR C fl_Mo_59 e36 d_Mo_through_40 ?_
          refine V.iload_n C 1 rfl rfl d_Mo_through_43 ?_
          obtain ⟨v37, e38, h⟩ := Option.bind_eq_some_iff.mp h
          refine V.xiald C e38 d_Mo_through_44 ?_
          refine V.is3 C (by decide) rfl d_Mo_through_45 ?_
          refine V.aload_n C 0 rfl rfl d_Mo_through_46 ?_
          refine V.xgetR C fl_Mo_59 e36 d_Mo_through_47 ?_
          refine V.iload_n C 1 rfl rfl d_Mo_through_50 ?_
          refine V.iload_n C 2 rfl rfl d_Mo_through_51 ?_
          obtain ⟨F39, e40, h⟩ := Option.bind_eq_some_iff.mp h
          refine V.xiast C e40 d_Mo_through_52 ?_
          refine V.iload_n C 3 rfl rfl d_Mo_through_53 ?_
          obtain ⟨rfl, rfl⟩ := Prod.mk.inj (Option.some.inj h)
          exact V.iret C hr d_Mo_through_54 rfl rfl rfl rfl
        · rw [if_neg c34] at h
          refine V.iconst C 0 (by decide) d_Mo_through_37 ?_
          obtain ⟨rfl, rfl⟩ := Prod.mk.inj (Option.some.inj h)
          exact V.iret C hr d_Mo_through_38 rfl rfl rfl rfl
      · rw [if_neg c29] at h
        refine V.iconst C 0 (by decide) d_Mo_through_22 ?_
        refine V.goto C 27 (by decide) d_Mo_through_23 ?_
        obtain ⟨F41, e42, h⟩ := Option.bind_eq_some_iff.mp h
        refine V.xputI C fl_Mo_92 ft_9 fi_9_3 e42 d_Mo_through_27 ?_
        refine V.aload_n C 0 rfl rfl d_Mo_through_30 ?_
        obtain ⟨v43, e44, h⟩ := Option.bind_eq_some_iff.mp h
        refine V.xgetI C fl_Mo_92 e44 d_Mo_through_31 ?_
        refine V.if_le C 39 (by decide) d_Mo_through_34 (fun c45 => ?_) (fun c45 => ?_)
        · rw [if_pos c45] at h
          refine V.aload_n C 0 rfl rfl d_Mo_through_39 ?_
          obtain ⟨q46, e47, h⟩ := Option.bind_eq_some_iff.mp h
          refine V.xgetR C fl_Mo_59 e47 d_Mo_through_40 ?_
          refine V.iload_n C 1 rfl rfl d_Mo_through_43 ?_
          obtain ⟨v48, e49, h⟩ := Option.bind_eq_some_iff.mp h
          refine V.xiald C e49 d_Mo_through_44 ?_
          refine V.is3 C (by decide) rfl d_Mo_through_45 ?_
          refine V.aload_n C 0 rfl rfl d_Mo_through_46 ?_
          refine V.xgetR C fl_Mo_59 e47 d_Mo_through_47 ?_
          refine V.iload_n C 1 rfl rfl d_Mo_through_50 ?_
          refine V.iload_n C 2 rfl rfl d_Mo_through_51 ?_
          obtain ⟨F50, e51, h⟩ := Option.bind_eq_some_iff.mp h
          refine V.xiast C e51 d_Mo_through_52 ?_
          refine V.iload_n C 3 rfl rfl d_Mo_through_53 ?_
          obtain ⟨rfl, rfl⟩ := Prod.mk.inj (Option.some.inj h)
          exact V.iret C hr d_Mo_through_54 rfl rfl rfl rfl
        · rw [if_neg c45] at h
          refine V.iconst C 0 (by decide) d_Mo_through_37 ?_
          obtain ⟨rfl, rfl⟩ := Prod.mk.inj (Option.some.inj h)
          exact V.iret C hr d_Mo_through_38 rfl rfl rfl rfl
def f_Mo_placeOf (S : List xO) (a : Nat) (p0 : Int32) (p1 : Int32) (p2 : Int32) (F : xF) : Option Int32 :=
  (gR S 9 a 25).bind fun q1 =>
  (aG S q1 p0 F).bind fun v3 =>
  (gR S 9 a 24).bind fun q5 =>
  (aG S q5 p0 F).bind fun v7 =>
  some ((((24 : Int32) * (v3 + p1)) + v7) + p2)
set_option maxHeartbeats 4000000 in
set_option maxRecDepth 100000 in
theorem c_Mo_placeOf {l : Launch} {g : xG} {S : List xO} {G : xL} {a : Nat} {p0 : Int32} {p1 : Int32} {p2 : Int32} {F : xF} {r : Int32} (h : f_Mo_placeOf S a p0 p1 p2 F = some r) : CT l g 0 0 0 0 y_Mo_placeOf b_Mo_placeOf 4 (some .int) 1 [.ref a, .int p0, .int p1, .int p2] S F G (some (.int r)) S F G := by
  refine CT.of [some (.ref a), some (.int p0), some (.int p1), some (.int p2)] (by decide) (Nat.le_of_ble_eq_true rfl) rfl ?_
  intro p e s m args below meth c C hr hmn hz
  unfold f_Mo_placeOf at h
  refine V.bipush C 24 (by decide) d_Mo_placeOf_0 ?_
  refine V.aload_n C 0 rfl rfl d_Mo_placeOf_2 ?_
  obtain ⟨q1, e2, h⟩ := Option.bind_eq_some_iff.mp h
  refine V.xgetR C fl_Mo_44 e2 d_Mo_placeOf_3 ?_
  refine V.iload_n C 1 rfl rfl d_Mo_placeOf_6 ?_
  obtain ⟨v3, e4, h⟩ := Option.bind_eq_some_iff.mp h
  refine V.xiald C e4 d_Mo_placeOf_7 ?_
  refine V.iload_n C 2 rfl rfl d_Mo_placeOf_8 ?_
  refine V.iadd C d_Mo_placeOf_9 ?_
  refine V.imul C d_Mo_placeOf_10 ?_
  refine V.aload_n C 0 rfl rfl d_Mo_placeOf_11 ?_
  obtain ⟨q5, e6, h⟩ := Option.bind_eq_some_iff.mp h
  refine V.xgetR C fl_Mo_41 e6 d_Mo_placeOf_12 ?_
  refine V.iload_n C 1 rfl rfl d_Mo_placeOf_15 ?_
  obtain ⟨v7, e8, h⟩ := Option.bind_eq_some_iff.mp h
  refine V.xiald C e8 d_Mo_placeOf_16 ?_
  refine V.iadd C d_Mo_placeOf_17 ?_
  refine V.iload_n C 3 rfl rfl d_Mo_placeOf_18 ?_
  refine V.iadd C d_Mo_placeOf_19 ?_
  obtain rfl := Option.some.inj h
  exact V.iret C hr d_Mo_placeOf_20 rfl rfl rfl rfl
def t_Mo_draw (S : List xO) (N : Nat) (a : Nat) (p0 : Int32) : Nat → Nat → Int32 → Int32 → xF → Option xF
  | 0, _, _, _, _ => none
  | n + 1, tg, u2, u3, F =>
    if tg = 0 then
      if (576 : Int32) ≤ u2 then
        t_Mo_draw S N a p0 n 1 (0 : Int32) 0 F
      else
      (gR S 9 a 35).bind fun q2 =>
      (gR S 9 a 33).bind fun q4 =>
      (aG S q4 u2 F).bind fun v6 =>
      (aP S q2 u2 v6 F).bind fun F8 =>
      (gR S 9 a 36).bind fun q10 =>
      (gR S 9 a 34).bind fun q12 =>
      (aG S q12 u2 F8).bind fun v14 =>
      (aP S q10 u2 v14 F8).bind fun F16 =>
      t_Mo_draw S N a p0 n 0 (u2 + (1 : Int32)) 0 F16
    else
    if tg = 1 then
      (gR S 9 a 27).bind fun q18 =>
      (aG S q18 p0 F).bind fun v20 =>
      if v20 ≤ u2 then
        some F
      else
      t_Mo_draw S N a p0 n 2 u2 (0 : Int32) F
    else
    (gR S 9 a 26).bind fun q23 =>
    (aG S q23 p0 F).bind fun v25 =>
    if v25 ≤ u3 then
      t_Mo_draw S N a p0 n 1 (u2 + (1 : Int32)) 0 F
    else
    (gR S 9 a 31).bind fun q28 =>
    (aG S q28 ((((576 : Int32) * p0) + ((24 : Int32) * u2)) + u3) F).bind fun v30 =>
    (gR S 9 a 30).bind fun q32 =>
    (aG S q32 p0 F).bind fun v34 =>
    if v30 = v34 then
      t_Mo_draw S N a p0 n 2 u2 (u3 + (1 : Int32)) F
    else
    (gR S 9 a 33).bind fun q37 =>
    (xcl S 9 a (f_Mo_placeOf S a p0 u2 u3 F)).bind fun v39 =>
    (aP S q37 v39 p0 F).bind fun F41 =>
    (gR S 9 a 34).bind fun q43 =>
    (f_Mo_placeOf S a p0 u2 u3 F41).bind fun v45 =>
    (aP S q43 v45 v30 F41).bind fun F47 =>
    t_Mo_draw S N a p0 n 2 u2 (u3 + (1 : Int32)) F47
set_option maxHeartbeats 4000000 in
set_option maxRecDepth 100000 in
theorem l_Mo_draw {p : Program} {l : Launch} {e : Env} {s : State} {m : MethodId} {args : Array Value} {below : List Frame} {meth : Method} {c : Code} {g : xG} {S : List xO} {G : xL} {a : Nat} {p0 : Int32} {N : Nat} (C : Cx p s m args meth c b_Mo_draw 5 "PaletteFramesModel" g) (hr : meth.sig.returnType = none) : ∀ (n : Nat), (∀ (u2 : Int32) (F : xF) (F2 : xF), t_Mo_draw S N a p0 n 0 u2 0 F = some F2 → V p l e (xRm 1 23 0 0) s m args below meth c (xMQ g below args s 0 0 S F2 G none) 5 g S F G 0 0 2 [some (.ref a), some (.int p0), some (.int u2), none, none] []) ∧ (∀ (u2 : Int32) (F : xF) (F2 : xF), t_Mo_draw S N a p0 n 1 u2 0 F = some F2 → V p l e (xRm 1 23 0 0) s m args below meth c (xMQ g below args s 0 0 S F2 G none) 5 g S F G 0 0 41 [some (.ref a), some (.int p0), some (.int u2), none, none] []) ∧ (∀ (u2 : Int32) (u3 : Int32) (F : xF) (F2 : xF), t_Mo_draw S N a p0 n 2 u2 u3 F = some F2 → V p l e (xRm 1 23 0 0) s m args below meth c (xMQ g below args s 0 0 S F2 G none) 5 g S F G 0 0 53 [some (.ref a), some (.int p0), some (.int u2), some (.int u3), none] []) := by
  intro n
  induction n with
  | zero =>
    refine ⟨?_, ?_⟩
    · intro u2 F F2 h
      cases h
    refine ⟨?_, ?_⟩
    · intro u2 F F2 h
      cases h
    · intro u2 u3 F F2 h
      cases h
  | succ n ih =>
    refine ⟨?_, ?_⟩
    · intro u2 F F2 h
      rw [t_Mo_draw] at h
      rw [if_pos rfl] at h
      refine V.iload_n C 2 rfl rfl d_Mo_draw_2 ?_
      refine V.sipush C 576 (by decide) d_Mo_draw_3 ?_
      refine V.icmp_ge C 39 (by decide) d_Mo_draw_6 (fun c1 => ?_) (fun c1 => ?_)
      · rw [if_pos c1] at h
        refine V.iconst C 0 (by decide) d_Mo_draw_39 ?_
        refine V.is2 C (by decide) rfl d_Mo_draw_40 ?_
        exact V.weak (xsub_spec (by simp [xsub])) (ih.2.1 (0 : Int32) F _ h)
      · rw [if_neg c1] at h
        refine V.aload_n C 0 rfl rfl d_Mo_draw_9 ?_
        obtain ⟨q2, e3, h⟩ := Option.bind_eq_some_iff.mp h
        refine V.xgetR C fl_Mo_74 e3 d_Mo_draw_10 ?_
        refine V.iload_n C 2 rfl rfl d_Mo_draw_13 ?_
        refine V.aload_n C 0 rfl rfl d_Mo_draw_14 ?_
        obtain ⟨q4, e5, h⟩ := Option.bind_eq_some_iff.mp h
        refine V.xgetR C fl_Mo_68 e5 d_Mo_draw_15 ?_
        refine V.iload_n C 2 rfl rfl d_Mo_draw_18 ?_
        obtain ⟨v6, e7, h⟩ := Option.bind_eq_some_iff.mp h
        refine V.xiald C e7 d_Mo_draw_19 ?_
        obtain ⟨F8, e9, h⟩ := Option.bind_eq_some_iff.mp h
        refine V.xiast C e9 d_Mo_draw_20 ?_
        refine V.aload_n C 0 rfl rfl d_Mo_draw_21 ?_
        obtain ⟨q10, e11, h⟩ := Option.bind_eq_some_iff.mp h
        refine V.xgetR C fl_Mo_77 e11 d_Mo_draw_22 ?_
        refine V.iload_n C 2 rfl rfl d_Mo_draw_25 ?_
        refine V.aload_n C 0 rfl rfl d_Mo_draw_26 ?_
        obtain ⟨q12, e13, h⟩ := Option.bind_eq_some_iff.mp h
        refine V.xgetR C fl_Mo_71 e13 d_Mo_draw_27 ?_
        refine V.iload_n C 2 rfl rfl d_Mo_draw_30 ?_
        obtain ⟨v14, e15, h⟩ := Option.bind_eq_some_iff.mp h
        refine V.xiald C e15 d_Mo_draw_31 ?_
        obtain ⟨F16, e17, h⟩ := Option.bind_eq_some_iff.mp h
        refine V.xiast C e17 d_Mo_draw_32 ?_
        refine V.inc2 C 1 (by decide) (by decide) rfl d_Mo_draw_33 ?_
        refine V.goto C 2 (by decide) d_Mo_draw_36 ?_
        exact V.weak (xsub_spec (by simp [xsub])) (ih.1 (u2 + (1 : Int32)) F16 _ h)
    refine ⟨?_, ?_⟩
    · intro u2 F F2 h
      rw [t_Mo_draw] at h
      rw [if_neg (by decide)] at h
      rw [if_pos rfl] at h
      refine V.iload_n C 2 rfl rfl d_Mo_draw_41 ?_
      refine V.aload_n C 0 rfl rfl d_Mo_draw_42 ?_
      obtain ⟨q18, e19, h⟩ := Option.bind_eq_some_iff.mp h
      refine V.xgetR C fl_Mo_50 e19 d_Mo_draw_43 ?_
      refine V.iload_n C 1 rfl rfl d_Mo_draw_46 ?_
      obtain ⟨v20, e21, h⟩ := Option.bind_eq_some_iff.mp h
      refine V.xiald C e21 d_Mo_draw_47 ?_
      refine V.icmp_ge C 132 (by decide) d_Mo_draw_48 (fun c22 => ?_) (fun c22 => ?_)
      · rw [if_pos c22] at h
        obtain rfl := Option.some.inj h
        exact V.vret C hr d_Mo_draw_132 rfl rfl rfl
      · rw [if_neg c22] at h
        refine V.iconst C 0 (by decide) d_Mo_draw_51 ?_
        refine V.is3 C (by decide) rfl d_Mo_draw_52 ?_
        exact V.weak (xsub_spec (by simp [xsub])) (ih.2.2 u2 (0 : Int32) F _ h)
    · intro u2 u3 F F2 h
      rw [t_Mo_draw] at h
      rw [if_neg (by decide)] at h
      rw [if_neg (by decide)] at h
      refine V.iload_n C 3 rfl rfl d_Mo_draw_53 ?_
      refine V.aload_n C 0 rfl rfl d_Mo_draw_54 ?_
      obtain ⟨q23, e24, h⟩ := Option.bind_eq_some_iff.mp h
      refine V.xgetR C fl_Mo_47 e24 d_Mo_draw_55 ?_
      refine V.iload_n C 1 rfl rfl d_Mo_draw_58 ?_
      obtain ⟨v25, e26, h⟩ := Option.bind_eq_some_iff.mp h
      refine V.xiald C e26 d_Mo_draw_59 ?_
      refine V.icmp_ge C 126 (by decide) d_Mo_draw_60 (fun c27 => ?_) (fun c27 => ?_)
      · rw [if_pos c27] at h
        refine V.inc2 C 1 (by decide) (by decide) rfl d_Mo_draw_126 ?_
        refine V.goto C 41 (by decide) d_Mo_draw_129 ?_
        exact V.weak (xsub_spec (by simp [xsub])) (ih.2.1 (u2 + (1 : Int32)) F _ h)
      · rw [if_neg c27] at h
        refine V.aload_n C 0 rfl rfl d_Mo_draw_63 ?_
        obtain ⟨q28, e29, h⟩ := Option.bind_eq_some_iff.mp h
        refine V.xgetR C fl_Mo_62 e29 d_Mo_draw_64 ?_
        refine V.sipush C 576 (by decide) d_Mo_draw_67 ?_
        refine V.iload_n C 1 rfl rfl d_Mo_draw_70 ?_
        refine V.imul C d_Mo_draw_71 ?_
        refine V.bipush C 24 (by decide) d_Mo_draw_72 ?_
        refine V.iload_n C 2 rfl rfl d_Mo_draw_74 ?_
        refine V.imul C d_Mo_draw_75 ?_
        refine V.iadd C d_Mo_draw_76 ?_
        refine V.iload_n C 3 rfl rfl d_Mo_draw_77 ?_
        refine V.iadd C d_Mo_draw_78 ?_
        obtain ⟨v30, e31, h⟩ := Option.bind_eq_some_iff.mp h
        refine V.xiald C e31 d_Mo_draw_79 ?_
        refine V.is4 C (by decide) rfl d_Mo_draw_80 ?_
        refine V.iload C rfl d_Mo_draw_82 ?_
        refine V.aload_n C 0 rfl rfl d_Mo_draw_84 ?_
        obtain ⟨q32, e33, h⟩ := Option.bind_eq_some_iff.mp h
        refine V.xgetR C fl_Mo_59 e33 d_Mo_draw_85 ?_
        refine V.iload_n C 1 rfl rfl d_Mo_draw_88 ?_
        obtain ⟨v34, e35, h⟩ := Option.bind_eq_some_iff.mp h
        refine V.xiald C e35 d_Mo_draw_89 ?_
        refine V.icmp_eq C 120 (by decide) d_Mo_draw_90 (fun c36 => ?_) (fun c36 => ?_)
        · rw [if_pos c36] at h
          refine V.inc3 C 1 (by decide) (by decide) rfl d_Mo_draw_120 ?_
          refine V.goto C 53 (by decide) d_Mo_draw_123 ?_
          exact V.weak (xsub_spec (by simp [xsub])) (ih.2.2 u2 (u3 + (1 : Int32)) F _ h)
        · rw [if_neg c36] at h
          refine V.aload_n C 0 rfl rfl d_Mo_draw_93 ?_
          obtain ⟨q37, e38, h⟩ := Option.bind_eq_some_iff.mp h
          refine V.xgetR C fl_Mo_68 e38 d_Mo_draw_94 ?_
          refine V.aload_n C 0 rfl rfl d_Mo_draw_97 ?_
          refine V.iload_n C 1 rfl rfl d_Mo_draw_98 ?_
          refine V.iload_n C 2 rfl rfl d_Mo_draw_99 ?_
          refine V.iload_n C 3 rfl rfl d_Mo_draw_100 ?_
          obtain ⟨v39, e40, h⟩ := Option.bind_eq_some_iff.mp h
          obtain ⟨⟨fs_e40, s_e40⟩, e40⟩ := xcl_spec e40
          refine V.cVr C (c_Mo_placeOf e40) ml_Mo_168 s_e40 rfl rfl (by decide) (Nat.le_of_ble_eq_true rfl) d_Mo_draw_101 ?_
          refine V.iload_n C 1 rfl rfl d_Mo_draw_104 ?_
          obtain ⟨F41, e42, h⟩ := Option.bind_eq_some_iff.mp h
          refine V.xiast C e42 d_Mo_draw_105 ?_
          refine V.aload_n C 0 rfl rfl d_Mo_draw_106 ?_
          obtain ⟨q43, e44, h⟩ := Option.bind_eq_some_iff.mp h
          refine V.xgetR C fl_Mo_71 e44 d_Mo_draw_107 ?_
          refine V.aload_n C 0 rfl rfl d_Mo_draw_110 ?_
          refine V.iload_n C 1 rfl rfl d_Mo_draw_111 ?_
          refine V.iload_n C 2 rfl rfl d_Mo_draw_112 ?_
          refine V.iload_n C 3 rfl rfl d_Mo_draw_113 ?_
          obtain ⟨v45, e46, h⟩ := Option.bind_eq_some_iff.mp h
          refine V.cVr C (c_Mo_placeOf e46) ml_Mo_168 s_e40 rfl rfl (by decide) (Nat.le_of_ble_eq_true rfl) d_Mo_draw_114 ?_
          refine V.iload C rfl d_Mo_draw_117 ?_
          obtain ⟨F47, e48, h⟩ := Option.bind_eq_some_iff.mp h
          refine V.xiast C e48 d_Mo_draw_119 ?_
          refine V.inc3 C 1 (by decide) (by decide) rfl d_Mo_draw_120 ?_
          refine V.goto C 53 (by decide) d_Mo_draw_123 ?_
          exact V.weak (xsub_spec (by simp [xsub])) (ih.2.2 u2 (u3 + (1 : Int32)) F47 _ h)
def f_Mo_draw (S : List xO) (N : Nat) (a : Nat) (p0 : Int32) (F : xF) : Option xF :=
  t_Mo_draw S N a p0 N 0 (0 : Int32) 0 F
set_option maxHeartbeats 4000000 in
set_option maxRecDepth 100000 in
theorem c_Mo_draw {l : Launch} {g : xG} {S : List xO} {G : xL} {a : Nat} {p0 : Int32} {N : Nat} {F : xF} {F2 : xF} (h : f_Mo_draw S N a p0 F = some F2) : CT l g 1 23 0 0 y_Mo_draw b_Mo_draw 5 none 1 [.ref a, .int p0] S F G none S F2 G := by
  refine CT.of [some (.ref a), some (.int p0), none, none, none] (by decide) (Nat.le_of_ble_eq_true rfl) rfl ?_
  intro p e s m args below meth c C hr hmn hz
  unfold f_Mo_draw at h
  refine V.iconst C 0 (by decide) d_Mo_draw_0 ?_
  refine V.is2 C (by decide) rfl d_Mo_draw_1 ?_
  exact V.weak (xsub_spec (by simp [xsub])) ((l_Mo_draw C hr N).1 (0 : Int32) F _ h)
def t_Mo_takeAway (S : List xO) (N : Nat) (a : Nat) (p0 : Int32) : Nat → Nat → Int32 → Int32 → xF → Option xF
  | 0, _, _, _, _ => none
  | n + 1, tg, u2, u3, F =>
    if tg = 0 then
      (gR S 9 a 27).bind fun q1 =>
      (aG S q1 p0 F).bind fun v3 =>
      if v3 ≤ u2 then
        some F
      else
      (gR S 9 a 28).bind fun q6 =>
      (aG S q6 p0 F).bind fun v8 =>
      if v8 ≤ (1 : Int32) then
        some F
      else
      t_Mo_takeAway S N a p0 n 1 u2 (0 : Int32) F
    else
    (gR S 9 a 26).bind fun q11 =>
    (aG S q11 p0 F).bind fun v13 =>
    if v13 ≤ u3 then
      t_Mo_takeAway S N a p0 n 0 (u2 + (1 : Int32)) 0 F
    else
    (xcl S 9 a (f_Mo_placeOf S a p0 u2 u3 F)).bind fun v16 =>
    (gR S 9 a 33).bind fun q18 =>
    (gR S 9 a 28).bind fun q20 =>
    (aG S q20 p0 F).bind fun v22 =>
    if v22 = (2 : Int32) then
      (aP S q18 v16 (-1 : Int32) F).bind fun F44 =>
      (gR S 9 a 34).bind fun q46 =>
      (aG S q20 p0 F44).bind fun v48 =>
      if v48 = (2 : Int32) then
        (aP S q46 v16 (-1 : Int32) F44).bind fun F57 =>
        t_Mo_takeAway S N a p0 n 1 u2 (u3 + (1 : Int32)) F57
      else
      (gR S 9 a 36).bind fun q51 =>
      (aG S q51 v16 F44).bind fun v53 =>
      (aP S q46 v16 v53 F44).bind fun F55 =>
      t_Mo_takeAway S N a p0 n 1 u2 (u3 + (1 : Int32)) F55
    else
    (gR S 9 a 35).bind fun q25 =>
    (aG S q25 v16 F).bind fun v27 =>
    (aP S q18 v16 v27 F).bind fun F29 =>
    (gR S 9 a 34).bind fun q31 =>
    (aG S q20 p0 F29).bind fun v33 =>
    if v33 = (2 : Int32) then
      (aP S q31 v16 (-1 : Int32) F29).bind fun F42 =>
      t_Mo_takeAway S N a p0 n 1 u2 (u3 + (1 : Int32)) F42
    else
    (gR S 9 a 36).bind fun q36 =>
    (aG S q36 v16 F29).bind fun v38 =>
    (aP S q31 v16 v38 F29).bind fun F40 =>
    t_Mo_takeAway S N a p0 n 1 u2 (u3 + (1 : Int32)) F40
set_option maxHeartbeats 4000000 in
set_option maxRecDepth 100000 in
theorem l_Mo_takeAway {p : Program} {l : Launch} {e : Env} {s : State} {m : MethodId} {args : Array Value} {below : List Frame} {meth : Method} {c : Code} {g : xG} {S : List xO} {G : xL} {a : Nat} {p0 : Int32} {N : Nat} (C : Cx p s m args meth c b_Mo_takeAway 5 "PaletteFramesModel" g) (hr : meth.sig.returnType = none) : ∀ (n : Nat), (∀ (u2 : Int32) (F : xF) (F2 : xF), t_Mo_takeAway S N a p0 n 0 u2 0 F = some F2 → V p l e (xRm 1 23 0 0) s m args below meth c (xMQ g below args s 0 0 S F2 G none) 5 g S F G 0 0 2 [some (.ref a), some (.int p0), some (.int u2), none, none] []) ∧ (∀ (u2 : Int32) (u3 : Int32) (F : xF) (F2 : xF), t_Mo_takeAway S N a p0 n 1 u2 u3 F = some F2 → V p l e (xRm 1 23 0 0) s m args below meth c (xMQ g below args s 0 0 S F2 G none) 5 g S F G 0 0 24 [some (.ref a), some (.int p0), some (.int u2), some (.int u3), none] []) := by
  intro n
  induction n with
  | zero =>
    refine ⟨?_, ?_⟩
    · intro u2 F F2 h
      cases h
    · intro u2 u3 F F2 h
      cases h
  | succ n ih =>
    refine ⟨?_, ?_⟩
    · intro u2 F F2 h
      rw [t_Mo_takeAway] at h
      rw [if_pos rfl] at h
      refine V.iload_n C 2 rfl rfl d_Mo_takeAway_2 ?_
      refine V.aload_n C 0 rfl rfl d_Mo_takeAway_3 ?_
      obtain ⟨q1, e2, h⟩ := Option.bind_eq_some_iff.mp h
      refine V.xgetR C fl_Mo_50 e2 d_Mo_takeAway_4 ?_
      refine V.iload_n C 1 rfl rfl d_Mo_takeAway_7 ?_
      obtain ⟨v3, e4, h⟩ := Option.bind_eq_some_iff.mp h
      refine V.xiald C e4 d_Mo_takeAway_8 ?_
      refine V.icmp_ge C 111 (by decide) d_Mo_takeAway_9 (fun c5 => ?_) (fun c5 => ?_)
      · rw [if_pos c5] at h
        obtain rfl := Option.some.inj h
        exact V.vret C hr d_Mo_takeAway_111 rfl rfl rfl
      · rw [if_neg c5] at h
        refine V.aload_n C 0 rfl rfl d_Mo_takeAway_12 ?_
        obtain ⟨q6, e7, h⟩ := Option.bind_eq_some_iff.mp h
        refine V.xgetR C fl_Mo_53 e7 d_Mo_takeAway_13 ?_
        refine V.iload_n C 1 rfl rfl d_Mo_takeAway_16 ?_
        obtain ⟨v8, e9, h⟩ := Option.bind_eq_some_iff.mp h
        refine V.xiald C e9 d_Mo_takeAway_17 ?_
        refine V.iconst C 1 (by decide) d_Mo_takeAway_18 ?_
        refine V.icmp_le C 111 (by decide) d_Mo_takeAway_19 (fun c10 => ?_) (fun c10 => ?_)
        · rw [if_pos c10] at h
          obtain rfl := Option.some.inj h
          exact V.vret C hr d_Mo_takeAway_111 rfl rfl rfl
        · rw [if_neg c10] at h
          refine V.iconst C 0 (by decide) d_Mo_takeAway_22 ?_
          refine V.is3 C (by decide) rfl d_Mo_takeAway_23 ?_
          exact V.weak (xsub_spec (by simp [xsub])) (ih.2 u2 (0 : Int32) F _ h)
    · intro u2 u3 F F2 h
      rw [t_Mo_takeAway] at h
      rw [if_neg (by decide)] at h
      refine V.iload_n C 3 rfl rfl d_Mo_takeAway_24 ?_
      refine V.aload_n C 0 rfl rfl d_Mo_takeAway_25 ?_
      obtain ⟨q11, e12, h⟩ := Option.bind_eq_some_iff.mp h
      refine V.xgetR C fl_Mo_47 e12 d_Mo_takeAway_26 ?_
      refine V.iload_n C 1 rfl rfl d_Mo_takeAway_29 ?_
      obtain ⟨v13, e14, h⟩ := Option.bind_eq_some_iff.mp h
      refine V.xiald C e14 d_Mo_takeAway_30 ?_
      refine V.icmp_ge C 105 (by decide) d_Mo_takeAway_31 (fun c15 => ?_) (fun c15 => ?_)
      · rw [if_pos c15] at h
        refine V.inc2 C 1 (by decide) (by decide) rfl d_Mo_takeAway_105 ?_
        refine V.goto C 2 (by decide) d_Mo_takeAway_108 ?_
        exact V.weak (xsub_spec (by simp [xsub])) (ih.1 (u2 + (1 : Int32)) F _ h)
      · rw [if_neg c15] at h
        refine V.aload_n C 0 rfl rfl d_Mo_takeAway_34 ?_
        refine V.iload_n C 1 rfl rfl d_Mo_takeAway_35 ?_
        refine V.iload_n C 2 rfl rfl d_Mo_takeAway_36 ?_
        refine V.iload_n C 3 rfl rfl d_Mo_takeAway_37 ?_
        obtain ⟨v16, e17, h⟩ := Option.bind_eq_some_iff.mp h
        obtain ⟨⟨fs_e17, s_e17⟩, e17⟩ := xcl_spec e17
        refine V.cVr C (c_Mo_placeOf e17) ml_Mo_168 s_e17 rfl rfl (by decide) (Nat.le_of_ble_eq_true rfl) d_Mo_takeAway_38 ?_
        refine V.is4 C (by decide) rfl d_Mo_takeAway_41 ?_
        refine V.aload_n C 0 rfl rfl d_Mo_takeAway_43 ?_
        obtain ⟨q18, e19, h⟩ := Option.bind_eq_some_iff.mp h
        refine V.xgetR C fl_Mo_68 e19 d_Mo_takeAway_44 ?_
        refine V.iload C rfl d_Mo_takeAway_47 ?_
        refine V.aload_n C 0 rfl rfl d_Mo_takeAway_49 ?_
        obtain ⟨q20, e21, h⟩ := Option.bind_eq_some_iff.mp h
        refine V.xgetR C fl_Mo_53 e21 d_Mo_takeAway_50 ?_
        refine V.iload_n C 1 rfl rfl d_Mo_takeAway_53 ?_
        obtain ⟨v22, e23, h⟩ := Option.bind_eq_some_iff.mp h
        refine V.xiald C e23 d_Mo_takeAway_54 ?_
        refine V.iconst C 2 (by decide) d_Mo_takeAway_55 ?_
        refine V.icmp_ne C 63 (by decide) d_Mo_takeAway_56 (fun c24 => ?_) (fun c24 => ?_)
        · rw [if_neg c24] at h
          refine V.aload_n C 0 rfl rfl d_Mo_takeAway_63 ?_
          obtain ⟨q25, e26, h⟩ := Option.bind_eq_some_iff.mp h
          refine V.xgetR C fl_Mo_74 e26 d_Mo_takeAway_64 ?_
          refine V.iload C rfl d_Mo_takeAway_67 ?_
          obtain ⟨v27, e28, h⟩ := Option.bind_eq_some_iff.mp h
          refine V.xiald C e28 d_Mo_takeAway_69 ?_
          obtain ⟨F29, e30, h⟩ := Option.bind_eq_some_iff.mp h
          refine V.xiast C e30 d_Mo_takeAway_70 ?_
          refine V.aload_n C 0 rfl rfl d_Mo_takeAway_71 ?_
          obtain ⟨q31, e32, h⟩ := Option.bind_eq_some_iff.mp h
          refine V.xgetR C fl_Mo_71 e32 d_Mo_takeAway_72 ?_
          refine V.iload C rfl d_Mo_takeAway_75 ?_
          refine V.aload_n C 0 rfl rfl d_Mo_takeAway_77 ?_
          refine V.xgetR C fl_Mo_53 e21 d_Mo_takeAway_78 ?_
          refine V.iload_n C 1 rfl rfl d_Mo_takeAway_81 ?_
          obtain ⟨v33, e34, h⟩ := Option.bind_eq_some_iff.mp h
          refine V.xiald C e34 d_Mo_takeAway_82 ?_
          refine V.iconst C 2 (by decide) d_Mo_takeAway_83 ?_
          refine V.icmp_ne C 91 (by decide) d_Mo_takeAway_84 (fun c35 => ?_) (fun c35 => ?_)
          · rw [if_neg c35] at h
            refine V.aload_n C 0 rfl rfl d_Mo_takeAway_91 ?_
            obtain ⟨q36, e37, h⟩ := Option.bind_eq_some_iff.mp h
            refine V.xgetR C fl_Mo_77 e37 d_Mo_takeAway_92 ?_
            refine V.iload C rfl d_Mo_takeAway_95 ?_
            obtain ⟨v38, e39, h⟩ := Option.bind_eq_some_iff.mp h
            refine V.xiald C e39 d_Mo_takeAway_97 ?_
            obtain ⟨F40, e41, h⟩ := Option.bind_eq_some_iff.mp h
            refine V.xiast C e41 d_Mo_takeAway_98 ?_
            refine V.inc3 C 1 (by decide) (by decide) rfl d_Mo_takeAway_99 ?_
            refine V.goto C 24 (by decide) d_Mo_takeAway_102 ?_
            exact V.weak (xsub_spec (by simp [xsub])) (ih.2 u2 (u3 + (1 : Int32)) F40 _ h)
          · rw [if_pos c35] at h
            refine V.iconst C (-1) (by decide) d_Mo_takeAway_87 ?_
            refine V.goto C 98 (by decide) d_Mo_takeAway_88 ?_
            obtain ⟨F42, e43, h⟩ := Option.bind_eq_some_iff.mp h
            refine V.xiast C e43 d_Mo_takeAway_98 ?_
            refine V.inc3 C 1 (by decide) (by decide) rfl d_Mo_takeAway_99 ?_
            refine V.goto C 24 (by decide) d_Mo_takeAway_102 ?_
            exact V.weak (xsub_spec (by simp [xsub])) (ih.2 u2 (u3 + (1 : Int32)) F42 _ h)
        · rw [if_pos c24] at h
          refine V.iconst C (-1) (by decide) d_Mo_takeAway_59 ?_
          refine V.goto C 70 (by decide) d_Mo_takeAway_60 ?_
          obtain ⟨F44, e45, h⟩ := Option.bind_eq_some_iff.mp h
          refine V.xiast C e45 d_Mo_takeAway_70 ?_
          refine V.aload_n C 0 rfl rfl d_Mo_takeAway_71 ?_
          obtain ⟨q46, e47, h⟩ := Option.bind_eq_some_iff.mp h
          refine V.xgetR C fl_Mo_71 e47 d_Mo_takeAway_72 ?_
          refine V.iload C rfl d_Mo_takeAway_75 ?_
          refine V.aload_n C 0 rfl rfl d_Mo_takeAway_77 ?_
          refine V.xgetR C fl_Mo_53 e21 d_Mo_takeAway_78 ?_
          refine V.iload_n C 1 rfl rfl d_Mo_takeAway_81 ?_
          obtain ⟨v48, e49, h⟩ := Option.bind_eq_some_iff.mp h
          refine V.xiald C e49 d_Mo_takeAway_82 ?_
          refine V.iconst C 2 (by decide) d_Mo_takeAway_83 ?_
          refine V.icmp_ne C 91 (by decide) d_Mo_takeAway_84 (fun c50 => ?_) (fun c50 => ?_)
          · rw [if_neg c50] at h
            refine V.aload_n C 0 rfl rfl d_Mo_takeAway_91 ?_
            obtain ⟨q51, e52, h⟩ := Option.bind_eq_some_iff.mp h
            refine V.xgetR C fl_Mo_77 e52 d_Mo_takeAway_92 ?_
            refine V.iload C rfl d_Mo_takeAway_95 ?_
            obtain ⟨v53, e54, h⟩ := Option.bind_eq_some_iff.mp h
            refine V.xiald C e54 d_Mo_takeAway_97 ?_
            obtain ⟨F55, e56, h⟩ := Option.bind_eq_some_iff.mp h
            refine V.xiast C e56 d_Mo_takeAway_98 ?_
            refine V.inc3 C 1 (by decide) (by decide) rfl d_Mo_takeAway_99 ?_
            refine V.goto C 24 (by decide) d_Mo_takeAway_102 ?_
            exact V.weak (xsub_spec (by simp [xsub])) (ih.2 u2 (u3 + (1 : Int32)) F55 _ h)
          · rw [if_pos c50] at h
            refine V.iconst C (-1) (by decide) d_Mo_takeAway_87 ?_
            refine V.goto C 98 (by decide) d_Mo_takeAway_88 ?_
            obtain ⟨F57, e58, h⟩ := Option.bind_eq_some_iff.mp h
            refine V.xiast C e58 d_Mo_takeAway_98 ?_
            refine V.inc3 C 1 (by decide) (by decide) rfl d_Mo_takeAway_99 ?_
            refine V.goto C 24 (by decide) d_Mo_takeAway_102 ?_
            exact V.weak (xsub_spec (by simp [xsub])) (ih.2 u2 (u3 + (1 : Int32)) F57 _ h)
def f_Mo_takeAway (S : List xO) (N : Nat) (a : Nat) (p0 : Int32) (F : xF) : Option xF :=
  t_Mo_takeAway S N a p0 N 0 (0 : Int32) 0 F
set_option maxHeartbeats 4000000 in
set_option maxRecDepth 100000 in
theorem c_Mo_takeAway {l : Launch} {g : xG} {S : List xO} {G : xL} {a : Nat} {p0 : Int32} {N : Nat} {F : xF} {F2 : xF} (h : f_Mo_takeAway S N a p0 F = some F2) : CT l g 1 23 0 0 y_Mo_takeAway b_Mo_takeAway 5 none 1 [.ref a, .int p0] S F G none S F2 G := by
  refine CT.of [some (.ref a), some (.int p0), none, none, none] (by decide) (Nat.le_of_ble_eq_true rfl) rfl ?_
  intro p e s m args below meth c C hr hmn hz
  unfold f_Mo_takeAway at h
  refine V.iconst C 0 (by decide) d_Mo_takeAway_0 ?_
  refine V.is2 C (by decide) rfl d_Mo_takeAway_1 ?_
  exact V.weak (xsub_spec (by simp [xsub])) ((l_Mo_takeAway C hr N).1 (0 : Int32) F _ h)
def t_Mo_shown (S : List xO) (N : Nat) (a : Nat) (p0 : Int32) (p1 : Int32) (p2 : Int32) : Nat → Nat → Int32 → xF → Option (Int32 × xF)
  | 0, _, _, _ => none
  | n + 1, tg, u4, F =>
    if tg = 0 then
      if (576 : Int32) ≤ u4 then
        t_Mo_shown S N a p0 p1 p2 n 1 (0 : Int32) F
      else
      (gR S 9 a 33).bind fun q39 =>
      (aP S q39 u4 (-1 : Int32) F).bind fun F41 =>
      t_Mo_shown S N a p0 p1 p2 n 0 (u4 + (1 : Int32)) F41
    else
    if p0 < u4 then
      (gR S 9 a 33).bind fun q44 =>
      (aG S q44 (((24 : Int32) * p2) + p1) F).bind fun v46 =>
      (gR S 9 a 34).bind fun q48 =>
      (aG S q48 (((24 : Int32) * p2) + p1) F).bind fun v50 =>
      if (0 : Int32) ≤ v46 then
        (gR S 9 a 32).bind fun q53 =>
        (aG S q53 (((256 : Int32) * v46) + v50) F).bind fun v55 =>
        if v55 < (0 : Int32) then
          (aG S q53 ((3072 : Int32) + v50) F).bind fun v58 =>
          some (v58, F)
        else
        some (v55, F)
      else
      some ((-1 : Int32), F)
    else
    if u4 ≤ (0 : Int32) then
      (xcl S 9 a (f_Mo_draw S N a u4 F)).bind fun F61 =>
      t_Mo_shown S N a p0 p1 p2 n 1 (u4 + (1 : Int32)) F61
    else
    (xcl S 9 a (f_Mo_takeAway S N a (u4 - (1 : Int32)) F)).bind fun F63 =>
    (f_Mo_draw S N a u4 F63).bind fun F65 =>
    t_Mo_shown S N a p0 p1 p2 n 1 (u4 + (1 : Int32)) F65
set_option maxHeartbeats 4000000 in
set_option maxRecDepth 100000 in
theorem l_Mo_shown {p : Program} {l : Launch} {e : Env} {s : State} {m : MethodId} {args : Array Value} {below : List Frame} {meth : Method} {c : Code} {g : xG} {S : List xO} {G : xL} {a : Nat} {p0 : Int32} {p1 : Int32} {p2 : Int32} {N : Nat} (C : Cx p s m args meth c b_Mo_shown 7 "PaletteFramesModel" g) (hr : meth.sig.returnType = (some .int)) : ∀ (n : Nat), (∀ (u4 : Int32) (F : xF) (r : Int32) (F2 : xF), t_Mo_shown S N a p0 p1 p2 n 0 u4 F = some (r, F2) → V p l e (xRm 2 47 0 0) s m args below meth c (xMQ g below args s 0 0 S F2 G (some (.int r))) 7 g S F G 0 0 49 [some (.ref a), some (.int p0), some (.int p1), some (.int p2), some (.int u4), none, none] []) ∧ (∀ (u4 : Int32) (F : xF) (r : Int32) (F2 : xF), t_Mo_shown S N a p0 p1 p2 n 1 u4 F = some (r, F2) → V p l e (xRm 2 47 0 0) s m args below meth c (xMQ g below args s 0 0 S F2 G (some (.int r))) 7 g S F G 0 0 74 [some (.ref a), some (.int p0), some (.int p1), some (.int p2), some (.int u4), none, none] []) := by
  intro n
  induction n with
  | zero =>
    refine ⟨?_, ?_⟩
    · intro u4 F r F2 h
      cases h
    · intro u4 F r F2 h
      cases h
  | succ n ih =>
    refine ⟨?_, ?_⟩
    · intro u4 F r F2 h
      rw [t_Mo_shown] at h
      rw [if_pos rfl] at h
      refine V.iload C rfl d_Mo_shown_49 ?_
      refine V.sipush C 576 (by decide) d_Mo_shown_51 ?_
      refine V.icmp_ge C 71 (by decide) d_Mo_shown_54 (fun c38 => ?_) (fun c38 => ?_)
      · rw [if_pos c38] at h
        refine V.iconst C 0 (by decide) d_Mo_shown_71 ?_
        refine V.is4 C (by decide) rfl d_Mo_shown_72 ?_
        exact V.weak (xsub_spec (by simp [xsub])) (ih.2 (0 : Int32) F _ _ h)
      · rw [if_neg c38] at h
        refine V.aload_n C 0 rfl rfl d_Mo_shown_57 ?_
        obtain ⟨q39, e40, h⟩ := Option.bind_eq_some_iff.mp h
        refine V.xgetR C fl_Mo_68 e40 d_Mo_shown_58 ?_
        refine V.iload C rfl d_Mo_shown_61 ?_
        refine V.iconst C (-1) (by decide) d_Mo_shown_63 ?_
        obtain ⟨F41, e42, h⟩ := Option.bind_eq_some_iff.mp h
        refine V.xiast C e42 d_Mo_shown_64 ?_
        refine V.inc4 C 1 (by decide) (by decide) rfl d_Mo_shown_65 ?_
        refine V.goto C 49 (by decide) d_Mo_shown_68 ?_
        exact V.weak (xsub_spec (by simp [xsub])) (ih.1 (u4 + (1 : Int32)) F41 _ _ h)
    · intro u4 F r F2 h
      rw [t_Mo_shown] at h
      rw [if_neg (by decide)] at h
      refine V.iload C rfl d_Mo_shown_74 ?_
      refine V.iload_n C 1 rfl rfl d_Mo_shown_76 ?_
      refine V.icmp_gt C 105 (by decide) d_Mo_shown_77 (fun c43 => ?_) (fun c43 => ?_)
      · rw [if_pos c43] at h
        refine V.aload_n C 0 rfl rfl d_Mo_shown_105 ?_
        obtain ⟨q44, e45, h⟩ := Option.bind_eq_some_iff.mp h
        refine V.xgetR C fl_Mo_68 e45 d_Mo_shown_106 ?_
        refine V.bipush C 24 (by decide) d_Mo_shown_109 ?_
        refine V.iload_n C 3 rfl rfl d_Mo_shown_111 ?_
        refine V.imul C d_Mo_shown_112 ?_
        refine V.iload_n C 2 rfl rfl d_Mo_shown_113 ?_
        refine V.iadd C d_Mo_shown_114 ?_
        obtain ⟨v46, e47, h⟩ := Option.bind_eq_some_iff.mp h
        refine V.xiald C e47 d_Mo_shown_115 ?_
        refine V.is4 C (by decide) rfl d_Mo_shown_116 ?_
        refine V.aload_n C 0 rfl rfl d_Mo_shown_118 ?_
        obtain ⟨q48, e49, h⟩ := Option.bind_eq_some_iff.mp h
        refine V.xgetR C fl_Mo_71 e49 d_Mo_shown_119 ?_
        refine V.bipush C 24 (by decide) d_Mo_shown_122 ?_
        refine V.iload_n C 3 rfl rfl d_Mo_shown_124 ?_
        refine V.imul C d_Mo_shown_125 ?_
        refine V.iload_n C 2 rfl rfl d_Mo_shown_126 ?_
        refine V.iadd C d_Mo_shown_127 ?_
        obtain ⟨v50, e51, h⟩ := Option.bind_eq_some_iff.mp h
        refine V.xiald C e51 d_Mo_shown_128 ?_
        refine V.is5 C (by decide) rfl d_Mo_shown_129 ?_
        refine V.iload C rfl d_Mo_shown_131 ?_
        refine V.if_ge C 138 (by decide) d_Mo_shown_133 (fun c52 => ?_) (fun c52 => ?_)
        · rw [if_pos c52] at h
          refine V.aload_n C 0 rfl rfl d_Mo_shown_138 ?_
          obtain ⟨q53, e54, h⟩ := Option.bind_eq_some_iff.mp h
          refine V.xgetR C fl_Mo_65 e54 d_Mo_shown_139 ?_
          refine V.sipush C 256 (by decide) d_Mo_shown_142 ?_
          refine V.iload C rfl d_Mo_shown_145 ?_
          refine V.imul C d_Mo_shown_147 ?_
          refine V.iload C rfl d_Mo_shown_148 ?_
          refine V.iadd C d_Mo_shown_150 ?_
          obtain ⟨v55, e56, h⟩ := Option.bind_eq_some_iff.mp h
          refine V.xiald C e56 d_Mo_shown_151 ?_
          refine V.is6 C (by decide) rfl d_Mo_shown_152 ?_
          refine V.iload C rfl d_Mo_shown_154 ?_
          refine V.if_lt C 164 (by decide) d_Mo_shown_156 (fun c57 => ?_) (fun c57 => ?_)
          · rw [if_pos c57] at h
            refine V.aload_n C 0 rfl rfl d_Mo_shown_164 ?_
            refine V.xgetR C fl_Mo_65 e54 d_Mo_shown_165 ?_
            refine V.sipush C 3072 (by decide) d_Mo_shown_168 ?_
            refine V.iload C rfl d_Mo_shown_171 ?_
            refine V.iadd C d_Mo_shown_173 ?_
            obtain ⟨v58, e59, h⟩ := Option.bind_eq_some_iff.mp h
            refine V.xiald C e59 d_Mo_shown_174 ?_
            obtain ⟨rfl, rfl⟩ := Prod.mk.inj (Option.some.inj h)
            exact V.iret C hr d_Mo_shown_175 rfl rfl rfl rfl
          · rw [if_neg c57] at h
            refine V.iload C rfl d_Mo_shown_159 ?_
            refine V.goto C 175 (by decide) d_Mo_shown_161 ?_
            obtain ⟨rfl, rfl⟩ := Prod.mk.inj (Option.some.inj h)
            exact V.iret C hr d_Mo_shown_175 rfl rfl rfl rfl
        · rw [if_neg c52] at h
          refine V.iconst C (-1) (by decide) d_Mo_shown_136 ?_
          obtain ⟨rfl, rfl⟩ := Prod.mk.inj (Option.some.inj h)
          exact V.iret C hr d_Mo_shown_137 rfl rfl rfl rfl
      · rw [if_neg c43] at h
        refine V.iload C rfl d_Mo_shown_80 ?_
        refine V.if_le C 93 (by decide) d_Mo_shown_82 (fun c60 => ?_) (fun c60 => ?_)
        · rw [if_pos c60] at h
          refine V.aload_n C 0 rfl rfl d_Mo_shown_93 ?_
          refine V.iload C rfl d_Mo_shown_94 ?_
          obtain ⟨F61, e62, h⟩ := Option.bind_eq_some_iff.mp h
          obtain ⟨⟨fs_e62, s_e62⟩, e62⟩ := xcl_spec e62
          refine V.cVv C (c_Mo_draw e62) ml_Mo_175 s_e62 rfl rfl (by decide) (Nat.le_of_ble_eq_true rfl) d_Mo_shown_96 ?_
          refine V.inc4 C 1 (by decide) (by decide) rfl d_Mo_shown_99 ?_
          refine V.goto C 74 (by decide) d_Mo_shown_102 ?_
          exact V.weak (xsub_spec (by simp [xsub])) (ih.2 (u4 + (1 : Int32)) F61 _ _ h)
        · rw [if_neg c60] at h
          refine V.aload_n C 0 rfl rfl d_Mo_shown_85 ?_
          refine V.iload C rfl d_Mo_shown_86 ?_
          refine V.iconst C 1 (by decide) d_Mo_shown_88 ?_
          refine V.isub C d_Mo_shown_89 ?_
          obtain ⟨F63, e64, h⟩ := Option.bind_eq_some_iff.mp h
          obtain ⟨⟨fs_e64, s_e64⟩, e64⟩ := xcl_spec e64
          refine V.cVv C (c_Mo_takeAway e64) ml_Mo_172 s_e64 rfl rfl (by decide) (Nat.le_of_ble_eq_true rfl) d_Mo_shown_90 ?_
          refine V.aload_n C 0 rfl rfl d_Mo_shown_93 ?_
          refine V.iload C rfl d_Mo_shown_94 ?_
          obtain ⟨F65, e66, h⟩ := Option.bind_eq_some_iff.mp h
          refine V.cVv C (c_Mo_draw e66) ml_Mo_175 s_e64 rfl rfl (by decide) (Nat.le_of_ble_eq_true rfl) d_Mo_shown_96 ?_
          refine V.inc4 C 1 (by decide) (by decide) rfl d_Mo_shown_99 ?_
          refine V.goto C 74 (by decide) d_Mo_shown_102 ?_
          exact V.weak (xsub_spec (by simp [xsub])) (ih.2 (u4 + (1 : Int32)) F65 _ _ h)
def f_Mo_shown (S : List xO) (N : Nat) (a : Nat) (p0 : Int32) (p1 : Int32) (p2 : Int32) (F : xF) : Option (Int32 × xF) :=
  (xcl S 9 a (f_Mo_isFrame S a p0 F)).bind fun v1 =>
  if v1 = (0 : Int32) then
    (pI S 9 a 3 (1 : Int32) F).bind fun F4 =>
    (gI S 9 a 3 F4).bind fun v6 =>
    if v6 ≤ (0 : Int32) then
      t_Mo_shown S N a p0 p1 p2 N 0 (0 : Int32) F4
    else
    some ((0 : Int32), F4)
  else
  if p1 < (0 : Int32) then
    (pI S 9 a 3 (1 : Int32) F).bind fun F10 =>
    (gI S 9 a 3 F10).bind fun v12 =>
    if v12 ≤ (0 : Int32) then
      t_Mo_shown S N a p0 p1 p2 N 0 (0 : Int32) F10
    else
    some ((0 : Int32), F10)
  else
  if (24 : Int32) ≤ p1 then
    (pI S 9 a 3 (1 : Int32) F).bind fun F16 =>
    (gI S 9 a 3 F16).bind fun v18 =>
    if v18 ≤ (0 : Int32) then
      t_Mo_shown S N a p0 p1 p2 N 0 (0 : Int32) F16
    else
    some ((0 : Int32), F16)
  else
  if p2 < (0 : Int32) then
    (pI S 9 a 3 (1 : Int32) F).bind fun F22 =>
    (gI S 9 a 3 F22).bind fun v24 =>
    if v24 ≤ (0 : Int32) then
      t_Mo_shown S N a p0 p1 p2 N 0 (0 : Int32) F22
    else
    some ((0 : Int32), F22)
  else
  if (24 : Int32) ≤ p2 then
    (pI S 9 a 3 (1 : Int32) F).bind fun F28 =>
    (gI S 9 a 3 F28).bind fun v30 =>
    if v30 ≤ (0 : Int32) then
      t_Mo_shown S N a p0 p1 p2 N 0 (0 : Int32) F28
    else
    some ((0 : Int32), F28)
  else
  (pI S 9 a 3 (0 : Int32) F).bind fun F33 =>
  (gI S 9 a 3 F33).bind fun v35 =>
  if v35 ≤ (0 : Int32) then
    t_Mo_shown S N a p0 p1 p2 N 0 (0 : Int32) F33
  else
  some ((0 : Int32), F33)
set_option maxHeartbeats 4000000 in
set_option maxRecDepth 100000 in
theorem c_Mo_shown {l : Launch} {g : xG} {S : List xO} {G : xL} {a : Nat} {p0 : Int32} {p1 : Int32} {p2 : Int32} {N : Nat} {F : xF} {r : Int32} {F2 : xF} (h : f_Mo_shown S N a p0 p1 p2 F = some (r, F2)) : CT l g 2 47 0 0 y_Mo_shown b_Mo_shown 7 (some .int) 1 [.ref a, .int p0, .int p1, .int p2] S F G (some (.int r)) S F2 G := by
  refine CT.of [some (.ref a), some (.int p0), some (.int p1), some (.int p2), none, none, none] (by decide) (Nat.le_of_ble_eq_true rfl) rfl ?_
  intro p e s m args below meth c C hr hmn hz
  unfold f_Mo_shown at h
  refine V.aload_n C 0 rfl rfl d_Mo_shown_0 ?_
  refine V.aload_n C 0 rfl rfl d_Mo_shown_1 ?_
  refine V.iload_n C 1 rfl rfl d_Mo_shown_2 ?_
  obtain ⟨v1, e2, h⟩ := Option.bind_eq_some_iff.mp h
  obtain ⟨⟨fs_e2, s_e2⟩, e2⟩ := xcl_spec e2
  refine V.cVr C (c_Mo_isFrame e2) ml_Mo_160 s_e2 rfl rfl (by decide) (Nat.le_of_ble_eq_true rfl) d_Mo_shown_3 ?_
  refine V.if_eq C 33 (by decide) d_Mo_shown_6 (fun c3 => ?_) (fun c3 => ?_)
  · rw [if_pos c3] at h
    refine V.iconst C 1 (by decide) d_Mo_shown_33 ?_
    obtain ⟨F4, e5, h⟩ := Option.bind_eq_some_iff.mp h
    refine V.xputI C fl_Mo_92 ft_9 fi_9_3 e5 d_Mo_shown_34 ?_
    refine V.aload_n C 0 rfl rfl d_Mo_shown_37 ?_
    obtain ⟨v6, e7, h⟩ := Option.bind_eq_some_iff.mp h
    refine V.xgetI C fl_Mo_92 e7 d_Mo_shown_38 ?_
    refine V.if_le C 46 (by decide) d_Mo_shown_41 (fun c8 => ?_) (fun c8 => ?_)
    · rw [if_pos c8] at h
      refine V.iconst C 0 (by decide) d_Mo_shown_46 ?_
      refine V.is4 C (by decide) rfl d_Mo_shown_47 ?_
      exact V.weak (xsub_spec (by simp [xsub])) ((l_Mo_shown C hr N).1 (0 : Int32) F4 _ _ h)
    · rw [if_neg c8] at h
      refine V.iconst C 0 (by decide) d_Mo_shown_44 ?_
      obtain ⟨rfl, rfl⟩ := Prod.mk.inj (Option.some.inj h)
      exact V.iret C hr d_Mo_shown_45 rfl rfl rfl rfl
  · rw [if_neg c3] at h
    refine V.iload_n C 2 rfl rfl d_Mo_shown_9 ?_
    refine V.if_lt C 33 (by decide) d_Mo_shown_10 (fun c9 => ?_) (fun c9 => ?_)
    · rw [if_pos c9] at h
      refine V.iconst C 1 (by decide) d_Mo_shown_33 ?_
      obtain ⟨F10, e11, h⟩ := Option.bind_eq_some_iff.mp h
      refine V.xputI C fl_Mo_92 ft_9 fi_9_3 e11 d_Mo_shown_34 ?_
      refine V.aload_n C 0 rfl rfl d_Mo_shown_37 ?_
      obtain ⟨v12, e13, h⟩ := Option.bind_eq_some_iff.mp h
      refine V.xgetI C fl_Mo_92 e13 d_Mo_shown_38 ?_
      refine V.if_le C 46 (by decide) d_Mo_shown_41 (fun c14 => ?_) (fun c14 => ?_)
      · rw [if_pos c14] at h
        refine V.iconst C 0 (by decide) d_Mo_shown_46 ?_
        refine V.is4 C (by decide) rfl d_Mo_shown_47 ?_
        exact V.weak (xsub_spec (by simp [xsub])) ((l_Mo_shown C hr N).1 (0 : Int32) F10 _ _ h)
      · rw [if_neg c14] at h
        refine V.iconst C 0 (by decide) d_Mo_shown_44 ?_
        obtain ⟨rfl, rfl⟩ := Prod.mk.inj (Option.some.inj h)
        exact V.iret C hr d_Mo_shown_45 rfl rfl rfl rfl
    · rw [if_neg c9] at h
      refine V.iload_n C 2 rfl rfl d_Mo_shown_13 ?_
      refine V.bipush C 24 (by decide) d_Mo_shown_14 ?_
      refine V.icmp_ge C 33 (by decide) d_Mo_shown_16 (fun c15 => ?_) (fun c15 => ?_)
      · rw [if_pos c15] at h
        refine V.iconst C 1 (by decide) d_Mo_shown_33 ?_
        obtain ⟨F16, e17, h⟩ := Option.bind_eq_some_iff.mp h
        refine V.xputI C fl_Mo_92 ft_9 fi_9_3 e17 d_Mo_shown_34 ?_
        refine V.aload_n C 0 rfl rfl d_Mo_shown_37 ?_
        obtain ⟨v18, e19, h⟩ := Option.bind_eq_some_iff.mp h
        refine V.xgetI C fl_Mo_92 e19 d_Mo_shown_38 ?_
        refine V.if_le C 46 (by decide) d_Mo_shown_41 (fun c20 => ?_) (fun c20 => ?_)
        · rw [if_pos c20] at h
          refine V.iconst C 0 (by decide) d_Mo_shown_46 ?_
          refine V.is4 C (by decide) rfl d_Mo_shown_47 ?_
          exact V.weak (xsub_spec (by simp [xsub])) ((l_Mo_shown C hr N).1 (0 : Int32) F16 _ _ h)
        · rw [if_neg c20] at h
          refine V.iconst C 0 (by decide) d_Mo_shown_44 ?_
          obtain ⟨rfl, rfl⟩ := Prod.mk.inj (Option.some.inj h)
          exact V.iret C hr d_Mo_shown_45 rfl rfl rfl rfl
      · rw [if_neg c15] at h
        refine V.iload_n C 3 rfl rfl d_Mo_shown_19 ?_
        refine V.if_lt C 33 (by decide) d_Mo_shown_20 (fun c21 => ?_) (fun c21 => ?_)
        · rw [if_pos c21] at h
          refine V.iconst C 1 (by decide) d_Mo_shown_33 ?_
          obtain ⟨F22, e23, h⟩ := Option.bind_eq_some_iff.mp h
          refine V.xputI C fl_Mo_92 ft_9 fi_9_3 e23 d_Mo_shown_34 ?_
          refine V.aload_n C 0 rfl rfl d_Mo_shown_37 ?_
          obtain ⟨v24, e25, h⟩ := Option.bind_eq_some_iff.mp h
          refine V.xgetI C fl_Mo_92 e25 d_Mo_shown_38 ?_
          refine V.if_le C 46 (by decide) d_Mo_shown_41 (fun c26 => ?_) (fun c26 => ?_)
          · rw [if_pos c26] at h
            refine V.iconst C 0 (by decide) d_Mo_shown_46 ?_
            refine V.is4 C (by decide) rfl d_Mo_shown_47 ?_
            exact V.weak (xsub_spec (by simp [xsub])) ((l_Mo_shown C hr N).1 (0 : Int32) F22 _ _ h)
          · rw [if_neg c26] at h
            refine V.iconst C 0 (by decide) d_Mo_shown_44 ?_
            obtain ⟨rfl, rfl⟩ := Prod.mk.inj (Option.some.inj h)
            exact V.iret C hr d_Mo_shown_45 rfl rfl rfl rfl
        · rw [if_neg c21] at h
          refine V.iload_n C 3 rfl rfl d_Mo_shown_23 ?_
          refine V.bipush C 24 (by decide) d_Mo_shown_24 ?_
          refine V.icmp_ge C 33 (by decide) d_Mo_shown_26 (fun c27 => ?_) (fun c27 => ?_)
          · rw [if_pos c27] at h
            refine V.iconst C 1 (by decide) d_Mo_shown_33 ?_
            obtain ⟨F28, e29, h⟩ := Option.bind_eq_some_iff.mp h
            refine V.xputI C fl_Mo_92 ft_9 fi_9_3 e29 d_Mo_shown_34 ?_
            refine V.aload_n C 0 rfl rfl d_Mo_shown_37 ?_
            obtain ⟨v30, e31, h⟩ := Option.bind_eq_some_iff.mp h
            refine V.xgetI C fl_Mo_92 e31 d_Mo_shown_38 ?_
            refine V.if_le C 46 (by decide) d_Mo_shown_41 (fun c32 => ?_) (fun c32 => ?_)
            · rw [if_pos c32] at h
              refine V.iconst C 0 (by decide) d_Mo_shown_46 ?_
              refine V.is4 C (by decide) rfl d_Mo_shown_47 ?_
              exact V.weak (xsub_spec (by simp [xsub])) ((l_Mo_shown C hr N).1 (0 : Int32) F28 _ _ h)
            · rw [if_neg c32] at h
              refine V.iconst C 0 (by decide) d_Mo_shown_44 ?_
              obtain ⟨rfl, rfl⟩ := Prod.mk.inj (Option.some.inj h)
              exact V.iret C hr d_Mo_shown_45 rfl rfl rfl rfl
          · rw [if_neg c27] at h
            refine V.iconst C 0 (by decide) d_Mo_shown_29 ?_
            refine V.goto C 34 (by decide) d_Mo_shown_30 ?_
            obtain ⟨F33, e34, h⟩ := Option.bind_eq_some_iff.mp h
            refine V.xputI C fl_Mo_92 ft_9 fi_9_3 e34 d_Mo_shown_34 ?_
            refine V.aload_n C 0 rfl rfl d_Mo_shown_37 ?_
            obtain ⟨v35, e36, h⟩ := Option.bind_eq_some_iff.mp h
            refine V.xgetI C fl_Mo_92 e36 d_Mo_shown_38 ?_
            refine V.if_le C 46 (by decide) d_Mo_shown_41 (fun c37 => ?_) (fun c37 => ?_)
            · rw [if_pos c37] at h
              refine V.iconst C 0 (by decide) d_Mo_shown_46 ?_
              refine V.is4 C (by decide) rfl d_Mo_shown_47 ?_
              exact V.weak (xsub_spec (by simp [xsub])) ((l_Mo_shown C hr N).1 (0 : Int32) F33 _ _ h)
            · rw [if_neg c37] at h
              refine V.iconst C 0 (by decide) d_Mo_shown_44 ?_
              obtain ⟨rfl, rfl⟩ := Prod.mk.inj (Option.some.inj h)
              exact V.iret C hr d_Mo_shown_45 rfl rfl rfl rfl
def f_Mo_symbol (S : List xO) (a : Nat) (p0 : Int32) (p1 : Int32) (p2 : Int32) (F : xF) : Option (Int32 × xF) :=
  (xcl S 9 a (f_Mo_isFrame S a p0 F)).bind fun v1 =>
  if v1 = (0 : Int32) then
    (pI S 9 a 3 (1 : Int32) F).bind fun F4 =>
    (gI S 9 a 3 F4).bind fun v6 =>
    if v6 ≤ (0 : Int32) then
      (gR S 9 a 31).bind fun q9 =>
      (aG S q9 ((((576 : Int32) * p0) + ((24 : Int32) * p2)) + p1) F4).bind fun v11 =>
      some (v11, F4)
    else
    some ((0 : Int32), F4)
  else
  if p1 < (0 : Int32) then
    (pI S 9 a 3 (1 : Int32) F).bind fun F14 =>
    (gI S 9 a 3 F14).bind fun v16 =>
    if v16 ≤ (0 : Int32) then
      (gR S 9 a 31).bind fun q19 =>
      (aG S q19 ((((576 : Int32) * p0) + ((24 : Int32) * p2)) + p1) F14).bind fun v21 =>
      some (v21, F14)
    else
    some ((0 : Int32), F14)
  else
  (gR S 9 a 26).bind fun q23 =>
  (aG S q23 p0 F).bind fun v25 =>
  if v25 ≤ p1 then
    (pI S 9 a 3 (1 : Int32) F).bind fun F28 =>
    (gI S 9 a 3 F28).bind fun v30 =>
    if v30 ≤ (0 : Int32) then
      (gR S 9 a 31).bind fun q33 =>
      (aG S q33 ((((576 : Int32) * p0) + ((24 : Int32) * p2)) + p1) F28).bind fun v35 =>
      some (v35, F28)
    else
    some ((0 : Int32), F28)
  else
  if p2 < (0 : Int32) then
    (pI S 9 a 3 (1 : Int32) F).bind fun F38 =>
    (gI S 9 a 3 F38).bind fun v40 =>
    if v40 ≤ (0 : Int32) then
      (gR S 9 a 31).bind fun q43 =>
      (aG S q43 ((((576 : Int32) * p0) + ((24 : Int32) * p2)) + p1) F38).bind fun v45 =>
      some (v45, F38)
    else
    some ((0 : Int32), F38)
  else
  (gR S 9 a 27).bind fun q47 =>
  (aG S q47 p0 F).bind fun v49 =>
  if v49 ≤ p2 then
    (pI S 9 a 3 (1 : Int32) F).bind fun F52 =>
    (gI S 9 a 3 F52).bind fun v54 =>
    if v54 ≤ (0 : Int32) then
      (gR S 9 a 31).bind fun q57 =>
      (aG S q57 ((((576 : Int32) * p0) + ((24 : Int32) * p2)) + p1) F52).bind fun v59 =>
      some (v59, F52)
    else
    some ((0 : Int32), F52)
  else
  (pI S 9 a 3 (0 : Int32) F).bind fun F61 =>
  (gI S 9 a 3 F61).bind fun v63 =>
  if v63 ≤ (0 : Int32) then
    (gR S 9 a 31).bind fun q66 =>
    (aG S q66 ((((576 : Int32) * p0) + ((24 : Int32) * p2)) + p1) F61).bind fun v68 =>
    some (v68, F61)
  else
  some ((0 : Int32), F61)
set_option maxHeartbeats 4000000 in
set_option maxRecDepth 100000 in
theorem c_Mo_symbol {l : Launch} {g : xG} {S : List xO} {G : xL} {a : Nat} {p0 : Int32} {p1 : Int32} {p2 : Int32} {F : xF} {r : Int32} {F2 : xF} (h : f_Mo_symbol S a p0 p1 p2 F = some (r, F2)) : CT l g 1 21 0 0 y_Mo_symbol b_Mo_symbol 4 (some .int) 1 [.ref a, .int p0, .int p1, .int p2] S F G (some (.int r)) S F2 G := by
  refine CT.of [some (.ref a), some (.int p0), some (.int p1), some (.int p2)] (by decide) (Nat.le_of_ble_eq_true rfl) rfl ?_
  intro p e s m args below meth c C hr hmn hz
  unfold f_Mo_symbol at h
  refine V.aload_n C 0 rfl rfl d_Mo_symbol_0 ?_
  refine V.aload_n C 0 rfl rfl d_Mo_symbol_1 ?_
  refine V.iload_n C 1 rfl rfl d_Mo_symbol_2 ?_
  obtain ⟨v1, e2, h⟩ := Option.bind_eq_some_iff.mp h
  obtain ⟨⟨fs_e2, s_e2⟩, e2⟩ := xcl_spec e2
  refine V.cVr C (c_Mo_isFrame e2) ml_Mo_160 s_e2 rfl rfl (by decide) (Nat.le_of_ble_eq_true rfl) d_Mo_symbol_3 ?_
  refine V.if_eq C 41 (by decide) d_Mo_symbol_6 (fun c3 => ?_) (fun c3 => ?_)
  · rw [if_pos c3] at h
    refine V.iconst C 1 (by decide) d_Mo_symbol_41 ?_
    obtain ⟨F4, e5, h⟩ := Option.bind_eq_some_iff.mp h
    refine V.xputI C fl_Mo_92 ft_9 fi_9_3 e5 d_Mo_symbol_42 ?_
    refine V.aload_n C 0 rfl rfl d_Mo_symbol_45 ?_
    obtain ⟨v6, e7, h⟩ := Option.bind_eq_some_iff.mp h
    refine V.xgetI C fl_Mo_92 e7 d_Mo_symbol_46 ?_
    refine V.if_le C 56 (by decide) d_Mo_symbol_49 (fun c8 => ?_) (fun c8 => ?_)
    · rw [if_pos c8] at h
      refine V.aload_n C 0 rfl rfl d_Mo_symbol_56 ?_
      obtain ⟨q9, e10, h⟩ := Option.bind_eq_some_iff.mp h
      refine V.xgetR C fl_Mo_62 e10 d_Mo_symbol_57 ?_
      refine V.sipush C 576 (by decide) d_Mo_symbol_60 ?_
      refine V.iload_n C 1 rfl rfl d_Mo_symbol_63 ?_
      refine V.imul C d_Mo_symbol_64 ?_
      refine V.bipush C 24 (by decide) d_Mo_symbol_65 ?_
      refine V.iload_n C 3 rfl rfl d_Mo_symbol_67 ?_
      refine V.imul C d_Mo_symbol_68 ?_
      refine V.iadd C d_Mo_symbol_69 ?_
      refine V.iload_n C 2 rfl rfl d_Mo_symbol_70 ?_
      refine V.iadd C d_Mo_symbol_71 ?_
      obtain ⟨v11, e12, h⟩ := Option.bind_eq_some_iff.mp h
      refine V.xiald C e12 d_Mo_symbol_72 ?_
      obtain ⟨rfl, rfl⟩ := Prod.mk.inj (Option.some.inj h)
      exact V.iret C hr d_Mo_symbol_73 rfl rfl rfl rfl
    · rw [if_neg c8] at h
      refine V.iconst C 0 (by decide) d_Mo_symbol_52 ?_
      refine V.goto C 73 (by decide) d_Mo_symbol_53 ?_
      obtain ⟨rfl, rfl⟩ := Prod.mk.inj (Option.some.inj h)
      exact V.iret C hr d_Mo_symbol_73 rfl rfl rfl rfl
  · rw [if_neg c3] at h
    refine V.iload_n C 2 rfl rfl d_Mo_symbol_9 ?_
    refine V.if_lt C 41 (by decide) d_Mo_symbol_10 (fun c13 => ?_) (fun c13 => ?_)
    · rw [if_pos c13] at h
      refine V.iconst C 1 (by decide) d_Mo_symbol_41 ?_
      obtain ⟨F14, e15, h⟩ := Option.bind_eq_some_iff.mp h
      refine V.xputI C fl_Mo_92 ft_9 fi_9_3 e15 d_Mo_symbol_42 ?_
      refine V.aload_n C 0 rfl rfl d_Mo_symbol_45 ?_
      obtain ⟨v16, e17, h⟩ := Option.bind_eq_some_iff.mp h
      refine V.xgetI C fl_Mo_92 e17 d_Mo_symbol_46 ?_
      refine V.if_le C 56 (by decide) d_Mo_symbol_49 (fun c18 => ?_) (fun c18 => ?_)
      · rw [if_pos c18] at h
        refine V.aload_n C 0 rfl rfl d_Mo_symbol_56 ?_
        obtain ⟨q19, e20, h⟩ := Option.bind_eq_some_iff.mp h
        refine V.xgetR C fl_Mo_62 e20 d_Mo_symbol_57 ?_
        refine V.sipush C 576 (by decide) d_Mo_symbol_60 ?_
        refine V.iload_n C 1 rfl rfl d_Mo_symbol_63 ?_
        refine V.imul C d_Mo_symbol_64 ?_
        refine V.bipush C 24 (by decide) d_Mo_symbol_65 ?_
        refine V.iload_n C 3 rfl rfl d_Mo_symbol_67 ?_
        refine V.imul C d_Mo_symbol_68 ?_
        refine V.iadd C d_Mo_symbol_69 ?_
        refine V.iload_n C 2 rfl rfl d_Mo_symbol_70 ?_
        refine V.iadd C d_Mo_symbol_71 ?_
        obtain ⟨v21, e22, h⟩ := Option.bind_eq_some_iff.mp h
        refine V.xiald C e22 d_Mo_symbol_72 ?_
        obtain ⟨rfl, rfl⟩ := Prod.mk.inj (Option.some.inj h)
        exact V.iret C hr d_Mo_symbol_73 rfl rfl rfl rfl
      · rw [if_neg c18] at h
        refine V.iconst C 0 (by decide) d_Mo_symbol_52 ?_
        refine V.goto C 73 (by decide) d_Mo_symbol_53 ?_
        obtain ⟨rfl, rfl⟩ := Prod.mk.inj (Option.some.inj h)
        exact V.iret C hr d_Mo_symbol_73 rfl rfl rfl rfl
    · rw [if_neg c13] at h
      refine V.iload_n C 2 rfl rfl d_Mo_symbol_13 ?_
      refine V.aload_n C 0 rfl rfl d_Mo_symbol_14 ?_
      obtain ⟨q23, e24, h⟩ := Option.bind_eq_some_iff.mp h
      refine V.xgetR C fl_Mo_47 e24 d_Mo_symbol_15 ?_
      refine V.iload_n C 1 rfl rfl d_Mo_symbol_18 ?_
      obtain ⟨v25, e26, h⟩ := Option.bind_eq_some_iff.mp h
      refine V.xiald C e26 d_Mo_symbol_19 ?_
      refine V.icmp_ge C 41 (by decide) d_Mo_symbol_20 (fun c27 => ?_) (fun c27 => ?_)
      · rw [if_pos c27] at h
        refine V.iconst C 1 (by decide) d_Mo_symbol_41 ?_
        obtain ⟨F28, e29, h⟩ := Option.bind_eq_some_iff.mp h
        refine V.xputI C fl_Mo_92 ft_9 fi_9_3 e29 d_Mo_symbol_42 ?_
        refine V.aload_n C 0 rfl rfl d_Mo_symbol_45 ?_
        obtain ⟨v30, e31, h⟩ := Option.bind_eq_some_iff.mp h
        refine V.xgetI C fl_Mo_92 e31 d_Mo_symbol_46 ?_
        refine V.if_le C 56 (by decide) d_Mo_symbol_49 (fun c32 => ?_) (fun c32 => ?_)
        · rw [if_pos c32] at h
          refine V.aload_n C 0 rfl rfl d_Mo_symbol_56 ?_
          obtain ⟨q33, e34, h⟩ := Option.bind_eq_some_iff.mp h
          refine V.xgetR C fl_Mo_62 e34 d_Mo_symbol_57 ?_
          refine V.sipush C 576 (by decide) d_Mo_symbol_60 ?_
          refine V.iload_n C 1 rfl rfl d_Mo_symbol_63 ?_
          refine V.imul C d_Mo_symbol_64 ?_
          refine V.bipush C 24 (by decide) d_Mo_symbol_65 ?_
          refine V.iload_n C 3 rfl rfl d_Mo_symbol_67 ?_
          refine V.imul C d_Mo_symbol_68 ?_
          refine V.iadd C d_Mo_symbol_69 ?_
          refine V.iload_n C 2 rfl rfl d_Mo_symbol_70 ?_
          refine V.iadd C d_Mo_symbol_71 ?_
          obtain ⟨v35, e36, h⟩ := Option.bind_eq_some_iff.mp h
          refine V.xiald C e36 d_Mo_symbol_72 ?_
          obtain ⟨rfl, rfl⟩ := Prod.mk.inj (Option.some.inj h)
          exact V.iret C hr d_Mo_symbol_73 rfl rfl rfl rfl
        · rw [if_neg c32] at h
          refine V.iconst C 0 (by decide) d_Mo_symbol_52 ?_
          refine V.goto C 73 (by decide) d_Mo_symbol_53 ?_
          obtain ⟨rfl, rfl⟩ := Prod.mk.inj (Option.some.inj h)
          exact V.iret C hr d_Mo_symbol_73 rfl rfl rfl rfl
      · rw [if_neg c27] at h
        refine V.iload_n C 3 rfl rfl d_Mo_symbol_23 ?_
        refine V.if_lt C 41 (by decide) d_Mo_symbol_24 (fun c37 => ?_) (fun c37 => ?_)
        · rw [if_pos c37] at h
          refine V.iconst C 1 (by decide) d_Mo_symbol_41 ?_
          obtain ⟨F38, e39, h⟩ := Option.bind_eq_some_iff.mp h
          refine V.xputI C fl_Mo_92 ft_9 fi_9_3 e39 d_Mo_symbol_42 ?_
          refine V.aload_n C 0 rfl rfl d_Mo_symbol_45 ?_
          obtain ⟨v40, e41, h⟩ := Option.bind_eq_some_iff.mp h
          refine V.xgetI C fl_Mo_92 e41 d_Mo_symbol_46 ?_
          refine V.if_le C 56 (by decide) d_Mo_symbol_49 (fun c42 => ?_) (fun c42 => ?_)
          · rw [if_pos c42] at h
            refine V.aload_n C 0 rfl rfl d_Mo_symbol_56 ?_
            obtain ⟨q43, e44, h⟩ := Option.bind_eq_some_iff.mp h
            refine V.xgetR C fl_Mo_62 e44 d_Mo_symbol_57 ?_
            refine V.sipush C 576 (by decide) d_Mo_symbol_60 ?_
            refine V.iload_n C 1 rfl rfl d_Mo_symbol_63 ?_
            refine V.imul C d_Mo_symbol_64 ?_
            refine V.bipush C 24 (by decide) d_Mo_symbol_65 ?_
            refine V.iload_n C 3 rfl rfl d_Mo_symbol_67 ?_
            refine V.imul C d_Mo_symbol_68 ?_
            refine V.iadd C d_Mo_symbol_69 ?_
            refine V.iload_n C 2 rfl rfl d_Mo_symbol_70 ?_
            refine V.iadd C d_Mo_symbol_71 ?_
            obtain ⟨v45, e46, h⟩ := Option.bind_eq_some_iff.mp h
            refine V.xiald C e46 d_Mo_symbol_72 ?_
            obtain ⟨rfl, rfl⟩ := Prod.mk.inj (Option.some.inj h)
            exact V.iret C hr d_Mo_symbol_73 rfl rfl rfl rfl
          · rw [if_neg c42] at h
            refine V.iconst C 0 (by decide) d_Mo_symbol_52 ?_
            refine V.goto C 73 (by decide) d_Mo_symbol_53 ?_
            obtain ⟨rfl, rfl⟩ := Prod.mk.inj (Option.some.inj h)
            exact V.iret C hr d_Mo_symbol_73 rfl rfl rfl rfl
        · rw [if_neg c37] at h
          refine V.iload_n C 3 rfl rfl d_Mo_symbol_27 ?_
          refine V.aload_n C 0 rfl rfl d_Mo_symbol_28 ?_
          obtain ⟨q47, e48, h⟩ := Option.bind_eq_some_iff.mp h
          refine V.xgetR C fl_Mo_50 e48 d_Mo_symbol_29 ?_
          refine V.iload_n C 1 rfl rfl d_Mo_symbol_32 ?_
          obtain ⟨v49, e50, h⟩ := Option.bind_eq_some_iff.mp h
          refine V.xiald C e50 d_Mo_symbol_33 ?_
          refine V.icmp_ge C 41 (by decide) d_Mo_symbol_34 (fun c51 => ?_) (fun c51 => ?_)
          · rw [if_pos c51] at h
            refine V.iconst C 1 (by decide) d_Mo_symbol_41 ?_
            obtain ⟨F52, e53, h⟩ := Option.bind_eq_some_iff.mp h
            refine V.xputI C fl_Mo_92 ft_9 fi_9_3 e53 d_Mo_symbol_42 ?_
            refine V.aload_n C 0 rfl rfl d_Mo_symbol_45 ?_
            obtain ⟨v54, e55, h⟩ := Option.bind_eq_some_iff.mp h
            refine V.xgetI C fl_Mo_92 e55 d_Mo_symbol_46 ?_
            refine V.if_le C 56 (by decide) d_Mo_symbol_49 (fun c56 => ?_) (fun c56 => ?_)
            · rw [if_pos c56] at h
              refine V.aload_n C 0 rfl rfl d_Mo_symbol_56 ?_
              obtain ⟨q57, e58, h⟩ := Option.bind_eq_some_iff.mp h
              refine V.xgetR C fl_Mo_62 e58 d_Mo_symbol_57 ?_
              refine V.sipush C 576 (by decide) d_Mo_symbol_60 ?_
              refine V.iload_n C 1 rfl rfl d_Mo_symbol_63 ?_
              refine V.imul C d_Mo_symbol_64 ?_
              refine V.bipush C 24 (by decide) d_Mo_symbol_65 ?_
              refine V.iload_n C 3 rfl rfl d_Mo_symbol_67 ?_
              refine V.imul C d_Mo_symbol_68 ?_
              refine V.iadd C d_Mo_symbol_69 ?_
              refine V.iload_n C 2 rfl rfl d_Mo_symbol_70 ?_
              refine V.iadd C d_Mo_symbol_71 ?_
              obtain ⟨v59, e60, h⟩ := Option.bind_eq_some_iff.mp h
              refine V.xiald C e60 d_Mo_symbol_72 ?_
              obtain ⟨rfl, rfl⟩ := Prod.mk.inj (Option.some.inj h)
              exact V.iret C hr d_Mo_symbol_73 rfl rfl rfl rfl
            · rw [if_neg c56] at h
              refine V.iconst C 0 (by decide) d_Mo_symbol_52 ?_
              refine V.goto C 73 (by decide) d_Mo_symbol_53 ?_
              obtain ⟨rfl, rfl⟩ := Prod.mk.inj (Option.some.inj h)
              exact V.iret C hr d_Mo_symbol_73 rfl rfl rfl rfl
          · rw [if_neg c51] at h
            refine V.iconst C 0 (by decide) d_Mo_symbol_37 ?_
            refine V.goto C 42 (by decide) d_Mo_symbol_38 ?_
            obtain ⟨F61, e62, h⟩ := Option.bind_eq_some_iff.mp h
            refine V.xputI C fl_Mo_92 ft_9 fi_9_3 e62 d_Mo_symbol_42 ?_
            refine V.aload_n C 0 rfl rfl d_Mo_symbol_45 ?_
            obtain ⟨v63, e64, h⟩ := Option.bind_eq_some_iff.mp h
            refine V.xgetI C fl_Mo_92 e64 d_Mo_symbol_46 ?_
            refine V.if_le C 56 (by decide) d_Mo_symbol_49 (fun c65 => ?_) (fun c65 => ?_)
            · rw [if_pos c65] at h
              refine V.aload_n C 0 rfl rfl d_Mo_symbol_56 ?_
              obtain ⟨q66, e67, h⟩ := Option.bind_eq_some_iff.mp h
              refine V.xgetR C fl_Mo_62 e67 d_Mo_symbol_57 ?_
              refine V.sipush C 576 (by decide) d_Mo_symbol_60 ?_
              refine V.iload_n C 1 rfl rfl d_Mo_symbol_63 ?_
              refine V.imul C d_Mo_symbol_64 ?_
              refine V.bipush C 24 (by decide) d_Mo_symbol_65 ?_
              refine V.iload_n C 3 rfl rfl d_Mo_symbol_67 ?_
              refine V.imul C d_Mo_symbol_68 ?_
              refine V.iadd C d_Mo_symbol_69 ?_
              refine V.iload_n C 2 rfl rfl d_Mo_symbol_70 ?_
              refine V.iadd C d_Mo_symbol_71 ?_
              obtain ⟨v68, e69, h⟩ := Option.bind_eq_some_iff.mp h
              refine V.xiald C e69 d_Mo_symbol_72 ?_
              obtain ⟨rfl, rfl⟩ := Prod.mk.inj (Option.some.inj h)
              exact V.iret C hr d_Mo_symbol_73 rfl rfl rfl rfl
            · rw [if_neg c65] at h
              refine V.iconst C 0 (by decide) d_Mo_symbol_52 ?_
              refine V.goto C 73 (by decide) d_Mo_symbol_53 ?_
              obtain ⟨rfl, rfl⟩ := Prod.mk.inj (Option.some.inj h)
              exact V.iret C hr d_Mo_symbol_73 rfl rfl rfl rfl
def t_Mo_when (S : List xO) (N : Nat) (a : Nat) (p0 : Int32) (p1 : Int32) : Nat → Nat → Int64 → Int32 → Int64 → Int32 → xF → Option (Int32 × xF)
  | 0, _, _, _, _, _, _ => none
  | n + 1, tg, l3, u5, l5, u7, F =>
    if tg = 0 then
      (gI S 9 a 23 F).bind fun v18 =>
      if v18 ≤ u5 then
        (gI S 9 a 23 F).bind fun v21 =>
        if v21 = (0 : Int32) then
          (gI S 9 a 23 F).bind fun v24 =>
          some (v24 - (1 : Int32), F)
        else
        if (lg_cmp l3 ((0 : Int64))) = (0 : Int32) then
          (gI S 9 a 23 F).bind fun v27 =>
          some (v27 - (1 : Int32), F)
        else
        if p1 ≤ (0 : Int32) then
          if l3 = (0 : Int64) then none else
          t_Mo_when S N a p0 p1 n 1 l3 0 (p0.toInt64 - p0.toInt64 / l3 * l3) (0 : Int32) F
        else
        if (lg_cmp p0.toInt64 (l3 * p1.toInt64)) < (0 : Int32) then
          if l3 = (0 : Int64) then none else
          t_Mo_when S N a p0 p1 n 1 l3 0 (p0.toInt64 - p0.toInt64 / l3 * l3) (0 : Int32) F
        else
        (gI S 9 a 23 F).bind fun v33 =>
        some (v33 - (1 : Int32), F)
      else
      (gR S 9 a 29).bind fun q35 =>
      (aG S q35 u5 F).bind fun v37 =>
      t_Mo_when S N a p0 p1 n 0 (l3 + v37.toInt64) (u5 + (1 : Int32)) 0 0 F
    else
    (gR S 9 a 29).bind fun q39 =>
    (aG S q39 u7 F).bind fun v41 =>
    if (lg_cmp l5 v41.toInt64) < (0 : Int32) then
      some (u7, F)
    else
    (aG S q39 u7 F).bind fun v44 =>
    t_Mo_when S N a p0 p1 n 1 l3 0 (l5 - v44.toInt64) (u7 + (1 : Int32)) F
set_option maxHeartbeats 4000000 in
set_option maxRecDepth 100000 in
theorem l_Mo_when {p : Program} {l : Launch} {e : Env} {s : State} {m : MethodId} {args : Array Value} {below : List Frame} {meth : Method} {c : Code} {g : xG} {S : List xO} {G : xL} {a : Nat} {p0 : Int32} {p1 : Int32} {N : Nat} (C : Cx p s m args meth c b_Mo_when 8 "PaletteFramesModel" g) (hr : meth.sig.returnType = (some .int)) : ∀ (n : Nat), (∀ (l3 : Int64) (u5 : Int32) (F : xF) (r : Int32) (F2 : xF), t_Mo_when S N a p0 p1 n 0 l3 u5 0 0 F = some (r, F2) → V p l e (xRm 0 0 0 0) s m args below meth c (xMQ g below args s 0 0 S F2 G (some (.int r))) 8 g S F G 0 0 31 [some (.ref a), some (.int p0), some (.int p1), some (.long l3), none, some (.int u5), none, none] []) ∧ (∀ (l3 : Int64) (l5 : Int64) (u7 : Int32) (F : xF) (r : Int32) (F2 : xF), t_Mo_when S N a p0 p1 n 1 l3 0 l5 u7 F = some (r, F2) → V p l e (xRm 0 0 0 0) s m args below meth c (xMQ g below args s 0 0 S F2 G (some (.int r))) 8 g S F G 0 0 100 [some (.ref a), some (.int p0), some (.int p1), some (.long l3), none, some (.long l5), none, some (.int u7)] []) := by
  intro n
  induction n with
  | zero =>
    refine ⟨?_, ?_⟩
    · intro l3 u5 F r F2 h
      cases h
    · intro l3 l5 u7 F r F2 h
      cases h
  | succ n ih =>
    refine ⟨?_, ?_⟩
    · intro l3 u5 F r F2 h
      rw [t_Mo_when] at h
      rw [if_pos rfl] at h
      refine V.iload C rfl d_Mo_when_31 ?_
      refine V.aload_n C 0 rfl rfl d_Mo_when_33 ?_
      obtain ⟨v18, e19, h⟩ := Option.bind_eq_some_iff.mp h
      refine V.xgetI C fl_Mo_110 e19 d_Mo_when_34 ?_
      refine V.icmp_ge C 57 (by decide) d_Mo_when_37 (fun c20 => ?_) (fun c20 => ?_)
      · rw [if_pos c20] at h
        refine V.aload_n C 0 rfl rfl d_Mo_when_57 ?_
        obtain ⟨v21, e22, h⟩ := Option.bind_eq_some_iff.mp h
        refine V.xgetI C fl_Mo_110 e22 d_Mo_when_58 ?_
        refine V.if_eq C 84 (by decide) d_Mo_when_61 (fun c23 => ?_) (fun c23 => ?_)
        · rw [if_pos c23] at h
          refine V.aload_n C 0 rfl rfl d_Mo_when_84 ?_
          obtain ⟨v24, e25, h⟩ := Option.bind_eq_some_iff.mp h
          refine V.xgetI C fl_Mo_110 e25 d_Mo_when_85 ?_
          refine V.iconst C 1 (by decide) d_Mo_when_88 ?_
          refine V.isub C d_Mo_when_89 ?_
          obtain ⟨rfl, rfl⟩ := Prod.mk.inj (Option.some.inj h)
          exact V.iret C hr d_Mo_when_90 rfl rfl rfl rfl
        · rw [if_neg c23] at h
          refine V.lload_n C 3 rfl rfl d_Mo_when_64 ?_
          refine V.lconst C 0 (by decide) d_Mo_when_65 ?_
          refine V.lcmp C d_Mo_when_66 ?_
          refine V.if_eq C 84 (by decide) d_Mo_when_67 (fun c26 => ?_) (fun c26 => ?_)
          · rw [if_pos c26] at h
            refine V.aload_n C 0 rfl rfl d_Mo_when_84 ?_
            obtain ⟨v27, e28, h⟩ := Option.bind_eq_some_iff.mp h
            refine V.xgetI C fl_Mo_110 e28 d_Mo_when_85 ?_
            refine V.iconst C 1 (by decide) d_Mo_when_88 ?_
            refine V.isub C d_Mo_when_89 ?_
            obtain ⟨rfl, rfl⟩ := Prod.mk.inj (Option.some.inj h)
            exact V.iret C hr d_Mo_when_90 rfl rfl rfl rfl
          · rw [if_neg c26] at h
            refine V.iload_n C 2 rfl rfl d_Mo_when_70 ?_
            refine V.if_le C 91 (by decide) d_Mo_when_71 (fun c29 => ?_) (fun c29 => ?_)
            · rw [if_pos c29] at h
              refine V.iload_n C 1 rfl rfl d_Mo_when_91 ?_
              refine V.i2l C d_Mo_when_92 ?_
              refine V.lload_n C 3 rfl rfl d_Mo_when_93 ?_
              have c30 : ¬ l3 = (0 : Int64) := fun q => by rw [if_pos q] at h; cases h
              rw [if_neg c30] at h
              refine V.lrem C c30 d_Mo_when_94 ?_
              refine V.ls5 C (by decide) rfl d_Mo_when_95 ?_
              refine V.iconst C 0 (by decide) d_Mo_when_97 ?_
              refine V.is7 C (by decide) rfl d_Mo_when_98 ?_
              exact V.weak (xsub_spec (by simp [xsub])) (ih.2 l3 (p0.toInt64 - p0.toInt64 / l3 * l3) (0 : Int32) F _ _ h)
            · rw [if_neg c29] at h
              refine V.iload_n C 1 rfl rfl d_Mo_when_74 ?_
              refine V.i2l C d_Mo_when_75 ?_
              refine V.lload_n C 3 rfl rfl d_Mo_when_76 ?_
              refine V.iload_n C 2 rfl rfl d_Mo_when_77 ?_
              refine V.i2l C d_Mo_when_78 ?_
              refine V.lmul C d_Mo_when_79 ?_
              refine V.lcmp C d_Mo_when_80 ?_
              refine V.if_lt C 91 (by decide) d_Mo_when_81 (fun c31 => ?_) (fun c31 => ?_)
              · rw [if_pos c31] at h
                refine V.iload_n C 1 rfl rfl d_Mo_when_91 ?_
                refine V.i2l C d_Mo_when_92 ?_
                refine V.lload_n C 3 rfl rfl d_Mo_when_93 ?_
                have c32 : ¬ l3 = (0 : Int64) := fun q => by rw [if_pos q] at h; cases h
                rw [if_neg c32] at h
                refine V.lrem C c32 d_Mo_when_94 ?_
                refine V.ls5 C (by decide) rfl d_Mo_when_95 ?_
                refine V.iconst C 0 (by decide) d_Mo_when_97 ?_
                refine V.is7 C (by decide) rfl d_Mo_when_98 ?_
                exact V.weak (xsub_spec (by simp [xsub])) (ih.2 l3 (p0.toInt64 - p0.toInt64 / l3 * l3) (0 : Int32) F _ _ h)
              · rw [if_neg c31] at h
                refine V.aload_n C 0 rfl rfl d_Mo_when_84 ?_
                obtain ⟨v33, e34, h⟩ := Option.bind_eq_some_iff.mp h
                refine V.xgetI C fl_Mo_110 e34 d_Mo_when_85 ?_
                refine V.iconst C 1 (by decide) d_Mo_when_88 ?_
                refine V.isub C d_Mo_when_89 ?_
                obtain ⟨rfl, rfl⟩ := Prod.mk.inj (Option.some.inj h)
                exact V.iret C hr d_Mo_when_90 rfl rfl rfl rfl
      · rw [if_neg c20] at h
        refine V.lload_n C 3 rfl rfl d_Mo_when_40 ?_
        refine V.aload_n C 0 rfl rfl d_Mo_when_41 ?_
        obtain ⟨q35, e36, h⟩ := Option.bind_eq_some_iff.mp h
        refine V.xgetR C fl_Mo_56 e36 d_Mo_when_42 ?_
        refine V.iload C rfl d_Mo_when_45 ?_
        obtain ⟨v37, e38, h⟩ := Option.bind_eq_some_iff.mp h
        refine V.xiald C e38 d_Mo_when_47 ?_
        refine V.i2l C d_Mo_when_48 ?_
        refine V.ladd C d_Mo_when_49 ?_
        refine V.ls3 C (by decide) rfl d_Mo_when_50 ?_
        refine V.inc5 C 1 (by decide) (by decide) rfl d_Mo_when_51 ?_
        refine V.goto C 31 (by decide) d_Mo_when_54 ?_
        exact V.weak (xsub_spec (by simp [xsub])) (ih.1 (l3 + v37.toInt64) (u5 + (1 : Int32)) F _ _ h)
    · intro l3 l5 u7 F r F2 h
      rw [t_Mo_when] at h
      rw [if_neg (by decide)] at h
      refine V.lload C rfl d_Mo_when_100 ?_
      refine V.aload_n C 0 rfl rfl d_Mo_when_102 ?_
      obtain ⟨q39, e40, h⟩ := Option.bind_eq_some_iff.mp h
      refine V.xgetR C fl_Mo_56 e40 d_Mo_when_103 ?_
      refine V.iload C rfl d_Mo_when_106 ?_
      obtain ⟨v41, e42, h⟩ := Option.bind_eq_some_iff.mp h
      refine V.xiald C e42 d_Mo_when_108 ?_
      refine V.i2l C d_Mo_when_109 ?_
      refine V.lcmp C d_Mo_when_110 ?_
      refine V.if_lt C 133 (by decide) d_Mo_when_111 (fun c43 => ?_) (fun c43 => ?_)
      · rw [if_pos c43] at h
        refine V.iload C rfl d_Mo_when_133 ?_
        obtain ⟨rfl, rfl⟩ := Prod.mk.inj (Option.some.inj h)
        exact V.iret C hr d_Mo_when_135 rfl rfl rfl rfl
      · rw [if_neg c43] at h
        refine V.lload C rfl d_Mo_when_114 ?_
        refine V.aload_n C 0 rfl rfl d_Mo_when_116 ?_
        refine V.xgetR C fl_Mo_56 e40 d_Mo_when_117 ?_
        refine V.iload C rfl d_Mo_when_120 ?_
        obtain ⟨v44, e45, h⟩ := Option.bind_eq_some_iff.mp h
        refine V.xiald C e45 d_Mo_when_122 ?_
        refine V.i2l C d_Mo_when_123 ?_
        refine V.lsub C d_Mo_when_124 ?_
        refine V.ls5 C (by decide) rfl d_Mo_when_125 ?_
        refine V.inc7 C 1 (by decide) (by decide) rfl d_Mo_when_127 ?_
        refine V.goto C 100 (by decide) d_Mo_when_130 ?_
        exact V.weak (xsub_spec (by simp [xsub])) (ih.2 l3 (l5 - v44.toInt64) (u7 + (1 : Int32)) F _ _ h)
def f_Mo_when (S : List xO) (N : Nat) (a : Nat) (p0 : Int32) (p1 : Int32) (F : xF) : Option (Int32 × xF) :=
  if p0 < (0 : Int32) then
    (pI S 9 a 3 (1 : Int32) F).bind fun F2 =>
    (gI S 9 a 3 F2).bind fun v4 =>
    if v4 ≤ (0 : Int32) then
      t_Mo_when S N a p0 p1 N 0 ((0 : Int64)) (0 : Int32) 0 0 F2
    else
    some ((0 : Int32), F2)
  else
  if (0 : Int32) ≤ p1 then
    (pI S 9 a 3 (0 : Int32) F).bind fun F8 =>
    (gI S 9 a 3 F8).bind fun v10 =>
    if v10 ≤ (0 : Int32) then
      t_Mo_when S N a p0 p1 N 0 ((0 : Int64)) (0 : Int32) 0 0 F8
    else
    some ((0 : Int32), F8)
  else
  (pI S 9 a 3 (1 : Int32) F).bind fun F13 =>
  (gI S 9 a 3 F13).bind fun v15 =>
  if v15 ≤ (0 : Int32) then
    t_Mo_when S N a p0 p1 N 0 ((0 : Int64)) (0 : Int32) 0 0 F13
  else
  some ((0 : Int32), F13)
set_option maxHeartbeats 4000000 in
set_option maxRecDepth 100000 in
theorem c_Mo_when {l : Launch} {g : xG} {S : List xO} {G : xL} {a : Nat} {p0 : Int32} {p1 : Int32} {N : Nat} {F : xF} {r : Int32} {F2 : xF} (h : f_Mo_when S N a p0 p1 F = some (r, F2)) : CT l g 0 0 0 0 y_Mo_when b_Mo_when 8 (some .int) 1 [.ref a, .int p0, .int p1] S F G (some (.int r)) S F2 G := by
  refine CT.of [some (.ref a), some (.int p0), some (.int p1), none, none, none, none, none] (by decide) (Nat.le_of_ble_eq_true rfl) rfl ?_
  intro p e s m args below meth c C hr hmn hz
  unfold f_Mo_when at h
  refine V.aload_n C 0 rfl rfl d_Mo_when_0 ?_
  refine V.iload_n C 1 rfl rfl d_Mo_when_1 ?_
  refine V.if_lt C 9 (by decide) d_Mo_when_2 (fun c1 => ?_) (fun c1 => ?_)
  · rw [if_pos c1] at h
    refine V.iconst C 1 (by decide) d_Mo_when_9 ?_
    refine V.goto C 14 (by decide) d_Mo_when_10 ?_
    obtain ⟨F2, e3, h⟩ := Option.bind_eq_some_iff.mp h
    refine V.xputI C fl_Mo_92 ft_9 fi_9_3 e3 d_Mo_when_14 ?_
    refine V.aload_n C 0 rfl rfl d_Mo_when_17 ?_
    obtain ⟨v4, e5, h⟩ := Option.bind_eq_some_iff.mp h
    refine V.xgetI C fl_Mo_92 e5 d_Mo_when_18 ?_
    refine V.if_le C 26 (by decide) d_Mo_when_21 (fun c6 => ?_) (fun c6 => ?_)
    · rw [if_pos c6] at h
      refine V.lconst C 0 (by decide) d_Mo_when_26 ?_
      refine V.ls3 C (by decide) rfl d_Mo_when_27 ?_
      refine V.iconst C 0 (by decide) d_Mo_when_28 ?_
      refine V.is5 C (by decide) rfl d_Mo_when_29 ?_
      exact V.weak (xsub_spec (by simp [xsub])) ((l_Mo_when C hr N).1 ((0 : Int64)) (0 : Int32) F2 _ _ h)
    · rw [if_neg c6] at h
      refine V.iconst C 0 (by decide) d_Mo_when_24 ?_
      obtain ⟨rfl, rfl⟩ := Prod.mk.inj (Option.some.inj h)
      exact V.iret C hr d_Mo_when_25 rfl rfl rfl rfl
  · rw [if_neg c1] at h
    refine V.iload_n C 2 rfl rfl d_Mo_when_5 ?_
    refine V.if_ge C 13 (by decide) d_Mo_when_6 (fun c7 => ?_) (fun c7 => ?_)
    · rw [if_pos c7] at h
      refine V.iconst C 0 (by decide) d_Mo_when_13 ?_
      obtain ⟨F8, e9, h⟩ := Option.bind_eq_some_iff.mp h
      refine V.xputI C fl_Mo_92 ft_9 fi_9_3 e9 d_Mo_when_14 ?_
      refine V.aload_n C 0 rfl rfl d_Mo_when_17 ?_
      obtain ⟨v10, e11, h⟩ := Option.bind_eq_some_iff.mp h
      refine V.xgetI C fl_Mo_92 e11 d_Mo_when_18 ?_
      refine V.if_le C 26 (by decide) d_Mo_when_21 (fun c12 => ?_) (fun c12 => ?_)
      · rw [if_pos c12] at h
        refine V.lconst C 0 (by decide) d_Mo_when_26 ?_
        refine V.ls3 C (by decide) rfl d_Mo_when_27 ?_
        refine V.iconst C 0 (by decide) d_Mo_when_28 ?_
        refine V.is5 C (by decide) rfl d_Mo_when_29 ?_
        exact V.weak (xsub_spec (by simp [xsub])) ((l_Mo_when C hr N).1 ((0 : Int64)) (0 : Int32) F8 _ _ h)
      · rw [if_neg c12] at h
        refine V.iconst C 0 (by decide) d_Mo_when_24 ?_
        obtain ⟨rfl, rfl⟩ := Prod.mk.inj (Option.some.inj h)
        exact V.iret C hr d_Mo_when_25 rfl rfl rfl rfl
    · rw [if_neg c7] at h
      refine V.iconst C 1 (by decide) d_Mo_when_9 ?_
      refine V.goto C 14 (by decide) d_Mo_when_10 ?_
      obtain ⟨F13, e14, h⟩ := Option.bind_eq_some_iff.mp h
      refine V.xputI C fl_Mo_92 ft_9 fi_9_3 e14 d_Mo_when_14 ?_
      refine V.aload_n C 0 rfl rfl d_Mo_when_17 ?_
      obtain ⟨v15, e16, h⟩ := Option.bind_eq_some_iff.mp h
      refine V.xgetI C fl_Mo_92 e16 d_Mo_when_18 ?_
      refine V.if_le C 26 (by decide) d_Mo_when_21 (fun c17 => ?_) (fun c17 => ?_)
      · rw [if_pos c17] at h
        refine V.lconst C 0 (by decide) d_Mo_when_26 ?_
        refine V.ls3 C (by decide) rfl d_Mo_when_27 ?_
        refine V.iconst C 0 (by decide) d_Mo_when_28 ?_
        refine V.is5 C (by decide) rfl d_Mo_when_29 ?_
        exact V.weak (xsub_spec (by simp [xsub])) ((l_Mo_when C hr N).1 ((0 : Int64)) (0 : Int32) F13 _ _ h)
      · rw [if_neg c17] at h
        refine V.iconst C 0 (by decide) d_Mo_when_24 ?_
        obtain ⟨rfl, rfl⟩ := Prod.mk.inj (Option.some.inj h)
        exact V.iret C hr d_Mo_when_25 rfl rfl rfl rfl
def f_Mo_passOf (S : List xO) (a : Nat) (p0 : Int32) (F : xF) : Option (Int32 × xF) :=
  if (0 : Int32) ≤ p0 then
    (pI S 9 a 3 (0 : Int32) F).bind fun F2 =>
    (gI S 9 a 3 F2).bind fun v4 =>
    if v4 ≤ (0 : Int32) then
      (f_Mo_passNumber S p0 F2).bind fun v7 =>
      some (v7, F2)
    else
    some ((0 : Int32), F2)
  else
  (pI S 9 a 3 (1 : Int32) F).bind fun F9 =>
  (gI S 9 a 3 F9).bind fun v11 =>
  if v11 ≤ (0 : Int32) then
    (f_Mo_passNumber S p0 F9).bind fun v14 =>
    some (v14, F9)
  else
  some ((0 : Int32), F9)
set_option maxHeartbeats 4000000 in
set_option maxRecDepth 100000 in
theorem c_Mo_passOf {l : Launch} {g : xG} {S : List xO} {G : xL} {a : Nat} {p0 : Int32} {F : xF} {r : Int32} {F2 : xF} (h : f_Mo_passOf S a p0 F = some (r, F2)) : CT l g 1 20 0 0 y_Mo_passOf b_Mo_passOf 2 (some .int) 1 [.ref a, .int p0] S F G (some (.int r)) S F2 G := by
  refine CT.of [some (.ref a), some (.int p0)] (by decide) (Nat.le_of_ble_eq_true rfl) rfl ?_
  intro p e s m args below meth c C hr hmn hz
  unfold f_Mo_passOf at h
  refine V.aload_n C 0 rfl rfl d_Mo_passOf_0 ?_
  refine V.iload_n C 1 rfl rfl d_Mo_passOf_1 ?_
  refine V.if_ge C 9 (by decide) d_Mo_passOf_2 (fun c1 => ?_) (fun c1 => ?_)
  · rw [if_pos c1] at h
    refine V.iconst C 0 (by decide) d_Mo_passOf_9 ?_
    obtain ⟨F2, e3, h⟩ := Option.bind_eq_some_iff.mp h
    refine V.xputI C fl_Mo_92 ft_9 fi_9_3 e3 d_Mo_passOf_10 ?_
    refine V.aload_n C 0 rfl rfl d_Mo_passOf_13 ?_
    obtain ⟨v4, e5, h⟩ := Option.bind_eq_some_iff.mp h
    refine V.xgetI C fl_Mo_92 e5 d_Mo_passOf_14 ?_
    refine V.if_le C 24 (by decide) d_Mo_passOf_17 (fun c6 => ?_) (fun c6 => ?_)
    · rw [if_pos c6] at h
      refine V.iload_n C 1 rfl rfl d_Mo_passOf_24 ?_
      obtain ⟨v7, e8, h⟩ := Option.bind_eq_some_iff.mp h
      refine V.cSr C (c_Mo_passNumber e8) ml_Mo_157 rfl rfl (by decide) (Nat.le_of_ble_eq_true rfl) d_Mo_passOf_25 ?_
      obtain ⟨rfl, rfl⟩ := Prod.mk.inj (Option.some.inj h)
      exact V.iret C hr d_Mo_passOf_28 rfl rfl rfl rfl
    · rw [if_neg c6] at h
      refine V.iconst C 0 (by decide) d_Mo_passOf_20 ?_
      refine V.goto C 28 (by decide) d_Mo_passOf_21 ?_
      obtain ⟨rfl, rfl⟩ := Prod.mk.inj (Option.some.inj h)
      exact V.iret C hr d_Mo_passOf_28 rfl rfl rfl rfl
  · rw [if_neg c1] at h
    refine V.iconst C 1 (by decide) d_Mo_passOf_5 ?_
    refine V.goto C 10 (by decide) d_Mo_passOf_6 ?_
    obtain ⟨F9, e10, h⟩ := Option.bind_eq_some_iff.mp h
    refine V.xputI C fl_Mo_92 ft_9 fi_9_3 e10 d_Mo_passOf_10 ?_
    refine V.aload_n C 0 rfl rfl d_Mo_passOf_13 ?_
    obtain ⟨v11, e12, h⟩ := Option.bind_eq_some_iff.mp h
    refine V.xgetI C fl_Mo_92 e12 d_Mo_passOf_14 ?_
    refine V.if_le C 24 (by decide) d_Mo_passOf_17 (fun c13 => ?_) (fun c13 => ?_)
    · rw [if_pos c13] at h
      refine V.iload_n C 1 rfl rfl d_Mo_passOf_24 ?_
      obtain ⟨v14, e15, h⟩ := Option.bind_eq_some_iff.mp h
      refine V.cSr C (c_Mo_passNumber e15) ml_Mo_157 rfl rfl (by decide) (Nat.le_of_ble_eq_true rfl) d_Mo_passOf_25 ?_
      obtain ⟨rfl, rfl⟩ := Prod.mk.inj (Option.some.inj h)
      exact V.iret C hr d_Mo_passOf_28 rfl rfl rfl rfl
    · rw [if_neg c13] at h
      refine V.iconst C 0 (by decide) d_Mo_passOf_20 ?_
      refine V.goto C 28 (by decide) d_Mo_passOf_21 ?_
      obtain ⟨rfl, rfl⟩ := Prod.mk.inj (Option.some.inj h)
      exact V.iret C hr d_Mo_passOf_28 rfl rfl rfl rfl
def f_Mo_told (S : List xO) (a : Nat) (p0 : Int32) (F : xF) : Option (Int32 × xF) :=
  (pI S 9 a 3 (0 : Int32) F).bind fun F1 =>
  if p0 = (0 : Int32) then
    (gI S 9 a 0 F1).bind fun v4 =>
    some (v4, F1)
  else
  if p0 = (1 : Int32) then
    (gI S 9 a 5 F1).bind fun v7 =>
    some (v7, F1)
  else
  if p0 = (2 : Int32) then
    (gI S 9 a 10 F1).bind fun v10 =>
    some (v10, F1)
  else
  if p0 = (3 : Int32) then
    (gI S 9 a 12 F1).bind fun v13 =>
    some (v13, F1)
  else
  if p0 = (4 : Int32) then
    (gI S 9 a 23 F1).bind fun v16 =>
    some (v16, F1)
  else
  some ((-1 : Int32), F1)
set_option maxHeartbeats 4000000 in
set_option maxRecDepth 100000 in
theorem c_Mo_told {l : Launch} {g : xG} {S : List xO} {G : xL} {a : Nat} {p0 : Int32} {F : xF} {r : Int32} {F2 : xF} (h : f_Mo_told S a p0 F = some (r, F2)) : CT l g 0 0 0 0 y_Mo_told b_Mo_told 2 (some .int) 1 [.ref a, .int p0] S F G (some (.int r)) S F2 G := by
  refine CT.of [some (.ref a), some (.int p0)] (by decide) (Nat.le_of_ble_eq_true rfl) rfl ?_
  intro p e s m args below meth c C hr hmn hz
  unfold f_Mo_told at h
  refine V.aload_n C 0 rfl rfl d_Mo_told_0 ?_
  refine V.iconst C 0 (by decide) d_Mo_told_1 ?_
  obtain ⟨F1, e2, h⟩ := Option.bind_eq_some_iff.mp h
  refine V.xputI C fl_Mo_92 ft_9 fi_9_3 e2 d_Mo_told_2 ?_
  refine V.iload_n C 1 rfl rfl d_Mo_told_5 ?_
  by_cases c3 : p0 = (0 : Int32)
  · rw [if_pos c3] at h
    refine V.tableIn C 40 (by rw [c3]; decide) (by rw [c3]; decide) (by rw [c3]; rfl) (by decide) d_Mo_told_6 ?_
    refine V.aload_n C 0 rfl rfl d_Mo_told_40 ?_
    obtain ⟨v4, e5, h⟩ := Option.bind_eq_some_iff.mp h
    refine V.xgetI C fl_Mo_80 e5 d_Mo_told_41 ?_
    obtain ⟨rfl, rfl⟩ := Prod.mk.inj (Option.some.inj h)
    exact V.iret C hr d_Mo_told_44 rfl rfl rfl rfl
  rw [if_neg c3] at h
  by_cases c6 : p0 = (1 : Int32)
  · rw [if_pos c6] at h
    refine V.tableIn C 45 (by rw [c6]; decide) (by rw [c6]; decide) (by rw [c6]; rfl) (by decide) d_Mo_told_6 ?_
    refine V.aload_n C 0 rfl rfl d_Mo_told_45 ?_
    obtain ⟨v7, e8, h⟩ := Option.bind_eq_some_iff.mp h
    refine V.xgetI C fl_Mo_98 e8 d_Mo_told_46 ?_
    obtain ⟨rfl, rfl⟩ := Prod.mk.inj (Option.some.inj h)
    exact V.iret C hr d_Mo_told_49 rfl rfl rfl rfl
  rw [if_neg c6] at h
  by_cases c9 : p0 = (2 : Int32)
  · rw [if_pos c9] at h
    refine V.tableIn C 50 (by rw [c9]; decide) (by rw [c9]; decide) (by rw [c9]; rfl) (by decide) d_Mo_told_6 ?_
    refine V.aload_n C 0 rfl rfl d_Mo_told_50 ?_
    obtain ⟨v10, e11, h⟩ := Option.bind_eq_some_iff.mp h
    refine V.xgetI C fl_Mo_104 e11 d_Mo_told_51 ?_
    obtain ⟨rfl, rfl⟩ := Prod.mk.inj (Option.some.inj h)
    exact V.iret C hr d_Mo_told_54 rfl rfl rfl rfl
  rw [if_neg c9] at h
  by_cases c12 : p0 = (3 : Int32)
  · rw [if_pos c12] at h
    refine V.tableIn C 55 (by rw [c12]; decide) (by rw [c12]; decide) (by rw [c12]; rfl) (by decide) d_Mo_told_6 ?_
    refine V.aload_n C 0 rfl rfl d_Mo_told_55 ?_
    obtain ⟨v13, e14, h⟩ := Option.bind_eq_some_iff.mp h
    refine V.xgetI C fl_Mo_107 e14 d_Mo_told_56 ?_
    obtain ⟨rfl, rfl⟩ := Prod.mk.inj (Option.some.inj h)
    exact V.iret C hr d_Mo_told_59 rfl rfl rfl rfl
  rw [if_neg c12] at h
  by_cases c15 : p0 = (4 : Int32)
  · rw [if_pos c15] at h
    refine V.tableIn C 60 (by rw [c15]; decide) (by rw [c15]; decide) (by rw [c15]; rfl) (by decide) d_Mo_told_6 ?_
    refine V.aload_n C 0 rfl rfl d_Mo_told_60 ?_
    obtain ⟨v16, e17, h⟩ := Option.bind_eq_some_iff.mp h
    refine V.xgetI C fl_Mo_110 e17 d_Mo_told_61 ?_
    obtain ⟨rfl, rfl⟩ := Prod.mk.inj (Option.some.inj h)
    exact V.iret C hr d_Mo_told_64 rfl rfl rfl rfl
  rw [if_neg c15] at h
  have k_c3 := lv_neT c3 (show (0 : Int32).toInt = 0 by decide)
  have k_c6 := lv_neT c6 (show (1 : Int32).toInt = 1 by decide)
  have k_c9 := lv_neT c9 (show (2 : Int32).toInt = 2 by decide)
  have k_c12 := lv_neT c12 (show (3 : Int32).toInt = 3 by decide)
  have k_c15 := lv_neT c15 (show (4 : Int32).toInt = 4 by decide)
  refine V.tableOut C 65 (by omega) (by decide) d_Mo_told_6 ?_
  refine V.iconst C (-1) (by decide) d_Mo_told_65 ?_
  obtain ⟨rfl, rfl⟩ := Prod.mk.inj (Option.some.inj h)
  exact V.iret C hr d_Mo_told_66 rfl rfl rfl rfl
