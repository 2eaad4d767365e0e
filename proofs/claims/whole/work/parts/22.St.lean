def t_St_empty (S : List xO) (N : Nat) (a : Nat) : Nat → Int32 → xF → Option xF
  | 0, _, _ => none
  | n + 1, u1, F =>
    (gI S 2 a 4 F).bind fun v3 =>
    if v3 < u1 then
      (gI S 2 a 0 F).bind fun v6 =>
      (pI S 2 a 4 v6 F).bind fun F8 =>
      some F8
    else
    (gR S 2 a 1).bind fun q10 =>
    (gR S 2 a 3).bind fun q12 =>
    (aG S q12 u1 F).bind fun v14 =>
    (aP S q10 v14 (0 : Int32) F).bind fun F16 =>
    t_St_empty S N a n (u1 + (1 : Int32)) F16
set_option maxHeartbeats 4000000 in
set_option maxRecDepth 100000 in
theorem l_St_empty {p : Program} {l : Launch} {e : Env} {s : State} {m : MethodId} {args : Array Value} {below : List Frame} {meth : Method} {c : Code} {g : xG} {S : List xO} {G : xL} {a : Nat} {N : Nat} (C : Cx p s m args meth c b_St_empty 2 "PaletteFrames$Strings" g) (hr : meth.sig.returnType = none) : ∀ (n : Nat), (∀ (u1 : Int32) (F : xF) (F2 : xF), t_St_empty S N a n u1 F = some F2 → V p l e (xRm 0 0 0 0) s m args below meth c (xMQ g below args s 0 0 S F2 G none) 2 g S F G 0 0 7 [some (.ref a), some (.int u1)] []) := by
  intro n
  induction n with
  | zero =>
    intro u1 F F2 h
    cases h
  | succ n ih =>
    intro u1 F F2 h
    rw [t_St_empty] at h
    refine V.iload_n C 1 rfl rfl d_St_empty_7 ?_
    refine V.aload_n C 0 rfl rfl d_St_empty_8 ?_
    obtain ⟨v3, e4, h⟩ := Option.bind_eq_some_iff.mp h
    refine V.xgetI C fl_St_25 e4 d_St_empty_9 ?_
    refine V.icmp_gt C 33 (by decide) d_St_empty_12 (fun c5 => ?_) (fun c5 => ?_)
    · rw [if_pos c5] at h
      refine V.aload_n C 0 rfl rfl d_St_empty_33 ?_
      refine V.aload_n C 0 rfl rfl d_St_empty_34 ?_
      obtain ⟨v6, e7, h⟩ := Option.bind_eq_some_iff.mp h
      refine V.xgetI C fl_St_21 e7 d_St_empty_35 ?_
      obtain ⟨F8, e9, h⟩ := Option.bind_eq_some_iff.mp h
      refine V.xputI C fl_St_25 ft_2 fi_2_4 e9 d_St_empty_38 ?_
      obtain rfl := Option.some.inj h
      exact V.vret C hr d_St_empty_41 rfl rfl rfl
    · rw [if_neg c5] at h
      refine V.aload_n C 0 rfl rfl d_St_empty_15 ?_
      obtain ⟨q10, e11, h⟩ := Option.bind_eq_some_iff.mp h
      refine V.xgetR C fl_St_11 e11 d_St_empty_16 ?_
      refine V.aload_n C 0 rfl rfl d_St_empty_19 ?_
      obtain ⟨q12, e13, h⟩ := Option.bind_eq_some_iff.mp h
      refine V.xgetR C fl_St_18 e13 d_St_empty_20 ?_
      refine V.iload_n C 1 rfl rfl d_St_empty_23 ?_
      obtain ⟨v14, e15, h⟩ := Option.bind_eq_some_iff.mp h
      refine V.xiald C e15 d_St_empty_24 ?_
      refine V.iconst C 0 (by decide) d_St_empty_25 ?_
      obtain ⟨F16, e17, h⟩ := Option.bind_eq_some_iff.mp h
      refine V.xiast C e17 d_St_empty_26 ?_
      refine V.inc1 C 1 (by decide) (by decide) rfl d_St_empty_27 ?_
      refine V.goto C 7 (by decide) d_St_empty_30 ?_
      exact V.weak (xsub_spec (by simp [xsub])) (ih (u1 + (1 : Int32)) F16 _ h)
def f_St_empty (S : List xO) (N : Nat) (a : Nat) (F : xF) : Option xF :=
  (gI S 2 a 0 F).bind fun v1 =>
  t_St_empty S N a N (v1 + (1 : Int32)) F
set_option maxHeartbeats 4000000 in
set_option maxRecDepth 100000 in
theorem c_St_empty {l : Launch} {g : xG} {S : List xO} {G : xL} {a : Nat} {N : Nat} {F : xF} {F2 : xF} (h : f_St_empty S N a F = some F2) : CT l g 0 0 0 0 y_St_empty b_St_empty 2 none 1 [.ref a] S F G none S F2 G := by
  refine CT.of [some (.ref a), none] (by decide) (Nat.le_of_ble_eq_true rfl) rfl ?_
  intro p e s m args below meth c C hr hmn hz
  unfold f_St_empty at h
  refine V.aload_n C 0 rfl rfl d_St_empty_0 ?_
  obtain ⟨v1, e2, h⟩ := Option.bind_eq_some_iff.mp h
  refine V.xgetI C fl_St_21 e2 d_St_empty_1 ?_
  refine V.iconst C 1 (by decide) d_St_empty_4 ?_
  refine V.iadd C d_St_empty_5 ?_
  refine V.is1 C (by decide) rfl d_St_empty_6 ?_
  exact V.weak (xsub_spec (by simp [xsub])) ((l_St_empty C hr N) (v1 + (1 : Int32)) F _ h)
def f_St_keyOf (S : List xO) (p0 : Int32) (p1 : Int32) (F : xF) : Option Int32 :=
  some ((p0 <<< ((8 : Int32) &&& 31)) ||| p1)
set_option maxHeartbeats 4000000 in
set_option maxRecDepth 100000 in
theorem c_St_keyOf {l : Launch} {g : xG} {S : List xO} {G : xL} {p0 : Int32} {p1 : Int32} {F : xF} {r : Int32} (h : f_St_keyOf S p0 p1 F = some r) : CT l g 0 0 0 0 y_St_keyOf b_St_keyOf 2 (some .int) 1 [.int p0, .int p1] S F G (some (.int r)) S F G := by
  refine CT.of [some (.int p0), some (.int p1)] (by decide) (Nat.le_of_ble_eq_true rfl) rfl ?_
  intro p e s m args below meth c C hr hmn hz
  unfold f_St_keyOf at h
  refine V.iload_n C 0 rfl rfl d_St_keyOf_0 ?_
  refine V.bipush C 8 (by decide) d_St_keyOf_1 ?_
  refine V.ishl C d_St_keyOf_3 ?_
  refine V.iload_n C 1 rfl rfl d_St_keyOf_4 ?_
  refine V.ior C d_St_keyOf_5 ?_
  obtain rfl := Option.some.inj h
  exact V.iret C hr d_St_keyOf_6 rfl rfl rfl rfl
def t_St_slotFor (S : List xO) (N : Nat) (a : Nat) (p0 : Int32) : Nat → Int32 → Int32 → xF → Option Int32
  | 0, _, _, _ => none
  | n + 1, u2, u3, F =>
    if (8192 : Int32) ≤ u3 then
      some u2
    else
    (gR S 2 a 1).bind fun q2 =>
    (aG S q2 u2 F).bind fun v4 =>
    if v4 = (0 : Int32) then
      some u2
    else
    (gR S 2 a 2).bind fun q7 =>
    (aG S q7 v4 F).bind fun v9 =>
    if v9 = p0 then
      some u2
    else
    t_St_slotFor S N a p0 n ((u2 + (1 : Int32)) &&& (8191 : Int32)) (u3 + (1 : Int32)) F
set_option maxHeartbeats 4000000 in
set_option maxRecDepth 100000 in
theorem l_St_slotFor {p : Program} {l : Launch} {e : Env} {s : State} {m : MethodId} {args : Array Value} {below : List Frame} {meth : Method} {c : Code} {g : xG} {S : List xO} {G : xL} {a : Nat} {p0 : Int32} {N : Nat} (C : Cx p s m args meth c b_St_slotFor 5 "PaletteFrames$Strings" g) (hr : meth.sig.returnType = (some .int)) : ∀ (n : Nat), (∀ (u2 : Int32) (u3 : Int32) (F : xF) (r : Int32), t_St_slotFor S N a p0 n u2 u3 F = some r → V p l e (xRm 0 0 0 0) s m args below meth c (xMQ g below args s 0 0 S F G (some (.int r))) 5 g S F G 0 0 10 [some (.ref a), some (.int p0), some (.int u2), some (.int u3), none] []) := by
  intro n
  induction n with
  | zero =>
    intro u2 u3 F r h
    cases h
  | succ n ih =>
    intro u2 u3 F r h
    rw [t_St_slotFor] at h
    refine V.iload_n C 3 rfl rfl d_St_slotFor_10 ?_
    refine V.sipush C 8192 (by decide) d_St_slotFor_11 ?_
    refine V.icmp_ge C 57 (by decide) d_St_slotFor_14 (fun c1 => ?_) (fun c1 => ?_)
    · rw [if_pos c1] at h
      refine V.iload_n C 2 rfl rfl d_St_slotFor_57 ?_
      obtain rfl := Option.some.inj h
      exact V.iret C hr d_St_slotFor_58 rfl rfl rfl rfl
    · rw [if_neg c1] at h
      refine V.aload_n C 0 rfl rfl d_St_slotFor_17 ?_
      obtain ⟨q2, e3, h⟩ := Option.bind_eq_some_iff.mp h
      refine V.xgetR C fl_St_11 e3 d_St_slotFor_18 ?_
      refine V.iload_n C 2 rfl rfl d_St_slotFor_21 ?_
      obtain ⟨v4, e5, h⟩ := Option.bind_eq_some_iff.mp h
      refine V.xiald C e5 d_St_slotFor_22 ?_
      refine V.is4 C (by decide) rfl d_St_slotFor_23 ?_
      refine V.iload C rfl d_St_slotFor_25 ?_
      refine V.if_eq C 41 (by decide) d_St_slotFor_27 (fun c6 => ?_) (fun c6 => ?_)
      · rw [if_pos c6] at h
        refine V.iload_n C 2 rfl rfl d_St_slotFor_41 ?_
        obtain rfl := Option.some.inj h
        exact V.iret C hr d_St_slotFor_42 rfl rfl rfl rfl
      · rw [if_neg c6] at h
        refine V.aload_n C 0 rfl rfl d_St_slotFor_30 ?_
        obtain ⟨q7, e8, h⟩ := Option.bind_eq_some_iff.mp h
        refine V.xgetR C fl_St_15 e8 d_St_slotFor_31 ?_
        refine V.iload C rfl d_St_slotFor_34 ?_
        obtain ⟨v9, e10, h⟩ := Option.bind_eq_some_iff.mp h
        refine V.xiald C e10 d_St_slotFor_36 ?_
        refine V.iload_n C 1 rfl rfl d_St_slotFor_37 ?_
        refine V.icmp_ne C 43 (by decide) d_St_slotFor_38 (fun c11 => ?_) (fun c11 => ?_)
        · rw [if_neg c11] at h
          refine V.iload_n C 2 rfl rfl d_St_slotFor_43 ?_
          refine V.iconst C 1 (by decide) d_St_slotFor_44 ?_
          refine V.iadd C d_St_slotFor_45 ?_
          refine V.sipush C 8191 (by decide) d_St_slotFor_46 ?_
          refine V.iand C d_St_slotFor_49 ?_
          refine V.is2 C (by decide) rfl d_St_slotFor_50 ?_
          refine V.inc3 C 1 (by decide) (by decide) rfl d_St_slotFor_51 ?_
          refine V.goto C 10 (by decide) d_St_slotFor_54 ?_
          exact V.weak (xsub_spec (by simp [xsub])) (ih ((u2 + (1 : Int32)) &&& (8191 : Int32)) (u3 + (1 : Int32)) F _ h)
        · rw [if_pos c11] at h
          refine V.iload_n C 2 rfl rfl d_St_slotFor_41 ?_
          obtain rfl := Option.some.inj h
          exact V.iret C hr d_St_slotFor_42 rfl rfl rfl rfl
def f_St_slotFor (S : List xO) (N : Nat) (a : Nat) (p0 : Int32) (F : xF) : Option Int32 :=
  t_St_slotFor S N a p0 N (((p0 * (-1640531535 : Int32)).toUInt32 >>> ((19 : Int32).toUInt32 &&& Int32.toUInt32 31)).toInt32) (0 : Int32) F
set_option maxHeartbeats 4000000 in
set_option maxRecDepth 100000 in
theorem c_St_slotFor {l : Launch} {g : xG} {S : List xO} {G : xL} {a : Nat} {p0 : Int32} {N : Nat} {F : xF} {r : Int32} (h : f_St_slotFor S N a p0 F = some r) : CT l g 0 0 0 0 y_St_slotFor b_St_slotFor 5 (some .int) 1 [.ref a, .int p0] S F G (some (.int r)) S F G := by
  refine CT.of [some (.ref a), some (.int p0), none, none, none] (by decide) (Nat.le_of_ble_eq_true rfl) rfl ?_
  intro p e s m args below meth c C hr hmn hz
  unfold f_St_slotFor at h
  refine V.iload_n C 1 rfl rfl d_St_slotFor_0 ?_
  refine V.ldc C (v := (-1640531535)) (by decide +kernel) d_St_slotFor_1 ?_
  refine V.imul C d_St_slotFor_3 ?_
  refine V.bipush C 19 (by decide) d_St_slotFor_4 ?_
  refine V.iushr C d_St_slotFor_6 ?_
  refine V.is2 C (by decide) rfl d_St_slotFor_7 ?_
  refine V.iconst C 0 (by decide) d_St_slotFor_8 ?_
  refine V.is3 C (by decide) rfl d_St_slotFor_9 ?_
  exact V.weak (xsub_spec (by simp [xsub])) ((l_St_slotFor C hr N) (((p0 * (-1640531535 : Int32)).toUInt32 >>> ((19 : Int32).toUInt32 &&& Int32.toUInt32 31)).toInt32) (0 : Int32) F _ h)
def f_St_find (S : List xO) (N : Nat) (a : Nat) (p0 : Int32) (p1 : Int32) (F : xF) : Option Int32 :=
  (gR S 2 a 1).bind fun q1 =>
  (f_St_keyOf S p0 p1 F).bind fun v3 =>
  (xcl S 2 a (f_St_slotFor S N a v3 F)).bind fun v5 =>
  (aG S q1 v5 F).bind fun v7 =>
  if v7 = (0 : Int32) then
    some (-1 : Int32)
  else
  some v7
set_option maxHeartbeats 4000000 in
set_option maxRecDepth 100000 in
theorem c_St_find {l : Launch} {g : xG} {S : List xO} {G : xL} {a : Nat} {p0 : Int32} {p1 : Int32} {N : Nat} {F : xF} {r : Int32} (h : f_St_find S N a p0 p1 F = some r) : CT l g 1 24 0 0 y_St_find b_St_find 4 (some .int) 1 [.ref a, .int p0, .int p1] S F G (some (.int r)) S F G := by
  refine CT.of [some (.ref a), some (.int p0), some (.int p1), none] (by decide) (Nat.le_of_ble_eq_true rfl) rfl ?_
  intro p e s m args below meth c C hr hmn hz
  unfold f_St_find at h
  refine V.aload_n C 0 rfl rfl d_St_find_0 ?_
  obtain ⟨q1, e2, h⟩ := Option.bind_eq_some_iff.mp h
  refine V.xgetR C fl_St_11 e2 d_St_find_1 ?_
  refine V.aload_n C 0 rfl rfl d_St_find_4 ?_
  refine V.iload_n C 1 rfl rfl d_St_find_5 ?_
  refine V.iload_n C 2 rfl rfl d_St_find_6 ?_
  obtain ⟨v3, e4, h⟩ := Option.bind_eq_some_iff.mp h
  refine V.cSr C (c_St_keyOf e4) ml_St_28 rfl rfl (by decide) (Nat.le_of_ble_eq_true rfl) d_St_find_7 ?_
  obtain ⟨v5, e6, h⟩ := Option.bind_eq_some_iff.mp h
  obtain ⟨⟨fs_e6, s_e6⟩, e6⟩ := xcl_spec e6
  refine V.cVr C (c_St_slotFor e6) ml_St_32 s_e6 rfl rfl (by decide) (Nat.le_of_ble_eq_true rfl) d_St_find_10 ?_
  obtain ⟨v7, e8, h⟩ := Option.bind_eq_some_iff.mp h
  refine V.xiald C e8 d_St_find_13 ?_
  refine V.is3 C (by decide) rfl d_St_find_14 ?_
  refine V.iload_n C 3 rfl rfl d_St_find_15 ?_
  refine V.if_ne C 23 (by decide) d_St_find_16 (fun c9 => ?_) (fun c9 => ?_)
  · rw [if_neg c9] at h
    refine V.iload_n C 3 rfl rfl d_St_find_23 ?_
    obtain rfl := Option.some.inj h
    exact V.iret C hr d_St_find_24 rfl rfl rfl rfl
  · rw [if_pos c9] at h
    refine V.iconst C (-1) (by decide) d_St_find_19 ?_
    refine V.goto C 24 (by decide) d_St_find_20 ?_
    obtain rfl := Option.some.inj h
    exact V.iret C hr d_St_find_24 rfl rfl rfl rfl
def f_St_isFull (S : List xO) (a : Nat) (F : xF) : Option Int32 :=
  (gI S 2 a 4 F).bind fun v1 =>
  if v1 < (4095 : Int32) then
    some (0 : Int32)
  else
  some (1 : Int32)
set_option maxHeartbeats 4000000 in
set_option maxRecDepth 100000 in
theorem c_St_isFull {l : Launch} {g : xG} {S : List xO} {G : xL} {a : Nat} {F : xF} {r : Int32} (h : f_St_isFull S a F = some r) : CT l g 0 0 0 0 y_St_isFull b_St_isFull 1 (some .boolean) 1 [.ref a] S F G (some (.int r)) S F G := by
  refine CT.of [some (.ref a)] (by decide) (Nat.le_of_ble_eq_true rfl) rfl ?_
  intro p e s m args below meth c C hr hmn hz
  unfold f_St_isFull at h
  refine V.aload_n C 0 rfl rfl d_St_isFull_0 ?_
  obtain ⟨v1, e2, h⟩ := Option.bind_eq_some_iff.mp h
  refine V.xgetI C fl_St_25 e2 d_St_isFull_1 ?_
  refine V.sipush C 4095 (by decide) d_St_isFull_4 ?_
  refine V.icmp_lt C 14 (by decide) d_St_isFull_7 (fun c3 => ?_) (fun c3 => ?_)
  · rw [if_pos c3] at h
    refine V.iconst C 0 (by decide) d_St_isFull_14 ?_
    obtain rfl := Option.some.inj h
    exact V.zret C hr (by first | rfl | exact xz_narrow (by assumption)) d_St_isFull_15 rfl rfl rfl rfl
  · rw [if_neg c3] at h
    refine V.iconst C 1 (by decide) d_St_isFull_10 ?_
    refine V.goto C 15 (by decide) d_St_isFull_11 ?_
    obtain rfl := Option.some.inj h
    exact V.zret C hr (by first | rfl | exact xz_narrow (by assumption)) d_St_isFull_15 rfl rfl rfl rfl
def f_St_add (S : List xO) (N : Nat) (a : Nat) (p0 : Int32) (p1 : Int32) (F : xF) : Option xF :=
  (xcl S 2 a (f_St_isFull S a F)).bind fun v1 =>
  if v1 = (0 : Int32) then
    (f_St_keyOf S p0 p1 F).bind fun v4 =>
    (f_St_slotFor S N a v4 F).bind fun v6 =>
    (gI S 2 a 4 F).bind fun v8 =>
    (pI S 2 a 4 (v8 + (1 : Int32)) F).bind fun F10 =>
    (gR S 2 a 1).bind fun q12 =>
    (gI S 2 a 4 F10).bind fun v14 =>
    (aP S q12 v6 v14 F10).bind fun F16 =>
    (gR S 2 a 2).bind fun q18 =>
    (gI S 2 a 4 F16).bind fun v20 =>
    (aP S q18 v20 v4 F16).bind fun F22 =>
    (gR S 2 a 3).bind fun q24 =>
    (gI S 2 a 4 F22).bind fun v26 =>
    (aP S q24 v26 v6 F22).bind fun F28 =>
    some F28
  else
  some F
set_option maxHeartbeats 4000000 in
set_option maxRecDepth 100000 in
theorem c_St_add {l : Launch} {g : xG} {S : List xO} {G : xL} {a : Nat} {p0 : Int32} {p1 : Int32} {N : Nat} {F : xF} {F2 : xF} (h : f_St_add S N a p0 p1 F = some F2) : CT l g 1 24 0 0 y_St_add b_St_add 5 none 1 [.ref a, .int p0, .int p1] S F G none S F2 G := by
  refine CT.of [some (.ref a), some (.int p0), some (.int p1), none, none] (by decide) (Nat.le_of_ble_eq_true rfl) rfl ?_
  intro p e s m args below meth c C hr hmn hz
  unfold f_St_add at h
  refine V.aload_n C 0 rfl rfl d_St_add_0 ?_
  obtain ⟨v1, e2, h⟩ := Option.bind_eq_some_iff.mp h
  obtain ⟨⟨fs_e2, s_e2⟩, e2⟩ := xcl_spec e2
  refine V.cVr C (c_St_isFull e2) ml_St_36 s_e2 rfl rfl (by decide) (Nat.le_of_ble_eq_true rfl) d_St_add_1 ?_
  refine V.if_eq C 8 (by decide) d_St_add_4 (fun c3 => ?_) (fun c3 => ?_)
  · rw [if_pos c3] at h
    refine V.iload_n C 1 rfl rfl d_St_add_8 ?_
    refine V.iload_n C 2 rfl rfl d_St_add_9 ?_
    obtain ⟨v4, e5, h⟩ := Option.bind_eq_some_iff.mp h
    refine V.cSr C (c_St_keyOf e5) ml_St_28 rfl rfl (by decide) (Nat.le_of_ble_eq_true rfl) d_St_add_10 ?_
    refine V.is3 C (by decide) rfl d_St_add_13 ?_
    refine V.aload_n C 0 rfl rfl d_St_add_14 ?_
    refine V.iload_n C 3 rfl rfl d_St_add_15 ?_
    obtain ⟨v6, e7, h⟩ := Option.bind_eq_some_iff.mp h
    refine V.cVr C (c_St_slotFor e7) ml_St_32 s_e2 rfl rfl (by decide) (Nat.le_of_ble_eq_true rfl) d_St_add_16 ?_
    refine V.is4 C (by decide) rfl d_St_add_19 ?_
    refine V.aload_n C 0 rfl rfl d_St_add_21 ?_
    refine V.dup C rfl d_St_add_22 ?_
    obtain ⟨v8, e9, h⟩ := Option.bind_eq_some_iff.mp h
    refine V.xgetI C fl_St_25 e9 d_St_add_23 ?_
    refine V.iconst C 1 (by decide) d_St_add_26 ?_
    refine V.iadd C d_St_add_27 ?_
    obtain ⟨F10, e11, h⟩ := Option.bind_eq_some_iff.mp h
    refine V.xputI C fl_St_25 ft_2 fi_2_4 e11 d_St_add_28 ?_
    refine V.aload_n C 0 rfl rfl d_St_add_31 ?_
    obtain ⟨q12, e13, h⟩ := Option.bind_eq_some_iff.mp h
    refine V.xgetR C fl_St_11 e13 d_St_add_32 ?_
    refine V.iload C rfl d_St_add_35 ?_
    refine V.aload_n C 0 rfl rfl d_St_add_37 ?_
    obtain ⟨v14, e15, h⟩ := Option.bind_eq_some_iff.mp h
    refine V.xgetI C fl_St_25 e15 d_St_add_38 ?_
    obtain ⟨F16, e17, h⟩ := Option.bind_eq_some_iff.mp h
    refine V.xiast C e17 d_St_add_41 ?_
    refine V.aload_n C 0 rfl rfl d_St_add_42 ?_
    obtain ⟨q18, e19, h⟩ := Option.bind_eq_some_iff.mp h
    refine V.xgetR C fl_St_15 e19 d_St_add_43 ?_
    refine V.aload_n C 0 rfl rfl d_St_add_46 ?_
    obtain ⟨v20, e21, h⟩ := Option.bind_eq_some_iff.mp h
    refine V.xgetI C fl_St_25 e21 d_St_add_47 ?_
    refine V.iload_n C 3 rfl rfl d_St_add_50 ?_
    obtain ⟨F22, e23, h⟩ := Option.bind_eq_some_iff.mp h
    refine V.xiast C e23 d_St_add_51 ?_
    refine V.aload_n C 0 rfl rfl d_St_add_52 ?_
    obtain ⟨q24, e25, h⟩ := Option.bind_eq_some_iff.mp h
    refine V.xgetR C fl_St_18 e25 d_St_add_53 ?_
    refine V.aload_n C 0 rfl rfl d_St_add_56 ?_
    obtain ⟨v26, e27, h⟩ := Option.bind_eq_some_iff.mp h
    refine V.xgetI C fl_St_25 e27 d_St_add_57 ?_
    refine V.iload C rfl d_St_add_60 ?_
    obtain ⟨F28, e29, h⟩ := Option.bind_eq_some_iff.mp h
    refine V.xiast C e29 d_St_add_62 ?_
    obtain rfl := Option.some.inj h
    exact V.vret C hr d_St_add_63 rfl rfl rfl
  · rw [if_neg c3] at h
    obtain rfl := Option.some.inj h
    exact V.vret C hr d_St_add_7 rfl rfl rfl
def f_St_count (S : List xO) (a : Nat) (F : xF) : Option Int32 :=
  (gI S 2 a 4 F).bind fun v1 =>
  (gI S 2 a 0 F).bind fun v3 =>
  some (v1 - v3)
set_option maxHeartbeats 4000000 in
set_option maxRecDepth 100000 in
theorem c_St_count {l : Launch} {g : xG} {S : List xO} {G : xL} {a : Nat} {F : xF} {r : Int32} (h : f_St_count S a F = some r) : CT l g 0 0 0 0 y_St_count b_St_count 1 (some .int) 1 [.ref a] S F G (some (.int r)) S F G := by
  refine CT.of [some (.ref a)] (by decide) (Nat.le_of_ble_eq_true rfl) rfl ?_
  intro p e s m args below meth c C hr hmn hz
  unfold f_St_count at h
  refine V.aload_n C 0 rfl rfl d_St_count_0 ?_
  obtain ⟨v1, e2, h⟩ := Option.bind_eq_some_iff.mp h
  refine V.xgetI C fl_St_25 e2 d_St_count_1 ?_
  refine V.aload_n C 0 rfl rfl d_St_count_4 ?_
  obtain ⟨v3, e4, h⟩ := Option.bind_eq_some_iff.mp h
  refine V.xgetI C fl_St_21 e4 d_St_count_5 ?_
  refine V.isub C d_St_count_8 ?_
  obtain rfl := Option.some.inj h
  exact V.iret C hr d_St_count_9 rfl rfl rfl rfl
