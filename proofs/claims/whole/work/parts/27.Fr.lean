def f_Fr_forget (S : List xO) (N : Nat) (a : Nat) (F : xF) : Option xF :=
  (gR S 6 a 1).bind fun q1 =>
  (xcl S 5 q1 (f_Pa_forget S N q1 F)).bind fun F3 =>
  (pI S 6 a 8 (-1 : Int32) F3).bind fun F5 =>
  some F5
set_option maxHeartbeats 4000000 in
set_option maxRecDepth 100000 in
theorem c_Fr_forget {l : Launch} {g : xG} {S : List xO} {G : xL} {a : Nat} {N : Nat} {F : xF} {F2 : xF} (h : f_Fr_forget S N a F = some F2) : CT l g 2 43 0 0 y_Fr_forget b_Fr_forget 1 none 1 [.ref a] S F G none S F2 G := by
  refine CT.of [some (.ref a)] (by decide) (Nat.le_of_ble_eq_true rfl) rfl ?_
  intro p e s m args below meth c C hr hmn hz
  unfold f_Fr_forget at h
  refine V.aload_n C 0 rfl rfl d_Fr_forget_0 ?_
  obtain ⟨q1, e2, h⟩ := Option.bind_eq_some_iff.mp h
  refine V.xgetR C fl_Fr_20 e2 d_Fr_forget_1 ?_
  obtain ⟨F3, e4, h⟩ := Option.bind_eq_some_iff.mp h
  obtain ⟨⟨fs_e4, s_e4⟩, e4⟩ := xcl_spec e4
  refine V.cVv C (c_Pa_forget e4) ml_Fr_28 s_e4 rfl rfl (by decide) (Nat.le_of_ble_eq_true rfl) d_Fr_forget_4 ?_
  refine V.aload_n C 0 rfl rfl d_Fr_forget_7 ?_
  refine V.iconst C (-1) (by decide) d_Fr_forget_8 ?_
  obtain ⟨F5, e6, h⟩ := Option.bind_eq_some_iff.mp h
  refine V.xputI C fl_Fr_24 ft_6 fi_6_8 e6 d_Fr_forget_9 ?_
  obtain rfl := Option.some.inj h
  exact V.vret C hr d_Fr_forget_12 rfl rfl rfl
def f_Fr_lay (S : List xO) (a : Nat) (p0 : Int32) (p1 : Int32) (p2 : Int32) (p3 : Int32) (F : xF) : Option xF :=
  (pI S 6 a 2 p0 F).bind fun F1 =>
  (pI S 6 a 3 p1 F1).bind fun F3 =>
  (pI S 6 a 4 p2 F3).bind fun F5 =>
  (pI S 6 a 5 p3 F5).bind fun F7 =>
  some F7
set_option maxHeartbeats 4000000 in
set_option maxRecDepth 100000 in
theorem c_Fr_lay {l : Launch} {g : xG} {S : List xO} {G : xL} {a : Nat} {p0 : Int32} {p1 : Int32} {p2 : Int32} {p3 : Int32} {F : xF} {F2 : xF} (h : f_Fr_lay S a p0 p1 p2 p3 F = some F2) : CT l g 0 0 0 0 y_Fr_lay b_Fr_lay 5 none 1 [.ref a, .int p0, .int p1, .int p2, .int p3] S F G none S F2 G := by
  refine CT.of [some (.ref a), some (.int p0), some (.int p1), some (.int p2), some (.int p3)] (by decide) (Nat.le_of_ble_eq_true rfl) rfl ?_
  intro p e s m args below meth c C hr hmn hz
  unfold f_Fr_lay at h
  refine V.aload_n C 0 rfl rfl d_Fr_lay_0 ?_
  refine V.iload_n C 1 rfl rfl d_Fr_lay_1 ?_
  obtain ⟨F1, e2, h⟩ := Option.bind_eq_some_iff.mp h
  refine V.xputI C fl_Fr_31 ft_6 fi_6_2 e2 d_Fr_lay_2 ?_
  refine V.aload_n C 0 rfl rfl d_Fr_lay_5 ?_
  refine V.iload_n C 2 rfl rfl d_Fr_lay_6 ?_
  obtain ⟨F3, e4, h⟩ := Option.bind_eq_some_iff.mp h
  refine V.xputI C fl_Fr_34 ft_6 fi_6_3 e4 d_Fr_lay_7 ?_
  refine V.aload_n C 0 rfl rfl d_Fr_lay_10 ?_
  refine V.iload_n C 3 rfl rfl d_Fr_lay_11 ?_
  obtain ⟨F5, e6, h⟩ := Option.bind_eq_some_iff.mp h
  refine V.xputI C fl_Fr_37 ft_6 fi_6_4 e6 d_Fr_lay_12 ?_
  refine V.aload_n C 0 rfl rfl d_Fr_lay_15 ?_
  refine V.iload C rfl d_Fr_lay_16 ?_
  obtain ⟨F7, e8, h⟩ := Option.bind_eq_some_iff.mp h
  refine V.xputI C fl_Fr_40 ft_6 fi_6_5 e8 d_Fr_lay_18 ?_
  obtain rfl := Option.some.inj h
  exact V.vret C hr d_Fr_lay_21 rfl rfl rfl
def f_Fr_time (S : List xO) (a : Nat) (p0 : Int32) (p1 : Int32) (F : xF) : Option xF :=
  (pI S 6 a 6 p0 F).bind fun F1 =>
  (pI S 6 a 7 p1 F1).bind fun F3 =>
  some F3
set_option maxHeartbeats 4000000 in
set_option maxRecDepth 100000 in
theorem c_Fr_time {l : Launch} {g : xG} {S : List xO} {G : xL} {a : Nat} {p0 : Int32} {p1 : Int32} {F : xF} {F2 : xF} (h : f_Fr_time S a p0 p1 F = some F2) : CT l g 0 0 0 0 y_Fr_time b_Fr_time 3 none 1 [.ref a, .int p0, .int p1] S F G none S F2 G := by
  refine CT.of [some (.ref a), some (.int p0), some (.int p1)] (by decide) (Nat.le_of_ble_eq_true rfl) rfl ?_
  intro p e s m args below meth c C hr hmn hz
  unfold f_Fr_time at h
  refine V.aload_n C 0 rfl rfl d_Fr_time_0 ?_
  refine V.iload_n C 1 rfl rfl d_Fr_time_1 ?_
  obtain ⟨F1, e2, h⟩ := Option.bind_eq_some_iff.mp h
  refine V.xputI C fl_Fr_43 ft_6 fi_6_6 e2 d_Fr_time_2 ?_
  refine V.aload_n C 0 rfl rfl d_Fr_time_5 ?_
  refine V.iload_n C 2 rfl rfl d_Fr_time_6 ?_
  obtain ⟨F3, e4, h⟩ := Option.bind_eq_some_iff.mp h
  refine V.xputI C fl_Fr_46 ft_6 fi_6_7 e4 d_Fr_time_7 ?_
  obtain rfl := Option.some.inj h
  exact V.vret C hr d_Fr_time_10 rfl rfl rfl
def f_Fr_passNumber (S : List xO) (p0 : Int32) (F : xF) : Option Int32 :=
  if (p0 &&& (1 : Int32)) = (0 : Int32) then
    if (p0 &&& (2 : Int32)) = (0 : Int32) then
      if (p0 &&& (4 : Int32)) = (0 : Int32) then
        some (0 : Int32)
      else
      some (1 : Int32)
    else
    some (2 : Int32)
  else
  some (3 : Int32)
set_option maxHeartbeats 4000000 in
set_option maxRecDepth 100000 in
theorem c_Fr_passNumber {l : Launch} {g : xG} {S : List xO} {G : xL} {p0 : Int32} {F : xF} {r : Int32} (h : f_Fr_passNumber S p0 F = some r) : CT l g 0 0 0 0 y_Fr_passNumber b_Fr_passNumber 1 (some .int) 1 [.int p0] S F G (some (.int r)) S F G := by
  refine CT.of [some (.int p0)] (by decide) (Nat.le_of_ble_eq_true rfl) rfl ?_
  intro p e s m args below meth c C hr hmn hz
  unfold f_Fr_passNumber at h
  refine V.iload_n C 0 rfl rfl d_Fr_passNumber_0 ?_
  refine V.iconst C 1 (by decide) d_Fr_passNumber_1 ?_
  refine V.iand C d_Fr_passNumber_2 ?_
  refine V.if_eq C 8 (by decide) d_Fr_passNumber_3 (fun c1 => ?_) (fun c1 => ?_)
  · rw [if_pos c1] at h
    refine V.iload_n C 0 rfl rfl d_Fr_passNumber_8 ?_
    refine V.iconst C 2 (by decide) d_Fr_passNumber_9 ?_
    refine V.iand C d_Fr_passNumber_10 ?_
    refine V.if_eq C 16 (by decide) d_Fr_passNumber_11 (fun c2 => ?_) (fun c2 => ?_)
    · rw [if_pos c2] at h
      refine V.iload_n C 0 rfl rfl d_Fr_passNumber_16 ?_
      refine V.iconst C 4 (by decide) d_Fr_passNumber_17 ?_
      refine V.iand C d_Fr_passNumber_18 ?_
      refine V.if_eq C 26 (by decide) d_Fr_passNumber_19 (fun c3 => ?_) (fun c3 => ?_)
      · rw [if_pos c3] at h
        refine V.iconst C 0 (by decide) d_Fr_passNumber_26 ?_
        obtain rfl := Option.some.inj h
        exact V.iret C hr d_Fr_passNumber_27 rfl rfl rfl rfl
      · rw [if_neg c3] at h
        refine V.iconst C 1 (by decide) d_Fr_passNumber_22 ?_
        refine V.goto C 27 (by decide) d_Fr_passNumber_23 ?_
        obtain rfl := Option.some.inj h
        exact V.iret C hr d_Fr_passNumber_27 rfl rfl rfl rfl
    · rw [if_neg c2] at h
      refine V.iconst C 2 (by decide) d_Fr_passNumber_14 ?_
      obtain rfl := Option.some.inj h
      exact V.iret C hr d_Fr_passNumber_15 rfl rfl rfl rfl
  · rw [if_neg c1] at h
    refine V.iconst C 3 (by decide) d_Fr_passNumber_6 ?_
    obtain rfl := Option.some.inj h
    exact V.iret C hr d_Fr_passNumber_7 rfl rfl rfl rfl
def t_Fr_fillLine (S : List xO) (N : Nat) (a : Nat) (p0 : Nat) (p1 : Int32) (p2 : Int32) : Nat → Int32 → xF → Option xF
  | 0, _, _ => none
  | n + 1, u4, F =>
    (gI S 6 a 4 F).bind fun v1 =>
    if v1 ≤ u4 then
      some F
    else
    (gI S 6 a 4 F).bind fun v4 =>
    if ((p2 * v4) + u4) < (0 : Int32) then
      t_Fr_fillLine S N a p0 p1 p2 n (u4 + (1 : Int32)) F
    else
    (gR S 6 a 0).bind fun q7 =>
    (aN S q7).bind fun v9 =>
    if v9 ≤ ((p2 * v4) + u4) then
      t_Fr_fillLine S N a p0 p1 p2 n (u4 + (1 : Int32)) F
    else
    (xcl S 0 p0 (f_Nu_get S p0 (p1 + u4) F)).bind fun v12 =>
    (aP S q7 ((p2 * v4) + u4) v12 F).bind fun F14 =>
    t_Fr_fillLine S N a p0 p1 p2 n (u4 + (1 : Int32)) F14
set_option maxHeartbeats 4000000 in
set_option maxRecDepth 100000 in
theorem l_Fr_fillLine {p : Program} {l : Launch} {e : Env} {s : State} {m : MethodId} {args : Array Value} {below : List Frame} {meth : Method} {c : Code} {g : xG} {S : List xO} {G : xL} {a : Nat} {p0 : Nat} {p1 : Int32} {p2 : Int32} {N : Nat} (C : Cx p s m args meth c b_Fr_fillLine 6 "PaletteFrames$Frame" g) (hr : meth.sig.returnType = none) : ∀ (n : Nat), (∀ (u4 : Int32) (F : xF) (F2 : xF), t_Fr_fillLine S N a p0 p1 p2 n u4 F = some F2 → V p l e (xRm 2 42 0 0) s m args below meth c (xMQ g below args s 0 0 S F2 G none) 6 g S F G 0 0 3 [some (.ref a), some (.ref p0), some (.int p1), some (.int p2), some (.int u4), none] []) := by
  intro n
  induction n with
  | zero =>
    intro u4 F F2 h
    cases h
  | succ n ih =>
    intro u4 F F2 h
    rw [t_Fr_fillLine] at h
    refine V.iload C rfl d_Fr_fillLine_3 ?_
    refine V.aload_n C 0 rfl rfl d_Fr_fillLine_5 ?_
    obtain ⟨v1, e2, h⟩ := Option.bind_eq_some_iff.mp h
    refine V.xgetI C fl_Fr_37 e2 d_Fr_fillLine_6 ?_
    refine V.icmp_ge C 59 (by decide) d_Fr_fillLine_9 (fun c3 => ?_) (fun c3 => ?_)
    · rw [if_pos c3] at h
      obtain rfl := Option.some.inj h
      exact V.vret C hr d_Fr_fillLine_59 rfl rfl rfl
    · rw [if_neg c3] at h
      refine V.iload_n C 3 rfl rfl d_Fr_fillLine_12 ?_
      refine V.aload_n C 0 rfl rfl d_Fr_fillLine_13 ?_
      obtain ⟨v4, e5, h⟩ := Option.bind_eq_some_iff.mp h
      refine V.xgetI C fl_Fr_37 e5 d_Fr_fillLine_14 ?_
      refine V.imul C d_Fr_fillLine_17 ?_
      refine V.iload C rfl d_Fr_fillLine_18 ?_
      refine V.iadd C d_Fr_fillLine_20 ?_
      refine V.is5 C (by decide) rfl d_Fr_fillLine_21 ?_
      refine V.iload C rfl d_Fr_fillLine_23 ?_
      refine V.if_lt C 53 (by decide) d_Fr_fillLine_25 (fun c6 => ?_) (fun c6 => ?_)
      · rw [if_pos c6] at h
        refine V.inc4 C 1 (by decide) (by decide) rfl d_Fr_fillLine_53 ?_
        refine V.goto C 3 (by decide) d_Fr_fillLine_56 ?_
        exact V.weak (xsub_spec (by simp [xsub])) (ih (u4 + (1 : Int32)) F _ h)
      · rw [if_neg c6] at h
        refine V.iload C rfl d_Fr_fillLine_28 ?_
        refine V.aload_n C 0 rfl rfl d_Fr_fillLine_30 ?_
        obtain ⟨q7, e8, h⟩ := Option.bind_eq_some_iff.mp h
        refine V.xgetR C fl_Fr_9 e8 d_Fr_fillLine_31 ?_
        obtain ⟨v9, e10, h⟩ := Option.bind_eq_some_iff.mp h
        refine V.xalen C e10 d_Fr_fillLine_34 ?_
        refine V.icmp_ge C 53 (by decide) d_Fr_fillLine_35 (fun c11 => ?_) (fun c11 => ?_)
        · rw [if_pos c11] at h
          refine V.inc4 C 1 (by decide) (by decide) rfl d_Fr_fillLine_53 ?_
          refine V.goto C 3 (by decide) d_Fr_fillLine_56 ?_
          exact V.weak (xsub_spec (by simp [xsub])) (ih (u4 + (1 : Int32)) F _ h)
        · rw [if_neg c11] at h
          refine V.aload_n C 0 rfl rfl d_Fr_fillLine_38 ?_
          refine V.xgetR C fl_Fr_9 e8 d_Fr_fillLine_39 ?_
          refine V.iload C rfl d_Fr_fillLine_42 ?_
          refine V.aload_n C 1 rfl rfl d_Fr_fillLine_44 ?_
          refine V.iload_n C 2 rfl rfl d_Fr_fillLine_45 ?_
          refine V.iload C rfl d_Fr_fillLine_46 ?_
          refine V.iadd C d_Fr_fillLine_48 ?_
          obtain ⟨v12, e13, h⟩ := Option.bind_eq_some_iff.mp h
          obtain ⟨⟨fs_e13, s_e13⟩, e13⟩ := xcl_spec e13
          refine V.cVr C (c_Nu_get e13) ml_Fr_57 s_e13 rfl rfl (by decide) (Nat.le_of_ble_eq_true rfl) d_Fr_fillLine_49 ?_
          obtain ⟨F14, e15, h⟩ := Option.bind_eq_some_iff.mp h
          refine V.xiast C e15 d_Fr_fillLine_52 ?_
          refine V.inc4 C 1 (by decide) (by decide) rfl d_Fr_fillLine_53 ?_
          refine V.goto C 3 (by decide) d_Fr_fillLine_56 ?_
          exact V.weak (xsub_spec (by simp [xsub])) (ih (u4 + (1 : Int32)) F14 _ h)
def f_Fr_fillLine (S : List xO) (N : Nat) (a : Nat) (p0 : Nat) (p1 : Int32) (p2 : Int32) (F : xF) : Option xF :=
  t_Fr_fillLine S N a p0 p1 p2 N (0 : Int32) F
set_option maxHeartbeats 4000000 in
set_option maxRecDepth 100000 in
theorem c_Fr_fillLine {l : Launch} {g : xG} {S : List xO} {G : xL} {a : Nat} {p0 : Nat} {p1 : Int32} {p2 : Int32} {N : Nat} {F : xF} {F2 : xF} (h : f_Fr_fillLine S N a p0 p1 p2 F = some F2) : CT l g 2 42 0 0 y_Fr_fillLine b_Fr_fillLine 6 none 1 [.ref a, .ref p0, .int p1, .int p2] S F G none S F2 G := by
  refine CT.of [some (.ref a), some (.ref p0), some (.int p1), some (.int p2), none, none] (by decide) (Nat.le_of_ble_eq_true rfl) rfl ?_
  intro p e s m args below meth c C hr hmn hz
  unfold f_Fr_fillLine at h
  refine V.iconst C 0 (by decide) d_Fr_fillLine_0 ?_
  refine V.is4 C (by decide) rfl d_Fr_fillLine_1 ?_
  exact V.weak (xsub_spec (by simp [xsub])) ((l_Fr_fillLine C hr N) (0 : Int32) F _ h)
def t_Fr_fill (S : List xO) (N : Nat) (a : Nat) (p0 : Nat) (p1 : Int32) : Nat → Nat → Int32 → Int32 → Int32 → xF → Option xF
  | 0, _, _, _, _, _ => none
  | n + 1, tg, u3, u4, u5, F =>
    if tg = 0 then
      if (4 : Int32) ≤ u4 then
        some F
      else
      t_Fr_fill S N a p0 p1 n 1 u3 u4 (0 : Int32) F
    else
    (gI S 6 a 5 F).bind fun v2 =>
    if v2 ≤ u5 then
      t_Fr_fill S N a p0 p1 n 0 u3 (u4 + (1 : Int32)) 0 F
    else
    if p1 = (0 : Int32) then
      if (0 : Int32) = u4 then
        (xcl S 6 a (f_Fr_fillLine S N a p0 u3 u5 F)).bind fun F7 =>
        (gI S 6 a 4 F7).bind fun v9 =>
        t_Fr_fill S N a p0 p1 n 1 (u3 + v9) u4 (u5 + (1 : Int32)) F7
      else
      t_Fr_fill S N a p0 p1 n 1 u3 u4 (u5 + (1 : Int32)) F
    else
    (f_Fr_passNumber S u5 F).bind fun v11 =>
    if v11 = u4 then
      (xcl S 6 a (f_Fr_fillLine S N a p0 u3 u5 F)).bind fun F14 =>
      (gI S 6 a 4 F14).bind fun v16 =>
      t_Fr_fill S N a p0 p1 n 1 (u3 + v16) u4 (u5 + (1 : Int32)) F14
    else
    t_Fr_fill S N a p0 p1 n 1 u3 u4 (u5 + (1 : Int32)) F
set_option maxHeartbeats 4000000 in
set_option maxRecDepth 100000 in
theorem l_Fr_fill {p : Program} {l : Launch} {e : Env} {s : State} {m : MethodId} {args : Array Value} {below : List Frame} {meth : Method} {c : Code} {g : xG} {S : List xO} {G : xL} {a : Nat} {p0 : Nat} {p1 : Int32} {N : Nat} (C : Cx p s m args meth c b_Fr_fill 7 "PaletteFrames$Frame" g) (hr : meth.sig.returnType = none) : ∀ (n : Nat), (∀ (u3 : Int32) (u4 : Int32) (F : xF) (F2 : xF), t_Fr_fill S N a p0 p1 n 0 u3 u4 0 F = some F2 → V p l e (xRm 3 67 0 0) s m args below meth c (xMQ g below args s 0 0 S F2 G none) 7 g S F G 0 0 5 [some (.ref a), some (.ref p0), some (.int p1), some (.int u3), some (.int u4), none, none] []) ∧ (∀ (u3 : Int32) (u4 : Int32) (u5 : Int32) (F : xF) (F2 : xF), t_Fr_fill S N a p0 p1 n 1 u3 u4 u5 F = some F2 → V p l e (xRm 3 67 0 0) s m args below meth c (xMQ g below args s 0 0 S F2 G none) 7 g S F G 0 0 14 [some (.ref a), some (.ref p0), some (.int p1), some (.int u3), some (.int u4), some (.int u5), none] []) := by
  intro n
  induction n with
  | zero =>
    refine ⟨?_, ?_⟩
    · intro u3 u4 F F2 h
      cases h
    · intro u3 u4 u5 F F2 h
      cases h
  | succ n ih =>
    refine ⟨?_, ?_⟩
    · intro u3 u4 F F2 h
      rw [t_Fr_fill] at h
      rw [if_pos rfl] at h
      refine V.iload C rfl d_Fr_fill_5 ?_
      refine V.iconst C 4 (by decide) d_Fr_fill_7 ?_
      refine V.icmp_ge C 72 (by decide) d_Fr_fill_8 (fun c1 => ?_) (fun c1 => ?_)
      · rw [if_pos c1] at h
        obtain rfl := Option.some.inj h
        exact V.vret C hr d_Fr_fill_72 rfl rfl rfl
      · rw [if_neg c1] at h
        refine V.iconst C 0 (by decide) d_Fr_fill_11 ?_
        refine V.is5 C (by decide) rfl d_Fr_fill_12 ?_
        exact V.weak (xsub_spec (by simp [xsub])) (ih.2 u3 u4 (0 : Int32) F _ h)
    · intro u3 u4 u5 F F2 h
      rw [t_Fr_fill] at h
      rw [if_neg (by decide)] at h
      refine V.iload C rfl d_Fr_fill_14 ?_
      refine V.aload_n C 0 rfl rfl d_Fr_fill_16 ?_
      obtain ⟨v2, e3, h⟩ := Option.bind_eq_some_iff.mp h
      refine V.xgetI C fl_Fr_40 e3 d_Fr_fill_17 ?_
      refine V.icmp_ge C 66 (by decide) d_Fr_fill_20 (fun c4 => ?_) (fun c4 => ?_)
      · rw [if_pos c4] at h
        refine V.inc4 C 1 (by decide) (by decide) rfl d_Fr_fill_66 ?_
        refine V.goto C 5 (by decide) d_Fr_fill_69 ?_
        exact V.weak (xsub_spec (by simp [xsub])) (ih.1 u3 (u4 + (1 : Int32)) F _ h)
      · rw [if_neg c4] at h
        refine V.iload_n C 2 rfl rfl d_Fr_fill_23 ?_
        refine V.if_eq C 35 (by decide) d_Fr_fill_24 (fun c5 => ?_) (fun c5 => ?_)
        · rw [if_pos c5] at h
          refine V.iconst C 0 (by decide) d_Fr_fill_35 ?_
          refine V.is6 C (by decide) rfl d_Fr_fill_36 ?_
          refine V.iload C rfl d_Fr_fill_38 ?_
          refine V.iload C rfl d_Fr_fill_40 ?_
          refine V.icmp_ne C 60 (by decide) d_Fr_fill_42 (fun c6 => ?_) (fun c6 => ?_)
          · rw [if_neg c6] at h
            refine V.inc5 C 1 (by decide) (by decide) rfl d_Fr_fill_60 ?_
            refine V.goto C 14 (by decide) d_Fr_fill_63 ?_
            exact V.weak (xsub_spec (by simp [xsub])) (ih.2 u3 u4 (u5 + (1 : Int32)) F _ h)
          · rw [if_pos c6] at h
            refine V.aload_n C 0 rfl rfl d_Fr_fill_45 ?_
            refine V.aload_n C 1 rfl rfl d_Fr_fill_46 ?_
            refine V.iload_n C 3 rfl rfl d_Fr_fill_47 ?_
            refine V.iload C rfl d_Fr_fill_48 ?_
            obtain ⟨F7, e8, h⟩ := Option.bind_eq_some_iff.mp h
            obtain ⟨⟨fs_e8, s_e8⟩, e8⟩ := xcl_spec e8
            refine V.cVv C (c_Fr_fillLine e8) ml_Fr_53 s_e8 rfl rfl (by decide) (Nat.le_of_ble_eq_true rfl) d_Fr_fill_50 ?_
            refine V.iload_n C 3 rfl rfl d_Fr_fill_53 ?_
            refine V.aload_n C 0 rfl rfl d_Fr_fill_54 ?_
            obtain ⟨v9, e10, h⟩ := Option.bind_eq_some_iff.mp h
            refine V.xgetI C fl_Fr_37 e10 d_Fr_fill_55 ?_
            refine V.iadd C d_Fr_fill_58 ?_
            refine V.is3 C (by decide) rfl d_Fr_fill_59 ?_
            refine V.inc5 C 1 (by decide) (by decide) rfl d_Fr_fill_60 ?_
            refine V.goto C 14 (by decide) d_Fr_fill_63 ?_
            exact V.weak (xsub_spec (by simp [xsub])) (ih.2 (u3 + v9) u4 (u5 + (1 : Int32)) F7 _ h)
        · rw [if_neg c5] at h
          refine V.iload C rfl d_Fr_fill_27 ?_
          obtain ⟨v11, e12, h⟩ := Option.bind_eq_some_iff.mp h
          refine V.cSr C (c_Fr_passNumber e12) ml_Fr_49 rfl rfl (by decide) (Nat.le_of_ble_eq_true rfl) d_Fr_fill_29 ?_
          refine V.goto C 36 (by decide) d_Fr_fill_32 ?_
          refine V.is6 C (by decide) rfl d_Fr_fill_36 ?_
          refine V.iload C rfl d_Fr_fill_38 ?_
          refine V.iload C rfl d_Fr_fill_40 ?_
          refine V.icmp_ne C 60 (by decide) d_Fr_fill_42 (fun c13 => ?_) (fun c13 => ?_)
          · rw [if_neg c13] at h
            refine V.inc5 C 1 (by decide) (by decide) rfl d_Fr_fill_60 ?_
            refine V.goto C 14 (by decide) d_Fr_fill_63 ?_
            exact V.weak (xsub_spec (by simp [xsub])) (ih.2 u3 u4 (u5 + (1 : Int32)) F _ h)
          · rw [if_pos c13] at h
            refine V.aload_n C 0 rfl rfl d_Fr_fill_45 ?_
            refine V.aload_n C 1 rfl rfl d_Fr_fill_46 ?_
            refine V.iload_n C 3 rfl rfl d_Fr_fill_47 ?_
            refine V.iload C rfl d_Fr_fill_48 ?_
            obtain ⟨F14, e15, h⟩ := Option.bind_eq_some_iff.mp h
            obtain ⟨⟨fs_e15, s_e15⟩, e15⟩ := xcl_spec e15
            refine V.cVv C (c_Fr_fillLine e15) ml_Fr_53 s_e15 rfl rfl (by decide) (Nat.le_of_ble_eq_true rfl) d_Fr_fill_50 ?_
            refine V.iload_n C 3 rfl rfl d_Fr_fill_53 ?_
            refine V.aload_n C 0 rfl rfl d_Fr_fill_54 ?_
            obtain ⟨v16, e17, h⟩ := Option.bind_eq_some_iff.mp h
            refine V.xgetI C fl_Fr_37 e17 d_Fr_fill_55 ?_
            refine V.iadd C d_Fr_fill_58 ?_
            refine V.is3 C (by decide) rfl d_Fr_fill_59 ?_
            refine V.inc5 C 1 (by decide) (by decide) rfl d_Fr_fill_60 ?_
            refine V.goto C 14 (by decide) d_Fr_fill_63 ?_
            exact V.weak (xsub_spec (by simp [xsub])) (ih.2 (u3 + v16) u4 (u5 + (1 : Int32)) F14 _ h)
def f_Fr_fill (S : List xO) (N : Nat) (a : Nat) (p0 : Nat) (p1 : Int32) (F : xF) : Option xF :=
  t_Fr_fill S N a p0 p1 N 0 (0 : Int32) (0 : Int32) 0 F
set_option maxHeartbeats 4000000 in
set_option maxRecDepth 100000 in
theorem c_Fr_fill {l : Launch} {g : xG} {S : List xO} {G : xL} {a : Nat} {p0 : Nat} {p1 : Int32} {N : Nat} {F : xF} {F2 : xF} (h : f_Fr_fill S N a p0 p1 F = some F2) : CT l g 3 67 0 0 y_Fr_fill b_Fr_fill 7 none 1 [.ref a, .ref p0, .int p1] S F G none S F2 G := by
  refine CT.of [some (.ref a), some (.ref p0), some (.int p1), none, none, none, none] (by decide) (Nat.le_of_ble_eq_true rfl) rfl ?_
  intro p e s m args below meth c C hr hmn hz
  unfold f_Fr_fill at h
  refine V.iconst C 0 (by decide) d_Fr_fill_0 ?_
  refine V.is3 C (by decide) rfl d_Fr_fill_1 ?_
  refine V.iconst C 0 (by decide) d_Fr_fill_2 ?_
  refine V.is4 C (by decide) rfl d_Fr_fill_3 ?_
  exact V.weak (xsub_spec (by simp [xsub])) ((l_Fr_fill C hr N).1 (0 : Int32) (0 : Int32) F _ h)
def f_Fr_covers (S : List xO) (a : Nat) (p0 : Int32) (p1 : Int32) (F : xF) : Option Int32 :=
  (gI S 6 a 2 F).bind fun v1 =>
  if p0 < v1 then
    some (0 : Int32)
  else
  (gI S 6 a 2 F).bind fun v4 =>
  (gI S 6 a 4 F).bind fun v6 =>
  if v6 ≤ (p0 - v4) then
    some (0 : Int32)
  else
  (gI S 6 a 3 F).bind fun v9 =>
  if p1 < v9 then
    some (0 : Int32)
  else
  (gI S 6 a 3 F).bind fun v12 =>
  (gI S 6 a 5 F).bind fun v14 =>
  if v14 ≤ (p1 - v12) then
    some (0 : Int32)
  else
  some (1 : Int32)
set_option maxHeartbeats 4000000 in
set_option maxRecDepth 100000 in
theorem c_Fr_covers {l : Launch} {g : xG} {S : List xO} {G : xL} {a : Nat} {p0 : Int32} {p1 : Int32} {F : xF} {r : Int32} (h : f_Fr_covers S a p0 p1 F = some r) : CT l g 0 0 0 0 y_Fr_covers b_Fr_covers 3 (some .boolean) 1 [.ref a, .int p0, .int p1] S F G (some (.int r)) S F G := by
  refine CT.of [some (.ref a), some (.int p0), some (.int p1)] (by decide) (Nat.le_of_ble_eq_true rfl) rfl ?_
  intro p e s m args below meth c C hr hmn hz
  unfold f_Fr_covers at h
  refine V.iload_n C 1 rfl rfl d_Fr_covers_0 ?_
  refine V.aload_n C 0 rfl rfl d_Fr_covers_1 ?_
  obtain ⟨v1, e2, h⟩ := Option.bind_eq_some_iff.mp h
  refine V.xgetI C fl_Fr_31 e2 d_Fr_covers_2 ?_
  refine V.icmp_lt C 46 (by decide) d_Fr_covers_5 (fun c3 => ?_) (fun c3 => ?_)
  · rw [if_pos c3] at h
    refine V.iconst C 0 (by decide) d_Fr_covers_46 ?_
    obtain rfl := Option.some.inj h
    exact V.zret C hr (by first | rfl | exact xz_narrow (by assumption)) d_Fr_covers_47 rfl rfl rfl rfl
  · rw [if_neg c3] at h
    refine V.iload_n C 1 rfl rfl d_Fr_covers_8 ?_
    refine V.aload_n C 0 rfl rfl d_Fr_covers_9 ?_
    obtain ⟨v4, e5, h⟩ := Option.bind_eq_some_iff.mp h
    refine V.xgetI C fl_Fr_31 e5 d_Fr_covers_10 ?_
    refine V.isub C d_Fr_covers_13 ?_
    refine V.aload_n C 0 rfl rfl d_Fr_covers_14 ?_
    obtain ⟨v6, e7, h⟩ := Option.bind_eq_some_iff.mp h
    refine V.xgetI C fl_Fr_37 e7 d_Fr_covers_15 ?_
    refine V.icmp_ge C 46 (by decide) d_Fr_covers_18 (fun c8 => ?_) (fun c8 => ?_)
    · rw [if_pos c8] at h
      refine V.iconst C 0 (by decide) d_Fr_covers_46 ?_
      obtain rfl := Option.some.inj h
      exact V.zret C hr (by first | rfl | exact xz_narrow (by assumption)) d_Fr_covers_47 rfl rfl rfl rfl
    · rw [if_neg c8] at h
      refine V.iload_n C 2 rfl rfl d_Fr_covers_21 ?_
      refine V.aload_n C 0 rfl rfl d_Fr_covers_22 ?_
      obtain ⟨v9, e10, h⟩ := Option.bind_eq_some_iff.mp h
      refine V.xgetI C fl_Fr_34 e10 d_Fr_covers_23 ?_
      refine V.icmp_lt C 46 (by decide) d_Fr_covers_26 (fun c11 => ?_) (fun c11 => ?_)
      · rw [if_pos c11] at h
        refine V.iconst C 0 (by decide) d_Fr_covers_46 ?_
        obtain rfl := Option.some.inj h
        exact V.zret C hr (by first | rfl | exact xz_narrow (by assumption)) d_Fr_covers_47 rfl rfl rfl rfl
      · rw [if_neg c11] at h
        refine V.iload_n C 2 rfl rfl d_Fr_covers_29 ?_
        refine V.aload_n C 0 rfl rfl d_Fr_covers_30 ?_
        obtain ⟨v12, e13, h⟩ := Option.bind_eq_some_iff.mp h
        refine V.xgetI C fl_Fr_34 e13 d_Fr_covers_31 ?_
        refine V.isub C d_Fr_covers_34 ?_
        refine V.aload_n C 0 rfl rfl d_Fr_covers_35 ?_
        obtain ⟨v14, e15, h⟩ := Option.bind_eq_some_iff.mp h
        refine V.xgetI C fl_Fr_40 e15 d_Fr_covers_36 ?_
        refine V.icmp_ge C 46 (by decide) d_Fr_covers_39 (fun c16 => ?_) (fun c16 => ?_)
        · rw [if_pos c16] at h
          refine V.iconst C 0 (by decide) d_Fr_covers_46 ?_
          obtain rfl := Option.some.inj h
          exact V.zret C hr (by first | rfl | exact xz_narrow (by assumption)) d_Fr_covers_47 rfl rfl rfl rfl
        · rw [if_neg c16] at h
          refine V.iconst C 1 (by decide) d_Fr_covers_42 ?_
          refine V.goto C 47 (by decide) d_Fr_covers_43 ?_
          obtain rfl := Option.some.inj h
          exact V.zret C hr (by first | rfl | exact xz_narrow (by assumption)) d_Fr_covers_47 rfl rfl rfl rfl
def f_Fr_symbolIn (S : List xO) (a : Nat) (p0 : Int32) (p1 : Int32) (F : xF) : Option Int32 :=
  (gI S 6 a 4 F).bind fun v1 =>
  if ((p1 * v1) + p0) < (0 : Int32) then
    some (-1 : Int32)
  else
  (gR S 6 a 0).bind fun q4 =>
  (aN S q4).bind fun v6 =>
  if v6 ≤ ((p1 * v1) + p0) then
    some (-1 : Int32)
  else
  (aG S q4 ((p1 * v1) + p0) F).bind fun v9 =>
  some v9
set_option maxHeartbeats 4000000 in
set_option maxRecDepth 100000 in
theorem c_Fr_symbolIn {l : Launch} {g : xG} {S : List xO} {G : xL} {a : Nat} {p0 : Int32} {p1 : Int32} {F : xF} {r : Int32} (h : f_Fr_symbolIn S a p0 p1 F = some r) : CT l g 0 0 0 0 y_Fr_symbolIn b_Fr_symbolIn 4 (some .int) 1 [.ref a, .int p0, .int p1] S F G (some (.int r)) S F G := by
  refine CT.of [some (.ref a), some (.int p0), some (.int p1), none] (by decide) (Nat.le_of_ble_eq_true rfl) rfl ?_
  intro p e s m args below meth c C hr hmn hz
  unfold f_Fr_symbolIn at h
  refine V.iload_n C 2 rfl rfl d_Fr_symbolIn_0 ?_
  refine V.aload_n C 0 rfl rfl d_Fr_symbolIn_1 ?_
  obtain ⟨v1, e2, h⟩ := Option.bind_eq_some_iff.mp h
  refine V.xgetI C fl_Fr_37 e2 d_Fr_symbolIn_2 ?_
  refine V.imul C d_Fr_symbolIn_5 ?_
  refine V.iload_n C 1 rfl rfl d_Fr_symbolIn_6 ?_
  refine V.iadd C d_Fr_symbolIn_7 ?_
  refine V.is3 C (by decide) rfl d_Fr_symbolIn_8 ?_
  refine V.iload_n C 3 rfl rfl d_Fr_symbolIn_9 ?_
  refine V.if_lt C 31 (by decide) d_Fr_symbolIn_10 (fun c3 => ?_) (fun c3 => ?_)
  · rw [if_pos c3] at h
    refine V.iconst C (-1) (by decide) d_Fr_symbolIn_31 ?_
    obtain rfl := Option.some.inj h
    exact V.iret C hr d_Fr_symbolIn_32 rfl rfl rfl rfl
  · rw [if_neg c3] at h
    refine V.iload_n C 3 rfl rfl d_Fr_symbolIn_13 ?_
    refine V.aload_n C 0 rfl rfl d_Fr_symbolIn_14 ?_
    obtain ⟨q4, e5, h⟩ := Option.bind_eq_some_iff.mp h
    refine V.xgetR C fl_Fr_9 e5 d_Fr_symbolIn_15 ?_
    obtain ⟨v6, e7, h⟩ := Option.bind_eq_some_iff.mp h
    refine V.xalen C e7 d_Fr_symbolIn_18 ?_
    refine V.icmp_ge C 31 (by decide) d_Fr_symbolIn_19 (fun c8 => ?_) (fun c8 => ?_)
    · rw [if_pos c8] at h
      refine V.iconst C (-1) (by decide) d_Fr_symbolIn_31 ?_
      obtain rfl := Option.some.inj h
      exact V.iret C hr d_Fr_symbolIn_32 rfl rfl rfl rfl
    · rw [if_neg c8] at h
      refine V.aload_n C 0 rfl rfl d_Fr_symbolIn_22 ?_
      refine V.xgetR C fl_Fr_9 e5 d_Fr_symbolIn_23 ?_
      refine V.iload_n C 3 rfl rfl d_Fr_symbolIn_26 ?_
      obtain ⟨v9, e10, h⟩ := Option.bind_eq_some_iff.mp h
      refine V.xiald C e10 d_Fr_symbolIn_27 ?_
      refine V.goto C 32 (by decide) d_Fr_symbolIn_28 ?_
      obtain rfl := Option.some.inj h
      exact V.iret C hr d_Fr_symbolIn_32 rfl rfl rfl rfl
def f_Fr_symbolOn (S : List xO) (a : Nat) (p0 : Int32) (p1 : Int32) (F : xF) : Option Int32 :=
  (gI S 6 a 2 F).bind fun v1 =>
  (gI S 6 a 3 F).bind fun v3 =>
  (xcl S 6 a (f_Fr_symbolIn S a (p0 - v1) (p1 - v3) F)).bind fun v5 =>
  some v5
set_option maxHeartbeats 4000000 in
set_option maxRecDepth 100000 in
theorem c_Fr_symbolOn {l : Launch} {g : xG} {S : List xO} {G : xL} {a : Nat} {p0 : Int32} {p1 : Int32} {F : xF} {r : Int32} (h : f_Fr_symbolOn S a p0 p1 F = some r) : CT l g 1 23 0 0 y_Fr_symbolOn b_Fr_symbolOn 3 (some .int) 1 [.ref a, .int p0, .int p1] S F G (some (.int r)) S F G := by
  refine CT.of [some (.ref a), some (.int p0), some (.int p1)] (by decide) (Nat.le_of_ble_eq_true rfl) rfl ?_
  intro p e s m args below meth c C hr hmn hz
  unfold f_Fr_symbolOn at h
  refine V.aload_n C 0 rfl rfl d_Fr_symbolOn_0 ?_
  refine V.iload_n C 1 rfl rfl d_Fr_symbolOn_1 ?_
  refine V.aload_n C 0 rfl rfl d_Fr_symbolOn_2 ?_
  obtain ⟨v1, e2, h⟩ := Option.bind_eq_some_iff.mp h
  refine V.xgetI C fl_Fr_31 e2 d_Fr_symbolOn_3 ?_
  refine V.isub C d_Fr_symbolOn_6 ?_
  refine V.iload_n C 2 rfl rfl d_Fr_symbolOn_7 ?_
  refine V.aload_n C 0 rfl rfl d_Fr_symbolOn_8 ?_
  obtain ⟨v3, e4, h⟩ := Option.bind_eq_some_iff.mp h
  refine V.xgetI C fl_Fr_34 e4 d_Fr_symbolOn_9 ?_
  refine V.isub C d_Fr_symbolOn_12 ?_
  obtain ⟨v5, e6, h⟩ := Option.bind_eq_some_iff.mp h
  obtain ⟨⟨fs_e6, s_e6⟩, e6⟩ := xcl_spec e6
  refine V.cVr C (c_Fr_symbolIn e6) ml_Fr_62 s_e6 rfl rfl (by decide) (Nat.le_of_ble_eq_true rfl) d_Fr_symbolOn_13 ?_
  obtain rfl := Option.some.inj h
  exact V.iret C hr d_Fr_symbolOn_16 rfl rfl rfl rfl
