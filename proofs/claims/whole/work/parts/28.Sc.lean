def f_Sc_addFrame (S : List xO) (N : Nat) (a : Nat) (F : xF) : Option (Nat × xF) :=
  (gI S 7 a 2 F).bind fun v1 =>
  (gR S 7 a 0).bind fun q3 =>
  (rG S q3 (xmn v1 (11 : Int32))).bind fun q5 =>
  (xcl S 6 q5 (f_Fr_forget S N q5 F)).bind fun F7 =>
  (pI S 7 a 2 ((xmn v1 (11 : Int32)) + (1 : Int32)) F7).bind fun F9 =>
  (rG S q3 (xmn v1 (11 : Int32))).bind fun q11 =>
  some (q11, F9)
set_option maxHeartbeats 4000000 in
set_option maxRecDepth 100000 in
theorem c_Sc_addFrame {l : Launch} {g : xG} {S : List xO} {G : xL} {a : Nat} {N : Nat} {F : xF} {r : Nat} {F2 : xF} (h : f_Sc_addFrame S N a F = some (r, F2)) : CT l g 3 63 0 0 y_Sc_addFrame b_Sc_addFrame 2 (some (.object "PaletteFrames$Frame")) 1 [.ref a] S F G (some (.ref r)) S F2 G := by
  refine CT.of [some (.ref a), none] (by decide) (Nat.le_of_ble_eq_true rfl) rfl ?_
  intro p e s m args below meth c C hr hmn hz
  unfold f_Sc_addFrame at h
  refine V.aload_n C 0 rfl rfl d_Sc_addFrame_0 ?_
  obtain ⟨v1, e2, h⟩ := Option.bind_eq_some_iff.mp h
  refine V.xgetI C fl_Sc_27 e2 d_Sc_addFrame_1 ?_
  refine V.bipush C 11 (by decide) d_Sc_addFrame_4 ?_
  refine V.mmin C mw_Sc_31 (by decide) d_Sc_addFrame_6 ?_
  refine V.is1 C (by decide) rfl d_Sc_addFrame_9 ?_
  refine V.aload_n C 0 rfl rfl d_Sc_addFrame_10 ?_
  obtain ⟨q3, e4, h⟩ := Option.bind_eq_some_iff.mp h
  refine V.xgetR C fl_Sc_11 e4 d_Sc_addFrame_11 ?_
  refine V.iload_n C 1 rfl rfl d_Sc_addFrame_14 ?_
  obtain ⟨q5, e6, h⟩ := Option.bind_eq_some_iff.mp h
  refine V.xaald C e6 d_Sc_addFrame_15 ?_
  obtain ⟨F7, e8, h⟩ := Option.bind_eq_some_iff.mp h
  obtain ⟨⟨fs_e8, s_e8⟩, e8⟩ := xcl_spec e8
  refine V.cVv C (c_Fr_forget e8) ml_Sc_37 s_e8 rfl rfl (by decide) (Nat.le_of_ble_eq_true rfl) d_Sc_addFrame_16 ?_
  refine V.aload_n C 0 rfl rfl d_Sc_addFrame_19 ?_
  refine V.iload_n C 1 rfl rfl d_Sc_addFrame_20 ?_
  refine V.iconst C 1 (by decide) d_Sc_addFrame_21 ?_
  refine V.iadd C d_Sc_addFrame_22 ?_
  obtain ⟨F9, e10, h⟩ := Option.bind_eq_some_iff.mp h
  refine V.xputI C fl_Sc_27 ft_7 fi_7_2 e10 d_Sc_addFrame_23 ?_
  refine V.aload_n C 0 rfl rfl d_Sc_addFrame_26 ?_
  refine V.xgetR C fl_Sc_11 e4 d_Sc_addFrame_27 ?_
  refine V.iload_n C 1 rfl rfl d_Sc_addFrame_30 ?_
  obtain ⟨q11, e12, h⟩ := Option.bind_eq_some_iff.mp h
  refine V.xaald C e12 d_Sc_addFrame_31 ?_
  obtain ⟨rfl, rfl⟩ := Prod.mk.inj (Option.some.inj h)
  exact V.aret C hr d_Sc_addFrame_32 rfl rfl rfl rfl
def f_Sc_has (S : List xO) (a : Nat) (p0 : Int32) (F : xF) : Option Int32 :=
  if p0 < (0 : Int32) then
    some (0 : Int32)
  else
  (gI S 7 a 2 F).bind fun v2 =>
  if v2 ≤ p0 then
    some (0 : Int32)
  else
  some (1 : Int32)
set_option maxHeartbeats 4000000 in
set_option maxRecDepth 100000 in
theorem c_Sc_has {l : Launch} {g : xG} {S : List xO} {G : xL} {a : Nat} {p0 : Int32} {F : xF} {r : Int32} (h : f_Sc_has S a p0 F = some r) : CT l g 0 0 0 0 y_Sc_has b_Sc_has 2 (some .boolean) 1 [.ref a, .int p0] S F G (some (.int r)) S F G := by
  refine CT.of [some (.ref a), some (.int p0)] (by decide) (Nat.le_of_ble_eq_true rfl) rfl ?_
  intro p e s m args below meth c C hr hmn hz
  unfold f_Sc_has at h
  refine V.iload_n C 1 rfl rfl d_Sc_has_0 ?_
  refine V.if_lt C 16 (by decide) d_Sc_has_1 (fun c1 => ?_) (fun c1 => ?_)
  · rw [if_pos c1] at h
    refine V.iconst C 0 (by decide) d_Sc_has_16 ?_
    obtain rfl := Option.some.inj h
    exact V.zret C hr (by first | rfl | exact xz_narrow (by assumption)) d_Sc_has_17 rfl rfl rfl rfl
  · rw [if_neg c1] at h
    refine V.iload_n C 1 rfl rfl d_Sc_has_4 ?_
    refine V.aload_n C 0 rfl rfl d_Sc_has_5 ?_
    obtain ⟨v2, e3, h⟩ := Option.bind_eq_some_iff.mp h
    refine V.xgetI C fl_Sc_27 e3 d_Sc_has_6 ?_
    refine V.icmp_ge C 16 (by decide) d_Sc_has_9 (fun c4 => ?_) (fun c4 => ?_)
    · rw [if_pos c4] at h
      refine V.iconst C 0 (by decide) d_Sc_has_16 ?_
      obtain rfl := Option.some.inj h
      exact V.zret C hr (by first | rfl | exact xz_narrow (by assumption)) d_Sc_has_17 rfl rfl rfl rfl
    · rw [if_neg c4] at h
      refine V.iconst C 1 (by decide) d_Sc_has_12 ?_
      refine V.goto C 17 (by decide) d_Sc_has_13 ?_
      obtain rfl := Option.some.inj h
      exact V.zret C hr (by first | rfl | exact xz_narrow (by assumption)) d_Sc_has_17 rfl rfl rfl rfl
def f_Sc_sourceAfter (S : List xO) (p0 : Int32) (p1 : Int32) (p2 : Int32) (F : xF) : Option Int32 :=
  if p0 = (2 : Int32) then
    some (-1 : Int32)
  else
  if p0 = (3 : Int32) then
    some p1
  else
  some p2
set_option maxHeartbeats 4000000 in
set_option maxRecDepth 100000 in
theorem c_Sc_sourceAfter {l : Launch} {g : xG} {S : List xO} {G : xL} {p0 : Int32} {p1 : Int32} {p2 : Int32} {F : xF} {r : Int32} (h : f_Sc_sourceAfter S p0 p1 p2 F = some r) : CT l g 0 0 0 0 y_Sc_sourceAfter b_Sc_sourceAfter 3 (some .int) 1 [.int p0, .int p1, .int p2] S F G (some (.int r)) S F G := by
  refine CT.of [some (.int p0), some (.int p1), some (.int p2)] (by decide) (Nat.le_of_ble_eq_true rfl) rfl ?_
  intro p e s m args below meth c C hr hmn hz
  unfold f_Sc_sourceAfter at h
  refine V.iload_n C 0 rfl rfl d_Sc_sourceAfter_0 ?_
  refine V.iconst C 2 (by decide) d_Sc_sourceAfter_1 ?_
  refine V.icmp_ne C 7 (by decide) d_Sc_sourceAfter_2 (fun c1 => ?_) (fun c1 => ?_)
  · rw [if_neg c1] at h
    refine V.iload_n C 0 rfl rfl d_Sc_sourceAfter_7 ?_
    refine V.iconst C 3 (by decide) d_Sc_sourceAfter_8 ?_
    refine V.icmp_ne C 16 (by decide) d_Sc_sourceAfter_9 (fun c2 => ?_) (fun c2 => ?_)
    · rw [if_neg c2] at h
      refine V.iload_n C 2 rfl rfl d_Sc_sourceAfter_16 ?_
      obtain rfl := Option.some.inj h
      exact V.iret C hr d_Sc_sourceAfter_17 rfl rfl rfl rfl
    · rw [if_pos c2] at h
      refine V.iload_n C 1 rfl rfl d_Sc_sourceAfter_12 ?_
      refine V.goto C 17 (by decide) d_Sc_sourceAfter_13 ?_
      obtain rfl := Option.some.inj h
      exact V.iret C hr d_Sc_sourceAfter_17 rfl rfl rfl rfl
  · rw [if_pos c1] at h
    refine V.iconst C (-1) (by decide) d_Sc_sourceAfter_5 ?_
    obtain rfl := Option.some.inj h
    exact V.iret C hr d_Sc_sourceAfter_6 rfl rfl rfl rfl
def t_Sc_sourceBehind (S : List xO) (N : Nat) (a : Nat) (p0 : Int32) (p1 : Int32) (p2 : Int32) : Nat → Int32 → Int32 → xF → Option Int32
  | 0, _, _, _ => none
  | n + 1, u4, u5, F =>
    if p0 < u5 then
      some u4
    else
    (gI S 7 a 2 F).bind fun v2 =>
    if v2 ≤ u5 then
      some u4
    else
    (gR S 7 a 0).bind fun q5 =>
    (rG S q5 u5).bind fun q7 =>
    (xcl S 6 q7 (f_Fr_covers S q7 p1 p2 F)).bind fun v9 =>
    if v9 = (0 : Int32) then
      t_Sc_sourceBehind S N a p0 p1 p2 n u4 (u5 + (1 : Int32)) F
    else
    (f_Fr_symbolOn S q7 p1 p2 F).bind fun v12 =>
    (gI S 6 q7 8 F).bind fun v14 =>
    if v12 = v14 then
      if p0 ≤ u5 then
        t_Sc_sourceBehind S N a p0 p1 p2 n u4 (u5 + (1 : Int32)) F
      else
      (gI S 6 q7 6 F).bind fun v18 =>
      (f_Sc_sourceAfter S v18 u4 u4 F).bind fun v20 =>
      t_Sc_sourceBehind S N a p0 p1 p2 n v20 (u5 + (1 : Int32)) F
    else
    if p0 ≤ u5 then
      t_Sc_sourceBehind S N a p0 p1 p2 n u5 (u5 + (1 : Int32)) F
    else
    (gI S 6 q7 6 F).bind fun v23 =>
    (f_Sc_sourceAfter S v23 u4 u5 F).bind fun v25 =>
    t_Sc_sourceBehind S N a p0 p1 p2 n v25 (u5 + (1 : Int32)) F
set_option maxHeartbeats 4000000 in
set_option maxRecDepth 100000 in
theorem l_Sc_sourceBehind {p : Program} {l : Launch} {e : Env} {s : State} {m : MethodId} {args : Array Value} {below : List Frame} {meth : Method} {c : Code} {g : xG} {S : List xO} {G : xL} {a : Nat} {p0 : Int32} {p1 : Int32} {p2 : Int32} {N : Nat} (C : Cx p s m args meth c b_Sc_sourceBehind 8 "PaletteFrames$Screen" g) (hr : meth.sig.returnType = (some .int)) : ∀ (n : Nat), (∀ (u4 : Int32) (u5 : Int32) (F : xF) (r : Int32), t_Sc_sourceBehind S N a p0 p1 p2 n u4 u5 F = some r → V p l e (xRm 2 45 0 0) s m args below meth c (xMQ g below args s 0 0 S F G (some (.int r))) 8 g S F G 0 0 6 [some (.ref a), some (.int p0), some (.int p1), some (.int p2), some (.int u4), some (.int u5), none, none] []) := by
  intro n
  induction n with
  | zero =>
    intro u4 u5 F r h
    cases h
  | succ n ih =>
    intro u4 u5 F r h
    rw [t_Sc_sourceBehind] at h
    refine V.iload C rfl d_Sc_sourceBehind_6 ?_
    refine V.iload_n C 1 rfl rfl d_Sc_sourceBehind_8 ?_
    refine V.icmp_gt C 89 (by decide) d_Sc_sourceBehind_9 (fun c1 => ?_) (fun c1 => ?_)
    · rw [if_pos c1] at h
      refine V.iload C rfl d_Sc_sourceBehind_89 ?_
      obtain rfl := Option.some.inj h
      exact V.iret C hr d_Sc_sourceBehind_91 rfl rfl rfl rfl
    · rw [if_neg c1] at h
      refine V.iload C rfl d_Sc_sourceBehind_12 ?_
      refine V.aload_n C 0 rfl rfl d_Sc_sourceBehind_14 ?_
      obtain ⟨v2, e3, h⟩ := Option.bind_eq_some_iff.mp h
      refine V.xgetI C fl_Sc_27 e3 d_Sc_sourceBehind_15 ?_
      refine V.icmp_ge C 89 (by decide) d_Sc_sourceBehind_18 (fun c4 => ?_) (fun c4 => ?_)
      · rw [if_pos c4] at h
        refine V.iload C rfl d_Sc_sourceBehind_89 ?_
        obtain rfl := Option.some.inj h
        exact V.iret C hr d_Sc_sourceBehind_91 rfl rfl rfl rfl
      · rw [if_neg c4] at h
        refine V.aload_n C 0 rfl rfl d_Sc_sourceBehind_21 ?_
        obtain ⟨q5, e6, h⟩ := Option.bind_eq_some_iff.mp h
        refine V.xgetR C fl_Sc_11 e6 d_Sc_sourceBehind_22 ?_
        refine V.iload C rfl d_Sc_sourceBehind_25 ?_
        obtain ⟨q7, e8, h⟩ := Option.bind_eq_some_iff.mp h
        refine V.xaald C e8 d_Sc_sourceBehind_27 ?_
        refine V.as6 C (by decide) rfl d_Sc_sourceBehind_28 ?_
        refine V.aload C rfl d_Sc_sourceBehind_30 ?_
        refine V.iload_n C 2 rfl rfl d_Sc_sourceBehind_32 ?_
        refine V.iload_n C 3 rfl rfl d_Sc_sourceBehind_33 ?_
        obtain ⟨v9, e10, h⟩ := Option.bind_eq_some_iff.mp h
        obtain ⟨⟨fs_e10, s_e10⟩, e10⟩ := xcl_spec e10
        refine V.cVr C (c_Fr_covers e10) ml_Sc_53 s_e10 rfl rfl (by decide) (Nat.le_of_ble_eq_true rfl) d_Sc_sourceBehind_34 ?_
        refine V.if_eq C 83 (by decide) d_Sc_sourceBehind_37 (fun c11 => ?_) (fun c11 => ?_)
        · rw [if_pos c11] at h
          refine V.inc5 C 1 (by decide) (by decide) rfl d_Sc_sourceBehind_83 ?_
          refine V.goto C 6 (by decide) d_Sc_sourceBehind_86 ?_
          exact V.weak (xsub_spec (by simp [xsub])) (ih u4 (u5 + (1 : Int32)) F _ h)
        · rw [if_neg c11] at h
          refine V.iload C rfl d_Sc_sourceBehind_40 ?_
          refine V.is7 C (by decide) rfl d_Sc_sourceBehind_42 ?_
          refine V.aload C rfl d_Sc_sourceBehind_44 ?_
          refine V.iload_n C 2 rfl rfl d_Sc_sourceBehind_46 ?_
          refine V.iload_n C 3 rfl rfl d_Sc_sourceBehind_47 ?_
          obtain ⟨v12, e13, h⟩ := Option.bind_eq_some_iff.mp h
          refine V.cVr C (c_Fr_symbolOn e13) ml_Sc_45 s_e10 rfl rfl (by decide) (Nat.le_of_ble_eq_true rfl) d_Sc_sourceBehind_48 ?_
          refine V.aload C rfl d_Sc_sourceBehind_51 ?_
          obtain ⟨v14, e15, h⟩ := Option.bind_eq_some_iff.mp h
          refine V.xgetI C fl_Sc_57 e15 d_Sc_sourceBehind_53 ?_
          refine V.icmp_eq C 63 (by decide) d_Sc_sourceBehind_56 (fun c16 => ?_) (fun c16 => ?_)
          · rw [if_pos c16] at h
            refine V.iload C rfl d_Sc_sourceBehind_63 ?_
            refine V.iload_n C 1 rfl rfl d_Sc_sourceBehind_65 ?_
            refine V.icmp_ge C 83 (by decide) d_Sc_sourceBehind_66 (fun c17 => ?_) (fun c17 => ?_)
            · rw [if_pos c17] at h
              refine V.inc5 C 1 (by decide) (by decide) rfl d_Sc_sourceBehind_83 ?_
              refine V.goto C 6 (by decide) d_Sc_sourceBehind_86 ?_
              exact V.weak (xsub_spec (by simp [xsub])) (ih u4 (u5 + (1 : Int32)) F _ h)
            · rw [if_neg c17] at h
              refine V.aload C rfl d_Sc_sourceBehind_69 ?_
              obtain ⟨v18, e19, h⟩ := Option.bind_eq_some_iff.mp h
              refine V.xgetI C fl_Sc_60 e19 d_Sc_sourceBehind_71 ?_
              refine V.iload C rfl d_Sc_sourceBehind_74 ?_
              refine V.iload C rfl d_Sc_sourceBehind_76 ?_
              obtain ⟨v20, e21, h⟩ := Option.bind_eq_some_iff.mp h
              refine V.cSr C (c_Sc_sourceAfter e21) ml_Sc_63 rfl rfl (by decide) (Nat.le_of_ble_eq_true rfl) d_Sc_sourceBehind_78 ?_
              refine V.is4 C (by decide) rfl d_Sc_sourceBehind_81 ?_
              refine V.inc5 C 1 (by decide) (by decide) rfl d_Sc_sourceBehind_83 ?_
              refine V.goto C 6 (by decide) d_Sc_sourceBehind_86 ?_
              exact V.weak (xsub_spec (by simp [xsub])) (ih v20 (u5 + (1 : Int32)) F _ h)
          · rw [if_neg c16] at h
            refine V.iload C rfl d_Sc_sourceBehind_59 ?_
            refine V.is4 C (by decide) rfl d_Sc_sourceBehind_61 ?_
            refine V.iload C rfl d_Sc_sourceBehind_63 ?_
            refine V.iload_n C 1 rfl rfl d_Sc_sourceBehind_65 ?_
            refine V.icmp_ge C 83 (by decide) d_Sc_sourceBehind_66 (fun c22 => ?_) (fun c22 => ?_)
            · rw [if_pos c22] at h
              refine V.inc5 C 1 (by decide) (by decide) rfl d_Sc_sourceBehind_83 ?_
              refine V.goto C 6 (by decide) d_Sc_sourceBehind_86 ?_
              exact V.weak (xsub_spec (by simp [xsub])) (ih u5 (u5 + (1 : Int32)) F _ h)
            · rw [if_neg c22] at h
              refine V.aload C rfl d_Sc_sourceBehind_69 ?_
              obtain ⟨v23, e24, h⟩ := Option.bind_eq_some_iff.mp h
              refine V.xgetI C fl_Sc_60 e24 d_Sc_sourceBehind_71 ?_
              refine V.iload C rfl d_Sc_sourceBehind_74 ?_
              refine V.iload C rfl d_Sc_sourceBehind_76 ?_
              obtain ⟨v25, e26, h⟩ := Option.bind_eq_some_iff.mp h
              refine V.cSr C (c_Sc_sourceAfter e26) ml_Sc_63 rfl rfl (by decide) (Nat.le_of_ble_eq_true rfl) d_Sc_sourceBehind_78 ?_
              refine V.is4 C (by decide) rfl d_Sc_sourceBehind_81 ?_
              refine V.inc5 C 1 (by decide) (by decide) rfl d_Sc_sourceBehind_83 ?_
              refine V.goto C 6 (by decide) d_Sc_sourceBehind_86 ?_
              exact V.weak (xsub_spec (by simp [xsub])) (ih v25 (u5 + (1 : Int32)) F _ h)
def f_Sc_sourceBehind (S : List xO) (N : Nat) (a : Nat) (p0 : Int32) (p1 : Int32) (p2 : Int32) (F : xF) : Option Int32 :=
  t_Sc_sourceBehind S N a p0 p1 p2 N (-1 : Int32) (0 : Int32) F
set_option maxHeartbeats 4000000 in
set_option maxRecDepth 100000 in
theorem c_Sc_sourceBehind {l : Launch} {g : xG} {S : List xO} {G : xL} {a : Nat} {p0 : Int32} {p1 : Int32} {p2 : Int32} {N : Nat} {F : xF} {r : Int32} (h : f_Sc_sourceBehind S N a p0 p1 p2 F = some r) : CT l g 2 45 0 0 y_Sc_sourceBehind b_Sc_sourceBehind 8 (some .int) 1 [.ref a, .int p0, .int p1, .int p2] S F G (some (.int r)) S F G := by
  refine CT.of [some (.ref a), some (.int p0), some (.int p1), some (.int p2), none, none, none, none] (by decide) (Nat.le_of_ble_eq_true rfl) rfl ?_
  intro p e s m args below meth c C hr hmn hz
  unfold f_Sc_sourceBehind at h
  refine V.iconst C (-1) (by decide) d_Sc_sourceBehind_0 ?_
  refine V.is4 C (by decide) rfl d_Sc_sourceBehind_1 ?_
  refine V.iconst C 0 (by decide) d_Sc_sourceBehind_3 ?_
  refine V.is5 C (by decide) rfl d_Sc_sourceBehind_4 ?_
  exact V.weak (xsub_spec (by simp [xsub])) ((l_Sc_sourceBehind C hr N) (-1 : Int32) (0 : Int32) F _ h)
def f_Sc_colourBehind (S : List xO) (N : Nat) (a : Nat) (p0 : Int32) (p1 : Int32) (p2 : Int32) (F : xF) : Option Int32 :=
  (xcl S 7 a (f_Sc_sourceBehind S N a p0 p1 p2 F)).bind fun v1 =>
  if v1 = (-1 : Int32) then
    some (-1 : Int32)
  else
  (gR S 7 a 0).bind fun q4 =>
  (rG S q4 v1).bind fun q6 =>
  (xcl S 6 q6 (f_Fr_symbolOn S q6 p1 p2 F)).bind fun v8 =>
  (rG S q4 v1).bind fun q10 =>
  (gR S 6 q10 1).bind fun q12 =>
  (xcl S 5 q12 (f_Pa_get S q12 v8 F)).bind fun v14 =>
  if v14 = (-1 : Int32) then
    (gR S 7 a 1).bind fun q17 =>
    (xcl S 5 q17 (f_Pa_get S q17 v8 F)).bind fun v19 =>
    some v19
  else
  some v14
set_option maxHeartbeats 4000000 in
set_option maxRecDepth 100000 in
theorem c_Sc_colourBehind {l : Launch} {g : xG} {S : List xO} {G : xL} {a : Nat} {p0 : Int32} {p1 : Int32} {p2 : Int32} {N : Nat} {F : xF} {r : Int32} (h : f_Sc_colourBehind S N a p0 p1 p2 F = some r) : CT l g 3 72 0 0 y_Sc_colourBehind b_Sc_colourBehind 7 (some .int) 1 [.ref a, .int p0, .int p1, .int p2] S F G (some (.int r)) S F G := by
  refine CT.of [some (.ref a), some (.int p0), some (.int p1), some (.int p2), none, none, none] (by decide) (Nat.le_of_ble_eq_true rfl) rfl ?_
  intro p e s m args below meth c C hr hmn hz
  unfold f_Sc_colourBehind at h
  refine V.aload_n C 0 rfl rfl d_Sc_colourBehind_0 ?_
  refine V.iload_n C 1 rfl rfl d_Sc_colourBehind_1 ?_
  refine V.iload_n C 2 rfl rfl d_Sc_colourBehind_2 ?_
  refine V.iload_n C 3 rfl rfl d_Sc_colourBehind_3 ?_
  obtain ⟨v1, e2, h⟩ := Option.bind_eq_some_iff.mp h
  obtain ⟨⟨fs_e2, s_e2⟩, e2⟩ := xcl_spec e2
  refine V.cVr C (c_Sc_sourceBehind e2) ml_Sc_41 s_e2 rfl rfl (by decide) (Nat.le_of_ble_eq_true rfl) d_Sc_colourBehind_4 ?_
  refine V.is4 C (by decide) rfl d_Sc_colourBehind_7 ?_
  refine V.iload C rfl d_Sc_colourBehind_9 ?_
  refine V.iconst C (-1) (by decide) d_Sc_colourBehind_11 ?_
  refine V.icmp_ne C 17 (by decide) d_Sc_colourBehind_12 (fun c3 => ?_) (fun c3 => ?_)
  · rw [if_neg c3] at h
    refine V.aload_n C 0 rfl rfl d_Sc_colourBehind_17 ?_
    obtain ⟨q4, e5, h⟩ := Option.bind_eq_some_iff.mp h
    refine V.xgetR C fl_Sc_11 e5 d_Sc_colourBehind_18 ?_
    refine V.iload C rfl d_Sc_colourBehind_21 ?_
    obtain ⟨q6, e7, h⟩ := Option.bind_eq_some_iff.mp h
    refine V.xaald C e7 d_Sc_colourBehind_23 ?_
    refine V.iload_n C 2 rfl rfl d_Sc_colourBehind_24 ?_
    refine V.iload_n C 3 rfl rfl d_Sc_colourBehind_25 ?_
    obtain ⟨v8, e9, h⟩ := Option.bind_eq_some_iff.mp h
    obtain ⟨⟨fs_e9, s_e9⟩, e9⟩ := xcl_spec e9
    refine V.cVr C (c_Fr_symbolOn e9) ml_Sc_45 s_e9 rfl rfl (by decide) (Nat.le_of_ble_eq_true rfl) d_Sc_colourBehind_26 ?_
    refine V.is5 C (by decide) rfl d_Sc_colourBehind_29 ?_
    refine V.aload_n C 0 rfl rfl d_Sc_colourBehind_31 ?_
    refine V.xgetR C fl_Sc_11 e5 d_Sc_colourBehind_32 ?_
    refine V.iload C rfl d_Sc_colourBehind_35 ?_
    obtain ⟨q10, e11, h⟩ := Option.bind_eq_some_iff.mp h
    refine V.xaald C e11 d_Sc_colourBehind_37 ?_
    obtain ⟨q12, e13, h⟩ := Option.bind_eq_some_iff.mp h
    refine V.xgetR C fl_Sc_48 e13 d_Sc_colourBehind_38 ?_
    refine V.iload C rfl d_Sc_colourBehind_41 ?_
    obtain ⟨v14, e15, h⟩ := Option.bind_eq_some_iff.mp h
    obtain ⟨⟨fs_e15, s_e15⟩, e15⟩ := xcl_spec e15
    refine V.cVr C (c_Pa_get e15) ml_Sc_49 s_e15 rfl rfl (by decide) (Nat.le_of_ble_eq_true rfl) d_Sc_colourBehind_43 ?_
    refine V.is6 C (by decide) rfl d_Sc_colourBehind_46 ?_
    refine V.iload C rfl d_Sc_colourBehind_48 ?_
    refine V.iconst C (-1) (by decide) d_Sc_colourBehind_50 ?_
    refine V.icmp_eq C 59 (by decide) d_Sc_colourBehind_51 (fun c16 => ?_) (fun c16 => ?_)
    · rw [if_pos c16] at h
      refine V.aload_n C 0 rfl rfl d_Sc_colourBehind_59 ?_
      obtain ⟨q17, e18, h⟩ := Option.bind_eq_some_iff.mp h
      refine V.xgetR C fl_Sc_22 e18 d_Sc_colourBehind_60 ?_
      refine V.iload C rfl d_Sc_colourBehind_63 ?_
      obtain ⟨v19, e20, h⟩ := Option.bind_eq_some_iff.mp h
      obtain ⟨⟨fs_e20, s_e20⟩, e20⟩ := xcl_spec e20
      refine V.cVr C (c_Pa_get e20) ml_Sc_49 s_e20 rfl rfl (by decide) (Nat.le_of_ble_eq_true rfl) d_Sc_colourBehind_65 ?_
      obtain rfl := Option.some.inj h
      exact V.iret C hr d_Sc_colourBehind_68 rfl rfl rfl rfl
    · rw [if_neg c16] at h
      refine V.iload C rfl d_Sc_colourBehind_54 ?_
      refine V.goto C 68 (by decide) d_Sc_colourBehind_56 ?_
      obtain rfl := Option.some.inj h
      exact V.iret C hr d_Sc_colourBehind_68 rfl rfl rfl rfl
  · rw [if_pos c3] at h
    refine V.iconst C (-1) (by decide) d_Sc_colourBehind_15 ?_
    obtain rfl := Option.some.inj h
    exact V.iret C hr d_Sc_colourBehind_16 rfl rfl rfl rfl
def t_Sc_frameAt (S : List xO) (N : Nat) (a : Nat) (p0 : Int32) (p1 : Int32) : Nat → Nat → Int32 → Int32 → Int32 → Int32 → Int32 → xF → Option Int32
  | 0, _, _, _, _, _, _, _ => none
  | n + 1, tg, u3, u4, u5, u6, u7, F =>
    if tg = 0 then
      (gI S 7 a 2 F).bind fun v3 =>
      if v3 ≤ u5 then
        if p1 ≤ (0 : Int32) then
          if u4 ≤ (0 : Int32) then
            some u3
          else
          if (0 : Int32) = (0 : Int32) then
            if u4 = (0 : Int32) then none else
            t_Sc_frameAt S N a p0 p1 n 1 u3 u4 (0 : Int32) (p0 - p0 / u4 * u4) (0 : Int32) F
          else
          some u3
        else
        if (lg_cmp p0.toInt64 (u4.toInt64 * p1.toInt64)) < (0 : Int32) then
          if u4 ≤ (0 : Int32) then
            some u3
          else
          if (0 : Int32) = (0 : Int32) then
            if u4 = (0 : Int32) then none else
            t_Sc_frameAt S N a p0 p1 n 1 u3 u4 (0 : Int32) (p0 - p0 / u4 * u4) (0 : Int32) F
          else
          some u3
        else
        if u4 ≤ (0 : Int32) then
          some u3
        else
        if (1 : Int32) = (0 : Int32) then
          if u4 = (0 : Int32) then none else
          t_Sc_frameAt S N a p0 p1 n 1 u3 u4 (1 : Int32) (p0 - p0 / u4 * u4) (0 : Int32) F
        else
        some u3
      else
      (gR S 7 a 0).bind fun q17 =>
      (rG S q17 u5).bind fun q19 =>
      (gI S 6 q19 7 F).bind fun v21 =>
      t_Sc_frameAt S N a p0 p1 n 0 u3 (u4 + v21) (u5 + (1 : Int32)) 0 0 F
    else
    (gI S 7 a 2 F).bind fun v23 =>
    if v23 ≤ u7 then
      some u3
    else
    (gR S 7 a 0).bind fun q26 =>
    (rG S q26 u7).bind fun q28 =>
    (gI S 6 q28 7 F).bind fun v30 =>
    if v30 ≤ u6 then
      (rG S q26 u7).bind fun q33 =>
      (gI S 6 q33 7 F).bind fun v35 =>
      t_Sc_frameAt S N a p0 p1 n 1 u3 u4 u5 (u6 - v35) (u7 + (1 : Int32)) F
    else
    some u7
set_option maxHeartbeats 4000000 in
set_option maxRecDepth 100000 in
theorem l_Sc_frameAt {p : Program} {l : Launch} {e : Env} {s : State} {m : MethodId} {args : Array Value} {below : List Frame} {meth : Method} {c : Code} {g : xG} {S : List xO} {G : xL} {a : Nat} {p0 : Int32} {p1 : Int32} {N : Nat} (C : Cx p s m args meth c b_Sc_frameAt 8 "PaletteFrames$Screen" g) (hr : meth.sig.returnType = (some .int)) : ∀ (n : Nat), (∀ (u3 : Int32) (u4 : Int32) (u5 : Int32) (F : xF) (r : Int32), t_Sc_frameAt S N a p0 p1 n 0 u3 u4 u5 0 0 F = some r → V p l e (xRm 0 0 0 0) s m args below meth c (xMQ g below args s 0 0 S F G (some (.int r))) 8 g S F G 0 0 13 [some (.ref a), some (.int p0), some (.int p1), some (.int u3), some (.int u4), some (.int u5), none, none] []) ∧ (∀ (u3 : Int32) (u4 : Int32) (u5 : Int32) (u6 : Int32) (u7 : Int32) (F : xF) (r : Int32), t_Sc_frameAt S N a p0 p1 n 1 u3 u4 u5 u6 u7 F = some r → V p l e (xRm 0 0 0 0) s m args below meth c (xMQ g below args s 0 0 S F G (some (.int r))) 8 g S F G 0 0 87 [some (.ref a), some (.int p0), some (.int p1), some (.int u3), some (.int u4), some (.int u5), some (.int u6), some (.int u7)] []) := by
  intro n
  induction n with
  | zero =>
    refine ⟨?_, ?_⟩
    · intro u3 u4 u5 F r h
      cases h
    · intro u3 u4 u5 u6 u7 F r h
      cases h
  | succ n ih =>
    refine ⟨?_, ?_⟩
    · intro u3 u4 u5 F r h
      rw [t_Sc_frameAt] at h
      rw [if_pos rfl] at h
      refine V.iload C rfl d_Sc_frameAt_13 ?_
      refine V.aload_n C 0 rfl rfl d_Sc_frameAt_15 ?_
      obtain ⟨v3, e4, h⟩ := Option.bind_eq_some_iff.mp h
      refine V.xgetI C fl_Sc_27 e4 d_Sc_frameAt_16 ?_
      refine V.icmp_ge C 43 (by decide) d_Sc_frameAt_19 (fun c5 => ?_) (fun c5 => ?_)
      · rw [if_pos c5] at h
        refine V.iload_n C 2 rfl rfl d_Sc_frameAt_43 ?_
        refine V.if_le C 63 (by decide) d_Sc_frameAt_44 (fun c6 => ?_) (fun c6 => ?_)
        · rw [if_pos c6] at h
          refine V.iconst C 0 (by decide) d_Sc_frameAt_63 ?_
          refine V.is5 C (by decide) rfl d_Sc_frameAt_64 ?_
          refine V.iload C rfl d_Sc_frameAt_66 ?_
          refine V.if_le C 76 (by decide) d_Sc_frameAt_68 (fun c7 => ?_) (fun c7 => ?_)
          · rw [if_pos c7] at h
            refine V.iload_n C 3 rfl rfl d_Sc_frameAt_76 ?_
            obtain rfl := Option.some.inj h
            exact V.iret C hr d_Sc_frameAt_77 rfl rfl rfl rfl
          · rw [if_neg c7] at h
            refine V.iload C rfl d_Sc_frameAt_71 ?_
            refine V.if_eq C 78 (by decide) d_Sc_frameAt_73 (fun c8 => ?_) (fun c8 => ?_)
            · rw [if_pos c8] at h
              refine V.iload_n C 1 rfl rfl d_Sc_frameAt_78 ?_
              refine V.iload C rfl d_Sc_frameAt_79 ?_
              have c9 : ¬ u4 = (0 : Int32) := fun q => by rw [if_pos q] at h; cases h
              rw [if_neg c9] at h
              refine V.irem C c9 d_Sc_frameAt_81 ?_
              refine V.is6 C (by decide) rfl d_Sc_frameAt_82 ?_
              refine V.iconst C 0 (by decide) d_Sc_frameAt_84 ?_
              refine V.is7 C (by decide) rfl d_Sc_frameAt_85 ?_
              exact V.weak (xsub_spec (by simp [xsub])) (ih.2 u3 u4 (0 : Int32) (p0 - p0 / u4 * u4) (0 : Int32) F _ h)
            · rw [if_neg c8] at h
              refine V.iload_n C 3 rfl rfl d_Sc_frameAt_76 ?_
              obtain rfl := Option.some.inj h
              exact V.iret C hr d_Sc_frameAt_77 rfl rfl rfl rfl
        · rw [if_neg c6] at h
          refine V.iload_n C 1 rfl rfl d_Sc_frameAt_47 ?_
          refine V.i2l C d_Sc_frameAt_48 ?_
          refine V.iload C rfl d_Sc_frameAt_49 ?_
          refine V.i2l C d_Sc_frameAt_51 ?_
          refine V.iload_n C 2 rfl rfl d_Sc_frameAt_52 ?_
          refine V.i2l C d_Sc_frameAt_53 ?_
          refine V.lmul C d_Sc_frameAt_54 ?_
          refine V.lcmp C d_Sc_frameAt_55 ?_
          refine V.if_lt C 63 (by decide) d_Sc_frameAt_56 (fun c10 => ?_) (fun c10 => ?_)
          · rw [if_pos c10] at h
            refine V.iconst C 0 (by decide) d_Sc_frameAt_63 ?_
            refine V.is5 C (by decide) rfl d_Sc_frameAt_64 ?_
            refine V.iload C rfl d_Sc_frameAt_66 ?_
            refine V.if_le C 76 (by decide) d_Sc_frameAt_68 (fun c11 => ?_) (fun c11 => ?_)
            · rw [if_pos c11] at h
              refine V.iload_n C 3 rfl rfl d_Sc_frameAt_76 ?_
              obtain rfl := Option.some.inj h
              exact V.iret C hr d_Sc_frameAt_77 rfl rfl rfl rfl
            · rw [if_neg c11] at h
              refine V.iload C rfl d_Sc_frameAt_71 ?_
              refine V.if_eq C 78 (by decide) d_Sc_frameAt_73 (fun c12 => ?_) (fun c12 => ?_)
              · rw [if_pos c12] at h
                refine V.iload_n C 1 rfl rfl d_Sc_frameAt_78 ?_
                refine V.iload C rfl d_Sc_frameAt_79 ?_
                have c13 : ¬ u4 = (0 : Int32) := fun q => by rw [if_pos q] at h; cases h
                rw [if_neg c13] at h
                refine V.irem C c13 d_Sc_frameAt_81 ?_
                refine V.is6 C (by decide) rfl d_Sc_frameAt_82 ?_
                refine V.iconst C 0 (by decide) d_Sc_frameAt_84 ?_
                refine V.is7 C (by decide) rfl d_Sc_frameAt_85 ?_
                exact V.weak (xsub_spec (by simp [xsub])) (ih.2 u3 u4 (0 : Int32) (p0 - p0 / u4 * u4) (0 : Int32) F _ h)
              · rw [if_neg c12] at h
                refine V.iload_n C 3 rfl rfl d_Sc_frameAt_76 ?_
                obtain rfl := Option.some.inj h
                exact V.iret C hr d_Sc_frameAt_77 rfl rfl rfl rfl
          · rw [if_neg c10] at h
            refine V.iconst C 1 (by decide) d_Sc_frameAt_59 ?_
            refine V.goto C 64 (by decide) d_Sc_frameAt_60 ?_
            refine V.is5 C (by decide) rfl d_Sc_frameAt_64 ?_
            refine V.iload C rfl d_Sc_frameAt_66 ?_
            refine V.if_le C 76 (by decide) d_Sc_frameAt_68 (fun c14 => ?_) (fun c14 => ?_)
            · rw [if_pos c14] at h
              refine V.iload_n C 3 rfl rfl d_Sc_frameAt_76 ?_
              obtain rfl := Option.some.inj h
              exact V.iret C hr d_Sc_frameAt_77 rfl rfl rfl rfl
            · rw [if_neg c14] at h
              refine V.iload C rfl d_Sc_frameAt_71 ?_
              refine V.if_eq C 78 (by decide) d_Sc_frameAt_73 (fun c15 => ?_) (fun c15 => ?_)
              · rw [if_pos c15] at h
                refine V.iload_n C 1 rfl rfl d_Sc_frameAt_78 ?_
                refine V.iload C rfl d_Sc_frameAt_79 ?_
                have c16 : ¬ u4 = (0 : Int32) := fun q => by rw [if_pos q] at h; cases h
                rw [if_neg c16] at h
                refine V.irem C c16 d_Sc_frameAt_81 ?_
                refine V.is6 C (by decide) rfl d_Sc_frameAt_82 ?_
                refine V.iconst C 0 (by decide) d_Sc_frameAt_84 ?_
                refine V.is7 C (by decide) rfl d_Sc_frameAt_85 ?_
                exact V.weak (xsub_spec (by simp [xsub])) (ih.2 u3 u4 (1 : Int32) (p0 - p0 / u4 * u4) (0 : Int32) F _ h)
              · rw [if_neg c15] at h
                refine V.iload_n C 3 rfl rfl d_Sc_frameAt_76 ?_
                obtain rfl := Option.some.inj h
                exact V.iret C hr d_Sc_frameAt_77 rfl rfl rfl rfl
      · rw [if_neg c5] at h
        refine V.iload C rfl d_Sc_frameAt_22 ?_
        refine V.aload_n C 0 rfl rfl d_Sc_frameAt_24 ?_
        obtain ⟨q17, e18, h⟩ := Option.bind_eq_some_iff.mp h
        refine V.xgetR C fl_Sc_11 e18 d_Sc_frameAt_25 ?_
        refine V.iload C rfl d_Sc_frameAt_28 ?_
        obtain ⟨q19, e20, h⟩ := Option.bind_eq_some_iff.mp h
        refine V.xaald C e20 d_Sc_frameAt_30 ?_
        obtain ⟨v21, e22, h⟩ := Option.bind_eq_some_iff.mp h
        refine V.xgetI C fl_Sc_66 e22 d_Sc_frameAt_31 ?_
        refine V.iadd C d_Sc_frameAt_34 ?_
        refine V.is4 C (by decide) rfl d_Sc_frameAt_35 ?_
        refine V.inc5 C 1 (by decide) (by decide) rfl d_Sc_frameAt_37 ?_
        refine V.goto C 13 (by decide) d_Sc_frameAt_40 ?_
        exact V.weak (xsub_spec (by simp [xsub])) (ih.1 u3 (u4 + v21) (u5 + (1 : Int32)) F _ h)
    · intro u3 u4 u5 u6 u7 F r h
      rw [t_Sc_frameAt] at h
      rw [if_neg (by decide)] at h
      refine V.iload C rfl d_Sc_frameAt_87 ?_
      refine V.aload_n C 0 rfl rfl d_Sc_frameAt_89 ?_
      obtain ⟨v23, e24, h⟩ := Option.bind_eq_some_iff.mp h
      refine V.xgetI C fl_Sc_27 e24 d_Sc_frameAt_90 ?_
      refine V.icmp_ge C 135 (by decide) d_Sc_frameAt_93 (fun c25 => ?_) (fun c25 => ?_)
      · rw [if_pos c25] at h
        refine V.iload_n C 3 rfl rfl d_Sc_frameAt_135 ?_
        obtain rfl := Option.some.inj h
        exact V.iret C hr d_Sc_frameAt_136 rfl rfl rfl rfl
      · rw [if_neg c25] at h
        refine V.iload C rfl d_Sc_frameAt_96 ?_
        refine V.aload_n C 0 rfl rfl d_Sc_frameAt_98 ?_
        obtain ⟨q26, e27, h⟩ := Option.bind_eq_some_iff.mp h
        refine V.xgetR C fl_Sc_11 e27 d_Sc_frameAt_99 ?_
        refine V.iload C rfl d_Sc_frameAt_102 ?_
        obtain ⟨q28, e29, h⟩ := Option.bind_eq_some_iff.mp h
        refine V.xaald C e29 d_Sc_frameAt_104 ?_
        obtain ⟨v30, e31, h⟩ := Option.bind_eq_some_iff.mp h
        refine V.xgetI C fl_Sc_66 e31 d_Sc_frameAt_105 ?_
        refine V.icmp_ge C 114 (by decide) d_Sc_frameAt_108 (fun c32 => ?_) (fun c32 => ?_)
        · rw [if_pos c32] at h
          refine V.iload C rfl d_Sc_frameAt_114 ?_
          refine V.aload_n C 0 rfl rfl d_Sc_frameAt_116 ?_
          refine V.xgetR C fl_Sc_11 e27 d_Sc_frameAt_117 ?_
          refine V.iload C rfl d_Sc_frameAt_120 ?_
          obtain ⟨q33, e34, h⟩ := Option.bind_eq_some_iff.mp h
          refine V.xaald C e34 d_Sc_frameAt_122 ?_
          obtain ⟨v35, e36, h⟩ := Option.bind_eq_some_iff.mp h
          refine V.xgetI C fl_Sc_66 e36 d_Sc_frameAt_123 ?_
          refine V.isub C d_Sc_frameAt_126 ?_
          refine V.is6 C (by decide) rfl d_Sc_frameAt_127 ?_
          refine V.inc7 C 1 (by decide) (by decide) rfl d_Sc_frameAt_129 ?_
          refine V.goto C 87 (by decide) d_Sc_frameAt_132 ?_
          exact V.weak (xsub_spec (by simp [xsub])) (ih.2 u3 u4 u5 (u6 - v35) (u7 + (1 : Int32)) F _ h)
        · rw [if_neg c32] at h
          refine V.iload C rfl d_Sc_frameAt_111 ?_
          obtain rfl := Option.some.inj h
          exact V.iret C hr d_Sc_frameAt_113 rfl rfl rfl rfl
def f_Sc_frameAt (S : List xO) (N : Nat) (a : Nat) (p0 : Int32) (p1 : Int32) (F : xF) : Option Int32 :=
  (gI S 7 a 2 F).bind fun v1 =>
  t_Sc_frameAt S N a p0 p1 N 0 (v1 - (1 : Int32)) (0 : Int32) (0 : Int32) 0 0 F
set_option maxHeartbeats 4000000 in
set_option maxRecDepth 100000 in
theorem c_Sc_frameAt {l : Launch} {g : xG} {S : List xO} {G : xL} {a : Nat} {p0 : Int32} {p1 : Int32} {N : Nat} {F : xF} {r : Int32} (h : f_Sc_frameAt S N a p0 p1 F = some r) : CT l g 0 0 0 0 y_Sc_frameAt b_Sc_frameAt 8 (some .int) 1 [.ref a, .int p0, .int p1] S F G (some (.int r)) S F G := by
  refine CT.of [some (.ref a), some (.int p0), some (.int p1), none, none, none, none, none] (by decide) (Nat.le_of_ble_eq_true rfl) rfl ?_
  intro p e s m args below meth c C hr hmn hz
  unfold f_Sc_frameAt at h
  refine V.aload_n C 0 rfl rfl d_Sc_frameAt_0 ?_
  obtain ⟨v1, e2, h⟩ := Option.bind_eq_some_iff.mp h
  refine V.xgetI C fl_Sc_27 e2 d_Sc_frameAt_1 ?_
  refine V.iconst C 1 (by decide) d_Sc_frameAt_4 ?_
  refine V.isub C d_Sc_frameAt_5 ?_
  refine V.is3 C (by decide) rfl d_Sc_frameAt_6 ?_
  refine V.iconst C 0 (by decide) d_Sc_frameAt_7 ?_
  refine V.is4 C (by decide) rfl d_Sc_frameAt_8 ?_
  refine V.iconst C 0 (by decide) d_Sc_frameAt_10 ?_
  refine V.is5 C (by decide) rfl d_Sc_frameAt_11 ?_
  exact V.weak (xsub_spec (by simp [xsub])) ((l_Sc_frameAt C hr N).1 (v1 - (1 : Int32)) (0 : Int32) (0 : Int32) F _ h)
def f_Sc_forget (S : List xO) (N : Nat) (a : Nat) (F : xF) : Option xF :=
  (pI S 7 a 2 (0 : Int32) F).bind fun F1 =>
  (gR S 7 a 1).bind fun q3 =>
  (xcl S 5 q3 (f_Pa_forget S N q3 F1)).bind fun F5 =>
  some F5
set_option maxHeartbeats 4000000 in
set_option maxRecDepth 100000 in
theorem c_Sc_forget {l : Launch} {g : xG} {S : List xO} {G : xL} {a : Nat} {N : Nat} {F : xF} {F2 : xF} (h : f_Sc_forget S N a F = some F2) : CT l g 2 43 0 0 y_Sc_forget b_Sc_forget 1 none 1 [.ref a] S F G none S F2 G := by
  refine CT.of [some (.ref a)] (by decide) (Nat.le_of_ble_eq_true rfl) rfl ?_
  intro p e s m args below meth c C hr hmn hz
  unfold f_Sc_forget at h
  refine V.aload_n C 0 rfl rfl d_Sc_forget_0 ?_
  refine V.iconst C 0 (by decide) d_Sc_forget_1 ?_
  obtain ⟨F1, e2, h⟩ := Option.bind_eq_some_iff.mp h
  refine V.xputI C fl_Sc_27 ft_7 fi_7_2 e2 d_Sc_forget_2 ?_
  refine V.aload_n C 0 rfl rfl d_Sc_forget_5 ?_
  obtain ⟨q3, e4, h⟩ := Option.bind_eq_some_iff.mp h
  refine V.xgetR C fl_Sc_22 e4 d_Sc_forget_6 ?_
  obtain ⟨F5, e6, h⟩ := Option.bind_eq_some_iff.mp h
  obtain ⟨⟨fs_e6, s_e6⟩, e6⟩ := xcl_spec e6
  refine V.cVv C (c_Pa_forget e6) ml_Sc_40 s_e6 rfl rfl (by decide) (Nat.le_of_ble_eq_true rfl) d_Sc_forget_9 ?_
  obtain rfl := Option.some.inj h
  exact V.vret C hr d_Sc_forget_12 rfl rfl rfl
