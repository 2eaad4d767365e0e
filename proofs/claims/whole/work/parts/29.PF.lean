def t_PF_put (S : List xO) (N : Nat) (a : Nat) (p0 : Int32) (p1 : Int32) (p2 : Int32) : Nat → Int32 → Int32 → Int32 → xF → Option (Int32 × xF)
  | 0, _, _, _, _ => none
  | n + 1, u4, u5, u6, F =>
    if p2 ≤ u6 then
      (gR S 8 a 1).bind fun q11 =>
      (gI S 0 q11 1 F).bind fun v13 =>
      some (v13, F)
    else
    (gR S 8 a 1).bind fun q15 =>
    (xcl S 0 q15 (f_Nu_add S q15 (u5 &&& u4) F)).bind fun F17 =>
    t_PF_put S N a p0 p1 p2 n u4 (u5 + p1) (u6 + (1 : Int32)) F17
set_option maxHeartbeats 4000000 in
set_option maxRecDepth 100000 in
theorem l_PF_put {p : Program} {l : Launch} {e : Env} {s : State} {m : MethodId} {args : Array Value} {below : List Frame} {meth : Method} {c : Code} {g : xG} {S : List xO} {G : xL} {a : Nat} {p0 : Int32} {p1 : Int32} {p2 : Int32} {N : Nat} (C : Cx p s m args meth c b_PF_put 7 "PaletteFrames" g) (hr : meth.sig.returnType = (some .int)) : ∀ (n : Nat), (∀ (u4 : Int32) (u5 : Int32) (u6 : Int32) (F : xF) (r : Int32) (F2 : xF), t_PF_put S N a p0 p1 p2 n u4 u5 u6 F = some (r, F2) → V p l e (xRm 6 100 0 0) s m args below meth c (xMQ g below args s 0 0 S F2 G (some (.int r))) 7 g S F G 0 0 59 [some (.ref a), some (.int p0), some (.int p1), some (.int p2), some (.int u4), some (.int u5), some (.int u6)] []) := by
  intro n
  induction n with
  | zero =>
    intro u4 u5 u6 F r F2 h
    cases h
  | succ n ih =>
    intro u4 u5 u6 F r F2 h
    rw [t_PF_put] at h
    refine V.iload C rfl d_PF_put_59 ?_
    refine V.iload_n C 3 rfl rfl d_PF_put_61 ?_
    refine V.icmp_ge C 89 (by decide) d_PF_put_62 (fun c10 => ?_) (fun c10 => ?_)
    · rw [if_pos c10] at h
      refine V.aload_n C 0 rfl rfl d_PF_put_89 ?_
      obtain ⟨q11, e12, h⟩ := Option.bind_eq_some_iff.mp h
      refine V.xgetR C fl_PF_27 e12 d_PF_put_90 ?_
      obtain ⟨v13, e14, h⟩ := Option.bind_eq_some_iff.mp h
      refine V.xgetI C fl_PF_77 e14 d_PF_put_93 ?_
      obtain ⟨rfl, rfl⟩ := Prod.mk.inj (Option.some.inj h)
      exact V.iret C hr d_PF_put_96 rfl rfl rfl rfl
    · rw [if_neg c10] at h
      refine V.aload_n C 0 rfl rfl d_PF_put_65 ?_
      obtain ⟨q15, e16, h⟩ := Option.bind_eq_some_iff.mp h
      refine V.xgetR C fl_PF_27 e16 d_PF_put_66 ?_
      refine V.iload C rfl d_PF_put_69 ?_
      refine V.iload C rfl d_PF_put_71 ?_
      refine V.iand C d_PF_put_73 ?_
      obtain ⟨F17, e18, h⟩ := Option.bind_eq_some_iff.mp h
      obtain ⟨⟨fs_e18, s_e18⟩, e18⟩ := xcl_spec e18
      refine V.cVv C (c_Nu_add e18) ml_PF_74 s_e18 rfl rfl (by decide) (Nat.le_of_ble_eq_true rfl) d_PF_put_74 ?_
      refine V.iload C rfl d_PF_put_77 ?_
      refine V.iload_n C 2 rfl rfl d_PF_put_79 ?_
      refine V.iadd C d_PF_put_80 ?_
      refine V.is5 C (by decide) rfl d_PF_put_81 ?_
      refine V.inc6 C 1 (by decide) (by decide) rfl d_PF_put_83 ?_
      refine V.goto C 59 (by decide) d_PF_put_86 ?_
      exact V.weak (xsub_spec (by simp [xsub])) (ih u4 (u5 + p1) (u6 + (1 : Int32)) F17 _ _ h)
def f_PF_put (S : List xO) (N : Nat) (a : Nat) (p0 : Int32) (p1 : Int32) (p2 : Int32) (F : xF) : Option (Nat × Int32 × xF) :=
  if p2 < (1 : Int32) then
    some (1, 0, F)
  else
  if p2 ≤ (1000 : Int32) then
    (gR S 8 a 1).bind fun q3 =>
    (xcl S 0 q3 (f_Nu_room S q3 F)).bind fun v5 =>
    if p2 ≤ v5 then
      (gI S 8 a 0 F).bind fun v8 =>
      (t_PF_put S N a p0 p1 p2 N (((1 : Int32) <<< (v8 &&& 31)) - (1 : Int32)) p0 (0 : Int32) F).bind fun w9 => some (0, w9.1, w9.2)
    else
    some (2, 0, F)
  else
  some (1, 0, F)
set_option maxHeartbeats 4000000 in
set_option maxRecDepth 100000 in
theorem c_PF_put {l : Launch} {g : xG} {S : List xO} {G : xL} {a : Nat} {p0 : Int32} {p1 : Int32} {p2 : Int32} {N : Nat} {F : xF} {r : Int32} {F2 : xF} (h : f_PF_put S N a p0 p1 p2 F = some (0, r, F2)) : CT l g 6 100 0 0 y_PF_put b_PF_put 7 (some .int) 1 [.ref a, .int p0, .int p1, .int p2] S F G (some (.int r)) S F2 G := by
  refine CT.of [some (.ref a), some (.int p0), some (.int p1), some (.int p2), none, none, none] (by decide) (Nat.le_of_ble_eq_true rfl) rfl ?_
  intro p e s m args below meth c C hr hmn hz
  unfold f_PF_put at h
  refine V.iload_n C 3 rfl rfl d_PF_put_0 ?_
  refine V.iconst C 1 (by decide) d_PF_put_1 ?_
  refine V.icmp_lt C 12 (by decide) d_PF_put_2 (fun c1 => ?_) (fun c1 => ?_)
  · rw [if_pos c1] at h
    simp at h
  · rw [if_neg c1] at h
    refine V.iload_n C 3 rfl rfl d_PF_put_5 ?_
    refine V.sipush C 1000 (by decide) d_PF_put_6 ?_
    refine V.icmp_le C 22 (by decide) d_PF_put_9 (fun c2 => ?_) (fun c2 => ?_)
    · rw [if_pos c2] at h
      refine V.iload_n C 3 rfl rfl d_PF_put_22 ?_
      refine V.aload_n C 0 rfl rfl d_PF_put_23 ?_
      obtain ⟨q3, e4, h⟩ := Option.bind_eq_some_iff.mp h
      refine V.xgetR C fl_PF_27 e4 d_PF_put_24 ?_
      obtain ⟨v5, e6, h⟩ := Option.bind_eq_some_iff.mp h
      obtain ⟨⟨fs_e6, s_e6⟩, e6⟩ := xcl_spec e6
      refine V.cVr C (c_Nu_room e6) ml_PF_65 s_e6 rfl rfl (by decide) (Nat.le_of_ble_eq_true rfl) d_PF_put_27 ?_
      refine V.icmp_le C 43 (by decide) d_PF_put_30 (fun c7 => ?_) (fun c7 => ?_)
      · rw [if_pos c7] at h
        refine V.iconst C 1 (by decide) d_PF_put_43 ?_
        refine V.aload_n C 0 rfl rfl d_PF_put_44 ?_
        obtain ⟨v8, e9, h⟩ := Option.bind_eq_some_iff.mp h
        refine V.xgetI C fl_PF_18 e9 d_PF_put_45 ?_
        refine V.ishl C d_PF_put_48 ?_
        refine V.iconst C 1 (by decide) d_PF_put_49 ?_
        refine V.isub C d_PF_put_50 ?_
        refine V.is4 C (by decide) rfl d_PF_put_51 ?_
        refine V.iload_n C 1 rfl rfl d_PF_put_53 ?_
        refine V.is5 C (by decide) rfl d_PF_put_54 ?_
        refine V.iconst C 0 (by decide) d_PF_put_56 ?_
        refine V.is6 C (by decide) rfl d_PF_put_57 ?_
        obtain ⟨⟨r9, F9⟩, h8, h9⟩ := Option.bind_eq_some_iff.mp h
        simp only [Option.some.injEq, Prod.mk.injEq, true_and] at h9
        obtain ⟨rfl, rfl⟩ := h9
        have h := h8
        exact V.weak (xsub_spec (by simp [xsub])) ((l_PF_put C hr N) (((1 : Int32) <<< (v8 &&& 31)) - (1 : Int32)) p0 (0 : Int32) F _ _ h)
      · rw [if_neg c7] at h
        simp at h
    · rw [if_neg c2] at h
      simp at h
set_option maxHeartbeats 4000000 in
set_option maxRecDepth 100000 in
theorem x_PF_put {l : Launch} (hfl : l.flags = flags0) {g : xG} {S : List xO} {G : xL} {a : Nat} {p0 : Int32} {p1 : Int32} {p2 : Int32} {N : Nat} {F : xF} {r : Int32} {F2 : xF} {k : Nat} (h : f_PF_put S N a p0 p1 p2 F = some (k + 1, r, F2)) : CX l g 6 100 y_PF_put b_PF_put 7 (some .int) [.ref a, .int p0, .int p1, .int p2] S F G (k + 1) F2 := by
  refine CX.of [some (.ref a), some (.int p0), some (.int p1), some (.int p2), none, none, none] (by decide) (Nat.le_of_ble_eq_true rfl) rfl ?_
  intro p e s m args below meth c C hr hmn hne
  unfold f_PF_put at h
  refine V.iload_n C 3 rfl rfl d_PF_put_0 ?_
  refine V.iconst C 1 (by decide) d_PF_put_1 ?_
  refine V.icmp_lt C 12 (by decide) d_PF_put_2 (fun c1 => ?_) (fun c1 => ?_)
  · rw [if_pos c1] at h
    simp only [Option.some.injEq, Prod.mk.injEq] at h
    obtain ⟨hk, rfl, rfl⟩ := h
    obtain rfl : k = 0 := by omega
    exact V.thr C hfl hne xw_PF_12_60 (by decide) d_PF_put_12 d_PF_put_15 d_PF_put_16 d_PF_put_18 d_PF_put_21
  · rw [if_neg c1] at h
    refine V.iload_n C 3 rfl rfl d_PF_put_5 ?_
    refine V.sipush C 1000 (by decide) d_PF_put_6 ?_
    refine V.icmp_le C 22 (by decide) d_PF_put_9 (fun c2 => ?_) (fun c2 => ?_)
    · rw [if_pos c2] at h
      refine V.iload_n C 3 rfl rfl d_PF_put_22 ?_
      refine V.aload_n C 0 rfl rfl d_PF_put_23 ?_
      obtain ⟨q3, e4, h⟩ := Option.bind_eq_some_iff.mp h
      refine V.xgetR C fl_PF_27 e4 d_PF_put_24 ?_
      obtain ⟨v5, e6, h⟩ := Option.bind_eq_some_iff.mp h
      obtain ⟨⟨fs_e6, s_e6⟩, e6⟩ := xcl_spec e6
      refine V.cVr C (c_Nu_room e6) ml_PF_65 s_e6 rfl rfl (by decide) (Nat.le_of_ble_eq_true rfl) d_PF_put_27 ?_
      refine V.icmp_le C 43 (by decide) d_PF_put_30 (fun c7 => ?_) (fun c7 => ?_)
      · rw [if_pos c7] at h
        refine V.iconst C 1 (by decide) d_PF_put_43 ?_
        refine V.aload_n C 0 rfl rfl d_PF_put_44 ?_
        obtain ⟨v8, e9, h⟩ := Option.bind_eq_some_iff.mp h
        refine V.xgetI C fl_PF_18 e9 d_PF_put_45 ?_
        refine V.ishl C d_PF_put_48 ?_
        refine V.iconst C 1 (by decide) d_PF_put_49 ?_
        refine V.isub C d_PF_put_50 ?_
        refine V.is4 C (by decide) rfl d_PF_put_51 ?_
        refine V.iload_n C 1 rfl rfl d_PF_put_53 ?_
        refine V.is5 C (by decide) rfl d_PF_put_54 ?_
        refine V.iconst C 0 (by decide) d_PF_put_56 ?_
        refine V.is6 C (by decide) rfl d_PF_put_57 ?_
        obtain ⟨⟨r9, F9⟩, h8, h9⟩ := Option.bind_eq_some_iff.mp h
        simp at h9
      · rw [if_neg c7] at h
        simp only [Option.some.injEq, Prod.mk.injEq] at h
        obtain ⟨hk, rfl, rfl⟩ := h
        obtain rfl : k = 1 := by omega
        exact V.thr C hfl hne xw_PF_33_71 (by decide) d_PF_put_33 d_PF_put_36 d_PF_put_37 d_PF_put_39 d_PF_put_42
    · rw [if_neg c2] at h
      simp only [Option.some.injEq, Prod.mk.injEq] at h
      obtain ⟨hk, rfl, rfl⟩ := h
      obtain rfl : k = 0 := by omega
      exact V.thr C hfl hne xw_PF_12_60 (by decide) d_PF_put_12 d_PF_put_15 d_PF_put_16 d_PF_put_18 d_PF_put_21
def f_PF_rule (S : List xO) (a : Nat) (p0 : Int32) (F : xF) : Option (Nat × Int32 × xF) :=
  if p0 < (0 : Int32) then
    some (1, 0, F)
  else
  if p0 ≤ (2 : Int32) then
    (gI S 8 a 6 F).bind fun v3 =>
    (pI S 8 a 6 p0 F).bind fun F5 =>
    some (0, v3, F5)
  else
  some (1, 0, F)
set_option maxHeartbeats 4000000 in
set_option maxRecDepth 100000 in
theorem c_PF_rule {l : Launch} {g : xG} {S : List xO} {G : xL} {a : Nat} {p0 : Int32} {F : xF} {r : Int32} {F2 : xF} (h : f_PF_rule S a p0 F = some (0, r, F2)) : CT l g 6 100 0 0 y_PF_rule b_PF_rule 3 (some .int) 1 [.ref a, .int p0] S F G (some (.int r)) S F2 G := by
  refine CT.of [some (.ref a), some (.int p0), none] (by decide) (Nat.le_of_ble_eq_true rfl) rfl ?_
  intro p e s m args below meth c C hr hmn hz
  unfold f_PF_rule at h
  refine V.iload_n C 1 rfl rfl d_PF_rule_0 ?_
  refine V.if_lt C 9 (by decide) d_PF_rule_1 (fun c1 => ?_) (fun c1 => ?_)
  · rw [if_pos c1] at h
    simp at h
  · rw [if_neg c1] at h
    refine V.iload_n C 1 rfl rfl d_PF_rule_4 ?_
    refine V.iconst C 2 (by decide) d_PF_rule_5 ?_
    refine V.icmp_le C 19 (by decide) d_PF_rule_6 (fun c2 => ?_) (fun c2 => ?_)
    · rw [if_pos c2] at h
      refine V.aload_n C 0 rfl rfl d_PF_rule_19 ?_
      obtain ⟨v3, e4, h⟩ := Option.bind_eq_some_iff.mp h
      refine V.xgetI C fl_PF_55 e4 d_PF_rule_20 ?_
      refine V.is2 C (by decide) rfl d_PF_rule_23 ?_
      refine V.aload_n C 0 rfl rfl d_PF_rule_24 ?_
      refine V.iload_n C 1 rfl rfl d_PF_rule_25 ?_
      obtain ⟨F5, e6, h⟩ := Option.bind_eq_some_iff.mp h
      refine V.xputI C fl_PF_55 ft_8 fi_8_6 e6 d_PF_rule_26 ?_
      refine V.iload_n C 2 rfl rfl d_PF_rule_29 ?_
      simp only [Option.some.injEq, Prod.mk.injEq, true_and] at h
      obtain ⟨rfl, rfl⟩ := h
      exact V.iret C hr d_PF_rule_30 rfl rfl rfl rfl
    · rw [if_neg c2] at h
      simp at h
set_option maxHeartbeats 4000000 in
set_option maxRecDepth 100000 in
theorem x_PF_rule {l : Launch} (hfl : l.flags = flags0) {g : xG} {S : List xO} {G : xL} {a : Nat} {p0 : Int32} {F : xF} {r : Int32} {F2 : xF} {k : Nat} (h : f_PF_rule S a p0 F = some (k + 1, r, F2)) : CX l g 6 100 y_PF_rule b_PF_rule 3 (some .int) [.ref a, .int p0] S F G (k + 1) F2 := by
  refine CX.of [some (.ref a), some (.int p0), none] (by decide) (Nat.le_of_ble_eq_true rfl) rfl ?_
  intro p e s m args below meth c C hr hmn hne
  unfold f_PF_rule at h
  refine V.iload_n C 1 rfl rfl d_PF_rule_0 ?_
  refine V.if_lt C 9 (by decide) d_PF_rule_1 (fun c1 => ?_) (fun c1 => ?_)
  · rw [if_pos c1] at h
    simp only [Option.some.injEq, Prod.mk.injEq] at h
    obtain ⟨hk, rfl, rfl⟩ := h
    obtain rfl : k = 0 := by omega
    exact V.thr C hfl hne xw_PF_9_80 (by decide) d_PF_rule_9 d_PF_rule_12 d_PF_rule_13 d_PF_rule_15 d_PF_rule_18
  · rw [if_neg c1] at h
    refine V.iload_n C 1 rfl rfl d_PF_rule_4 ?_
    refine V.iconst C 2 (by decide) d_PF_rule_5 ?_
    refine V.icmp_le C 19 (by decide) d_PF_rule_6 (fun c2 => ?_) (fun c2 => ?_)
    · rw [if_pos c2] at h
      refine V.aload_n C 0 rfl rfl d_PF_rule_19 ?_
      obtain ⟨v3, e4, h⟩ := Option.bind_eq_some_iff.mp h
      refine V.xgetI C fl_PF_55 e4 d_PF_rule_20 ?_
      refine V.is2 C (by decide) rfl d_PF_rule_23 ?_
      refine V.aload_n C 0 rfl rfl d_PF_rule_24 ?_
      refine V.iload_n C 1 rfl rfl d_PF_rule_25 ?_
      obtain ⟨F5, e6, h⟩ := Option.bind_eq_some_iff.mp h
      refine V.xputI C fl_PF_55 ft_8 fi_8_6 e6 d_PF_rule_26 ?_
      refine V.iload_n C 2 rfl rfl d_PF_rule_29 ?_
      simp at h
    · rw [if_neg c2] at h
      simp only [Option.some.injEq, Prod.mk.injEq] at h
      obtain ⟨hk, rfl, rfl⟩ := h
      obtain rfl : k = 0 := by omega
      exact V.thr C hfl hne xw_PF_9_80 (by decide) d_PF_rule_9 d_PF_rule_12 d_PF_rule_13 d_PF_rule_15 d_PF_rule_18
def f_PF_encode (S : List xO) (N : Nat) (a : Nat) (F : xF) : Option (Int32 × xF) :=
  (gR S 8 a 3).bind fun q1 =>
  (gR S 8 a 1).bind fun q3 =>
  (gI S 8 a 6 F).bind fun v5 =>
  (xcl S 3 q1 (f_Co_codeRow S N q1 q3 v5 F)).bind fun F7 =>
  (gR S 3 q1 4).bind fun q9 =>
  (gI S 0 q9 1 F7).bind fun v11 =>
  some (v11, F7)
set_option maxHeartbeats 4000000 in
set_option maxRecDepth 100000 in
theorem c_PF_encode {l : Launch} {g : xG} {S : List xO} {G : xL} {a : Nat} {N : Nat} {F : xF} {r : Int32} {F2 : xF} (h : f_PF_encode S N a F = some (r, F2)) : CT l g 4 92 0 0 y_PF_encode b_PF_encode 1 (some .int) 1 [.ref a] S F G (some (.int r)) S F2 G := by
  refine CT.of [some (.ref a)] (by decide) (Nat.le_of_ble_eq_true rfl) rfl ?_
  intro p e s m args below meth c C hr hmn hz
  unfold f_PF_encode at h
  refine V.aload_n C 0 rfl rfl d_PF_encode_0 ?_
  obtain ⟨q1, e2, h⟩ := Option.bind_eq_some_iff.mp h
  refine V.xgetR C fl_PF_37 e2 d_PF_encode_1 ?_
  refine V.aload_n C 0 rfl rfl d_PF_encode_4 ?_
  obtain ⟨q3, e4, h⟩ := Option.bind_eq_some_iff.mp h
  refine V.xgetR C fl_PF_27 e4 d_PF_encode_5 ?_
  refine V.aload_n C 0 rfl rfl d_PF_encode_8 ?_
  obtain ⟨v5, e6, h⟩ := Option.bind_eq_some_iff.mp h
  refine V.xgetI C fl_PF_55 e6 d_PF_encode_9 ?_
  obtain ⟨F7, e8, h⟩ := Option.bind_eq_some_iff.mp h
  obtain ⟨⟨fs_e8, s_e8⟩, e8⟩ := xcl_spec e8
  refine V.cVv C (c_Co_codeRow e8) ml_PF_82 s_e8 rfl rfl (by decide) (Nat.le_of_ble_eq_true rfl) d_PF_encode_12 ?_
  refine V.aload_n C 0 rfl rfl d_PF_encode_15 ?_
  refine V.xgetR C fl_PF_37 e2 d_PF_encode_16 ?_
  obtain ⟨q9, e10, h⟩ := Option.bind_eq_some_iff.mp h
  refine V.xgetR C fl_PF_86 e10 d_PF_encode_19 ?_
  obtain ⟨v11, e12, h⟩ := Option.bind_eq_some_iff.mp h
  refine V.xgetI C fl_PF_77 e12 d_PF_encode_22 ?_
  obtain ⟨rfl, rfl⟩ := Prod.mk.inj (Option.some.inj h)
  exact V.iret C hr d_PF_encode_25 rfl rfl rfl rfl
def f_PF_byteAt (S : List xO) (a : Nat) (p0 : Int32) (F : xF) : Option (Nat × Int32 × xF) :=
  (gR S 8 a 3).bind fun q1 =>
  (gR S 3 q1 4).bind fun q3 =>
  (xcl S 0 q3 (f_Nu_has S q3 p0 F)).bind fun v5 =>
  if v5 = (0 : Int32) then
    some (3, 0, F)
  else
  (f_Nu_get S q3 p0 F).bind fun v8 =>
  some (0, v8, F)
set_option maxHeartbeats 4000000 in
set_option maxRecDepth 100000 in
theorem c_PF_byteAt {l : Launch} {g : xG} {S : List xO} {G : xL} {a : Nat} {p0 : Int32} {F : xF} {r : Int32} {F2 : xF} (h : f_PF_byteAt S a p0 F = some (0, r, F2)) : CT l g 6 100 0 0 y_PF_byteAt b_PF_byteAt 2 (some .int) 1 [.ref a, .int p0] S F G (some (.int r)) S F2 G := by
  refine CT.of [some (.ref a), some (.int p0)] (by decide) (Nat.le_of_ble_eq_true rfl) rfl ?_
  intro p e s m args below meth c C hr hmn hz
  unfold f_PF_byteAt at h
  refine V.aload_n C 0 rfl rfl d_PF_byteAt_0 ?_
  obtain ⟨q1, e2, h⟩ := Option.bind_eq_some_iff.mp h
  refine V.xgetR C fl_PF_37 e2 d_PF_byteAt_1 ?_
  obtain ⟨q3, e4, h⟩ := Option.bind_eq_some_iff.mp h
  refine V.xgetR C fl_PF_86 e4 d_PF_byteAt_4 ?_
  refine V.iload_n C 1 rfl rfl d_PF_byteAt_7 ?_
  obtain ⟨v5, e6, h⟩ := Option.bind_eq_some_iff.mp h
  obtain ⟨⟨fs_e6, s_e6⟩, e6⟩ := xcl_spec e6
  refine V.cVr C (c_Nu_has e6) ml_PF_89 s_e6 rfl rfl (by decide) (Nat.le_of_ble_eq_true rfl) d_PF_byteAt_8 ?_
  refine V.if_ne C 24 (by decide) d_PF_byteAt_11 (fun c7 => ?_) (fun c7 => ?_)
  · rw [if_neg c7] at h
    refine V.aload_n C 0 rfl rfl d_PF_byteAt_24 ?_
    refine V.xgetR C fl_PF_37 e2 d_PF_byteAt_25 ?_
    refine V.xgetR C fl_PF_86 e4 d_PF_byteAt_28 ?_
    refine V.iload_n C 1 rfl rfl d_PF_byteAt_31 ?_
    obtain ⟨v8, e9, h⟩ := Option.bind_eq_some_iff.mp h
    refine V.cVr C (c_Nu_get e9) ml_PF_98 s_e6 rfl rfl (by decide) (Nat.le_of_ble_eq_true rfl) d_PF_byteAt_32 ?_
    simp only [Option.some.injEq, Prod.mk.injEq, true_and] at h
    obtain ⟨rfl, rfl⟩ := h
    exact V.iret C hr d_PF_byteAt_35 rfl rfl rfl rfl
  · rw [if_pos c7] at h
    simp at h
set_option maxHeartbeats 4000000 in
set_option maxRecDepth 100000 in
theorem x_PF_byteAt {l : Launch} (hfl : l.flags = flags0) {g : xG} {S : List xO} {G : xL} {a : Nat} {p0 : Int32} {F : xF} {r : Int32} {F2 : xF} {k : Nat} (h : f_PF_byteAt S a p0 F = some (k + 1, r, F2)) : CX l g 6 100 y_PF_byteAt b_PF_byteAt 2 (some .int) [.ref a, .int p0] S F G (k + 1) F2 := by
  refine CX.of [some (.ref a), some (.int p0)] (by decide) (Nat.le_of_ble_eq_true rfl) rfl ?_
  intro p e s m args below meth c C hr hmn hne
  unfold f_PF_byteAt at h
  refine V.aload_n C 0 rfl rfl d_PF_byteAt_0 ?_
  obtain ⟨q1, e2, h⟩ := Option.bind_eq_some_iff.mp h
  refine V.xgetR C fl_PF_37 e2 d_PF_byteAt_1 ?_
  obtain ⟨q3, e4, h⟩ := Option.bind_eq_some_iff.mp h
  refine V.xgetR C fl_PF_86 e4 d_PF_byteAt_4 ?_
  refine V.iload_n C 1 rfl rfl d_PF_byteAt_7 ?_
  obtain ⟨v5, e6, h⟩ := Option.bind_eq_some_iff.mp h
  obtain ⟨⟨fs_e6, s_e6⟩, e6⟩ := xcl_spec e6
  refine V.cVr C (c_Nu_has e6) ml_PF_89 s_e6 rfl rfl (by decide) (Nat.le_of_ble_eq_true rfl) d_PF_byteAt_8 ?_
  refine V.if_ne C 24 (by decide) d_PF_byteAt_11 (fun c7 => ?_) (fun c7 => ?_)
  · rw [if_neg c7] at h
    refine V.aload_n C 0 rfl rfl d_PF_byteAt_24 ?_
    refine V.xgetR C fl_PF_37 e2 d_PF_byteAt_25 ?_
    refine V.xgetR C fl_PF_86 e4 d_PF_byteAt_28 ?_
    refine V.iload_n C 1 rfl rfl d_PF_byteAt_31 ?_
    obtain ⟨v8, e9, h⟩ := Option.bind_eq_some_iff.mp h
    refine V.cVr C (c_Nu_get e9) ml_PF_98 s_e6 rfl rfl (by decide) (Nat.le_of_ble_eq_true rfl) d_PF_byteAt_32 ?_
    simp at h
  · rw [if_pos c7] at h
    simp only [Option.some.injEq, Prod.mk.injEq] at h
    obtain ⟨hk, rfl, rfl⟩ := h
    obtain rfl : k = 2 := by omega
    exact V.thr C hfl hne xw_PF_14_95 (by decide) d_PF_byteAt_14 d_PF_byteAt_17 d_PF_byteAt_18 d_PF_byteAt_20 d_PF_byteAt_23
def f_PF_coded (S : List xO) (a : Nat) (p0 : Int32) (F : xF) : Option Int32 :=
  if p0 = (0 : Int32) then
    (gR S 8 a 3).bind fun q2 =>
    (gI S 3 q2 5 F).bind fun v4 =>
    some v4
  else
  if p0 = (1 : Int32) then
    (gR S 8 a 3).bind fun q7 =>
    (gI S 3 q7 6 F).bind fun v9 =>
    some v9
  else
  if p0 = (2 : Int32) then
    (gR S 8 a 3).bind fun q12 =>
    (gI S 3 q12 7 F).bind fun v14 =>
    some v14
  else
  if p0 = (3 : Int32) then
    (gR S 8 a 3).bind fun q17 =>
    (gR S 3 q17 3).bind fun q19 =>
    (xcl S 2 q19 (f_St_count S q19 F)).bind fun v21 =>
    some v21
  else
  some (-1 : Int32)
set_option maxHeartbeats 4000000 in
set_option maxRecDepth 100000 in
theorem c_PF_coded {l : Launch} {g : xG} {S : List xO} {G : xL} {a : Nat} {p0 : Int32} {F : xF} {r : Int32} (h : f_PF_coded S a p0 F = some r) : CT l g 1 20 0 0 y_PF_coded b_PF_coded 2 (some .int) 1 [.ref a, .int p0] S F G (some (.int r)) S F G := by
  refine CT.of [some (.ref a), some (.int p0)] (by decide) (Nat.le_of_ble_eq_true rfl) rfl ?_
  intro p e s m args below meth c C hr hmn hz
  unfold f_PF_coded at h
  refine V.iload_n C 1 rfl rfl d_PF_coded_0 ?_
  by_cases c1 : p0 = (0 : Int32)
  · rw [if_pos c1] at h
    refine V.tableIn C 32 (by rw [c1]; decide) (by rw [c1]; decide) (by rw [c1]; rfl) (by decide) d_PF_coded_1 ?_
    refine V.aload_n C 0 rfl rfl d_PF_coded_32 ?_
    obtain ⟨q2, e3, h⟩ := Option.bind_eq_some_iff.mp h
    refine V.xgetR C fl_PF_37 e3 d_PF_coded_33 ?_
    obtain ⟨v4, e5, h⟩ := Option.bind_eq_some_iff.mp h
    refine V.xgetI C fl_PF_102 e5 d_PF_coded_36 ?_
    obtain rfl := Option.some.inj h
    exact V.iret C hr d_PF_coded_39 rfl rfl rfl rfl
  rw [if_neg c1] at h
  by_cases c6 : p0 = (1 : Int32)
  · rw [if_pos c6] at h
    refine V.tableIn C 40 (by rw [c6]; decide) (by rw [c6]; decide) (by rw [c6]; rfl) (by decide) d_PF_coded_1 ?_
    refine V.aload_n C 0 rfl rfl d_PF_coded_40 ?_
    obtain ⟨q7, e8, h⟩ := Option.bind_eq_some_iff.mp h
    refine V.xgetR C fl_PF_37 e8 d_PF_coded_41 ?_
    obtain ⟨v9, e10, h⟩ := Option.bind_eq_some_iff.mp h
    refine V.xgetI C fl_PF_105 e10 d_PF_coded_44 ?_
    obtain rfl := Option.some.inj h
    exact V.iret C hr d_PF_coded_47 rfl rfl rfl rfl
  rw [if_neg c6] at h
  by_cases c11 : p0 = (2 : Int32)
  · rw [if_pos c11] at h
    refine V.tableIn C 48 (by rw [c11]; decide) (by rw [c11]; decide) (by rw [c11]; rfl) (by decide) d_PF_coded_1 ?_
    refine V.aload_n C 0 rfl rfl d_PF_coded_48 ?_
    obtain ⟨q12, e13, h⟩ := Option.bind_eq_some_iff.mp h
    refine V.xgetR C fl_PF_37 e13 d_PF_coded_49 ?_
    obtain ⟨v14, e15, h⟩ := Option.bind_eq_some_iff.mp h
    refine V.xgetI C fl_PF_108 e15 d_PF_coded_52 ?_
    obtain rfl := Option.some.inj h
    exact V.iret C hr d_PF_coded_55 rfl rfl rfl rfl
  rw [if_neg c11] at h
  by_cases c16 : p0 = (3 : Int32)
  · rw [if_pos c16] at h
    refine V.tableIn C 56 (by rw [c16]; decide) (by rw [c16]; decide) (by rw [c16]; rfl) (by decide) d_PF_coded_1 ?_
    refine V.aload_n C 0 rfl rfl d_PF_coded_56 ?_
    obtain ⟨q17, e18, h⟩ := Option.bind_eq_some_iff.mp h
    refine V.xgetR C fl_PF_37 e18 d_PF_coded_57 ?_
    obtain ⟨q19, e20, h⟩ := Option.bind_eq_some_iff.mp h
    refine V.xgetR C fl_PF_111 e20 d_PF_coded_60 ?_
    obtain ⟨v21, e22, h⟩ := Option.bind_eq_some_iff.mp h
    obtain ⟨⟨fs_e22, s_e22⟩, e22⟩ := xcl_spec e22
    refine V.cVr C (c_St_count e22) ml_PF_115 s_e22 rfl rfl (by decide) (Nat.le_of_ble_eq_true rfl) d_PF_coded_63 ?_
    obtain rfl := Option.some.inj h
    exact V.iret C hr d_PF_coded_66 rfl rfl rfl rfl
  rw [if_neg c16] at h
  have k_c1 := lv_neT c1 (show (0 : Int32).toInt = 0 by decide)
  have k_c6 := lv_neT c6 (show (1 : Int32).toInt = 1 by decide)
  have k_c11 := lv_neT c11 (show (2 : Int32).toInt = 2 by decide)
  have k_c16 := lv_neT c16 (show (3 : Int32).toInt = 3 by decide)
  refine V.tableOut C 67 (by omega) (by decide) d_PF_coded_1 ?_
  refine V.iconst C (-1) (by decide) d_PF_coded_67 ?_
  obtain rfl := Option.some.inj h
  exact V.iret C hr d_PF_coded_68 rfl rfl rfl rfl
def f_PF_feed (S : List xO) (a : Nat) (p0 : Int32) (F : xF) : Option (Nat × Int32 × xF) :=
  if p0 < (0 : Int32) then
    some (1, 0, F)
  else
  if p0 ≤ (255 : Int32) then
    (gR S 8 a 2).bind fun q3 =>
    (xcl S 0 q3 (f_Nu_room S q3 F)).bind fun v5 =>
    if (1 : Int32) ≤ v5 then
      (f_Nu_add S q3 p0 F).bind fun F8 =>
      (gI S 0 q3 1 F8).bind fun v10 =>
      some (0, v10, F8)
    else
    some (2, 0, F)
  else
  some (1, 0, F)
set_option maxHeartbeats 4000000 in
set_option maxRecDepth 100000 in
theorem c_PF_feed {l : Launch} {g : xG} {S : List xO} {G : xL} {a : Nat} {p0 : Int32} {F : xF} {r : Int32} {F2 : xF} (h : f_PF_feed S a p0 F = some (0, r, F2)) : CT l g 6 100 0 0 y_PF_feed b_PF_feed 2 (some .int) 1 [.ref a, .int p0] S F G (some (.int r)) S F2 G := by
  refine CT.of [some (.ref a), some (.int p0)] (by decide) (Nat.le_of_ble_eq_true rfl) rfl ?_
  intro p e s m args below meth c C hr hmn hz
  unfold f_PF_feed at h
  refine V.iload_n C 1 rfl rfl d_PF_feed_0 ?_
  refine V.if_lt C 11 (by decide) d_PF_feed_1 (fun c1 => ?_) (fun c1 => ?_)
  · rw [if_pos c1] at h
    simp at h
  · rw [if_neg c1] at h
    refine V.iload_n C 1 rfl rfl d_PF_feed_4 ?_
    refine V.sipush C 255 (by decide) d_PF_feed_5 ?_
    refine V.icmp_le C 21 (by decide) d_PF_feed_8 (fun c2 => ?_) (fun c2 => ?_)
    · rw [if_pos c2] at h
      refine V.aload_n C 0 rfl rfl d_PF_feed_21 ?_
      obtain ⟨q3, e4, h⟩ := Option.bind_eq_some_iff.mp h
      refine V.xgetR C fl_PF_31 e4 d_PF_feed_22 ?_
      obtain ⟨v5, e6, h⟩ := Option.bind_eq_some_iff.mp h
      obtain ⟨⟨fs_e6, s_e6⟩, e6⟩ := xcl_spec e6
      refine V.cVr C (c_Nu_room e6) ml_PF_65 s_e6 rfl rfl (by decide) (Nat.le_of_ble_eq_true rfl) d_PF_feed_25 ?_
      refine V.iconst C 1 (by decide) d_PF_feed_28 ?_
      refine V.icmp_ge C 42 (by decide) d_PF_feed_29 (fun c7 => ?_) (fun c7 => ?_)
      · rw [if_pos c7] at h
        refine V.aload_n C 0 rfl rfl d_PF_feed_42 ?_
        refine V.xgetR C fl_PF_31 e4 d_PF_feed_43 ?_
        refine V.iload_n C 1 rfl rfl d_PF_feed_46 ?_
        obtain ⟨F8, e9, h⟩ := Option.bind_eq_some_iff.mp h
        refine V.cVv C (c_Nu_add e9) ml_PF_74 s_e6 rfl rfl (by decide) (Nat.le_of_ble_eq_true rfl) d_PF_feed_47 ?_
        refine V.aload_n C 0 rfl rfl d_PF_feed_50 ?_
        refine V.xgetR C fl_PF_31 e4 d_PF_feed_51 ?_
        obtain ⟨v10, e11, h⟩ := Option.bind_eq_some_iff.mp h
        refine V.xgetI C fl_PF_77 e11 d_PF_feed_54 ?_
        simp only [Option.some.injEq, Prod.mk.injEq, true_and] at h
        obtain ⟨rfl, rfl⟩ := h
        exact V.iret C hr d_PF_feed_57 rfl rfl rfl rfl
      · rw [if_neg c7] at h
        simp at h
    · rw [if_neg c2] at h
      simp at h
set_option maxHeartbeats 4000000 in
set_option maxRecDepth 100000 in
theorem x_PF_feed {l : Launch} (hfl : l.flags = flags0) {g : xG} {S : List xO} {G : xL} {a : Nat} {p0 : Int32} {F : xF} {r : Int32} {F2 : xF} {k : Nat} (h : f_PF_feed S a p0 F = some (k + 1, r, F2)) : CX l g 6 100 y_PF_feed b_PF_feed 2 (some .int) [.ref a, .int p0] S F G (k + 1) F2 := by
  refine CX.of [some (.ref a), some (.int p0)] (by decide) (Nat.le_of_ble_eq_true rfl) rfl ?_
  intro p e s m args below meth c C hr hmn hne
  unfold f_PF_feed at h
  refine V.iload_n C 1 rfl rfl d_PF_feed_0 ?_
  refine V.if_lt C 11 (by decide) d_PF_feed_1 (fun c1 => ?_) (fun c1 => ?_)
  · rw [if_pos c1] at h
    simp only [Option.some.injEq, Prod.mk.injEq] at h
    obtain ⟨hk, rfl, rfl⟩ := h
    obtain rfl : k = 0 := by omega
    exact V.thr C hfl hne xw_PF_11_120 (by decide) d_PF_feed_11 d_PF_feed_14 d_PF_feed_15 d_PF_feed_17 d_PF_feed_20
  · rw [if_neg c1] at h
    refine V.iload_n C 1 rfl rfl d_PF_feed_4 ?_
    refine V.sipush C 255 (by decide) d_PF_feed_5 ?_
    refine V.icmp_le C 21 (by decide) d_PF_feed_8 (fun c2 => ?_) (fun c2 => ?_)
    · rw [if_pos c2] at h
      refine V.aload_n C 0 rfl rfl d_PF_feed_21 ?_
      obtain ⟨q3, e4, h⟩ := Option.bind_eq_some_iff.mp h
      refine V.xgetR C fl_PF_31 e4 d_PF_feed_22 ?_
      obtain ⟨v5, e6, h⟩ := Option.bind_eq_some_iff.mp h
      obtain ⟨⟨fs_e6, s_e6⟩, e6⟩ := xcl_spec e6
      refine V.cVr C (c_Nu_room e6) ml_PF_65 s_e6 rfl rfl (by decide) (Nat.le_of_ble_eq_true rfl) d_PF_feed_25 ?_
      refine V.iconst C 1 (by decide) d_PF_feed_28 ?_
      refine V.icmp_ge C 42 (by decide) d_PF_feed_29 (fun c7 => ?_) (fun c7 => ?_)
      · rw [if_pos c7] at h
        refine V.aload_n C 0 rfl rfl d_PF_feed_42 ?_
        refine V.xgetR C fl_PF_31 e4 d_PF_feed_43 ?_
        refine V.iload_n C 1 rfl rfl d_PF_feed_46 ?_
        obtain ⟨F8, e9, h⟩ := Option.bind_eq_some_iff.mp h
        refine V.cVv C (c_Nu_add e9) ml_PF_74 s_e6 rfl rfl (by decide) (Nat.le_of_ble_eq_true rfl) d_PF_feed_47 ?_
        refine V.aload_n C 0 rfl rfl d_PF_feed_50 ?_
        refine V.xgetR C fl_PF_31 e4 d_PF_feed_51 ?_
        obtain ⟨v10, e11, h⟩ := Option.bind_eq_some_iff.mp h
        refine V.xgetI C fl_PF_77 e11 d_PF_feed_54 ?_
        simp at h
      · rw [if_neg c7] at h
        simp only [Option.some.injEq, Prod.mk.injEq] at h
        obtain ⟨hk, rfl, rfl⟩ := h
        obtain rfl : k = 1 := by omega
        exact V.thr C hfl hne xw_PF_32_122 (by decide) d_PF_feed_32 d_PF_feed_35 d_PF_feed_36 d_PF_feed_38 d_PF_feed_41
    · rw [if_neg c2] at h
      simp only [Option.some.injEq, Prod.mk.injEq] at h
      obtain ⟨hk, rfl, rfl⟩ := h
      obtain rfl : k = 0 := by omega
      exact V.thr C hfl hne xw_PF_11_120 (by decide) d_PF_feed_11 d_PF_feed_14 d_PF_feed_15 d_PF_feed_17 d_PF_feed_20
def t_PF_pass (S : List xO) (N : Nat) (a : Nat) (p0 : Int32) (p1 : Int32) : Nat → Int32 → Int32 → xF → Option (Int32 × xF)
  | 0, _, _, _ => none
  | n + 1, u3, u4, F =>
    if u3 ≤ u4 then
      some (u3, F)
    else
    (gR S 8 a 2).bind fun q17 =>
    (gR S 8 a 3).bind fun q19 =>
    (gR S 3 q19 4).bind fun q21 =>
    (xcl S 0 q21 (f_Nu_get S q21 (p0 + u4) F)).bind fun v23 =>
    (xcl S 0 q17 (f_Nu_add S q17 v23 F)).bind fun F25 =>
    t_PF_pass S N a p0 p1 n u3 (u4 + (1 : Int32)) F25
set_option maxHeartbeats 4000000 in
set_option maxRecDepth 100000 in
theorem l_PF_pass {p : Program} {l : Launch} {e : Env} {s : State} {m : MethodId} {args : Array Value} {below : List Frame} {meth : Method} {c : Code} {g : xG} {S : List xO} {G : xL} {a : Nat} {p0 : Int32} {p1 : Int32} {N : Nat} (C : Cx p s m args meth c b_PF_pass 5 "PaletteFrames" g) (hr : meth.sig.returnType = (some .int)) : ∀ (n : Nat), (∀ (u3 : Int32) (u4 : Int32) (F : xF) (r : Int32) (F2 : xF), t_PF_pass S N a p0 p1 n u3 u4 F = some (r, F2) → V p l e (xRm 6 100 0 0) s m args below meth c (xMQ g below args s 0 0 S F2 G (some (.int r))) 5 g S F G 0 0 79 [some (.ref a), some (.int p0), some (.int p1), some (.int u3), some (.int u4)] []) := by
  intro n
  induction n with
  | zero =>
    intro u3 u4 F r F2 h
    cases h
  | succ n ih =>
    intro u3 u4 F r F2 h
    rw [t_PF_pass] at h
    refine V.iload C rfl d_PF_pass_79 ?_
    refine V.iload_n C 3 rfl rfl d_PF_pass_81 ?_
    refine V.icmp_ge C 112 (by decide) d_PF_pass_82 (fun c16 => ?_) (fun c16 => ?_)
    · rw [if_pos c16] at h
      refine V.iload_n C 3 rfl rfl d_PF_pass_112 ?_
      obtain ⟨rfl, rfl⟩ := Prod.mk.inj (Option.some.inj h)
      exact V.iret C hr d_PF_pass_113 rfl rfl rfl rfl
    · rw [if_neg c16] at h
      refine V.aload_n C 0 rfl rfl d_PF_pass_85 ?_
      obtain ⟨q17, e18, h⟩ := Option.bind_eq_some_iff.mp h
      refine V.xgetR C fl_PF_31 e18 d_PF_pass_86 ?_
      refine V.aload_n C 0 rfl rfl d_PF_pass_89 ?_
      obtain ⟨q19, e20, h⟩ := Option.bind_eq_some_iff.mp h
      refine V.xgetR C fl_PF_37 e20 d_PF_pass_90 ?_
      obtain ⟨q21, e22, h⟩ := Option.bind_eq_some_iff.mp h
      refine V.xgetR C fl_PF_86 e22 d_PF_pass_93 ?_
      refine V.iload_n C 1 rfl rfl d_PF_pass_96 ?_
      refine V.iload C rfl d_PF_pass_97 ?_
      refine V.iadd C d_PF_pass_99 ?_
      obtain ⟨v23, e24, h⟩ := Option.bind_eq_some_iff.mp h
      obtain ⟨⟨fs_e24, s_e24⟩, e24⟩ := xcl_spec e24
      refine V.cVr C (c_Nu_get e24) ml_PF_98 s_e24 rfl rfl (by decide) (Nat.le_of_ble_eq_true rfl) d_PF_pass_100 ?_
      obtain ⟨F25, e26, h⟩ := Option.bind_eq_some_iff.mp h
      obtain ⟨⟨fs_e26, s_e26⟩, e26⟩ := xcl_spec e26
      refine V.cVv C (c_Nu_add e26) ml_PF_74 s_e26 rfl rfl (by decide) (Nat.le_of_ble_eq_true rfl) d_PF_pass_103 ?_
      refine V.inc4 C 1 (by decide) (by decide) rfl d_PF_pass_106 ?_
      refine V.goto C 79 (by decide) d_PF_pass_109 ?_
      exact V.weak (xsub_spec (by simp [xsub])) (ih u3 (u4 + (1 : Int32)) F25 _ _ h)
def f_PF_pass (S : List xO) (N : Nat) (a : Nat) (p0 : Int32) (p1 : Int32) (F : xF) : Option (Nat × Int32 × xF) :=
  (gR S 8 a 3).bind fun q1 =>
  (gR S 3 q1 4).bind fun q3 =>
  (xcl S 0 q3 (f_Nu_has S q3 p0 F)).bind fun v5 =>
  if v5 = (0 : Int32) then
    some (3, 0, F)
  else
  if (0 : Int32) ≤ p1 then
    (gI S 0 q3 1 F).bind fun v9 =>
    (gR S 8 a 2).bind fun q11 =>
    (xcl S 0 q11 (f_Nu_room S q11 F)).bind fun v13 =>
    if (xmn p1 (v9 - p0)) ≤ v13 then
      (t_PF_pass S N a p0 p1 N (xmn p1 (v9 - p0)) (0 : Int32) F).bind fun w9 => some (0, w9.1, w9.2)
    else
    some (2, 0, F)
  else
  some (1, 0, F)
set_option maxHeartbeats 4000000 in
set_option maxRecDepth 100000 in
theorem c_PF_pass {l : Launch} {g : xG} {S : List xO} {G : xL} {a : Nat} {p0 : Int32} {p1 : Int32} {N : Nat} {F : xF} {r : Int32} {F2 : xF} (h : f_PF_pass S N a p0 p1 F = some (0, r, F2)) : CT l g 6 100 0 0 y_PF_pass b_PF_pass 5 (some .int) 1 [.ref a, .int p0, .int p1] S F G (some (.int r)) S F2 G := by
  refine CT.of [some (.ref a), some (.int p0), some (.int p1), none, none] (by decide) (Nat.le_of_ble_eq_true rfl) rfl ?_
  intro p e s m args below meth c C hr hmn hz
  unfold f_PF_pass at h
  refine V.aload_n C 0 rfl rfl d_PF_pass_0 ?_
  obtain ⟨q1, e2, h⟩ := Option.bind_eq_some_iff.mp h
  refine V.xgetR C fl_PF_37 e2 d_PF_pass_1 ?_
  obtain ⟨q3, e4, h⟩ := Option.bind_eq_some_iff.mp h
  refine V.xgetR C fl_PF_86 e4 d_PF_pass_4 ?_
  refine V.iload_n C 1 rfl rfl d_PF_pass_7 ?_
  obtain ⟨v5, e6, h⟩ := Option.bind_eq_some_iff.mp h
  obtain ⟨⟨fs_e6, s_e6⟩, e6⟩ := xcl_spec e6
  refine V.cVr C (c_Nu_has e6) ml_PF_89 s_e6 rfl rfl (by decide) (Nat.le_of_ble_eq_true rfl) d_PF_pass_8 ?_
  refine V.if_ne C 24 (by decide) d_PF_pass_11 (fun c7 => ?_) (fun c7 => ?_)
  · rw [if_neg c7] at h
    refine V.iload_n C 2 rfl rfl d_PF_pass_24 ?_
    refine V.if_ge C 38 (by decide) d_PF_pass_25 (fun c8 => ?_) (fun c8 => ?_)
    · rw [if_pos c8] at h
      refine V.iload_n C 2 rfl rfl d_PF_pass_38 ?_
      refine V.aload_n C 0 rfl rfl d_PF_pass_39 ?_
      refine V.xgetR C fl_PF_37 e2 d_PF_pass_40 ?_
      refine V.xgetR C fl_PF_86 e4 d_PF_pass_43 ?_
      obtain ⟨v9, e10, h⟩ := Option.bind_eq_some_iff.mp h
      refine V.xgetI C fl_PF_77 e10 d_PF_pass_46 ?_
      refine V.iload_n C 1 rfl rfl d_PF_pass_49 ?_
      refine V.isub C d_PF_pass_50 ?_
      refine V.mmin C mw_PF_9 (by decide) d_PF_pass_51 ?_
      refine V.is3 C (by decide) rfl d_PF_pass_54 ?_
      refine V.iload_n C 3 rfl rfl d_PF_pass_55 ?_
      refine V.aload_n C 0 rfl rfl d_PF_pass_56 ?_
      obtain ⟨q11, e12, h⟩ := Option.bind_eq_some_iff.mp h
      refine V.xgetR C fl_PF_31 e12 d_PF_pass_57 ?_
      obtain ⟨v13, e14, h⟩ := Option.bind_eq_some_iff.mp h
      obtain ⟨⟨fs_e14, s_e14⟩, e14⟩ := xcl_spec e14
      refine V.cVr C (c_Nu_room e14) ml_PF_65 s_e14 rfl rfl (by decide) (Nat.le_of_ble_eq_true rfl) d_PF_pass_60 ?_
      refine V.icmp_le C 76 (by decide) d_PF_pass_63 (fun c15 => ?_) (fun c15 => ?_)
      · rw [if_pos c15] at h
        refine V.iconst C 0 (by decide) d_PF_pass_76 ?_
        refine V.is4 C (by decide) rfl d_PF_pass_77 ?_
        obtain ⟨⟨r9, F9⟩, h8, h9⟩ := Option.bind_eq_some_iff.mp h
        simp only [Option.some.injEq, Prod.mk.injEq, true_and] at h9
        obtain ⟨rfl, rfl⟩ := h9
        have h := h8
        exact V.weak (xsub_spec (by simp [xsub])) ((l_PF_pass C hr N) (xmn p1 (v9 - p0)) (0 : Int32) F _ _ h)
      · rw [if_neg c15] at h
        simp at h
    · rw [if_neg c8] at h
      simp at h
  · rw [if_pos c7] at h
    simp at h
set_option maxHeartbeats 4000000 in
set_option maxRecDepth 100000 in
theorem x_PF_pass {l : Launch} (hfl : l.flags = flags0) {g : xG} {S : List xO} {G : xL} {a : Nat} {p0 : Int32} {p1 : Int32} {N : Nat} {F : xF} {r : Int32} {F2 : xF} {k : Nat} (h : f_PF_pass S N a p0 p1 F = some (k + 1, r, F2)) : CX l g 6 100 y_PF_pass b_PF_pass 5 (some .int) [.ref a, .int p0, .int p1] S F G (k + 1) F2 := by
  refine CX.of [some (.ref a), some (.int p0), some (.int p1), none, none] (by decide) (Nat.le_of_ble_eq_true rfl) rfl ?_
  intro p e s m args below meth c C hr hmn hne
  unfold f_PF_pass at h
  refine V.aload_n C 0 rfl rfl d_PF_pass_0 ?_
  obtain ⟨q1, e2, h⟩ := Option.bind_eq_some_iff.mp h
  refine V.xgetR C fl_PF_37 e2 d_PF_pass_1 ?_
  obtain ⟨q3, e4, h⟩ := Option.bind_eq_some_iff.mp h
  refine V.xgetR C fl_PF_86 e4 d_PF_pass_4 ?_
  refine V.iload_n C 1 rfl rfl d_PF_pass_7 ?_
  obtain ⟨v5, e6, h⟩ := Option.bind_eq_some_iff.mp h
  obtain ⟨⟨fs_e6, s_e6⟩, e6⟩ := xcl_spec e6
  refine V.cVr C (c_Nu_has e6) ml_PF_89 s_e6 rfl rfl (by decide) (Nat.le_of_ble_eq_true rfl) d_PF_pass_8 ?_
  refine V.if_ne C 24 (by decide) d_PF_pass_11 (fun c7 => ?_) (fun c7 => ?_)
  · rw [if_neg c7] at h
    refine V.iload_n C 2 rfl rfl d_PF_pass_24 ?_
    refine V.if_ge C 38 (by decide) d_PF_pass_25 (fun c8 => ?_) (fun c8 => ?_)
    · rw [if_pos c8] at h
      refine V.iload_n C 2 rfl rfl d_PF_pass_38 ?_
      refine V.aload_n C 0 rfl rfl d_PF_pass_39 ?_
      refine V.xgetR C fl_PF_37 e2 d_PF_pass_40 ?_
      refine V.xgetR C fl_PF_86 e4 d_PF_pass_43 ?_
      obtain ⟨v9, e10, h⟩ := Option.bind_eq_some_iff.mp h
      refine V.xgetI C fl_PF_77 e10 d_PF_pass_46 ?_
      refine V.iload_n C 1 rfl rfl d_PF_pass_49 ?_
      refine V.isub C d_PF_pass_50 ?_
      refine V.mmin C mw_PF_9 (by decide) d_PF_pass_51 ?_
      refine V.is3 C (by decide) rfl d_PF_pass_54 ?_
      refine V.iload_n C 3 rfl rfl d_PF_pass_55 ?_
      refine V.aload_n C 0 rfl rfl d_PF_pass_56 ?_
      obtain ⟨q11, e12, h⟩ := Option.bind_eq_some_iff.mp h
      refine V.xgetR C fl_PF_31 e12 d_PF_pass_57 ?_
      obtain ⟨v13, e14, h⟩ := Option.bind_eq_some_iff.mp h
      obtain ⟨⟨fs_e14, s_e14⟩, e14⟩ := xcl_spec e14
      refine V.cVr C (c_Nu_room e14) ml_PF_65 s_e14 rfl rfl (by decide) (Nat.le_of_ble_eq_true rfl) d_PF_pass_60 ?_
      refine V.icmp_le C 76 (by decide) d_PF_pass_63 (fun c15 => ?_) (fun c15 => ?_)
      · rw [if_pos c15] at h
        refine V.iconst C 0 (by decide) d_PF_pass_76 ?_
        refine V.is4 C (by decide) rfl d_PF_pass_77 ?_
        obtain ⟨⟨r9, F9⟩, h8, h9⟩ := Option.bind_eq_some_iff.mp h
        simp at h9
      · rw [if_neg c15] at h
        simp only [Option.some.injEq, Prod.mk.injEq] at h
        obtain ⟨hk, rfl, rfl⟩ := h
        obtain rfl : k = 1 := by omega
        exact V.thr C hfl hne xw_PF_66_126 (by decide) d_PF_pass_66 d_PF_pass_69 d_PF_pass_70 d_PF_pass_72 d_PF_pass_75
    · rw [if_neg c8] at h
      simp only [Option.some.injEq, Prod.mk.injEq] at h
      obtain ⟨hk, rfl, rfl⟩ := h
      obtain rfl : k = 0 := by omega
      exact V.thr C hfl hne xw_PF_28_124 (by decide) d_PF_pass_28 d_PF_pass_31 d_PF_pass_32 d_PF_pass_34 d_PF_pass_37
  · rw [if_pos c7] at h
    simp only [Option.some.injEq, Prod.mk.injEq] at h
    obtain ⟨hk, rfl, rfl⟩ := h
    obtain rfl : k = 2 := by omega
    exact V.thr C hfl hne xw_PF_14_95 (by decide) d_PF_pass_14 d_PF_pass_17 d_PF_pass_18 d_PF_pass_20 d_PF_pass_23
def f_PF_decode (S : List xO) (N : Nat) (a : Nat) (F : xF) : Option (Int32 × xF) :=
  (gR S 8 a 4).bind fun q1 =>
  (gR S 8 a 2).bind fun q3 =>
  (xcl S 4 q1 (f_Re_readAll S N q1 q3 F)).bind fun ⟨v5, F6⟩ =>
  (xcl S 0 q3 (f_Nu_empty S q3 F6)).bind fun F8 =>
  if v5 = (-1 : Int32) then
    (gR S 4 q1 3).bind fun q11 =>
    (gI S 0 q11 1 F8).bind fun v13 =>
    some (v13, F8)
  else
  some ((-1 : Int32) - v5, F8)
set_option maxHeartbeats 4000000 in
set_option maxRecDepth 100000 in
theorem c_PF_decode {l : Launch} {g : xG} {S : List xO} {G : xL} {a : Nat} {N : Nat} {F : xF} {r : Int32} {F2 : xF} (h : f_PF_decode S N a F = some (r, F2)) : CT l g 4 92 0 0 y_PF_decode b_PF_decode 2 (some .int) 1 [.ref a] S F G (some (.int r)) S F2 G := by
  refine CT.of [some (.ref a), none] (by decide) (Nat.le_of_ble_eq_true rfl) rfl ?_
  intro p e s m args below meth c C hr hmn hz
  unfold f_PF_decode at h
  refine V.aload_n C 0 rfl rfl d_PF_decode_0 ?_
  obtain ⟨q1, e2, h⟩ := Option.bind_eq_some_iff.mp h
  refine V.xgetR C fl_PF_44 e2 d_PF_decode_1 ?_
  refine V.aload_n C 0 rfl rfl d_PF_decode_4 ?_
  obtain ⟨q3, e4, h⟩ := Option.bind_eq_some_iff.mp h
  refine V.xgetR C fl_PF_31 e4 d_PF_decode_5 ?_
  obtain ⟨⟨v5, F6⟩, e7, h⟩ := Option.bind_eq_some_iff.mp h
  dsimp only at h
  obtain ⟨⟨fs_e7, s_e7⟩, e7⟩ := xcl_spec e7
  refine V.cVr C (c_Re_readAll e7) ml_PF_128 s_e7 rfl rfl (by decide) (Nat.le_of_ble_eq_true rfl) d_PF_decode_8 ?_
  refine V.is1 C (by decide) rfl d_PF_decode_11 ?_
  refine V.aload_n C 0 rfl rfl d_PF_decode_12 ?_
  refine V.xgetR C fl_PF_31 e4 d_PF_decode_13 ?_
  obtain ⟨F8, e9, h⟩ := Option.bind_eq_some_iff.mp h
  obtain ⟨⟨fs_e9, s_e9⟩, e9⟩ := xcl_spec e9
  refine V.cVv C (c_Nu_empty e9) ml_PF_132 s_e9 rfl rfl (by decide) (Nat.le_of_ble_eq_true rfl) d_PF_decode_16 ?_
  refine V.iload_n C 1 rfl rfl d_PF_decode_19 ?_
  refine V.iconst C (-1) (by decide) d_PF_decode_20 ?_
  refine V.icmp_ne C 37 (by decide) d_PF_decode_21 (fun c10 => ?_) (fun c10 => ?_)
  · rw [if_neg c10] at h
    refine V.iconst C (-1) (by decide) d_PF_decode_37 ?_
    refine V.iload_n C 1 rfl rfl d_PF_decode_38 ?_
    refine V.isub C d_PF_decode_39 ?_
    obtain ⟨rfl, rfl⟩ := Prod.mk.inj (Option.some.inj h)
    exact V.iret C hr d_PF_decode_40 rfl rfl rfl rfl
  · rw [if_pos c10] at h
    refine V.aload_n C 0 rfl rfl d_PF_decode_24 ?_
    refine V.xgetR C fl_PF_44 e2 d_PF_decode_25 ?_
    obtain ⟨q11, e12, h⟩ := Option.bind_eq_some_iff.mp h
    refine V.xgetR C fl_PF_135 e12 d_PF_decode_28 ?_
    obtain ⟨v13, e14, h⟩ := Option.bind_eq_some_iff.mp h
    refine V.xgetI C fl_PF_77 e14 d_PF_decode_31 ?_
    refine V.goto C 40 (by decide) d_PF_decode_34 ?_
    obtain ⟨rfl, rfl⟩ := Prod.mk.inj (Option.some.inj h)
    exact V.iret C hr d_PF_decode_40 rfl rfl rfl rfl
def f_PF_at (S : List xO) (a : Nat) (p0 : Int32) (F : xF) : Option (Nat × Int32 × xF) :=
  (gR S 8 a 4).bind fun q1 =>
  (gR S 4 q1 3).bind fun q3 =>
  (xcl S 0 q3 (f_Nu_has S q3 p0 F)).bind fun v5 =>
  if v5 = (0 : Int32) then
    some (3, 0, F)
  else
  (f_Nu_get S q3 p0 F).bind fun v8 =>
  some (0, v8, F)
set_option maxHeartbeats 4000000 in
set_option maxRecDepth 100000 in
theorem c_PF_at {l : Launch} {g : xG} {S : List xO} {G : xL} {a : Nat} {p0 : Int32} {F : xF} {r : Int32} {F2 : xF} (h : f_PF_at S a p0 F = some (0, r, F2)) : CT l g 6 100 0 0 y_PF_at b_PF_at 2 (some .int) 1 [.ref a, .int p0] S F G (some (.int r)) S F2 G := by
  refine CT.of [some (.ref a), some (.int p0)] (by decide) (Nat.le_of_ble_eq_true rfl) rfl ?_
  intro p e s m args below meth c C hr hmn hz
  unfold f_PF_at at h
  refine V.aload_n C 0 rfl rfl d_PF_at_0 ?_
  obtain ⟨q1, e2, h⟩ := Option.bind_eq_some_iff.mp h
  refine V.xgetR C fl_PF_44 e2 d_PF_at_1 ?_
  obtain ⟨q3, e4, h⟩ := Option.bind_eq_some_iff.mp h
  refine V.xgetR C fl_PF_135 e4 d_PF_at_4 ?_
  refine V.iload_n C 1 rfl rfl d_PF_at_7 ?_
  obtain ⟨v5, e6, h⟩ := Option.bind_eq_some_iff.mp h
  obtain ⟨⟨fs_e6, s_e6⟩, e6⟩ := xcl_spec e6
  refine V.cVr C (c_Nu_has e6) ml_PF_89 s_e6 rfl rfl (by decide) (Nat.le_of_ble_eq_true rfl) d_PF_at_8 ?_
  refine V.if_ne C 24 (by decide) d_PF_at_11 (fun c7 => ?_) (fun c7 => ?_)
  · rw [if_neg c7] at h
    refine V.aload_n C 0 rfl rfl d_PF_at_24 ?_
    refine V.xgetR C fl_PF_44 e2 d_PF_at_25 ?_
    refine V.xgetR C fl_PF_135 e4 d_PF_at_28 ?_
    refine V.iload_n C 1 rfl rfl d_PF_at_31 ?_
    obtain ⟨v8, e9, h⟩ := Option.bind_eq_some_iff.mp h
    refine V.cVr C (c_Nu_get e9) ml_PF_98 s_e6 rfl rfl (by decide) (Nat.le_of_ble_eq_true rfl) d_PF_at_32 ?_
    simp only [Option.some.injEq, Prod.mk.injEq, true_and] at h
    obtain ⟨rfl, rfl⟩ := h
    exact V.iret C hr d_PF_at_35 rfl rfl rfl rfl
  · rw [if_pos c7] at h
    simp at h
set_option maxHeartbeats 4000000 in
set_option maxRecDepth 100000 in
theorem x_PF_at {l : Launch} (hfl : l.flags = flags0) {g : xG} {S : List xO} {G : xL} {a : Nat} {p0 : Int32} {F : xF} {r : Int32} {F2 : xF} {k : Nat} (h : f_PF_at S a p0 F = some (k + 1, r, F2)) : CX l g 6 100 y_PF_at b_PF_at 2 (some .int) [.ref a, .int p0] S F G (k + 1) F2 := by
  refine CX.of [some (.ref a), some (.int p0)] (by decide) (Nat.le_of_ble_eq_true rfl) rfl ?_
  intro p e s m args below meth c C hr hmn hne
  unfold f_PF_at at h
  refine V.aload_n C 0 rfl rfl d_PF_at_0 ?_
  obtain ⟨q1, e2, h⟩ := Option.bind_eq_some_iff.mp h
  refine V.xgetR C fl_PF_44 e2 d_PF_at_1 ?_
  obtain ⟨q3, e4, h⟩ := Option.bind_eq_some_iff.mp h
  refine V.xgetR C fl_PF_135 e4 d_PF_at_4 ?_
  refine V.iload_n C 1 rfl rfl d_PF_at_7 ?_
  obtain ⟨v5, e6, h⟩ := Option.bind_eq_some_iff.mp h
  obtain ⟨⟨fs_e6, s_e6⟩, e6⟩ := xcl_spec e6
  refine V.cVr C (c_Nu_has e6) ml_PF_89 s_e6 rfl rfl (by decide) (Nat.le_of_ble_eq_true rfl) d_PF_at_8 ?_
  refine V.if_ne C 24 (by decide) d_PF_at_11 (fun c7 => ?_) (fun c7 => ?_)
  · rw [if_neg c7] at h
    refine V.aload_n C 0 rfl rfl d_PF_at_24 ?_
    refine V.xgetR C fl_PF_44 e2 d_PF_at_25 ?_
    refine V.xgetR C fl_PF_135 e4 d_PF_at_28 ?_
    refine V.iload_n C 1 rfl rfl d_PF_at_31 ?_
    obtain ⟨v8, e9, h⟩ := Option.bind_eq_some_iff.mp h
    refine V.cVr C (c_Nu_get e9) ml_PF_98 s_e6 rfl rfl (by decide) (Nat.le_of_ble_eq_true rfl) d_PF_at_32 ?_
    simp at h
  · rw [if_pos c7] at h
    simp only [Option.some.injEq, Prod.mk.injEq] at h
    obtain ⟨hk, rfl, rfl⟩ := h
    obtain rfl : k = 2 := by omega
    exact V.thr C hfl hne xw_PF_14_138 (by decide) d_PF_at_14 d_PF_at_17 d_PF_at_18 d_PF_at_20 d_PF_at_23
def t_PF_take (S : List xO) (N : Nat) (a : Nat) : Nat → Int32 → xF → Option (Int32 × xF)
  | 0, _, _ => none
  | n + 1, u1, F =>
    (gR S 8 a 4).bind fun q5 =>
    (gR S 4 q5 3).bind fun q7 =>
    (gI S 0 q7 1 F).bind fun v9 =>
    if v9 ≤ u1 then
      (gR S 8 a 1).bind fun q12 =>
      (gI S 0 q12 1 F).bind fun v14 =>
      some (v14, F)
    else
    (gR S 8 a 1).bind fun q16 =>
    (xcl S 0 q7 (f_Nu_get S q7 u1 F)).bind fun v18 =>
    (xcl S 0 q16 (f_Nu_add S q16 v18 F)).bind fun F20 =>
    t_PF_take S N a n (u1 + (1 : Int32)) F20
set_option maxHeartbeats 4000000 in
set_option maxRecDepth 100000 in
theorem l_PF_take {p : Program} {l : Launch} {e : Env} {s : State} {m : MethodId} {args : Array Value} {below : List Frame} {meth : Method} {c : Code} {g : xG} {S : List xO} {G : xL} {a : Nat} {N : Nat} (C : Cx p s m args meth c b_PF_take 2 "PaletteFrames" g) (hr : meth.sig.returnType = (some .int)) : ∀ (n : Nat), (∀ (u1 : Int32) (F : xF) (r : Int32) (F2 : xF), t_PF_take S N a n u1 F = some (r, F2) → V p l e (xRm 2 42 0 0) s m args below meth c (xMQ g below args s 0 0 S F2 G (some (.int r))) 2 g S F G 0 0 9 [some (.ref a), some (.int u1)] []) := by
  intro n
  induction n with
  | zero =>
    intro u1 F r F2 h
    cases h
  | succ n ih =>
    intro u1 F r F2 h
    rw [t_PF_take] at h
    refine V.iload_n C 1 rfl rfl d_PF_take_9 ?_
    refine V.aload_n C 0 rfl rfl d_PF_take_10 ?_
    obtain ⟨q5, e6, h⟩ := Option.bind_eq_some_iff.mp h
    refine V.xgetR C fl_PF_44 e6 d_PF_take_11 ?_
    obtain ⟨q7, e8, h⟩ := Option.bind_eq_some_iff.mp h
    refine V.xgetR C fl_PF_135 e8 d_PF_take_14 ?_
    obtain ⟨v9, e10, h⟩ := Option.bind_eq_some_iff.mp h
    refine V.xgetI C fl_PF_77 e10 d_PF_take_17 ?_
    refine V.icmp_ge C 47 (by decide) d_PF_take_20 (fun c11 => ?_) (fun c11 => ?_)
    · rw [if_pos c11] at h
      refine V.aload_n C 0 rfl rfl d_PF_take_47 ?_
      obtain ⟨q12, e13, h⟩ := Option.bind_eq_some_iff.mp h
      refine V.xgetR C fl_PF_27 e13 d_PF_take_48 ?_
      obtain ⟨v14, e15, h⟩ := Option.bind_eq_some_iff.mp h
      refine V.xgetI C fl_PF_77 e15 d_PF_take_51 ?_
      obtain ⟨rfl, rfl⟩ := Prod.mk.inj (Option.some.inj h)
      exact V.iret C hr d_PF_take_54 rfl rfl rfl rfl
    · rw [if_neg c11] at h
      refine V.aload_n C 0 rfl rfl d_PF_take_23 ?_
      obtain ⟨q16, e17, h⟩ := Option.bind_eq_some_iff.mp h
      refine V.xgetR C fl_PF_27 e17 d_PF_take_24 ?_
      refine V.aload_n C 0 rfl rfl d_PF_take_27 ?_
      refine V.xgetR C fl_PF_44 e6 d_PF_take_28 ?_
      refine V.xgetR C fl_PF_135 e8 d_PF_take_31 ?_
      refine V.iload_n C 1 rfl rfl d_PF_take_34 ?_
      obtain ⟨v18, e19, h⟩ := Option.bind_eq_some_iff.mp h
      obtain ⟨⟨fs_e19, s_e19⟩, e19⟩ := xcl_spec e19
      refine V.cVr C (c_Nu_get e19) ml_PF_98 s_e19 rfl rfl (by decide) (Nat.le_of_ble_eq_true rfl) d_PF_take_35 ?_
      obtain ⟨F20, e21, h⟩ := Option.bind_eq_some_iff.mp h
      obtain ⟨⟨fs_e21, s_e21⟩, e21⟩ := xcl_spec e21
      refine V.cVv C (c_Nu_add e21) ml_PF_74 s_e21 rfl rfl (by decide) (Nat.le_of_ble_eq_true rfl) d_PF_take_38 ?_
      refine V.inc1 C 1 (by decide) (by decide) rfl d_PF_take_41 ?_
      refine V.goto C 9 (by decide) d_PF_take_44 ?_
      exact V.weak (xsub_spec (by simp [xsub])) (ih (u1 + (1 : Int32)) F20 _ _ h)
def f_PF_take (S : List xO) (N : Nat) (a : Nat) (F : xF) : Option (Int32 × xF) :=
  (gR S 8 a 1).bind fun q1 =>
  (xcl S 0 q1 (f_Nu_empty S q1 F)).bind fun F3 =>
  t_PF_take S N a N (0 : Int32) F3
set_option maxHeartbeats 4000000 in
set_option maxRecDepth 100000 in
theorem c_PF_take {l : Launch} {g : xG} {S : List xO} {G : xL} {a : Nat} {N : Nat} {F : xF} {r : Int32} {F2 : xF} (h : f_PF_take S N a F = some (r, F2)) : CT l g 2 42 0 0 y_PF_take b_PF_take 2 (some .int) 1 [.ref a] S F G (some (.int r)) S F2 G := by
  refine CT.of [some (.ref a), none] (by decide) (Nat.le_of_ble_eq_true rfl) rfl ?_
  intro p e s m args below meth c C hr hmn hz
  unfold f_PF_take at h
  refine V.aload_n C 0 rfl rfl d_PF_take_0 ?_
  obtain ⟨q1, e2, h⟩ := Option.bind_eq_some_iff.mp h
  refine V.xgetR C fl_PF_27 e2 d_PF_take_1 ?_
  obtain ⟨F3, e4, h⟩ := Option.bind_eq_some_iff.mp h
  obtain ⟨⟨fs_e4, s_e4⟩, e4⟩ := xcl_spec e4
  refine V.cVv C (c_Nu_empty e4) ml_PF_132 s_e4 rfl rfl (by decide) (Nat.le_of_ble_eq_true rfl) d_PF_take_4 ?_
  refine V.iconst C 0 (by decide) d_PF_take_7 ?_
  refine V.is1 C (by decide) rfl d_PF_take_8 ?_
  exact V.weak (xsub_spec (by simp [xsub])) ((l_PF_take C hr N) (0 : Int32) F3 _ _ h)
def f_PF_fits (S : List xO) (p0 : Int32) (p1 : Int32) (F : xF) : Option Int32 :=
  if p1 < (1 : Int32) then
    some (0 : Int32)
  else
  if (24 : Int32) < p1 then
    some (0 : Int32)
  else
  if p0 < (0 : Int32) then
    some (0 : Int32)
  else
  if ((24 : Int32) - p1) < p0 then
    some (0 : Int32)
  else
  some (1 : Int32)
set_option maxHeartbeats 4000000 in
set_option maxRecDepth 100000 in
theorem c_PF_fits {l : Launch} {g : xG} {S : List xO} {G : xL} {p0 : Int32} {p1 : Int32} {F : xF} {r : Int32} (h : f_PF_fits S p0 p1 F = some r) : CT l g 0 0 0 0 y_PF_fits b_PF_fits 2 (some .boolean) 1 [.int p0, .int p1] S F G (some (.int r)) S F G := by
  refine CT.of [some (.int p0), some (.int p1)] (by decide) (Nat.le_of_ble_eq_true rfl) rfl ?_
  intro p e s m args below meth c C hr hmn hz
  unfold f_PF_fits at h
  refine V.iload_n C 1 rfl rfl d_PF_fits_0 ?_
  refine V.iconst C 1 (by decide) d_PF_fits_1 ?_
  refine V.icmp_lt C 27 (by decide) d_PF_fits_2 (fun c1 => ?_) (fun c1 => ?_)
  · rw [if_pos c1] at h
    refine V.iconst C 0 (by decide) d_PF_fits_27 ?_
    obtain rfl := Option.some.inj h
    exact V.zret C hr (by first | rfl | exact xz_narrow (by assumption)) d_PF_fits_28 rfl rfl rfl rfl
  · rw [if_neg c1] at h
    refine V.iload_n C 1 rfl rfl d_PF_fits_5 ?_
    refine V.bipush C 24 (by decide) d_PF_fits_6 ?_
    refine V.icmp_gt C 27 (by decide) d_PF_fits_8 (fun c2 => ?_) (fun c2 => ?_)
    · rw [if_pos c2] at h
      refine V.iconst C 0 (by decide) d_PF_fits_27 ?_
      obtain rfl := Option.some.inj h
      exact V.zret C hr (by first | rfl | exact xz_narrow (by assumption)) d_PF_fits_28 rfl rfl rfl rfl
    · rw [if_neg c2] at h
      refine V.iload_n C 0 rfl rfl d_PF_fits_11 ?_
      refine V.if_lt C 27 (by decide) d_PF_fits_12 (fun c3 => ?_) (fun c3 => ?_)
      · rw [if_pos c3] at h
        refine V.iconst C 0 (by decide) d_PF_fits_27 ?_
        obtain rfl := Option.some.inj h
        exact V.zret C hr (by first | rfl | exact xz_narrow (by assumption)) d_PF_fits_28 rfl rfl rfl rfl
      · rw [if_neg c3] at h
        refine V.iload_n C 0 rfl rfl d_PF_fits_15 ?_
        refine V.bipush C 24 (by decide) d_PF_fits_16 ?_
        refine V.iload_n C 1 rfl rfl d_PF_fits_18 ?_
        refine V.isub C d_PF_fits_19 ?_
        refine V.icmp_gt C 27 (by decide) d_PF_fits_20 (fun c4 => ?_) (fun c4 => ?_)
        · rw [if_pos c4] at h
          refine V.iconst C 0 (by decide) d_PF_fits_27 ?_
          obtain rfl := Option.some.inj h
          exact V.zret C hr (by first | rfl | exact xz_narrow (by assumption)) d_PF_fits_28 rfl rfl rfl rfl
        · rw [if_neg c4] at h
          refine V.iconst C 1 (by decide) d_PF_fits_23 ?_
          refine V.goto C 28 (by decide) d_PF_fits_24 ?_
          obtain rfl := Option.some.inj h
          exact V.zret C hr (by first | rfl | exact xz_narrow (by assumption)) d_PF_fits_28 rfl rfl rfl rfl
def f_PF_frame (S : List xO) (N : Nat) (a : Nat) (p0 : Int32) (p1 : Int32) (p2 : Int32) (p3 : Int32) (p4 : Int32) (p5 : Int32) (p6 : Int32) (F : xF) : Option (Nat × Int32 × xF) :=
  (f_PF_fits S p0 p2 F).bind fun v1 =>
  if v1 = (0 : Int32) then
    some (1, 0, F)
  else
  (f_PF_fits S p1 p3 F).bind fun v4 =>
  if v4 = (0 : Int32) then
    some (1, 0, F)
  else
  if p5 < (0 : Int32) then
    some (1, 0, F)
  else
  if p5 ≤ (3 : Int32) then
    if p6 < (0 : Int32) then
      some (1, 0, F)
    else
    if p6 ≤ (1000 : Int32) then
      (gR S 8 a 1).bind fun q11 =>
      (gI S 0 q11 1 F).bind fun v13 =>
      if (p2 * p3) ≤ v13 then
        (gR S 8 a 5).bind fun q16 =>
        (gI S 7 q16 2 F).bind fun v18 =>
        if v18 < (12 : Int32) then
          (xcl S 7 q16 (f_Sc_addFrame S N q16 F)).bind fun ⟨q21, F22⟩ =>
          (xcl S 6 q21 (f_Fr_lay S q21 p0 p1 p2 p3 F22)).bind fun F24 =>
          (f_Fr_time S q21 p5 p6 F24).bind fun F26 =>
          (f_Fr_fill S N q21 q11 p4 F26).bind fun F28 =>
          (xcl S 0 q11 (f_Nu_dropFirst S q11 (p2 * p3) F28)).bind fun F30 =>
          (gI S 7 q16 2 F30).bind fun v32 =>
          some (0, v32 - (1 : Int32), F30)
        else
        some (2, 0, F)
      else
      some (4, 0, F)
    else
    some (1, 0, F)
  else
  some (1, 0, F)
set_option maxHeartbeats 4000000 in
set_option maxRecDepth 100000 in
theorem c_PF_frame {l : Launch} {g : xG} {S : List xO} {G : xL} {a : Nat} {p0 : Int32} {p1 : Int32} {p2 : Int32} {p3 : Int32} {p4 : Int32} {p5 : Int32} {p6 : Int32} {N : Nat} {F : xF} {r : Int32} {F2 : xF} (h : f_PF_frame S N a p0 p1 p2 p3 p4 p5 p6 F = some (0, r, F2)) : CT l g 6 100 0 0 y_PF_frame b_PF_frame 9 (some .int) 1 [.ref a, .int p0, .int p1, .int p2, .int p3, .int p4, .int p5, .int p6] S F G (some (.int r)) S F2 G := by
  refine CT.of [some (.ref a), some (.int p0), some (.int p1), some (.int p2), some (.int p3), some (.int p4), some (.int p5), some (.int p6), none] (by decide) (Nat.le_of_ble_eq_true rfl) rfl ?_
  intro p e s m args below meth c C hr hmn hz
  unfold f_PF_frame at h
  refine V.iload_n C 1 rfl rfl d_PF_frame_0 ?_
  refine V.iload_n C 3 rfl rfl d_PF_frame_1 ?_
  obtain ⟨v1, e2, h⟩ := Option.bind_eq_some_iff.mp h
  refine V.cSr C (c_PF_fits e2) ml_PF_140 rfl rfl (by decide) (Nat.le_of_ble_eq_true rfl) d_PF_frame_2 ?_
  refine V.if_eq C 17 (by decide) d_PF_frame_5 (fun c3 => ?_) (fun c3 => ?_)
  · rw [if_pos c3] at h
    simp at h
  · rw [if_neg c3] at h
    refine V.iload_n C 2 rfl rfl d_PF_frame_8 ?_
    refine V.iload C rfl d_PF_frame_9 ?_
    obtain ⟨v4, e5, h⟩ := Option.bind_eq_some_iff.mp h
    refine V.cSr C (c_PF_fits e5) ml_PF_140 rfl rfl (by decide) (Nat.le_of_ble_eq_true rfl) d_PF_frame_11 ?_
    refine V.if_ne C 27 (by decide) d_PF_frame_14 (fun c6 => ?_) (fun c6 => ?_)
    · rw [if_neg c6] at h
      refine V.iload C rfl d_PF_frame_27 ?_
      refine V.if_lt C 38 (by decide) d_PF_frame_29 (fun c7 => ?_) (fun c7 => ?_)
      · rw [if_pos c7] at h
        simp at h
      · rw [if_neg c7] at h
        refine V.iload C rfl d_PF_frame_32 ?_
        refine V.iconst C 3 (by decide) d_PF_frame_34 ?_
        refine V.icmp_le C 48 (by decide) d_PF_frame_35 (fun c8 => ?_) (fun c8 => ?_)
        · rw [if_pos c8] at h
          refine V.iload C rfl d_PF_frame_48 ?_
          refine V.if_lt C 61 (by decide) d_PF_frame_50 (fun c9 => ?_) (fun c9 => ?_)
          · rw [if_pos c9] at h
            simp at h
          · rw [if_neg c9] at h
            refine V.iload C rfl d_PF_frame_53 ?_
            refine V.sipush C 1000 (by decide) d_PF_frame_55 ?_
            refine V.icmp_le C 71 (by decide) d_PF_frame_58 (fun c10 => ?_) (fun c10 => ?_)
            · rw [if_pos c10] at h
              refine V.iload_n C 3 rfl rfl d_PF_frame_71 ?_
              refine V.iload C rfl d_PF_frame_72 ?_
              refine V.imul C d_PF_frame_74 ?_
              refine V.aload_n C 0 rfl rfl d_PF_frame_75 ?_
              obtain ⟨q11, e12, h⟩ := Option.bind_eq_some_iff.mp h
              refine V.xgetR C fl_PF_27 e12 d_PF_frame_76 ?_
              obtain ⟨v13, e14, h⟩ := Option.bind_eq_some_iff.mp h
              refine V.xgetI C fl_PF_77 e14 d_PF_frame_79 ?_
              refine V.icmp_le C 95 (by decide) d_PF_frame_82 (fun c15 => ?_) (fun c15 => ?_)
              · rw [if_pos c15] at h
                refine V.aload_n C 0 rfl rfl d_PF_frame_95 ?_
                obtain ⟨q16, e17, h⟩ := Option.bind_eq_some_iff.mp h
                refine V.xgetR C fl_PF_51 e17 d_PF_frame_96 ?_
                obtain ⟨v18, e19, h⟩ := Option.bind_eq_some_iff.mp h
                refine V.xgetI C fl_PF_155 e19 d_PF_frame_99 ?_
                refine V.bipush C 12 (by decide) d_PF_frame_102 ?_
                refine V.icmp_lt C 117 (by decide) d_PF_frame_104 (fun c20 => ?_) (fun c20 => ?_)
                · rw [if_pos c20] at h
                  refine V.aload_n C 0 rfl rfl d_PF_frame_117 ?_
                  refine V.xgetR C fl_PF_51 e17 d_PF_frame_118 ?_
                  obtain ⟨⟨q21, F22⟩, e23, h⟩ := Option.bind_eq_some_iff.mp h
                  dsimp only at h
                  obtain ⟨⟨fs_e23, s_e23⟩, e23⟩ := xcl_spec e23
                  refine V.cVr C (c_Sc_addFrame e23) ml_PF_159 s_e23 rfl rfl (by decide) (Nat.le_of_ble_eq_true rfl) d_PF_frame_121 ?_
                  refine V.as8 C (by decide) rfl d_PF_frame_124 ?_
                  refine V.aload C rfl d_PF_frame_126 ?_
                  refine V.iload_n C 1 rfl rfl d_PF_frame_128 ?_
                  refine V.iload_n C 2 rfl rfl d_PF_frame_129 ?_
                  refine V.iload_n C 3 rfl rfl d_PF_frame_130 ?_
                  refine V.iload C rfl d_PF_frame_131 ?_
                  obtain ⟨F24, e25, h⟩ := Option.bind_eq_some_iff.mp h
                  obtain ⟨⟨fs_e25, s_e25⟩, e25⟩ := xcl_spec e25
                  refine V.cVv C (c_Fr_lay e25) ml_PF_163 s_e25 rfl rfl (by decide) (Nat.le_of_ble_eq_true rfl) d_PF_frame_133 ?_
                  refine V.aload C rfl d_PF_frame_136 ?_
                  refine V.iload C rfl d_PF_frame_138 ?_
                  refine V.iload C rfl d_PF_frame_140 ?_
                  obtain ⟨F26, e27, h⟩ := Option.bind_eq_some_iff.mp h
                  refine V.cVv C (c_Fr_time e27) ml_PF_169 s_e25 rfl rfl (by decide) (Nat.le_of_ble_eq_true rfl) d_PF_frame_142 ?_
                  refine V.aload C rfl d_PF_frame_145 ?_
                  refine V.aload_n C 0 rfl rfl d_PF_frame_147 ?_
                  refine V.xgetR C fl_PF_27 e12 d_PF_frame_148 ?_
                  refine V.iload C rfl d_PF_frame_151 ?_
                  obtain ⟨F28, e29, h⟩ := Option.bind_eq_some_iff.mp h
                  refine V.cVv C (c_Fr_fill e29) ml_PF_173 s_e25 rfl rfl (by decide) (Nat.le_of_ble_eq_true rfl) d_PF_frame_153 ?_
                  refine V.aload_n C 0 rfl rfl d_PF_frame_156 ?_
                  refine V.xgetR C fl_PF_27 e12 d_PF_frame_157 ?_
                  refine V.iload_n C 3 rfl rfl d_PF_frame_160 ?_
                  refine V.iload C rfl d_PF_frame_161 ?_
                  refine V.imul C d_PF_frame_163 ?_
                  obtain ⟨F30, e31, h⟩ := Option.bind_eq_some_iff.mp h
                  obtain ⟨⟨fs_e31, s_e31⟩, e31⟩ := xcl_spec e31
                  refine V.cVv C (c_Nu_dropFirst e31) ml_PF_177 s_e31 rfl rfl (by decide) (Nat.le_of_ble_eq_true rfl) d_PF_frame_164 ?_
                  refine V.aload_n C 0 rfl rfl d_PF_frame_167 ?_
                  refine V.xgetR C fl_PF_51 e17 d_PF_frame_168 ?_
                  obtain ⟨v32, e33, h⟩ := Option.bind_eq_some_iff.mp h
                  refine V.xgetI C fl_PF_155 e33 d_PF_frame_171 ?_
                  refine V.iconst C 1 (by decide) d_PF_frame_174 ?_
                  refine V.isub C d_PF_frame_175 ?_
                  simp only [Option.some.injEq, Prod.mk.injEq, true_and] at h
                  obtain ⟨rfl, rfl⟩ := h
                  exact V.iret C hr d_PF_frame_176 rfl rfl rfl rfl
                · rw [if_neg c20] at h
                  simp at h
              · rw [if_neg c15] at h
                simp at h
            · rw [if_neg c10] at h
              simp at h
        · rw [if_neg c8] at h
          simp at h
    · rw [if_pos c6] at h
      simp at h
set_option maxHeartbeats 4000000 in
set_option maxRecDepth 100000 in
theorem x_PF_frame {l : Launch} (hfl : l.flags = flags0) {g : xG} {S : List xO} {G : xL} {a : Nat} {p0 : Int32} {p1 : Int32} {p2 : Int32} {p3 : Int32} {p4 : Int32} {p5 : Int32} {p6 : Int32} {N : Nat} {F : xF} {r : Int32} {F2 : xF} {k : Nat} (h : f_PF_frame S N a p0 p1 p2 p3 p4 p5 p6 F = some (k + 1, r, F2)) : CX l g 6 100 y_PF_frame b_PF_frame 9 (some .int) [.ref a, .int p0, .int p1, .int p2, .int p3, .int p4, .int p5, .int p6] S F G (k + 1) F2 := by
  refine CX.of [some (.ref a), some (.int p0), some (.int p1), some (.int p2), some (.int p3), some (.int p4), some (.int p5), some (.int p6), none] (by decide) (Nat.le_of_ble_eq_true rfl) rfl ?_
  intro p e s m args below meth c C hr hmn hne
  unfold f_PF_frame at h
  refine V.iload_n C 1 rfl rfl d_PF_frame_0 ?_
  refine V.iload_n C 3 rfl rfl d_PF_frame_1 ?_
  obtain ⟨v1, e2, h⟩ := Option.bind_eq_some_iff.mp h
  refine V.cSr C (c_PF_fits e2) ml_PF_140 rfl rfl (by decide) (Nat.le_of_ble_eq_true rfl) d_PF_frame_2 ?_
  refine V.if_eq C 17 (by decide) d_PF_frame_5 (fun c3 => ?_) (fun c3 => ?_)
  · rw [if_pos c3] at h
    simp only [Option.some.injEq, Prod.mk.injEq] at h
    obtain ⟨hk, rfl, rfl⟩ := h
    obtain rfl : k = 0 := by omega
    exact V.thr C hfl hne xw_PF_17_144 (by decide) d_PF_frame_17 d_PF_frame_20 d_PF_frame_21 d_PF_frame_23 d_PF_frame_26
  · rw [if_neg c3] at h
    refine V.iload_n C 2 rfl rfl d_PF_frame_8 ?_
    refine V.iload C rfl d_PF_frame_9 ?_
    obtain ⟨v4, e5, h⟩ := Option.bind_eq_some_iff.mp h
    refine V.cSr C (c_PF_fits e5) ml_PF_140 rfl rfl (by decide) (Nat.le_of_ble_eq_true rfl) d_PF_frame_11 ?_
    refine V.if_ne C 27 (by decide) d_PF_frame_14 (fun c6 => ?_) (fun c6 => ?_)
    · rw [if_neg c6] at h
      refine V.iload C rfl d_PF_frame_27 ?_
      refine V.if_lt C 38 (by decide) d_PF_frame_29 (fun c7 => ?_) (fun c7 => ?_)
      · rw [if_pos c7] at h
        simp only [Option.some.injEq, Prod.mk.injEq] at h
        obtain ⟨hk, rfl, rfl⟩ := h
        obtain rfl : k = 0 := by omega
        exact V.thr C hfl hne xw_PF_38_146 (by decide) d_PF_frame_38 d_PF_frame_41 d_PF_frame_42 d_PF_frame_44 d_PF_frame_47
      · rw [if_neg c7] at h
        refine V.iload C rfl d_PF_frame_32 ?_
        refine V.iconst C 3 (by decide) d_PF_frame_34 ?_
        refine V.icmp_le C 48 (by decide) d_PF_frame_35 (fun c8 => ?_) (fun c8 => ?_)
        · rw [if_pos c8] at h
          refine V.iload C rfl d_PF_frame_48 ?_
          refine V.if_lt C 61 (by decide) d_PF_frame_50 (fun c9 => ?_) (fun c9 => ?_)
          · rw [if_pos c9] at h
            simp only [Option.some.injEq, Prod.mk.injEq] at h
            obtain ⟨hk, rfl, rfl⟩ := h
            obtain rfl : k = 0 := by omega
            exact V.thr C hfl hne xw_PF_61_148 (by decide) d_PF_frame_61 d_PF_frame_64 d_PF_frame_65 d_PF_frame_67 d_PF_frame_70
          · rw [if_neg c9] at h
            refine V.iload C rfl d_PF_frame_53 ?_
            refine V.sipush C 1000 (by decide) d_PF_frame_55 ?_
            refine V.icmp_le C 71 (by decide) d_PF_frame_58 (fun c10 => ?_) (fun c10 => ?_)
            · rw [if_pos c10] at h
              refine V.iload_n C 3 rfl rfl d_PF_frame_71 ?_
              refine V.iload C rfl d_PF_frame_72 ?_
              refine V.imul C d_PF_frame_74 ?_
              refine V.aload_n C 0 rfl rfl d_PF_frame_75 ?_
              obtain ⟨q11, e12, h⟩ := Option.bind_eq_some_iff.mp h
              refine V.xgetR C fl_PF_27 e12 d_PF_frame_76 ?_
              obtain ⟨v13, e14, h⟩ := Option.bind_eq_some_iff.mp h
              refine V.xgetI C fl_PF_77 e14 d_PF_frame_79 ?_
              refine V.icmp_le C 95 (by decide) d_PF_frame_82 (fun c15 => ?_) (fun c15 => ?_)
              · rw [if_pos c15] at h
                refine V.aload_n C 0 rfl rfl d_PF_frame_95 ?_
                obtain ⟨q16, e17, h⟩ := Option.bind_eq_some_iff.mp h
                refine V.xgetR C fl_PF_51 e17 d_PF_frame_96 ?_
                obtain ⟨v18, e19, h⟩ := Option.bind_eq_some_iff.mp h
                refine V.xgetI C fl_PF_155 e19 d_PF_frame_99 ?_
                refine V.bipush C 12 (by decide) d_PF_frame_102 ?_
                refine V.icmp_lt C 117 (by decide) d_PF_frame_104 (fun c20 => ?_) (fun c20 => ?_)
                · rw [if_pos c20] at h
                  refine V.aload_n C 0 rfl rfl d_PF_frame_117 ?_
                  refine V.xgetR C fl_PF_51 e17 d_PF_frame_118 ?_
                  obtain ⟨⟨q21, F22⟩, e23, h⟩ := Option.bind_eq_some_iff.mp h
                  dsimp only at h
                  obtain ⟨⟨fs_e23, s_e23⟩, e23⟩ := xcl_spec e23
                  refine V.cVr C (c_Sc_addFrame e23) ml_PF_159 s_e23 rfl rfl (by decide) (Nat.le_of_ble_eq_true rfl) d_PF_frame_121 ?_
                  refine V.as8 C (by decide) rfl d_PF_frame_124 ?_
                  refine V.aload C rfl d_PF_frame_126 ?_
                  refine V.iload_n C 1 rfl rfl d_PF_frame_128 ?_
                  refine V.iload_n C 2 rfl rfl d_PF_frame_129 ?_
                  refine V.iload_n C 3 rfl rfl d_PF_frame_130 ?_
                  refine V.iload C rfl d_PF_frame_131 ?_
                  obtain ⟨F24, e25, h⟩ := Option.bind_eq_some_iff.mp h
                  obtain ⟨⟨fs_e25, s_e25⟩, e25⟩ := xcl_spec e25
                  refine V.cVv C (c_Fr_lay e25) ml_PF_163 s_e25 rfl rfl (by decide) (Nat.le_of_ble_eq_true rfl) d_PF_frame_133 ?_
                  refine V.aload C rfl d_PF_frame_136 ?_
                  refine V.iload C rfl d_PF_frame_138 ?_
                  refine V.iload C rfl d_PF_frame_140 ?_
                  obtain ⟨F26, e27, h⟩ := Option.bind_eq_some_iff.mp h
                  refine V.cVv C (c_Fr_time e27) ml_PF_169 s_e25 rfl rfl (by decide) (Nat.le_of_ble_eq_true rfl) d_PF_frame_142 ?_
                  refine V.aload C rfl d_PF_frame_145 ?_
                  refine V.aload_n C 0 rfl rfl d_PF_frame_147 ?_
                  refine V.xgetR C fl_PF_27 e12 d_PF_frame_148 ?_
                  refine V.iload C rfl d_PF_frame_151 ?_
                  obtain ⟨F28, e29, h⟩ := Option.bind_eq_some_iff.mp h
                  refine V.cVv C (c_Fr_fill e29) ml_PF_173 s_e25 rfl rfl (by decide) (Nat.le_of_ble_eq_true rfl) d_PF_frame_153 ?_
                  refine V.aload_n C 0 rfl rfl d_PF_frame_156 ?_
                  refine V.xgetR C fl_PF_27 e12 d_PF_frame_157 ?_
                  refine V.iload_n C 3 rfl rfl d_PF_frame_160 ?_
                  refine V.iload C rfl d_PF_frame_161 ?_
                  refine V.imul C d_PF_frame_163 ?_
                  obtain ⟨F30, e31, h⟩ := Option.bind_eq_some_iff.mp h
                  obtain ⟨⟨fs_e31, s_e31⟩, e31⟩ := xcl_spec e31
                  refine V.cVv C (c_Nu_dropFirst e31) ml_PF_177 s_e31 rfl rfl (by decide) (Nat.le_of_ble_eq_true rfl) d_PF_frame_164 ?_
                  refine V.aload_n C 0 rfl rfl d_PF_frame_167 ?_
                  refine V.xgetR C fl_PF_51 e17 d_PF_frame_168 ?_
                  obtain ⟨v32, e33, h⟩ := Option.bind_eq_some_iff.mp h
                  refine V.xgetI C fl_PF_155 e33 d_PF_frame_171 ?_
                  refine V.iconst C 1 (by decide) d_PF_frame_174 ?_
                  refine V.isub C d_PF_frame_175 ?_
                  simp at h
                · rw [if_neg c20] at h
                  simp only [Option.some.injEq, Prod.mk.injEq] at h
                  obtain ⟨hk, rfl, rfl⟩ := h
                  obtain rfl : k = 1 := by omega
                  exact V.thr C hfl hne xw_PF_107_157 (by decide) d_PF_frame_107 d_PF_frame_110 d_PF_frame_111 d_PF_frame_113 d_PF_frame_116
              · rw [if_neg c15] at h
                simp only [Option.some.injEq, Prod.mk.injEq] at h
                obtain ⟨hk, rfl, rfl⟩ := h
                obtain rfl : k = 3 := by omega
                exact V.thr C hfl hne xw_PF_85_152 (by decide) d_PF_frame_85 d_PF_frame_88 d_PF_frame_89 d_PF_frame_91 d_PF_frame_94
            · rw [if_neg c10] at h
              simp only [Option.some.injEq, Prod.mk.injEq] at h
              obtain ⟨hk, rfl, rfl⟩ := h
              obtain rfl : k = 0 := by omega
              exact V.thr C hfl hne xw_PF_61_148 (by decide) d_PF_frame_61 d_PF_frame_64 d_PF_frame_65 d_PF_frame_67 d_PF_frame_70
        · rw [if_neg c8] at h
          simp only [Option.some.injEq, Prod.mk.injEq] at h
          obtain ⟨hk, rfl, rfl⟩ := h
          obtain rfl : k = 0 := by omega
          exact V.thr C hfl hne xw_PF_38_146 (by decide) d_PF_frame_38 d_PF_frame_41 d_PF_frame_42 d_PF_frame_44 d_PF_frame_47
    · rw [if_pos c6] at h
      simp only [Option.some.injEq, Prod.mk.injEq] at h
      obtain ⟨hk, rfl, rfl⟩ := h
      obtain rfl : k = 0 := by omega
      exact V.thr C hfl hne xw_PF_17_144 (by decide) d_PF_frame_17 d_PF_frame_20 d_PF_frame_21 d_PF_frame_23 d_PF_frame_26
def f_PF_isSymbol (S : List xO) (a : Nat) (p0 : Int32) (F : xF) : Option Int32 :=
  if p0 < (0 : Int32) then
    some (0 : Int32)
  else
  (gI S 8 a 0 F).bind fun v2 =>
  if ((1 : Int32) <<< (v2 &&& 31)) ≤ p0 then
    some (0 : Int32)
  else
  some (1 : Int32)
set_option maxHeartbeats 4000000 in
set_option maxRecDepth 100000 in
theorem c_PF_isSymbol {l : Launch} {g : xG} {S : List xO} {G : xL} {a : Nat} {p0 : Int32} {F : xF} {r : Int32} (h : f_PF_isSymbol S a p0 F = some r) : CT l g 0 0 0 0 y_PF_isSymbol b_PF_isSymbol 2 (some .boolean) 1 [.ref a, .int p0] S F G (some (.int r)) S F G := by
  refine CT.of [some (.ref a), some (.int p0)] (by decide) (Nat.le_of_ble_eq_true rfl) rfl ?_
  intro p e s m args below meth c C hr hmn hz
  unfold f_PF_isSymbol at h
  refine V.iload_n C 1 rfl rfl d_PF_isSymbol_0 ?_
  refine V.if_lt C 18 (by decide) d_PF_isSymbol_1 (fun c1 => ?_) (fun c1 => ?_)
  · rw [if_pos c1] at h
    refine V.iconst C 0 (by decide) d_PF_isSymbol_18 ?_
    obtain rfl := Option.some.inj h
    exact V.zret C hr (by first | rfl | exact xz_narrow (by assumption)) d_PF_isSymbol_19 rfl rfl rfl rfl
  · rw [if_neg c1] at h
    refine V.iload_n C 1 rfl rfl d_PF_isSymbol_4 ?_
    refine V.iconst C 1 (by decide) d_PF_isSymbol_5 ?_
    refine V.aload_n C 0 rfl rfl d_PF_isSymbol_6 ?_
    obtain ⟨v2, e3, h⟩ := Option.bind_eq_some_iff.mp h
    refine V.xgetI C fl_PF_18 e3 d_PF_isSymbol_7 ?_
    refine V.ishl C d_PF_isSymbol_10 ?_
    refine V.icmp_ge C 18 (by decide) d_PF_isSymbol_11 (fun c4 => ?_) (fun c4 => ?_)
    · rw [if_pos c4] at h
      refine V.iconst C 0 (by decide) d_PF_isSymbol_18 ?_
      obtain rfl := Option.some.inj h
      exact V.zret C hr (by first | rfl | exact xz_narrow (by assumption)) d_PF_isSymbol_19 rfl rfl rfl rfl
    · rw [if_neg c4] at h
      refine V.iconst C 1 (by decide) d_PF_isSymbol_14 ?_
      refine V.goto C 19 (by decide) d_PF_isSymbol_15 ?_
      obtain rfl := Option.some.inj h
      exact V.zret C hr (by first | rfl | exact xz_narrow (by assumption)) d_PF_isSymbol_19 rfl rfl rfl rfl
def f_PF_colour (S : List xO) (a : Nat) (p0 : Int32) (p1 : Int32) (p2 : Int32) (F : xF) : Option (Nat × Int32 × xF) :=
  if p0 = (-1 : Int32) then
    (xcl S 8 a (f_PF_isSymbol S a p1 F)).bind fun v2 =>
    if v2 = (0 : Int32) then
      some (3, 0, F)
    else
    if p2 < (-1 : Int32) then
      some (1, 0, F)
    else
    if p2 ≤ (16777215 : Int32) then
      if p0 = (-1 : Int32) then
        (gR S 8 a 5).bind fun q19 =>
        (gR S 7 q19 1).bind fun q21 =>
        (xcl S 5 q21 (f_Pa_change S q21 p1 p2 F)).bind fun ⟨v23, F24⟩ =>
        some (0, v23, F24)
      else
      (gR S 8 a 5).bind fun q8 =>
      (gR S 7 q8 0).bind fun q10 =>
      (rG S q10 p0).bind fun q12 =>
      (gR S 6 q12 1).bind fun q14 =>
      (xcl S 5 q14 (f_Pa_change S q14 p1 p2 F)).bind fun ⟨v16, F17⟩ =>
      some (0, v16, F17)
    else
    some (1, 0, F)
  else
  (gR S 8 a 5).bind fun q26 =>
  (xcl S 7 q26 (f_Sc_has S q26 p0 F)).bind fun v28 =>
  if v28 = (0 : Int32) then
    some (3, 0, F)
  else
  (xcl S 8 a (f_PF_isSymbol S a p1 F)).bind fun v31 =>
  if v31 = (0 : Int32) then
    some (3, 0, F)
  else
  if p2 < (-1 : Int32) then
    some (1, 0, F)
  else
  if p2 ≤ (16777215 : Int32) then
    if p0 = (-1 : Int32) then
      (gR S 7 q26 1).bind fun q46 =>
      (xcl S 5 q46 (f_Pa_change S q46 p1 p2 F)).bind fun ⟨v48, F49⟩ =>
      some (0, v48, F49)
    else
    (gR S 7 q26 0).bind fun q37 =>
    (rG S q37 p0).bind fun q39 =>
    (gR S 6 q39 1).bind fun q41 =>
    (xcl S 5 q41 (f_Pa_change S q41 p1 p2 F)).bind fun ⟨v43, F44⟩ =>
    some (0, v43, F44)
  else
  some (1, 0, F)
set_option maxHeartbeats 4000000 in
set_option maxRecDepth 100000 in
theorem c_PF_colour {l : Launch} {g : xG} {S : List xO} {G : xL} {a : Nat} {p0 : Int32} {p1 : Int32} {p2 : Int32} {F : xF} {r : Int32} {F2 : xF} (h : f_PF_colour S a p0 p1 p2 F = some (0, r, F2)) : CT l g 6 100 0 0 y_PF_colour b_PF_colour 5 (some .int) 1 [.ref a, .int p0, .int p1, .int p2] S F G (some (.int r)) S F2 G := by
  refine CT.of [some (.ref a), some (.int p0), some (.int p1), some (.int p2), none] (by decide) (Nat.le_of_ble_eq_true rfl) rfl ?_
  intro p e s m args below meth c C hr hmn hz
  unfold f_PF_colour at h
  refine V.iload_n C 1 rfl rfl d_PF_colour_0 ?_
  refine V.iconst C (-1) (by decide) d_PF_colour_1 ?_
  refine V.icmp_eq C 26 (by decide) d_PF_colour_2 (fun c1 => ?_) (fun c1 => ?_)
  · rw [if_pos c1] at h
    refine V.aload_n C 0 rfl rfl d_PF_colour_26 ?_
    refine V.iload_n C 2 rfl rfl d_PF_colour_27 ?_
    obtain ⟨v2, e3, h⟩ := Option.bind_eq_some_iff.mp h
    obtain ⟨⟨fs_e3, s_e3⟩, e3⟩ := xcl_spec e3
    refine V.cVr C (c_PF_isSymbol e3) ml_PF_183 s_e3 rfl rfl (by decide) (Nat.le_of_ble_eq_true rfl) d_PF_colour_28 ?_
    refine V.if_ne C 44 (by decide) d_PF_colour_31 (fun c4 => ?_) (fun c4 => ?_)
    · rw [if_neg c4] at h
      refine V.iload_n C 3 rfl rfl d_PF_colour_44 ?_
      refine V.iconst C (-1) (by decide) d_PF_colour_45 ?_
      refine V.icmp_lt C 55 (by decide) d_PF_colour_46 (fun c5 => ?_) (fun c5 => ?_)
      · rw [if_pos c5] at h
        simp at h
      · rw [if_neg c5] at h
        refine V.iload_n C 3 rfl rfl d_PF_colour_49 ?_
        refine V.ldc C (v := 16777215) (by decide +kernel) d_PF_colour_50 ?_
        refine V.icmp_le C 65 (by decide) d_PF_colour_52 (fun c6 => ?_) (fun c6 => ?_)
        · rw [if_pos c6] at h
          refine V.iload_n C 1 rfl rfl d_PF_colour_65 ?_
          refine V.iconst C (-1) (by decide) d_PF_colour_66 ?_
          refine V.icmp_ne C 80 (by decide) d_PF_colour_67 (fun c7 => ?_) (fun c7 => ?_)
          · rw [if_neg c7] at h
            refine V.aload_n C 0 rfl rfl d_PF_colour_80 ?_
            obtain ⟨q8, e9, h⟩ := Option.bind_eq_some_iff.mp h
            refine V.xgetR C fl_PF_51 e9 d_PF_colour_81 ?_
            obtain ⟨q10, e11, h⟩ := Option.bind_eq_some_iff.mp h
            refine V.xgetR C fl_PF_193 e11 d_PF_colour_84 ?_
            refine V.iload_n C 1 rfl rfl d_PF_colour_87 ?_
            obtain ⟨q12, e13, h⟩ := Option.bind_eq_some_iff.mp h
            refine V.xaald C e13 d_PF_colour_88 ?_
            obtain ⟨q14, e15, h⟩ := Option.bind_eq_some_iff.mp h
            refine V.xgetR C fl_PF_197 e15 d_PF_colour_89 ?_
            refine V.as4 C (by decide) rfl d_PF_colour_92 ?_
            refine V.aload C rfl d_PF_colour_94 ?_
            refine V.iload_n C 2 rfl rfl d_PF_colour_96 ?_
            refine V.iload_n C 3 rfl rfl d_PF_colour_97 ?_
            obtain ⟨⟨v16, F17⟩, e18, h⟩ := Option.bind_eq_some_iff.mp h
            dsimp only at h
            obtain ⟨⟨fs_e18, s_e18⟩, e18⟩ := xcl_spec e18
            refine V.cVr C (c_Pa_change e18) ml_PF_198 s_e18 rfl rfl (by decide) (Nat.le_of_ble_eq_true rfl) d_PF_colour_98 ?_
            simp only [Option.some.injEq, Prod.mk.injEq, true_and] at h
            obtain ⟨rfl, rfl⟩ := h
            exact V.iret C hr d_PF_colour_101 rfl rfl rfl rfl
          · rw [if_pos c7] at h
            refine V.aload_n C 0 rfl rfl d_PF_colour_70 ?_
            obtain ⟨q19, e20, h⟩ := Option.bind_eq_some_iff.mp h
            refine V.xgetR C fl_PF_51 e20 d_PF_colour_71 ?_
            obtain ⟨q21, e22, h⟩ := Option.bind_eq_some_iff.mp h
            refine V.xgetR C fl_PF_189 e22 d_PF_colour_74 ?_
            refine V.goto C 92 (by decide) d_PF_colour_77 ?_
            refine V.as4 C (by decide) rfl d_PF_colour_92 ?_
            refine V.aload C rfl d_PF_colour_94 ?_
            refine V.iload_n C 2 rfl rfl d_PF_colour_96 ?_
            refine V.iload_n C 3 rfl rfl d_PF_colour_97 ?_
            obtain ⟨⟨v23, F24⟩, e25, h⟩ := Option.bind_eq_some_iff.mp h
            dsimp only at h
            obtain ⟨⟨fs_e25, s_e25⟩, e25⟩ := xcl_spec e25
            refine V.cVr C (c_Pa_change e25) ml_PF_198 s_e25 rfl rfl (by decide) (Nat.le_of_ble_eq_true rfl) d_PF_colour_98 ?_
            simp only [Option.some.injEq, Prod.mk.injEq, true_and] at h
            obtain ⟨rfl, rfl⟩ := h
            exact V.iret C hr d_PF_colour_101 rfl rfl rfl rfl
        · rw [if_neg c6] at h
          simp at h
    · rw [if_pos c4] at h
      simp at h
  · rw [if_neg c1] at h
    refine V.aload_n C 0 rfl rfl d_PF_colour_5 ?_
    obtain ⟨q26, e27, h⟩ := Option.bind_eq_some_iff.mp h
    refine V.xgetR C fl_PF_51 e27 d_PF_colour_6 ?_
    refine V.iload_n C 1 rfl rfl d_PF_colour_9 ?_
    obtain ⟨v28, e29, h⟩ := Option.bind_eq_some_iff.mp h
    obtain ⟨⟨fs_e29, s_e29⟩, e29⟩ := xcl_spec e29
    refine V.cVr C (c_Sc_has e29) ml_PF_180 s_e29 rfl rfl (by decide) (Nat.le_of_ble_eq_true rfl) d_PF_colour_10 ?_
    refine V.if_ne C 26 (by decide) d_PF_colour_13 (fun c30 => ?_) (fun c30 => ?_)
    · rw [if_neg c30] at h
      refine V.aload_n C 0 rfl rfl d_PF_colour_26 ?_
      refine V.iload_n C 2 rfl rfl d_PF_colour_27 ?_
      obtain ⟨v31, e32, h⟩ := Option.bind_eq_some_iff.mp h
      obtain ⟨⟨fs_e32, s_e32⟩, e32⟩ := xcl_spec e32
      refine V.cVr C (c_PF_isSymbol e32) ml_PF_183 s_e32 rfl rfl (by decide) (Nat.le_of_ble_eq_true rfl) d_PF_colour_28 ?_
      refine V.if_ne C 44 (by decide) d_PF_colour_31 (fun c33 => ?_) (fun c33 => ?_)
      · rw [if_neg c33] at h
        refine V.iload_n C 3 rfl rfl d_PF_colour_44 ?_
        refine V.iconst C (-1) (by decide) d_PF_colour_45 ?_
        refine V.icmp_lt C 55 (by decide) d_PF_colour_46 (fun c34 => ?_) (fun c34 => ?_)
        · rw [if_pos c34] at h
          simp at h
        · rw [if_neg c34] at h
          refine V.iload_n C 3 rfl rfl d_PF_colour_49 ?_
          refine V.ldc C (v := 16777215) (by decide +kernel) d_PF_colour_50 ?_
          refine V.icmp_le C 65 (by decide) d_PF_colour_52 (fun c35 => ?_) (fun c35 => ?_)
          · rw [if_pos c35] at h
            refine V.iload_n C 1 rfl rfl d_PF_colour_65 ?_
            refine V.iconst C (-1) (by decide) d_PF_colour_66 ?_
            refine V.icmp_ne C 80 (by decide) d_PF_colour_67 (fun c36 => ?_) (fun c36 => ?_)
            · rw [if_neg c36] at h
              refine V.aload_n C 0 rfl rfl d_PF_colour_80 ?_
              refine V.xgetR C fl_PF_51 e27 d_PF_colour_81 ?_
              obtain ⟨q37, e38, h⟩ := Option.bind_eq_some_iff.mp h
              refine V.xgetR C fl_PF_193 e38 d_PF_colour_84 ?_
              refine V.iload_n C 1 rfl rfl d_PF_colour_87 ?_
              obtain ⟨q39, e40, h⟩ := Option.bind_eq_some_iff.mp h
              refine V.xaald C e40 d_PF_colour_88 ?_
              obtain ⟨q41, e42, h⟩ := Option.bind_eq_some_iff.mp h
              refine V.xgetR C fl_PF_197 e42 d_PF_colour_89 ?_
              refine V.as4 C (by decide) rfl d_PF_colour_92 ?_
              refine V.aload C rfl d_PF_colour_94 ?_
              refine V.iload_n C 2 rfl rfl d_PF_colour_96 ?_
              refine V.iload_n C 3 rfl rfl d_PF_colour_97 ?_
              obtain ⟨⟨v43, F44⟩, e45, h⟩ := Option.bind_eq_some_iff.mp h
              dsimp only at h
              obtain ⟨⟨fs_e45, s_e45⟩, e45⟩ := xcl_spec e45
              refine V.cVr C (c_Pa_change e45) ml_PF_198 s_e45 rfl rfl (by decide) (Nat.le_of_ble_eq_true rfl) d_PF_colour_98 ?_
              simp only [Option.some.injEq, Prod.mk.injEq, true_and] at h
              obtain ⟨rfl, rfl⟩ := h
              exact V.iret C hr d_PF_colour_101 rfl rfl rfl rfl
            · rw [if_pos c36] at h
              refine V.aload_n C 0 rfl rfl d_PF_colour_70 ?_
              refine V.xgetR C fl_PF_51 e27 d_PF_colour_71 ?_
              obtain ⟨q46, e47, h⟩ := Option.bind_eq_some_iff.mp h
              refine V.xgetR C fl_PF_189 e47 d_PF_colour_74 ?_
              refine V.goto C 92 (by decide) d_PF_colour_77 ?_
              refine V.as4 C (by decide) rfl d_PF_colour_92 ?_
              refine V.aload C rfl d_PF_colour_94 ?_
              refine V.iload_n C 2 rfl rfl d_PF_colour_96 ?_
              refine V.iload_n C 3 rfl rfl d_PF_colour_97 ?_
              obtain ⟨⟨v48, F49⟩, e50, h⟩ := Option.bind_eq_some_iff.mp h
              dsimp only at h
              obtain ⟨⟨fs_e50, s_e50⟩, e50⟩ := xcl_spec e50
              refine V.cVr C (c_Pa_change e50) ml_PF_198 s_e50 rfl rfl (by decide) (Nat.le_of_ble_eq_true rfl) d_PF_colour_98 ?_
              simp only [Option.some.injEq, Prod.mk.injEq, true_and] at h
              obtain ⟨rfl, rfl⟩ := h
              exact V.iret C hr d_PF_colour_101 rfl rfl rfl rfl
          · rw [if_neg c35] at h
            simp at h
      · rw [if_pos c33] at h
        simp at h
    · rw [if_pos c30] at h
      simp at h
set_option maxHeartbeats 4000000 in
set_option maxRecDepth 100000 in
theorem x_PF_colour {l : Launch} (hfl : l.flags = flags0) {g : xG} {S : List xO} {G : xL} {a : Nat} {p0 : Int32} {p1 : Int32} {p2 : Int32} {F : xF} {r : Int32} {F2 : xF} {k : Nat} (h : f_PF_colour S a p0 p1 p2 F = some (k + 1, r, F2)) : CX l g 6 100 y_PF_colour b_PF_colour 5 (some .int) [.ref a, .int p0, .int p1, .int p2] S F G (k + 1) F2 := by
  refine CX.of [some (.ref a), some (.int p0), some (.int p1), some (.int p2), none] (by decide) (Nat.le_of_ble_eq_true rfl) rfl ?_
  intro p e s m args below meth c C hr hmn hne
  unfold f_PF_colour at h
  refine V.iload_n C 1 rfl rfl d_PF_colour_0 ?_
  refine V.iconst C (-1) (by decide) d_PF_colour_1 ?_
  refine V.icmp_eq C 26 (by decide) d_PF_colour_2 (fun c1 => ?_) (fun c1 => ?_)
  · rw [if_pos c1] at h
    refine V.aload_n C 0 rfl rfl d_PF_colour_26 ?_
    refine V.iload_n C 2 rfl rfl d_PF_colour_27 ?_
    obtain ⟨v2, e3, h⟩ := Option.bind_eq_some_iff.mp h
    obtain ⟨⟨fs_e3, s_e3⟩, e3⟩ := xcl_spec e3
    refine V.cVr C (c_PF_isSymbol e3) ml_PF_183 s_e3 rfl rfl (by decide) (Nat.le_of_ble_eq_true rfl) d_PF_colour_28 ?_
    refine V.if_ne C 44 (by decide) d_PF_colour_31 (fun c4 => ?_) (fun c4 => ?_)
    · rw [if_neg c4] at h
      refine V.iload_n C 3 rfl rfl d_PF_colour_44 ?_
      refine V.iconst C (-1) (by decide) d_PF_colour_45 ?_
      refine V.icmp_lt C 55 (by decide) d_PF_colour_46 (fun c5 => ?_) (fun c5 => ?_)
      · rw [if_pos c5] at h
        simp only [Option.some.injEq, Prod.mk.injEq] at h
        obtain ⟨hk, rfl, rfl⟩ := h
        obtain rfl : k = 0 := by omega
        exact V.thr C hfl hne xw_PF_55_187 (by decide) d_PF_colour_55 d_PF_colour_58 d_PF_colour_59 d_PF_colour_61 d_PF_colour_64
      · rw [if_neg c5] at h
        refine V.iload_n C 3 rfl rfl d_PF_colour_49 ?_
        refine V.ldc C (v := 16777215) (by decide +kernel) d_PF_colour_50 ?_
        refine V.icmp_le C 65 (by decide) d_PF_colour_52 (fun c6 => ?_) (fun c6 => ?_)
        · rw [if_pos c6] at h
          refine V.iload_n C 1 rfl rfl d_PF_colour_65 ?_
          refine V.iconst C (-1) (by decide) d_PF_colour_66 ?_
          refine V.icmp_ne C 80 (by decide) d_PF_colour_67 (fun c7 => ?_) (fun c7 => ?_)
          · rw [if_neg c7] at h
            refine V.aload_n C 0 rfl rfl d_PF_colour_80 ?_
            obtain ⟨q8, e9, h⟩ := Option.bind_eq_some_iff.mp h
            refine V.xgetR C fl_PF_51 e9 d_PF_colour_81 ?_
            obtain ⟨q10, e11, h⟩ := Option.bind_eq_some_iff.mp h
            refine V.xgetR C fl_PF_193 e11 d_PF_colour_84 ?_
            refine V.iload_n C 1 rfl rfl d_PF_colour_87 ?_
            obtain ⟨q12, e13, h⟩ := Option.bind_eq_some_iff.mp h
            refine V.xaald C e13 d_PF_colour_88 ?_
            obtain ⟨q14, e15, h⟩ := Option.bind_eq_some_iff.mp h
            refine V.xgetR C fl_PF_197 e15 d_PF_colour_89 ?_
            refine V.as4 C (by decide) rfl d_PF_colour_92 ?_
            refine V.aload C rfl d_PF_colour_94 ?_
            refine V.iload_n C 2 rfl rfl d_PF_colour_96 ?_
            refine V.iload_n C 3 rfl rfl d_PF_colour_97 ?_
            obtain ⟨⟨v16, F17⟩, e18, h⟩ := Option.bind_eq_some_iff.mp h
            dsimp only at h
            obtain ⟨⟨fs_e18, s_e18⟩, e18⟩ := xcl_spec e18
            refine V.cVr C (c_Pa_change e18) ml_PF_198 s_e18 rfl rfl (by decide) (Nat.le_of_ble_eq_true rfl) d_PF_colour_98 ?_
            simp at h
          · rw [if_pos c7] at h
            refine V.aload_n C 0 rfl rfl d_PF_colour_70 ?_
            obtain ⟨q19, e20, h⟩ := Option.bind_eq_some_iff.mp h
            refine V.xgetR C fl_PF_51 e20 d_PF_colour_71 ?_
            obtain ⟨q21, e22, h⟩ := Option.bind_eq_some_iff.mp h
            refine V.xgetR C fl_PF_189 e22 d_PF_colour_74 ?_
            refine V.goto C 92 (by decide) d_PF_colour_77 ?_
            refine V.as4 C (by decide) rfl d_PF_colour_92 ?_
            refine V.aload C rfl d_PF_colour_94 ?_
            refine V.iload_n C 2 rfl rfl d_PF_colour_96 ?_
            refine V.iload_n C 3 rfl rfl d_PF_colour_97 ?_
            obtain ⟨⟨v23, F24⟩, e25, h⟩ := Option.bind_eq_some_iff.mp h
            dsimp only at h
            obtain ⟨⟨fs_e25, s_e25⟩, e25⟩ := xcl_spec e25
            refine V.cVr C (c_Pa_change e25) ml_PF_198 s_e25 rfl rfl (by decide) (Nat.le_of_ble_eq_true rfl) d_PF_colour_98 ?_
            simp at h
        · rw [if_neg c6] at h
          simp only [Option.some.injEq, Prod.mk.injEq] at h
          obtain ⟨hk, rfl, rfl⟩ := h
          obtain rfl : k = 0 := by omega
          exact V.thr C hfl hne xw_PF_55_187 (by decide) d_PF_colour_55 d_PF_colour_58 d_PF_colour_59 d_PF_colour_61 d_PF_colour_64
    · rw [if_pos c4] at h
      simp only [Option.some.injEq, Prod.mk.injEq] at h
      obtain ⟨hk, rfl, rfl⟩ := h
      obtain rfl : k = 2 := by omega
      exact V.thr C hfl hne xw_PF_34_138 (by decide) d_PF_colour_34 d_PF_colour_37 d_PF_colour_38 d_PF_colour_40 d_PF_colour_43
  · rw [if_neg c1] at h
    refine V.aload_n C 0 rfl rfl d_PF_colour_5 ?_
    obtain ⟨q26, e27, h⟩ := Option.bind_eq_some_iff.mp h
    refine V.xgetR C fl_PF_51 e27 d_PF_colour_6 ?_
    refine V.iload_n C 1 rfl rfl d_PF_colour_9 ?_
    obtain ⟨v28, e29, h⟩ := Option.bind_eq_some_iff.mp h
    obtain ⟨⟨fs_e29, s_e29⟩, e29⟩ := xcl_spec e29
    refine V.cVr C (c_Sc_has e29) ml_PF_180 s_e29 rfl rfl (by decide) (Nat.le_of_ble_eq_true rfl) d_PF_colour_10 ?_
    refine V.if_ne C 26 (by decide) d_PF_colour_13 (fun c30 => ?_) (fun c30 => ?_)
    · rw [if_neg c30] at h
      refine V.aload_n C 0 rfl rfl d_PF_colour_26 ?_
      refine V.iload_n C 2 rfl rfl d_PF_colour_27 ?_
      obtain ⟨v31, e32, h⟩ := Option.bind_eq_some_iff.mp h
      obtain ⟨⟨fs_e32, s_e32⟩, e32⟩ := xcl_spec e32
      refine V.cVr C (c_PF_isSymbol e32) ml_PF_183 s_e32 rfl rfl (by decide) (Nat.le_of_ble_eq_true rfl) d_PF_colour_28 ?_
      refine V.if_ne C 44 (by decide) d_PF_colour_31 (fun c33 => ?_) (fun c33 => ?_)
      · rw [if_neg c33] at h
        refine V.iload_n C 3 rfl rfl d_PF_colour_44 ?_
        refine V.iconst C (-1) (by decide) d_PF_colour_45 ?_
        refine V.icmp_lt C 55 (by decide) d_PF_colour_46 (fun c34 => ?_) (fun c34 => ?_)
        · rw [if_pos c34] at h
          simp only [Option.some.injEq, Prod.mk.injEq] at h
          obtain ⟨hk, rfl, rfl⟩ := h
          obtain rfl : k = 0 := by omega
          exact V.thr C hfl hne xw_PF_55_187 (by decide) d_PF_colour_55 d_PF_colour_58 d_PF_colour_59 d_PF_colour_61 d_PF_colour_64
        · rw [if_neg c34] at h
          refine V.iload_n C 3 rfl rfl d_PF_colour_49 ?_
          refine V.ldc C (v := 16777215) (by decide +kernel) d_PF_colour_50 ?_
          refine V.icmp_le C 65 (by decide) d_PF_colour_52 (fun c35 => ?_) (fun c35 => ?_)
          · rw [if_pos c35] at h
            refine V.iload_n C 1 rfl rfl d_PF_colour_65 ?_
            refine V.iconst C (-1) (by decide) d_PF_colour_66 ?_
            refine V.icmp_ne C 80 (by decide) d_PF_colour_67 (fun c36 => ?_) (fun c36 => ?_)
            · rw [if_neg c36] at h
              refine V.aload_n C 0 rfl rfl d_PF_colour_80 ?_
              refine V.xgetR C fl_PF_51 e27 d_PF_colour_81 ?_
              obtain ⟨q37, e38, h⟩ := Option.bind_eq_some_iff.mp h
              refine V.xgetR C fl_PF_193 e38 d_PF_colour_84 ?_
              refine V.iload_n C 1 rfl rfl d_PF_colour_87 ?_
              obtain ⟨q39, e40, h⟩ := Option.bind_eq_some_iff.mp h
              refine V.xaald C e40 d_PF_colour_88 ?_
              obtain ⟨q41, e42, h⟩ := Option.bind_eq_some_iff.mp h
              refine V.xgetR C fl_PF_197 e42 d_PF_colour_89 ?_
              refine V.as4 C (by decide) rfl d_PF_colour_92 ?_
              refine V.aload C rfl d_PF_colour_94 ?_
              refine V.iload_n C 2 rfl rfl d_PF_colour_96 ?_
              refine V.iload_n C 3 rfl rfl d_PF_colour_97 ?_
              obtain ⟨⟨v43, F44⟩, e45, h⟩ := Option.bind_eq_some_iff.mp h
              dsimp only at h
              obtain ⟨⟨fs_e45, s_e45⟩, e45⟩ := xcl_spec e45
              refine V.cVr C (c_Pa_change e45) ml_PF_198 s_e45 rfl rfl (by decide) (Nat.le_of_ble_eq_true rfl) d_PF_colour_98 ?_
              simp at h
            · rw [if_pos c36] at h
              refine V.aload_n C 0 rfl rfl d_PF_colour_70 ?_
              refine V.xgetR C fl_PF_51 e27 d_PF_colour_71 ?_
              obtain ⟨q46, e47, h⟩ := Option.bind_eq_some_iff.mp h
              refine V.xgetR C fl_PF_189 e47 d_PF_colour_74 ?_
              refine V.goto C 92 (by decide) d_PF_colour_77 ?_
              refine V.as4 C (by decide) rfl d_PF_colour_92 ?_
              refine V.aload C rfl d_PF_colour_94 ?_
              refine V.iload_n C 2 rfl rfl d_PF_colour_96 ?_
              refine V.iload_n C 3 rfl rfl d_PF_colour_97 ?_
              obtain ⟨⟨v48, F49⟩, e50, h⟩ := Option.bind_eq_some_iff.mp h
              dsimp only at h
              obtain ⟨⟨fs_e50, s_e50⟩, e50⟩ := xcl_spec e50
              refine V.cVr C (c_Pa_change e50) ml_PF_198 s_e50 rfl rfl (by decide) (Nat.le_of_ble_eq_true rfl) d_PF_colour_98 ?_
              simp at h
          · rw [if_neg c35] at h
            simp only [Option.some.injEq, Prod.mk.injEq] at h
            obtain ⟨hk, rfl, rfl⟩ := h
            obtain rfl : k = 0 := by omega
            exact V.thr C hfl hne xw_PF_55_187 (by decide) d_PF_colour_55 d_PF_colour_58 d_PF_colour_59 d_PF_colour_61 d_PF_colour_64
      · rw [if_pos c33] at h
        simp only [Option.some.injEq, Prod.mk.injEq] at h
        obtain ⟨hk, rfl, rfl⟩ := h
        obtain rfl : k = 2 := by omega
        exact V.thr C hfl hne xw_PF_34_138 (by decide) d_PF_colour_34 d_PF_colour_37 d_PF_colour_38 d_PF_colour_40 d_PF_colour_43
    · rw [if_pos c30] at h
      simp only [Option.some.injEq, Prod.mk.injEq] at h
      obtain ⟨hk, rfl, rfl⟩ := h
      obtain rfl : k = 2 := by omega
      exact V.thr C hfl hne xw_PF_16_181 (by decide) d_PF_colour_16 d_PF_colour_19 d_PF_colour_20 d_PF_colour_22 d_PF_colour_25
def f_PF_through (S : List xO) (a : Nat) (p0 : Int32) (p1 : Int32) (F : xF) : Option (Nat × Int32 × xF) :=
  (gR S 8 a 5).bind fun q1 =>
  (xcl S 7 q1 (f_Sc_has S q1 p0 F)).bind fun v3 =>
  if v3 = (0 : Int32) then
    some (3, 0, F)
  else
  if p1 = (-1 : Int32) then
    (gR S 7 q1 0).bind fun q7 =>
    (rG S q7 p0).bind fun q9 =>
    (gI S 6 q9 8 F).bind fun v11 =>
    (rG S q7 p0).bind fun q13 =>
    (pI S 6 q13 8 p1 F).bind fun F15 =>
    some (0, v11, F15)
  else
  (xcl S 8 a (f_PF_isSymbol S a p1 F)).bind fun v17 =>
  if v17 = (0 : Int32) then
    some (3, 0, F)
  else
  (gR S 7 q1 0).bind fun q20 =>
  (rG S q20 p0).bind fun q22 =>
  (gI S 6 q22 8 F).bind fun v24 =>
  (rG S q20 p0).bind fun q26 =>
  (pI S 6 q26 8 p1 F).bind fun F28 =>
  some (0, v24, F28)
set_option maxHeartbeats 4000000 in
set_option maxRecDepth 100000 in
theorem c_PF_through {l : Launch} {g : xG} {S : List xO} {G : xL} {a : Nat} {p0 : Int32} {p1 : Int32} {F : xF} {r : Int32} {F2 : xF} (h : f_PF_through S a p0 p1 F = some (0, r, F2)) : CT l g 6 100 0 0 y_PF_through b_PF_through 4 (some .int) 1 [.ref a, .int p0, .int p1] S F G (some (.int r)) S F2 G := by
  refine CT.of [some (.ref a), some (.int p0), some (.int p1), none] (by decide) (Nat.le_of_ble_eq_true rfl) rfl ?_
  intro p e s m args below meth c C hr hmn hz
  unfold f_PF_through at h
  refine V.aload_n C 0 rfl rfl d_PF_through_0 ?_
  obtain ⟨q1, e2, h⟩ := Option.bind_eq_some_iff.mp h
  refine V.xgetR C fl_PF_51 e2 d_PF_through_1 ?_
  refine V.iload_n C 1 rfl rfl d_PF_through_4 ?_
  obtain ⟨v3, e4, h⟩ := Option.bind_eq_some_iff.mp h
  obtain ⟨⟨fs_e4, s_e4⟩, e4⟩ := xcl_spec e4
  refine V.cVr C (c_Sc_has e4) ml_PF_180 s_e4 rfl rfl (by decide) (Nat.le_of_ble_eq_true rfl) d_PF_through_5 ?_
  refine V.if_ne C 21 (by decide) d_PF_through_8 (fun c5 => ?_) (fun c5 => ?_)
  · rw [if_neg c5] at h
    refine V.iload_n C 2 rfl rfl d_PF_through_21 ?_
    refine V.iconst C (-1) (by decide) d_PF_through_22 ?_
    refine V.icmp_eq C 44 (by decide) d_PF_through_23 (fun c6 => ?_) (fun c6 => ?_)
    · rw [if_pos c6] at h
      refine V.aload_n C 0 rfl rfl d_PF_through_44 ?_
      refine V.xgetR C fl_PF_51 e2 d_PF_through_45 ?_
      obtain ⟨q7, e8, h⟩ := Option.bind_eq_some_iff.mp h
      refine V.xgetR C fl_PF_193 e8 d_PF_through_48 ?_
      refine V.iload_n C 1 rfl rfl d_PF_through_51 ?_
      obtain ⟨q9, e10, h⟩ := Option.bind_eq_some_iff.mp h
      refine V.xaald C e10 d_PF_through_52 ?_
      obtain ⟨v11, e12, h⟩ := Option.bind_eq_some_iff.mp h
      refine V.xgetI C fl_PF_203 e12 d_PF_through_53 ?_
      refine V.is3 C (by decide) rfl d_PF_through_56 ?_
      refine V.aload_n C 0 rfl rfl d_PF_through_57 ?_
      refine V.xgetR C fl_PF_51 e2 d_PF_through_58 ?_
      refine V.xgetR C fl_PF_193 e8 d_PF_through_61 ?_
      refine V.iload_n C 1 rfl rfl d_PF_through_64 ?_
      obtain ⟨q13, e14, h⟩ := Option.bind_eq_some_iff.mp h
      refine V.xaald C e14 d_PF_through_65 ?_
      refine V.iload_n C 2 rfl rfl d_PF_through_66 ?_
      obtain ⟨F15, e16, h⟩ := Option.bind_eq_some_iff.mp h
      refine V.xputI C fl_PF_203 ft_6 fi_6_8 e16 d_PF_through_67 ?_
      refine V.iload_n C 3 rfl rfl d_PF_through_70 ?_
      simp only [Option.some.injEq, Prod.mk.injEq, true_and] at h
      obtain ⟨rfl, rfl⟩ := h
      exact V.iret C hr d_PF_through_71 rfl rfl rfl rfl
    · rw [if_neg c6] at h
      refine V.aload_n C 0 rfl rfl d_PF_through_26 ?_
      refine V.iload_n C 2 rfl rfl d_PF_through_27 ?_
      obtain ⟨v17, e18, h⟩ := Option.bind_eq_some_iff.mp h
      obtain ⟨⟨fs_e18, s_e18⟩, e18⟩ := xcl_spec e18
      refine V.cVr C (c_PF_isSymbol e18) ml_PF_183 s_e18 rfl rfl (by decide) (Nat.le_of_ble_eq_true rfl) d_PF_through_28 ?_
      refine V.if_ne C 44 (by decide) d_PF_through_31 (fun c19 => ?_) (fun c19 => ?_)
      · rw [if_neg c19] at h
        refine V.aload_n C 0 rfl rfl d_PF_through_44 ?_
        refine V.xgetR C fl_PF_51 e2 d_PF_through_45 ?_
        obtain ⟨q20, e21, h⟩ := Option.bind_eq_some_iff.mp h
        refine V.xgetR C fl_PF_193 e21 d_PF_through_48 ?_
        refine V.iload_n C 1 rfl rfl d_PF_through_51 ?_
        obtain ⟨q22, e23, h⟩ := Option.bind_eq_some_iff.mp h
        refine V.xaald C e23 d_PF_through_52 ?_
        obtain ⟨v24, e25, h⟩ := Option.bind_eq_some_iff.mp h
        refine V.xgetI C fl_PF_203 e25 d_PF_through_53 ?_
        refine V.is3 C (by decide) rfl d_PF_through_56 ?_
        refine V.aload_n C 0 rfl rfl d_PF_through_57 ?_
        refine V.xgetR C fl_PF_51 e2 d_PF_through_58 ?_
        refine V.xgetR C fl_PF_193 e21 d_PF_through_61 ?_
        refine V.iload_n C 1 rfl rfl d_PF_through_64 ?_
        obtain ⟨q26, e27, h⟩ := Option.bind_eq_some_iff.mp h
        refine V.xaald C e27 d_PF_through_65 ?_
        refine V.iload_n C 2 rfl rfl d_PF_through_66 ?_
        obtain ⟨F28, e29, h⟩ := Option.bind_eq_some_iff.mp h
        refine V.xputI C fl_PF_203 ft_6 fi_6_8 e29 d_PF_through_67 ?_
        refine V.iload_n C 3 rfl rfl d_PF_through_70 ?_
        simp only [Option.some.injEq, Prod.mk.injEq, true_and] at h
        obtain ⟨rfl, rfl⟩ := h
        exact V.iret C hr d_PF_through_71 rfl rfl rfl rfl
      · rw [if_pos c19] at h
        simp at h
  · rw [if_pos c5] at h
    simp at h
set_option maxHeartbeats 4000000 in
set_option maxRecDepth 100000 in
theorem x_PF_through {l : Launch} (hfl : l.flags = flags0) {g : xG} {S : List xO} {G : xL} {a : Nat} {p0 : Int32} {p1 : Int32} {F : xF} {r : Int32} {F2 : xF} {k : Nat} (h : f_PF_through S a p0 p1 F = some (k + 1, r, F2)) : CX l g 6 100 y_PF_through b_PF_through 4 (some .int) [.ref a, .int p0, .int p1] S F G (k + 1) F2 := by
  refine CX.of [some (.ref a), some (.int p0), some (.int p1), none] (by decide) (Nat.le_of_ble_eq_true rfl) rfl ?_
  intro p e s m args below meth c C hr hmn hne
  unfold f_PF_through at h
  refine V.aload_n C 0 rfl rfl d_PF_through_0 ?_
  obtain ⟨q1, e2, h⟩ := Option.bind_eq_some_iff.mp h
  refine V.xgetR C fl_PF_51 e2 d_PF_through_1 ?_
  refine V.iload_n C 1 rfl rfl d_PF_through_4 ?_
  obtain ⟨v3, e4, h⟩ := Option.bind_eq_some_iff.mp h
  obtain ⟨⟨fs_e4, s_e4⟩, e4⟩ := xcl_spec e4
  refine V.cVr C (c_Sc_has e4) ml_PF_180 s_e4 rfl rfl (by decide) (Nat.le_of_ble_eq_true rfl) d_PF_through_5 ?_
  refine V.if_ne C 21 (by decide) d_PF_through_8 (fun c5 => ?_) (fun c5 => ?_)
  · rw [if_neg c5] at h
    refine V.iload_n C 2 rfl rfl d_PF_through_21 ?_
    refine V.iconst C (-1) (by decide) d_PF_through_22 ?_
    refine V.icmp_eq C 44 (by decide) d_PF_through_23 (fun c6 => ?_) (fun c6 => ?_)
    · rw [if_pos c6] at h
      refine V.aload_n C 0 rfl rfl d_PF_through_44 ?_
      refine V.xgetR C fl_PF_51 e2 d_PF_through_45 ?_
      obtain ⟨q7, e8, h⟩ := Option.bind_eq_some_iff.mp h
      refine V.xgetR C fl_PF_193 e8 d_PF_through_48 ?_
      refine V.iload_n C 1 rfl rfl d_PF_through_51 ?_
      obtain ⟨q9, e10, h⟩ := Option.bind_eq_some_iff.mp h
      refine V.xaald C e10 d_PF_through_52 ?_
      obtain ⟨v11, e12, h⟩ := Option.bind_eq_some_iff.mp h
      refine V.xgetI C fl_PF_203 e12 d_PF_through_53 ?_
      refine V.is3 C (by decide) rfl d_PF_through_56 ?_
      refine V.aload_n C 0 rfl rfl d_PF_through_57 ?_
      refine V.xgetR C fl_PF_51 e2 d_PF_through_58 ?_
      refine V.xgetR C fl_PF_193 e8 d_PF_through_61 ?_
      refine V.iload_n C 1 rfl rfl d_PF_through_64 ?_
      obtain ⟨q13, e14, h⟩ := Option.bind_eq_some_iff.mp h
      refine V.xaald C e14 d_PF_through_65 ?_
      refine V.iload_n C 2 rfl rfl d_PF_through_66 ?_
      obtain ⟨F15, e16, h⟩ := Option.bind_eq_some_iff.mp h
      refine V.xputI C fl_PF_203 ft_6 fi_6_8 e16 d_PF_through_67 ?_
      refine V.iload_n C 3 rfl rfl d_PF_through_70 ?_
      simp at h
    · rw [if_neg c6] at h
      refine V.aload_n C 0 rfl rfl d_PF_through_26 ?_
      refine V.iload_n C 2 rfl rfl d_PF_through_27 ?_
      obtain ⟨v17, e18, h⟩ := Option.bind_eq_some_iff.mp h
      obtain ⟨⟨fs_e18, s_e18⟩, e18⟩ := xcl_spec e18
      refine V.cVr C (c_PF_isSymbol e18) ml_PF_183 s_e18 rfl rfl (by decide) (Nat.le_of_ble_eq_true rfl) d_PF_through_28 ?_
      refine V.if_ne C 44 (by decide) d_PF_through_31 (fun c19 => ?_) (fun c19 => ?_)
      · rw [if_neg c19] at h
        refine V.aload_n C 0 rfl rfl d_PF_through_44 ?_
        refine V.xgetR C fl_PF_51 e2 d_PF_through_45 ?_
        obtain ⟨q20, e21, h⟩ := Option.bind_eq_some_iff.mp h
        refine V.xgetR C fl_PF_193 e21 d_PF_through_48 ?_
        refine V.iload_n C 1 rfl rfl d_PF_through_51 ?_
        obtain ⟨q22, e23, h⟩ := Option.bind_eq_some_iff.mp h
        refine V.xaald C e23 d_PF_through_52 ?_
        obtain ⟨v24, e25, h⟩ := Option.bind_eq_some_iff.mp h
        refine V.xgetI C fl_PF_203 e25 d_PF_through_53 ?_
        refine V.is3 C (by decide) rfl d_PF_through_56 ?_
        refine V.aload_n C 0 rfl rfl d_PF_through_57 ?_
        refine V.xgetR C fl_PF_51 e2 d_PF_through_58 ?_
        refine V.xgetR C fl_PF_193 e21 d_PF_through_61 ?_
        refine V.iload_n C 1 rfl rfl d_PF_through_64 ?_
        obtain ⟨q26, e27, h⟩ := Option.bind_eq_some_iff.mp h
        refine V.xaald C e27 d_PF_through_65 ?_
        refine V.iload_n C 2 rfl rfl d_PF_through_66 ?_
        obtain ⟨F28, e29, h⟩ := Option.bind_eq_some_iff.mp h
        refine V.xputI C fl_PF_203 ft_6 fi_6_8 e29 d_PF_through_67 ?_
        refine V.iload_n C 3 rfl rfl d_PF_through_70 ?_
        simp at h
      · rw [if_pos c19] at h
        simp only [Option.some.injEq, Prod.mk.injEq] at h
        obtain ⟨hk, rfl, rfl⟩ := h
        obtain rfl : k = 2 := by omega
        exact V.thr C hfl hne xw_PF_34_138 (by decide) d_PF_through_34 d_PF_through_37 d_PF_through_38 d_PF_through_40 d_PF_through_43
  · rw [if_pos c5] at h
    simp only [Option.some.injEq, Prod.mk.injEq] at h
    obtain ⟨hk, rfl, rfl⟩ := h
    obtain rfl : k = 2 := by omega
    exact V.thr C hfl hne xw_PF_11_181 (by decide) d_PF_through_11 d_PF_through_14 d_PF_through_15 d_PF_through_17 d_PF_through_20
def f_PF_shown (S : List xO) (N : Nat) (a : Nat) (p0 : Int32) (p1 : Int32) (p2 : Int32) (F : xF) : Option (Nat × Int32 × xF) :=
  (gR S 8 a 5).bind fun q1 =>
  (xcl S 7 q1 (f_Sc_has S q1 p0 F)).bind fun v3 =>
  if v3 = (0 : Int32) then
    some (3, 0, F)
  else
  if p1 < (0 : Int32) then
    some (3, 0, F)
  else
  if (24 : Int32) ≤ p1 then
    some (3, 0, F)
  else
  if p2 < (0 : Int32) then
    some (3, 0, F)
  else
  if p2 < (24 : Int32) then
    (f_Sc_colourBehind S N q1 p0 p1 p2 F).bind fun v10 =>
    some (0, v10, F)
  else
  some (3, 0, F)
set_option maxHeartbeats 4000000 in
set_option maxRecDepth 100000 in
theorem c_PF_shown {l : Launch} {g : xG} {S : List xO} {G : xL} {a : Nat} {p0 : Int32} {p1 : Int32} {p2 : Int32} {N : Nat} {F : xF} {r : Int32} {F2 : xF} (h : f_PF_shown S N a p0 p1 p2 F = some (0, r, F2)) : CT l g 6 100 0 0 y_PF_shown b_PF_shown 4 (some .int) 1 [.ref a, .int p0, .int p1, .int p2] S F G (some (.int r)) S F2 G := by
  refine CT.of [some (.ref a), some (.int p0), some (.int p1), some (.int p2)] (by decide) (Nat.le_of_ble_eq_true rfl) rfl ?_
  intro p e s m args below meth c C hr hmn hz
  unfold f_PF_shown at h
  refine V.aload_n C 0 rfl rfl d_PF_shown_0 ?_
  obtain ⟨q1, e2, h⟩ := Option.bind_eq_some_iff.mp h
  refine V.xgetR C fl_PF_51 e2 d_PF_shown_1 ?_
  refine V.iload_n C 1 rfl rfl d_PF_shown_4 ?_
  obtain ⟨v3, e4, h⟩ := Option.bind_eq_some_iff.mp h
  obtain ⟨⟨fs_e4, s_e4⟩, e4⟩ := xcl_spec e4
  refine V.cVr C (c_Sc_has e4) ml_PF_180 s_e4 rfl rfl (by decide) (Nat.le_of_ble_eq_true rfl) d_PF_shown_5 ?_
  refine V.if_ne C 21 (by decide) d_PF_shown_8 (fun c5 => ?_) (fun c5 => ?_)
  · rw [if_neg c5] at h
    refine V.iload_n C 2 rfl rfl d_PF_shown_21 ?_
    refine V.if_lt C 41 (by decide) d_PF_shown_22 (fun c6 => ?_) (fun c6 => ?_)
    · rw [if_pos c6] at h
      simp at h
    · rw [if_neg c6] at h
      refine V.iload_n C 2 rfl rfl d_PF_shown_25 ?_
      refine V.bipush C 24 (by decide) d_PF_shown_26 ?_
      refine V.icmp_ge C 41 (by decide) d_PF_shown_28 (fun c7 => ?_) (fun c7 => ?_)
      · rw [if_pos c7] at h
        simp at h
      · rw [if_neg c7] at h
        refine V.iload_n C 3 rfl rfl d_PF_shown_31 ?_
        refine V.if_lt C 41 (by decide) d_PF_shown_32 (fun c8 => ?_) (fun c8 => ?_)
        · rw [if_pos c8] at h
          simp at h
        · rw [if_neg c8] at h
          refine V.iload_n C 3 rfl rfl d_PF_shown_35 ?_
          refine V.bipush C 24 (by decide) d_PF_shown_36 ?_
          refine V.icmp_lt C 51 (by decide) d_PF_shown_38 (fun c9 => ?_) (fun c9 => ?_)
          · rw [if_pos c9] at h
            refine V.aload_n C 0 rfl rfl d_PF_shown_51 ?_
            refine V.xgetR C fl_PF_51 e2 d_PF_shown_52 ?_
            refine V.iload_n C 1 rfl rfl d_PF_shown_55 ?_
            refine V.iload_n C 2 rfl rfl d_PF_shown_56 ?_
            refine V.iload_n C 3 rfl rfl d_PF_shown_57 ?_
            obtain ⟨v10, e11, h⟩ := Option.bind_eq_some_iff.mp h
            refine V.cVr C (c_Sc_colourBehind e11) ml_PF_208 s_e4 rfl rfl (by decide) (Nat.le_of_ble_eq_true rfl) d_PF_shown_58 ?_
            simp only [Option.some.injEq, Prod.mk.injEq, true_and] at h
            obtain ⟨rfl, rfl⟩ := h
            exact V.iret C hr d_PF_shown_61 rfl rfl rfl rfl
          · rw [if_neg c9] at h
            simp at h
  · rw [if_pos c5] at h
    simp at h
set_option maxHeartbeats 4000000 in
set_option maxRecDepth 100000 in
theorem x_PF_shown {l : Launch} (hfl : l.flags = flags0) {g : xG} {S : List xO} {G : xL} {a : Nat} {p0 : Int32} {p1 : Int32} {p2 : Int32} {N : Nat} {F : xF} {r : Int32} {F2 : xF} {k : Nat} (h : f_PF_shown S N a p0 p1 p2 F = some (k + 1, r, F2)) : CX l g 6 100 y_PF_shown b_PF_shown 4 (some .int) [.ref a, .int p0, .int p1, .int p2] S F G (k + 1) F2 := by
  refine CX.of [some (.ref a), some (.int p0), some (.int p1), some (.int p2)] (by decide) (Nat.le_of_ble_eq_true rfl) rfl ?_
  intro p e s m args below meth c C hr hmn hne
  unfold f_PF_shown at h
  refine V.aload_n C 0 rfl rfl d_PF_shown_0 ?_
  obtain ⟨q1, e2, h⟩ := Option.bind_eq_some_iff.mp h
  refine V.xgetR C fl_PF_51 e2 d_PF_shown_1 ?_
  refine V.iload_n C 1 rfl rfl d_PF_shown_4 ?_
  obtain ⟨v3, e4, h⟩ := Option.bind_eq_some_iff.mp h
  obtain ⟨⟨fs_e4, s_e4⟩, e4⟩ := xcl_spec e4
  refine V.cVr C (c_Sc_has e4) ml_PF_180 s_e4 rfl rfl (by decide) (Nat.le_of_ble_eq_true rfl) d_PF_shown_5 ?_
  refine V.if_ne C 21 (by decide) d_PF_shown_8 (fun c5 => ?_) (fun c5 => ?_)
  · rw [if_neg c5] at h
    refine V.iload_n C 2 rfl rfl d_PF_shown_21 ?_
    refine V.if_lt C 41 (by decide) d_PF_shown_22 (fun c6 => ?_) (fun c6 => ?_)
    · rw [if_pos c6] at h
      simp only [Option.some.injEq, Prod.mk.injEq] at h
      obtain ⟨hk, rfl, rfl⟩ := h
      obtain rfl : k = 2 := by omega
      exact V.thr C hfl hne xw_PF_41_206 (by decide) d_PF_shown_41 d_PF_shown_44 d_PF_shown_45 d_PF_shown_47 d_PF_shown_50
    · rw [if_neg c6] at h
      refine V.iload_n C 2 rfl rfl d_PF_shown_25 ?_
      refine V.bipush C 24 (by decide) d_PF_shown_26 ?_
      refine V.icmp_ge C 41 (by decide) d_PF_shown_28 (fun c7 => ?_) (fun c7 => ?_)
      · rw [if_pos c7] at h
        simp only [Option.some.injEq, Prod.mk.injEq] at h
        obtain ⟨hk, rfl, rfl⟩ := h
        obtain rfl : k = 2 := by omega
        exact V.thr C hfl hne xw_PF_41_206 (by decide) d_PF_shown_41 d_PF_shown_44 d_PF_shown_45 d_PF_shown_47 d_PF_shown_50
      · rw [if_neg c7] at h
        refine V.iload_n C 3 rfl rfl d_PF_shown_31 ?_
        refine V.if_lt C 41 (by decide) d_PF_shown_32 (fun c8 => ?_) (fun c8 => ?_)
        · rw [if_pos c8] at h
          simp only [Option.some.injEq, Prod.mk.injEq] at h
          obtain ⟨hk, rfl, rfl⟩ := h
          obtain rfl : k = 2 := by omega
          exact V.thr C hfl hne xw_PF_41_206 (by decide) d_PF_shown_41 d_PF_shown_44 d_PF_shown_45 d_PF_shown_47 d_PF_shown_50
        · rw [if_neg c8] at h
          refine V.iload_n C 3 rfl rfl d_PF_shown_35 ?_
          refine V.bipush C 24 (by decide) d_PF_shown_36 ?_
          refine V.icmp_lt C 51 (by decide) d_PF_shown_38 (fun c9 => ?_) (fun c9 => ?_)
          · rw [if_pos c9] at h
            refine V.aload_n C 0 rfl rfl d_PF_shown_51 ?_
            refine V.xgetR C fl_PF_51 e2 d_PF_shown_52 ?_
            refine V.iload_n C 1 rfl rfl d_PF_shown_55 ?_
            refine V.iload_n C 2 rfl rfl d_PF_shown_56 ?_
            refine V.iload_n C 3 rfl rfl d_PF_shown_57 ?_
            obtain ⟨v10, e11, h⟩ := Option.bind_eq_some_iff.mp h
            refine V.cVr C (c_Sc_colourBehind e11) ml_PF_208 s_e4 rfl rfl (by decide) (Nat.le_of_ble_eq_true rfl) d_PF_shown_58 ?_
            simp at h
          · rw [if_neg c9] at h
            simp only [Option.some.injEq, Prod.mk.injEq] at h
            obtain ⟨hk, rfl, rfl⟩ := h
            obtain rfl : k = 2 := by omega
            exact V.thr C hfl hne xw_PF_41_206 (by decide) d_PF_shown_41 d_PF_shown_44 d_PF_shown_45 d_PF_shown_47 d_PF_shown_50
  · rw [if_pos c5] at h
    simp only [Option.some.injEq, Prod.mk.injEq] at h
    obtain ⟨hk, rfl, rfl⟩ := h
    obtain rfl : k = 2 := by omega
    exact V.thr C hfl hne xw_PF_11_181 (by decide) d_PF_shown_11 d_PF_shown_14 d_PF_shown_15 d_PF_shown_17 d_PF_shown_20
def f_PF_symbol (S : List xO) (a : Nat) (p0 : Int32) (p1 : Int32) (p2 : Int32) (F : xF) : Option (Nat × Int32 × xF) :=
  (gR S 8 a 5).bind fun q1 =>
  (xcl S 7 q1 (f_Sc_has S q1 p0 F)).bind fun v3 =>
  if v3 = (0 : Int32) then
    some (3, 0, F)
  else
  (gR S 7 q1 0).bind fun q6 =>
  (rG S q6 p0).bind fun q8 =>
  if p1 < (0 : Int32) then
    some (3, 0, F)
  else
  (gI S 6 q8 4 F).bind fun v11 =>
  if v11 ≤ p1 then
    some (3, 0, F)
  else
  if p2 < (0 : Int32) then
    some (3, 0, F)
  else
  (gI S 6 q8 5 F).bind fun v15 =>
  if p2 < v15 then
    (xcl S 6 q8 (f_Fr_symbolIn S q8 p1 p2 F)).bind fun v18 =>
    some (0, v18, F)
  else
  some (3, 0, F)
set_option maxHeartbeats 4000000 in
set_option maxRecDepth 100000 in
theorem c_PF_symbol {l : Launch} {g : xG} {S : List xO} {G : xL} {a : Nat} {p0 : Int32} {p1 : Int32} {p2 : Int32} {F : xF} {r : Int32} {F2 : xF} (h : f_PF_symbol S a p0 p1 p2 F = some (0, r, F2)) : CT l g 6 100 0 0 y_PF_symbol b_PF_symbol 5 (some .int) 1 [.ref a, .int p0, .int p1, .int p2] S F G (some (.int r)) S F2 G := by
  refine CT.of [some (.ref a), some (.int p0), some (.int p1), some (.int p2), none] (by decide) (Nat.le_of_ble_eq_true rfl) rfl ?_
  intro p e s m args below meth c C hr hmn hz
  unfold f_PF_symbol at h
  refine V.aload_n C 0 rfl rfl d_PF_symbol_0 ?_
  obtain ⟨q1, e2, h⟩ := Option.bind_eq_some_iff.mp h
  refine V.xgetR C fl_PF_51 e2 d_PF_symbol_1 ?_
  refine V.iload_n C 1 rfl rfl d_PF_symbol_4 ?_
  obtain ⟨v3, e4, h⟩ := Option.bind_eq_some_iff.mp h
  obtain ⟨⟨fs_e4, s_e4⟩, e4⟩ := xcl_spec e4
  refine V.cVr C (c_Sc_has e4) ml_PF_180 s_e4 rfl rfl (by decide) (Nat.le_of_ble_eq_true rfl) d_PF_symbol_5 ?_
  refine V.if_ne C 21 (by decide) d_PF_symbol_8 (fun c5 => ?_) (fun c5 => ?_)
  · rw [if_neg c5] at h
    refine V.aload_n C 0 rfl rfl d_PF_symbol_21 ?_
    refine V.xgetR C fl_PF_51 e2 d_PF_symbol_22 ?_
    obtain ⟨q6, e7, h⟩ := Option.bind_eq_some_iff.mp h
    refine V.xgetR C fl_PF_193 e7 d_PF_symbol_25 ?_
    refine V.iload_n C 1 rfl rfl d_PF_symbol_28 ?_
    obtain ⟨q8, e9, h⟩ := Option.bind_eq_some_iff.mp h
    refine V.xaald C e9 d_PF_symbol_29 ?_
    refine V.as4 C (by decide) rfl d_PF_symbol_30 ?_
    refine V.iload_n C 2 rfl rfl d_PF_symbol_32 ?_
    refine V.if_lt C 58 (by decide) d_PF_symbol_33 (fun c10 => ?_) (fun c10 => ?_)
    · rw [if_pos c10] at h
      simp at h
    · rw [if_neg c10] at h
      refine V.iload_n C 2 rfl rfl d_PF_symbol_36 ?_
      refine V.aload C rfl d_PF_symbol_37 ?_
      obtain ⟨v11, e12, h⟩ := Option.bind_eq_some_iff.mp h
      refine V.xgetI C fl_PF_212 e12 d_PF_symbol_39 ?_
      refine V.icmp_ge C 58 (by decide) d_PF_symbol_42 (fun c13 => ?_) (fun c13 => ?_)
      · rw [if_pos c13] at h
        simp at h
      · rw [if_neg c13] at h
        refine V.iload_n C 3 rfl rfl d_PF_symbol_45 ?_
        refine V.if_lt C 58 (by decide) d_PF_symbol_46 (fun c14 => ?_) (fun c14 => ?_)
        · rw [if_pos c14] at h
          simp at h
        · rw [if_neg c14] at h
          refine V.iload_n C 3 rfl rfl d_PF_symbol_49 ?_
          refine V.aload C rfl d_PF_symbol_50 ?_
          obtain ⟨v15, e16, h⟩ := Option.bind_eq_some_iff.mp h
          refine V.xgetI C fl_PF_215 e16 d_PF_symbol_52 ?_
          refine V.icmp_lt C 68 (by decide) d_PF_symbol_55 (fun c17 => ?_) (fun c17 => ?_)
          · rw [if_pos c17] at h
            refine V.aload C rfl d_PF_symbol_68 ?_
            refine V.iload_n C 2 rfl rfl d_PF_symbol_70 ?_
            refine V.iload_n C 3 rfl rfl d_PF_symbol_71 ?_
            obtain ⟨v18, e19, h⟩ := Option.bind_eq_some_iff.mp h
            obtain ⟨⟨fs_e19, s_e19⟩, e19⟩ := xcl_spec e19
            refine V.cVr C (c_Fr_symbolIn e19) ml_PF_220 s_e19 rfl rfl (by decide) (Nat.le_of_ble_eq_true rfl) d_PF_symbol_72 ?_
            simp only [Option.some.injEq, Prod.mk.injEq, true_and] at h
            obtain ⟨rfl, rfl⟩ := h
            exact V.iret C hr d_PF_symbol_75 rfl rfl rfl rfl
          · rw [if_neg c17] at h
            simp at h
  · rw [if_pos c5] at h
    simp at h
set_option maxHeartbeats 4000000 in
set_option maxRecDepth 100000 in
theorem x_PF_symbol {l : Launch} (hfl : l.flags = flags0) {g : xG} {S : List xO} {G : xL} {a : Nat} {p0 : Int32} {p1 : Int32} {p2 : Int32} {F : xF} {r : Int32} {F2 : xF} {k : Nat} (h : f_PF_symbol S a p0 p1 p2 F = some (k + 1, r, F2)) : CX l g 6 100 y_PF_symbol b_PF_symbol 5 (some .int) [.ref a, .int p0, .int p1, .int p2] S F G (k + 1) F2 := by
  refine CX.of [some (.ref a), some (.int p0), some (.int p1), some (.int p2), none] (by decide) (Nat.le_of_ble_eq_true rfl) rfl ?_
  intro p e s m args below meth c C hr hmn hne
  unfold f_PF_symbol at h
  refine V.aload_n C 0 rfl rfl d_PF_symbol_0 ?_
  obtain ⟨q1, e2, h⟩ := Option.bind_eq_some_iff.mp h
  refine V.xgetR C fl_PF_51 e2 d_PF_symbol_1 ?_
  refine V.iload_n C 1 rfl rfl d_PF_symbol_4 ?_
  obtain ⟨v3, e4, h⟩ := Option.bind_eq_some_iff.mp h
  obtain ⟨⟨fs_e4, s_e4⟩, e4⟩ := xcl_spec e4
  refine V.cVr C (c_Sc_has e4) ml_PF_180 s_e4 rfl rfl (by decide) (Nat.le_of_ble_eq_true rfl) d_PF_symbol_5 ?_
  refine V.if_ne C 21 (by decide) d_PF_symbol_8 (fun c5 => ?_) (fun c5 => ?_)
  · rw [if_neg c5] at h
    refine V.aload_n C 0 rfl rfl d_PF_symbol_21 ?_
    refine V.xgetR C fl_PF_51 e2 d_PF_symbol_22 ?_
    obtain ⟨q6, e7, h⟩ := Option.bind_eq_some_iff.mp h
    refine V.xgetR C fl_PF_193 e7 d_PF_symbol_25 ?_
    refine V.iload_n C 1 rfl rfl d_PF_symbol_28 ?_
    obtain ⟨q8, e9, h⟩ := Option.bind_eq_some_iff.mp h
    refine V.xaald C e9 d_PF_symbol_29 ?_
    refine V.as4 C (by decide) rfl d_PF_symbol_30 ?_
    refine V.iload_n C 2 rfl rfl d_PF_symbol_32 ?_
    refine V.if_lt C 58 (by decide) d_PF_symbol_33 (fun c10 => ?_) (fun c10 => ?_)
    · rw [if_pos c10] at h
      simp only [Option.some.injEq, Prod.mk.injEq] at h
      obtain ⟨hk, rfl, rfl⟩ := h
      obtain rfl : k = 2 := by omega
      exact V.thr C hfl hne xw_PF_58_218 (by decide) d_PF_symbol_58 d_PF_symbol_61 d_PF_symbol_62 d_PF_symbol_64 d_PF_symbol_67
    · rw [if_neg c10] at h
      refine V.iload_n C 2 rfl rfl d_PF_symbol_36 ?_
      refine V.aload C rfl d_PF_symbol_37 ?_
      obtain ⟨v11, e12, h⟩ := Option.bind_eq_some_iff.mp h
      refine V.xgetI C fl_PF_212 e12 d_PF_symbol_39 ?_
      refine V.icmp_ge C 58 (by decide) d_PF_symbol_42 (fun c13 => ?_) (fun c13 => ?_)
      · rw [if_pos c13] at h
        simp only [Option.some.injEq, Prod.mk.injEq] at h
        obtain ⟨hk, rfl, rfl⟩ := h
        obtain rfl : k = 2 := by omega
        exact V.thr C hfl hne xw_PF_58_218 (by decide) d_PF_symbol_58 d_PF_symbol_61 d_PF_symbol_62 d_PF_symbol_64 d_PF_symbol_67
      · rw [if_neg c13] at h
        refine V.iload_n C 3 rfl rfl d_PF_symbol_45 ?_
        refine V.if_lt C 58 (by decide) d_PF_symbol_46 (fun c14 => ?_) (fun c14 => ?_)
        · rw [if_pos c14] at h
          simp only [Option.some.injEq, Prod.mk.injEq] at h
          obtain ⟨hk, rfl, rfl⟩ := h
          obtain rfl : k = 2 := by omega
          exact V.thr C hfl hne xw_PF_58_218 (by decide) d_PF_symbol_58 d_PF_symbol_61 d_PF_symbol_62 d_PF_symbol_64 d_PF_symbol_67
        · rw [if_neg c14] at h
          refine V.iload_n C 3 rfl rfl d_PF_symbol_49 ?_
          refine V.aload C rfl d_PF_symbol_50 ?_
          obtain ⟨v15, e16, h⟩ := Option.bind_eq_some_iff.mp h
          refine V.xgetI C fl_PF_215 e16 d_PF_symbol_52 ?_
          refine V.icmp_lt C 68 (by decide) d_PF_symbol_55 (fun c17 => ?_) (fun c17 => ?_)
          · rw [if_pos c17] at h
            refine V.aload C rfl d_PF_symbol_68 ?_
            refine V.iload_n C 2 rfl rfl d_PF_symbol_70 ?_
            refine V.iload_n C 3 rfl rfl d_PF_symbol_71 ?_
            obtain ⟨v18, e19, h⟩ := Option.bind_eq_some_iff.mp h
            obtain ⟨⟨fs_e19, s_e19⟩, e19⟩ := xcl_spec e19
            refine V.cVr C (c_Fr_symbolIn e19) ml_PF_220 s_e19 rfl rfl (by decide) (Nat.le_of_ble_eq_true rfl) d_PF_symbol_72 ?_
            simp at h
          · rw [if_neg c17] at h
            simp only [Option.some.injEq, Prod.mk.injEq] at h
            obtain ⟨hk, rfl, rfl⟩ := h
            obtain rfl : k = 2 := by omega
            exact V.thr C hfl hne xw_PF_58_218 (by decide) d_PF_symbol_58 d_PF_symbol_61 d_PF_symbol_62 d_PF_symbol_64 d_PF_symbol_67
  · rw [if_pos c5] at h
    simp only [Option.some.injEq, Prod.mk.injEq] at h
    obtain ⟨hk, rfl, rfl⟩ := h
    obtain rfl : k = 2 := by omega
    exact V.thr C hfl hne xw_PF_11_181 (by decide) d_PF_symbol_11 d_PF_symbol_14 d_PF_symbol_15 d_PF_symbol_17 d_PF_symbol_20
def f_PF_when (S : List xO) (N : Nat) (a : Nat) (p0 : Int32) (p1 : Int32) (F : xF) : Option (Nat × Int32 × xF) :=
  if p0 < (0 : Int32) then
    some (1, 0, F)
  else
  if (0 : Int32) ≤ p1 then
    (gR S 8 a 5).bind fun q3 =>
    (xcl S 7 q3 (f_Sc_frameAt S N q3 p0 p1 F)).bind fun v5 =>
    some (0, v5, F)
  else
  some (1, 0, F)
set_option maxHeartbeats 4000000 in
set_option maxRecDepth 100000 in
theorem c_PF_when {l : Launch} {g : xG} {S : List xO} {G : xL} {a : Nat} {p0 : Int32} {p1 : Int32} {N : Nat} {F : xF} {r : Int32} {F2 : xF} (h : f_PF_when S N a p0 p1 F = some (0, r, F2)) : CT l g 6 100 0 0 y_PF_when b_PF_when 3 (some .int) 1 [.ref a, .int p0, .int p1] S F G (some (.int r)) S F2 G := by
  refine CT.of [some (.ref a), some (.int p0), some (.int p1)] (by decide) (Nat.le_of_ble_eq_true rfl) rfl ?_
  intro p e s m args below meth c C hr hmn hz
  unfold f_PF_when at h
  refine V.iload_n C 1 rfl rfl d_PF_when_0 ?_
  refine V.if_lt C 8 (by decide) d_PF_when_1 (fun c1 => ?_) (fun c1 => ?_)
  · rw [if_pos c1] at h
    simp at h
  · rw [if_neg c1] at h
    refine V.iload_n C 2 rfl rfl d_PF_when_4 ?_
    refine V.if_ge C 18 (by decide) d_PF_when_5 (fun c2 => ?_) (fun c2 => ?_)
    · rw [if_pos c2] at h
      refine V.aload_n C 0 rfl rfl d_PF_when_18 ?_
      obtain ⟨q3, e4, h⟩ := Option.bind_eq_some_iff.mp h
      refine V.xgetR C fl_PF_51 e4 d_PF_when_19 ?_
      refine V.iload_n C 1 rfl rfl d_PF_when_22 ?_
      refine V.iload_n C 2 rfl rfl d_PF_when_23 ?_
      obtain ⟨v5, e6, h⟩ := Option.bind_eq_some_iff.mp h
      obtain ⟨⟨fs_e6, s_e6⟩, e6⟩ := xcl_spec e6
      refine V.cVr C (c_Sc_frameAt e6) ml_PF_225 s_e6 rfl rfl (by decide) (Nat.le_of_ble_eq_true rfl) d_PF_when_24 ?_
      simp only [Option.some.injEq, Prod.mk.injEq, true_and] at h
      obtain ⟨rfl, rfl⟩ := h
      exact V.iret C hr d_PF_when_27 rfl rfl rfl rfl
    · rw [if_neg c2] at h
      simp at h
set_option maxHeartbeats 4000000 in
set_option maxRecDepth 100000 in
theorem x_PF_when {l : Launch} (hfl : l.flags = flags0) {g : xG} {S : List xO} {G : xL} {a : Nat} {p0 : Int32} {p1 : Int32} {N : Nat} {F : xF} {r : Int32} {F2 : xF} {k : Nat} (h : f_PF_when S N a p0 p1 F = some (k + 1, r, F2)) : CX l g 6 100 y_PF_when b_PF_when 3 (some .int) [.ref a, .int p0, .int p1] S F G (k + 1) F2 := by
  refine CX.of [some (.ref a), some (.int p0), some (.int p1)] (by decide) (Nat.le_of_ble_eq_true rfl) rfl ?_
  intro p e s m args below meth c C hr hmn hne
  unfold f_PF_when at h
  refine V.iload_n C 1 rfl rfl d_PF_when_0 ?_
  refine V.if_lt C 8 (by decide) d_PF_when_1 (fun c1 => ?_) (fun c1 => ?_)
  · rw [if_pos c1] at h
    simp only [Option.some.injEq, Prod.mk.injEq] at h
    obtain ⟨hk, rfl, rfl⟩ := h
    obtain rfl : k = 0 := by omega
    exact V.thr C hfl hne xw_PF_8_223 (by decide) d_PF_when_8 d_PF_when_11 d_PF_when_12 d_PF_when_14 d_PF_when_17
  · rw [if_neg c1] at h
    refine V.iload_n C 2 rfl rfl d_PF_when_4 ?_
    refine V.if_ge C 18 (by decide) d_PF_when_5 (fun c2 => ?_) (fun c2 => ?_)
    · rw [if_pos c2] at h
      refine V.aload_n C 0 rfl rfl d_PF_when_18 ?_
      obtain ⟨q3, e4, h⟩ := Option.bind_eq_some_iff.mp h
      refine V.xgetR C fl_PF_51 e4 d_PF_when_19 ?_
      refine V.iload_n C 1 rfl rfl d_PF_when_22 ?_
      refine V.iload_n C 2 rfl rfl d_PF_when_23 ?_
      obtain ⟨v5, e6, h⟩ := Option.bind_eq_some_iff.mp h
      obtain ⟨⟨fs_e6, s_e6⟩, e6⟩ := xcl_spec e6
      refine V.cVr C (c_Sc_frameAt e6) ml_PF_225 s_e6 rfl rfl (by decide) (Nat.le_of_ble_eq_true rfl) d_PF_when_24 ?_
      simp at h
    · rw [if_neg c2] at h
      simp only [Option.some.injEq, Prod.mk.injEq] at h
      obtain ⟨hk, rfl, rfl⟩ := h
      obtain rfl : k = 0 := by omega
      exact V.thr C hfl hne xw_PF_8_223 (by decide) d_PF_when_8 d_PF_when_11 d_PF_when_12 d_PF_when_14 d_PF_when_17
def f_PF_passOf (S : List xO) (a : Nat) (p0 : Int32) (F : xF) : Option (Nat × Int32 × xF) :=
  if (0 : Int32) ≤ p0 then
    (f_Fr_passNumber S p0 F).bind fun v2 =>
    some (0, v2, F)
  else
  some (1, 0, F)
set_option maxHeartbeats 4000000 in
set_option maxRecDepth 100000 in
theorem c_PF_passOf {l : Launch} {g : xG} {S : List xO} {G : xL} {a : Nat} {p0 : Int32} {F : xF} {r : Int32} {F2 : xF} (h : f_PF_passOf S a p0 F = some (0, r, F2)) : CT l g 6 100 0 0 y_PF_passOf b_PF_passOf 2 (some .int) 1 [.ref a, .int p0] S F G (some (.int r)) S F2 G := by
  refine CT.of [some (.ref a), some (.int p0)] (by decide) (Nat.le_of_ble_eq_true rfl) rfl ?_
  intro p e s m args below meth c C hr hmn hz
  unfold f_PF_passOf at h
  refine V.iload_n C 1 rfl rfl d_PF_passOf_0 ?_
  refine V.if_ge C 14 (by decide) d_PF_passOf_1 (fun c1 => ?_) (fun c1 => ?_)
  · rw [if_pos c1] at h
    refine V.iload_n C 1 rfl rfl d_PF_passOf_14 ?_
    obtain ⟨v2, e3, h⟩ := Option.bind_eq_some_iff.mp h
    refine V.cSr C (c_Fr_passNumber e3) ml_PF_230 rfl rfl (by decide) (Nat.le_of_ble_eq_true rfl) d_PF_passOf_15 ?_
    simp only [Option.some.injEq, Prod.mk.injEq, true_and] at h
    obtain ⟨rfl, rfl⟩ := h
    exact V.iret C hr d_PF_passOf_18 rfl rfl rfl rfl
  · rw [if_neg c1] at h
    simp at h
set_option maxHeartbeats 4000000 in
set_option maxRecDepth 100000 in
theorem x_PF_passOf {l : Launch} (hfl : l.flags = flags0) {g : xG} {S : List xO} {G : xL} {a : Nat} {p0 : Int32} {F : xF} {r : Int32} {F2 : xF} {k : Nat} (h : f_PF_passOf S a p0 F = some (k + 1, r, F2)) : CX l g 6 100 y_PF_passOf b_PF_passOf 2 (some .int) [.ref a, .int p0] S F G (k + 1) F2 := by
  refine CX.of [some (.ref a), some (.int p0)] (by decide) (Nat.le_of_ble_eq_true rfl) rfl ?_
  intro p e s m args below meth c C hr hmn hne
  unfold f_PF_passOf at h
  refine V.iload_n C 1 rfl rfl d_PF_passOf_0 ?_
  refine V.if_ge C 14 (by decide) d_PF_passOf_1 (fun c1 => ?_) (fun c1 => ?_)
  · rw [if_pos c1] at h
    refine V.iload_n C 1 rfl rfl d_PF_passOf_14 ?_
    obtain ⟨v2, e3, h⟩ := Option.bind_eq_some_iff.mp h
    refine V.cSr C (c_Fr_passNumber e3) ml_PF_230 rfl rfl (by decide) (Nat.le_of_ble_eq_true rfl) d_PF_passOf_15 ?_
    simp at h
  · rw [if_neg c1] at h
    simp only [Option.some.injEq, Prod.mk.injEq] at h
    obtain ⟨hk, rfl, rfl⟩ := h
    obtain rfl : k = 0 := by omega
    exact V.thr C hfl hne xw_PF_4_228 (by decide) d_PF_passOf_4 d_PF_passOf_7 d_PF_passOf_8 d_PF_passOf_10 d_PF_passOf_13
def f_PF_told (S : List xO) (a : Nat) (p0 : Int32) (F : xF) : Option Int32 :=
  if p0 = (0 : Int32) then
    (gI S 8 a 0 F).bind fun v2 =>
    some v2
  else
  if p0 = (1 : Int32) then
    (gR S 8 a 1).bind fun q5 =>
    (gI S 0 q5 1 F).bind fun v7 =>
    some v7
  else
  if p0 = (2 : Int32) then
    (gR S 8 a 2).bind fun q10 =>
    (gI S 0 q10 1 F).bind fun v12 =>
    some v12
  else
  if p0 = (3 : Int32) then
    (gR S 8 a 4).bind fun q15 =>
    (gR S 4 q15 3).bind fun q17 =>
    (gI S 0 q17 1 F).bind fun v19 =>
    some v19
  else
  if p0 = (4 : Int32) then
    (gR S 8 a 5).bind fun q22 =>
    (gI S 7 q22 2 F).bind fun v24 =>
    some v24
  else
  some (-1 : Int32)
set_option maxHeartbeats 4000000 in
set_option maxRecDepth 100000 in
theorem c_PF_told {l : Launch} {g : xG} {S : List xO} {G : xL} {a : Nat} {p0 : Int32} {F : xF} {r : Int32} (h : f_PF_told S a p0 F = some r) : CT l g 0 0 0 0 y_PF_told b_PF_told 2 (some .int) 1 [.ref a, .int p0] S F G (some (.int r)) S F G := by
  refine CT.of [some (.ref a), some (.int p0)] (by decide) (Nat.le_of_ble_eq_true rfl) rfl ?_
  intro p e s m args below meth c C hr hmn hz
  unfold f_PF_told at h
  refine V.iload_n C 1 rfl rfl d_PF_told_0 ?_
  by_cases c1 : p0 = (0 : Int32)
  · rw [if_pos c1] at h
    refine V.tableIn C 36 (by rw [c1]; decide) (by rw [c1]; decide) (by rw [c1]; rfl) (by decide) d_PF_told_1 ?_
    refine V.aload_n C 0 rfl rfl d_PF_told_36 ?_
    obtain ⟨v2, e3, h⟩ := Option.bind_eq_some_iff.mp h
    refine V.xgetI C fl_PF_18 e3 d_PF_told_37 ?_
    obtain rfl := Option.some.inj h
    exact V.iret C hr d_PF_told_40 rfl rfl rfl rfl
  rw [if_neg c1] at h
  by_cases c4 : p0 = (1 : Int32)
  · rw [if_pos c4] at h
    refine V.tableIn C 41 (by rw [c4]; decide) (by rw [c4]; decide) (by rw [c4]; rfl) (by decide) d_PF_told_1 ?_
    refine V.aload_n C 0 rfl rfl d_PF_told_41 ?_
    obtain ⟨q5, e6, h⟩ := Option.bind_eq_some_iff.mp h
    refine V.xgetR C fl_PF_27 e6 d_PF_told_42 ?_
    obtain ⟨v7, e8, h⟩ := Option.bind_eq_some_iff.mp h
    refine V.xgetI C fl_PF_77 e8 d_PF_told_45 ?_
    obtain rfl := Option.some.inj h
    exact V.iret C hr d_PF_told_48 rfl rfl rfl rfl
  rw [if_neg c4] at h
  by_cases c9 : p0 = (2 : Int32)
  · rw [if_pos c9] at h
    refine V.tableIn C 49 (by rw [c9]; decide) (by rw [c9]; decide) (by rw [c9]; rfl) (by decide) d_PF_told_1 ?_
    refine V.aload_n C 0 rfl rfl d_PF_told_49 ?_
    obtain ⟨q10, e11, h⟩ := Option.bind_eq_some_iff.mp h
    refine V.xgetR C fl_PF_31 e11 d_PF_told_50 ?_
    obtain ⟨v12, e13, h⟩ := Option.bind_eq_some_iff.mp h
    refine V.xgetI C fl_PF_77 e13 d_PF_told_53 ?_
    obtain rfl := Option.some.inj h
    exact V.iret C hr d_PF_told_56 rfl rfl rfl rfl
  rw [if_neg c9] at h
  by_cases c14 : p0 = (3 : Int32)
  · rw [if_pos c14] at h
    refine V.tableIn C 57 (by rw [c14]; decide) (by rw [c14]; decide) (by rw [c14]; rfl) (by decide) d_PF_told_1 ?_
    refine V.aload_n C 0 rfl rfl d_PF_told_57 ?_
    obtain ⟨q15, e16, h⟩ := Option.bind_eq_some_iff.mp h
    refine V.xgetR C fl_PF_44 e16 d_PF_told_58 ?_
    obtain ⟨q17, e18, h⟩ := Option.bind_eq_some_iff.mp h
    refine V.xgetR C fl_PF_135 e18 d_PF_told_61 ?_
    obtain ⟨v19, e20, h⟩ := Option.bind_eq_some_iff.mp h
    refine V.xgetI C fl_PF_77 e20 d_PF_told_64 ?_
    obtain rfl := Option.some.inj h
    exact V.iret C hr d_PF_told_67 rfl rfl rfl rfl
  rw [if_neg c14] at h
  by_cases c21 : p0 = (4 : Int32)
  · rw [if_pos c21] at h
    refine V.tableIn C 68 (by rw [c21]; decide) (by rw [c21]; decide) (by rw [c21]; rfl) (by decide) d_PF_told_1 ?_
    refine V.aload_n C 0 rfl rfl d_PF_told_68 ?_
    obtain ⟨q22, e23, h⟩ := Option.bind_eq_some_iff.mp h
    refine V.xgetR C fl_PF_51 e23 d_PF_told_69 ?_
    obtain ⟨v24, e25, h⟩ := Option.bind_eq_some_iff.mp h
    refine V.xgetI C fl_PF_155 e25 d_PF_told_72 ?_
    obtain rfl := Option.some.inj h
    exact V.iret C hr d_PF_told_75 rfl rfl rfl rfl
  rw [if_neg c21] at h
  have k_c1 := lv_neT c1 (show (0 : Int32).toInt = 0 by decide)
  have k_c4 := lv_neT c4 (show (1 : Int32).toInt = 1 by decide)
  have k_c9 := lv_neT c9 (show (2 : Int32).toInt = 2 by decide)
  have k_c14 := lv_neT c14 (show (3 : Int32).toInt = 3 by decide)
  have k_c21 := lv_neT c21 (show (4 : Int32).toInt = 4 by decide)
  refine V.tableOut C 76 (by omega) (by decide) d_PF_told_1 ?_
  refine V.iconst C (-1) (by decide) d_PF_told_76 ?_
  obtain rfl := Option.some.inj h
  exact V.iret C hr d_PF_told_77 rfl rfl rfl rfl
def f_PF_clear (S : List xO) (N : Nat) (a : Nat) (F : xF) : Option xF :=
  (pI S 8 a 6 (0 : Int32) F).bind fun F1 =>
  (gR S 8 a 1).bind fun q3 =>
  (xcl S 0 q3 (f_Nu_empty S q3 F1)).bind fun F5 =>
  (gR S 8 a 2).bind fun q7 =>
  (xcl S 0 q7 (f_Nu_empty S q7 F5)).bind fun F9 =>
  (gR S 8 a 3).bind fun q11 =>
  (xcl S 3 q11 (f_Co_forget S N q11 F9)).bind fun F13 =>
  (gR S 8 a 4).bind fun q15 =>
  (gR S 4 q15 3).bind fun q17 =>
  (xcl S 0 q17 (f_Nu_empty S q17 F13)).bind fun F19 =>
  (gR S 8 a 5).bind fun q21 =>
  (xcl S 7 q21 (f_Sc_forget S N q21 F19)).bind fun F23 =>
  some F23
set_option maxHeartbeats 4000000 in
set_option maxRecDepth 100000 in
theorem c_PF_clear {l : Launch} {g : xG} {S : List xO} {G : xL} {a : Nat} {N : Nat} {F : xF} {F2 : xF} (h : f_PF_clear S N a F = some F2) : CT l g 3 63 0 0 y_PF_clear b_PF_clear 1 none 1 [.ref a] S F G none S F2 G := by
  refine CT.of [some (.ref a)] (by decide) (Nat.le_of_ble_eq_true rfl) rfl ?_
  intro p e s m args below meth c C hr hmn hz
  unfold f_PF_clear at h
  refine V.aload_n C 0 rfl rfl d_PF_clear_0 ?_
  refine V.iconst C 0 (by decide) d_PF_clear_1 ?_
  obtain ⟨F1, e2, h⟩ := Option.bind_eq_some_iff.mp h
  refine V.xputI C fl_PF_55 ft_8 fi_8_6 e2 d_PF_clear_2 ?_
  refine V.aload_n C 0 rfl rfl d_PF_clear_5 ?_
  obtain ⟨q3, e4, h⟩ := Option.bind_eq_some_iff.mp h
  refine V.xgetR C fl_PF_27 e4 d_PF_clear_6 ?_
  obtain ⟨F5, e6, h⟩ := Option.bind_eq_some_iff.mp h
  obtain ⟨⟨fs_e6, s_e6⟩, e6⟩ := xcl_spec e6
  refine V.cVv C (c_Nu_empty e6) ml_PF_132 s_e6 rfl rfl (by decide) (Nat.le_of_ble_eq_true rfl) d_PF_clear_9 ?_
  refine V.aload_n C 0 rfl rfl d_PF_clear_12 ?_
  obtain ⟨q7, e8, h⟩ := Option.bind_eq_some_iff.mp h
  refine V.xgetR C fl_PF_31 e8 d_PF_clear_13 ?_
  obtain ⟨F9, e10, h⟩ := Option.bind_eq_some_iff.mp h
  obtain ⟨⟨fs_e10, s_e10⟩, e10⟩ := xcl_spec e10
  refine V.cVv C (c_Nu_empty e10) ml_PF_132 s_e10 rfl rfl (by decide) (Nat.le_of_ble_eq_true rfl) d_PF_clear_16 ?_
  refine V.aload_n C 0 rfl rfl d_PF_clear_19 ?_
  obtain ⟨q11, e12, h⟩ := Option.bind_eq_some_iff.mp h
  refine V.xgetR C fl_PF_37 e12 d_PF_clear_20 ?_
  obtain ⟨F13, e14, h⟩ := Option.bind_eq_some_iff.mp h
  obtain ⟨⟨fs_e14, s_e14⟩, e14⟩ := xcl_spec e14
  refine V.cVv C (c_Co_forget e14) ml_PF_233 s_e14 rfl rfl (by decide) (Nat.le_of_ble_eq_true rfl) d_PF_clear_23 ?_
  refine V.aload_n C 0 rfl rfl d_PF_clear_26 ?_
  obtain ⟨q15, e16, h⟩ := Option.bind_eq_some_iff.mp h
  refine V.xgetR C fl_PF_44 e16 d_PF_clear_27 ?_
  obtain ⟨q17, e18, h⟩ := Option.bind_eq_some_iff.mp h
  refine V.xgetR C fl_PF_135 e18 d_PF_clear_30 ?_
  obtain ⟨F19, e20, h⟩ := Option.bind_eq_some_iff.mp h
  obtain ⟨⟨fs_e20, s_e20⟩, e20⟩ := xcl_spec e20
  refine V.cVv C (c_Nu_empty e20) ml_PF_132 s_e20 rfl rfl (by decide) (Nat.le_of_ble_eq_true rfl) d_PF_clear_33 ?_
  refine V.aload_n C 0 rfl rfl d_PF_clear_36 ?_
  obtain ⟨q21, e22, h⟩ := Option.bind_eq_some_iff.mp h
  refine V.xgetR C fl_PF_51 e22 d_PF_clear_37 ?_
  obtain ⟨F23, e24, h⟩ := Option.bind_eq_some_iff.mp h
  obtain ⟨⟨fs_e24, s_e24⟩, e24⟩ := xcl_spec e24
  refine V.cVv C (c_Sc_forget e24) ml_PF_236 s_e24 rfl rfl (by decide) (Nat.le_of_ble_eq_true rfl) d_PF_clear_40 ?_
  obtain rfl := Option.some.inj h
  exact V.vret C hr d_PF_clear_43 rfl rfl rfl
