def f_Re_restart (S : List xO) (a : Nat) (F : xF) : Option xF :=
  (gI S 4 a 1 F).bind fun v1 =>
  (pI S 4 a 6 v1 F).bind fun F3 =>
  (gR S 4 a 2).bind fun q5 =>
  (xcl S 1 q5 (f_Wi_restart S q5 F3)).bind fun F7 =>
  some F7
set_option maxHeartbeats 4000000 in
set_option maxRecDepth 100000 in
theorem c_Re_restart {l : Launch} {g : xG} {S : List xO} {G : xL} {a : Nat} {F : xF} {F2 : xF} (h : f_Re_restart S a F = some F2) : CT l g 1 20 0 0 y_Re_restart b_Re_restart 1 none 1 [.ref a] S F G none S F2 G := by
  refine CT.of [some (.ref a)] (by decide) (Nat.le_of_ble_eq_true rfl) rfl ?_
  intro p e s m args below meth c C hr hmn hz
  unfold f_Re_restart at h
  refine V.aload_n C 0 rfl rfl d_Re_restart_0 ?_
  refine V.aload_n C 0 rfl rfl d_Re_restart_1 ?_
  obtain ⟨v1, e2, h⟩ := Option.bind_eq_some_iff.mp h
  refine V.xgetI C fl_Re_31 e2 d_Re_restart_2 ?_
  obtain ⟨F3, e4, h⟩ := Option.bind_eq_some_iff.mp h
  refine V.xputI C fl_Re_41 ft_4 fi_4_6 e4 d_Re_restart_5 ?_
  refine V.aload_n C 0 rfl rfl d_Re_restart_8 ?_
  obtain ⟨q5, e6, h⟩ := Option.bind_eq_some_iff.mp h
  refine V.xgetR C fl_Re_37 e6 d_Re_restart_9 ?_
  obtain ⟨F7, e8, h⟩ := Option.bind_eq_some_iff.mp h
  obtain ⟨⟨fs_e8, s_e8⟩, e8⟩ := xcl_spec e8
  refine V.cVv C (c_Wi_restart e8) ml_Re_65 s_e8 rfl rfl (by decide) (Nat.le_of_ble_eq_true rfl) d_Re_restart_12 ?_
  obtain rfl := Option.some.inj h
  exact V.vret C hr d_Re_restart_15 rfl rfl rfl
def f_Re_codeFrom (S : List xO) (a : Nat) (p0 : Nat) (p1 : Int32) (F : xF) : Option Int32 :=
  (xcl S 0 p0 (f_Nu_get S p0 (p1 >>> ((3 : Int32) &&& 31)) F)).bind fun v1 =>
  (f_Nu_has S p0 ((p1 >>> ((3 : Int32) &&& 31)) + (1 : Int32)) F).bind fun v3 =>
  if v3 = (0 : Int32) then
    (f_Nu_has S p0 ((p1 >>> ((3 : Int32) &&& 31)) + (2 : Int32)) F).bind fun v6 =>
    if v6 = (0 : Int32) then
      (gR S 4 a 2).bind fun q9 =>
      (gI S 1 q9 2 F).bind fun v11 =>
      some ((v1 >>> ((p1 &&& (7 : Int32)) &&& 31)) &&& (((1 : Int32) <<< (v11 &&& 31)) - (1 : Int32)))
    else
    (f_Nu_get S p0 ((p1 >>> ((3 : Int32) &&& 31)) + (2 : Int32)) F).bind fun v13 =>
    (gR S 4 a 2).bind fun q15 =>
    (gI S 1 q15 2 F).bind fun v17 =>
    some (((v1 ||| (v13 <<< ((16 : Int32) &&& 31))) >>> ((p1 &&& (7 : Int32)) &&& 31)) &&& (((1 : Int32) <<< (v17 &&& 31)) - (1 : Int32)))
  else
  (f_Nu_get S p0 ((p1 >>> ((3 : Int32) &&& 31)) + (1 : Int32)) F).bind fun v19 =>
  (f_Nu_has S p0 ((p1 >>> ((3 : Int32) &&& 31)) + (2 : Int32)) F).bind fun v21 =>
  if v21 = (0 : Int32) then
    (gR S 4 a 2).bind fun q24 =>
    (gI S 1 q24 2 F).bind fun v26 =>
    some (((v1 ||| (v19 <<< ((8 : Int32) &&& 31))) >>> ((p1 &&& (7 : Int32)) &&& 31)) &&& (((1 : Int32) <<< (v26 &&& 31)) - (1 : Int32)))
  else
  (f_Nu_get S p0 ((p1 >>> ((3 : Int32) &&& 31)) + (2 : Int32)) F).bind fun v28 =>
  (gR S 4 a 2).bind fun q30 =>
  (gI S 1 q30 2 F).bind fun v32 =>
  some ((((v1 ||| (v19 <<< ((8 : Int32) &&& 31))) ||| (v28 <<< ((16 : Int32) &&& 31))) >>> ((p1 &&& (7 : Int32)) &&& 31)) &&& (((1 : Int32) <<< (v32 &&& 31)) - (1 : Int32)))
set_option maxHeartbeats 4000000 in
set_option maxRecDepth 100000 in
theorem c_Re_codeFrom {l : Launch} {g : xG} {S : List xO} {G : xL} {a : Nat} {p0 : Nat} {p1 : Int32} {F : xF} {r : Int32} (h : f_Re_codeFrom S a p0 p1 F = some r) : CT l g 2 42 0 0 y_Re_codeFrom b_Re_codeFrom 5 (some .int) 1 [.ref a, .ref p0, .int p1] S F G (some (.int r)) S F G := by
  refine CT.of [some (.ref a), some (.ref p0), some (.int p1), none, none] (by decide) (Nat.le_of_ble_eq_true rfl) rfl ?_
  intro p e s m args below meth c C hr hmn hz
  unfold f_Re_codeFrom at h
  refine V.iload_n C 2 rfl rfl d_Re_codeFrom_0 ?_
  refine V.iconst C 3 (by decide) d_Re_codeFrom_1 ?_
  refine V.ishr C d_Re_codeFrom_2 ?_
  refine V.is3 C (by decide) rfl d_Re_codeFrom_3 ?_
  refine V.aload_n C 1 rfl rfl d_Re_codeFrom_4 ?_
  refine V.iload_n C 3 rfl rfl d_Re_codeFrom_5 ?_
  obtain ⟨v1, e2, h⟩ := Option.bind_eq_some_iff.mp h
  obtain ⟨⟨fs_e2, s_e2⟩, e2⟩ := xcl_spec e2
  refine V.cVr C (c_Nu_get e2) ml_Re_66 s_e2 rfl rfl (by decide) (Nat.le_of_ble_eq_true rfl) d_Re_codeFrom_6 ?_
  refine V.is4 C (by decide) rfl d_Re_codeFrom_9 ?_
  refine V.aload_n C 1 rfl rfl d_Re_codeFrom_11 ?_
  refine V.iload_n C 3 rfl rfl d_Re_codeFrom_12 ?_
  refine V.iconst C 1 (by decide) d_Re_codeFrom_13 ?_
  refine V.iadd C d_Re_codeFrom_14 ?_
  obtain ⟨v3, e4, h⟩ := Option.bind_eq_some_iff.mp h
  refine V.cVr C (c_Nu_has e4) ml_Re_70 s_e2 rfl rfl (by decide) (Nat.le_of_ble_eq_true rfl) d_Re_codeFrom_15 ?_
  refine V.if_eq C 36 (by decide) d_Re_codeFrom_18 (fun c5 => ?_) (fun c5 => ?_)
  · rw [if_pos c5] at h
    refine V.aload_n C 1 rfl rfl d_Re_codeFrom_36 ?_
    refine V.iload_n C 3 rfl rfl d_Re_codeFrom_37 ?_
    refine V.iconst C 2 (by decide) d_Re_codeFrom_38 ?_
    refine V.iadd C d_Re_codeFrom_39 ?_
    obtain ⟨v6, e7, h⟩ := Option.bind_eq_some_iff.mp h
    refine V.cVr C (c_Nu_has e7) ml_Re_70 s_e2 rfl rfl (by decide) (Nat.le_of_ble_eq_true rfl) d_Re_codeFrom_40 ?_
    refine V.if_eq C 61 (by decide) d_Re_codeFrom_43 (fun c8 => ?_) (fun c8 => ?_)
    · rw [if_pos c8] at h
      refine V.iload C rfl d_Re_codeFrom_61 ?_
      refine V.iload_n C 2 rfl rfl d_Re_codeFrom_63 ?_
      refine V.bipush C 7 (by decide) d_Re_codeFrom_64 ?_
      refine V.iand C d_Re_codeFrom_66 ?_
      refine V.ishr C d_Re_codeFrom_67 ?_
      refine V.iconst C 1 (by decide) d_Re_codeFrom_68 ?_
      refine V.aload_n C 0 rfl rfl d_Re_codeFrom_69 ?_
      obtain ⟨q9, e10, h⟩ := Option.bind_eq_some_iff.mp h
      refine V.xgetR C fl_Re_37 e10 d_Re_codeFrom_70 ?_
      obtain ⟨v11, e12, h⟩ := Option.bind_eq_some_iff.mp h
      refine V.xgetI C fl_Re_54 e12 d_Re_codeFrom_73 ?_
      refine V.ishl C d_Re_codeFrom_76 ?_
      refine V.iconst C 1 (by decide) d_Re_codeFrom_77 ?_
      refine V.isub C d_Re_codeFrom_78 ?_
      refine V.iand C d_Re_codeFrom_79 ?_
      obtain rfl := Option.some.inj h
      exact V.iret C hr d_Re_codeFrom_80 rfl rfl rfl rfl
    · rw [if_neg c8] at h
      refine V.iload C rfl d_Re_codeFrom_46 ?_
      refine V.aload_n C 1 rfl rfl d_Re_codeFrom_48 ?_
      refine V.iload_n C 3 rfl rfl d_Re_codeFrom_49 ?_
      refine V.iconst C 2 (by decide) d_Re_codeFrom_50 ?_
      refine V.iadd C d_Re_codeFrom_51 ?_
      obtain ⟨v13, e14, h⟩ := Option.bind_eq_some_iff.mp h
      refine V.cVr C (c_Nu_get e14) ml_Re_66 s_e2 rfl rfl (by decide) (Nat.le_of_ble_eq_true rfl) d_Re_codeFrom_52 ?_
      refine V.bipush C 16 (by decide) d_Re_codeFrom_55 ?_
      refine V.ishl C d_Re_codeFrom_57 ?_
      refine V.ior C d_Re_codeFrom_58 ?_
      refine V.is4 C (by decide) rfl d_Re_codeFrom_59 ?_
      refine V.iload C rfl d_Re_codeFrom_61 ?_
      refine V.iload_n C 2 rfl rfl d_Re_codeFrom_63 ?_
      refine V.bipush C 7 (by decide) d_Re_codeFrom_64 ?_
      refine V.iand C d_Re_codeFrom_66 ?_
      refine V.ishr C d_Re_codeFrom_67 ?_
      refine V.iconst C 1 (by decide) d_Re_codeFrom_68 ?_
      refine V.aload_n C 0 rfl rfl d_Re_codeFrom_69 ?_
      obtain ⟨q15, e16, h⟩ := Option.bind_eq_some_iff.mp h
      refine V.xgetR C fl_Re_37 e16 d_Re_codeFrom_70 ?_
      obtain ⟨v17, e18, h⟩ := Option.bind_eq_some_iff.mp h
      refine V.xgetI C fl_Re_54 e18 d_Re_codeFrom_73 ?_
      refine V.ishl C d_Re_codeFrom_76 ?_
      refine V.iconst C 1 (by decide) d_Re_codeFrom_77 ?_
      refine V.isub C d_Re_codeFrom_78 ?_
      refine V.iand C d_Re_codeFrom_79 ?_
      obtain rfl := Option.some.inj h
      exact V.iret C hr d_Re_codeFrom_80 rfl rfl rfl rfl
  · rw [if_neg c5] at h
    refine V.iload C rfl d_Re_codeFrom_21 ?_
    refine V.aload_n C 1 rfl rfl d_Re_codeFrom_23 ?_
    refine V.iload_n C 3 rfl rfl d_Re_codeFrom_24 ?_
    refine V.iconst C 1 (by decide) d_Re_codeFrom_25 ?_
    refine V.iadd C d_Re_codeFrom_26 ?_
    obtain ⟨v19, e20, h⟩ := Option.bind_eq_some_iff.mp h
    refine V.cVr C (c_Nu_get e20) ml_Re_66 s_e2 rfl rfl (by decide) (Nat.le_of_ble_eq_true rfl) d_Re_codeFrom_27 ?_
    refine V.bipush C 8 (by decide) d_Re_codeFrom_30 ?_
    refine V.ishl C d_Re_codeFrom_32 ?_
    refine V.ior C d_Re_codeFrom_33 ?_
    refine V.is4 C (by decide) rfl d_Re_codeFrom_34 ?_
    refine V.aload_n C 1 rfl rfl d_Re_codeFrom_36 ?_
    refine V.iload_n C 3 rfl rfl d_Re_codeFrom_37 ?_
    refine V.iconst C 2 (by decide) d_Re_codeFrom_38 ?_
    refine V.iadd C d_Re_codeFrom_39 ?_
    obtain ⟨v21, e22, h⟩ := Option.bind_eq_some_iff.mp h
    refine V.cVr C (c_Nu_has e22) ml_Re_70 s_e2 rfl rfl (by decide) (Nat.le_of_ble_eq_true rfl) d_Re_codeFrom_40 ?_
    refine V.if_eq C 61 (by decide) d_Re_codeFrom_43 (fun c23 => ?_) (fun c23 => ?_)
    · rw [if_pos c23] at h
      refine V.iload C rfl d_Re_codeFrom_61 ?_
      refine V.iload_n C 2 rfl rfl d_Re_codeFrom_63 ?_
      refine V.bipush C 7 (by decide) d_Re_codeFrom_64 ?_
      refine V.iand C d_Re_codeFrom_66 ?_
      refine V.ishr C d_Re_codeFrom_67 ?_
      refine V.iconst C 1 (by decide) d_Re_codeFrom_68 ?_
      refine V.aload_n C 0 rfl rfl d_Re_codeFrom_69 ?_
      obtain ⟨q24, e25, h⟩ := Option.bind_eq_some_iff.mp h
      refine V.xgetR C fl_Re_37 e25 d_Re_codeFrom_70 ?_
      obtain ⟨v26, e27, h⟩ := Option.bind_eq_some_iff.mp h
      refine V.xgetI C fl_Re_54 e27 d_Re_codeFrom_73 ?_
      refine V.ishl C d_Re_codeFrom_76 ?_
      refine V.iconst C 1 (by decide) d_Re_codeFrom_77 ?_
      refine V.isub C d_Re_codeFrom_78 ?_
      refine V.iand C d_Re_codeFrom_79 ?_
      obtain rfl := Option.some.inj h
      exact V.iret C hr d_Re_codeFrom_80 rfl rfl rfl rfl
    · rw [if_neg c23] at h
      refine V.iload C rfl d_Re_codeFrom_46 ?_
      refine V.aload_n C 1 rfl rfl d_Re_codeFrom_48 ?_
      refine V.iload_n C 3 rfl rfl d_Re_codeFrom_49 ?_
      refine V.iconst C 2 (by decide) d_Re_codeFrom_50 ?_
      refine V.iadd C d_Re_codeFrom_51 ?_
      obtain ⟨v28, e29, h⟩ := Option.bind_eq_some_iff.mp h
      refine V.cVr C (c_Nu_get e29) ml_Re_66 s_e2 rfl rfl (by decide) (Nat.le_of_ble_eq_true rfl) d_Re_codeFrom_52 ?_
      refine V.bipush C 16 (by decide) d_Re_codeFrom_55 ?_
      refine V.ishl C d_Re_codeFrom_57 ?_
      refine V.ior C d_Re_codeFrom_58 ?_
      refine V.is4 C (by decide) rfl d_Re_codeFrom_59 ?_
      refine V.iload C rfl d_Re_codeFrom_61 ?_
      refine V.iload_n C 2 rfl rfl d_Re_codeFrom_63 ?_
      refine V.bipush C 7 (by decide) d_Re_codeFrom_64 ?_
      refine V.iand C d_Re_codeFrom_66 ?_
      refine V.ishr C d_Re_codeFrom_67 ?_
      refine V.iconst C 1 (by decide) d_Re_codeFrom_68 ?_
      refine V.aload_n C 0 rfl rfl d_Re_codeFrom_69 ?_
      obtain ⟨q30, e31, h⟩ := Option.bind_eq_some_iff.mp h
      refine V.xgetR C fl_Re_37 e31 d_Re_codeFrom_70 ?_
      obtain ⟨v32, e33, h⟩ := Option.bind_eq_some_iff.mp h
      refine V.xgetI C fl_Re_54 e33 d_Re_codeFrom_73 ?_
      refine V.ishl C d_Re_codeFrom_76 ?_
      refine V.iconst C 1 (by decide) d_Re_codeFrom_77 ?_
      refine V.isub C d_Re_codeFrom_78 ?_
      refine V.iand C d_Re_codeFrom_79 ?_
      obtain rfl := Option.some.inj h
      exact V.iret C hr d_Re_codeFrom_80 rfl rfl rfl rfl
def f_Re_addEntry (S : List xO) (a : Nat) (p0 : Int32) (p1 : Int32) (F : xF) : Option xF :=
  (gI S 4 a 6 F).bind fun v1 =>
  if (4095 : Int32) ≤ v1 then
    some F
  else
  (gI S 4 a 6 F).bind fun v4 =>
  (pI S 4 a 6 (v4 + (1 : Int32)) F).bind fun F6 =>
  (gR S 4 a 4).bind fun q8 =>
  (gI S 4 a 6 F6).bind fun v10 =>
  (aP S q8 v10 p0 F6).bind fun F12 =>
  (gR S 4 a 5).bind fun q14 =>
  (gI S 4 a 6 F12).bind fun v16 =>
  (aP S q14 v16 p1 F12).bind fun F18 =>
  some F18
set_option maxHeartbeats 4000000 in
set_option maxRecDepth 100000 in
theorem c_Re_addEntry {l : Launch} {g : xG} {S : List xO} {G : xL} {a : Nat} {p0 : Int32} {p1 : Int32} {F : xF} {F2 : xF} (h : f_Re_addEntry S a p0 p1 F = some F2) : CT l g 0 0 0 0 y_Re_addEntry b_Re_addEntry 3 none 1 [.ref a, .int p0, .int p1] S F G none S F2 G := by
  refine CT.of [some (.ref a), some (.int p0), some (.int p1)] (by decide) (Nat.le_of_ble_eq_true rfl) rfl ?_
  intro p e s m args below meth c C hr hmn hz
  unfold f_Re_addEntry at h
  refine V.aload_n C 0 rfl rfl d_Re_addEntry_0 ?_
  obtain ⟨v1, e2, h⟩ := Option.bind_eq_some_iff.mp h
  refine V.xgetI C fl_Re_41 e2 d_Re_addEntry_1 ?_
  refine V.sipush C 4095 (by decide) d_Re_addEntry_4 ?_
  refine V.icmp_ge C 40 (by decide) d_Re_addEntry_7 (fun c3 => ?_) (fun c3 => ?_)
  · rw [if_pos c3] at h
    obtain rfl := Option.some.inj h
    exact V.vret C hr d_Re_addEntry_40 rfl rfl rfl
  · rw [if_neg c3] at h
    refine V.aload_n C 0 rfl rfl d_Re_addEntry_10 ?_
    refine V.dup C rfl d_Re_addEntry_11 ?_
    obtain ⟨v4, e5, h⟩ := Option.bind_eq_some_iff.mp h
    refine V.xgetI C fl_Re_41 e5 d_Re_addEntry_12 ?_
    refine V.iconst C 1 (by decide) d_Re_addEntry_15 ?_
    refine V.iadd C d_Re_addEntry_16 ?_
    obtain ⟨F6, e7, h⟩ := Option.bind_eq_some_iff.mp h
    refine V.xputI C fl_Re_41 ft_4 fi_4_6 e7 d_Re_addEntry_17 ?_
    refine V.aload_n C 0 rfl rfl d_Re_addEntry_20 ?_
    obtain ⟨q8, e9, h⟩ := Option.bind_eq_some_iff.mp h
    refine V.xgetR C fl_Re_20 e9 d_Re_addEntry_21 ?_
    refine V.aload_n C 0 rfl rfl d_Re_addEntry_24 ?_
    obtain ⟨v10, e11, h⟩ := Option.bind_eq_some_iff.mp h
    refine V.xgetI C fl_Re_41 e11 d_Re_addEntry_25 ?_
    refine V.iload_n C 1 rfl rfl d_Re_addEntry_28 ?_
    obtain ⟨F12, e13, h⟩ := Option.bind_eq_some_iff.mp h
    refine V.xiast C e13 d_Re_addEntry_29 ?_
    refine V.aload_n C 0 rfl rfl d_Re_addEntry_30 ?_
    obtain ⟨q14, e15, h⟩ := Option.bind_eq_some_iff.mp h
    refine V.xgetR C fl_Re_24 e15 d_Re_addEntry_31 ?_
    refine V.aload_n C 0 rfl rfl d_Re_addEntry_34 ?_
    obtain ⟨v16, e17, h⟩ := Option.bind_eq_some_iff.mp h
    refine V.xgetI C fl_Re_41 e17 d_Re_addEntry_35 ?_
    refine V.iload_n C 2 rfl rfl d_Re_addEntry_38 ?_
    obtain ⟨F18, e19, h⟩ := Option.bind_eq_some_iff.mp h
    refine V.xiast C e19 d_Re_addEntry_39 ?_
    obtain rfl := Option.some.inj h
    exact V.vret C hr d_Re_addEntry_40 rfl rfl rfl
def t_Re_copyString (S : List xO) (N : Nat) (a : Nat) (p0 : Int32) : Nat → Int32 → Int32 → Int32 → Int32 → xF → Option (Int32 × xF)
  | 0, _, _, _, _, _ => none
  | n + 1, u2, u3, u4, u5, F =>
    if u3 ≤ u5 then
      (gR S 4 a 2).bind fun q79 =>
      (xcl S 1 q79 (f_Wi_behindEntry S q79 F)).bind fun F81 =>
      (xcl S 4 a (f_Re_addEntry S a u4 (u3 + (1 : Int32)) F81)).bind fun F83 =>
      some ((1 : Int32), F83)
    else
    (gR S 4 a 3).bind fun q85 =>
    (gR S 4 a 4).bind fun q87 =>
    (aG S q87 p0 F).bind fun v89 =>
    (xcl S 0 q85 (f_Nu_get S q85 (v89 + u5) F)).bind fun v91 =>
    (f_Nu_add S q85 v91 F).bind fun F93 =>
    t_Re_copyString S N a p0 n u2 u3 u4 (u5 + (1 : Int32)) F93
set_option maxHeartbeats 4000000 in
set_option maxRecDepth 100000 in
theorem l_Re_copyString {p : Program} {l : Launch} {e : Env} {s : State} {m : MethodId} {args : Array Value} {below : List Frame} {meth : Method} {c : Code} {g : xG} {S : List xO} {G : xL} {a : Nat} {p0 : Int32} {N : Nat} (C : Cx p s m args meth c b_Re_copyString 6 "PaletteFrames$Reader" g) (hr : meth.sig.returnType = (some .boolean)) : ∀ (n : Nat), (∀ (u2 : Int32) (u3 : Int32) (u4 : Int32) (u5 : Int32) (F : xF) (r : Int32) (F2 : xF), t_Re_copyString S N a p0 n u2 u3 u4 u5 F = some (r, F2) → V p l e (xRm 2 42 0 0) s m args below meth c (xMQ g below args s 0 0 S F2 G (some (.int r))) 6 g S F G 0 0 69 [some (.ref a), some (.int p0), some (.int u2), some (.int u3), some (.int u4), some (.int u5)] []) := by
  intro n
  induction n with
  | zero =>
    intro u2 u3 u4 u5 F r F2 h
    cases h
  | succ n ih =>
    intro u2 u3 u4 u5 F r F2 h
    rw [t_Re_copyString] at h
    refine V.iload C rfl d_Re_copyString_69 ?_
    refine V.iload_n C 3 rfl rfl d_Re_copyString_71 ?_
    refine V.icmp_ge C 104 (by decide) d_Re_copyString_72 (fun c78 => ?_) (fun c78 => ?_)
    · rw [if_pos c78] at h
      refine V.aload_n C 0 rfl rfl d_Re_copyString_104 ?_
      obtain ⟨q79, e80, h⟩ := Option.bind_eq_some_iff.mp h
      refine V.xgetR C fl_Re_37 e80 d_Re_copyString_105 ?_
      obtain ⟨F81, e82, h⟩ := Option.bind_eq_some_iff.mp h
      obtain ⟨⟨fs_e82, s_e82⟩, e82⟩ := xcl_spec e82
      refine V.cVv C (c_Wi_behindEntry e82) ml_Re_80 s_e82 rfl rfl (by decide) (Nat.le_of_ble_eq_true rfl) d_Re_copyString_108 ?_
      refine V.aload_n C 0 rfl rfl d_Re_copyString_111 ?_
      refine V.iload C rfl d_Re_copyString_112 ?_
      refine V.iload_n C 3 rfl rfl d_Re_copyString_114 ?_
      refine V.iconst C 1 (by decide) d_Re_copyString_115 ?_
      refine V.iadd C d_Re_copyString_116 ?_
      obtain ⟨F83, e84, h⟩ := Option.bind_eq_some_iff.mp h
      obtain ⟨⟨fs_e84, s_e84⟩, e84⟩ := xcl_spec e84
      refine V.cVv C (c_Re_addEntry e84) ml_Re_83 s_e84 rfl rfl (by decide) (Nat.le_of_ble_eq_true rfl) d_Re_copyString_117 ?_
      refine V.iconst C 1 (by decide) d_Re_copyString_120 ?_
      obtain ⟨rfl, rfl⟩ := Prod.mk.inj (Option.some.inj h)
      exact V.zret C hr (by first | rfl | exact xz_narrow (by assumption)) d_Re_copyString_121 rfl rfl rfl rfl
    · rw [if_neg c78] at h
      refine V.aload_n C 0 rfl rfl d_Re_copyString_75 ?_
      obtain ⟨q85, e86, h⟩ := Option.bind_eq_some_iff.mp h
      refine V.xgetR C fl_Re_14 e86 d_Re_copyString_76 ?_
      refine V.aload_n C 0 rfl rfl d_Re_copyString_79 ?_
      refine V.xgetR C fl_Re_14 e86 d_Re_copyString_80 ?_
      refine V.aload_n C 0 rfl rfl d_Re_copyString_83 ?_
      obtain ⟨q87, e88, h⟩ := Option.bind_eq_some_iff.mp h
      refine V.xgetR C fl_Re_20 e88 d_Re_copyString_84 ?_
      refine V.iload_n C 1 rfl rfl d_Re_copyString_87 ?_
      obtain ⟨v89, e90, h⟩ := Option.bind_eq_some_iff.mp h
      refine V.xiald C e90 d_Re_copyString_88 ?_
      refine V.iload C rfl d_Re_copyString_89 ?_
      refine V.iadd C d_Re_copyString_91 ?_
      obtain ⟨v91, e92, h⟩ := Option.bind_eq_some_iff.mp h
      obtain ⟨⟨fs_e92, s_e92⟩, e92⟩ := xcl_spec e92
      refine V.cVr C (c_Nu_get e92) ml_Re_66 s_e92 rfl rfl (by decide) (Nat.le_of_ble_eq_true rfl) d_Re_copyString_92 ?_
      obtain ⟨F93, e94, h⟩ := Option.bind_eq_some_iff.mp h
      refine V.cVv C (c_Nu_add e94) ml_Re_77 s_e92 rfl rfl (by decide) (Nat.le_of_ble_eq_true rfl) d_Re_copyString_95 ?_
      refine V.inc5 C 1 (by decide) (by decide) rfl d_Re_copyString_98 ?_
      refine V.goto C 69 (by decide) d_Re_copyString_101 ?_
      exact V.weak (xsub_spec (by simp [xsub])) (ih u2 u3 u4 (u5 + (1 : Int32)) F93 _ _ h)
def f_Re_copyString (S : List xO) (N : Nat) (a : Nat) (p0 : Int32) (F : xF) : Option (Int32 × xF) :=
  (gI S 4 a 0 F).bind fun v1 =>
  if v1 ≤ p0 then
    if (0 : Int32) = (0 : Int32) then
      (gR S 4 a 5).bind fun q5 =>
      (aG S q5 p0 F).bind fun v7 =>
      (gR S 4 a 3).bind fun q9 =>
      (xcl S 0 q9 (f_Nu_room S q9 F)).bind fun v11 =>
      if v7 ≤ v11 then
        (gI S 0 q9 1 F).bind fun v14 =>
        if (0 : Int32) = (0 : Int32) then
          t_Re_copyString S N a p0 N (0 : Int32) v7 v14 (0 : Int32) F
        else
        (f_Nu_add S q9 p0 F).bind fun F17 =>
        (gR S 4 a 2).bind fun q19 =>
        (xcl S 1 q19 (f_Wi_behindEntry S q19 F17)).bind fun F21 =>
        (xcl S 4 a (f_Re_addEntry S a v14 (v7 + (1 : Int32)) F21)).bind fun F23 =>
        some ((1 : Int32), F23)
      else
      some ((0 : Int32), F)
    else
    (gR S 4 a 3).bind fun q25 =>
    (xcl S 0 q25 (f_Nu_room S q25 F)).bind fun v27 =>
    if (1 : Int32) ≤ v27 then
      (gI S 0 q25 1 F).bind fun v30 =>
      if (0 : Int32) = (0 : Int32) then
        t_Re_copyString S N a p0 N (0 : Int32) (1 : Int32) v30 (0 : Int32) F
      else
      (f_Nu_add S q25 p0 F).bind fun F33 =>
      (gR S 4 a 2).bind fun q35 =>
      (xcl S 1 q35 (f_Wi_behindEntry S q35 F33)).bind fun F37 =>
      (xcl S 4 a (f_Re_addEntry S a v30 ((1 : Int32) + (1 : Int32)) F37)).bind fun F39 =>
      some ((1 : Int32), F39)
    else
    some ((0 : Int32), F)
  else
  if (1 : Int32) = (0 : Int32) then
    (gR S 4 a 5).bind fun q42 =>
    (aG S q42 p0 F).bind fun v44 =>
    (gR S 4 a 3).bind fun q46 =>
    (xcl S 0 q46 (f_Nu_room S q46 F)).bind fun v48 =>
    if v44 ≤ v48 then
      (gI S 0 q46 1 F).bind fun v51 =>
      if (1 : Int32) = (0 : Int32) then
        t_Re_copyString S N a p0 N (1 : Int32) v44 v51 (0 : Int32) F
      else
      (f_Nu_add S q46 p0 F).bind fun F54 =>
      (gR S 4 a 2).bind fun q56 =>
      (xcl S 1 q56 (f_Wi_behindEntry S q56 F54)).bind fun F58 =>
      (xcl S 4 a (f_Re_addEntry S a v51 (v44 + (1 : Int32)) F58)).bind fun F60 =>
      some ((1 : Int32), F60)
    else
    some ((0 : Int32), F)
  else
  (gR S 4 a 3).bind fun q62 =>
  (xcl S 0 q62 (f_Nu_room S q62 F)).bind fun v64 =>
  if (1 : Int32) ≤ v64 then
    (gI S 0 q62 1 F).bind fun v67 =>
    if (1 : Int32) = (0 : Int32) then
      t_Re_copyString S N a p0 N (1 : Int32) (1 : Int32) v67 (0 : Int32) F
    else
    (f_Nu_add S q62 p0 F).bind fun F70 =>
    (gR S 4 a 2).bind fun q72 =>
    (xcl S 1 q72 (f_Wi_behindEntry S q72 F70)).bind fun F74 =>
    (xcl S 4 a (f_Re_addEntry S a v67 ((1 : Int32) + (1 : Int32)) F74)).bind fun F76 =>
    some ((1 : Int32), F76)
  else
  some ((0 : Int32), F)
set_option maxHeartbeats 4000000 in
set_option maxRecDepth 100000 in
theorem c_Re_copyString {l : Launch} {g : xG} {S : List xO} {G : xL} {a : Nat} {p0 : Int32} {N : Nat} {F : xF} {r : Int32} {F2 : xF} (h : f_Re_copyString S N a p0 F = some (r, F2)) : CT l g 2 42 0 0 y_Re_copyString b_Re_copyString 6 (some .boolean) 1 [.ref a, .int p0] S F G (some (.int r)) S F2 G := by
  refine CT.of [some (.ref a), some (.int p0), none, none, none, none] (by decide) (Nat.le_of_ble_eq_true rfl) rfl ?_
  intro p e s m args below meth c C hr hmn hz
  unfold f_Re_copyString at h
  refine V.iload_n C 1 rfl rfl d_Re_copyString_0 ?_
  refine V.aload_n C 0 rfl rfl d_Re_copyString_1 ?_
  obtain ⟨v1, e2, h⟩ := Option.bind_eq_some_iff.mp h
  refine V.xgetI C fl_Re_27 e2 d_Re_copyString_2 ?_
  refine V.icmp_ge C 12 (by decide) d_Re_copyString_5 (fun c3 => ?_) (fun c3 => ?_)
  · rw [if_pos c3] at h
    refine V.iconst C 0 (by decide) d_Re_copyString_12 ?_
    refine V.is2 C (by decide) rfl d_Re_copyString_13 ?_
    refine V.iload_n C 2 rfl rfl d_Re_copyString_14 ?_
    refine V.if_eq C 22 (by decide) d_Re_copyString_15 (fun c4 => ?_) (fun c4 => ?_)
    · rw [if_pos c4] at h
      refine V.aload_n C 0 rfl rfl d_Re_copyString_22 ?_
      obtain ⟨q5, e6, h⟩ := Option.bind_eq_some_iff.mp h
      refine V.xgetR C fl_Re_24 e6 d_Re_copyString_23 ?_
      refine V.iload_n C 1 rfl rfl d_Re_copyString_26 ?_
      obtain ⟨v7, e8, h⟩ := Option.bind_eq_some_iff.mp h
      refine V.xiald C e8 d_Re_copyString_27 ?_
      refine V.is3 C (by decide) rfl d_Re_copyString_28 ?_
      refine V.iload_n C 3 rfl rfl d_Re_copyString_29 ?_
      refine V.aload_n C 0 rfl rfl d_Re_copyString_30 ?_
      obtain ⟨q9, e10, h⟩ := Option.bind_eq_some_iff.mp h
      refine V.xgetR C fl_Re_14 e10 d_Re_copyString_31 ?_
      obtain ⟨v11, e12, h⟩ := Option.bind_eq_some_iff.mp h
      obtain ⟨⟨fs_e12, s_e12⟩, e12⟩ := xcl_spec e12
      refine V.cVr C (c_Nu_room e12) ml_Re_73 s_e12 rfl rfl (by decide) (Nat.le_of_ble_eq_true rfl) d_Re_copyString_34 ?_
      refine V.icmp_le C 42 (by decide) d_Re_copyString_37 (fun c13 => ?_) (fun c13 => ?_)
      · rw [if_pos c13] at h
        refine V.aload_n C 0 rfl rfl d_Re_copyString_42 ?_
        refine V.xgetR C fl_Re_14 e10 d_Re_copyString_43 ?_
        obtain ⟨v14, e15, h⟩ := Option.bind_eq_some_iff.mp h
        refine V.xgetI C fl_Re_50 e15 d_Re_copyString_46 ?_
        refine V.is4 C (by decide) rfl d_Re_copyString_49 ?_
        refine V.iload_n C 2 rfl rfl d_Re_copyString_51 ?_
        refine V.if_eq C 66 (by decide) d_Re_copyString_52 (fun c16 => ?_) (fun c16 => ?_)
        · rw [if_pos c16] at h
          refine V.iconst C 0 (by decide) d_Re_copyString_66 ?_
          refine V.is5 C (by decide) rfl d_Re_copyString_67 ?_
          exact V.weak (xsub_spec (by simp [xsub])) ((l_Re_copyString C hr N) (0 : Int32) v7 v14 (0 : Int32) F _ _ h)
        · rw [if_neg c16] at h
          refine V.aload_n C 0 rfl rfl d_Re_copyString_55 ?_
          refine V.xgetR C fl_Re_14 e10 d_Re_copyString_56 ?_
          refine V.iload_n C 1 rfl rfl d_Re_copyString_59 ?_
          obtain ⟨F17, e18, h⟩ := Option.bind_eq_some_iff.mp h
          refine V.cVv C (c_Nu_add e18) ml_Re_77 s_e12 rfl rfl (by decide) (Nat.le_of_ble_eq_true rfl) d_Re_copyString_60 ?_
          refine V.goto C 104 (by decide) d_Re_copyString_63 ?_
          refine V.aload_n C 0 rfl rfl d_Re_copyString_104 ?_
          obtain ⟨q19, e20, h⟩ := Option.bind_eq_some_iff.mp h
          refine V.xgetR C fl_Re_37 e20 d_Re_copyString_105 ?_
          obtain ⟨F21, e22, h⟩ := Option.bind_eq_some_iff.mp h
          obtain ⟨⟨fs_e22, s_e22⟩, e22⟩ := xcl_spec e22
          refine V.cVv C (c_Wi_behindEntry e22) ml_Re_80 s_e22 rfl rfl (by decide) (Nat.le_of_ble_eq_true rfl) d_Re_copyString_108 ?_
          refine V.aload_n C 0 rfl rfl d_Re_copyString_111 ?_
          refine V.iload C rfl d_Re_copyString_112 ?_
          refine V.iload_n C 3 rfl rfl d_Re_copyString_114 ?_
          refine V.iconst C 1 (by decide) d_Re_copyString_115 ?_
          refine V.iadd C d_Re_copyString_116 ?_
          obtain ⟨F23, e24, h⟩ := Option.bind_eq_some_iff.mp h
          obtain ⟨⟨fs_e24, s_e24⟩, e24⟩ := xcl_spec e24
          refine V.cVv C (c_Re_addEntry e24) ml_Re_83 s_e24 rfl rfl (by decide) (Nat.le_of_ble_eq_true rfl) d_Re_copyString_117 ?_
          refine V.iconst C 1 (by decide) d_Re_copyString_120 ?_
          obtain ⟨rfl, rfl⟩ := Prod.mk.inj (Option.some.inj h)
          exact V.zret C hr (by first | rfl | exact xz_narrow (by assumption)) d_Re_copyString_121 rfl rfl rfl rfl
      · rw [if_neg c13] at h
        refine V.iconst C 0 (by decide) d_Re_copyString_40 ?_
        obtain ⟨rfl, rfl⟩ := Prod.mk.inj (Option.some.inj h)
        exact V.zret C hr (by first | rfl | exact xz_narrow (by assumption)) d_Re_copyString_41 rfl rfl rfl rfl
    · rw [if_neg c4] at h
      refine V.iconst C 1 (by decide) d_Re_copyString_18 ?_
      refine V.goto C 28 (by decide) d_Re_copyString_19 ?_
      refine V.is3 C (by decide) rfl d_Re_copyString_28 ?_
      refine V.iload_n C 3 rfl rfl d_Re_copyString_29 ?_
      refine V.aload_n C 0 rfl rfl d_Re_copyString_30 ?_
      obtain ⟨q25, e26, h⟩ := Option.bind_eq_some_iff.mp h
      refine V.xgetR C fl_Re_14 e26 d_Re_copyString_31 ?_
      obtain ⟨v27, e28, h⟩ := Option.bind_eq_some_iff.mp h
      obtain ⟨⟨fs_e28, s_e28⟩, e28⟩ := xcl_spec e28
      refine V.cVr C (c_Nu_room e28) ml_Re_73 s_e28 rfl rfl (by decide) (Nat.le_of_ble_eq_true rfl) d_Re_copyString_34 ?_
      refine V.icmp_le C 42 (by decide) d_Re_copyString_37 (fun c29 => ?_) (fun c29 => ?_)
      · rw [if_pos c29] at h
        refine V.aload_n C 0 rfl rfl d_Re_copyString_42 ?_
        refine V.xgetR C fl_Re_14 e26 d_Re_copyString_43 ?_
        obtain ⟨v30, e31, h⟩ := Option.bind_eq_some_iff.mp h
        refine V.xgetI C fl_Re_50 e31 d_Re_copyString_46 ?_
        refine V.is4 C (by decide) rfl d_Re_copyString_49 ?_
        refine V.iload_n C 2 rfl rfl d_Re_copyString_51 ?_
        refine V.if_eq C 66 (by decide) d_Re_copyString_52 (fun c32 => ?_) (fun c32 => ?_)
        · rw [if_pos c32] at h
          refine V.iconst C 0 (by decide) d_Re_copyString_66 ?_
          refine V.is5 C (by decide) rfl d_Re_copyString_67 ?_
          exact V.weak (xsub_spec (by simp [xsub])) ((l_Re_copyString C hr N) (0 : Int32) (1 : Int32) v30 (0 : Int32) F _ _ h)
        · rw [if_neg c32] at h
          refine V.aload_n C 0 rfl rfl d_Re_copyString_55 ?_
          refine V.xgetR C fl_Re_14 e26 d_Re_copyString_56 ?_
          refine V.iload_n C 1 rfl rfl d_Re_copyString_59 ?_
          obtain ⟨F33, e34, h⟩ := Option.bind_eq_some_iff.mp h
          refine V.cVv C (c_Nu_add e34) ml_Re_77 s_e28 rfl rfl (by decide) (Nat.le_of_ble_eq_true rfl) d_Re_copyString_60 ?_
          refine V.goto C 104 (by decide) d_Re_copyString_63 ?_
          refine V.aload_n C 0 rfl rfl d_Re_copyString_104 ?_
          obtain ⟨q35, e36, h⟩ := Option.bind_eq_some_iff.mp h
          refine V.xgetR C fl_Re_37 e36 d_Re_copyString_105 ?_
          obtain ⟨F37, e38, h⟩ := Option.bind_eq_some_iff.mp h
          obtain ⟨⟨fs_e38, s_e38⟩, e38⟩ := xcl_spec e38
          refine V.cVv C (c_Wi_behindEntry e38) ml_Re_80 s_e38 rfl rfl (by decide) (Nat.le_of_ble_eq_true rfl) d_Re_copyString_108 ?_
          refine V.aload_n C 0 rfl rfl d_Re_copyString_111 ?_
          refine V.iload C rfl d_Re_copyString_112 ?_
          refine V.iload_n C 3 rfl rfl d_Re_copyString_114 ?_
          refine V.iconst C 1 (by decide) d_Re_copyString_115 ?_
          refine V.iadd C d_Re_copyString_116 ?_
          obtain ⟨F39, e40, h⟩ := Option.bind_eq_some_iff.mp h
          obtain ⟨⟨fs_e40, s_e40⟩, e40⟩ := xcl_spec e40
          refine V.cVv C (c_Re_addEntry e40) ml_Re_83 s_e40 rfl rfl (by decide) (Nat.le_of_ble_eq_true rfl) d_Re_copyString_117 ?_
          refine V.iconst C 1 (by decide) d_Re_copyString_120 ?_
          obtain ⟨rfl, rfl⟩ := Prod.mk.inj (Option.some.inj h)
          exact V.zret C hr (by first | rfl | exact xz_narrow (by assumption)) d_Re_copyString_121 rfl rfl rfl rfl
      · rw [if_neg c29] at h
        refine V.iconst C 0 (by decide) d_Re_copyString_40 ?_
        obtain ⟨rfl, rfl⟩ := Prod.mk.inj (Option.some.inj h)
        exact V.zret C hr (by first | rfl | exact xz_narrow (by assumption)) d_Re_copyString_41 rfl rfl rfl rfl
  · rw [if_neg c3] at h
    refine V.iconst C 1 (by decide) d_Re_copyString_8 ?_
    refine V.goto C 13 (by decide) d_Re_copyString_9 ?_
    refine V.is2 C (by decide) rfl d_Re_copyString_13 ?_
    refine V.iload_n C 2 rfl rfl d_Re_copyString_14 ?_
    refine V.if_eq C 22 (by decide) d_Re_copyString_15 (fun c41 => ?_) (fun c41 => ?_)
    · rw [if_pos c41] at h
      refine V.aload_n C 0 rfl rfl d_Re_copyString_22 ?_
      obtain ⟨q42, e43, h⟩ := Option.bind_eq_some_iff.mp h
      refine V.xgetR C fl_Re_24 e43 d_Re_copyString_23 ?_
      refine V.iload_n C 1 rfl rfl d_Re_copyString_26 ?_
      obtain ⟨v44, e45, h⟩ := Option.bind_eq_some_iff.mp h
      refine V.xiald C e45 d_Re_copyString_27 ?_
      refine V.is3 C (by decide) rfl d_Re_copyString_28 ?_
      refine V.iload_n C 3 rfl rfl d_Re_copyString_29 ?_
      refine V.aload_n C 0 rfl rfl d_Re_copyString_30 ?_
      obtain ⟨q46, e47, h⟩ := Option.bind_eq_some_iff.mp h
      refine V.xgetR C fl_Re_14 e47 d_Re_copyString_31 ?_
      obtain ⟨v48, e49, h⟩ := Option.bind_eq_some_iff.mp h
      obtain ⟨⟨fs_e49, s_e49⟩, e49⟩ := xcl_spec e49
      refine V.cVr C (c_Nu_room e49) ml_Re_73 s_e49 rfl rfl (by decide) (Nat.le_of_ble_eq_true rfl) d_Re_copyString_34 ?_
      refine V.icmp_le C 42 (by decide) d_Re_copyString_37 (fun c50 => ?_) (fun c50 => ?_)
      · rw [if_pos c50] at h
        refine V.aload_n C 0 rfl rfl d_Re_copyString_42 ?_
        refine V.xgetR C fl_Re_14 e47 d_Re_copyString_43 ?_
        obtain ⟨v51, e52, h⟩ := Option.bind_eq_some_iff.mp h
        refine V.xgetI C fl_Re_50 e52 d_Re_copyString_46 ?_
        refine V.is4 C (by decide) rfl d_Re_copyString_49 ?_
        refine V.iload_n C 2 rfl rfl d_Re_copyString_51 ?_
        refine V.if_eq C 66 (by decide) d_Re_copyString_52 (fun c53 => ?_) (fun c53 => ?_)
        · rw [if_pos c53] at h
          refine V.iconst C 0 (by decide) d_Re_copyString_66 ?_
          refine V.is5 C (by decide) rfl d_Re_copyString_67 ?_
          exact V.weak (xsub_spec (by simp [xsub])) ((l_Re_copyString C hr N) (1 : Int32) v44 v51 (0 : Int32) F _ _ h)
        · rw [if_neg c53] at h
          refine V.aload_n C 0 rfl rfl d_Re_copyString_55 ?_
          refine V.xgetR C fl_Re_14 e47 d_Re_copyString_56 ?_
          refine V.iload_n C 1 rfl rfl d_Re_copyString_59 ?_
          obtain ⟨F54, e55, h⟩ := Option.bind_eq_some_iff.mp h
          refine V.cVv C (c_Nu_add e55) ml_Re_77 s_e49 rfl rfl (by decide) (Nat.le_of_ble_eq_true rfl) d_Re_copyString_60 ?_
          refine V.goto C 104 (by decide) d_Re_copyString_63 ?_
          refine V.aload_n C 0 rfl rfl d_Re_copyString_104 ?_
          obtain ⟨q56, e57, h⟩ := Option.bind_eq_some_iff.mp h
          refine V.xgetR C fl_Re_37 e57 d_Re_copyString_105 ?_
          obtain ⟨F58, e59, h⟩ := Option.bind_eq_some_iff.mp h
          obtain ⟨⟨fs_e59, s_e59⟩, e59⟩ := xcl_spec e59
          refine V.cVv C (c_Wi_behindEntry e59) ml_Re_80 s_e59 rfl rfl (by decide) (Nat.le_of_ble_eq_true rfl) d_Re_copyString_108 ?_
          refine V.aload_n C 0 rfl rfl d_Re_copyString_111 ?_
          refine V.iload C rfl d_Re_copyString_112 ?_
          refine V.iload_n C 3 rfl rfl d_Re_copyString_114 ?_
          refine V.iconst C 1 (by decide) d_Re_copyString_115 ?_
          refine V.iadd C d_Re_copyString_116 ?_
          obtain ⟨F60, e61, h⟩ := Option.bind_eq_some_iff.mp h
          obtain ⟨⟨fs_e61, s_e61⟩, e61⟩ := xcl_spec e61
          refine V.cVv C (c_Re_addEntry e61) ml_Re_83 s_e61 rfl rfl (by decide) (Nat.le_of_ble_eq_true rfl) d_Re_copyString_117 ?_
          refine V.iconst C 1 (by decide) d_Re_copyString_120 ?_
          obtain ⟨rfl, rfl⟩ := Prod.mk.inj (Option.some.inj h)
          exact V.zret C hr (by first | rfl | exact xz_narrow (by assumption)) d_Re_copyString_121 rfl rfl rfl rfl
      · rw [if_neg c50] at h
        refine V.iconst C 0 (by decide) d_Re_copyString_40 ?_
        obtain ⟨rfl, rfl⟩ := Prod.mk.inj (Option.some.inj h)
        exact V.zret C hr (by first | rfl | exact xz_narrow (by assumption)) d_Re_copyString_41 rfl rfl rfl rfl
    · rw [if_neg c41] at h
      refine V.iconst C 1 (by decide) d_Re_copyString_18 ?_
      refine V.goto C 28 (by decide) d_Re_copyString_19 ?_
      refine V.is3 C (by decide) rfl d_Re_copyString_28 ?_
      refine V.iload_n C 3 rfl rfl d_Re_copyString_29 ?_
      refine V.aload_n C 0 rfl rfl d_Re_copyString_30 ?_
      obtain ⟨q62, e63, h⟩ := Option.bind_eq_some_iff.mp h
      refine V.xgetR C fl_Re_14 e63 d_Re_copyString_31 ?_
      obtain ⟨v64, e65, h⟩ := Option.bind_eq_some_iff.mp h
      obtain ⟨⟨fs_e65, s_e65⟩, e65⟩ := xcl_spec e65
      refine V.cVr C (c_Nu_room e65) ml_Re_73 s_e65 rfl rfl (by decide) (Nat.le_of_ble_eq_true rfl) d_Re_copyString_34 ?_
      refine V.icmp_le C 42 (by decide) d_Re_copyString_37 (fun c66 => ?_) (fun c66 => ?_)
      · rw [if_pos c66] at h
        refine V.aload_n C 0 rfl rfl d_Re_copyString_42 ?_
        refine V.xgetR C fl_Re_14 e63 d_Re_copyString_43 ?_
        obtain ⟨v67, e68, h⟩ := Option.bind_eq_some_iff.mp h
        refine V.xgetI C fl_Re_50 e68 d_Re_copyString_46 ?_
        refine V.is4 C (by decide) rfl d_Re_copyString_49 ?_
        refine V.iload_n C 2 rfl rfl d_Re_copyString_51 ?_
        refine V.if_eq C 66 (by decide) d_Re_copyString_52 (fun c69 => ?_) (fun c69 => ?_)
        · rw [if_pos c69] at h
          refine V.iconst C 0 (by decide) d_Re_copyString_66 ?_
          refine V.is5 C (by decide) rfl d_Re_copyString_67 ?_
          exact V.weak (xsub_spec (by simp [xsub])) ((l_Re_copyString C hr N) (1 : Int32) (1 : Int32) v67 (0 : Int32) F _ _ h)
        · rw [if_neg c69] at h
          refine V.aload_n C 0 rfl rfl d_Re_copyString_55 ?_
          refine V.xgetR C fl_Re_14 e63 d_Re_copyString_56 ?_
          refine V.iload_n C 1 rfl rfl d_Re_copyString_59 ?_
          obtain ⟨F70, e71, h⟩ := Option.bind_eq_some_iff.mp h
          refine V.cVv C (c_Nu_add e71) ml_Re_77 s_e65 rfl rfl (by decide) (Nat.le_of_ble_eq_true rfl) d_Re_copyString_60 ?_
          refine V.goto C 104 (by decide) d_Re_copyString_63 ?_
          refine V.aload_n C 0 rfl rfl d_Re_copyString_104 ?_
          obtain ⟨q72, e73, h⟩ := Option.bind_eq_some_iff.mp h
          refine V.xgetR C fl_Re_37 e73 d_Re_copyString_105 ?_
          obtain ⟨F74, e75, h⟩ := Option.bind_eq_some_iff.mp h
          obtain ⟨⟨fs_e75, s_e75⟩, e75⟩ := xcl_spec e75
          refine V.cVv C (c_Wi_behindEntry e75) ml_Re_80 s_e75 rfl rfl (by decide) (Nat.le_of_ble_eq_true rfl) d_Re_copyString_108 ?_
          refine V.aload_n C 0 rfl rfl d_Re_copyString_111 ?_
          refine V.iload C rfl d_Re_copyString_112 ?_
          refine V.iload_n C 3 rfl rfl d_Re_copyString_114 ?_
          refine V.iconst C 1 (by decide) d_Re_copyString_115 ?_
          refine V.iadd C d_Re_copyString_116 ?_
          obtain ⟨F76, e77, h⟩ := Option.bind_eq_some_iff.mp h
          obtain ⟨⟨fs_e77, s_e77⟩, e77⟩ := xcl_spec e77
          refine V.cVv C (c_Re_addEntry e77) ml_Re_83 s_e77 rfl rfl (by decide) (Nat.le_of_ble_eq_true rfl) d_Re_copyString_117 ?_
          refine V.iconst C 1 (by decide) d_Re_copyString_120 ?_
          obtain ⟨rfl, rfl⟩ := Prod.mk.inj (Option.some.inj h)
          exact V.zret C hr (by first | rfl | exact xz_narrow (by assumption)) d_Re_copyString_121 rfl rfl rfl rfl
      · rw [if_neg c66] at h
        refine V.iconst C 0 (by decide) d_Re_copyString_40 ?_
        obtain ⟨rfl, rfl⟩ := Prod.mk.inj (Option.some.inj h)
        exact V.zret C hr (by first | rfl | exact xz_narrow (by assumption)) d_Re_copyString_41 rfl rfl rfl rfl
def t_Re_readAll (S : List xO) (N : Nat) (a : Nat) (p0 : Nat) : Nat → Int32 → Int32 → Int32 → xF → Option (Int32 × xF)
  | 0, _, _, _, _ => none
  | n + 1, u2, u3, u4, F =>
    if (64000 : Int32) ≤ u4 then
      some ((-1 : Int32), F)
    else
    (gR S 4 a 2).bind fun q10 =>
    (gI S 1 q10 2 F).bind fun v12 =>
    if (u3 + v12) ≤ u2 then
      (xcl S 4 a (f_Re_codeFrom S a p0 u3 F)).bind fun v15 =>
      (gI S 1 q10 2 F).bind fun v17 =>
      (gI S 4 a 1 F).bind fun v19 =>
      if v15 = v19 then
        some ((-1 : Int32), F)
      else
      (gI S 4 a 0 F).bind fun v22 =>
      if v15 = v22 then
        (f_Re_restart S a F).bind fun F32 =>
        t_Re_readAll S N a p0 n u2 (u3 + v17) (u4 + (1 : Int32)) F32
      else
      (gI S 4 a 6 F).bind fun v25 =>
      if v15 ≤ v25 then
        (f_Re_copyString S N a v15 F).bind fun ⟨v28, F29⟩ =>
        if v28 = (0 : Int32) then
          some ((-1 : Int32), F29)
        else
        t_Re_readAll S N a p0 n u2 (u3 + v17) (u4 + (1 : Int32)) F29
      else
      some (v15, F)
    else
    some ((-1 : Int32), F)
set_option maxHeartbeats 4000000 in
set_option maxRecDepth 100000 in
theorem l_Re_readAll {p : Program} {l : Launch} {e : Env} {s : State} {m : MethodId} {args : Array Value} {below : List Frame} {meth : Method} {c : Code} {g : xG} {S : List xO} {G : xL} {a : Nat} {p0 : Nat} {N : Nat} (C : Cx p s m args meth c b_Re_readAll 6 "PaletteFrames$Reader" g) (hr : meth.sig.returnType = (some .int)) : ∀ (n : Nat), (∀ (u2 : Int32) (u3 : Int32) (u4 : Int32) (F : xF) (r : Int32) (F2 : xF), t_Re_readAll S N a p0 n u2 u3 u4 F = some (r, F2) → V p l e (xRm 3 67 0 0) s m args below meth c (xMQ g below args s 0 0 S F2 G (some (.int r))) 6 g S F G 0 0 24 [some (.ref a), some (.ref p0), some (.int u2), some (.int u3), some (.int u4), none] []) := by
  intro n
  induction n with
  | zero =>
    intro u2 u3 u4 F r F2 h
    cases h
  | succ n ih =>
    intro u2 u3 u4 F r F2 h
    rw [t_Re_readAll] at h
    refine V.iload C rfl d_Re_readAll_24 ?_
    refine V.ldc C (v := 64000) (by decide +kernel) d_Re_readAll_26 ?_
    refine V.icmp_ge C 120 (by decide) d_Re_readAll_28 (fun c9 => ?_) (fun c9 => ?_)
    · rw [if_pos c9] at h
      refine V.iconst C (-1) (by decide) d_Re_readAll_120 ?_
      obtain ⟨rfl, rfl⟩ := Prod.mk.inj (Option.some.inj h)
      exact V.iret C hr d_Re_readAll_121 rfl rfl rfl rfl
    · rw [if_neg c9] at h
      refine V.iload_n C 3 rfl rfl d_Re_readAll_31 ?_
      refine V.aload_n C 0 rfl rfl d_Re_readAll_32 ?_
      obtain ⟨q10, e11, h⟩ := Option.bind_eq_some_iff.mp h
      refine V.xgetR C fl_Re_37 e11 d_Re_readAll_33 ?_
      obtain ⟨v12, e13, h⟩ := Option.bind_eq_some_iff.mp h
      refine V.xgetI C fl_Re_54 e13 d_Re_readAll_36 ?_
      refine V.iadd C d_Re_readAll_39 ?_
      refine V.iload_n C 2 rfl rfl d_Re_readAll_40 ?_
      refine V.icmp_le C 46 (by decide) d_Re_readAll_41 (fun c14 => ?_) (fun c14 => ?_)
      · rw [if_pos c14] at h
        refine V.aload_n C 0 rfl rfl d_Re_readAll_46 ?_
        refine V.aload_n C 1 rfl rfl d_Re_readAll_47 ?_
        refine V.iload_n C 3 rfl rfl d_Re_readAll_48 ?_
        obtain ⟨v15, e16, h⟩ := Option.bind_eq_some_iff.mp h
        obtain ⟨⟨fs_e16, s_e16⟩, e16⟩ := xcl_spec e16
        refine V.cVr C (c_Re_codeFrom e16) ml_Re_57 s_e16 rfl rfl (by decide) (Nat.le_of_ble_eq_true rfl) d_Re_readAll_49 ?_
        refine V.is5 C (by decide) rfl d_Re_readAll_52 ?_
        refine V.iload_n C 3 rfl rfl d_Re_readAll_54 ?_
        refine V.aload_n C 0 rfl rfl d_Re_readAll_55 ?_
        refine V.xgetR C fl_Re_37 e11 d_Re_readAll_56 ?_
        obtain ⟨v17, e18, h⟩ := Option.bind_eq_some_iff.mp h
        refine V.xgetI C fl_Re_54 e18 d_Re_readAll_59 ?_
        refine V.iadd C d_Re_readAll_62 ?_
        refine V.is3 C (by decide) rfl d_Re_readAll_63 ?_
        refine V.iload C rfl d_Re_readAll_64 ?_
        refine V.aload_n C 0 rfl rfl d_Re_readAll_66 ?_
        obtain ⟨v19, e20, h⟩ := Option.bind_eq_some_iff.mp h
        refine V.xgetI C fl_Re_31 e20 d_Re_readAll_67 ?_
        refine V.icmp_ne C 75 (by decide) d_Re_readAll_70 (fun c21 => ?_) (fun c21 => ?_)
        · rw [if_neg c21] at h
          refine V.iload C rfl d_Re_readAll_75 ?_
          refine V.aload_n C 0 rfl rfl d_Re_readAll_77 ?_
          obtain ⟨v22, e23, h⟩ := Option.bind_eq_some_iff.mp h
          refine V.xgetI C fl_Re_27 e23 d_Re_readAll_78 ?_
          refine V.icmp_ne C 91 (by decide) d_Re_readAll_81 (fun c24 => ?_) (fun c24 => ?_)
          · rw [if_neg c24] at h
            refine V.iload C rfl d_Re_readAll_91 ?_
            refine V.aload_n C 0 rfl rfl d_Re_readAll_93 ?_
            obtain ⟨v25, e26, h⟩ := Option.bind_eq_some_iff.mp h
            refine V.xgetI C fl_Re_41 e26 d_Re_readAll_94 ?_
            refine V.icmp_le C 103 (by decide) d_Re_readAll_97 (fun c27 => ?_) (fun c27 => ?_)
            · rw [if_pos c27] at h
              refine V.aload_n C 0 rfl rfl d_Re_readAll_103 ?_
              refine V.iload C rfl d_Re_readAll_104 ?_
              obtain ⟨⟨v28, F29⟩, e30, h⟩ := Option.bind_eq_some_iff.mp h
              dsimp only at h
              refine V.cVr C (c_Re_copyString e30) ml_Re_61 s_e16 rfl rfl (by decide) (Nat.le_of_ble_eq_true rfl) d_Re_readAll_106 ?_
              refine V.if_ne C 114 (by decide) d_Re_readAll_109 (fun c31 => ?_) (fun c31 => ?_)
              · rw [if_neg c31] at h
                refine V.inc4 C 1 (by decide) (by decide) rfl d_Re_readAll_114 ?_
                refine V.goto C 24 (by decide) d_Re_readAll_117 ?_
                exact V.weak (xsub_spec (by simp [xsub])) (ih u2 (u3 + v17) (u4 + (1 : Int32)) F29 _ _ h)
              · rw [if_pos c31] at h
                refine V.iconst C (-1) (by decide) d_Re_readAll_112 ?_
                obtain ⟨rfl, rfl⟩ := Prod.mk.inj (Option.some.inj h)
                exact V.iret C hr d_Re_readAll_113 rfl rfl rfl rfl
            · rw [if_neg c27] at h
              refine V.iload C rfl d_Re_readAll_100 ?_
              obtain ⟨rfl, rfl⟩ := Prod.mk.inj (Option.some.inj h)
              exact V.iret C hr d_Re_readAll_102 rfl rfl rfl rfl
          · rw [if_pos c24] at h
            refine V.aload_n C 0 rfl rfl d_Re_readAll_84 ?_
            obtain ⟨F32, e33, h⟩ := Option.bind_eq_some_iff.mp h
            refine V.cVv C (c_Re_restart e33) ml_Re_47 s_e16 rfl rfl (by decide) (Nat.le_of_ble_eq_true rfl) d_Re_readAll_85 ?_
            refine V.goto C 114 (by decide) d_Re_readAll_88 ?_
            refine V.inc4 C 1 (by decide) (by decide) rfl d_Re_readAll_114 ?_
            refine V.goto C 24 (by decide) d_Re_readAll_117 ?_
            exact V.weak (xsub_spec (by simp [xsub])) (ih u2 (u3 + v17) (u4 + (1 : Int32)) F32 _ _ h)
        · rw [if_pos c21] at h
          refine V.iconst C (-1) (by decide) d_Re_readAll_73 ?_
          obtain ⟨rfl, rfl⟩ := Prod.mk.inj (Option.some.inj h)
          exact V.iret C hr d_Re_readAll_74 rfl rfl rfl rfl
      · rw [if_neg c14] at h
        refine V.iconst C (-1) (by decide) d_Re_readAll_44 ?_
        obtain ⟨rfl, rfl⟩ := Prod.mk.inj (Option.some.inj h)
        exact V.iret C hr d_Re_readAll_45 rfl rfl rfl rfl
def f_Re_readAll (S : List xO) (N : Nat) (a : Nat) (p0 : Nat) (F : xF) : Option (Int32 × xF) :=
  (gR S 4 a 3).bind fun q1 =>
  (xcl S 0 q1 (f_Nu_empty S q1 F)).bind fun F3 =>
  (xcl S 4 a (f_Re_restart S a F3)).bind fun F5 =>
  (gI S 0 p0 1 F5).bind fun v7 =>
  t_Re_readAll S N a p0 N (v7 * (8 : Int32)) (0 : Int32) (0 : Int32) F5
set_option maxHeartbeats 4000000 in
set_option maxRecDepth 100000 in
theorem c_Re_readAll {l : Launch} {g : xG} {S : List xO} {G : xL} {a : Nat} {p0 : Nat} {N : Nat} {F : xF} {r : Int32} {F2 : xF} (h : f_Re_readAll S N a p0 F = some (r, F2)) : CT l g 3 67 0 0 y_Re_readAll b_Re_readAll 6 (some .int) 1 [.ref a, .ref p0] S F G (some (.int r)) S F2 G := by
  refine CT.of [some (.ref a), some (.ref p0), none, none, none, none] (by decide) (Nat.le_of_ble_eq_true rfl) rfl ?_
  intro p e s m args below meth c C hr hmn hz
  unfold f_Re_readAll at h
  refine V.aload_n C 0 rfl rfl d_Re_readAll_0 ?_
  obtain ⟨q1, e2, h⟩ := Option.bind_eq_some_iff.mp h
  refine V.xgetR C fl_Re_14 e2 d_Re_readAll_1 ?_
  obtain ⟨F3, e4, h⟩ := Option.bind_eq_some_iff.mp h
  obtain ⟨⟨fs_e4, s_e4⟩, e4⟩ := xcl_spec e4
  refine V.cVv C (c_Nu_empty e4) ml_Re_44 s_e4 rfl rfl (by decide) (Nat.le_of_ble_eq_true rfl) d_Re_readAll_4 ?_
  refine V.aload_n C 0 rfl rfl d_Re_readAll_7 ?_
  obtain ⟨F5, e6, h⟩ := Option.bind_eq_some_iff.mp h
  obtain ⟨⟨fs_e6, s_e6⟩, e6⟩ := xcl_spec e6
  refine V.cVv C (c_Re_restart e6) ml_Re_47 s_e6 rfl rfl (by decide) (Nat.le_of_ble_eq_true rfl) d_Re_readAll_8 ?_
  refine V.aload_n C 1 rfl rfl d_Re_readAll_11 ?_
  obtain ⟨v7, e8, h⟩ := Option.bind_eq_some_iff.mp h
  refine V.xgetI C fl_Re_50 e8 d_Re_readAll_12 ?_
  refine V.bipush C 8 (by decide) d_Re_readAll_15 ?_
  refine V.imul C d_Re_readAll_17 ?_
  refine V.is2 C (by decide) rfl d_Re_readAll_18 ?_
  refine V.iconst C 0 (by decide) d_Re_readAll_19 ?_
  refine V.is3 C (by decide) rfl d_Re_readAll_20 ?_
  refine V.iconst C 0 (by decide) d_Re_readAll_21 ?_
  refine V.is4 C (by decide) rfl d_Re_readAll_22 ?_
  exact V.weak (xsub_spec (by simp [xsub])) ((l_Re_readAll C hr N) (v7 * (8 : Int32)) (0 : Int32) (0 : Int32) F5 _ _ h)
