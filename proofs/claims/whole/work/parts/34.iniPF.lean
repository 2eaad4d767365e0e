def f_PF_init (S : List xO) (N : Nat) (a : Nat) (p0 : Int32) (F : xF) : Option (List xO × xF) :=
  (pI S 8 a 0 (xmx (2 : Int32) (xmn (8 : Int32) p0)) F).bind fun F1 =>
  (nO S 0 [some .null, none] F1).bind fun w3 =>
  (f_Nu_init w3.1 w3.2.2 (12000 : Int32) w3.2.1).bind fun w8 =>
  (pR w8.1 8 a 1 w3.2.2).bind fun S12 =>
  (nO S12 0 [some .null, none] w8.2).bind fun w15 =>
  (f_Nu_init w15.1 w15.2.2 (24000 : Int32) w15.2.1).bind fun w20 =>
  (pR w20.1 8 a 2 w15.2.2).bind fun S24 =>
  (nO S24 3 [none, none, some .null, some .null, some .null, none, none, none, none, none, none, none] w20.2).bind fun w27 =>
  (gI w27.1 8 a 0 w27.2.1).bind fun v32 =>
  (f_Co_init w27.1 w27.2.2 v32 w27.2.1).bind fun w34 =>
  (pR w34.1 8 a 3 w27.2.2).bind fun S38 =>
  (nO S38 4 [none, none, some .null, some .null, some .null, some .null, none] w34.2).bind fun w41 =>
  (gI w41.1 8 a 0 w41.2.1).bind fun v46 =>
  (f_Re_init w41.1 w41.2.2 v46 w41.2.1).bind fun w48 =>
  (pR w48.1 8 a 4 w41.2.2).bind fun S52 =>
  (nO S52 7 [some .null, some .null, none] w48.2).bind fun w55 =>
  (gI w55.1 8 a 0 w55.2.1).bind fun v60 =>
  (f_Sc_init w55.1 N w55.2.2 ((1 : Int32) <<< (v60 &&& 31)) w55.2.1).bind fun w62 =>
  (pR w62.1 8 a 5 w55.2.2).bind fun S66 =>
  (pI S66 8 a 6 (0 : Int32) w62.2).bind fun F69 =>
  some (S66, F69)
set_option maxHeartbeats 4000000 in
theorem n_PF_init {S : List xO} {N : Nat} {a : Nat} {p0 : Int32} {F : xF} {S2 : List xO} {F2 : xF} (h : f_PF_init S N a p0 F = some (S2, F2)) : S2.length = S.length + 70 := by
  unfold f_PF_init at h
  obtain ⟨F1, e2, h⟩ := Option.bind_eq_some_iff.mp h
  obtain ⟨⟨S3, F4, q5⟩, e6, h⟩ := Option.bind_eq_some_iff.mp h
  dsimp only at h
  have z7 : S3.length = S.length + 1 := nO_len e6
  obtain ⟨⟨S8, F9⟩, e10, h⟩ := Option.bind_eq_some_iff.mp h
  dsimp only at h
  have z11 : S8.length = S3.length + 1 := n_Nu_init e10
  obtain ⟨S12, e13, h⟩ := Option.bind_eq_some_iff.mp h
  have z14 : S12.length = S8.length := pR_len e13
  obtain ⟨⟨S15, F16, q17⟩, e18, h⟩ := Option.bind_eq_some_iff.mp h
  dsimp only at h
  have z19 : S15.length = S12.length + 1 := nO_len e18
  obtain ⟨⟨S20, F21⟩, e22, h⟩ := Option.bind_eq_some_iff.mp h
  dsimp only at h
  have z23 : S20.length = S15.length + 1 := n_Nu_init e22
  obtain ⟨S24, e25, h⟩ := Option.bind_eq_some_iff.mp h
  have z26 : S24.length = S20.length := pR_len e25
  obtain ⟨⟨S27, F28, q29⟩, e30, h⟩ := Option.bind_eq_some_iff.mp h
  dsimp only at h
  have z31 : S27.length = S24.length + 1 := nO_len e30
  obtain ⟨v32, e33, h⟩ := Option.bind_eq_some_iff.mp h
  obtain ⟨⟨S34, F35⟩, e36, h⟩ := Option.bind_eq_some_iff.mp h
  dsimp only at h
  have z37 : S34.length = S27.length + 7 := n_Co_init e36
  obtain ⟨S38, e39, h⟩ := Option.bind_eq_some_iff.mp h
  have z40 : S38.length = S34.length := pR_len e39
  obtain ⟨⟨S41, F42, q43⟩, e44, h⟩ := Option.bind_eq_some_iff.mp h
  dsimp only at h
  have z45 : S41.length = S38.length + 1 := nO_len e44
  obtain ⟨v46, e47, h⟩ := Option.bind_eq_some_iff.mp h
  obtain ⟨⟨S48, F49⟩, e50, h⟩ := Option.bind_eq_some_iff.mp h
  dsimp only at h
  have z51 : S48.length = S41.length + 5 := n_Re_init e50
  obtain ⟨S52, e53, h⟩ := Option.bind_eq_some_iff.mp h
  have z54 : S52.length = S48.length := pR_len e53
  obtain ⟨⟨S55, F56, q57⟩, e58, h⟩ := Option.bind_eq_some_iff.mp h
  dsimp only at h
  have z59 : S55.length = S52.length + 1 := nO_len e58
  obtain ⟨v60, e61, h⟩ := Option.bind_eq_some_iff.mp h
  obtain ⟨⟨S62, F63⟩, e64, h⟩ := Option.bind_eq_some_iff.mp h
  dsimp only at h
  have z65 : S62.length = S55.length + 51 := n_Sc_init e64
  obtain ⟨S66, e67, h⟩ := Option.bind_eq_some_iff.mp h
  have z68 : S66.length = S62.length := pR_len e67
  obtain ⟨F69, e70, h⟩ := Option.bind_eq_some_iff.mp h
  obtain ⟨rfl, rfl⟩ := Prod.mk.inj (Option.some.inj h)
  omega
set_option maxHeartbeats 4000000 in
set_option maxRecDepth 100000 in
theorem c_PF_init {l : Launch} {g : xG} {S : List xO} {G : xL} {a : Nat} {p0 : Int32} {N : Nat} {F : xF} {S2 : List xO} {F2 : xF} (h : f_PF_init S N a p0 F = some (S2, F2)) : CT l g 4 87 70 130992 y_PF_init b_PF_init 2 none 0 [.ref a, .int p0] S F G none S2 F2 G := by
  refine CT.of [some (.ref a), some (.int p0)] (by decide) (Nat.le_of_ble_eq_true rfl) rfl ?_
  intro p e s m args below meth c C hr hmn hz
  have hz0 : s.heap.size = g.1 + S.length := hz rfl
  unfold f_PF_init at h
  refine V.aload_n C 0 rfl rfl d_PF_init_0 ?_
  refine V.objInit C oi_PF_3 (by decide) d_PF_init_1 ?_
  refine V.aload_n C 0 rfl rfl d_PF_init_4 ?_
  refine V.iconst C 2 (by decide) d_PF_init_5 ?_
  refine V.bipush C 8 (by decide) d_PF_init_6 ?_
  refine V.iload_n C 1 rfl rfl d_PF_init_8 ?_
  refine V.mmin C mw_PF_9 ⟨by decide, Nat.le_of_ble_eq_true rfl, by decide, by decide⟩ d_PF_init_9 ?_
  refine V.mmax C mw_PF_15 ⟨by decide, Nat.le_of_ble_eq_true rfl, by decide, by decide⟩ d_PF_init_12 ?_
  obtain ⟨F1, e2, h⟩ := Option.bind_eq_some_iff.mp h
  refine V.xputIF C hmn fl_PF_18 ft_8 if_PF_18 e2 d_PF_init_15 ?_
  refine V.aload_n C 0 rfl rfl d_PF_init_18 ?_
  obtain ⟨⟨S3, F4, q5⟩, e6, h⟩ := Option.bind_eq_some_iff.mp h
  dsimp only at h
  refine V.xnewO C (by omega) no_PF_22 e6 (by decide) d_PF_init_19 ?_
  have z7 : S3.length = S.length + 1 := nO_len e6
  refine V.dup C rfl d_PF_init_22 ?_
  refine V.sipush C 12000 (by decide) d_PF_init_23 ?_
  obtain ⟨⟨S8, F9⟩, e10, h⟩ := Option.bind_eq_some_iff.mp h
  dsimp only at h
  have z11 : S8.length = S3.length + 1 := n_Nu_init e10
  refine V.cIv C (c_Nu_init e10) ci_PF_24 rfl rfl (by omega) (by decide) (Nat.le_of_ble_eq_true rfl) d_PF_init_26 ?_
  obtain ⟨S12, e13, h⟩ := Option.bind_eq_some_iff.mp h
  refine V.xputRF C hmn fl_PF_27 ft_8 rf_PF_27 e13 d_PF_init_29 ?_
  have z14 : S12.length = S8.length := pR_len e13
  refine V.aload_n C 0 rfl rfl d_PF_init_32 ?_
  obtain ⟨⟨S15, F16, q17⟩, e18, h⟩ := Option.bind_eq_some_iff.mp h
  dsimp only at h
  refine V.xnewO C (by omega) no_PF_22 e18 (by decide) d_PF_init_33 ?_
  have z19 : S15.length = S12.length + 1 := nO_len e18
  refine V.dup C rfl d_PF_init_36 ?_
  refine V.sipush C 24000 (by decide) d_PF_init_37 ?_
  obtain ⟨⟨S20, F21⟩, e22, h⟩ := Option.bind_eq_some_iff.mp h
  dsimp only at h
  have z23 : S20.length = S15.length + 1 := n_Nu_init e22
  refine V.cIv C (c_Nu_init e22) ci_PF_24 rfl rfl (by omega) (by decide) (Nat.le_of_ble_eq_true rfl) d_PF_init_40 ?_
  obtain ⟨S24, e25, h⟩ := Option.bind_eq_some_iff.mp h
  refine V.xputRF C hmn fl_PF_31 ft_8 rf_PF_31 e25 d_PF_init_43 ?_
  have z26 : S24.length = S20.length := pR_len e25
  refine V.aload_n C 0 rfl rfl d_PF_init_46 ?_
  obtain ⟨⟨S27, F28, q29⟩, e30, h⟩ := Option.bind_eq_some_iff.mp h
  dsimp only at h
  refine V.xnewO C (by omega) no_PF_34 e30 (by decide) d_PF_init_47 ?_
  have z31 : S27.length = S24.length + 1 := nO_len e30
  refine V.dup C rfl d_PF_init_50 ?_
  refine V.aload_n C 0 rfl rfl d_PF_init_51 ?_
  obtain ⟨v32, e33, h⟩ := Option.bind_eq_some_iff.mp h
  refine V.xgetI C fl_PF_18 e33 d_PF_init_52 ?_
  obtain ⟨⟨S34, F35⟩, e36, h⟩ := Option.bind_eq_some_iff.mp h
  dsimp only at h
  have z37 : S34.length = S27.length + 7 := n_Co_init e36
  refine V.cIv C (c_Co_init e36) ci_PF_36 rfl rfl (by omega) (by decide) (Nat.le_of_ble_eq_true rfl) d_PF_init_55 ?_
  obtain ⟨S38, e39, h⟩ := Option.bind_eq_some_iff.mp h
  refine V.xputRF C hmn fl_PF_37 ft_8 rf_PF_37 e39 d_PF_init_58 ?_
  have z40 : S38.length = S34.length := pR_len e39
  refine V.aload_n C 0 rfl rfl d_PF_init_61 ?_
  obtain ⟨⟨S41, F42, q43⟩, e44, h⟩ := Option.bind_eq_some_iff.mp h
  dsimp only at h
  refine V.xnewO C (by omega) no_PF_41 e44 (by decide) d_PF_init_62 ?_
  have z45 : S41.length = S38.length + 1 := nO_len e44
  refine V.dup C rfl d_PF_init_65 ?_
  refine V.aload_n C 0 rfl rfl d_PF_init_66 ?_
  obtain ⟨v46, e47, h⟩ := Option.bind_eq_some_iff.mp h
  refine V.xgetI C fl_PF_18 e47 d_PF_init_67 ?_
  obtain ⟨⟨S48, F49⟩, e50, h⟩ := Option.bind_eq_some_iff.mp h
  dsimp only at h
  have z51 : S48.length = S41.length + 5 := n_Re_init e50
  refine V.cIv C (c_Re_init e50) ci_PF_43 rfl rfl (by omega) (by decide) (Nat.le_of_ble_eq_true rfl) d_PF_init_70 ?_
  obtain ⟨S52, e53, h⟩ := Option.bind_eq_some_iff.mp h
  refine V.xputRF C hmn fl_PF_44 ft_8 rf_PF_44 e53 d_PF_init_73 ?_
  have z54 : S52.length = S48.length := pR_len e53
  refine V.aload_n C 0 rfl rfl d_PF_init_76 ?_
  obtain ⟨⟨S55, F56, q57⟩, e58, h⟩ := Option.bind_eq_some_iff.mp h
  dsimp only at h
  refine V.xnewO C (by omega) no_PF_48 e58 (by decide) d_PF_init_77 ?_
  have z59 : S55.length = S52.length + 1 := nO_len e58
  refine V.dup C rfl d_PF_init_80 ?_
  refine V.iconst C 1 (by decide) d_PF_init_81 ?_
  refine V.aload_n C 0 rfl rfl d_PF_init_82 ?_
  obtain ⟨v60, e61, h⟩ := Option.bind_eq_some_iff.mp h
  refine V.xgetI C fl_PF_18 e61 d_PF_init_83 ?_
  refine V.ishl C d_PF_init_86 ?_
  obtain ⟨⟨S62, F63⟩, e64, h⟩ := Option.bind_eq_some_iff.mp h
  dsimp only at h
  have z65 : S62.length = S55.length + 51 := n_Sc_init e64
  refine V.cIv C (c_Sc_init e64) ci_PF_50 rfl rfl (by omega) (by decide) (Nat.le_of_ble_eq_true rfl) d_PF_init_87 ?_
  obtain ⟨S66, e67, h⟩ := Option.bind_eq_some_iff.mp h
  refine V.xputRF C hmn fl_PF_51 ft_8 rf_PF_51 e67 d_PF_init_90 ?_
  have z68 : S66.length = S62.length := pR_len e67
  refine V.aload_n C 0 rfl rfl d_PF_init_93 ?_
  refine V.iconst C 0 (by decide) d_PF_init_94 ?_
  obtain ⟨F69, e70, h⟩ := Option.bind_eq_some_iff.mp h
  refine V.xputI C fl_PF_55 ft_8 fi_8_6 e70 d_PF_init_95 ?_
  obtain ⟨rfl, rfl⟩ := Prod.mk.inj (Option.some.inj h)
  exact V.vret C hr d_PF_init_98 rfl rfl rfl
