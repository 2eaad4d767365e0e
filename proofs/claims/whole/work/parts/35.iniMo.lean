def f_Mo_init (S : List xO) (N : Nat) (a : Nat) (p0 : Int32) (F : xF) : Option (List xO × xF) :=
  (nA S 0 12000 (12000 : Int32) F).bind fun w1 =>
  (pR w1.1 9 a 6 w1.2.2).bind fun S6 =>
  (nA S6 3 24000 (24000 : Int32) w1.2.1).bind fun w9 =>
  (pR w9.1 9 a 8 w9.2.2).bind fun S14 =>
  (nA S14 0 4 (4 : Int32) w9.2.1).bind fun w17 =>
  (pR w17.1 9 a 9 w17.2.2).bind fun S22 =>
  (nA S22 3 24000 (24000 : Int32) w17.2.1).bind fun w25 =>
  (pR w25.1 9 a 11 w25.2.2).bind fun S30 =>
  (nA S30 0 12000 (12000 : Int32) w25.2.1).bind fun w33 =>
  (pR w33.1 9 a 13 w33.2.2).bind fun S38 =>
  (nA S38 0 4096 (4096 : Int32) w33.2.1).bind fun w41 =>
  (pR w41.1 9 a 15 w41.2.2).bind fun S46 =>
  (nA S46 0 4096 (4096 : Int32) w41.2.1).bind fun w49 =>
  (pR w49.1 9 a 16 w49.2.2).bind fun S54 =>
  (nA S54 0 4096 (4096 : Int32) w49.2.1).bind fun w57 =>
  (pR w57.1 9 a 17 w57.2.2).bind fun S62 =>
  (nA S62 0 4096 (4096 : Int32) w57.2.1).bind fun w65 =>
  (pR w65.1 9 a 18 w65.2.2).bind fun S70 =>
  (nA S70 0 4096 (4096 : Int32) w65.2.1).bind fun w73 =>
  (pR w73.1 9 a 19 w73.2.2).bind fun S78 =>
  (nA S78 0 12 (12 : Int32) w73.2.1).bind fun w81 =>
  (pR w81.1 9 a 24 w81.2.2).bind fun S86 =>
  (nA S86 0 12 (12 : Int32) w81.2.1).bind fun w89 =>
  (pR w89.1 9 a 25 w89.2.2).bind fun S94 =>
  (nA S94 0 12 (12 : Int32) w89.2.1).bind fun w97 =>
  (pR w97.1 9 a 26 w97.2.2).bind fun S102 =>
  (nA S102 0 12 (12 : Int32) w97.2.1).bind fun w105 =>
  (pR w105.1 9 a 27 w105.2.2).bind fun S110 =>
  (nA S110 0 12 (12 : Int32) w105.2.1).bind fun w113 =>
  (pR w113.1 9 a 28 w113.2.2).bind fun S118 =>
  (nA S118 0 12 (12 : Int32) w113.2.1).bind fun w121 =>
  (pR w121.1 9 a 29 w121.2.2).bind fun S126 =>
  (nA S126 0 12 (12 : Int32) w121.2.1).bind fun w129 =>
  (pR w129.1 9 a 30 w129.2.2).bind fun S134 =>
  (nA S134 0 6912 (6912 : Int32) w129.2.1).bind fun w137 =>
  (pR w137.1 9 a 31 w137.2.2).bind fun S142 =>
  (nA S142 0 3328 (3328 : Int32) w137.2.1).bind fun w145 =>
  (pR w145.1 9 a 32 w145.2.2).bind fun S150 =>
  (nA S150 0 576 (576 : Int32) w145.2.1).bind fun w153 =>
  (pR w153.1 9 a 33 w153.2.2).bind fun S158 =>
  (nA S158 0 576 (576 : Int32) w153.2.1).bind fun w161 =>
  (pR w161.1 9 a 34 w161.2.2).bind fun S166 =>
  (nA S166 0 576 (576 : Int32) w161.2.1).bind fun w169 =>
  (pR w169.1 9 a 35 w169.2.2).bind fun S174 =>
  (nA S174 0 576 (576 : Int32) w169.2.1).bind fun w177 =>
  (pR w177.1 9 a 36 w177.2.2).bind fun S182 =>
  if (2 : Int32) ≤ p0 then
    if p0 ≤ (8 : Int32) then
      (pI S182 9 a 0 p0 w177.2.1).bind fun F187 =>
      (gI S182 9 a 0 F187).bind fun v189 =>
      (pI S182 9 a 1 ((1 : Int32) <<< (v189 &&& 31)) F187).bind fun F191 =>
      (gI S182 9 a 1 F191).bind fun v193 =>
      (pI S182 9 a 2 (v193 + (1 : Int32)) F191).bind fun F195 =>
      (xcl S182 9 a (f_Mo_clear S182 N a F195)).bind fun F197 =>
      some (S182, F197)
    else
    (pI S182 9 a 0 (8 : Int32) w177.2.1).bind fun F199 =>
    (gI S182 9 a 0 F199).bind fun v201 =>
    (pI S182 9 a 1 ((1 : Int32) <<< (v201 &&& 31)) F199).bind fun F203 =>
    (gI S182 9 a 1 F203).bind fun v205 =>
    (pI S182 9 a 2 (v205 + (1 : Int32)) F203).bind fun F207 =>
    (xcl S182 9 a (f_Mo_clear S182 N a F207)).bind fun F209 =>
    some (S182, F209)
  else
  (pI S182 9 a 0 (2 : Int32) w177.2.1).bind fun F211 =>
  (gI S182 9 a 0 F211).bind fun v213 =>
  (pI S182 9 a 1 ((1 : Int32) <<< (v213 &&& 31)) F211).bind fun F215 =>
  (gI S182 9 a 1 F215).bind fun v217 =>
  (pI S182 9 a 2 (v217 + (1 : Int32)) F215).bind fun F219 =>
  (xcl S182 9 a (f_Mo_clear S182 N a F219)).bind fun F221 =>
  some (S182, F221)
set_option maxHeartbeats 4000000 in
theorem n_Mo_init {S : List xO} {N : Nat} {a : Nat} {p0 : Int32} {F : xF} {S2 : List xO} {F2 : xF} (h : f_Mo_init S N a p0 F = some (S2, F2)) : S2.length = S.length + 23 := by
  unfold f_Mo_init at h
  obtain ⟨⟨S1, F2, q3⟩, e4, h⟩ := Option.bind_eq_some_iff.mp h
  dsimp only at h
  have z5 : S1.length = S.length + 1 := nA_len e4
  obtain ⟨S6, e7, h⟩ := Option.bind_eq_some_iff.mp h
  have z8 : S6.length = S1.length := pR_len e7
  obtain ⟨⟨S9, F10, q11⟩, e12, h⟩ := Option.bind_eq_some_iff.mp h
  dsimp only at h
  have z13 : S9.length = S6.length + 1 := nA_len e12
  obtain ⟨S14, e15, h⟩ := Option.bind_eq_some_iff.mp h
  have z16 : S14.length = S9.length := pR_len e15
  obtain ⟨⟨S17, F18, q19⟩, e20, h⟩ := Option.bind_eq_some_iff.mp h
  dsimp only at h
  have z21 : S17.length = S14.length + 1 := nA_len e20
  obtain ⟨S22, e23, h⟩ := Option.bind_eq_some_iff.mp h
  have z24 : S22.length = S17.length := pR_len e23
  obtain ⟨⟨S25, F26, q27⟩, e28, h⟩ := Option.bind_eq_some_iff.mp h
  dsimp only at h
  have z29 : S25.length = S22.length + 1 := nA_len e28
  obtain ⟨S30, e31, h⟩ := Option.bind_eq_some_iff.mp h
  have z32 : S30.length = S25.length := pR_len e31
  obtain ⟨⟨S33, F34, q35⟩, e36, h⟩ := Option.bind_eq_some_iff.mp h
  dsimp only at h
  have z37 : S33.length = S30.length + 1 := nA_len e36
  obtain ⟨S38, e39, h⟩ := Option.bind_eq_some_iff.mp h
  have z40 : S38.length = S33.length := pR_len e39
  obtain ⟨⟨S41, F42, q43⟩, e44, h⟩ := Option.bind_eq_some_iff.mp h
  dsimp only at h
  have z45 : S41.length = S38.length + 1 := nA_len e44
  obtain ⟨S46, e47, h⟩ := Option.bind_eq_some_iff.mp h
  have z48 : S46.length = S41.length := pR_len e47
  obtain ⟨⟨S49, F50, q51⟩, e52, h⟩ := Option.bind_eq_some_iff.mp h
  dsimp only at h
  have z53 : S49.length = S46.length + 1 := nA_len e52
  obtain ⟨S54, e55, h⟩ := Option.bind_eq_some_iff.mp h
  have z56 : S54.length = S49.length := pR_len e55
  obtain ⟨⟨S57, F58, q59⟩, e60, h⟩ := Option.bind_eq_some_iff.mp h
  dsimp only at h
  have z61 : S57.length = S54.length + 1 := nA_len e60
  obtain ⟨S62, e63, h⟩ := Option.bind_eq_some_iff.mp h
  have z64 : S62.length = S57.length := pR_len e63
  obtain ⟨⟨S65, F66, q67⟩, e68, h⟩ := Option.bind_eq_some_iff.mp h
  dsimp only at h
  have z69 : S65.length = S62.length + 1 := nA_len e68
  obtain ⟨S70, e71, h⟩ := Option.bind_eq_some_iff.mp h
  have z72 : S70.length = S65.length := pR_len e71
  obtain ⟨⟨S73, F74, q75⟩, e76, h⟩ := Option.bind_eq_some_iff.mp h
  dsimp only at h
  have z77 : S73.length = S70.length + 1 := nA_len e76
  obtain ⟨S78, e79, h⟩ := Option.bind_eq_some_iff.mp h
  have z80 : S78.length = S73.length := pR_len e79
  obtain ⟨⟨S81, F82, q83⟩, e84, h⟩ := Option.bind_eq_some_iff.mp h
  dsimp only at h
  have z85 : S81.length = S78.length + 1 := nA_len e84
  obtain ⟨S86, e87, h⟩ := Option.bind_eq_some_iff.mp h
  have z88 : S86.length = S81.length := pR_len e87
  obtain ⟨⟨S89, F90, q91⟩, e92, h⟩ := Option.bind_eq_some_iff.mp h
  dsimp only at h
  have z93 : S89.length = S86.length + 1 := nA_len e92
  obtain ⟨S94, e95, h⟩ := Option.bind_eq_some_iff.mp h
  have z96 : S94.length = S89.length := pR_len e95
  obtain ⟨⟨S97, F98, q99⟩, e100, h⟩ := Option.bind_eq_some_iff.mp h
  dsimp only at h
  have z101 : S97.length = S94.length + 1 := nA_len e100
  obtain ⟨S102, e103, h⟩ := Option.bind_eq_some_iff.mp h
  have z104 : S102.length = S97.length := pR_len e103
  obtain ⟨⟨S105, F106, q107⟩, e108, h⟩ := Option.bind_eq_some_iff.mp h
  dsimp only at h
  have z109 : S105.length = S102.length + 1 := nA_len e108
  obtain ⟨S110, e111, h⟩ := Option.bind_eq_some_iff.mp h
  have z112 : S110.length = S105.length := pR_len e111
  obtain ⟨⟨S113, F114, q115⟩, e116, h⟩ := Option.bind_eq_some_iff.mp h
  dsimp only at h
  have z117 : S113.length = S110.length + 1 := nA_len e116
  obtain ⟨S118, e119, h⟩ := Option.bind_eq_some_iff.mp h
  have z120 : S118.length = S113.length := pR_len e119
  obtain ⟨⟨S121, F122, q123⟩, e124, h⟩ := Option.bind_eq_some_iff.mp h
  dsimp only at h
  have z125 : S121.length = S118.length + 1 := nA_len e124
  obtain ⟨S126, e127, h⟩ := Option.bind_eq_some_iff.mp h
  have z128 : S126.length = S121.length := pR_len e127
  obtain ⟨⟨S129, F130, q131⟩, e132, h⟩ := Option.bind_eq_some_iff.mp h
  dsimp only at h
  have z133 : S129.length = S126.length + 1 := nA_len e132
  obtain ⟨S134, e135, h⟩ := Option.bind_eq_some_iff.mp h
  have z136 : S134.length = S129.length := pR_len e135
  obtain ⟨⟨S137, F138, q139⟩, e140, h⟩ := Option.bind_eq_some_iff.mp h
  dsimp only at h
  have z141 : S137.length = S134.length + 1 := nA_len e140
  obtain ⟨S142, e143, h⟩ := Option.bind_eq_some_iff.mp h
  have z144 : S142.length = S137.length := pR_len e143
  obtain ⟨⟨S145, F146, q147⟩, e148, h⟩ := Option.bind_eq_some_iff.mp h
  dsimp only at h
  have z149 : S145.length = S142.length + 1 := nA_len e148
  obtain ⟨S150, e151, h⟩ := Option.bind_eq_some_iff.mp h
  have z152 : S150.length = S145.length := pR_len e151
  obtain ⟨⟨S153, F154, q155⟩, e156, h⟩ := Option.bind_eq_some_iff.mp h
  dsimp only at h
  have z157 : S153.length = S150.length + 1 := nA_len e156
  obtain ⟨S158, e159, h⟩ := Option.bind_eq_some_iff.mp h
  have z160 : S158.length = S153.length := pR_len e159
  obtain ⟨⟨S161, F162, q163⟩, e164, h⟩ := Option.bind_eq_some_iff.mp h
  dsimp only at h
  have z165 : S161.length = S158.length + 1 := nA_len e164
  obtain ⟨S166, e167, h⟩ := Option.bind_eq_some_iff.mp h
  have z168 : S166.length = S161.length := pR_len e167
  obtain ⟨⟨S169, F170, q171⟩, e172, h⟩ := Option.bind_eq_some_iff.mp h
  dsimp only at h
  have z173 : S169.length = S166.length + 1 := nA_len e172
  obtain ⟨S174, e175, h⟩ := Option.bind_eq_some_iff.mp h
  have z176 : S174.length = S169.length := pR_len e175
  obtain ⟨⟨S177, F178, q179⟩, e180, h⟩ := Option.bind_eq_some_iff.mp h
  dsimp only at h
  have z181 : S177.length = S174.length + 1 := nA_len e180
  obtain ⟨S182, e183, h⟩ := Option.bind_eq_some_iff.mp h
  have z184 : S182.length = S177.length := pR_len e183
  split at h
  · skip
    split at h
    · skip
      obtain ⟨F187, e188, h⟩ := Option.bind_eq_some_iff.mp h
      obtain ⟨v189, e190, h⟩ := Option.bind_eq_some_iff.mp h
      obtain ⟨F191, e192, h⟩ := Option.bind_eq_some_iff.mp h
      obtain ⟨v193, e194, h⟩ := Option.bind_eq_some_iff.mp h
      obtain ⟨F195, e196, h⟩ := Option.bind_eq_some_iff.mp h
      obtain ⟨F197, e198, h⟩ := Option.bind_eq_some_iff.mp h
      obtain ⟨⟨fs_e198, s_e198⟩, e198⟩ := xcl_spec e198
      obtain ⟨rfl, rfl⟩ := Prod.mk.inj (Option.some.inj h)
      omega
    · skip
      obtain ⟨F199, e200, h⟩ := Option.bind_eq_some_iff.mp h
      obtain ⟨v201, e202, h⟩ := Option.bind_eq_some_iff.mp h
      obtain ⟨F203, e204, h⟩ := Option.bind_eq_some_iff.mp h
      obtain ⟨v205, e206, h⟩ := Option.bind_eq_some_iff.mp h
      obtain ⟨F207, e208, h⟩ := Option.bind_eq_some_iff.mp h
      obtain ⟨F209, e210, h⟩ := Option.bind_eq_some_iff.mp h
      obtain ⟨⟨fs_e210, s_e210⟩, e210⟩ := xcl_spec e210
      obtain ⟨rfl, rfl⟩ := Prod.mk.inj (Option.some.inj h)
      omega
  · skip
    obtain ⟨F211, e212, h⟩ := Option.bind_eq_some_iff.mp h
    obtain ⟨v213, e214, h⟩ := Option.bind_eq_some_iff.mp h
    obtain ⟨F215, e216, h⟩ := Option.bind_eq_some_iff.mp h
    obtain ⟨v217, e218, h⟩ := Option.bind_eq_some_iff.mp h
    obtain ⟨F219, e220, h⟩ := Option.bind_eq_some_iff.mp h
    obtain ⟨F221, e222, h⟩ := Option.bind_eq_some_iff.mp h
    obtain ⟨⟨fs_e222, s_e222⟩, e222⟩ := xcl_spec e222
    obtain ⟨rfl, rfl⟩ := Prod.mk.inj (Option.some.inj h)
    omega
set_option maxHeartbeats 4000000 in
set_option maxRecDepth 100000 in
theorem c_Mo_init {l : Launch} {g : xG} {S : List xO} {G : xL} {a : Nat} {p0 : Int32} {N : Nat} {F : xF} {S2 : List xO} {F2 : xF} (h : f_Mo_init S N a p0 F = some (S2, F2)) : CT l g 1 21 23 105112 y_Mo_init b_Mo_init 2 none 0 [.ref a, .int p0] S F G none S2 F2 G := by
  refine CT.of [some (.ref a), some (.int p0)] (by decide) (Nat.le_of_ble_eq_true rfl) rfl ?_
  intro p e s m args below meth c C hr hmn hz
  have hz0 : s.heap.size = g.1 + S.length := hz rfl
  unfold f_Mo_init at h
  refine V.aload_n C 0 rfl rfl d_Mo_init_0 ?_
  refine V.objInit C oi_Mo_1 (by decide) d_Mo_init_1 ?_
  refine V.aload_n C 0 rfl rfl d_Mo_init_4 ?_
  refine V.sipush C 12000 (by decide) d_Mo_init_5 ?_
  obtain ⟨⟨S1, F2, q3⟩, e4, h⟩ := Option.bind_eq_some_iff.mp h
  dsimp only at h
  refine V.xnewI C (by omega) gw_80 (by decide) e4 (by decide) d_Mo_init_8 ?_
  have z5 : S1.length = S.length + 1 := nA_len e4
  obtain ⟨S6, e7, h⟩ := Option.bind_eq_some_iff.mp h
  refine V.xputRF C hmn fl_Mo_7 ft_9 rf_Mo_7 e7 d_Mo_init_10 ?_
  have z8 : S6.length = S1.length := pR_len e7
  refine V.aload_n C 0 rfl rfl d_Mo_init_13 ?_
  refine V.sipush C 24000 (by decide) d_Mo_init_14 ?_
  obtain ⟨⟨S9, F10, q11⟩, e12, h⟩ := Option.bind_eq_some_iff.mp h
  dsimp only at h
  refine V.xnewB C (by omega) gw_538 (by decide) e12 (by decide) d_Mo_init_17 ?_
  have z13 : S9.length = S6.length + 1 := nA_len e12
  obtain ⟨S14, e15, h⟩ := Option.bind_eq_some_iff.mp h
  refine V.xputRF C hmn fl_Mo_13 ft_9 rf_Mo_13 e15 d_Mo_init_19 ?_
  have z16 : S14.length = S9.length := pR_len e15
  refine V.aload_n C 0 rfl rfl d_Mo_init_22 ?_
  refine V.iconst C 4 (by decide) d_Mo_init_23 ?_
  obtain ⟨⟨S17, F18, q19⟩, e20, h⟩ := Option.bind_eq_some_iff.mp h
  dsimp only at h
  refine V.xnewI C (by omega) gw_80 (by decide) e20 (by decide) d_Mo_init_24 ?_
  have z21 : S17.length = S14.length + 1 := nA_len e20
  obtain ⟨S22, e23, h⟩ := Option.bind_eq_some_iff.mp h
  refine V.xputRF C hmn fl_Mo_17 ft_9 rf_Mo_17 e23 d_Mo_init_26 ?_
  have z24 : S22.length = S17.length := pR_len e23
  refine V.aload_n C 0 rfl rfl d_Mo_init_29 ?_
  refine V.sipush C 24000 (by decide) d_Mo_init_30 ?_
  obtain ⟨⟨S25, F26, q27⟩, e28, h⟩ := Option.bind_eq_some_iff.mp h
  dsimp only at h
  refine V.xnewB C (by omega) gw_538 (by decide) e28 (by decide) d_Mo_init_33 ?_
  have z29 : S25.length = S22.length + 1 := nA_len e28
  obtain ⟨S30, e31, h⟩ := Option.bind_eq_some_iff.mp h
  refine V.xputRF C hmn fl_Mo_20 ft_9 rf_Mo_20 e31 d_Mo_init_35 ?_
  have z32 : S30.length = S25.length := pR_len e31
  refine V.aload_n C 0 rfl rfl d_Mo_init_38 ?_
  refine V.sipush C 12000 (by decide) d_Mo_init_39 ?_
  obtain ⟨⟨S33, F34, q35⟩, e36, h⟩ := Option.bind_eq_some_iff.mp h
  dsimp only at h
  refine V.xnewI C (by omega) gw_80 (by decide) e36 (by decide) d_Mo_init_42 ?_
  have z37 : S33.length = S30.length + 1 := nA_len e36
  obtain ⟨S38, e39, h⟩ := Option.bind_eq_some_iff.mp h
  refine V.xputRF C hmn fl_Mo_23 ft_9 rf_Mo_23 e39 d_Mo_init_44 ?_
  have z40 : S38.length = S33.length := pR_len e39
  refine V.aload_n C 0 rfl rfl d_Mo_init_47 ?_
  refine V.sipush C 4096 (by decide) d_Mo_init_48 ?_
  obtain ⟨⟨S41, F42, q43⟩, e44, h⟩ := Option.bind_eq_some_iff.mp h
  dsimp only at h
  refine V.xnewI C (by omega) gw_80 (by decide) e44 (by decide) d_Mo_init_51 ?_
  have z45 : S41.length = S38.length + 1 := nA_len e44
  obtain ⟨S46, e47, h⟩ := Option.bind_eq_some_iff.mp h
  refine V.xputRF C hmn fl_Mo_26 ft_9 rf_Mo_26 e47 d_Mo_init_53 ?_
  have z48 : S46.length = S41.length := pR_len e47
  refine V.aload_n C 0 rfl rfl d_Mo_init_56 ?_
  refine V.sipush C 4096 (by decide) d_Mo_init_57 ?_
  obtain ⟨⟨S49, F50, q51⟩, e52, h⟩ := Option.bind_eq_some_iff.mp h
  dsimp only at h
  refine V.xnewI C (by omega) gw_80 (by decide) e52 (by decide) d_Mo_init_60 ?_
  have z53 : S49.length = S46.length + 1 := nA_len e52
  obtain ⟨S54, e55, h⟩ := Option.bind_eq_some_iff.mp h
  refine V.xputRF C hmn fl_Mo_29 ft_9 rf_Mo_29 e55 d_Mo_init_62 ?_
  have z56 : S54.length = S49.length := pR_len e55
  refine V.aload_n C 0 rfl rfl d_Mo_init_65 ?_
  refine V.sipush C 4096 (by decide) d_Mo_init_66 ?_
  obtain ⟨⟨S57, F58, q59⟩, e60, h⟩ := Option.bind_eq_some_iff.mp h
  dsimp only at h
  refine V.xnewI C (by omega) gw_80 (by decide) e60 (by decide) d_Mo_init_69 ?_
  have z61 : S57.length = S54.length + 1 := nA_len e60
  obtain ⟨S62, e63, h⟩ := Option.bind_eq_some_iff.mp h
  refine V.xputRF C hmn fl_Mo_32 ft_9 rf_Mo_32 e63 d_Mo_init_71 ?_
  have z64 : S62.length = S57.length := pR_len e63
  refine V.aload_n C 0 rfl rfl d_Mo_init_74 ?_
  refine V.sipush C 4096 (by decide) d_Mo_init_75 ?_
  obtain ⟨⟨S65, F66, q67⟩, e68, h⟩ := Option.bind_eq_some_iff.mp h
  dsimp only at h
  refine V.xnewI C (by omega) gw_80 (by decide) e68 (by decide) d_Mo_init_78 ?_
  have z69 : S65.length = S62.length + 1 := nA_len e68
  obtain ⟨S70, e71, h⟩ := Option.bind_eq_some_iff.mp h
  refine V.xputRF C hmn fl_Mo_35 ft_9 rf_Mo_35 e71 d_Mo_init_80 ?_
  have z72 : S70.length = S65.length := pR_len e71
  refine V.aload_n C 0 rfl rfl d_Mo_init_83 ?_
  refine V.sipush C 4096 (by decide) d_Mo_init_84 ?_
  obtain ⟨⟨S73, F74, q75⟩, e76, h⟩ := Option.bind_eq_some_iff.mp h
  dsimp only at h
  refine V.xnewI C (by omega) gw_80 (by decide) e76 (by decide) d_Mo_init_87 ?_
  have z77 : S73.length = S70.length + 1 := nA_len e76
  obtain ⟨S78, e79, h⟩ := Option.bind_eq_some_iff.mp h
  refine V.xputRF C hmn fl_Mo_38 ft_9 rf_Mo_38 e79 d_Mo_init_89 ?_
  have z80 : S78.length = S73.length := pR_len e79
  refine V.aload_n C 0 rfl rfl d_Mo_init_92 ?_
  refine V.bipush C 12 (by decide) d_Mo_init_93 ?_
  obtain ⟨⟨S81, F82, q83⟩, e84, h⟩ := Option.bind_eq_some_iff.mp h
  dsimp only at h
  refine V.xnewI C (by omega) gw_80 (by decide) e84 (by decide) d_Mo_init_95 ?_
  have z85 : S81.length = S78.length + 1 := nA_len e84
  obtain ⟨S86, e87, h⟩ := Option.bind_eq_some_iff.mp h
  refine V.xputRF C hmn fl_Mo_41 ft_9 rf_Mo_41 e87 d_Mo_init_97 ?_
  have z88 : S86.length = S81.length := pR_len e87
  refine V.aload_n C 0 rfl rfl d_Mo_init_100 ?_
  refine V.bipush C 12 (by decide) d_Mo_init_101 ?_
  obtain ⟨⟨S89, F90, q91⟩, e92, h⟩ := Option.bind_eq_some_iff.mp h
  dsimp only at h
  refine V.xnewI C (by omega) gw_80 (by decide) e92 (by decide) d_Mo_init_103 ?_
  have z93 : S89.length = S86.length + 1 := nA_len e92
  obtain ⟨S94, e95, h⟩ := Option.bind_eq_some_iff.mp h
  refine V.xputRF C hmn fl_Mo_44 ft_9 rf_Mo_44 e95 d_Mo_init_105 ?_
  have z96 : S94.length = S89.length := pR_len e95
  refine V.aload_n C 0 rfl rfl d_Mo_init_108 ?_
  refine V.bipush C 12 (by decide) d_Mo_init_109 ?_
  obtain ⟨⟨S97, F98, q99⟩, e100, h⟩ := Option.bind_eq_some_iff.mp h
  dsimp only at h
  refine V.xnewI C (by omega) gw_80 (by decide) e100 (by decide) d_Mo_init_111 ?_
  have z101 : S97.length = S94.length + 1 := nA_len e100
  obtain ⟨S102, e103, h⟩ := Option.bind_eq_some_iff.mp h
  refine V.xputRF C hmn fl_Mo_47 ft_9 rf_Mo_47 e103 d_Mo_init_113 ?_
  have z104 : S102.length = S97.length := pR_len e103
  refine V.aload_n C 0 rfl rfl d_Mo_init_116 ?_
  refine V.bipush C 12 (by decide) d_Mo_init_117 ?_
  obtain ⟨⟨S105, F106, q107⟩, e108, h⟩ := Option.bind_eq_some_iff.mp h
  dsimp only at h
  refine V.xnewI C (by omega) gw_80 (by decide) e108 (by decide) d_Mo_init_119 ?_
  have z109 : S105.length = S102.length + 1 := nA_len e108
  obtain ⟨S110, e111, h⟩ := Option.bind_eq_some_iff.mp h
  refine V.xputRF C hmn fl_Mo_50 ft_9 rf_Mo_50 e111 d_Mo_init_121 ?_
  have z112 : S110.length = S105.length := pR_len e111
  refine V.aload_n C 0 rfl rfl d_Mo_init_124 ?_
  refine V.bipush C 12 (by decide) d_Mo_init_125 ?_
  obtain ⟨⟨S113, F114, q115⟩, e116, h⟩ := Option.bind_eq_some_iff.mp h
  dsimp only at h
  refine V.xnewI C (by omega) gw_80 (by decide) e116 (by decide) d_Mo_init_127 ?_
  have z117 : S113.length = S110.length + 1 := nA_len e116
  obtain ⟨S118, e119, h⟩ := Option.bind_eq_some_iff.mp h
  refine V.xputRF C hmn fl_Mo_53 ft_9 rf_Mo_53 e119 d_Mo_init_129 ?_
  have z120 : S118.length = S113.length := pR_len e119
  refine V.aload_n C 0 rfl rfl d_Mo_init_132 ?_
  refine V.bipush C 12 (by decide) d_Mo_init_133 ?_
  obtain ⟨⟨S121, F122, q123⟩, e124, h⟩ := Option.bind_eq_some_iff.mp h
  dsimp only at h
  refine V.xnewI C (by omega) gw_80 (by decide) e124 (by decide) d_Mo_init_135 ?_
  have z125 : S121.length = S118.length + 1 := nA_len e124
  obtain ⟨S126, e127, h⟩ := Option.bind_eq_some_iff.mp h
  refine V.xputRF C hmn fl_Mo_56 ft_9 rf_Mo_56 e127 d_Mo_init_137 ?_
  have z128 : S126.length = S121.length := pR_len e127
  refine V.aload_n C 0 rfl rfl d_Mo_init_140 ?_
  refine V.bipush C 12 (by decide) d_Mo_init_141 ?_
  obtain ⟨⟨S129, F130, q131⟩, e132, h⟩ := Option.bind_eq_some_iff.mp h
  dsimp only at h
  refine V.xnewI C (by omega) gw_80 (by decide) e132 (by decide) d_Mo_init_143 ?_
  have z133 : S129.length = S126.length + 1 := nA_len e132
  obtain ⟨S134, e135, h⟩ := Option.bind_eq_some_iff.mp h
  refine V.xputRF C hmn fl_Mo_59 ft_9 rf_Mo_59 e135 d_Mo_init_145 ?_
  have z136 : S134.length = S129.length := pR_len e135
  refine V.aload_n C 0 rfl rfl d_Mo_init_148 ?_
  refine V.sipush C 6912 (by decide) d_Mo_init_149 ?_
  obtain ⟨⟨S137, F138, q139⟩, e140, h⟩ := Option.bind_eq_some_iff.mp h
  dsimp only at h
  refine V.xnewI C (by omega) gw_80 (by decide) e140 (by decide) d_Mo_init_152 ?_
  have z141 : S137.length = S134.length + 1 := nA_len e140
  obtain ⟨S142, e143, h⟩ := Option.bind_eq_some_iff.mp h
  refine V.xputRF C hmn fl_Mo_62 ft_9 rf_Mo_62 e143 d_Mo_init_154 ?_
  have z144 : S142.length = S137.length := pR_len e143
  refine V.aload_n C 0 rfl rfl d_Mo_init_157 ?_
  refine V.sipush C 3328 (by decide) d_Mo_init_158 ?_
  obtain ⟨⟨S145, F146, q147⟩, e148, h⟩ := Option.bind_eq_some_iff.mp h
  dsimp only at h
  refine V.xnewI C (by omega) gw_80 (by decide) e148 (by decide) d_Mo_init_161 ?_
  have z149 : S145.length = S142.length + 1 := nA_len e148
  obtain ⟨S150, e151, h⟩ := Option.bind_eq_some_iff.mp h
  refine V.xputRF C hmn fl_Mo_65 ft_9 rf_Mo_65 e151 d_Mo_init_163 ?_
  have z152 : S150.length = S145.length := pR_len e151
  refine V.aload_n C 0 rfl rfl d_Mo_init_166 ?_
  refine V.sipush C 576 (by decide) d_Mo_init_167 ?_
  obtain ⟨⟨S153, F154, q155⟩, e156, h⟩ := Option.bind_eq_some_iff.mp h
  dsimp only at h
  refine V.xnewI C (by omega) gw_80 (by decide) e156 (by decide) d_Mo_init_170 ?_
  have z157 : S153.length = S150.length + 1 := nA_len e156
  obtain ⟨S158, e159, h⟩ := Option.bind_eq_some_iff.mp h
  refine V.xputRF C hmn fl_Mo_68 ft_9 rf_Mo_68 e159 d_Mo_init_172 ?_
  have z160 : S158.length = S153.length := pR_len e159
  refine V.aload_n C 0 rfl rfl d_Mo_init_175 ?_
  refine V.sipush C 576 (by decide) d_Mo_init_176 ?_
  obtain ⟨⟨S161, F162, q163⟩, e164, h⟩ := Option.bind_eq_some_iff.mp h
  dsimp only at h
  refine V.xnewI C (by omega) gw_80 (by decide) e164 (by decide) d_Mo_init_179 ?_
  have z165 : S161.length = S158.length + 1 := nA_len e164
  obtain ⟨S166, e167, h⟩ := Option.bind_eq_some_iff.mp h
  refine V.xputRF C hmn fl_Mo_71 ft_9 rf_Mo_71 e167 d_Mo_init_181 ?_
  have z168 : S166.length = S161.length := pR_len e167
  refine V.aload_n C 0 rfl rfl d_Mo_init_184 ?_
  refine V.sipush C 576 (by decide) d_Mo_init_185 ?_
  obtain ⟨⟨S169, F170, q171⟩, e172, h⟩ := Option.bind_eq_some_iff.mp h
  dsimp only at h
  refine V.xnewI C (by omega) gw_80 (by decide) e172 (by decide) d_Mo_init_188 ?_
  have z173 : S169.length = S166.length + 1 := nA_len e172
  obtain ⟨S174, e175, h⟩ := Option.bind_eq_some_iff.mp h
  refine V.xputRF C hmn fl_Mo_74 ft_9 rf_Mo_74 e175 d_Mo_init_190 ?_
  have z176 : S174.length = S169.length := pR_len e175
  refine V.aload_n C 0 rfl rfl d_Mo_init_193 ?_
  refine V.sipush C 576 (by decide) d_Mo_init_194 ?_
  obtain ⟨⟨S177, F178, q179⟩, e180, h⟩ := Option.bind_eq_some_iff.mp h
  dsimp only at h
  refine V.xnewI C (by omega) gw_80 (by decide) e180 (by decide) d_Mo_init_197 ?_
  have z181 : S177.length = S174.length + 1 := nA_len e180
  obtain ⟨S182, e183, h⟩ := Option.bind_eq_some_iff.mp h
  refine V.xputRF C hmn fl_Mo_77 ft_9 rf_Mo_77 e183 d_Mo_init_199 ?_
  have z184 : S182.length = S177.length := pR_len e183
  refine V.aload_n C 0 rfl rfl d_Mo_init_202 ?_
  refine V.iload_n C 1 rfl rfl d_Mo_init_203 ?_
  refine V.iconst C 2 (by decide) d_Mo_init_204 ?_
  refine V.icmp_ge C 212 (by decide) d_Mo_init_205 (fun c185 => ?_) (fun c185 => ?_)
  · rw [if_pos c185] at h
    refine V.iload_n C 1 rfl rfl d_Mo_init_212 ?_
    refine V.bipush C 8 (by decide) d_Mo_init_213 ?_
    refine V.icmp_le C 223 (by decide) d_Mo_init_215 (fun c186 => ?_) (fun c186 => ?_)
    · rw [if_pos c186] at h
      refine V.iload_n C 1 rfl rfl d_Mo_init_223 ?_
      obtain ⟨F187, e188, h⟩ := Option.bind_eq_some_iff.mp h
      refine V.xputIF C hmn fl_Mo_80 ft_9 if_Mo_80 e188 d_Mo_init_224 ?_
      refine V.aload_n C 0 rfl rfl d_Mo_init_227 ?_
      refine V.iconst C 1 (by decide) d_Mo_init_228 ?_
      refine V.aload_n C 0 rfl rfl d_Mo_init_229 ?_
      obtain ⟨v189, e190, h⟩ := Option.bind_eq_some_iff.mp h
      refine V.xgetI C fl_Mo_80 e190 d_Mo_init_230 ?_
      refine V.ishl C d_Mo_init_233 ?_
      obtain ⟨F191, e192, h⟩ := Option.bind_eq_some_iff.mp h
      refine V.xputIF C hmn fl_Mo_84 ft_9 if_Mo_84 e192 d_Mo_init_234 ?_
      refine V.aload_n C 0 rfl rfl d_Mo_init_237 ?_
      refine V.aload_n C 0 rfl rfl d_Mo_init_238 ?_
      obtain ⟨v193, e194, h⟩ := Option.bind_eq_some_iff.mp h
      refine V.xgetI C fl_Mo_84 e194 d_Mo_init_239 ?_
      refine V.iconst C 1 (by decide) d_Mo_init_242 ?_
      refine V.iadd C d_Mo_init_243 ?_
      obtain ⟨F195, e196, h⟩ := Option.bind_eq_some_iff.mp h
      refine V.xputIF C hmn fl_Mo_87 ft_9 if_Mo_87 e196 d_Mo_init_244 ?_
      refine V.aload_n C 0 rfl rfl d_Mo_init_247 ?_
      obtain ⟨F197, e198, h⟩ := Option.bind_eq_some_iff.mp h
      obtain ⟨⟨fs_e198, s_e198⟩, e198⟩ := xcl_spec e198
      refine V.cVv C (c_Mo_clear e198) ml_Mo_90 s_e198 rfl rfl (by decide) (Nat.le_of_ble_eq_true rfl) d_Mo_init_248 ?_
      obtain ⟨rfl, rfl⟩ := Prod.mk.inj (Option.some.inj h)
      exact V.vret C hr d_Mo_init_251 rfl rfl rfl
    · rw [if_neg c186] at h
      refine V.bipush C 8 (by decide) d_Mo_init_218 ?_
      refine V.goto C 224 (by decide) d_Mo_init_220 ?_
      obtain ⟨F199, e200, h⟩ := Option.bind_eq_some_iff.mp h
      refine V.xputIF C hmn fl_Mo_80 ft_9 if_Mo_80 e200 d_Mo_init_224 ?_
      refine V.aload_n C 0 rfl rfl d_Mo_init_227 ?_
      refine V.iconst C 1 (by decide) d_Mo_init_228 ?_
      refine V.aload_n C 0 rfl rfl d_Mo_init_229 ?_
      obtain ⟨v201, e202, h⟩ := Option.bind_eq_some_iff.mp h
      refine V.xgetI C fl_Mo_80 e202 d_Mo_init_230 ?_
      refine V.ishl C d_Mo_init_233 ?_
      obtain ⟨F203, e204, h⟩ := Option.bind_eq_some_iff.mp h
      refine V.xputIF C hmn fl_Mo_84 ft_9 if_Mo_84 e204 d_Mo_init_234 ?_
      refine V.aload_n C 0 rfl rfl d_Mo_init_237 ?_
      refine V.aload_n C 0 rfl rfl d_Mo_init_238 ?_
      obtain ⟨v205, e206, h⟩ := Option.bind_eq_some_iff.mp h
      refine V.xgetI C fl_Mo_84 e206 d_Mo_init_239 ?_
      refine V.iconst C 1 (by decide) d_Mo_init_242 ?_
      refine V.iadd C d_Mo_init_243 ?_
      obtain ⟨F207, e208, h⟩ := Option.bind_eq_some_iff.mp h
      refine V.xputIF C hmn fl_Mo_87 ft_9 if_Mo_87 e208 d_Mo_init_244 ?_
      refine V.aload_n C 0 rfl rfl d_Mo_init_247 ?_
      obtain ⟨F209, e210, h⟩ := Option.bind_eq_some_iff.mp h
      obtain ⟨⟨fs_e210, s_e210⟩, e210⟩ := xcl_spec e210
      refine V.cVv C (c_Mo_clear e210) ml_Mo_90 s_e210 rfl rfl (by decide) (Nat.le_of_ble_eq_true rfl) d_Mo_init_248 ?_
      obtain ⟨rfl, rfl⟩ := Prod.mk.inj (Option.some.inj h)
      exact V.vret C hr d_Mo_init_251 rfl rfl rfl
  · rw [if_neg c185] at h
    refine V.iconst C 2 (by decide) d_Mo_init_208 ?_
    refine V.goto C 224 (by decide) d_Mo_init_209 ?_
    obtain ⟨F211, e212, h⟩ := Option.bind_eq_some_iff.mp h
    refine V.xputIF C hmn fl_Mo_80 ft_9 if_Mo_80 e212 d_Mo_init_224 ?_
    refine V.aload_n C 0 rfl rfl d_Mo_init_227 ?_
    refine V.iconst C 1 (by decide) d_Mo_init_228 ?_
    refine V.aload_n C 0 rfl rfl d_Mo_init_229 ?_
    obtain ⟨v213, e214, h⟩ := Option.bind_eq_some_iff.mp h
    refine V.xgetI C fl_Mo_80 e214 d_Mo_init_230 ?_
    refine V.ishl C d_Mo_init_233 ?_
    obtain ⟨F215, e216, h⟩ := Option.bind_eq_some_iff.mp h
    refine V.xputIF C hmn fl_Mo_84 ft_9 if_Mo_84 e216 d_Mo_init_234 ?_
    refine V.aload_n C 0 rfl rfl d_Mo_init_237 ?_
    refine V.aload_n C 0 rfl rfl d_Mo_init_238 ?_
    obtain ⟨v217, e218, h⟩ := Option.bind_eq_some_iff.mp h
    refine V.xgetI C fl_Mo_84 e218 d_Mo_init_239 ?_
    refine V.iconst C 1 (by decide) d_Mo_init_242 ?_
    refine V.iadd C d_Mo_init_243 ?_
    obtain ⟨F219, e220, h⟩ := Option.bind_eq_some_iff.mp h
    refine V.xputIF C hmn fl_Mo_87 ft_9 if_Mo_87 e220 d_Mo_init_244 ?_
    refine V.aload_n C 0 rfl rfl d_Mo_init_247 ?_
    obtain ⟨F221, e222, h⟩ := Option.bind_eq_some_iff.mp h
    obtain ⟨⟨fs_e222, s_e222⟩, e222⟩ := xcl_spec e222
    refine V.cVv C (c_Mo_clear e222) ml_Mo_90 s_e222 rfl rfl (by decide) (Nat.le_of_ble_eq_true rfl) d_Mo_init_248 ?_
    obtain ⟨rfl, rfl⟩ := Prod.mk.inj (Option.some.inj h)
    exact V.vret C hr d_Mo_init_251 rfl rfl rfl
