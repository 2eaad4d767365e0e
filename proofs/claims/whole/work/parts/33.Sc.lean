def f_Sc_one (S : List xO) (N : Nat) (a : Nat) (p0 i : Int32) (F : xF) : Option (List xO × xF) :=
  (gR S 7 a 0).bind fun q =>
  (nO S 6 [some .null, some .null, none, none, none, none, none, none, none] F).bind fun ⟨S1, F1, q1⟩ =>
  (f_Fr_init S1 N q1 p0 F1).bind fun ⟨S2, F2⟩ =>
  (rP S2 q i 6 q1).bind fun S3 =>
  some (S3, F2)
theorem n_Sc_one {S : List xO} {N a : Nat} {p0 i : Int32} {F : xF} {S9 : List xO} {F9 : xF} (h : f_Sc_one S N a p0 i F = some (S9, F9)) : S9.length = S.length + 4 := by
  unfold f_Sc_one at h
  obtain ⟨q, e1, h⟩ := Option.bind_eq_some_iff.mp h
  obtain ⟨⟨S1, F1, q1⟩, e2, h⟩ := Option.bind_eq_some_iff.mp h
  dsimp only at h
  obtain ⟨⟨S2, F2⟩, e3, h⟩ := Option.bind_eq_some_iff.mp h
  dsimp only at h
  obtain ⟨S3, e4, h⟩ := Option.bind_eq_some_iff.mp h
  obtain ⟨rfl, rfl⟩ := Prod.mk.inj (Option.some.inj h)
  have z1 := nO_len e2
  have z2 := n_Fr_init e3
  have z3 := rP_len e4
  omega
set_option maxHeartbeats 4000000 in
set_option maxRecDepth 100000 in
theorem o_Sc_one {p : Program} {l : Launch} {e : Env} {R : Room} {s : State} {m : MethodId} {args : Array Value} {below : List Frame} {meth : Method} {c : Code} {Q : State → Prop} {g : xG} {G : xL} (C : Cx p s m args meth c b_Sc_init 3 "PaletteFrames$Screen" g) {S : List xO} {N a : Nat} {p0 i j : Int32} {F : xF} {S9 : List xO} {F9 : xF} {ce sl : Nat} (hz : s.heap.size + ce = g.1 + S.length) (hi : ¬ (12 : Int32) ≤ i) (hj : i + 1 = j) (hR : 3 ≤ R.frames ∧ 65 ≤ R.locals ∧ ce + 4 ≤ R.cells ∧ sl + 842 ≤ R.slots) (h : f_Sc_one S N a p0 i F = some (S9, F9))
    (kk : V p l e R s m args below meth c Q 3 g S9 F9 G (ce + 4) (sl + 842) 27 [some (.ref a), some (.int p0), some (.int j)] []) : V p l e R s m args below meth c Q 3 g S F G ce sl 27 [some (.ref a), some (.int p0), some (.int i)] [] := by
  unfold f_Sc_one at h
  refine V.iload_n C 2 rfl rfl d_Sc_init_27 ?_
  refine V.bipush C 12 (by decide) d_Sc_init_28 ?_
  refine V.icmp_ge C 53 (by decide) d_Sc_init_30 (fun c3 => absurd c3 hi) (fun c3 => ?_)
  refine V.aload_n C 0 rfl rfl d_Sc_init_33 ?_
  obtain ⟨q, e1, h⟩ := Option.bind_eq_some_iff.mp h
  refine V.xgetR C fl_Sc_11 e1 d_Sc_init_34 ?_
  refine V.iload_n C 2 rfl rfl d_Sc_init_37 ?_
  obtain ⟨⟨S1, F1, q1⟩, e2, h⟩ := Option.bind_eq_some_iff.mp h
  dsimp only at h
  refine V.xnewO C hz no_Sc_9 e2 ⟨by omega, by omega⟩ d_Sc_init_38 ?_
  have z1 := nO_len e2
  refine V.dup C rfl d_Sc_init_41 ?_
  refine V.iload_n C 1 rfl rfl d_Sc_init_42 ?_
  obtain ⟨⟨S2, F2⟩, e3, h⟩ := Option.bind_eq_some_iff.mp h
  dsimp only at h
  have z2 := n_Fr_init e3
  refine V.cIv C (c_Fr_init e3) ci_Sc_26 rfl rfl (by omega) ⟨by omega, by omega, by omega, by omega⟩ (Nat.le_of_ble_eq_true rfl) d_Sc_init_43 ?_
  obtain ⟨S3, e4, h⟩ := Option.bind_eq_some_iff.mp h
  obtain ⟨rfl, rfl⟩ := Prod.mk.inj (Option.some.inj h)
  refine V.xaast C (T := T_6) (N := 9) rfl e4 d_Sc_init_46 ?_
  refine V.inc2 C 1 (by decide) (by decide) rfl d_Sc_init_47 ?_
  refine V.goto C 27 (by decide) d_Sc_init_50 ?_
  subst hj
  exact kk
def f_Sc_init (S : List xO) (N : Nat) (a : Nat) (p0 : Int32) (F : xF) : Option (List xO × xF) :=
  (nQ S 12 (12 : Int32)).bind fun ⟨S1, q1⟩ =>
  (pR S1 7 a 0 q1).bind fun S2 =>
  (nO S2 5 [some .null] F).bind fun ⟨S3, F3, q3⟩ =>
  (f_Pa_init S3 N q3 p0 F3).bind fun ⟨S4, F4⟩ =>
  (pR S4 7 a 1 q3).bind fun S5 =>
  (f_Sc_one S5 N a p0 (0 : Int32) F4).bind fun ⟨T0, H0⟩ =>
  (f_Sc_one T0 N a p0 (1 : Int32) H0).bind fun ⟨T1, H1⟩ =>
  (f_Sc_one T1 N a p0 (2 : Int32) H1).bind fun ⟨T2, H2⟩ =>
  (f_Sc_one T2 N a p0 (3 : Int32) H2).bind fun ⟨T3, H3⟩ =>
  (f_Sc_one T3 N a p0 (4 : Int32) H3).bind fun ⟨T4, H4⟩ =>
  (f_Sc_one T4 N a p0 (5 : Int32) H4).bind fun ⟨T5, H5⟩ =>
  (f_Sc_one T5 N a p0 (6 : Int32) H5).bind fun ⟨T6, H6⟩ =>
  (f_Sc_one T6 N a p0 (7 : Int32) H6).bind fun ⟨T7, H7⟩ =>
  (f_Sc_one T7 N a p0 (8 : Int32) H7).bind fun ⟨T8, H8⟩ =>
  (f_Sc_one T8 N a p0 (9 : Int32) H8).bind fun ⟨T9, H9⟩ =>
  (f_Sc_one T9 N a p0 (10 : Int32) H9).bind fun ⟨T10, H10⟩ =>
  (f_Sc_one T10 N a p0 (11 : Int32) H10).bind fun ⟨T11, H11⟩ =>
  some (T11, H11)
theorem n_Sc_init {S : List xO} {N : Nat} {a : Nat} {p0 : Int32} {F : xF} {S9 : List xO} {F9 : xF} (h : f_Sc_init S N a p0 F = some (S9, F9)) : S9.length = S.length + 51 := by
  unfold f_Sc_init at h
  obtain ⟨⟨S1, q1⟩, e1, h⟩ := Option.bind_eq_some_iff.mp h
  dsimp only at h
  obtain ⟨S2, e2, h⟩ := Option.bind_eq_some_iff.mp h
  obtain ⟨⟨S3, F3, q3⟩, e3, h⟩ := Option.bind_eq_some_iff.mp h
  dsimp only at h
  obtain ⟨⟨S4, F4⟩, e4, h⟩ := Option.bind_eq_some_iff.mp h
  dsimp only at h
  obtain ⟨S5, e5, h⟩ := Option.bind_eq_some_iff.mp h
  obtain ⟨⟨T0, H0⟩, w0, h⟩ := Option.bind_eq_some_iff.mp h
  dsimp only at h
  obtain ⟨⟨T1, H1⟩, w1, h⟩ := Option.bind_eq_some_iff.mp h
  dsimp only at h
  obtain ⟨⟨T2, H2⟩, w2, h⟩ := Option.bind_eq_some_iff.mp h
  dsimp only at h
  obtain ⟨⟨T3, H3⟩, w3, h⟩ := Option.bind_eq_some_iff.mp h
  dsimp only at h
  obtain ⟨⟨T4, H4⟩, w4, h⟩ := Option.bind_eq_some_iff.mp h
  dsimp only at h
  obtain ⟨⟨T5, H5⟩, w5, h⟩ := Option.bind_eq_some_iff.mp h
  dsimp only at h
  obtain ⟨⟨T6, H6⟩, w6, h⟩ := Option.bind_eq_some_iff.mp h
  dsimp only at h
  obtain ⟨⟨T7, H7⟩, w7, h⟩ := Option.bind_eq_some_iff.mp h
  dsimp only at h
  obtain ⟨⟨T8, H8⟩, w8, h⟩ := Option.bind_eq_some_iff.mp h
  dsimp only at h
  obtain ⟨⟨T9, H9⟩, w9, h⟩ := Option.bind_eq_some_iff.mp h
  dsimp only at h
  obtain ⟨⟨T10, H10⟩, w10, h⟩ := Option.bind_eq_some_iff.mp h
  dsimp only at h
  obtain ⟨⟨T11, H11⟩, w11, h⟩ := Option.bind_eq_some_iff.mp h
  dsimp only at h
  obtain ⟨rfl, rfl⟩ := Prod.mk.inj (Option.some.inj h)
  have z1 := nQ_len e1
  have z2 := pR_len e2
  have z3 := nO_len e3
  have z4 := n_Pa_init e4
  have z5 := pR_len e5
  have y0 := n_Sc_one w0
  have y1 := n_Sc_one w1
  have y2 := n_Sc_one w2
  have y3 := n_Sc_one w3
  have y4 := n_Sc_one w4
  have y5 := n_Sc_one w5
  have y6 := n_Sc_one w6
  have y7 := n_Sc_one w7
  have y8 := n_Sc_one w8
  have y9 := n_Sc_one w9
  have y10 := n_Sc_one w10
  have y11 := n_Sc_one w11
  omega
set_option maxHeartbeats 4000000 in
set_option maxRecDepth 100000 in
theorem c_Sc_init {l : Launch} {g : xG} {S : List xO} {G : xL} {a : Nat} {p0 : Int32} {N : Nat} {F : xF} {S9 : List xO} {F9 : xF} (h : f_Sc_init S N a p0 F = some (S9, F9)) : CT l g 3 65 51 10373 y_Sc_init b_Sc_init 3 none 0 [.ref a, .int p0] S F G none S9 F9 G := by
  refine CT.of [some (.ref a), some (.int p0), none] (by decide) (Nat.le_of_ble_eq_true rfl) rfl ?_
  intro p e s m args below meth c C hr hmn hz
  have hz0 : s.heap.size = g.1 + S.length := hz rfl
  unfold f_Sc_init at h
  obtain ⟨⟨S1, q1⟩, e1, h⟩ := Option.bind_eq_some_iff.mp h
  dsimp only at h
  obtain ⟨S2, e2, h⟩ := Option.bind_eq_some_iff.mp h
  obtain ⟨⟨S3, F3, q3⟩, e3, h⟩ := Option.bind_eq_some_iff.mp h
  dsimp only at h
  obtain ⟨⟨S4, F4⟩, e4, h⟩ := Option.bind_eq_some_iff.mp h
  dsimp only at h
  obtain ⟨S5, e5, h⟩ := Option.bind_eq_some_iff.mp h
  obtain ⟨⟨T0, H0⟩, w0, h⟩ := Option.bind_eq_some_iff.mp h
  dsimp only at h
  obtain ⟨⟨T1, H1⟩, w1, h⟩ := Option.bind_eq_some_iff.mp h
  dsimp only at h
  obtain ⟨⟨T2, H2⟩, w2, h⟩ := Option.bind_eq_some_iff.mp h
  dsimp only at h
  obtain ⟨⟨T3, H3⟩, w3, h⟩ := Option.bind_eq_some_iff.mp h
  dsimp only at h
  obtain ⟨⟨T4, H4⟩, w4, h⟩ := Option.bind_eq_some_iff.mp h
  dsimp only at h
  obtain ⟨⟨T5, H5⟩, w5, h⟩ := Option.bind_eq_some_iff.mp h
  dsimp only at h
  obtain ⟨⟨T6, H6⟩, w6, h⟩ := Option.bind_eq_some_iff.mp h
  dsimp only at h
  obtain ⟨⟨T7, H7⟩, w7, h⟩ := Option.bind_eq_some_iff.mp h
  dsimp only at h
  obtain ⟨⟨T8, H8⟩, w8, h⟩ := Option.bind_eq_some_iff.mp h
  dsimp only at h
  obtain ⟨⟨T9, H9⟩, w9, h⟩ := Option.bind_eq_some_iff.mp h
  dsimp only at h
  obtain ⟨⟨T10, H10⟩, w10, h⟩ := Option.bind_eq_some_iff.mp h
  dsimp only at h
  obtain ⟨⟨T11, H11⟩, w11, h⟩ := Option.bind_eq_some_iff.mp h
  dsimp only at h
  obtain ⟨rfl, rfl⟩ := Prod.mk.inj (Option.some.inj h)
  have z1 := nQ_len e1
  have z2 := pR_len e2
  have z3 := nO_len e3
  have z4 := n_Pa_init e4
  have z5 := pR_len e5
  have y0 := n_Sc_one w0
  have y1 := n_Sc_one w1
  have y2 := n_Sc_one w2
  have y3 := n_Sc_one w3
  have y4 := n_Sc_one w4
  have y5 := n_Sc_one w5
  have y6 := n_Sc_one w6
  have y7 := n_Sc_one w7
  have y8 := n_Sc_one w8
  have y9 := n_Sc_one w9
  have y10 := n_Sc_one w10
  have y11 := n_Sc_one w11
  refine V.aload_n C 0 rfl rfl d_Sc_init_0 ?_
  refine V.objInit C oi_Sc_3 (by decide) d_Sc_init_1 ?_
  refine V.aload_n C 0 rfl rfl d_Sc_init_4 ?_
  refine V.bipush C 12 (by decide) d_Sc_init_5 ?_
  refine V.xnewQ C (by omega) ⟨gw_213, List.mem_of_getElem? (i := 214) (by decide +kernel)⟩ (by decide) e1 (by decide) d_Sc_init_7 ?_
  refine V.xputRF C hmn fl_Sc_11 ft_7 rf_Sc_11 e2 d_Sc_init_10 ?_
  refine V.aload_n C 0 rfl rfl d_Sc_init_13 ?_
  refine V.xnewO C (by omega) no_Sc_17 e3 (by decide) d_Sc_init_14 ?_
  refine V.dup C rfl d_Sc_init_17 ?_
  refine V.iload_n C 1 rfl rfl d_Sc_init_18 ?_
  refine V.cIv C (c_Pa_init e4) ci_Sc_19 rfl rfl (by omega) (by decide) (Nat.le_of_ble_eq_true rfl) d_Sc_init_19 ?_
  refine V.xputRF C hmn fl_Sc_22 ft_7 rf_Sc_22 e5 d_Sc_init_22 ?_
  refine V.iconst C 0 (by decide) d_Sc_init_25 ?_
  refine V.is2 C (by decide) rfl d_Sc_init_26 ?_
  refine o_Sc_one C (j := 1) (by omega) (by decide) (by decide) (by decide) w0 ?_
  refine o_Sc_one C (j := 2) (by omega) (by decide) (by decide) (by decide) w1 ?_
  refine o_Sc_one C (j := 3) (by omega) (by decide) (by decide) (by decide) w2 ?_
  refine o_Sc_one C (j := 4) (by omega) (by decide) (by decide) (by decide) w3 ?_
  refine o_Sc_one C (j := 5) (by omega) (by decide) (by decide) (by decide) w4 ?_
  refine o_Sc_one C (j := 6) (by omega) (by decide) (by decide) (by decide) w5 ?_
  refine o_Sc_one C (j := 7) (by omega) (by decide) (by decide) (by decide) w6 ?_
  refine o_Sc_one C (j := 8) (by omega) (by decide) (by decide) (by decide) w7 ?_
  refine o_Sc_one C (j := 9) (by omega) (by decide) (by decide) (by decide) w8 ?_
  refine o_Sc_one C (j := 10) (by omega) (by decide) (by decide) (by decide) w9 ?_
  refine o_Sc_one C (j := 11) (by omega) (by decide) (by decide) (by decide) w10 ?_
  refine o_Sc_one C (j := 12) (by omega) (by decide) (by decide) (by decide) w11 ?_
  refine V.iload_n C 2 rfl rfl d_Sc_init_27 ?_
  refine V.bipush C 12 (by decide) d_Sc_init_28 ?_
  refine V.icmp_ge C 53 (by decide) d_Sc_init_30 (fun c3 => ?_) (fun c3 => absurd (by decide) c3)
  exact V.vret C hr d_Sc_init_53 rfl rfl rfl
