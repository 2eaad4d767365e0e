theorem nc_1_3 : Cond.not (.castable (xE 1) "java/lang/IndexOutOfBoundsException") ∈ flatC (Jvm.Cond.and given_1 narrow_1) := by decide +kernel
theorem nc_2_1 : Cond.not (.castable (xE 2) "java/lang/IllegalArgumentException") ∈ flatC (Jvm.Cond.and given_1 narrow_1) := by decide +kernel
theorem nc_2_3 : Cond.not (.castable (xE 2) "java/lang/IndexOutOfBoundsException") ∈ flatC (Jvm.Cond.and given_1 narrow_1) := by decide +kernel
theorem nc_2_4 : Cond.not (.castable (xE 2) "java/lang/IllegalStateException") ∈ flatC (Jvm.Cond.and given_1 narrow_1) := by decide +kernel
theorem nc_4_1 : Cond.not (.castable (xE 4) "java/lang/IllegalArgumentException") ∈ flatC (Jvm.Cond.and given_1 narrow_1) := by decide +kernel
theorem ml_La_7 : xCv "PaletteFramesLaw" 7 y_PF_put b_PF_put 7 (some .int) 3 8 := ⟨⟨Or.inl gw_466, gw_469, gw_30, by decide +kernel⟩, ⟨gw_467, gw_468⟩, T_8, 7, rfl⟩
theorem ca_La_put_1 : xCat "PaletteFramesLaw" (xE 1) [(0, 12, 15, 13), (0, 12, 19, 15)] 7 15 := ⟨[], (0, 12, 15, 13), [(0, 12, 19, 15)], rfl, rfl, by decide, by decide, ⟨"java/lang/IllegalArgumentException", gw_464, List.mem_of_getElem? (i := 472) (by decide +kernel)⟩, fun _ h => absurd h List.not_mem_nil⟩
theorem ca_La_put_2 : xCat "PaletteFramesLaw" (xE 2) [(0, 12, 15, 13), (0, 12, 19, 15)] 7 19 := ⟨[(0, 12, 15, 13)], (0, 12, 19, 15), [], rfl, rfl, by decide, by decide, ⟨"java/lang/UnsupportedOperationException", gw_465, List.mem_of_getElem? (i := 542) (by decide +kernel)⟩, List.forall_mem_cons.mpr ⟨⟨by decide, by decide, "java/lang/IllegalArgumentException", gw_464, nc_2_1⟩, fun _ h => absurd h List.not_mem_nil⟩⟩
theorem ml_La_17 : xCv "PaletteFramesLaw" 17 y_PF_rule b_PF_rule 3 (some .int) 1 8 := ⟨⟨Or.inl gw_559, gw_562, gw_30, by decide +kernel⟩, ⟨gw_560, gw_561⟩, T_8, 7, rfl⟩
theorem ca_La_rule_1 : xCat "PaletteFramesLaw" (xE 1) [(0, 9, 12, 13)] 4 12 := ⟨[], (0, 9, 12, 13), [], rfl, rfl, by decide, by decide, ⟨"java/lang/IllegalArgumentException", gw_464, List.mem_of_getElem? (i := 472) (by decide +kernel)⟩, fun _ h => absurd h List.not_mem_nil⟩
theorem ml_La_21 : xCv "PaletteFramesLaw" 21 y_PF_byteAt b_PF_byteAt 2 (some .int) 1 8 := ⟨⟨Or.inl gw_568, gw_571, gw_30, by decide +kernel⟩, ⟨gw_569, gw_570⟩, T_8, 7, rfl⟩
theorem ca_La_byteAt_3 : xCat "PaletteFramesLaw" (xE 3) [(0, 9, 12, 24)] 4 12 := ⟨[], (0, 9, 12, 24), [], rfl, rfl, by decide, by decide, ⟨"java/lang/IndexOutOfBoundsException", gw_567, List.mem_of_getElem? (i := 575) (by decide +kernel)⟩, fun _ h => absurd h List.not_mem_nil⟩
theorem ml_La_26 : xCv "PaletteFramesLaw" 26 y_PF_feed b_PF_feed 2 (some .int) 1 8 := ⟨⟨Or.inl gw_592, gw_595, gw_30, by decide +kernel⟩, ⟨gw_593, gw_594⟩, T_8, 7, rfl⟩
theorem ca_La_feed_1 : xCat "PaletteFramesLaw" (xE 1) [(0, 9, 12, 13), (0, 9, 15, 15)] 4 12 := ⟨[], (0, 9, 12, 13), [(0, 9, 15, 15)], rfl, rfl, by decide, by decide, ⟨"java/lang/IllegalArgumentException", gw_464, List.mem_of_getElem? (i := 472) (by decide +kernel)⟩, fun _ h => absurd h List.not_mem_nil⟩
theorem ca_La_feed_2 : xCat "PaletteFramesLaw" (xE 2) [(0, 9, 12, 13), (0, 9, 15, 15)] 4 15 := ⟨[(0, 9, 12, 13)], (0, 9, 15, 15), [], rfl, rfl, by decide, by decide, ⟨"java/lang/UnsupportedOperationException", gw_465, List.mem_of_getElem? (i := 542) (by decide +kernel)⟩, List.forall_mem_cons.mpr ⟨⟨by decide, by decide, "java/lang/IllegalArgumentException", gw_464, nc_2_1⟩, fun _ h => absurd h List.not_mem_nil⟩⟩
theorem ml_La_29 : xCv "PaletteFramesLaw" 29 y_PF_pass b_PF_pass 5 (some .int) 2 8 := ⟨⟨Or.inl gw_601, gw_604, gw_30, by decide +kernel⟩, ⟨gw_602, gw_603⟩, T_8, 7, rfl⟩
theorem ca_La_pass_3 : xCat "PaletteFramesLaw" (xE 3) [(0, 10, 13, 24), (0, 10, 17, 13), (0, 10, 21, 15)] 5 13 := ⟨[], (0, 10, 13, 24), [(0, 10, 17, 13), (0, 10, 21, 15)], rfl, rfl, by decide, by decide, ⟨"java/lang/IndexOutOfBoundsException", gw_567, List.mem_of_getElem? (i := 575) (by decide +kernel)⟩, fun _ h => absurd h List.not_mem_nil⟩
theorem ca_La_pass_1 : xCat "PaletteFramesLaw" (xE 1) [(0, 10, 13, 24), (0, 10, 17, 13), (0, 10, 21, 15)] 5 17 := ⟨[(0, 10, 13, 24)], (0, 10, 17, 13), [(0, 10, 21, 15)], rfl, rfl, by decide, by decide, ⟨"java/lang/IllegalArgumentException", gw_464, List.mem_of_getElem? (i := 472) (by decide +kernel)⟩, List.forall_mem_cons.mpr ⟨⟨by decide, by decide, "java/lang/IndexOutOfBoundsException", gw_567, nc_1_3⟩, fun _ h => absurd h List.not_mem_nil⟩⟩
theorem ca_La_pass_2 : xCat "PaletteFramesLaw" (xE 2) [(0, 10, 13, 24), (0, 10, 17, 13), (0, 10, 21, 15)] 5 21 := ⟨[(0, 10, 13, 24), (0, 10, 17, 13)], (0, 10, 21, 15), [], rfl, rfl, by decide, by decide, ⟨"java/lang/UnsupportedOperationException", gw_465, List.mem_of_getElem? (i := 542) (by decide +kernel)⟩, List.forall_mem_cons.mpr ⟨⟨by decide, by decide, "java/lang/IndexOutOfBoundsException", gw_567, nc_2_3⟩, List.forall_mem_cons.mpr ⟨⟨by decide, by decide, "java/lang/IllegalArgumentException", gw_464, nc_2_1⟩, fun _ h => absurd h List.not_mem_nil⟩⟩⟩
theorem ml_La_33 : xCv "PaletteFramesLaw" 33 y_PF_at b_PF_at 2 (some .int) 1 8 := ⟨⟨Or.inl gw_610, gw_613, gw_30, by decide +kernel⟩, ⟨gw_611, gw_612⟩, T_8, 7, rfl⟩
theorem ca_La_at_3 : xCat "PaletteFramesLaw" (xE 3) [(0, 9, 12, 24)] 4 12 := ⟨[], (0, 9, 12, 24), [], rfl, rfl, by decide, by decide, ⟨"java/lang/IndexOutOfBoundsException", gw_567, List.mem_of_getElem? (i := 575) (by decide +kernel)⟩, fun _ h => absurd h List.not_mem_nil⟩
theorem ml_La_36 : xCv "PaletteFramesLaw" 36 y_PF_frame b_PF_frame 9 (some .int) 7 8 := ⟨⟨Or.inl gw_619, gw_622, gw_30, by decide +kernel⟩, ⟨gw_620, gw_621⟩, T_8, 7, rfl⟩
theorem ca_La_frame_1 : xCat "PaletteFramesLaw" (xE 1) [(0, 20, 23, 13), (0, 20, 27, 40), (0, 20, 31, 15)] 15 23 := ⟨[], (0, 20, 23, 13), [(0, 20, 27, 40), (0, 20, 31, 15)], rfl, rfl, by decide, by decide, ⟨"java/lang/IllegalArgumentException", gw_464, List.mem_of_getElem? (i := 472) (by decide +kernel)⟩, fun _ h => absurd h List.not_mem_nil⟩
theorem ca_La_frame_4 : xCat "PaletteFramesLaw" (xE 4) [(0, 20, 23, 13), (0, 20, 27, 40), (0, 20, 31, 15)] 15 27 := ⟨[(0, 20, 23, 13)], (0, 20, 27, 40), [(0, 20, 31, 15)], rfl, rfl, by decide, by decide, ⟨"java/lang/IllegalStateException", gw_618, List.mem_of_getElem? (i := 631) (by decide +kernel)⟩, List.forall_mem_cons.mpr ⟨⟨by decide, by decide, "java/lang/IllegalArgumentException", gw_464, nc_4_1⟩, fun _ h => absurd h List.not_mem_nil⟩⟩
theorem ca_La_frame_2 : xCat "PaletteFramesLaw" (xE 2) [(0, 20, 23, 13), (0, 20, 27, 40), (0, 20, 31, 15)] 15 31 := ⟨[(0, 20, 23, 13), (0, 20, 27, 40)], (0, 20, 31, 15), [], rfl, rfl, by decide, by decide, ⟨"java/lang/UnsupportedOperationException", gw_465, List.mem_of_getElem? (i := 542) (by decide +kernel)⟩, List.forall_mem_cons.mpr ⟨⟨by decide, by decide, "java/lang/IllegalArgumentException", gw_464, nc_2_1⟩, List.forall_mem_cons.mpr ⟨⟨by decide, by decide, "java/lang/IllegalStateException", gw_618, nc_2_4⟩, fun _ h => absurd h List.not_mem_nil⟩⟩⟩
theorem ml_La_42 : xCv "PaletteFramesLaw" 42 y_PF_colour b_PF_colour 5 (some .int) 3 8 := ⟨⟨Or.inl gw_686, gw_689, gw_30, by decide +kernel⟩, ⟨gw_687, gw_688⟩, T_8, 7, rfl⟩
theorem ca_La_colour_3 : xCat "PaletteFramesLaw" (xE 3) [(0, 12, 15, 24), (0, 12, 19, 13)] 7 15 := ⟨[], (0, 12, 15, 24), [(0, 12, 19, 13)], rfl, rfl, by decide, by decide, ⟨"java/lang/IndexOutOfBoundsException", gw_567, List.mem_of_getElem? (i := 575) (by decide +kernel)⟩, fun _ h => absurd h List.not_mem_nil⟩
theorem ca_La_colour_1 : xCat "PaletteFramesLaw" (xE 1) [(0, 12, 15, 24), (0, 12, 19, 13)] 7 19 := ⟨[(0, 12, 15, 24)], (0, 12, 19, 13), [], rfl, rfl, by decide, by decide, ⟨"java/lang/IllegalArgumentException", gw_464, List.mem_of_getElem? (i := 472) (by decide +kernel)⟩, List.forall_mem_cons.mpr ⟨⟨by decide, by decide, "java/lang/IndexOutOfBoundsException", gw_567, nc_1_3⟩, fun _ h => absurd h List.not_mem_nil⟩⟩
theorem ml_La_45 : xCv "PaletteFramesLaw" 45 y_PF_through b_PF_through 4 (some .int) 2 8 := ⟨⟨Or.inl gw_712, gw_715, gw_30, by decide +kernel⟩, ⟨gw_713, gw_714⟩, T_8, 7, rfl⟩
theorem ca_La_through_3 : xCat "PaletteFramesLaw" (xE 3) [(0, 10, 13, 24)] 5 13 := ⟨[], (0, 10, 13, 24), [], rfl, rfl, by decide, by decide, ⟨"java/lang/IndexOutOfBoundsException", gw_567, List.mem_of_getElem? (i := 575) (by decide +kernel)⟩, fun _ h => absurd h List.not_mem_nil⟩
theorem ml_La_48 : xCv "PaletteFramesLaw" 48 y_PF_shown b_PF_shown 4 (some .int) 3 8 := ⟨⟨Or.inl gw_719, gw_722, gw_30, by decide +kernel⟩, ⟨gw_720, gw_721⟩, T_8, 7, rfl⟩
theorem ca_La_shown_3 : xCat "PaletteFramesLaw" (xE 3) [(0, 12, 15, 24)] 7 15 := ⟨[], (0, 12, 15, 24), [], rfl, rfl, by decide, by decide, ⟨"java/lang/IndexOutOfBoundsException", gw_567, List.mem_of_getElem? (i := 575) (by decide +kernel)⟩, fun _ h => absurd h List.not_mem_nil⟩
theorem ml_La_51 : xCv "PaletteFramesLaw" 51 y_PF_symbol b_PF_symbol 5 (some .int) 3 8 := ⟨⟨Or.inl gw_751, gw_754, gw_30, by decide +kernel⟩, ⟨gw_752, gw_753⟩, T_8, 7, rfl⟩
theorem ca_La_symbol_3 : xCat "PaletteFramesLaw" (xE 3) [(0, 12, 15, 24)] 7 15 := ⟨[], (0, 12, 15, 24), [], rfl, rfl, by decide, by decide, ⟨"java/lang/IndexOutOfBoundsException", gw_567, List.mem_of_getElem? (i := 575) (by decide +kernel)⟩, fun _ h => absurd h List.not_mem_nil⟩
theorem ml_La_54 : xCv "PaletteFramesLaw" 54 y_PF_when b_PF_when 3 (some .int) 2 8 := ⟨⟨Or.inl gw_760, gw_763, gw_30, by decide +kernel⟩, ⟨gw_761, gw_762⟩, T_8, 7, rfl⟩
theorem ca_La_when_1 : xCat "PaletteFramesLaw" (xE 1) [(0, 10, 13, 13)] 5 13 := ⟨[], (0, 10, 13, 13), [], rfl, rfl, by decide, by decide, ⟨"java/lang/IllegalArgumentException", gw_464, List.mem_of_getElem? (i := 472) (by decide +kernel)⟩, fun _ h => absurd h List.not_mem_nil⟩
theorem ml_La_57 : xCv "PaletteFramesLaw" 57 y_PF_passOf b_PF_passOf 2 (some .int) 1 8 := ⟨⟨Or.inl gw_772, gw_775, gw_30, by decide +kernel⟩, ⟨gw_773, gw_774⟩, T_8, 7, rfl⟩
theorem ca_La_passOf_1 : xCat "PaletteFramesLaw" (xE 1) [(0, 9, 12, 13)] 4 12 := ⟨[], (0, 9, 12, 13), [], rfl, rfl, by decide, by decide, ⟨"java/lang/IllegalArgumentException", gw_464, List.mem_of_getElem? (i := 472) (by decide +kernel)⟩, fun _ h => absurd h List.not_mem_nil⟩
def f_La_put (S : List xO) (N : Nat) (x : Nat) (p0 : Int32) (p1 : Int32) (p2 : Int32) (o : Nat) (F : xF) (G : xL) : Option (Int32 × xF × xL) :=
  (xcl S 8 x (f_PF_put S N x p0 p1 p2 F)).bind fun w =>
  if w.1 = 0 then (lP S o 0 w.2.1.toInt64 G).bind fun G1 => some (0, w.2.2, G1)
  else if w.1 = 1 then some (1, w.2.2, G)
  else if w.1 = 2 then some (2, w.2.2, G)
  else none
set_option maxHeartbeats 4000000 in
set_option maxRecDepth 100000 in
theorem c_La_put {l : Launch} (hfl : l.flags = flags0) {g : xG} {S : List xO} {x : Nat} {p0 : Int32} {p1 : Int32} {p2 : Int32} {o : Nat} {N : Nat} {F F2 : xF} {G G2 : xL} {r : Int32} (h : f_La_put S N x p0 p1 p2 o F G = some (r, F2, G2)) : CTW l g 7 126 1 6 y_La_put b_La_put 6 (some .int) [(0, 12, 15, 13), (0, 12, 19, 15)] [.ref x, .int p0, .int p1, .int p2, .ref o] S F G (some (.int r)) F2 G2 := by
  refine CTW.of [some (.ref x), some (.int p0), some (.int p1), some (.int p2), some (.ref o), none] (by decide) (Nat.le_of_ble_eq_true rfl) rfl ?_
  intro p e s m args below meth c C hr htab
  unfold f_La_put at h
  refine V.aload C rfl d_La_put_0 ?_
  refine V.iconst C 0 (by decide) d_La_put_2 ?_
  refine V.aload_n C 0 rfl rfl d_La_put_3 ?_
  refine V.iload_n C 1 rfl rfl d_La_put_4 ?_
  refine V.iload_n C 2 rfl rfl d_La_put_5 ?_
  refine V.iload_n C 3 rfl rfl d_La_put_6 ?_
  obtain ⟨⟨k, r0, F1⟩, e1, h⟩ := Option.bind_eq_some_iff.mp h
  obtain ⟨⟨fs1, s1⟩, e1⟩ := xcl_spec e1
  dsimp only at h
  by_cases c0 : k = 0
  · subst c0
    rw [if_pos rfl] at h
    refine V.cVr C (c_PF_put e1) ml_La_7 s1 rfl rfl (by decide) (Nat.le_of_ble_eq_true rfl) d_La_put_7 ?_
    refine V.i2l C d_La_put_10 ?_
    obtain ⟨G1, e2, h⟩ := Option.bind_eq_some_iff.mp h
    refine V.xlast C e2 d_La_put_11 ?_
    refine V.goto C 23 (by decide) d_La_put_12 ?_
    refine V.iconst C 0 (by decide) d_La_put_23 ?_
    simp only [Option.some.injEq, Prod.mk.injEq] at h
    obtain ⟨rfl, rfl, rfl⟩ := h
    refine V.wide 1 6 (by decide) (by decide) ?_
    exact V.iret C hr d_La_put_24 rfl rfl rfl rfl
  rw [if_neg c0] at h
  by_cases c1 : k = 1
  · subst c1
    rw [if_pos rfl] at h
    simp only [Option.some.injEq, Prod.mk.injEq] at h
    obtain ⟨rfl, rfl, rfl⟩ := h
    refine V.cX C htab (x_PF_put hfl e1) ml_La_7 ca_La_put_1 gw_45 s1 rfl rfl (by decide) (Nat.le_of_ble_eq_true rfl) d_La_put_7 (fun j9 => ?_)
    refine V.as5 C (by decide) rfl d_La_put_15 ?_
    refine V.iconst C 1 (by decide) d_La_put_17 ?_
    exact V.iret C hr d_La_put_18 rfl rfl rfl rfl
  rw [if_neg c1] at h
  by_cases c2 : k = 2
  · subst c2
    rw [if_pos rfl] at h
    simp only [Option.some.injEq, Prod.mk.injEq] at h
    obtain ⟨rfl, rfl, rfl⟩ := h
    refine V.cX C htab (x_PF_put hfl e1) ml_La_7 ca_La_put_2 gw_46 s1 rfl rfl (by decide) (Nat.le_of_ble_eq_true rfl) d_La_put_7 (fun j9 => ?_)
    refine V.as5 C (by decide) rfl d_La_put_19 ?_
    refine V.iconst C 2 (by decide) d_La_put_21 ?_
    exact V.iret C hr d_La_put_22 rfl rfl rfl rfl
  rw [if_neg c2] at h
  cases h
def f_La_rule (S : List xO) (x : Nat) (p0 : Int32) (o : Nat) (F : xF) (G : xL) : Option (Int32 × xF × xL) :=
  (xcl S 8 x (f_PF_rule S x p0 F)).bind fun w =>
  if w.1 = 0 then (lP S o 0 w.2.1.toInt64 G).bind fun G1 => some (0, w.2.2, G1)
  else if w.1 = 1 then some (1, w.2.2, G)
  else none
set_option maxHeartbeats 4000000 in
set_option maxRecDepth 100000 in
theorem c_La_rule {l : Launch} (hfl : l.flags = flags0) {g : xG} {S : List xO} {x : Nat} {p0 : Int32} {o : Nat} {F F2 : xF} {G G2 : xL} {r : Int32} (h : f_La_rule S x p0 o F G = some (r, F2, G2)) : CTW l g 7 122 1 6 y_La_rule b_La_rule 4 (some .int) [(0, 9, 12, 13)] [.ref x, .int p0, .ref o] S F G (some (.int r)) F2 G2 := by
  refine CTW.of [some (.ref x), some (.int p0), some (.ref o), none] (by decide) (Nat.le_of_ble_eq_true rfl) rfl ?_
  intro p e s m args below meth c C hr htab
  unfold f_La_rule at h
  refine V.aload_n C 2 rfl rfl d_La_rule_0 ?_
  refine V.iconst C 0 (by decide) d_La_rule_1 ?_
  refine V.aload_n C 0 rfl rfl d_La_rule_2 ?_
  refine V.iload_n C 1 rfl rfl d_La_rule_3 ?_
  obtain ⟨⟨k, r0, F1⟩, e1, h⟩ := Option.bind_eq_some_iff.mp h
  obtain ⟨⟨fs1, s1⟩, e1⟩ := xcl_spec e1
  dsimp only at h
  by_cases c0 : k = 0
  · subst c0
    rw [if_pos rfl] at h
    refine V.cVr C (c_PF_rule e1) ml_La_17 s1 rfl rfl (by decide) (Nat.le_of_ble_eq_true rfl) d_La_rule_4 ?_
    refine V.i2l C d_La_rule_7 ?_
    obtain ⟨G1, e2, h⟩ := Option.bind_eq_some_iff.mp h
    refine V.xlast C e2 d_La_rule_8 ?_
    refine V.goto C 15 (by decide) d_La_rule_9 ?_
    refine V.iconst C 0 (by decide) d_La_rule_15 ?_
    simp only [Option.some.injEq, Prod.mk.injEq] at h
    obtain ⟨rfl, rfl, rfl⟩ := h
    refine V.wide 1 6 (by decide) (by decide) ?_
    exact V.iret C hr d_La_rule_16 rfl rfl rfl rfl
  rw [if_neg c0] at h
  by_cases c1 : k = 1
  · subst c1
    rw [if_pos rfl] at h
    simp only [Option.some.injEq, Prod.mk.injEq] at h
    obtain ⟨rfl, rfl, rfl⟩ := h
    refine V.cX C htab (x_PF_rule hfl e1) ml_La_17 ca_La_rule_1 gw_45 s1 rfl rfl (by decide) (Nat.le_of_ble_eq_true rfl) d_La_rule_4 (fun j9 => ?_)
    refine V.as3 C (by decide) rfl d_La_rule_12 ?_
    refine V.iconst C 1 (by decide) d_La_rule_13 ?_
    exact V.iret C hr d_La_rule_14 rfl rfl rfl rfl
  rw [if_neg c1] at h
  cases h
def f_La_byteAt (S : List xO) (x : Nat) (p0 : Int32) (o : Nat) (F : xF) (G : xL) : Option (Int32 × xF × xL) :=
  (xcl S 8 x (f_PF_byteAt S x p0 F)).bind fun w =>
  if w.1 = 0 then (lP S o 0 w.2.1.toInt64 G).bind fun G1 => some (0, w.2.2, G1)
  else if w.1 = 3 then some (1, w.2.2, G)
  else none
set_option maxHeartbeats 4000000 in
set_option maxRecDepth 100000 in
theorem c_La_byteAt {l : Launch} (hfl : l.flags = flags0) {g : xG} {S : List xO} {x : Nat} {p0 : Int32} {o : Nat} {F F2 : xF} {G G2 : xL} {r : Int32} (h : f_La_byteAt S x p0 o F G = some (r, F2, G2)) : CTW l g 7 121 1 6 y_La_byteAt b_La_byteAt 4 (some .int) [(0, 9, 12, 24)] [.ref x, .int p0, .ref o] S F G (some (.int r)) F2 G2 := by
  refine CTW.of [some (.ref x), some (.int p0), some (.ref o), none] (by decide) (Nat.le_of_ble_eq_true rfl) rfl ?_
  intro p e s m args below meth c C hr htab
  unfold f_La_byteAt at h
  refine V.aload_n C 2 rfl rfl d_La_byteAt_0 ?_
  refine V.iconst C 0 (by decide) d_La_byteAt_1 ?_
  refine V.aload_n C 0 rfl rfl d_La_byteAt_2 ?_
  refine V.iload_n C 1 rfl rfl d_La_byteAt_3 ?_
  obtain ⟨⟨k, r0, F1⟩, e1, h⟩ := Option.bind_eq_some_iff.mp h
  obtain ⟨⟨fs1, s1⟩, e1⟩ := xcl_spec e1
  dsimp only at h
  by_cases c0 : k = 0
  · subst c0
    rw [if_pos rfl] at h
    refine V.cVr C (c_PF_byteAt e1) ml_La_21 s1 rfl rfl (by decide) (Nat.le_of_ble_eq_true rfl) d_La_byteAt_4 ?_
    refine V.i2l C d_La_byteAt_7 ?_
    obtain ⟨G1, e2, h⟩ := Option.bind_eq_some_iff.mp h
    refine V.xlast C e2 d_La_byteAt_8 ?_
    refine V.goto C 15 (by decide) d_La_byteAt_9 ?_
    refine V.iconst C 0 (by decide) d_La_byteAt_15 ?_
    simp only [Option.some.injEq, Prod.mk.injEq] at h
    obtain ⟨rfl, rfl, rfl⟩ := h
    refine V.wide 1 6 (by decide) (by decide) ?_
    exact V.iret C hr d_La_byteAt_16 rfl rfl rfl rfl
  rw [if_neg c0] at h
  by_cases c3 : k = 3
  · subst c3
    rw [if_pos rfl] at h
    simp only [Option.some.injEq, Prod.mk.injEq] at h
    obtain ⟨rfl, rfl, rfl⟩ := h
    refine V.cX C htab (x_PF_byteAt hfl e1) ml_La_21 ca_La_byteAt_3 gw_47 s1 rfl rfl (by decide) (Nat.le_of_ble_eq_true rfl) d_La_byteAt_4 (fun j9 => ?_)
    refine V.as3 C (by decide) rfl d_La_byteAt_12 ?_
    refine V.iconst C 1 (by decide) d_La_byteAt_13 ?_
    exact V.iret C hr d_La_byteAt_14 rfl rfl rfl rfl
  rw [if_neg c3] at h
  cases h
def f_La_feed (S : List xO) (x : Nat) (p0 : Int32) (o : Nat) (F : xF) (G : xL) : Option (Int32 × xF × xL) :=
  (xcl S 8 x (f_PF_feed S x p0 F)).bind fun w =>
  if w.1 = 0 then (lP S o 0 w.2.1.toInt64 G).bind fun G1 => some (0, w.2.2, G1)
  else if w.1 = 1 then some (1, w.2.2, G)
  else if w.1 = 2 then some (2, w.2.2, G)
  else none
set_option maxHeartbeats 4000000 in
set_option maxRecDepth 100000 in
theorem c_La_feed {l : Launch} (hfl : l.flags = flags0) {g : xG} {S : List xO} {x : Nat} {p0 : Int32} {o : Nat} {F F2 : xF} {G G2 : xL} {r : Int32} (h : f_La_feed S x p0 o F G = some (r, F2, G2)) : CTW l g 7 121 1 6 y_La_feed b_La_feed 4 (some .int) [(0, 9, 12, 13), (0, 9, 15, 15)] [.ref x, .int p0, .ref o] S F G (some (.int r)) F2 G2 := by
  refine CTW.of [some (.ref x), some (.int p0), some (.ref o), none] (by decide) (Nat.le_of_ble_eq_true rfl) rfl ?_
  intro p e s m args below meth c C hr htab
  unfold f_La_feed at h
  refine V.aload_n C 2 rfl rfl d_La_feed_0 ?_
  refine V.iconst C 0 (by decide) d_La_feed_1 ?_
  refine V.aload_n C 0 rfl rfl d_La_feed_2 ?_
  refine V.iload_n C 1 rfl rfl d_La_feed_3 ?_
  obtain ⟨⟨k, r0, F1⟩, e1, h⟩ := Option.bind_eq_some_iff.mp h
  obtain ⟨⟨fs1, s1⟩, e1⟩ := xcl_spec e1
  dsimp only at h
  by_cases c0 : k = 0
  · subst c0
    rw [if_pos rfl] at h
    refine V.cVr C (c_PF_feed e1) ml_La_26 s1 rfl rfl (by decide) (Nat.le_of_ble_eq_true rfl) d_La_feed_4 ?_
    refine V.i2l C d_La_feed_7 ?_
    obtain ⟨G1, e2, h⟩ := Option.bind_eq_some_iff.mp h
    refine V.xlast C e2 d_La_feed_8 ?_
    refine V.goto C 18 (by decide) d_La_feed_9 ?_
    refine V.iconst C 0 (by decide) d_La_feed_18 ?_
    simp only [Option.some.injEq, Prod.mk.injEq] at h
    obtain ⟨rfl, rfl, rfl⟩ := h
    refine V.wide 1 6 (by decide) (by decide) ?_
    exact V.iret C hr d_La_feed_19 rfl rfl rfl rfl
  rw [if_neg c0] at h
  by_cases c1 : k = 1
  · subst c1
    rw [if_pos rfl] at h
    simp only [Option.some.injEq, Prod.mk.injEq] at h
    obtain ⟨rfl, rfl, rfl⟩ := h
    refine V.cX C htab (x_PF_feed hfl e1) ml_La_26 ca_La_feed_1 gw_45 s1 rfl rfl (by decide) (Nat.le_of_ble_eq_true rfl) d_La_feed_4 (fun j9 => ?_)
    refine V.as3 C (by decide) rfl d_La_feed_12 ?_
    refine V.iconst C 1 (by decide) d_La_feed_13 ?_
    exact V.iret C hr d_La_feed_14 rfl rfl rfl rfl
  rw [if_neg c1] at h
  by_cases c2 : k = 2
  · subst c2
    rw [if_pos rfl] at h
    simp only [Option.some.injEq, Prod.mk.injEq] at h
    obtain ⟨rfl, rfl, rfl⟩ := h
    refine V.cX C htab (x_PF_feed hfl e1) ml_La_26 ca_La_feed_2 gw_46 s1 rfl rfl (by decide) (Nat.le_of_ble_eq_true rfl) d_La_feed_4 (fun j9 => ?_)
    refine V.as3 C (by decide) rfl d_La_feed_15 ?_
    refine V.iconst C 2 (by decide) d_La_feed_16 ?_
    exact V.iret C hr d_La_feed_17 rfl rfl rfl rfl
  rw [if_neg c2] at h
  cases h
def f_La_pass (S : List xO) (N : Nat) (x : Nat) (p0 : Int32) (p1 : Int32) (o : Nat) (F : xF) (G : xL) : Option (Int32 × xF × xL) :=
  (xcl S 8 x (f_PF_pass S N x p0 p1 F)).bind fun w =>
  if w.1 = 0 then (lP S o 0 w.2.1.toInt64 G).bind fun G1 => some (0, w.2.2, G1)
  else if w.1 = 3 then some (1, w.2.2, G)
  else if w.1 = 1 then some (2, w.2.2, G)
  else if w.1 = 2 then some (3, w.2.2, G)
  else none
set_option maxHeartbeats 4000000 in
set_option maxRecDepth 100000 in
theorem c_La_pass {l : Launch} (hfl : l.flags = flags0) {g : xG} {S : List xO} {x : Nat} {p0 : Int32} {p1 : Int32} {o : Nat} {N : Nat} {F F2 : xF} {G G2 : xL} {r : Int32} (h : f_La_pass S N x p0 p1 o F G = some (r, F2, G2)) : CTW l g 7 124 1 6 y_La_pass b_La_pass 5 (some .int) [(0, 10, 13, 24), (0, 10, 17, 13), (0, 10, 21, 15)] [.ref x, .int p0, .int p1, .ref o] S F G (some (.int r)) F2 G2 := by
  refine CTW.of [some (.ref x), some (.int p0), some (.int p1), some (.ref o), none] (by decide) (Nat.le_of_ble_eq_true rfl) rfl ?_
  intro p e s m args below meth c C hr htab
  unfold f_La_pass at h
  refine V.aload_n C 3 rfl rfl d_La_pass_0 ?_
  refine V.iconst C 0 (by decide) d_La_pass_1 ?_
  refine V.aload_n C 0 rfl rfl d_La_pass_2 ?_
  refine V.iload_n C 1 rfl rfl d_La_pass_3 ?_
  refine V.iload_n C 2 rfl rfl d_La_pass_4 ?_
  obtain ⟨⟨k, r0, F1⟩, e1, h⟩ := Option.bind_eq_some_iff.mp h
  obtain ⟨⟨fs1, s1⟩, e1⟩ := xcl_spec e1
  dsimp only at h
  by_cases c0 : k = 0
  · subst c0
    rw [if_pos rfl] at h
    refine V.cVr C (c_PF_pass e1) ml_La_29 s1 rfl rfl (by decide) (Nat.le_of_ble_eq_true rfl) d_La_pass_5 ?_
    refine V.i2l C d_La_pass_8 ?_
    obtain ⟨G1, e2, h⟩ := Option.bind_eq_some_iff.mp h
    refine V.xlast C e2 d_La_pass_9 ?_
    refine V.goto C 25 (by decide) d_La_pass_10 ?_
    refine V.iconst C 0 (by decide) d_La_pass_25 ?_
    simp only [Option.some.injEq, Prod.mk.injEq] at h
    obtain ⟨rfl, rfl, rfl⟩ := h
    refine V.wide 1 6 (by decide) (by decide) ?_
    exact V.iret C hr d_La_pass_26 rfl rfl rfl rfl
  rw [if_neg c0] at h
  by_cases c3 : k = 3
  · subst c3
    rw [if_pos rfl] at h
    simp only [Option.some.injEq, Prod.mk.injEq] at h
    obtain ⟨rfl, rfl, rfl⟩ := h
    refine V.cX C htab (x_PF_pass hfl e1) ml_La_29 ca_La_pass_3 gw_47 s1 rfl rfl (by decide) (Nat.le_of_ble_eq_true rfl) d_La_pass_5 (fun j9 => ?_)
    refine V.as4 C (by decide) rfl d_La_pass_13 ?_
    refine V.iconst C 1 (by decide) d_La_pass_15 ?_
    exact V.iret C hr d_La_pass_16 rfl rfl rfl rfl
  rw [if_neg c3] at h
  by_cases c1 : k = 1
  · subst c1
    rw [if_pos rfl] at h
    simp only [Option.some.injEq, Prod.mk.injEq] at h
    obtain ⟨rfl, rfl, rfl⟩ := h
    refine V.cX C htab (x_PF_pass hfl e1) ml_La_29 ca_La_pass_1 gw_45 s1 rfl rfl (by decide) (Nat.le_of_ble_eq_true rfl) d_La_pass_5 (fun j9 => ?_)
    refine V.as4 C (by decide) rfl d_La_pass_17 ?_
    refine V.iconst C 2 (by decide) d_La_pass_19 ?_
    exact V.iret C hr d_La_pass_20 rfl rfl rfl rfl
  rw [if_neg c1] at h
  by_cases c2 : k = 2
  · subst c2
    rw [if_pos rfl] at h
    simp only [Option.some.injEq, Prod.mk.injEq] at h
    obtain ⟨rfl, rfl, rfl⟩ := h
    refine V.cX C htab (x_PF_pass hfl e1) ml_La_29 ca_La_pass_2 gw_46 s1 rfl rfl (by decide) (Nat.le_of_ble_eq_true rfl) d_La_pass_5 (fun j9 => ?_)
    refine V.as4 C (by decide) rfl d_La_pass_21 ?_
    refine V.iconst C 3 (by decide) d_La_pass_23 ?_
    exact V.iret C hr d_La_pass_24 rfl rfl rfl rfl
  rw [if_neg c2] at h
  cases h
def f_La_at (S : List xO) (x : Nat) (p0 : Int32) (o : Nat) (F : xF) (G : xL) : Option (Int32 × xF × xL) :=
  (xcl S 8 x (f_PF_at S x p0 F)).bind fun w =>
  if w.1 = 0 then (lP S o 0 w.2.1.toInt64 G).bind fun G1 => some (0, w.2.2, G1)
  else if w.1 = 3 then some (1, w.2.2, G)
  else none
set_option maxHeartbeats 4000000 in
set_option maxRecDepth 100000 in
theorem c_La_at {l : Launch} (hfl : l.flags = flags0) {g : xG} {S : List xO} {x : Nat} {p0 : Int32} {o : Nat} {F F2 : xF} {G G2 : xL} {r : Int32} (h : f_La_at S x p0 o F G = some (r, F2, G2)) : CTW l g 7 121 1 6 y_La_at b_La_at 4 (some .int) [(0, 9, 12, 24)] [.ref x, .int p0, .ref o] S F G (some (.int r)) F2 G2 := by
  refine CTW.of [some (.ref x), some (.int p0), some (.ref o), none] (by decide) (Nat.le_of_ble_eq_true rfl) rfl ?_
  intro p e s m args below meth c C hr htab
  unfold f_La_at at h
  refine V.aload_n C 2 rfl rfl d_La_at_0 ?_
  refine V.iconst C 0 (by decide) d_La_at_1 ?_
  refine V.aload_n C 0 rfl rfl d_La_at_2 ?_
  refine V.iload_n C 1 rfl rfl d_La_at_3 ?_
  obtain ⟨⟨k, r0, F1⟩, e1, h⟩ := Option.bind_eq_some_iff.mp h
  obtain ⟨⟨fs1, s1⟩, e1⟩ := xcl_spec e1
  dsimp only at h
  by_cases c0 : k = 0
  · subst c0
    rw [if_pos rfl] at h
    refine V.cVr C (c_PF_at e1) ml_La_33 s1 rfl rfl (by decide) (Nat.le_of_ble_eq_true rfl) d_La_at_4 ?_
    refine V.i2l C d_La_at_7 ?_
    obtain ⟨G1, e2, h⟩ := Option.bind_eq_some_iff.mp h
    refine V.xlast C e2 d_La_at_8 ?_
    refine V.goto C 15 (by decide) d_La_at_9 ?_
    refine V.iconst C 0 (by decide) d_La_at_15 ?_
    simp only [Option.some.injEq, Prod.mk.injEq] at h
    obtain ⟨rfl, rfl, rfl⟩ := h
    refine V.wide 1 6 (by decide) (by decide) ?_
    exact V.iret C hr d_La_at_16 rfl rfl rfl rfl
  rw [if_neg c0] at h
  by_cases c3 : k = 3
  · subst c3
    rw [if_pos rfl] at h
    simp only [Option.some.injEq, Prod.mk.injEq] at h
    obtain ⟨rfl, rfl, rfl⟩ := h
    refine V.cX C htab (x_PF_at hfl e1) ml_La_33 ca_La_at_3 gw_47 s1 rfl rfl (by decide) (Nat.le_of_ble_eq_true rfl) d_La_at_4 (fun j9 => ?_)
    refine V.as3 C (by decide) rfl d_La_at_12 ?_
    refine V.iconst C 1 (by decide) d_La_at_13 ?_
    exact V.iret C hr d_La_at_14 rfl rfl rfl rfl
  rw [if_neg c3] at h
  cases h
def f_La_frame (S : List xO) (N : Nat) (x : Nat) (p0 : Int32) (p1 : Int32) (p2 : Int32) (p3 : Int32) (p4 : Int32) (p5 : Int32) (p6 : Int32) (o : Nat) (F : xF) (G : xL) : Option (Int32 × xF × xL) :=
  (xcl S 8 x (f_PF_frame S N x p0 p1 p2 p3 p4 p5 p6 F)).bind fun w =>
  if w.1 = 0 then (lP S o 0 w.2.1.toInt64 G).bind fun G1 => some (0, w.2.2, G1)
  else if w.1 = 1 then some (1, w.2.2, G)
  else if w.1 = 4 then some (2, w.2.2, G)
  else if w.1 = 2 then some (3, w.2.2, G)
  else none
set_option maxHeartbeats 4000000 in
set_option maxRecDepth 100000 in
theorem c_La_frame {l : Launch} (hfl : l.flags = flags0) {g : xG} {S : List xO} {x : Nat} {p0 : Int32} {p1 : Int32} {p2 : Int32} {p3 : Int32} {p4 : Int32} {p5 : Int32} {p6 : Int32} {o : Nat} {N : Nat} {F F2 : xF} {G G2 : xL} {r : Int32} (h : f_La_frame S N x p0 p1 p2 p3 p4 p5 p6 o F G = some (r, F2, G2)) : CTW l g 7 128 1 6 y_La_frame b_La_frame 10 (some .int) [(0, 20, 23, 13), (0, 20, 27, 40), (0, 20, 31, 15)] [.ref x, .int p0, .int p1, .int p2, .int p3, .int p4, .int p5, .int p6, .ref o] S F G (some (.int r)) F2 G2 := by
  refine CTW.of [some (.ref x), some (.int p0), some (.int p1), some (.int p2), some (.int p3), some (.int p4), some (.int p5), some (.int p6), some (.ref o), none] (by decide) (Nat.le_of_ble_eq_true rfl) rfl ?_
  intro p e s m args below meth c C hr htab
  unfold f_La_frame at h
  refine V.aload C rfl d_La_frame_0 ?_
  refine V.iconst C 0 (by decide) d_La_frame_2 ?_
  refine V.aload_n C 0 rfl rfl d_La_frame_3 ?_
  refine V.iload_n C 1 rfl rfl d_La_frame_4 ?_
  refine V.iload_n C 2 rfl rfl d_La_frame_5 ?_
  refine V.iload_n C 3 rfl rfl d_La_frame_6 ?_
  refine V.iload C rfl d_La_frame_7 ?_
  refine V.iload C rfl d_La_frame_9 ?_
  refine V.iload C rfl d_La_frame_11 ?_
  refine V.iload C rfl d_La_frame_13 ?_
  obtain ⟨⟨k, r0, F1⟩, e1, h⟩ := Option.bind_eq_some_iff.mp h
  obtain ⟨⟨fs1, s1⟩, e1⟩ := xcl_spec e1
  dsimp only at h
  by_cases c0 : k = 0
  · subst c0
    rw [if_pos rfl] at h
    refine V.cVr C (c_PF_frame e1) ml_La_36 s1 rfl rfl (by decide) (Nat.le_of_ble_eq_true rfl) d_La_frame_15 ?_
    refine V.i2l C d_La_frame_18 ?_
    obtain ⟨G1, e2, h⟩ := Option.bind_eq_some_iff.mp h
    refine V.xlast C e2 d_La_frame_19 ?_
    refine V.goto C 35 (by decide) d_La_frame_20 ?_
    refine V.iconst C 0 (by decide) d_La_frame_35 ?_
    simp only [Option.some.injEq, Prod.mk.injEq] at h
    obtain ⟨rfl, rfl, rfl⟩ := h
    refine V.wide 1 6 (by decide) (by decide) ?_
    exact V.iret C hr d_La_frame_36 rfl rfl rfl rfl
  rw [if_neg c0] at h
  by_cases c1 : k = 1
  · subst c1
    rw [if_pos rfl] at h
    simp only [Option.some.injEq, Prod.mk.injEq] at h
    obtain ⟨rfl, rfl, rfl⟩ := h
    refine V.cX C htab (x_PF_frame hfl e1) ml_La_36 ca_La_frame_1 gw_45 s1 rfl rfl (by decide) (Nat.le_of_ble_eq_true rfl) d_La_frame_15 (fun j9 => ?_)
    refine V.as9 C (by decide) rfl d_La_frame_23 ?_
    refine V.iconst C 1 (by decide) d_La_frame_25 ?_
    exact V.iret C hr d_La_frame_26 rfl rfl rfl rfl
  rw [if_neg c1] at h
  by_cases c4 : k = 4
  · subst c4
    rw [if_pos rfl] at h
    simp only [Option.some.injEq, Prod.mk.injEq] at h
    obtain ⟨rfl, rfl, rfl⟩ := h
    refine V.cX C htab (x_PF_frame hfl e1) ml_La_36 ca_La_frame_4 gw_48 s1 rfl rfl (by decide) (Nat.le_of_ble_eq_true rfl) d_La_frame_15 (fun j9 => ?_)
    refine V.as9 C (by decide) rfl d_La_frame_27 ?_
    refine V.iconst C 2 (by decide) d_La_frame_29 ?_
    exact V.iret C hr d_La_frame_30 rfl rfl rfl rfl
  rw [if_neg c4] at h
  by_cases c2 : k = 2
  · subst c2
    rw [if_pos rfl] at h
    simp only [Option.some.injEq, Prod.mk.injEq] at h
    obtain ⟨rfl, rfl, rfl⟩ := h
    refine V.cX C htab (x_PF_frame hfl e1) ml_La_36 ca_La_frame_2 gw_46 s1 rfl rfl (by decide) (Nat.le_of_ble_eq_true rfl) d_La_frame_15 (fun j9 => ?_)
    refine V.as9 C (by decide) rfl d_La_frame_31 ?_
    refine V.iconst C 3 (by decide) d_La_frame_33 ?_
    exact V.iret C hr d_La_frame_34 rfl rfl rfl rfl
  rw [if_neg c2] at h
  cases h
def f_La_colour (S : List xO) (x : Nat) (p0 : Int32) (p1 : Int32) (p2 : Int32) (o : Nat) (F : xF) (G : xL) : Option (Int32 × xF × xL) :=
  (xcl S 8 x (f_PF_colour S x p0 p1 p2 F)).bind fun w =>
  if w.1 = 0 then (lP S o 0 w.2.1.toInt64 G).bind fun G1 => some (0, w.2.2, G1)
  else if w.1 = 3 then some (1, w.2.2, G)
  else if w.1 = 1 then some (2, w.2.2, G)
  else none
set_option maxHeartbeats 4000000 in
set_option maxRecDepth 100000 in
theorem c_La_colour {l : Launch} (hfl : l.flags = flags0) {g : xG} {S : List xO} {x : Nat} {p0 : Int32} {p1 : Int32} {p2 : Int32} {o : Nat} {F F2 : xF} {G G2 : xL} {r : Int32} (h : f_La_colour S x p0 p1 p2 o F G = some (r, F2, G2)) : CTW l g 7 124 1 6 y_La_colour b_La_colour 6 (some .int) [(0, 12, 15, 24), (0, 12, 19, 13)] [.ref x, .int p0, .int p1, .int p2, .ref o] S F G (some (.int r)) F2 G2 := by
  refine CTW.of [some (.ref x), some (.int p0), some (.int p1), some (.int p2), some (.ref o), none] (by decide) (Nat.le_of_ble_eq_true rfl) rfl ?_
  intro p e s m args below meth c C hr htab
  unfold f_La_colour at h
  refine V.aload C rfl d_La_colour_0 ?_
  refine V.iconst C 0 (by decide) d_La_colour_2 ?_
  refine V.aload_n C 0 rfl rfl d_La_colour_3 ?_
  refine V.iload_n C 1 rfl rfl d_La_colour_4 ?_
  refine V.iload_n C 2 rfl rfl d_La_colour_5 ?_
  refine V.iload_n C 3 rfl rfl d_La_colour_6 ?_
  obtain ⟨⟨k, r0, F1⟩, e1, h⟩ := Option.bind_eq_some_iff.mp h
  obtain ⟨⟨fs1, s1⟩, e1⟩ := xcl_spec e1
  dsimp only at h
  by_cases c0 : k = 0
  · subst c0
    rw [if_pos rfl] at h
    refine V.cVr C (c_PF_colour e1) ml_La_42 s1 rfl rfl (by decide) (Nat.le_of_ble_eq_true rfl) d_La_colour_7 ?_
    refine V.i2l C d_La_colour_10 ?_
    obtain ⟨G1, e2, h⟩ := Option.bind_eq_some_iff.mp h
    refine V.xlast C e2 d_La_colour_11 ?_
    refine V.goto C 23 (by decide) d_La_colour_12 ?_
    refine V.iconst C 0 (by decide) d_La_colour_23 ?_
    simp only [Option.some.injEq, Prod.mk.injEq] at h
    obtain ⟨rfl, rfl, rfl⟩ := h
    refine V.wide 1 6 (by decide) (by decide) ?_
    exact V.iret C hr d_La_colour_24 rfl rfl rfl rfl
  rw [if_neg c0] at h
  by_cases c3 : k = 3
  · subst c3
    rw [if_pos rfl] at h
    simp only [Option.some.injEq, Prod.mk.injEq] at h
    obtain ⟨rfl, rfl, rfl⟩ := h
    refine V.cX C htab (x_PF_colour hfl e1) ml_La_42 ca_La_colour_3 gw_47 s1 rfl rfl (by decide) (Nat.le_of_ble_eq_true rfl) d_La_colour_7 (fun j9 => ?_)
    refine V.as5 C (by decide) rfl d_La_colour_15 ?_
    refine V.iconst C 1 (by decide) d_La_colour_17 ?_
    exact V.iret C hr d_La_colour_18 rfl rfl rfl rfl
  rw [if_neg c3] at h
  by_cases c1 : k = 1
  · subst c1
    rw [if_pos rfl] at h
    simp only [Option.some.injEq, Prod.mk.injEq] at h
    obtain ⟨rfl, rfl, rfl⟩ := h
    refine V.cX C htab (x_PF_colour hfl e1) ml_La_42 ca_La_colour_1 gw_45 s1 rfl rfl (by decide) (Nat.le_of_ble_eq_true rfl) d_La_colour_7 (fun j9 => ?_)
    refine V.as5 C (by decide) rfl d_La_colour_19 ?_
    refine V.iconst C 2 (by decide) d_La_colour_21 ?_
    exact V.iret C hr d_La_colour_22 rfl rfl rfl rfl
  rw [if_neg c1] at h
  cases h
def f_La_through (S : List xO) (x : Nat) (p0 : Int32) (p1 : Int32) (o : Nat) (F : xF) (G : xL) : Option (Int32 × xF × xL) :=
  (xcl S 8 x (f_PF_through S x p0 p1 F)).bind fun w =>
  if w.1 = 0 then (lP S o 0 w.2.1.toInt64 G).bind fun G1 => some (0, w.2.2, G1)
  else if w.1 = 3 then some (1, w.2.2, G)
  else none
set_option maxHeartbeats 4000000 in
set_option maxRecDepth 100000 in
theorem c_La_through {l : Launch} (hfl : l.flags = flags0) {g : xG} {S : List xO} {x : Nat} {p0 : Int32} {p1 : Int32} {o : Nat} {F F2 : xF} {G G2 : xL} {r : Int32} (h : f_La_through S x p0 p1 o F G = some (r, F2, G2)) : CTW l g 7 123 1 6 y_La_through b_La_through 5 (some .int) [(0, 10, 13, 24)] [.ref x, .int p0, .int p1, .ref o] S F G (some (.int r)) F2 G2 := by
  refine CTW.of [some (.ref x), some (.int p0), some (.int p1), some (.ref o), none] (by decide) (Nat.le_of_ble_eq_true rfl) rfl ?_
  intro p e s m args below meth c C hr htab
  unfold f_La_through at h
  refine V.aload_n C 3 rfl rfl d_La_through_0 ?_
  refine V.iconst C 0 (by decide) d_La_through_1 ?_
  refine V.aload_n C 0 rfl rfl d_La_through_2 ?_
  refine V.iload_n C 1 rfl rfl d_La_through_3 ?_
  refine V.iload_n C 2 rfl rfl d_La_through_4 ?_
  obtain ⟨⟨k, r0, F1⟩, e1, h⟩ := Option.bind_eq_some_iff.mp h
  obtain ⟨⟨fs1, s1⟩, e1⟩ := xcl_spec e1
  dsimp only at h
  by_cases c0 : k = 0
  · subst c0
    rw [if_pos rfl] at h
    refine V.cVr C (c_PF_through e1) ml_La_45 s1 rfl rfl (by decide) (Nat.le_of_ble_eq_true rfl) d_La_through_5 ?_
    refine V.i2l C d_La_through_8 ?_
    obtain ⟨G1, e2, h⟩ := Option.bind_eq_some_iff.mp h
    refine V.xlast C e2 d_La_through_9 ?_
    refine V.goto C 17 (by decide) d_La_through_10 ?_
    refine V.iconst C 0 (by decide) d_La_through_17 ?_
    simp only [Option.some.injEq, Prod.mk.injEq] at h
    obtain ⟨rfl, rfl, rfl⟩ := h
    refine V.wide 1 6 (by decide) (by decide) ?_
    exact V.iret C hr d_La_through_18 rfl rfl rfl rfl
  rw [if_neg c0] at h
  by_cases c3 : k = 3
  · subst c3
    rw [if_pos rfl] at h
    simp only [Option.some.injEq, Prod.mk.injEq] at h
    obtain ⟨rfl, rfl, rfl⟩ := h
    refine V.cX C htab (x_PF_through hfl e1) ml_La_45 ca_La_through_3 gw_47 s1 rfl rfl (by decide) (Nat.le_of_ble_eq_true rfl) d_La_through_5 (fun j9 => ?_)
    refine V.as4 C (by decide) rfl d_La_through_13 ?_
    refine V.iconst C 1 (by decide) d_La_through_15 ?_
    exact V.iret C hr d_La_through_16 rfl rfl rfl rfl
  rw [if_neg c3] at h
  cases h
def f_La_shown (S : List xO) (N : Nat) (x : Nat) (p0 : Int32) (p1 : Int32) (p2 : Int32) (o : Nat) (F : xF) (G : xL) : Option (Int32 × xF × xL) :=
  (xcl S 8 x (f_PF_shown S N x p0 p1 p2 F)).bind fun w =>
  if w.1 = 0 then (lP S o 0 w.2.1.toInt64 G).bind fun G1 => some (0, w.2.2, G1)
  else if w.1 = 3 then some (1, w.2.2, G)
  else none
set_option maxHeartbeats 4000000 in
set_option maxRecDepth 100000 in
theorem c_La_shown {l : Launch} (hfl : l.flags = flags0) {g : xG} {S : List xO} {x : Nat} {p0 : Int32} {p1 : Int32} {p2 : Int32} {o : Nat} {N : Nat} {F F2 : xF} {G G2 : xL} {r : Int32} (h : f_La_shown S N x p0 p1 p2 o F G = some (r, F2, G2)) : CTW l g 7 123 1 6 y_La_shown b_La_shown 6 (some .int) [(0, 12, 15, 24)] [.ref x, .int p0, .int p1, .int p2, .ref o] S F G (some (.int r)) F2 G2 := by
  refine CTW.of [some (.ref x), some (.int p0), some (.int p1), some (.int p2), some (.ref o), none] (by decide) (Nat.le_of_ble_eq_true rfl) rfl ?_
  intro p e s m args below meth c C hr htab
  unfold f_La_shown at h
  refine V.aload C rfl d_La_shown_0 ?_
  refine V.iconst C 0 (by decide) d_La_shown_2 ?_
  refine V.aload_n C 0 rfl rfl d_La_shown_3 ?_
  refine V.iload_n C 1 rfl rfl d_La_shown_4 ?_
  refine V.iload_n C 2 rfl rfl d_La_shown_5 ?_
  refine V.iload_n C 3 rfl rfl d_La_shown_6 ?_
  obtain ⟨⟨k, r0, F1⟩, e1, h⟩ := Option.bind_eq_some_iff.mp h
  obtain ⟨⟨fs1, s1⟩, e1⟩ := xcl_spec e1
  dsimp only at h
  by_cases c0 : k = 0
  · subst c0
    rw [if_pos rfl] at h
    refine V.cVr C (c_PF_shown e1) ml_La_48 s1 rfl rfl (by decide) (Nat.le_of_ble_eq_true rfl) d_La_shown_7 ?_
    refine V.i2l C d_La_shown_10 ?_
    obtain ⟨G1, e2, h⟩ := Option.bind_eq_some_iff.mp h
    refine V.xlast C e2 d_La_shown_11 ?_
    refine V.goto C 19 (by decide) d_La_shown_12 ?_
    refine V.iconst C 0 (by decide) d_La_shown_19 ?_
    simp only [Option.some.injEq, Prod.mk.injEq] at h
    obtain ⟨rfl, rfl, rfl⟩ := h
    refine V.wide 1 6 (by decide) (by decide) ?_
    exact V.iret C hr d_La_shown_20 rfl rfl rfl rfl
  rw [if_neg c0] at h
  by_cases c3 : k = 3
  · subst c3
    rw [if_pos rfl] at h
    simp only [Option.some.injEq, Prod.mk.injEq] at h
    obtain ⟨rfl, rfl, rfl⟩ := h
    refine V.cX C htab (x_PF_shown hfl e1) ml_La_48 ca_La_shown_3 gw_47 s1 rfl rfl (by decide) (Nat.le_of_ble_eq_true rfl) d_La_shown_7 (fun j9 => ?_)
    refine V.as5 C (by decide) rfl d_La_shown_15 ?_
    refine V.iconst C 1 (by decide) d_La_shown_17 ?_
    exact V.iret C hr d_La_shown_18 rfl rfl rfl rfl
  rw [if_neg c3] at h
  cases h
def f_La_symbol (S : List xO) (x : Nat) (p0 : Int32) (p1 : Int32) (p2 : Int32) (o : Nat) (F : xF) (G : xL) : Option (Int32 × xF × xL) :=
  (xcl S 8 x (f_PF_symbol S x p0 p1 p2 F)).bind fun w =>
  if w.1 = 0 then (lP S o 0 w.2.1.toInt64 G).bind fun G1 => some (0, w.2.2, G1)
  else if w.1 = 3 then some (1, w.2.2, G)
  else none
set_option maxHeartbeats 4000000 in
set_option maxRecDepth 100000 in
theorem c_La_symbol {l : Launch} (hfl : l.flags = flags0) {g : xG} {S : List xO} {x : Nat} {p0 : Int32} {p1 : Int32} {p2 : Int32} {o : Nat} {F F2 : xF} {G G2 : xL} {r : Int32} (h : f_La_symbol S x p0 p1 p2 o F G = some (r, F2, G2)) : CTW l g 7 124 1 6 y_La_symbol b_La_symbol 6 (some .int) [(0, 12, 15, 24)] [.ref x, .int p0, .int p1, .int p2, .ref o] S F G (some (.int r)) F2 G2 := by
  refine CTW.of [some (.ref x), some (.int p0), some (.int p1), some (.int p2), some (.ref o), none] (by decide) (Nat.le_of_ble_eq_true rfl) rfl ?_
  intro p e s m args below meth c C hr htab
  unfold f_La_symbol at h
  refine V.aload C rfl d_La_symbol_0 ?_
  refine V.iconst C 0 (by decide) d_La_symbol_2 ?_
  refine V.aload_n C 0 rfl rfl d_La_symbol_3 ?_
  refine V.iload_n C 1 rfl rfl d_La_symbol_4 ?_
  refine V.iload_n C 2 rfl rfl d_La_symbol_5 ?_
  refine V.iload_n C 3 rfl rfl d_La_symbol_6 ?_
  obtain ⟨⟨k, r0, F1⟩, e1, h⟩ := Option.bind_eq_some_iff.mp h
  obtain ⟨⟨fs1, s1⟩, e1⟩ := xcl_spec e1
  dsimp only at h
  by_cases c0 : k = 0
  · subst c0
    rw [if_pos rfl] at h
    refine V.cVr C (c_PF_symbol e1) ml_La_51 s1 rfl rfl (by decide) (Nat.le_of_ble_eq_true rfl) d_La_symbol_7 ?_
    refine V.i2l C d_La_symbol_10 ?_
    obtain ⟨G1, e2, h⟩ := Option.bind_eq_some_iff.mp h
    refine V.xlast C e2 d_La_symbol_11 ?_
    refine V.goto C 19 (by decide) d_La_symbol_12 ?_
    refine V.iconst C 0 (by decide) d_La_symbol_19 ?_
    simp only [Option.some.injEq, Prod.mk.injEq] at h
    obtain ⟨rfl, rfl, rfl⟩ := h
    refine V.wide 1 6 (by decide) (by decide) ?_
    exact V.iret C hr d_La_symbol_20 rfl rfl rfl rfl
  rw [if_neg c0] at h
  by_cases c3 : k = 3
  · subst c3
    rw [if_pos rfl] at h
    simp only [Option.some.injEq, Prod.mk.injEq] at h
    obtain ⟨rfl, rfl, rfl⟩ := h
    refine V.cX C htab (x_PF_symbol hfl e1) ml_La_51 ca_La_symbol_3 gw_47 s1 rfl rfl (by decide) (Nat.le_of_ble_eq_true rfl) d_La_symbol_7 (fun j9 => ?_)
    refine V.as5 C (by decide) rfl d_La_symbol_15 ?_
    refine V.iconst C 1 (by decide) d_La_symbol_17 ?_
    exact V.iret C hr d_La_symbol_18 rfl rfl rfl rfl
  rw [if_neg c3] at h
  cases h
def f_La_when (S : List xO) (N : Nat) (x : Nat) (p0 : Int32) (p1 : Int32) (o : Nat) (F : xF) (G : xL) : Option (Int32 × xF × xL) :=
  (xcl S 8 x (f_PF_when S N x p0 p1 F)).bind fun w =>
  if w.1 = 0 then (lP S o 0 w.2.1.toInt64 G).bind fun G1 => some (0, w.2.2, G1)
  else if w.1 = 1 then some (1, w.2.2, G)
  else none
set_option maxHeartbeats 4000000 in
set_option maxRecDepth 100000 in
theorem c_La_when {l : Launch} (hfl : l.flags = flags0) {g : xG} {S : List xO} {x : Nat} {p0 : Int32} {p1 : Int32} {o : Nat} {N : Nat} {F F2 : xF} {G G2 : xL} {r : Int32} (h : f_La_when S N x p0 p1 o F G = some (r, F2, G2)) : CTW l g 7 122 1 6 y_La_when b_La_when 5 (some .int) [(0, 10, 13, 13)] [.ref x, .int p0, .int p1, .ref o] S F G (some (.int r)) F2 G2 := by
  refine CTW.of [some (.ref x), some (.int p0), some (.int p1), some (.ref o), none] (by decide) (Nat.le_of_ble_eq_true rfl) rfl ?_
  intro p e s m args below meth c C hr htab
  unfold f_La_when at h
  refine V.aload_n C 3 rfl rfl d_La_when_0 ?_
  refine V.iconst C 0 (by decide) d_La_when_1 ?_
  refine V.aload_n C 0 rfl rfl d_La_when_2 ?_
  refine V.iload_n C 1 rfl rfl d_La_when_3 ?_
  refine V.iload_n C 2 rfl rfl d_La_when_4 ?_
  obtain ⟨⟨k, r0, F1⟩, e1, h⟩ := Option.bind_eq_some_iff.mp h
  obtain ⟨⟨fs1, s1⟩, e1⟩ := xcl_spec e1
  dsimp only at h
  by_cases c0 : k = 0
  · subst c0
    rw [if_pos rfl] at h
    refine V.cVr C (c_PF_when e1) ml_La_54 s1 rfl rfl (by decide) (Nat.le_of_ble_eq_true rfl) d_La_when_5 ?_
    refine V.i2l C d_La_when_8 ?_
    obtain ⟨G1, e2, h⟩ := Option.bind_eq_some_iff.mp h
    refine V.xlast C e2 d_La_when_9 ?_
    refine V.goto C 17 (by decide) d_La_when_10 ?_
    refine V.iconst C 0 (by decide) d_La_when_17 ?_
    simp only [Option.some.injEq, Prod.mk.injEq] at h
    obtain ⟨rfl, rfl, rfl⟩ := h
    refine V.wide 1 6 (by decide) (by decide) ?_
    exact V.iret C hr d_La_when_18 rfl rfl rfl rfl
  rw [if_neg c0] at h
  by_cases c1 : k = 1
  · subst c1
    rw [if_pos rfl] at h
    simp only [Option.some.injEq, Prod.mk.injEq] at h
    obtain ⟨rfl, rfl, rfl⟩ := h
    refine V.cX C htab (x_PF_when hfl e1) ml_La_54 ca_La_when_1 gw_45 s1 rfl rfl (by decide) (Nat.le_of_ble_eq_true rfl) d_La_when_5 (fun j9 => ?_)
    refine V.as4 C (by decide) rfl d_La_when_13 ?_
    refine V.iconst C 1 (by decide) d_La_when_15 ?_
    exact V.iret C hr d_La_when_16 rfl rfl rfl rfl
  rw [if_neg c1] at h
  cases h
def f_La_passOf (S : List xO) (x : Nat) (p0 : Int32) (o : Nat) (F : xF) (G : xL) : Option (Int32 × xF × xL) :=
  (xcl S 8 x (f_PF_passOf S x p0 F)).bind fun w =>
  if w.1 = 0 then (lP S o 0 w.2.1.toInt64 G).bind fun G1 => some (0, w.2.2, G1)
  else if w.1 = 1 then some (1, w.2.2, G)
  else none
set_option maxHeartbeats 4000000 in
set_option maxRecDepth 100000 in
theorem c_La_passOf {l : Launch} (hfl : l.flags = flags0) {g : xG} {S : List xO} {x : Nat} {p0 : Int32} {o : Nat} {F F2 : xF} {G G2 : xL} {r : Int32} (h : f_La_passOf S x p0 o F G = some (r, F2, G2)) : CTW l g 7 121 1 6 y_La_passOf b_La_passOf 4 (some .int) [(0, 9, 12, 13)] [.ref x, .int p0, .ref o] S F G (some (.int r)) F2 G2 := by
  refine CTW.of [some (.ref x), some (.int p0), some (.ref o), none] (by decide) (Nat.le_of_ble_eq_true rfl) rfl ?_
  intro p e s m args below meth c C hr htab
  unfold f_La_passOf at h
  refine V.aload_n C 2 rfl rfl d_La_passOf_0 ?_
  refine V.iconst C 0 (by decide) d_La_passOf_1 ?_
  refine V.aload_n C 0 rfl rfl d_La_passOf_2 ?_
  refine V.iload_n C 1 rfl rfl d_La_passOf_3 ?_
  obtain ⟨⟨k, r0, F1⟩, e1, h⟩ := Option.bind_eq_some_iff.mp h
  obtain ⟨⟨fs1, s1⟩, e1⟩ := xcl_spec e1
  dsimp only at h
  by_cases c0 : k = 0
  · subst c0
    rw [if_pos rfl] at h
    refine V.cVr C (c_PF_passOf e1) ml_La_57 s1 rfl rfl (by decide) (Nat.le_of_ble_eq_true rfl) d_La_passOf_4 ?_
    refine V.i2l C d_La_passOf_7 ?_
    obtain ⟨G1, e2, h⟩ := Option.bind_eq_some_iff.mp h
    refine V.xlast C e2 d_La_passOf_8 ?_
    refine V.goto C 15 (by decide) d_La_passOf_9 ?_
    refine V.iconst C 0 (by decide) d_La_passOf_15 ?_
    simp only [Option.some.injEq, Prod.mk.injEq] at h
    obtain ⟨rfl, rfl, rfl⟩ := h
    refine V.wide 1 6 (by decide) (by decide) ?_
    exact V.iret C hr d_La_passOf_16 rfl rfl rfl rfl
  rw [if_neg c0] at h
  by_cases c1 : k = 1
  · subst c1
    rw [if_pos rfl] at h
    simp only [Option.some.injEq, Prod.mk.injEq] at h
    obtain ⟨rfl, rfl, rfl⟩ := h
    refine V.cX C htab (x_PF_passOf hfl e1) ml_La_57 ca_La_passOf_1 gw_45 s1 rfl rfl (by decide) (Nat.le_of_ble_eq_true rfl) d_La_passOf_4 (fun j9 => ?_)
    refine V.as3 C (by decide) rfl d_La_passOf_12 ?_
    refine V.iconst C 1 (by decide) d_La_passOf_13 ?_
    exact V.iret C hr d_La_passOf_14 rfl rfl rfl rfl
  rw [if_neg c1] at h
  cases h
