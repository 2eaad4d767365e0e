def f_Nu_room (S : List xO) (a : Nat) (F : xF) : Option Int32 :=
  (gR S 0 a 0).bind fun q1 =>
  (aN S q1).bind fun v3 =>
  (gI S 0 a 1 F).bind fun v5 =>
  some (v3 - v5)
set_option maxHeartbeats 4000000 in
set_option maxRecDepth 100000 in
theorem c_Nu_room {l : Launch} {g : xG} {S : List xO} {G : xL} {a : Nat} {F : xF} {r : Int32} (h : f_Nu_room S a F = some r) : CT l g 0 0 0 0 y_Nu_room b_Nu_room 1 (some .int) 1 [.ref a] S F G (some (.int r)) S F G := by
  refine CT.of [some (.ref a)] (by decide) (Nat.le_of_ble_eq_true rfl) rfl ?_
  intro p e s m args below meth c C hr hmn hz
  unfold f_Nu_room at h
  refine V.aload_n C 0 rfl rfl d_Nu_room_0 ?_
  obtain ⟨q1, e2, h⟩ := Option.bind_eq_some_iff.mp h
  refine V.xgetR C fl_Nu_9 e2 d_Nu_room_1 ?_
  obtain ⟨v3, e4, h⟩ := Option.bind_eq_some_iff.mp h
  refine V.xalen C e4 d_Nu_room_4 ?_
  refine V.aload_n C 0 rfl rfl d_Nu_room_5 ?_
  obtain ⟨v5, e6, h⟩ := Option.bind_eq_some_iff.mp h
  refine V.xgetI C fl_Nu_15 e6 d_Nu_room_6 ?_
  refine V.isub C d_Nu_room_9 ?_
  obtain rfl := Option.some.inj h
  exact V.iret C hr d_Nu_room_10 rfl rfl rfl rfl
def f_Nu_add (S : List xO) (a : Nat) (p0 : Int32) (F : xF) : Option xF :=
  (gI S 0 a 1 F).bind fun v1 =>
  (gR S 0 a 0).bind fun q3 =>
  (aN S q3).bind fun v5 =>
  if v5 ≤ v1 then
    some F
  else
  (gI S 0 a 1 F).bind fun v8 =>
  (aP S q3 v8 p0 F).bind fun F10 =>
  (gI S 0 a 1 F10).bind fun v12 =>
  (pI S 0 a 1 (v12 + (1 : Int32)) F10).bind fun F14 =>
  some F14
set_option maxHeartbeats 4000000 in
set_option maxRecDepth 100000 in
theorem c_Nu_add {l : Launch} {g : xG} {S : List xO} {G : xL} {a : Nat} {p0 : Int32} {F : xF} {F2 : xF} (h : f_Nu_add S a p0 F = some F2) : CT l g 0 0 0 0 y_Nu_add b_Nu_add 2 none 1 [.ref a, .int p0] S F G none S F2 G := by
  refine CT.of [some (.ref a), some (.int p0)] (by decide) (Nat.le_of_ble_eq_true rfl) rfl ?_
  intro p e s m args below meth c C hr hmn hz
  unfold f_Nu_add at h
  refine V.aload_n C 0 rfl rfl d_Nu_add_0 ?_
  obtain ⟨v1, e2, h⟩ := Option.bind_eq_some_iff.mp h
  refine V.xgetI C fl_Nu_15 e2 d_Nu_add_1 ?_
  refine V.aload_n C 0 rfl rfl d_Nu_add_4 ?_
  obtain ⟨q3, e4, h⟩ := Option.bind_eq_some_iff.mp h
  refine V.xgetR C fl_Nu_9 e4 d_Nu_add_5 ?_
  obtain ⟨v5, e6, h⟩ := Option.bind_eq_some_iff.mp h
  refine V.xalen C e6 d_Nu_add_8 ?_
  refine V.icmp_ge C 32 (by decide) d_Nu_add_9 (fun c7 => ?_) (fun c7 => ?_)
  · rw [if_pos c7] at h
    obtain rfl := Option.some.inj h
    exact V.vret C hr d_Nu_add_32 rfl rfl rfl
  · rw [if_neg c7] at h
    refine V.aload_n C 0 rfl rfl d_Nu_add_12 ?_
    refine V.xgetR C fl_Nu_9 e4 d_Nu_add_13 ?_
    refine V.aload_n C 0 rfl rfl d_Nu_add_16 ?_
    obtain ⟨v8, e9, h⟩ := Option.bind_eq_some_iff.mp h
    refine V.xgetI C fl_Nu_15 e9 d_Nu_add_17 ?_
    refine V.iload_n C 1 rfl rfl d_Nu_add_20 ?_
    obtain ⟨F10, e11, h⟩ := Option.bind_eq_some_iff.mp h
    refine V.xiast C e11 d_Nu_add_21 ?_
    refine V.aload_n C 0 rfl rfl d_Nu_add_22 ?_
    refine V.dup C rfl d_Nu_add_23 ?_
    obtain ⟨v12, e13, h⟩ := Option.bind_eq_some_iff.mp h
    refine V.xgetI C fl_Nu_15 e13 d_Nu_add_24 ?_
    refine V.iconst C 1 (by decide) d_Nu_add_27 ?_
    refine V.iadd C d_Nu_add_28 ?_
    obtain ⟨F14, e15, h⟩ := Option.bind_eq_some_iff.mp h
    refine V.xputI C fl_Nu_15 ft_0 fi_0_1 e15 d_Nu_add_29 ?_
    obtain rfl := Option.some.inj h
    exact V.vret C hr d_Nu_add_32 rfl rfl rfl
def f_Nu_empty (S : List xO) (a : Nat) (F : xF) : Option xF :=
  (pI S 0 a 1 (0 : Int32) F).bind fun F1 =>
  some F1
set_option maxHeartbeats 4000000 in
set_option maxRecDepth 100000 in
theorem c_Nu_empty {l : Launch} {g : xG} {S : List xO} {G : xL} {a : Nat} {F : xF} {F2 : xF} (h : f_Nu_empty S a F = some F2) : CT l g 0 0 0 0 y_Nu_empty b_Nu_empty 1 none 1 [.ref a] S F G none S F2 G := by
  refine CT.of [some (.ref a)] (by decide) (Nat.le_of_ble_eq_true rfl) rfl ?_
  intro p e s m args below meth c C hr hmn hz
  unfold f_Nu_empty at h
  refine V.aload_n C 0 rfl rfl d_Nu_empty_0 ?_
  refine V.iconst C 0 (by decide) d_Nu_empty_1 ?_
  obtain ⟨F1, e2, h⟩ := Option.bind_eq_some_iff.mp h
  refine V.xputI C fl_Nu_15 ft_0 fi_0_1 e2 d_Nu_empty_2 ?_
  obtain rfl := Option.some.inj h
  exact V.vret C hr d_Nu_empty_5 rfl rfl rfl
def f_Nu_has (S : List xO) (a : Nat) (p0 : Int32) (F : xF) : Option Int32 :=
  if p0 < (0 : Int32) then
    some (0 : Int32)
  else
  (gI S 0 a 1 F).bind fun v2 =>
  if v2 ≤ p0 then
    some (0 : Int32)
  else
  some (1 : Int32)
set_option maxHeartbeats 4000000 in
set_option maxRecDepth 100000 in
theorem c_Nu_has {l : Launch} {g : xG} {S : List xO} {G : xL} {a : Nat} {p0 : Int32} {F : xF} {r : Int32} (h : f_Nu_has S a p0 F = some r) : CT l g 0 0 0 0 y_Nu_has b_Nu_has 2 (some .boolean) 1 [.ref a, .int p0] S F G (some (.int r)) S F G := by
  refine CT.of [some (.ref a), some (.int p0)] (by decide) (Nat.le_of_ble_eq_true rfl) rfl ?_
  intro p e s m args below meth c C hr hmn hz
  unfold f_Nu_has at h
  refine V.iload_n C 1 rfl rfl d_Nu_has_0 ?_
  refine V.if_lt C 16 (by decide) d_Nu_has_1 (fun c1 => ?_) (fun c1 => ?_)
  · rw [if_pos c1] at h
    refine V.iconst C 0 (by decide) d_Nu_has_16 ?_
    obtain rfl := Option.some.inj h
    exact V.zret C hr (by first | rfl | exact xz_narrow (by assumption)) d_Nu_has_17 rfl rfl rfl rfl
  · rw [if_neg c1] at h
    refine V.iload_n C 1 rfl rfl d_Nu_has_4 ?_
    refine V.aload_n C 0 rfl rfl d_Nu_has_5 ?_
    obtain ⟨v2, e3, h⟩ := Option.bind_eq_some_iff.mp h
    refine V.xgetI C fl_Nu_15 e3 d_Nu_has_6 ?_
    refine V.icmp_ge C 16 (by decide) d_Nu_has_9 (fun c4 => ?_) (fun c4 => ?_)
    · rw [if_pos c4] at h
      refine V.iconst C 0 (by decide) d_Nu_has_16 ?_
      obtain rfl := Option.some.inj h
      exact V.zret C hr (by first | rfl | exact xz_narrow (by assumption)) d_Nu_has_17 rfl rfl rfl rfl
    · rw [if_neg c4] at h
      refine V.iconst C 1 (by decide) d_Nu_has_12 ?_
      refine V.goto C 17 (by decide) d_Nu_has_13 ?_
      obtain rfl := Option.some.inj h
      exact V.zret C hr (by first | rfl | exact xz_narrow (by assumption)) d_Nu_has_17 rfl rfl rfl rfl
def f_Nu_get (S : List xO) (a : Nat) (p0 : Int32) (F : xF) : Option Int32 :=
  (xcl S 0 a (f_Nu_has S a p0 F)).bind fun v1 =>
  if v1 = (0 : Int32) then
    some (-1 : Int32)
  else
  (gR S 0 a 0).bind fun q4 =>
  (aG S q4 p0 F).bind fun v6 =>
  some v6
set_option maxHeartbeats 4000000 in
set_option maxRecDepth 100000 in
theorem c_Nu_get {l : Launch} {g : xG} {S : List xO} {G : xL} {a : Nat} {p0 : Int32} {F : xF} {r : Int32} (h : f_Nu_get S a p0 F = some r) : CT l g 1 21 0 0 y_Nu_get b_Nu_get 2 (some .int) 1 [.ref a, .int p0] S F G (some (.int r)) S F G := by
  refine CT.of [some (.ref a), some (.int p0)] (by decide) (Nat.le_of_ble_eq_true rfl) rfl ?_
  intro p e s m args below meth c C hr hmn hz
  unfold f_Nu_get at h
  refine V.aload_n C 0 rfl rfl d_Nu_get_0 ?_
  refine V.iload_n C 1 rfl rfl d_Nu_get_1 ?_
  obtain ⟨v1, e2, h⟩ := Option.bind_eq_some_iff.mp h
  obtain ⟨⟨fs_e2, s_e2⟩, e2⟩ := xcl_spec e2
  refine V.cVr C (c_Nu_has e2) ml_Nu_19 s_e2 rfl rfl (by decide) (Nat.le_of_ble_eq_true rfl) d_Nu_get_2 ?_
  refine V.if_eq C 17 (by decide) d_Nu_get_5 (fun c3 => ?_) (fun c3 => ?_)
  · rw [if_pos c3] at h
    refine V.iconst C (-1) (by decide) d_Nu_get_17 ?_
    obtain rfl := Option.some.inj h
    exact V.iret C hr d_Nu_get_18 rfl rfl rfl rfl
  · rw [if_neg c3] at h
    refine V.aload_n C 0 rfl rfl d_Nu_get_8 ?_
    obtain ⟨q4, e5, h⟩ := Option.bind_eq_some_iff.mp h
    refine V.xgetR C fl_Nu_9 e5 d_Nu_get_9 ?_
    refine V.iload_n C 1 rfl rfl d_Nu_get_12 ?_
    obtain ⟨v6, e7, h⟩ := Option.bind_eq_some_iff.mp h
    refine V.xiald C e7 d_Nu_get_13 ?_
    refine V.goto C 18 (by decide) d_Nu_get_14 ?_
    obtain rfl := Option.some.inj h
    exact V.iret C hr d_Nu_get_18 rfl rfl rfl rfl
def f_Nu_dropFirst (S : List xO) (a : Nat) (p0 : Int32) (F : xF) : Option xF :=
  if p0 < (0 : Int32) then
    some F
  else
  (gI S 0 a 1 F).bind fun v2 =>
  if v2 < p0 then
    some F
  else
  (gR S 0 a 0).bind fun q5 =>
  (gI S 0 a 1 F).bind fun v7 =>
  (aC S q5 p0 (0 : Int32) (v7 - p0) F).bind fun F9 =>
  (gI S 0 a 1 F9).bind fun v11 =>
  (pI S 0 a 1 (v11 - p0) F9).bind fun F13 =>
  some F13
set_option maxHeartbeats 4000000 in
set_option maxRecDepth 100000 in
theorem c_Nu_dropFirst {l : Launch} {g : xG} {S : List xO} {G : xL} {a : Nat} {p0 : Int32} {F : xF} {F2 : xF} (h : f_Nu_dropFirst S a p0 F = some F2) : CT l g 1 30 0 0 y_Nu_dropFirst b_Nu_dropFirst 2 none 1 [.ref a, .int p0] S F G none S F2 G := by
  refine CT.of [some (.ref a), some (.int p0)] (by decide) (Nat.le_of_ble_eq_true rfl) rfl ?_
  intro p e s m args below meth c C hr hmn hz
  unfold f_Nu_dropFirst at h
  refine V.iload_n C 1 rfl rfl d_Nu_dropFirst_0 ?_
  refine V.if_lt C 41 (by decide) d_Nu_dropFirst_1 (fun c1 => ?_) (fun c1 => ?_)
  · rw [if_pos c1] at h
    obtain rfl := Option.some.inj h
    exact V.vret C hr d_Nu_dropFirst_41 rfl rfl rfl
  · rw [if_neg c1] at h
    refine V.iload_n C 1 rfl rfl d_Nu_dropFirst_4 ?_
    refine V.aload_n C 0 rfl rfl d_Nu_dropFirst_5 ?_
    obtain ⟨v2, e3, h⟩ := Option.bind_eq_some_iff.mp h
    refine V.xgetI C fl_Nu_15 e3 d_Nu_dropFirst_6 ?_
    refine V.icmp_gt C 41 (by decide) d_Nu_dropFirst_9 (fun c4 => ?_) (fun c4 => ?_)
    · rw [if_pos c4] at h
      obtain rfl := Option.some.inj h
      exact V.vret C hr d_Nu_dropFirst_41 rfl rfl rfl
    · rw [if_neg c4] at h
      refine V.aload_n C 0 rfl rfl d_Nu_dropFirst_12 ?_
      obtain ⟨q5, e6, h⟩ := Option.bind_eq_some_iff.mp h
      refine V.xgetR C fl_Nu_9 e6 d_Nu_dropFirst_13 ?_
      refine V.iload_n C 1 rfl rfl d_Nu_dropFirst_16 ?_
      refine V.aload_n C 0 rfl rfl d_Nu_dropFirst_17 ?_
      refine V.xgetR C fl_Nu_9 e6 d_Nu_dropFirst_18 ?_
      refine V.iconst C 0 (by decide) d_Nu_dropFirst_21 ?_
      refine V.aload_n C 0 rfl rfl d_Nu_dropFirst_22 ?_
      obtain ⟨v7, e8, h⟩ := Option.bind_eq_some_iff.mp h
      refine V.xgetI C fl_Nu_15 e8 d_Nu_dropFirst_23 ?_
      refine V.iload_n C 1 rfl rfl d_Nu_dropFirst_26 ?_
      refine V.isub C d_Nu_dropFirst_27 ?_
      obtain ⟨F9, e10, h⟩ := Option.bind_eq_some_iff.mp h
      refine V.xcopy C mw_Nu_23 e10 (by decide) d_Nu_dropFirst_28 ?_
      refine V.aload_n C 0 rfl rfl d_Nu_dropFirst_31 ?_
      refine V.dup C rfl d_Nu_dropFirst_32 ?_
      obtain ⟨v11, e12, h⟩ := Option.bind_eq_some_iff.mp h
      refine V.xgetI C fl_Nu_15 e12 d_Nu_dropFirst_33 ?_
      refine V.iload_n C 1 rfl rfl d_Nu_dropFirst_36 ?_
      refine V.isub C d_Nu_dropFirst_37 ?_
      obtain ⟨F13, e14, h⟩ := Option.bind_eq_some_iff.mp h
      refine V.xputI C fl_Nu_15 ft_0 fi_0_1 e14 d_Nu_dropFirst_38 ?_
      obtain rfl := Option.some.inj h
      exact V.vret C hr d_Nu_dropFirst_41 rfl rfl rfl
