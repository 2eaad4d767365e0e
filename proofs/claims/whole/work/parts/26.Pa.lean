def f_Pa_forget (S : List xO) (N : Nat) (a : Nat) (F : xF) : Option xF :=
  (gR S 5 a 0).bind fun q1 =>
  (f_Ar_fill S N q1 (-1 : Int32) F).bind fun F3 =>
  some F3
set_option maxHeartbeats 4000000 in
set_option maxRecDepth 100000 in
theorem c_Pa_forget {l : Launch} {g : xG} {S : List xO} {G : xL} {a : Nat} {N : Nat} {F : xF} {F2 : xF} (h : f_Pa_forget S N a F = some F2) : CT l g 1 23 0 0 y_Pa_forget b_Pa_forget 1 none 1 [.ref a] S F G none S F2 G := by
  refine CT.of [some (.ref a)] (by decide) (Nat.le_of_ble_eq_true rfl) rfl ?_
  intro p e s m args below meth c C hr hmn hz
  unfold f_Pa_forget at h
  refine V.aload_n C 0 rfl rfl d_Pa_forget_0 ?_
  obtain ⟨q1, e2, h⟩ := Option.bind_eq_some_iff.mp h
  refine V.xgetR C fl_Pa_9 e2 d_Pa_forget_1 ?_
  refine V.iconst C (-1) (by decide) d_Pa_forget_4 ?_
  obtain ⟨F3, e4, h⟩ := Option.bind_eq_some_iff.mp h
  refine V.cSv C (c_Ar_fill e4) ml_Pa_15 rfl rfl (by decide) (Nat.le_of_ble_eq_true rfl) d_Pa_forget_5 ?_
  obtain rfl := Option.some.inj h
  exact V.vret C hr d_Pa_forget_8 rfl rfl rfl
def f_Pa_get (S : List xO) (a : Nat) (p0 : Int32) (F : xF) : Option Int32 :=
  if p0 < (0 : Int32) then
    some (-1 : Int32)
  else
  (gR S 5 a 0).bind fun q2 =>
  (aN S q2).bind fun v4 =>
  if v4 ≤ p0 then
    some (-1 : Int32)
  else
  (aG S q2 p0 F).bind fun v7 =>
  some v7
set_option maxHeartbeats 4000000 in
set_option maxRecDepth 100000 in
theorem c_Pa_get {l : Launch} {g : xG} {S : List xO} {G : xL} {a : Nat} {p0 : Int32} {F : xF} {r : Int32} (h : f_Pa_get S a p0 F = some r) : CT l g 0 0 0 0 y_Pa_get b_Pa_get 2 (some .int) 1 [.ref a, .int p0] S F G (some (.int r)) S F G := by
  refine CT.of [some (.ref a), some (.int p0)] (by decide) (Nat.le_of_ble_eq_true rfl) rfl ?_
  intro p e s m args below meth c C hr hmn hz
  unfold f_Pa_get at h
  refine V.iload_n C 1 rfl rfl d_Pa_get_0 ?_
  refine V.if_lt C 22 (by decide) d_Pa_get_1 (fun c1 => ?_) (fun c1 => ?_)
  · rw [if_pos c1] at h
    refine V.iconst C (-1) (by decide) d_Pa_get_22 ?_
    obtain rfl := Option.some.inj h
    exact V.iret C hr d_Pa_get_23 rfl rfl rfl rfl
  · rw [if_neg c1] at h
    refine V.iload_n C 1 rfl rfl d_Pa_get_4 ?_
    refine V.aload_n C 0 rfl rfl d_Pa_get_5 ?_
    obtain ⟨q2, e3, h⟩ := Option.bind_eq_some_iff.mp h
    refine V.xgetR C fl_Pa_9 e3 d_Pa_get_6 ?_
    obtain ⟨v4, e5, h⟩ := Option.bind_eq_some_iff.mp h
    refine V.xalen C e5 d_Pa_get_9 ?_
    refine V.icmp_ge C 22 (by decide) d_Pa_get_10 (fun c6 => ?_) (fun c6 => ?_)
    · rw [if_pos c6] at h
      refine V.iconst C (-1) (by decide) d_Pa_get_22 ?_
      obtain rfl := Option.some.inj h
      exact V.iret C hr d_Pa_get_23 rfl rfl rfl rfl
    · rw [if_neg c6] at h
      refine V.aload_n C 0 rfl rfl d_Pa_get_13 ?_
      refine V.xgetR C fl_Pa_9 e3 d_Pa_get_14 ?_
      refine V.iload_n C 1 rfl rfl d_Pa_get_17 ?_
      obtain ⟨v7, e8, h⟩ := Option.bind_eq_some_iff.mp h
      refine V.xiald C e8 d_Pa_get_18 ?_
      refine V.goto C 23 (by decide) d_Pa_get_19 ?_
      obtain rfl := Option.some.inj h
      exact V.iret C hr d_Pa_get_23 rfl rfl rfl rfl
def f_Pa_change (S : List xO) (a : Nat) (p0 : Int32) (p1 : Int32) (F : xF) : Option (Int32 × xF) :=
  (xcl S 5 a (f_Pa_get S a p0 F)).bind fun v1 =>
  if p0 < (0 : Int32) then
    some (v1, F)
  else
  (gR S 5 a 0).bind fun q4 =>
  (aN S q4).bind fun v6 =>
  if v6 ≤ p0 then
    some (v1, F)
  else
  (aP S q4 p0 p1 F).bind fun F9 =>
  some (v1, F9)
set_option maxHeartbeats 4000000 in
set_option maxRecDepth 100000 in
theorem c_Pa_change {l : Launch} {g : xG} {S : List xO} {G : xL} {a : Nat} {p0 : Int32} {p1 : Int32} {F : xF} {r : Int32} {F2 : xF} (h : f_Pa_change S a p0 p1 F = some (r, F2)) : CT l g 1 21 0 0 y_Pa_change b_Pa_change 4 (some .int) 1 [.ref a, .int p0, .int p1] S F G (some (.int r)) S F2 G := by
  refine CT.of [some (.ref a), some (.int p0), some (.int p1), none] (by decide) (Nat.le_of_ble_eq_true rfl) rfl ?_
  intro p e s m args below meth c C hr hmn hz
  unfold f_Pa_change at h
  refine V.aload_n C 0 rfl rfl d_Pa_change_0 ?_
  refine V.iload_n C 1 rfl rfl d_Pa_change_1 ?_
  obtain ⟨v1, e2, h⟩ := Option.bind_eq_some_iff.mp h
  obtain ⟨⟨fs_e2, s_e2⟩, e2⟩ := xcl_spec e2
  refine V.cVr C (c_Pa_get e2) ml_Pa_21 s_e2 rfl rfl (by decide) (Nat.le_of_ble_eq_true rfl) d_Pa_change_2 ?_
  refine V.is3 C (by decide) rfl d_Pa_change_5 ?_
  refine V.iload_n C 1 rfl rfl d_Pa_change_6 ?_
  refine V.if_lt C 26 (by decide) d_Pa_change_7 (fun c3 => ?_) (fun c3 => ?_)
  · rw [if_pos c3] at h
    refine V.iload_n C 3 rfl rfl d_Pa_change_26 ?_
    obtain ⟨rfl, rfl⟩ := Prod.mk.inj (Option.some.inj h)
    exact V.iret C hr d_Pa_change_27 rfl rfl rfl rfl
  · rw [if_neg c3] at h
    refine V.iload_n C 1 rfl rfl d_Pa_change_10 ?_
    refine V.aload_n C 0 rfl rfl d_Pa_change_11 ?_
    obtain ⟨q4, e5, h⟩ := Option.bind_eq_some_iff.mp h
    refine V.xgetR C fl_Pa_9 e5 d_Pa_change_12 ?_
    obtain ⟨v6, e7, h⟩ := Option.bind_eq_some_iff.mp h
    refine V.xalen C e7 d_Pa_change_15 ?_
    refine V.icmp_ge C 26 (by decide) d_Pa_change_16 (fun c8 => ?_) (fun c8 => ?_)
    · rw [if_pos c8] at h
      refine V.iload_n C 3 rfl rfl d_Pa_change_26 ?_
      obtain ⟨rfl, rfl⟩ := Prod.mk.inj (Option.some.inj h)
      exact V.iret C hr d_Pa_change_27 rfl rfl rfl rfl
    · rw [if_neg c8] at h
      refine V.aload_n C 0 rfl rfl d_Pa_change_19 ?_
      refine V.xgetR C fl_Pa_9 e5 d_Pa_change_20 ?_
      refine V.iload_n C 1 rfl rfl d_Pa_change_23 ?_
      refine V.iload_n C 2 rfl rfl d_Pa_change_24 ?_
      obtain ⟨F9, e10, h⟩ := Option.bind_eq_some_iff.mp h
      refine V.xiast C e10 d_Pa_change_25 ?_
      refine V.iload_n C 3 rfl rfl d_Pa_change_26 ?_
      obtain ⟨rfl, rfl⟩ := Prod.mk.inj (Option.some.inj h)
      exact V.iret C hr d_Pa_change_27 rfl rfl rfl rfl
