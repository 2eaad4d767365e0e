def f_Wi_restart (S : List xO) (a : Nat) (F : xF) : Option xF :=
  (gI S 1 a 0 F).bind fun v1 =>
  (pI S 1 a 2 (v1 + (1 : Int32)) F).bind fun F3 =>
  (pI S 1 a 3 (0 : Int32) F3).bind fun F5 =>
  some F5
set_option maxHeartbeats 4000000 in
set_option maxRecDepth 100000 in
theorem c_Wi_restart {l : Launch} {g : xG} {S : List xO} {G : xL} {a : Nat} {F : xF} {F2 : xF} (h : f_Wi_restart S a F = some F2) : CT l g 0 0 0 0 y_Wi_restart b_Wi_restart 1 none 1 [.ref a] S F G none S F2 G := by
  refine CT.of [some (.ref a)] (by decide) (Nat.le_of_ble_eq_true rfl) rfl ?_
  intro p e s m args below meth c C hr hmn hz
  unfold f_Wi_restart at h
  refine V.aload_n C 0 rfl rfl d_Wi_restart_0 ?_
  refine V.aload_n C 0 rfl rfl d_Wi_restart_1 ?_
  obtain ⟨v1, e2, h⟩ := Option.bind_eq_some_iff.mp h
  refine V.xgetI C fl_Wi_9 e2 d_Wi_restart_2 ?_
  refine V.iconst C 1 (by decide) d_Wi_restart_5 ?_
  refine V.iadd C d_Wi_restart_6 ?_
  obtain ⟨F3, e4, h⟩ := Option.bind_eq_some_iff.mp h
  refine V.xputI C fl_Wi_18 ft_1 fi_1_2 e4 d_Wi_restart_7 ?_
  refine V.aload_n C 0 rfl rfl d_Wi_restart_10 ?_
  refine V.iconst C 0 (by decide) d_Wi_restart_11 ?_
  obtain ⟨F5, e6, h⟩ := Option.bind_eq_some_iff.mp h
  refine V.xputI C fl_Wi_21 ft_1 fi_1_3 e6 d_Wi_restart_12 ?_
  obtain rfl := Option.some.inj h
  exact V.vret C hr d_Wi_restart_15 rfl rfl rfl
def f_Wi_behindEntry (S : List xO) (a : Nat) (F : xF) : Option xF :=
  (gI S 1 a 3 F).bind fun v1 =>
  (pI S 1 a 3 (v1 + (1 : Int32)) F).bind fun F3 =>
  (gI S 1 a 2 F3).bind fun v5 =>
  if (12 : Int32) ≤ v5 then
    some F3
  else
  (gI S 1 a 1 F3).bind fun v8 =>
  (gI S 1 a 3 F3).bind fun v10 =>
  (gI S 1 a 2 F3).bind fun v12 =>
  if (v8 + v10) = ((1 : Int32) <<< (v12 &&& 31)) then
    (gI S 1 a 2 F3).bind fun v15 =>
    (pI S 1 a 2 (v15 + (1 : Int32)) F3).bind fun F17 =>
    some F17
  else
  some F3
set_option maxHeartbeats 4000000 in
set_option maxRecDepth 100000 in
theorem c_Wi_behindEntry {l : Launch} {g : xG} {S : List xO} {G : xL} {a : Nat} {F : xF} {F2 : xF} (h : f_Wi_behindEntry S a F = some F2) : CT l g 0 0 0 0 y_Wi_behindEntry b_Wi_behindEntry 1 none 1 [.ref a] S F G none S F2 G := by
  refine CT.of [some (.ref a)] (by decide) (Nat.le_of_ble_eq_true rfl) rfl ?_
  intro p e s m args below meth c C hr hmn hz
  unfold f_Wi_behindEntry at h
  refine V.aload_n C 0 rfl rfl d_Wi_behindEntry_0 ?_
  refine V.dup C rfl d_Wi_behindEntry_1 ?_
  obtain ⟨v1, e2, h⟩ := Option.bind_eq_some_iff.mp h
  refine V.xgetI C fl_Wi_21 e2 d_Wi_behindEntry_2 ?_
  refine V.iconst C 1 (by decide) d_Wi_behindEntry_5 ?_
  refine V.iadd C d_Wi_behindEntry_6 ?_
  obtain ⟨F3, e4, h⟩ := Option.bind_eq_some_iff.mp h
  refine V.xputI C fl_Wi_21 ft_1 fi_1_3 e4 d_Wi_behindEntry_7 ?_
  refine V.aload_n C 0 rfl rfl d_Wi_behindEntry_10 ?_
  obtain ⟨v5, e6, h⟩ := Option.bind_eq_some_iff.mp h
  refine V.xgetI C fl_Wi_18 e6 d_Wi_behindEntry_11 ?_
  refine V.bipush C 12 (by decide) d_Wi_behindEntry_14 ?_
  refine V.icmp_ge C 47 (by decide) d_Wi_behindEntry_16 (fun c7 => ?_) (fun c7 => ?_)
  · rw [if_pos c7] at h
    obtain rfl := Option.some.inj h
    exact V.vret C hr d_Wi_behindEntry_47 rfl rfl rfl
  · rw [if_neg c7] at h
    refine V.aload_n C 0 rfl rfl d_Wi_behindEntry_19 ?_
    obtain ⟨v8, e9, h⟩ := Option.bind_eq_some_iff.mp h
    refine V.xgetI C fl_Wi_15 e9 d_Wi_behindEntry_20 ?_
    refine V.aload_n C 0 rfl rfl d_Wi_behindEntry_23 ?_
    obtain ⟨v10, e11, h⟩ := Option.bind_eq_some_iff.mp h
    refine V.xgetI C fl_Wi_21 e11 d_Wi_behindEntry_24 ?_
    refine V.iadd C d_Wi_behindEntry_27 ?_
    refine V.iconst C 1 (by decide) d_Wi_behindEntry_28 ?_
    refine V.aload_n C 0 rfl rfl d_Wi_behindEntry_29 ?_
    obtain ⟨v12, e13, h⟩ := Option.bind_eq_some_iff.mp h
    refine V.xgetI C fl_Wi_18 e13 d_Wi_behindEntry_30 ?_
    refine V.ishl C d_Wi_behindEntry_33 ?_
    refine V.icmp_ne C 47 (by decide) d_Wi_behindEntry_34 (fun c14 => ?_) (fun c14 => ?_)
    · rw [if_neg c14] at h
      obtain rfl := Option.some.inj h
      exact V.vret C hr d_Wi_behindEntry_47 rfl rfl rfl
    · rw [if_pos c14] at h
      refine V.aload_n C 0 rfl rfl d_Wi_behindEntry_37 ?_
      refine V.dup C rfl d_Wi_behindEntry_38 ?_
      obtain ⟨v15, e16, h⟩ := Option.bind_eq_some_iff.mp h
      refine V.xgetI C fl_Wi_18 e16 d_Wi_behindEntry_39 ?_
      refine V.iconst C 1 (by decide) d_Wi_behindEntry_42 ?_
      refine V.iadd C d_Wi_behindEntry_43 ?_
      obtain ⟨F17, e18, h⟩ := Option.bind_eq_some_iff.mp h
      refine V.xputI C fl_Wi_18 ft_1 fi_1_2 e18 d_Wi_behindEntry_44 ?_
      obtain rfl := Option.some.inj h
      exact V.vret C hr d_Wi_behindEntry_47 rfl rfl rfl
