def t_Ar_fill (S : List xO) (N : Nat) (p0 : Nat) (p1 : Int32) : Nat → Int32 → Int32 → xF → Option xF
  | 0, _, _, _ => none
  | n + 1, u2, u3, F =>
    if u3 ≤ u2 then
      some F
    else
    (aP S p0 u2 p1 F).bind fun F4 =>
    t_Ar_fill S N p0 p1 n (u2 + (1 : Int32)) u3 F4
set_option maxHeartbeats 4000000 in
set_option maxRecDepth 100000 in
theorem l_Ar_fill {p : Program} {l : Launch} {e : Env} {s : State} {m : MethodId} {args : Array Value} {below : List Frame} {meth : Method} {c : Code} {g : xG} {S : List xO} {G : xL} {p0 : Nat} {p1 : Int32} {N : Nat} (C : Cx p s m args meth c b_Ar_fill 4 "java/util/Arrays" g) (hr : meth.sig.returnType = none) : ∀ (n : Nat), (∀ (u2 : Int32) (u3 : Int32) (F : xF) (F2 : xF), t_Ar_fill S N p0 p1 n u2 u3 F = some F2 → V p l e (xRm 0 0 0 0) s m args below meth c (xMQ g below args s 0 0 S F2 G none) 4 g S F G 0 0 5 [some (.ref p0), some (.int p1), some (.int u2), some (.int u3)] []) := by
  intro n
  induction n with
  | zero =>
    intro u2 u3 F F2 h
    cases h
  | succ n ih =>
    intro u2 u3 F F2 h
    rw [t_Ar_fill] at h
    refine V.iload_n C 2 rfl rfl d_Ar_fill_5 ?_
    refine V.iload_n C 3 rfl rfl d_Ar_fill_6 ?_
    refine V.icmp_ge C 20 (by decide) d_Ar_fill_7 (fun c3 => ?_) (fun c3 => ?_)
    · rw [if_pos c3] at h
      obtain rfl := Option.some.inj h
      exact V.vret C hr d_Ar_fill_20 rfl rfl rfl
    · rw [if_neg c3] at h
      refine V.aload_n C 0 rfl rfl d_Ar_fill_10 ?_
      refine V.iload_n C 2 rfl rfl d_Ar_fill_11 ?_
      refine V.iload_n C 1 rfl rfl d_Ar_fill_12 ?_
      obtain ⟨F4, e5, h⟩ := Option.bind_eq_some_iff.mp h
      refine V.xiast C e5 d_Ar_fill_13 ?_
      refine V.inc2 C 1 (by decide) (by decide) rfl d_Ar_fill_14 ?_
      refine V.goto C 5 (by decide) d_Ar_fill_17 ?_
      exact V.weak (xsub_spec (by simp [xsub])) (ih (u2 + (1 : Int32)) u3 F4 _ h)
def f_Ar_fill (S : List xO) (N : Nat) (p0 : Nat) (p1 : Int32) (F : xF) : Option xF :=
  (aN S p0).bind fun v1 =>
  t_Ar_fill S N p0 p1 N (0 : Int32) v1 F
set_option maxHeartbeats 4000000 in
set_option maxRecDepth 100000 in
theorem c_Ar_fill {l : Launch} {g : xG} {S : List xO} {G : xL} {p0 : Nat} {p1 : Int32} {N : Nat} {F : xF} {F2 : xF} (h : f_Ar_fill S N p0 p1 F = some F2) : CT l g 0 0 0 0 y_Ar_fill b_Ar_fill 4 none 1 [.ref p0, .int p1] S F G none S F2 G := by
  refine CT.of [some (.ref p0), some (.int p1), none, none] (by decide) (Nat.le_of_ble_eq_true rfl) rfl ?_
  intro p e s m args below meth c C hr hmn hz
  unfold f_Ar_fill at h
  refine V.iconst C 0 (by decide) d_Ar_fill_0 ?_
  refine V.is2 C (by decide) rfl d_Ar_fill_1 ?_
  refine V.aload_n C 0 rfl rfl d_Ar_fill_2 ?_
  obtain ⟨v1, e2, h⟩ := Option.bind_eq_some_iff.mp h
  refine V.xalen C e2 d_Ar_fill_3 ?_
  refine V.is3 C (by decide) rfl d_Ar_fill_4 ?_
  exact V.weak (xsub_spec (by simp [xsub])) ((l_Ar_fill C hr N) (0 : Int32) v1 F _ h)
