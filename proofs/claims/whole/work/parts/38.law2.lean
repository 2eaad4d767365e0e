def R_law : String := "PaletteFramesLaw"
def lw_P (b : Addr) (xs : List Int32) (args : Array Value) (s : State) : Prop := args = #[.ref b] ∧ s.IntsAt b xs ∧ xs.length ≤ 4097 ∧ (Jvm.Cond.and given_1 narrow_1).before args s = true
def lw_Q (_ : Array Value) (s : State) (o : Outcome) (t : State) : Prop := o = .returned (some (.int 1)) ∧ Framed s o t [] 601024 7293000
def lw_Z (below : List Frame) (a : Array Value) (s : State) : State → Prop := fun t => ∃ o, t.status = .running ∧ Ended t below o ∧ lw_Q a s o t
/-- the law's own end, with 1 on the stack, nothing written that was there before, its room as the claim has it -/
theorem lw_ret {p : Program} {l : Launch} {e : Env} {s : State} {m : MethodId} {below : List Frame} {meth : Method} {c : Code} {b : Nat} (hx : p.tables.exec = Jvm.exec) (hb : c.code = code) (hr : meth.sig.returnType = ret) (hlocks : meth.locks = false) {pc : Nat} {H : Heap} {ls : Array Slot} (hdg : decode code pc = .ok (.ireturn, 1)) : W p l e room_1 s m #[Value.ref b] below meth c H [] 601024 7293000 (lw_Z below #[Value.ref b] s) (F0 m pc ls [.int 1]) := by
  intro T hT X
  obtain ⟨fs, hret, hrun, hended, hW, hframe⟩ := X.leave (v := some (.int 1)) (hlocks := hlocks) (fun h => by rw [hr] at h; cases h)
  have hmeth' : T.vm.method? m = some meth := X.method'
  refine ⟨T.setFrames fs, ?_, .returned (some (.int 1)), hrun, hended, rfl, ⟨_, rfl⟩, hW, hframe⟩
  jvm_step X.here [X.here.top, hx, hb, hdg, hmeth', hr, ret, narrow_b1]
  (try refine ⟨rfl, ?_⟩); (try refine ⟨rfl, ?_⟩)
  first | (intro acts; rw [hret _ acts rfl rfl rfl]) | rw [hret _ _ rfl rfl rfl]
  exact Steps.refl _
/-- what holds at the law's entry: the machine, the code, the tables' words (any of lw_tbl by 'hts w (by decide +kernel)'), the script of L ints xs at the cell b, what the Statement gives of the start (any of its parts by flat_of_before) -/
def lw_At (p : Program) (s : State) (m : MethodId) (meth : Method) (c : Code) (b L : Nat) (xs : Nat → Int32) : Prop :=
  p.tables.exec = Jvm.exec ∧ c.code = code ∧ meth.sig.returnType = ret ∧ c.maxLocals = 7 ∧ s.vm.findClass R_law = some m.cls ∧ (∀ w ∈ lw_tbl, w.before #[Value.ref b] s = true) ∧ va_X b L xs s s.heap ∧ b < s.heap.size ∧ meth.locks = false ∧ (Jvm.Cond.and given_1 narrow_1).before #[Value.ref b] s = true
theorem no_La_8 : xNO "PaletteFramesLaw" 8 8 7 [none, some .null, some .null, some .null, some .null, some .null, none] := ⟨"PaletteFrames", T_8, t_8, rfl, ty_8, iw_8, ⟨(xGT_of 50 (by decide +kernel) (by decide +kernel)), (xGT_of 51 (by decide +kernel) (by decide +kernel)), (xGT_of 30 (by decide +kernel) (by decide +kernel))⟩, by decide +kernel, by decide⟩
theorem no_La_69 : xNO "PaletteFramesLaw" 69 9 37 [none, none, none, none, none, none, some .null, none, some .null, some .null, none, some .null, none, some .null, none, some .null, some .null, some .null, some .null, some .null, none, none, none, none, some .null, some .null, some .null, some .null, some .null, some .null, some .null, some .null, some .null, some .null, some .null, some .null, some .null] := ⟨"PaletteFramesModel", T_9, t_9, rfl, ty_9, iw_9, ⟨(xGT_of 778 (by decide +kernel) (by decide +kernel)), (xGT_of 779 (by decide +kernel) (by decide +kernel)), (xGT_of 41 (by decide +kernel) (by decide +kernel))⟩, by decide +kernel, by decide⟩
theorem ci_La_66 : xCi "PaletteFramesLaw" 66 y_PF_init b_PF_init 2 1 := ⟨⟨Or.inl (xGT_of 52 (by decide +kernel) (by decide +kernel)), (xGT_of 54 (by decide +kernel) (by decide +kernel)), (xGT_of 30 (by decide +kernel) (by decide +kernel)), by decide +kernel⟩, (xGT_of 53 (by decide +kernel) (by decide +kernel)), rfl⟩
theorem ci_La_71 : xCi "PaletteFramesLaw" 71 y_Mo_init b_Mo_init 2 1 := ⟨⟨Or.inl (xGT_of 780 (by decide +kernel) (by decide +kernel)), (xGT_of 782 (by decide +kernel) (by decide +kernel)), (xGT_of 41 (by decide +kernel) (by decide +kernel)), by decide +kernel⟩, (xGT_of 781 (by decide +kernel) (by decide +kernel)), rfl⟩
theorem cs_La_60 : xMl "PaletteFramesLaw" 60 y_La_cell b_La_cell 2 (some .int) 2 ∧ Cond.static y_La_cell ∈ xGT := ⟨⟨Or.inl (xGT_of 458 (by decide +kernel) (by decide +kernel)), (xGT_of 460 (by decide +kernel) (by decide +kernel)), (xGT_of 29 (by decide +kernel) (by decide +kernel)), by decide +kernel⟩, (xGT_of 459 (by decide +kernel) (by decide +kernel))⟩
/-! cell(script, 0), the loop, the start -/
def cellv (L : Nat) (xs : Nat → Int32) : Int32 := if nI L ≤ 0 then 0 else xs 0
def xPX (g : xG) (S : List xO) (F : xF) (G : xL) (L : Nat) (xs : Nat → Int32) (As : List Value) : Array Value → State → Prop := fun a U => xPc g S F G 1 As a U ∧ va_X g.2.1 L xs U U.heap ∧ g.2.1 < g.1
theorem xPX_blind {g : xG} {S : List xO} {F : xF} {G : xL} {L : Nat} {xs : Nat → Int32} {As : List Value} : FrameBlind (xPX g S F G L xs As) := fun a U gg mk h =>
  ⟨xPc_blind a U gg mk h.1, va_X.moved (u := U) (U := U.calling gg mk a) (Vm.Alike.refl U.vm) h.2.1, h.2.2⟩
set_option maxHeartbeats 4000000 in
set_option maxRecDepth 100000 in
theorem c_cell {l : Launch} {g : xG} {S : List xO} {F : xF} {G : xL} {L : Nat} {xs : Nat → Int32} : Met l y_La_cell (xWs y_La_cell b_La_cell 2 (some .int)) (xRm 0 0 0 0) (xPX g S F G L xs [.float 0, .int 0]) (xQc g S F G (some (.int (cellv L xs)))) 0 0 (xA g) := by
  refine Met.ofW (cc := b_La_cell) (maxL := 2) (ret := some .int) (by decide) rfl ?_
  intro p e s m args below meth c s₁ B hml hv
  obtain ⟨⟨rfl, hx, hz, hP, hl0, hK⟩, hX, hbg⟩ := hv
  have hts : ∀ w ∈ xGT, w.before _ s = true := fun w hw => atoms_spec (ws := xWs y_La_cell b_La_cell 2 (some .int)) B.pre w (List.mem_cons_of_mem _ hw)
  have C : Cx p s m (([.float 0, .int 0] : List Value).map (xv g)).toArray meth c b_La_cell 2 "PaletteFramesLaw" g := ⟨B.exec, B.bytes, hml, findClass_of_methodNamed B.named, hts, hK, B.notSynchronized, hz⟩
  have hbl : g.2.1 < s.heap.size := Nat.lt_of_lt_of_le hbg hz
  have hl := lv_entry (([.float 0, .int 0] : List Value).map (xv g)) (n := 2) (Nat.le_of_ble_eq_true rfl)
  have hr := B.returns
  rw [lg_entry_eq]
  have KV : V p l e (xRm 0 0 0 0) s m (([.float 0, .int 0] : List Value).map (xv g)).toArray below meth c (xMQ g below (([.float 0, .int 0] : List Value).map (xv g)).toArray s 0 0 S F G (some (.int (cellv L xs)))) 2 g S F G 0 0 0 [some (.float 0), some (.int 0)] [] := by
    refine V.iload_n C 1 rfl rfl d_La_cell_0 ?_
    refine V.sload_n C 0 rfl rfl d_La_cell_1 ?_
    refine V.slen C hX hbl hbg d_La_cell_2 ?_
    refine V.icmp_ge C 12 (by decide) d_La_cell_3 (fun c1 => ?_) (fun c1 => ?_)
    · refine V.iconst C 0 (by decide) d_La_cell_12 ?_
      exact V.iret C hr d_La_cell_13 (by rw [cellv, if_pos c1]) rfl rfl rfl
    · refine V.sload_n C 0 rfl rfl d_La_cell_6 ?_
      refine V.iload_n C 1 rfl rfl d_La_cell_7 ?_
      have hL0 : 0 < L := by
        rcases Nat.eq_zero_or_pos L with h | h
        · subst h; exact absurd (by decide) c1
        · exact h
      refine V.sld C hX hbl hbg (vp_in_iff.mpr ⟨by decide, by show (0 : Int) < _; omega⟩) d_La_cell_8 ?_
      refine V.goto C 13 (by decide) d_La_cell_9 ?_
      exact V.iret C hr d_La_cell_13 (by rw [cellv, if_neg c1]; rfl) rfl rfl rfl
  exact KV s.heap [] _ hl0 hP va_S.rf hl
section XLW
variable {p : Program} {l : Launch} {e : Env} {R : Room} {s : State} {m : MethodId} {args : Array Value} {below : List Frame} {meth : Method} {c : Code} {Q : State → Prop}
variable {cc : ByteArray} {nL : Nat} {own : String} {g : xG} {S : List xO} {F : xF} {G : xL} {cells slots pc : Nat} {lv : List (Option Value)} {st : List Value}
theorem V.cSX (C : Cx p s m args meth c cc nL own g) {L : Nat} {xs : Nat → Int32} (hX : va_X g.2.1 L xs s s.heap) (hbg : g.2.1 < g.1) {d lc idx maxL n : Nat} {y : MethodName} {bytes : ByteArray} {ret : Option FieldType} {As rest : List Value} {r : Option Value}
    (hM : Met l y (xWs y bytes maxL ret) (xRm d lc 0 0) (xPX g S F G L xs As) (xQc g S F G r) 0 0 (xA g)) (hm : xMl own idx y bytes maxL ret n ∧ Cond.static y ∈ xGT) (hn : As.length = n) (hst : st = As.reverse ++ rest)
    (hR : d + 1 ≤ R.frames ∧ 8 + (maxL + 11) + lc ≤ R.locals ∧ cells ≤ R.cells ∧ slots ≤ R.slots) (hcat : (rest.map fun v => v.category).sum ≤ 8) (hd : decode cc pc = .ok (.invokestatic idx, 3))
    (kk : V p l e R s m args below meth c Q nL g S F G cells slots (pc + 3) lv (r.toList ++ rest)) : V p l e R s m args below meth c Q nL g S F G cells slots pc lv st := by
  obtain ⟨⟨hlink, hcode, hini, hy⟩, hv⟩ := hm
  refine V.ofRun (mc := 0) (ms := 0) (a := (As.map (xv g)).toArray) C (fun H locs ls h1 h2 h3 h4 hle => ?_) kk
  have hrm : 2 * (F0 m pc ls (st.map (xv g))).monitorRoom + ((rest.map (xv g)).map fun v => v.category).sum ≤ 8 := lv_room (by rw [xcatS]; exact hcat)
  have hpre : PreS s H (xPX g S F G L xs As) (As.map (xv g)) := ⟨xPX_blind, fun U hU hW => ⟨xPc_at (As := As) C h1 h2 h3 (fun q => absurd q (by decide)) hle U hU hW, by
    rw [hU]
    exact va_X.moved hW.alike (va_X.kept hX (h3.low C.hz _ hbg)), hbg⟩⟩
  have hst2 : (F0 m pc ls (st.map (xv g))).stack = (As.map (xv g)).reverse ++ rest.map (xv g) := by
    rw [hst]; simp
  rcases hlink with hlink | ⟨host, hlink⟩
  · exact va_runS ⟨C.x, C.b, C.ml, C.ow, C.ts⟩ hM ⟨callB_of n C.ts (xGood hcode) rfl rfl rfl (C.ts _ hini) (C.ts _ hlink) hy ⟨hR.1, hR.2.1⟩, C.ts _ hv⟩ hpre rfl (by rw [List.length_map]; exact hn) h4.1 hst2 hrm hd ⟨hR.2.2.1, hR.2.2.2⟩
  · cases hlink
end XLW
/-- the law's loop, pure: the script's calls one after the other -/
def t_law (S : List xO) (N x mm o L : Nat) (xs : Nat → Int32) : Nat → Int32 → xF → xL → Option Int32
  | 0, _, _, _ => none
  | n + 1, i, F, G =>
    if nI L - 8 < i then some 1
    else (q_step S N x mm o (xs i.toNatClampNeg &&& 31) (fun k => xs (i + k).toNatClampNeg) F G).bind fun w => if w.1 = 1 then t_law S N x mm o L xs n (i + 8) w.2.1 w.2.2 else some 0
theorem bm32 {z : Int} (h : -2147483648 ≤ z) (h2 : z ≤ 2147483647) : z.bmod (2 ^ 32) = z := Int.bmod_eq_of_le (by omega) (by omega)
theorem i32_add {a b : Int32} (h : -2147483648 ≤ a.toInt + b.toInt) (h2 : a.toInt + b.toInt ≤ 2147483647) : (a + b).toInt = a.toInt + b.toInt := by
  rw [Int32.toInt_add]; exact bm32 h h2
theorem i32_sub {a b : Int32} (h : -2147483648 ≤ a.toInt - b.toInt) (h2 : a.toInt - b.toInt ≤ 2147483647) : (a - b).toInt = a.toInt - b.toInt := by
  rw [Int32.toInt_sub]; exact bm32 h h2
set_option maxHeartbeats 4000000 in
set_option maxRecDepth 100000 in
theorem l_law {p : Program} {l : Launch} (hfl : l.flags = flags0) {e : Env} {s : State} {m : MethodId} {b : Nat} {below : List Frame} {meth : Method} {c : Code} {g : xG} {S : List xO} (C : Cx p s m #[Value.ref b] meth c code 7 "PaletteFramesLaw" g) (hr : meth.sig.returnType = ret) (hg1 : g.1 = s.heap.size) {L : Nat} {xs : Nat → Int32} (hL : L ≤ 4097) (hX : va_X g.2.1 L xs s s.heap) (hbl : g.2.1 < s.heap.size) (hbg : g.2.1 < g.1) {N x mm o : Nat} :
    ∀ (n : Nat) (i : Int32) (F : xF) (G : xL) (ce sl : Nat), 0 ≤ i.toInt → i.toInt ≤ 5000 → ce + n ≤ 601024 → sl + 6 * n ≤ 7293000 → t_law S N x mm o L xs n i F G = some 1 → V p l e room_1 s m #[Value.ref b] below meth c (lw_Z below #[Value.ref b] s) 7 g S F G ce sl 33 [some (.float 0), some (.ref x), some (.ref mm), some (.ref o), some (.int i), none, none] [] := by
  intro n
  induction n with
  | zero =>
    intro i F G ce sl h1 h2 h3 h4 h
    cases h
  | succ n ih =>
    intro i F G ce sl h1 h2 h3 h4 h
    rw [t_law] at h
    refine V.iload C rfl d_La_law_33 ?_
    refine V.sload_n C 0 rfl rfl d_La_law_35 ?_
    refine V.slen C hX hbl hbg d_La_law_36 ?_
    refine V.bipush C 8 (by decide) d_La_law_37 ?_
    refine V.isub C d_La_law_39 ?_
    refine V.icmp_gt C 1198 (by decide) d_La_law_40 (fun c1 => ?_) (fun c1 => ?_)
    · refine V.iconst C 1 (by decide) d_La_law_1198 ?_
      intro H locs ls q1 q2 q3 q4
      refine va_forget (fun z hz => by rw [← hg1]; exact (q3.2.2 z hz).1) ?_
      refine W.widen (k := 601024) (n := 7293000) (by omega) (by omega) ?_
      exact lw_ret C.x C.b hr C.lk d_La_law_1199
    · rw [if_neg c1] at h
      have hLi : (nI L).toInt = (L : Int) := nI_toInt (by omega)
      have h8 : (8 : Int32).toInt = 8 := by decide
      have hc : i.toInt ≤ (L : Int) - 8 := by
        rw [Int32.lt_iff_toInt_lt, i32_sub (by rw [hLi, h8]; omega) (by rw [hLi, h8]; omega), hLi, h8] at c1
        omega
      have hin : ∀ k : Int32, 0 ≤ k.toInt ∧ k.toInt ≤ 7 → vp_in (i + k) L := fun k hk => by
        rw [vp_in_iff, i32_add (by omega) (by omega)]
        omega
      obtain ⟨⟨r, F2, G2⟩, e1, h⟩ := Option.bind_eq_some_iff.mp h
      dsimp only at h
      by_cases hr1 : r = 1
      · rw [if_pos hr1] at h
        subst hr1
        refine V.sload_n C 0 rfl rfl d_La_law_43 ?_
        refine V.iload C rfl d_La_law_44 ?_
        refine V.sld C hX hbl hbg (vp_in_iff.mpr ⟨h1, by omega⟩) d_La_law_46 ?_
        refine V.bipush C 31 (by decide) d_La_law_47 ?_
        refine V.iand C d_La_law_49 ?_
        refine o_step hfl C hX hbl hbg hin (N := N) ⟨by show ce + 1 ≤ 601024; omega, by show sl + 6 ≤ 7293000; omega⟩ e1 ?_
        have hi8 : (i + 8).toInt = i.toInt + 8 := by rw [i32_add (by rw [h8]; omega) (by rw [h8]; omega), h8]
        exact ih (i + 8) F2 G2 (ce + 1) (sl + 6) (by omega) (by omega) (by omega) (by omega) h
      · rw [if_neg hr1] at h
        exact absurd (Option.some.inj h) (by decide)
/-- the long row of one -/
def nL (S : List xO) (G : xL) : Option (List xO × xL × Nat) := if S.length + 1 ≤ xKK then some (S ++ [.inl (1, 1)], upR G S.length (fun _ => 0), S.length) else none
/-- the law, pure -/
def f_law (N L : Nat) (xs : Nat → Int32) : Option Int32 :=
  (nO [] 8 [none, some .null, some .null, some .null, some .null, some .null, none] (fun _ _ => 0)).bind fun w1 =>
  (f_PF_init w1.1 N w1.2.2 (cellv L xs) w1.2.1).bind fun w2 =>
  (nO w2.1 9 [none, none, none, none, none, none, some .null, none, some .null, some .null, none, some .null, none, some .null, none, some .null, some .null, some .null, some .null, some .null, none, none, none, none, some .null, some .null, some .null, some .null, some .null, some .null, some .null, some .null, some .null, some .null, some .null, some .null, some .null] w2.2).bind fun w3 =>
  (f_Mo_init w3.1 N w3.2.2 (cellv L xs) w3.2.1).bind fun w4 =>
  (nL w4.1 (fun _ _ => 0)).bind fun w5 =>
  t_law w5.1 N w1.2.2 w3.2.2 w5.2.2 L xs 1000 1 w4.2 w5.2.1
set_option maxHeartbeats 4000000 in
set_option maxRecDepth 100000 in
theorem whole_start0 {p : Program} {e : Env} {s : State} {m : MethodId} {below : List Frame} {meth : Method} {c : Code} (l : Launch) (hfl : l.flags = flags0) {b L : Nat} {xs : Nat → Int32} (hL : L ≤ 4097) (C0 : lw_At p s m meth c b L xs) {N : Nat} (h : f_law N L xs = some 1) : W p l e room_1 s m #[Value.ref b] below meth c s.heap [] 0 0 (lw_Z below #[Value.ref b] s) (entryFrame m ([Value.ref b] : List Value).toArray 7) := by
  obtain ⟨hx, hb, hr, hml, hown, hts, hX, hbl, hlocks, hgv⟩ := C0
  have hgt : ∀ w ∈ xGT, w.before #[Value.ref b] s = true := fun w hw => hts w (List.mem_filter.mp hw).1
  have hall : ∀ k : Nat, ∃ (cC : ClassId) (iS : Nat → Nat), ∀ q : vw_C, xCl[k]? = some q → u_Kn s q.1 q.2.1 q.2.2 cC iS := fun k => match k with
    | 0 => by
      obtain ⟨cC, iS, h⟩ := u_known (C := "PaletteFrames$Numbers") (T := T_0) (N := 2) (n := 2) hgt iw_0 (hts _ (List.mem_of_getElem? (i := 65) (by decide +kernel)))
      exact ⟨cC, iS, fun q hq => by cases hq; exact h⟩
    | 1 => by
      obtain ⟨cC, iS, h⟩ := u_known (C := "PaletteFrames$Width") (T := T_1) (N := 4) (n := 4) hgt iw_1 (hts _ (List.mem_of_getElem? (i := 90) (by decide +kernel)))
      exact ⟨cC, iS, fun q hq => by cases hq; exact h⟩
    | 2 => by
      obtain ⟨cC, iS, h⟩ := u_known (C := "PaletteFrames$Strings") (T := T_2) (N := 5) (n := 5) hgt iw_2 (hts _ (List.mem_of_getElem? (i := 111) (by decide +kernel)))
      exact ⟨cC, iS, fun q hq => by cases hq; exact h⟩
    | 3 => by
      obtain ⟨cC, iS, h⟩ := u_known (C := "PaletteFrames$Coder") (T := T_3) (N := 12) (n := 12) hgt iw_3 (hts _ (List.mem_of_getElem? (i := 82) (by decide +kernel)))
      exact ⟨cC, iS, fun q hq => by cases hq; exact h⟩
    | 4 => by
      obtain ⟨cC, iS, h⟩ := u_known (C := "PaletteFrames$Reader") (T := T_4) (N := 7) (n := 7) hgt iw_4 (hts _ (List.mem_of_getElem? (i := 175) (by decide +kernel)))
      exact ⟨cC, iS, fun q hq => by cases hq; exact h⟩
    | 5 => by
      obtain ⟨cC, iS, h⟩ := u_known (C := "PaletteFrames$Palette") (T := T_5) (N := 1) (n := 1) hgt iw_5 (hts _ (List.mem_of_getElem? (i := 216) (by decide +kernel)))
      exact ⟨cC, iS, fun q hq => by cases hq; exact h⟩
    | 6 => by
      obtain ⟨cC, iS, h⟩ := u_known (C := "PaletteFrames$Frame") (T := T_6) (N := 9) (n := 9) hgt iw_6 (hts _ (List.mem_of_getElem? (i := 228) (by decide +kernel)))
      exact ⟨cC, iS, fun q hq => by cases hq; exact h⟩
    | 7 => by
      obtain ⟨cC, iS, h⟩ := u_known (C := "PaletteFrames$Screen") (T := T_7) (N := 3) (n := 3) hgt iw_7 (hts _ (List.mem_of_getElem? (i := 208) (by decide +kernel)))
      exact ⟨cC, iS, fun q hq => by cases hq; exact h⟩
    | 8 => by
      obtain ⟨cC, iS, h⟩ := u_known (C := "PaletteFrames") (T := T_8) (N := 7) (n := 7) hgt iw_8 (hts _ (List.mem_of_getElem? (i := 51) (by decide +kernel)))
      exact ⟨cC, iS, fun q hq => by cases hq; exact h⟩
    | 9 => by
      obtain ⟨cC, iS, h⟩ := u_known (C := "PaletteFramesModel") (T := T_9) (N := 37) (n := 37) hgt iw_9 (hts _ (List.mem_of_getElem? (i := 779) (by decide +kernel)))
      exact ⟨cC, iS, fun q hq => by cases hq; exact h⟩
    | k + 10 => ⟨m.cls, fun _ => 0, fun q hq => by simp [xCl] at hq⟩
  obtain ⟨cI, kI, pI', i1, i2, i3⟩ := Cond.arrayClass_spec (hts (.arrayClass .int) (List.mem_of_getElem? (i := 80) (by decide +kernel)))
  obtain ⟨cL, kL, pL', j1, j2, j3⟩ := Cond.arrayClass_spec (hts (.arrayClass .long) (List.mem_of_getElem? (i := 1037) (by decide +kernel)))
  obtain ⟨cB, kB, pB', b1, b2, b3⟩ := Cond.arrayClass_spec (hts (.arrayClass .byte) (List.mem_of_getElem? (i := 538) (by decide +kernel)))
  obtain ⟨pF', cF, kF, f1, -, f3, f4, f5⟩ := Cond.arrayOver_spec (hts (.arrayOver (.object "PaletteFrames$Frame")) (List.mem_of_getElem? (i := 214) (by decide +kernel)))
  obtain ⟨dA, dA0, dA1, dA2, dA3⟩ : ∃ dA : Nat → ClassId, dA 0 = cI ∧ dA 1 = cL ∧ dA 2 = cF ∧ dA 3 = cB := ⟨fun t => if t = 0 then cI else if t = 1 then cL else if t = 2 then cF else cB, rfl, rfl, rfl, rfl⟩
  have hAr : ∀ (k : Nat) (q : ClassId × FieldType), (xTy dA)[k]? = some q → ArrOfT s q.1 q.2 ∧ va_RA s q.1 q.2 := fun k q hq => by
    match k, hq with
    | 0, hq => cases hq; show ArrOfT s (dA 0) .int ∧ va_RA s (dA 0) .int; rw [dA0]; exact ⟨fun n z => ⟨fun k h => (by cases h), kI, i2, _, i3⟩, i1⟩
    | 1, hq => cases hq; show ArrOfT s (dA 1) .long ∧ va_RA s (dA 1) .long; rw [dA1]; exact ⟨fun n z => ⟨fun k h => (by cases h), kL, j2, _, j3⟩, j1⟩
    | 2, hq => cases hq; show ArrOfT s (dA 2) (.object "PaletteFrames$Frame") ∧ va_RA s (dA 2) (.object "PaletteFrames$Frame"); rw [dA2]; exact ⟨fun n z => ⟨fun k h => (by cases h), kF, f3, _, f4⟩, ⟨kF, pF', f3, f4, f1, f5⟩⟩
    | 3, hq => cases hq; show ArrOfT s (dA 3) .byte ∧ va_RA s (dA 3) .byte; rw [dA3]; exact ⟨fun n z => ⟨fun k h => (by cases h), kB, b2, _, b3⟩, b1⟩
    | k + 4, hq => simp [xTy] at hq
  obtain ⟨g, hgd⟩ : ∃ g : xG, g = (s.heap.size, b, dA, (fun k => (hall k).choose, fun k => (hall k).choose_spec.choose)) := ⟨_, rfl⟩
  have hg1 : g.1 = s.heap.size := by rw [hgd]
  have hg2 : g.2.1 = b := by rw [hgd]
  have hK : va_K g.2.2.2 xCl (xTy g.2.2.1) s := by
    rw [hgd]
    exact ⟨fun k q hq => (hall k).choose_spec.choose_spec q hq, hAr⟩
  have hTh : xTh g s := ⟨s, by rw [hg2]; exact hts, by rw [hg2]; exact hgv, State.WarmedH.refl s, hg1.symm, fun _ _ => rfl⟩
  have C : Cx p s m #[Value.ref b] meth c code 7 "PaletteFramesLaw" g := ⟨hx, hb, hml, hown, hgt, ⟨hK, fun w hw => (by cases hw), hTh⟩, hlocks, Nat.le_of_eq hg1⟩
  rw [← hg2] at hX hbl
  have hbg : g.2.1 < g.1 := by rw [hg1]; exact hbl
  unfold f_law at h
  obtain ⟨⟨S1, F1, x⟩, e1, h⟩ := Option.bind_eq_some_iff.mp h
  dsimp only at h
  obtain ⟨⟨S2, F2⟩, e2, h⟩ := Option.bind_eq_some_iff.mp h
  dsimp only at h
  obtain ⟨⟨S3, F3, mm⟩, e3, h⟩ := Option.bind_eq_some_iff.mp h
  dsimp only at h
  obtain ⟨⟨S4, F4⟩, e4, h⟩ := Option.bind_eq_some_iff.mp h
  dsimp only at h
  obtain ⟨⟨S5, G5, o⟩, e5, h⟩ := Option.bind_eq_some_iff.mp h
  dsimp only at h
  have z1 := nO_len e1
  have z2 := n_PF_init e2
  have z3 := nO_len e3
  have z4 := n_Mo_init e4
  have z0 : ([] : List xO).length = 0 := rfl
  have KV : V p l e room_1 s m #[Value.ref b] below meth c (lw_Z below #[Value.ref b] s) 7 g [] (fun _ _ => 0) (fun _ _ => 0) 0 0 0 [some (.float 0), none, none, none, none, none, none] [] := by
    refine V.xnewO C (by omega) no_La_8 e1 (by decide) d_La_law_0 ?_
    refine V.dup C rfl d_La_law_3 ?_
    refine V.sload_n C 0 rfl rfl d_La_law_4 ?_
    refine V.iconst C 0 (by decide) d_La_law_5 ?_
    refine V.cSX C hX hbg c_cell cs_La_60 rfl rfl (by decide) (Nat.le_of_ble_eq_true rfl) d_La_law_6 ?_
    refine V.cIv C (c_PF_init e2) ci_La_66 rfl rfl (by omega) (by decide) (Nat.le_of_ble_eq_true rfl) d_La_law_9 ?_
    refine V.as1 C (by decide) rfl d_La_law_12 ?_
    refine V.xnewO C (by omega) no_La_69 e3 (by decide) d_La_law_13 ?_
    refine V.dup C rfl d_La_law_16 ?_
    refine V.sload_n C 0 rfl rfl d_La_law_17 ?_
    refine V.iconst C 0 (by decide) d_La_law_18 ?_
    refine V.cSX C hX hbg c_cell cs_La_60 rfl rfl (by decide) (Nat.le_of_ble_eq_true rfl) d_La_law_19 ?_
    refine V.cIv C (c_Mo_init e4) ci_La_71 rfl rfl (by omega) (by decide) (Nat.le_of_ble_eq_true rfl) d_La_law_22 ?_
    refine V.as2 C (by decide) rfl d_La_law_25 ?_
    refine V.iconst C 1 (by decide) d_La_law_26 ?_
    unfold nL at e5
    split at e5
    · rename_i hk
      simp only [Option.some.injEq, Prod.mk.injEq] at e5
      obtain ⟨rfl, rfl, rfl⟩ := e5
      refine V.newL C 1 (by omega) hk (xGT_of 1037 (by decide +kernel) (by decide +kernel)) (by decide) (by decide) (by decide) (by decide) d_La_law_27 ?_
      refine V.as3 C (by decide) rfl d_La_law_29 ?_
      refine V.iconst C 1 (by decide) d_La_law_30 ?_
      refine V.is4 C (by decide) rfl d_La_law_31 ?_
      exact l_law hfl C hr hg1 hL hX hbl hbg 1000 1 _ _ _ _ (by decide) (by decide) (by decide) (by decide) h
    · cases e5
  have hl := lv_entry ([Value.ref b] : List Value) (n := 7) (Nat.le_of_ble_eq_true rfl)
  rw [lg_entry_eq]
  refine KV s.heap [] _ (by decide) (fun k q hq => by simp [xw] at hq) va_S.rf ?_
  show lv_has _ 7 [(0, Value.ref g.2.1)]
  rw [hg2]
  exact hl
