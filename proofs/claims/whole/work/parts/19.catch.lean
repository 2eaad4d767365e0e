/-! a call that throws, caught by a row of the caller's own table -/
section XCA
theorem xgo_row {Q : Handler → Pre} {E : CtlPost} {e : Env} {d : Bool} {acts : List Action} {s : State} {f : JFrame} {a : Addr} {y : ExceptionTableEntry} {t : List ExceptionTableEntry} {cT : ClassId} {cell : Cell} (hy : covers y f.pc = true) (h0 : y.catchType ≠ 0)
    (hl : s.vm.ClassLinks e.platform f.method.cls y.catchType cT) (hcell : s.heap[a]? = some cell) (hobj : ∀ k, cell.vm ≠ .statics k) (hk : ∃ k, s.vm.classes[cell.cls]? = some k) (hc : ∃ k, s.vm.classes[cT]? = some k) :
    (s.vm.assignable cell.cls cT = true → (wp (findHandler.go f a (y :: t)) Q E e d acts s ↔ Q (.found y.handlerPc) d acts (s.setVm (s.vm.noted f.method.cls y.catchType (.cls cT))))) ∧
    (s.vm.assignable cell.cls cT = false → (wp (findHandler.go f a (y :: t)) Q E e d acts s ↔ wp (findHandler.go f a t) Q E e d acts (s.setVm (s.vm.noted f.method.cls y.catchType (.cls cT))))) := by
  simp only [covers] at hy
  obtain ⟨w1, w2⟩ := (resolveClass_links e.toSetting hl).op (op := VmOp.resolveClass f.method.cls y.catchType) rfl
  have hal : s.vm.Alike (s.vm.noted f.method.cls y.catchType (.cls cT)) := (Vm.Alike.refl s.vm).noted _ _ _
  obtain ⟨k1, hk1⟩ := hk
  obtain ⟨k2, hk2⟩ := hc
  obtain ⟨k3, hk3, -⟩ := hal.2.2 _ _ hk1
  obtain ⟨k4, hk4, -⟩ := hal.2.2 _ _ hk2
  refine ⟨fun h => ?_, fun h => ?_⟩
  · have h2 : (s.vm.noted f.method.cls y.catchType (.cls cT)).assignable cell.cls cT = true := by rw [hal.assignable]; exact h
    simp [findHandler.go, hy, h0, w1, w2, hcell, hobj, hk3, hk4, h2, VmOp.dirties, VmOp.acts]
  · have h2 : (s.vm.noted f.method.cls y.catchType (.cls cT)).assignable cell.cls cT = false := by rw [hal.assignable]; exact h
    simp [findHandler.go, hy, h0, w1, w2, hcell, hobj, hk3, hk4, h2, VmOp.dirties, VmOp.acts]
/-- a row of the table, and whether it takes the class -/
def xRow (pl : Platform) (s0 : State) (own tc : ClassId) (pc : Nat) (b : Bool) (y : ExceptionTableEntry) : Prop := covers y pc = true ∧ y.catchType ≠ 0 ∧ ∃ cT, s0.vm.ClassLinks pl own y.catchType cT ∧ s0.vm.assignable tc cT = b
theorem xgo {e : Env} {s0 : State} {f : JFrame} {a : Addr} {cell : Cell} (hobj : ∀ k, cell.vm ≠ .statics k) (hk0 : ∃ k, s0.vm.classes[cell.cls]? = some k) {y : ExceptionTableEntry} {rest : List ExceptionTableEntry} (hy : xRow e.platform s0 f.method.cls cell.cls f.pc true y) :
    ∀ (pre : List ExceptionTableEntry) (U : State), s0.WarmedH U.vm → U.heap[a]? = some cell → (∀ z ∈ pre, xRow e.platform s0 f.method.cls cell.cls f.pc false z) →
      ∃ vm2, s0.WarmedH vm2 ∧ ∀ (Q : Handler → Pre) (E : CtlPost) (d : Bool) (acts : List Action), wp (findHandler.go f a (pre ++ y :: rest)) Q E e d acts U ↔ Q (.found y.handlerPc) d acts (U.setVm vm2) := by
  obtain ⟨k0, hk0⟩ := hk0
  intro pre
  induction pre with
  | nil =>
    intro U hW hcell _
    obtain ⟨k1, hk1, -⟩ := hW.alike.2.2 _ _ hk0
    obtain ⟨h1, h2, cT, hl, hfit⟩ := hy
    obtain ⟨dk, _, _, kt, hd, _, _, _, _, hkt, _, hopen⟩ := hl.here
    obtain ⟨k2, hk2, -⟩ := hW.alike.2.2 _ _ hkt
    refine ⟨_, hW.noted hd hopen (State.rightAt_cls hl), fun Q E d acts => ?_⟩
    exact (xgo_row h1 h2 (hW.classLinks hl) hcell hobj ⟨k1, hk1⟩ ⟨k2, hk2⟩).1 (by rw [hW.alike.assignable]; exact hfit)
  | cons z zs ih =>
    intro U hW hcell hz
    obtain ⟨k1, hk1, -⟩ := hW.alike.2.2 _ _ hk0
    obtain ⟨h1, h2, cT, hl, hfit⟩ := hz z List.mem_cons_self
    obtain ⟨dk, _, _, kt, hd, _, _, _, _, hkt, _, hopen⟩ := hl.here
    obtain ⟨k2, hk2, -⟩ := hW.alike.2.2 _ _ hkt
    have hW2 := hW.noted hd hopen (State.rightAt_cls hl)
    obtain ⟨vm2, hW3, h3⟩ := ih (U.setVm (U.vm.noted f.method.cls z.catchType (.cls cT))) hW2 hcell (fun q hq => hz q (List.mem_cons_of_mem _ hq))
    refine ⟨vm2, hW3, fun Q E d acts => ?_⟩
    rw [List.cons_append, (xgo_row h1 h2 (hW.classLinks hl) hcell hobj ⟨k1, hk1⟩ ⟨k2, hk2⟩).2 (by rw [hW.alike.assignable]; exact hfit)]
    exact h3 Q E d acts
theorem xcaught {tb : Tables} {e : Env} {s target : State} {gf : JFrame} {c : Code} {below : List Frame} {a : Addr} (h : At s gf.method c below) {pc : Nat} {vm2 : Vm}
    (hfind : ∀ (Q : Handler → Pre) (E : CtlPost) (d : Bool) (acts : List Action), wp (findHandler gf a) Q E e d acts ((s.setTop gf).pushFrame (.throwing a)) ↔ Q (.found pc) d acts (((s.setTop gf).pushFrame (.throwing a)).setVm vm2))
    (hrest : Steps tb e below ((s.setVm vm2).setTop { gf with pc := pc, stack := [.ref a] }) target) : Steps tb e below ((s.setTop gf).pushFrame (.throwing a)) target := by
  obtain ⟨hgo, hw⟩ := h.throwing a
  refine Steps.head hgo hw ?_
  rw [stepThread_throwing (frames_entered h.top _)]
  have key : (stepThrowing e ((s.setTop gf).pushFrame (.throwing a)) a (.java gf :: s.frames.tail)).Is ((((s.setTop gf).pushFrame (.throwing a)).setVm vm2).setFrames (.java { gf with pc := pc, stack := [.ref a] } :: s.frames.tail)) [] := by
    simp only [stepThrowing, searchFrame, vmDo]
    generalize hr : Sem.go _ e false [] ((s.setTop gf).pushFrame (.throwing a)) = res
    obtain ⟨as, rfl, ha⟩ := Sem.eq_ok_of hr (a := Handler.found pc) (s' := ((s.setTop gf).pushFrame (.throwing a)).setVm vm2) (acts' := []) (by simp [hfind _ _ _ _])
    exact ⟨rfl, ha⟩
  rw [key.1]
  obtain ⟨g₀, hg⟩ := Option.isSome_iff_exists.mp h.top
  obtain ⟨r, hr⟩ := State.topJava?_eq_some.mp hg
  have hr2 : (s.setVm vm2).frames = .java g₀ :: r := hr
  rw [State.setTop_of_frames _ hr2] at hrest
  have e1 : (((s.setTop gf).pushFrame (.throwing a)).setVm vm2).setFrames (.java { gf with pc := pc, stack := [.ref a] } :: s.frames.tail) = (s.setVm vm2).setFrames (.java { gf with pc := pc, stack := [.ref a] } :: r) := by
    rw [State.pushFrame, State.setTop_of_frames _ hr, hr]
    show (((s.setFrames _).setFrames _).setVm vm2).setFrames _ = _
    rw [State.setFrames_setFrames]
    show ((s.setVm vm2).setFrames _).setFrames _ = _
    rw [State.setFrames_setFrames]
    rfl
  rw [e1]
  exact hrest
end XCA
section XCB
variable {p : Program} {l : Launch} {e : Env} {R : Room} {s : State} {m : MethodId} {args : Array Value} {below : List Frame} {meth : Method} {c : Code} {Q : State → Prop}
variable {cc : ByteArray} {nL : Nat} {own : String} {g : xG} {S : List xO} {F : xF} {G : xL} {cells slots pc : Nat} {lv : List (Option Value)} {st : List Value}
/-- the caller's table: rows as the word has them; the rows ahead don't take the class, the last one does -/
def xCat (own X : String) (hh : List (Nat × Nat × Nat × Nat)) (pc hp : Nat) : Prop :=
  ∃ (pre : List (Nat × Nat × Nat × Nat)) (z : Nat × Nat × Nat × Nat) (rest : List (Nat × Nat × Nat × Nat)), hh = pre ++ z :: rest ∧ z.2.2.1 = hp ∧
    (z.1 ≤ pc ∧ pc < z.2.1) ∧ z.2.2.2 ≠ 0 ∧ (∃ nm, Cond.classLink own z.2.2.2 nm ∈ xGT ∧ Cond.castable X nm ∈ lw_tbl) ∧
    ∀ q ∈ pre, (q.1 ≤ pc ∧ pc < q.2.1) ∧ q.2.2.2 ≠ 0 ∧ ∃ nm, Cond.classLink own q.2.2.2 nm ∈ xGT ∧ Cond.not (.castable X nm) ∈ flatC (Jvm.Cond.and given_1 narrow_1)
theorem xTh.notCast {U : State} {A : Array Value} {X Y : String} (h : xTh g U) (hw : Cond.not (.castable X Y) ∈ flatC (Jvm.Cond.and given_1 narrow_1)) : (Cond.not (.castable X Y)).before A U = true := by
  obtain ⟨u0, a1, a2, a3, a4, a5⟩ := h
  have h0 := flat_of_before _ a2 _ hw
  have h1 := Cond.castAtom_setVm a3.alike (Cond.not (.castable X Y)) rfl h0
  simp only [Cond.before, Cond.holds, Cond.value] at h1 ⊢
  exact h1
set_option maxHeartbeats 4000000 in
/-- an instance method throws, and a row of the caller's table takes it -/
theorem V.cX (C : Cx p s m args meth c cc nL own g) {hh : List (Nat × Nat × Nat × Nat)} (htab : c.exceptionTable.toList.map (fun h => (h.startPc, h.endPc, h.handlerPc, h.catchType)) = hh) {d lc idx maxL n ci a k hp : Nat} {y : MethodName} {bytes : ByteArray} {ret : Option FieldType} {As rest : List Value} {F2 : xF} {fs : List (Option Value)}
    (hM : CX l g d lc y bytes maxL ret (.ref a :: As) S F G k F2) (hm : xCv own idx y bytes maxL ret n ci) (hcat9 : xCat own (xE k) hh pc hp) (hinst : Cond.initialized (xE k) ∈ xGT) (hS : S[a]? = some (.inr (.inr (ci, fs)))) (hn : As.length = n) (hst : st = As.reverse ++ .ref a :: rest)
    (hR : d + 1 ≤ R.frames ∧ 8 + (maxL + 11) + lc ≤ R.locals ∧ cells + 1 ≤ R.cells ∧ slots + 6 ≤ R.slots) (hcat : (rest.map fun v => v.category).sum ≤ 8) (hd : decode cc pc = .ok (.invokevirtual idx, 3))
    (kk : ∀ j, V p l e R s m args below meth c Q nL g S F2 G (cells + 1) (slots + 6) hp lv [.ref j]) : V p l e R s m args below meth c Q nL g S F G cells slots pc lv st := by
  intro H locs ls h1 h2 h3 h4 T hT X
  obtain ⟨⟨hlink, hcode, hini, hy⟩, ⟨hv1, hv2⟩, Tt, Nn, hc⟩ := hm
  have hlink : Cond.methodLink own idx y ∈ xGT := by
    rcases hlink with h | ⟨host, h⟩
    · exact h
    · cases h
  obtain ⟨cellB, hcB, hoB, hclB⟩ := va_recv (q := (y.cls, Tt, Nn)) C.k h2 hc (xw_some hS)
  obtain ⟨mk, methM, hnamed, hmethM, hstM, habM⟩ := Cond.instanceMethod_spec (C.ts _ hv1)
  obtain ⟨methM', cM, hmethM', hcM, -, hlM, -, -, -, hsigM⟩ := Cond.code_spec hnamed (C.ts _ hcode)
  cases hmethM.symm.trans hmethM'
  obtain ⟨c2, r2, m2, q1, q2, q3, q4, kP, hkP, hkPi⟩ := Cond.selects_spec (C.ts _ hv2)
  cases hclB.symm.trans q1
  cases (State.methodFound?_of_named hnamed ⟨hy.1, hy.2.1⟩).symm.trans q2
  cases hnamed.symm.trans q3
  have hselP : selectMethod e.platform s.vm cellB.cls mk = .method mk := by rw [Launch.admits_selectMethod X.admits]; exact q4
  have hlen : (As.map (xv g)).length = methM.sig.parameters.length := by
    have h9 := hy.2.2
    rw [hsigM] at h9
    rw [List.length_map, hn]
    exact (Option.some.inj h9).symm
  have hst2 : (F0 m pc ls (st.map (xv g))).stack = (As.map (xv g)).reverse ++ .ref (g.1 + a) :: rest.map (xv g) := by
    rw [hst]; simp [xv]
  obtain ⟨vm₁, X₁, hstep₁⟩ := X.invokevirtual C.x C.ow (C.ts _ hlink) hnamed hmethM hstM hkP hkPi ⟨hy.1, hy.2.1⟩ (a := g.1 + a) (cell := cellB) (by rw [hT]; exact hcB)
    (fun z h => by rw [h] at hoB; cases hoB) hselP hmethM habM hkP hkPi (g := F0 m pc ls (st.map (xv g))) rfl (argsL := As.map (xv g)) (rest := rest.map (xv g)) hlen hst2 (by rw [C.b]; exact hd)
  -- the callee
  generalize hgr : (F0 m pc ls (rest.map (xv g)) : JFrame) = gr
  have hgr1 : gr.method = m := by rw [← hgr]
  have hgr2 : gr.pc = pc := by rw [← hgr]
  have hws : ∀ w ∈ xWs y bytes maxL ret, ∀ (a' : Array Value) (U : State), s.WarmedH U.vm → w.before a' U = true := pay_in C.ts (xGood hcode)
  have hn1 : (T.setVm vm₁).methodNamed? y = some mk := X₁.named hnamed
  obtain ⟨kY, hkY, -⟩ := className_of_methodNamed hn1
  have hinitY : kY.init = .initialized := Cond.initialized_spec (findClass_of_methodNamed hn1) hkY (word_at (a' := args) (U := T.setVm vm₁) X₁.warmed (Or.inl (by first | rfl | simp [Cond.onTables, Cond.keeps, Cond.steady])) (C.ts _ hini))
  have hAt : At (T.setVm vm₁) gr.method c below := by rw [hgr1]; exact X₁.here
  have hmY : (T.setVm vm₁).vm.method? mk = some methM := by
    have := X₁.warmed.alike.method? mk
    rw [this]; exact hmethM
  have happ : (headSpec (xWs y bytes maxL ret) (xRm d lc 1 6)).appliesLoose y e.platform ((T.setVm vm₁).calling gr mk ((Value.ref a :: As).map (xv g)).toArray) = true :=
    Spec.appliesLoose_calling (g := gr) hAt (by rw [hgr2, C.b]; exact hd) hn1 hkY hinitY
      (X₁.room_calling (g := gr) (R' := xRm d lc 1 6) (by rw [← hgr]; exact h4.1.trans C.ml.symm) hmY hcM hR.1 (by
        rw [hlM, ← hgr]
        show 2 * 0 + ((rest.map (xv g)).map fun v => v.category).sum + (maxL + 11) + lc ≤ R.locals
        rw [xcatS]
        have := hR.2.1
        omega) hR.2.2.1 hR.2.2.2) (atoms_intro fun w hw => hws w hw _ _ X₁.warmed)
  have hle : H.size ≤ s.heap.size + cells := by rw [← hT]; exact X.heapSize
  have hpc0 := xPc_at (x := 1) (As := .ref a :: As) C h1 h2 h3 (fun q => absurd q (by decide)) hle (T.setVm vm₁) hT X₁.warmed
  have hpc := xPc_blind _ _ gr mk hpc0
  obtain ⟨mid, hmid⟩ := hAt.above
  have hfr : ((T.setVm vm₁).setTop gr).frames = (.java gr :: mid) ++ below := by rw [State.frames_setTop' gr hAt.top, hmid]; rfl
  obtain ⟨o, s₂, hsteps, -, hend, a9, rfl, hsz9, hW₂, ⟨L, hsame, hL⟩, hP₂, hF₂, ce, hce, hvm9, hcls9⟩ := Steps.callFree hM p X.admits X.cas X.clock (acts := []) hfr happ hpc trivial
  have hend2 : s₂.frames = .throwing a9 :: .java gr :: (T.setVm vm₁).frames.tail := by
    have h9 : s₂.frames = .throwing a9 :: ((T.setVm vm₁).setTop gr).frames := hend
    rw [h9, State.frames_setTop' gr hAt.top]
  have hsz9 : T.heap.size ≤ a9 := hsz9
  have hW9 : (T.setVm vm₁).WarmedH s₂.vm := hW₂
  have hcls9 : vm₁.findClass (xE k) = some ce.cls := hcls9
  have hF9 : T.heap.size ≤ s₂.heap.size ∧ ∀ q : Nat, q < T.heap.size → ¬ xA g q → s₂.heap[q]? = T.heap[q]? := hF₂
  have hsame : ((T.setVm vm₁).calling gr mk ((Value.ref a :: As).map (xv g)).toArray).sameButNew ({ s₂ with vm := ((T.setVm vm₁).calling gr mk ((Value.ref a :: As).map (xv g)).toArray).vm } : State) L 1 6 := hsame
  obtain ⟨e2, w2, w3, w4, w5, w6⟩ := id hsame
  have e3 : s₂ = ({ ((T.setVm vm₁).calling gr mk ((Value.ref a :: As).map (xv g)).toArray).setFrames s₂.frames with heap := s₂.heap, slotsUsed := s₂.slotsUsed } : State).setVm s₂.vm := by
    have h9 : s₂ = ({ s₂ with vm := ((T.setVm vm₁).calling gr mk ((Value.ref a :: As).map (xv g)).toArray).vm } : State).setVm s₂.vm := rfl
    rw [e2] at h9
    exact h9
  obtain ⟨g₀, hg0⟩ := Option.isSome_iff_exists.mp hAt.top
  obtain ⟨r, hr⟩ := State.topJava?_eq_some.mp hg0
  generalize hT2 : ({ (T.setVm vm₁) with heap := s₂.heap, slotsUsed := s₂.slotsUsed } : State).setVm s₂.vm = T2
  have hr2 : T2.frames = .java g₀ :: r := by rw [← hT2]; exact hr
  have hs₂ : s₂ = (T2.setTop gr).pushFrame (.throwing a9) := by
    refine e3.trans ?_
    rw [hend2, State.calling_eq hAt.top, State.setFrames_setFrames, State.pushFrame, State.frames_setTop _ hr2, State.setTop_of_frames _ hr2, State.setFrames_setFrames, hr, ← hT2]
    rfl
  have hsame2 : (T.setVm vm₁).sameButNew ({ (T.setVm vm₁) with heap := s₂.heap, slotsUsed := s₂.slotsUsed } : State) L 1 6 := by
    refine ⟨?_, w2, w3, w4, w5, w6⟩
    obtain ⟨t9, ht9, -⟩ := State.frames_cons hr
    show ({ (T.setVm vm₁) with heap := s₂.heap, slotsUsed := s₂.slotsUsed } : State) = { (T.setVm vm₁).setFrames (T.setVm vm₁).frames with heap := s₂.heap, slotsUsed := s₂.slotsUsed }
    rw [State.setFrames_self ht9]
  have X2 : Stand p l e R s m args below meth c T2 (locs ++ L) (cells + 1) (slots + 6) := by
    rw [← hT2]
    exact ⟨X₁.admits, X₁.cas, X₁.clock, X₁.frames, X₁.room, X₁.hears, X₁.method, X₁.code, (X₁.here.setHeapUsed s₂.heap s₂.slotsUsed).setVm hW9.alike, X₁.tail, State.WarmedH.trans X₁.warmed hW9, X₁.limits, X₁.bytes, X₁.same.trans (hsame2.setVm s.vm)⟩
  have hh2 : T2.heap = s₂.heap := by rw [← hT2]; rfl
  have hcX : s.vm.findClass (xE k) = some ce.cls := by rw [← X₁.warmed.alike.findClass]; exact hcls9
  have hpl : e.platform.magicAccessors = ({} : Platform).magicAccessors := by rw [X.admits.platform]
  -- the rows
  obtain ⟨pre, z, rst, hsp, hz1, hz2, hz3, ⟨nm, hnm1, hnm2⟩, hpre9⟩ := hcat9
  rw [hsp] at htab
  obtain ⟨preE, l2, hE1, hE2, hE3⟩ := List.map_eq_append_iff.mp htab
  obtain ⟨zE, rstE, hE4, hE5, hE6⟩ := List.map_eq_cons_iff.mp hE3
  have hcov : ∀ y9 : ExceptionTableEntry, y9.startPc ≤ pc ∧ pc < y9.endPc → covers y9 pc = true := fun y9 h9 => by simp [covers, h9.1, h9.2]
  have hzrow : xRow e.platform s gr.method.cls ce.cls gr.pc true zE := by
    rw [hgr1, hgr2]
    rw [← hE5] at hz2 hz3 hnm1
    obtain ⟨cT, hcT, hclk⟩ := Cond.classLink_spec C.ow (C.ts _ hnm1) e.platform hpl
    obtain ⟨c5, t5, v1, v2, v3⟩ := Cond.castable_spec (C.th.word (A := args) hnm2 rfl rfl)
    cases hcX.symm.trans v1
    cases hcT.symm.trans v2
    exact ⟨hcov zE hz2, hz3, cT, hclk, v3⟩
  have hprow : ∀ q ∈ preE, xRow e.platform s gr.method.cls ce.cls gr.pc false q := by
    intro q hq
    rw [hgr1, hgr2]
    have hq2 : (q.startPc, q.endPc, q.handlerPc, q.catchType) ∈ pre := by rw [← hE2]; exact List.mem_map_of_mem hq
    obtain ⟨b1, b2, nm9, b3, b4⟩ := hpre9 _ hq2
    obtain ⟨cT, hcT, hclk⟩ := Cond.classLink_spec C.ow (C.ts _ b3) e.platform hpl
    have hno := Cond.holds_not_iff.mp (C.th.notCast (A := args) b4)
    simp only [Cond.value, hcX, hcT] at hno
    exact ⟨hcov q b1, b2, cT, hclk, Option.some.inj hno⟩
  have hobj : ∀ k9, ce.vm ≠ .statics k9 := fun k9 h9 => by rw [hvm9] at h9; cases h9
  obtain ⟨vm2, hW2, hfind⟩ := xgo (e := e) (s0 := s) (f := gr) (a := a9) hobj (Vm.classAt_of_findClass hcX) (y := zE) (rest := rstE) hzrow preE ((T2.setTop gr).pushFrame (.throwing a9)) X2.warmed (by
    show T2.heap[a9]? = some ce
    rw [hh2]; exact hce) hprow
  have hle9 : g.1 ≤ a9 := by
    have h7 := C.hz
    have h6 := h3.1
    rw [← hT] at h6
    omega
  have hS2 : va_S (xA g) s.heap s₂.heap (locs ++ L) := by
    rw [hT] at hF9
    refine ⟨Nat.le_trans h3.1 hF9.1, fun q z1 z2 => by rw [hF9.2 q (Nat.lt_of_lt_of_le z1 h3.1) z2]; exact h3.2.1 q z1 z2, fun q hq => ?_⟩
    rcases List.mem_append.mp hq with z | z
    · exact h3.2.2 q z
    · exact hL q z
  obtain ⟨t, a1, b1⟩ := kk (a9 - g.1) s₂.heap (locs ++ L) ls h1 hP₂ hS2 h4 (T2.setVm vm2) hh2 (X2.noted hW2)
  refine ⟨t, hstep₁ _ fun acts => ?_, b1⟩
  rw [doInvoke_state]
  have hgr9 : ({ F0 m pc ls (st.map (xv g)) with stack := rest.map (xv g) } : JFrame) = gr := hgr
  rw [hgr9]
  refine Steps.trans hsteps ?_
  rw [hs₂]
  have hAt2 : At T2 gr.method c below := by rw [hgr1]; exact X2.here
  refine xcaught (pc := zE.handlerPc) (vm2 := vm2) hAt2 (fun Q9 E9 d9 acts9 => ?_) ?_
  · rw [W.findHandler_eq (meth := meth) (code := c) (by rw [hgr1]; exact X2.method') X.code, hE1, hE4]
    exact hfind Q9 E9 d9 acts9
  · have hpcE : zE.handlerPc = hp := by rw [← hz1, ← hE5]
    rw [hpcE, ← hgr]
    have e9 : ([Value.ref (a9 - g.1)]).map (xv g) = [Value.ref a9] := by
      show [Value.ref (g.1 + (a9 - g.1))] = _
      rw [Nat.add_sub_cancel' hle9]
    rw [e9] at a1
    exact a1
end XCB
