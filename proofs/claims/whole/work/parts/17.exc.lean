/-! throws: the new exception, its constructor's chain, the throw -/
section XE
variable {p : Program} {l : Launch} {e : Env} {R : Room} {s : State} {m : MethodId} {args : Array Value} {below : List Frame} {meth : Method} {c : Code}
variable {cc : ByteArray} {nL : Nat} {own : String} {g : xG} {S : List xO} {F : xF} {G : xL} {cells slots pc : Nat} {lv : List (Option Value)} {st : List Value}
def xWk (w : Cond) : Bool := match w with
  | .declares _ => true
  | .castable _ _ => true
  | w => w.keeps
theorem xWk_ok {w : Cond} (h : xWk w = true) (s : State) (h2 : w.onTables = true) : w.warmOk s := by
  cases w <;> first | exact trivial | exact h | (simp [Cond.onTables] at h2; done) | (simp [xWk, Cond.keeps, Cond.steady] at h; done)
theorem xTh.word {U : State} {w : Cond} {A : Array Value} (h : xTh g U) (hw : w ∈ lw_tbl) (ht : w.onTables = true) (hk : xWk w = true) : w.before A U = true := by
  obtain ⟨u0, a1, a2, a3, a4, a5⟩ := h
  have h1 := Cond.before_warmed a3 w (xWk_ok hk u0 ht) (a1 w hw)
  exact va_tabs ht (show (u0.setVm U.vm).vm = U.vm from rfl) h1
theorem xTh.laysStatic {U : State} {O f d : String} {A : Array Value} (h : xTh g U) (hw : Cond.laysStatic O f d ∈ lw_tbl) : (Cond.laysStatic O f d).before A U = true := by
  obtain ⟨u0, a1, a2, a3, a4, a5⟩ := h
  have h1 := Cond.before_warmed a3 (Cond.laysStatic O f d) rfl (a1 _ hw)
  obtain ⟨c, k, i, fd, a, cell, hc, hf, hst, hsta, hcell, hiss, hcls, hlt, hty⟩ := Cond.laysStatic_spec h1
  have hlt2 : a < g.1 := by rw [← a4]; exact (Array.getElem?_eq_some_iff.mp hcell).1
  have hcell2 : U.heap[a]? = some cell := (a5 a hlt2).trans hcell
  have hc2 : U.vm.findClass O = some c := hc
  have hf2 : U.fieldFound? O f d = some (c, k, i, fd) := hf
  simp [Cond.before, Cond.holds, Cond.value, hc2, hf2, hst, hsta, hcell2, hiss, hcls, hlt, hty]
theorem xTh.isRef {U : State} {O f d : String} {A : Array Value} (h : xTh g U) (hw : Cond.isRef (.static O f d) ∈ flatC (Jvm.Cond.and given_1 narrow_1)) : (Cond.isRef (.static O f d)).before A U = true := by
  obtain ⟨u0, a1, a2, a3, a4, a5⟩ := h
  have h0 := flat_of_before _ a2 _ hw
  have h1 := Cond.before_warmed a3 (Cond.isRef (.static O f d)) rfl h0
  have key : ∀ v, (Term.static O f d).eval #[Value.ref g.2.1] (u0.setVm U.vm) none [] (u0.setVm U.vm) = some v → (Term.static O f d).eval A U none [] U = some v := by
    intro v hv
    simp only [Term.eval] at hv ⊢
    cases hf : (u0.setVm U.vm).fieldNamed? O f d true with
    | none => rw [hf] at hv; cases hv
    | some x =>
      obtain ⟨c1, k1, sl⟩ := x
      have hf2 : U.fieldNamed? O f d true = some (c1, k1, sl) := hf
      rw [hf] at hv
      rw [hf2]
      cases hs : k1.statics with
      | none => simp [hs] at hv
      | some a =>
        cases hcell : u0.heap[a]? with
        | none =>
          have hcell1 : (u0.setVm U.vm).heap[a]? = none := hcell
          simp [hs, hcell] at hv
        | some cell =>
          have hcell1 : (u0.setVm U.vm).heap[a]? = some cell := hcell
          have hlt2 : a < g.1 := by rw [← a4]; exact (Array.getElem?_eq_some_iff.mp hcell).1
          have hcell2 : U.heap[a]? = some cell := (a5 a hlt2).trans hcell
          simp [hs, hcell] at hv
          simp [hs, hcell2]
          exact hv
  simp only [Cond.before, Cond.holds, Cond.value] at h1 ⊢
  cases hv : (Term.static O f d).eval #[Value.ref g.2.1] (u0.setVm U.vm) none [] (u0.setVm U.vm) with
  | none => rw [hv] at h1; simp at h1
  | some v =>
    rw [hv] at h1
    rw [key v hv]
    exact h1
/-- the same walk, as if the method had begun in the heap that it stands in now -/
theorem xrebase {T : State} {locs : List Loc} (X : Stand p l e R s m args below meth c T locs cells slots) (hc : cells ≤ R.cells) (hs : slots ≤ R.slots) :
    Stand p l e { R with cells := R.cells - cells, slots := R.slots - slots } { s with heap := T.heap, slotsUsed := T.slotsUsed } m args below meth c T [] 0 0 := by
  have hroom := X.room
  have h1 := X.heapSize
  have h2 := X.used
  have h3 := X.book
  simp only [State.hasRoom, Bool.and_eq_true, decide_eq_true_eq] at hroom
  obtain ⟨⟨⟨⟨r1, r2⟩, r3⟩, r4⟩, r5⟩ := hroom
  refine ⟨X.admits, X.cas, X.clock, X.frames, ?_, X.hears, X.method, X.code, X.here, X.tail, X.warmed, X.limits, X.bytes, ?_⟩
  · simp only [State.hasRoom, Bool.and_eq_true, decide_eq_true_eq]
    refine ⟨⟨⟨⟨r1, r2⟩, ?_⟩, ?_⟩, ?_⟩
    · show T.heap.size + (R.cells - cells) ≤ _
      omega
    · show T.slotsUsed + (R.slots - slots) ≤ _
      omega
    · exact h3
  · have e1 := X.same.1
    refine ⟨?_, Nat.le_refl _, Nat.le_refl _, ?_, ?_, fun a cl ha => ⟨cl, ha, rfl, rfl, fun i _ => rfl⟩⟩
    · exact e1
    · show T.slotsUsed = T.slotsUsed + ((T.heap.toList.drop T.heap.size).map _).sum
      rw [List.drop_of_length_le (by simp)]
      simp
    · show ((T.heap.toList.drop T.heap.size).map _).sum ≤ 0
      rw [List.drop_of_length_le (by simp)]
      simp
/-- the classes that are thrown, by their numbers -/
def xE (k : Nat) : String := match k with
  | 1 => "java/lang/IllegalArgumentException"
  | 2 => "java/lang/UnsupportedOperationException"
  | 3 => "java/lang/IndexOutOfBoundsException"
  | _ => "java/lang/IllegalStateException"
def xEn : List String := ["java/lang/RuntimeException", "java/lang/Exception"]
/-- what a throw needs of the words: the class's link, the text's, the constructor's -/
def xThr (own : String) (ixn ixs ixc : Nat) (X tx : String) : Prop :=
  (Cond.classLink own ixn X ∈ xGT ∧ Cond.instantiable X 6 ∈ xGT ∧ Cond.initialized X ∈ xGT) ∧ Cond.stringRef own ixs tx ∈ lw_tbl ∧ Bundle.fit X = true ∧ (∀ w ∈ Bundle.ownAtoms own ixc X xEn, (w ∈ lw_tbl ∧ w.onTables = true ∧ xWk w = true) ∨ (∃ O f d, w = Cond.laysStatic O f d ∧ w ∈ lw_tbl) ∨ ∃ O f d, w = Cond.isRef (.static O f d) ∧ w ∈ flatC (Jvm.Cond.and given_1 narrow_1))
def xAt (w : Cond) : Bool := match w with
  | .laysStatic O f d => decide (Cond.laysStatic O f d ∈ lw_tbl)
  | .isRef (.static O f d) => decide (Cond.isRef (.static O f d) ∈ flatC (Jvm.Cond.and given_1 narrow_1))
  | w => decide (w ∈ lw_tbl) && (w.onTables && xWk w)
theorem xThr_at {ixc : Nat} {X : String} (h : (Bundle.ownAtoms own ixc X xEn).all xAt = true) : ∀ w ∈ Bundle.ownAtoms own ixc X xEn, (w ∈ lw_tbl ∧ w.onTables = true ∧ xWk w = true) ∨ (∃ O f d, w = Cond.laysStatic O f d ∧ w ∈ lw_tbl) ∨ ∃ O f d, w = Cond.isRef (.static O f d) ∧ w ∈ flatC (Jvm.Cond.and given_1 narrow_1) := by
  intro w hw
  have h1 := List.all_eq_true.mp h w hw
  unfold xAt at h1
  split at h1
  · exact Or.inr (Or.inl ⟨_, _, _, rfl, of_decide_eq_true h1⟩)
  · exact Or.inr (Or.inr ⟨_, _, _, rfl, of_decide_eq_true h1⟩)
  · simp only [Bool.and_eq_true, decide_eq_true_eq] at h1
    exact Or.inl ⟨h1.1, h1.2.1, h1.2.2⟩
theorem xTh.atoms {U : State} {A : Array Value} {ixn ixs ixc : Nat} {X tx : String} (h : xTh g U) (hx : xThr own ixn ixs ixc X tx) : ∀ w ∈ Bundle.ownAtoms own ixc X xEn, w.before A U = true := by
  intro w hw
  rcases hx.2.2.2 w hw with ⟨h1, h2, h3⟩ | ⟨O, f, d, rfl, h1⟩ | ⟨O, f, d, rfl, h1⟩
  · exact h.word h1 h2 h3
  · exact h.laysStatic h1
  · exact h.isRef h1
/-- the text's place -/
theorem xTh.string {U : State} {ixs : Nat} {tx : String} {cur : ClassId} (h : xTh g U) (hw : Cond.stringRef own ixs tx ∈ lw_tbl) (hown : U.vm.findClass own = some cur) : ∃ a, vk_R own ixs tx a U := by
  obtain ⟨u0, a1, a2, a3, a4, a5⟩ := h
  have h0 := a1 _ hw
  have hown0 : u0.vm.findClass own = some cur := by rw [← a3.alike.findClass]; exact hown
  obtain ⟨k, cf, i, a, -, -, -, -, -, h1⟩ := Cond.stringRef_spec hown0 h0
  exact ⟨a, vk_R.warm a3 (vk_R.of (A := #[]) (by
    have := h0
    simp only [Cond.before, Cond.holds, Cond.value] at this ⊢
    exact this) (by rw [Term.string_eval_of_vm (args := #[]) (rfl : u0.vm = u0.vm)]; exact h1))⟩
/-- a method that throws: the world is as it was or as F says, the exception is a new cell -/
def xMX (g : xG) (below : List Frame) (s : State) (S : List xO) (F : xF) (G : xL) (X : String) : State → Prop := fun t =>
  ∃ a, t.status = .running ∧ Ended t below (.threw a) ∧ s.heap.size ≤ a ∧ s.WarmedH t.vm ∧ (∃ L, s.sameButNew ({ t with vm := s.vm } : State) L 1 6 ∧ ∀ q ∈ L, xA g q.base) ∧ va_P g.2.2.2 xCl (xw g F G S) t.heap ∧ va_F (xA g) s t ∧ ∃ ce : Cell, t.heap[a]? = some ce ∧ ce.vm = .none ∧ s.vm.findClass X = some ce.cls
theorem xkept {s1 t : State} {k n : Nat} (h : s1.sameButNew t [] k n) {q : Nat} {cell : Cell} (hq : s1.heap[q]? = some cell) : t.heap[q]? = some cell := by
  obtain ⟨c2, h1, h2, h3, h4⟩ := h.2.2.2.2.2 q cell hq
  rw [h1]
  congr 1
  rw [h2]
  have : c2.slots = cell.slots := by
    apply Array.ext_getElem?
    intro i
    exact h4 i (by simp)
  rw [this]
set_option maxHeartbeats 4000000 in
theorem V.thr (C : Cx p s m args meth c cc nL own g) (hfl : l.flags = flags0) (hne : c.exceptionTable.isEmpty = true) {ixn ixs ixc : Nat} {X tx : String} (hx : xThr own ixn ixs ixc X tx) (hR : 6 ≤ R.frames ∧ (st.map fun v => v.category).sum + 82 ≤ R.locals ∧ 1 ≤ R.cells ∧ 6 ≤ R.slots)
    (d0 : decode cc pc = .ok (.new ixn, 3)) (d1 : decode cc (pc + 3) = .ok (.dup, 1)) (d2 : decode cc (pc + 3 + 1) = .ok (.ldc ixs, 2)) (d3 : decode cc (pc + 3 + 1 + 2) = .ok (.invokespecial ixc, 3)) (d4 : decode cc (pc + 3 + 1 + 2 + 3) = .ok (.athrow, 1)) :
    V p l e R s m args below meth c (xMX g below s S F G X) nL g S F G 0 0 pc lv st := by
  intro H locs ls h1 h2 h3 h4 T hT X1
  have X2 := xrebase X1 (Nat.zero_le _) (Nat.zero_le _)
  generalize hs1 : ({ s with heap := T.heap, slotsUsed := T.slotsUsed } : State) = s1 at X2
  have hvm : s.vm = s1.vm := by rw [← hs1]
  have hheap : s1.heap = T.heap := by rw [← hs1]
  have hth : xTh g s1 := by
    refine C.th.at ?_ (fun q hq => by rw [hheap, hT]; exact h3.low C.hz q hq)
    rw [← hvm]
    exact State.WarmedH.refl s
  have hown1 : s1.vm.findClass own = some m.cls := by rw [← hvm]; exact C.ow
  have hg : ∀ w ∈ xGT, w.onTables = true → w.before args s1 = true := fun w hw ht => va_tabs ht hvm (C.ts w hw)
  obtain ⟨⟨w1, w2, w3⟩, hstr, hfit, -⟩ := id hx
  obtain ⟨qs, hqs⟩ := hth.string (own := own) hstr hown1
  have hat := hth.atoms (A := args) hx
  have hcl := Cond.instantiable_spec (hg _ w2 rfl)
  obtain ⟨cX, kX, hfc, hkX, -⟩ := hcl
  have htr : e.platform.stackTraces = false := by
    rw [X1.admits.platform]
    show l.stackTraces = false
    unfold Launch.stackTraces
    rw [hfl]
    decide +kernel
  have key : W p l e { R with cells := R.cells - 0, slots := R.slots - 0 } s1 m args below meth c T.heap [] 0 0 (fun U => U.status = .running ∧ Ended U below (.threw T.heap.size) ∧ s1.WarmedH U.vm ∧ s1.sameButNew ({ U with vm := s1.vm } : State) [] 1 6 ∧ ∃ ce : Cell, U.heap[T.heap.size]? = some ce ∧ ce.vm = .none ∧ s1.vm.findClass X = some ce.cls) (F0 m pc ls (st.map (xv g))) := by
    refine W.newcK C.x C.b hown1 (hg _ w1 rfl) (hg _ w2 rfl) (hg _ w3 rfl) rfl d0 (by show 0 + 1 ≤ R.cells - 0; omega) (by show 0 + 6 ≤ R.slots - 0; omega) hfc rfl (fun H1 kC hkC e1 z1 o1 => ?_)
    cases hkX.symm.trans hkC
    refine lv_dup C.x C.b d1 rfl ?_
    refine va_ldcS C.x C.b hown1 hqs d2 ?_
    intro W1 hW1 XW
    have hcell : W1.heap[T.heap.size]? = some (freshCell cX kX) := by rw [hW1]; exact e1
    obtain ⟨U, u1, u2, u3, u4, u5, ce, u6, u7⟩ := XW.ctorThrowS C.x htr hown1 hfit (names := xEn) (by decide +kernel) hat (fun _ hq => by cases hq) hfc hkX hcell (by rw [hheap]; exact Nat.le_refl _) (msg := .ref qs) rfl (g := F0 m (pc + 3 + 1 + 2) ls (.ref qs :: .ref T.heap.size :: .ref T.heap.size :: st.map (xv g))) rfl (h4.1.trans C.ml.symm) rfl rfl rfl (by rw [C.b]; exact d3) (by rw [C.b]; exact d4) (fun x hx2 => by
      have : c.exceptionTable.toList = [] := by simpa using hne
      rw [this] at hx2; cases hx2) (by show 2 + 3 < R.frames; omega) (by
      show 2 * 0 + ((Value.ref T.heap.size :: st.map (xv g)).map fun v => v.category).sum + (13 * (2 + 1) + 42) ≤ R.locals
      rw [List.map_cons, List.sum_cons, xcatS]
      show 2 * 0 + (1 + _) + _ ≤ _
      omega) C.lk
    exact ⟨U, u1, u2, u3, u4, u5, ce, u6, u7.vm, u7.cls⟩
  obtain ⟨U, st1, u1, u2, u3, u4, ce, u5, u6, u7⟩ := key T rfl X2
  have hkeep : ∀ (q : Nat) (cell : Cell), T.heap[q]? = some cell → U.heap[q]? = some cell := fun q cell hq => xkept u4 (by rw [hheap]; exact hq)
  refine ⟨U, st1, T.heap.size, u1, u2, by rw [hT]; exact h3.1, ?_, ⟨locs, ?_, h3.2.2⟩, ?_, ?_, ce, u5, u6, by rw [hvm]; exact u7⟩
  · rw [← hs1] at u3
    exact u3
  · have e3 : ∀ Fr : List Frame, (T.setVm s.vm).setFrames Fr = ({ s.setFrames Fr with heap := T.heap, slotsUsed := T.slotsUsed } : State) := fun Fr => by
      have e2 := X1.same.1
      calc (T.setVm s.vm).setFrames Fr = ({ s.setFrames (T.setVm s.vm).frames with heap := T.heap, slotsUsed := T.slotsUsed } : State).setFrames Fr := congrArg (fun z => State.setFrames z Fr) e2
        _ = ({ (s.setFrames (T.setVm s.vm).frames).setFrames Fr with heap := T.heap, slotsUsed := T.slotsUsed } : State) := rfl
        _ = _ := by rw [State.setFrames_setFrames]
    have h5 : (T.setVm s.vm).sameButNew ({ U with vm := s.vm } : State) [] 1 6 := by
      rw [← hs1] at u4
      refine ⟨?_, u4.2.1, u4.2.2.1, u4.2.2.2.1, u4.2.2.2.2.1, u4.2.2.2.2.2⟩
      rw [e3]
      exact u4.1
    have h6 := X1.same.trans h5
    rw [List.append_nil] at h6
    exact h6
  · refine h2.kept (fun k q hq => ?_)
    have hl : q.1 < T.heap.size := by rw [hT]; exact (h2 k q hq).lt
    have hcellq : T.heap[q.1]? = some T.heap[q.1] := Array.getElem?_eq_getElem hl
    rw [hkeep _ _ hcellq, ← hT, hcellq]
  · refine ⟨?_, fun q hq hn => ?_⟩
    · have a1 := h3.1
      have a2 := u4.2.1
      rw [hheap, hT] at a2
      exact Nat.le_trans a1 a2
    · have hl : q < T.heap.size := by rw [hT]; exact Nat.lt_of_lt_of_le hq h3.1
      have hcellq : T.heap[q]? = some T.heap[q] := Array.getElem?_eq_getElem hl
      rw [hkeep _ _ hcellq, ← hcellq, hT]
      exact h3.2.1 q hq hn
/-- y with arguments As, in the world S F G, throws an exception of the class X; the world is S F2 G then -/
def CX (l : Launch) (g : xG) (d lc : Nat) (y : MethodName) (cc : ByteArray) (maxL : Nat) (ret : Option FieldType) (As : List Value) (S : List xO) (F : xF) (G : xL) (k : Nat) (F2 : xF) : Prop :=
  MetFree l y (headSpec (xWs y cc maxL ret) (xRm d lc 1 6)) (xPc g S F G 1 As) (fun _ _ _ _ _ => True) (fun _ st o t => ∃ a, o = .threw a ∧ st.heap.size ≤ a ∧ st.WarmedH t.vm ∧ (∃ L, st.sameButNew ({ t with vm := st.vm } : State) L 1 6 ∧ ∀ q ∈ L, xA g q.base) ∧ va_P g.2.2.2 xCl (xw g F2 G S) t.heap ∧ va_F (xA g) st t ∧ ∃ ce : Cell, t.heap[a]? = some ce ∧ ce.vm = .none ∧ st.vm.findClass (xE k) = some ce.cls)
theorem CX.of {d lc : Nat} {y : MethodName} {maxL : Nat} {ret : Option FieldType} {As : List Value} {F2 : xF} {k : Nat} (lv0 : List (Option Value)) (hy : plainName y.cls = true) (hlen : (lg_sl (As.map (xv g))).length ≤ maxL) (hlv : xal g 0 lv0 = lv_args 0 (As.map (xv g)))
    (body : ∀ (p : Program) (e : Env) (s : State) (m : MethodId) (args : Array Value) (below : List Frame) (meth : Method) (c : Code), Cx p s m args meth c cc maxL y.cls g → meth.sig.returnType = ret → meth.name = y.name → c.exceptionTable.isEmpty = true →
      V p l e (xRm d lc 1 6) s m args below meth c (xMX g below s S F2 G (xE k)) maxL g S F G 0 0 0 lv0 []) : CX l g d lc y cc maxL ret As S F G k F2 := by
  refine MetFree.of_bodyS (code := cc) (maxLocals := maxL) (ret := ret) hy ?_ ?_
  · intro args s m h hn
    obtain ⟨meth, c, h1, h2, h3, h4, h5, h6, -, -⟩ := Cond.code_spec hn (atoms_spec (ws := xWs y cc maxL ret) h _ List.mem_cons_self)
    exact ⟨meth, c, h1, h2, h3, h4, h5, h6⟩
  · intro p e s m args below meth c s₁ B hml hv _
    obtain ⟨rfl, hx, hz, hP, hl0, hK⟩ := hv
    have hws := atoms_spec (ws := xWs y cc maxL ret) B.pre
    have hts : ∀ w ∈ xGT, w.before _ s = true := fun w hw => hws w (List.mem_cons_of_mem _ hw)
    have C : Cx p s m ((As.map (xv g)).toArray) meth c cc maxL y.cls g := ⟨B.exec, B.bytes, hml, findClass_of_methodNamed B.named, hts, hK, B.notSynchronized, hz⟩
    have hl := lv_entry (As.map (xv g)) (n := maxL) hlen
    have hh0 : s₁.heap = s.heap := by rw [B.state]; rfl
    have hne := B.noHandlers (hws _ List.mem_cons_self)
    have key : W p l e (xRm d lc 1 6) s m ((As.map (xv g)).toArray) below meth c s.heap [] 0 0 (xMX g below s S F2 G (xE k)) (entryFrame m (As.map (xv g)).toArray maxL) := by
      rw [lg_entry_eq]
      exact body p e s m _ below meth c C B.returns (name_of_methodNamed B.named B.method).1 hne s.heap [] _ hl0 hP va_S.rf (by unfold xl; rw [hlv]; exact hl)
    obtain ⟨t, a1, a, b1, b2, b0, b3, b4, b5, b6, b7⟩ := key s₁ hh0 (Stand.of_body B)
    exact ⟨t, .threw a, a1, b1, b2, a, rfl, b0, b3, b4, b5, b6, b7⟩
end XE
