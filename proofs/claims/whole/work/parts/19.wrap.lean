/-! methods with a table of handlers (the law's wrappers), and calls of them -/
def lP (S : List xO) (a : Nat) (j : Int32) (v : Int64) (G : xL) : Option xL := match S[a]? with
  | some (.inl (1, n)) => if 0 ≤ j.toInt ∧ j.toInt < n then some (up2 G a j.toNatClampNeg v) else none
  | _ => none
def lG (S : List xO) (a : Nat) (j : Int32) (G : xL) : Option Int64 := match S[a]? with
  | some (.inl (1, n)) => if 0 ≤ j.toInt ∧ j.toInt < n then some (G a j.toNatClampNeg) else none
  | _ => none
theorem lP_spec {S : List xO} {a : Nat} {j : Int32} {v : Int64} {G G1 : xL} (h : lP S a j v G = some G1) : ∃ n, S[a]? = some (.inl (1, n)) ∧ vp_in j n ∧ up2 G a j.toNatClampNeg v = G1 := by
  unfold lP at h
  split at h
  · rename_i n hS
    split at h
    · rename_i hj
      exact ⟨n, hS, vp_in_iff.mpr hj, Option.some.inj h⟩
    · cases h
  · cases h
theorem lG_spec {S : List xO} {a : Nat} {j : Int32} {v : Int64} {G : xL} (h : lG S a j G = some v) : ∃ n, S[a]? = some (.inl (1, n)) ∧ vp_in j n ∧ G a j.toNatClampNeg = v := by
  unfold lG at h
  split at h
  · rename_i n hS
    split at h
    · rename_i hj
      exact ⟨n, hS, vp_in_iff.mpr hj, Option.some.inj h⟩
    · cases h
  · cases h
section XWR
variable {p : Program} {l : Launch} {e : Env} {R : Room} {s : State} {m : MethodId} {args : Array Value} {below : List Frame} {meth : Method} {c : Code} {Q : State → Prop}
variable {cc : ByteArray} {nL : Nat} {own : String} {g : xG} {S : List xO} {F F2 : xF} {G G2 G1 : xL} {cells slots pc : Nat} {lv : List (Option Value)} {st : List Value}
theorem V.xlast (C : Cx p s m args meth c cc nL own g) {a : Nat} {j : Int32} {v : Int64} (h : lP S a j v G = some G1) (hd : decode cc pc = .ok (.lastore, 1)) (kk : V p l e R s m args below meth c Q nL g S F G1 cells slots (pc + 1) lv st) : V p l e R s m args below meth c Q nL g S F G cells slots pc lv (.long v :: .int j :: .ref a :: st) := by
  obtain ⟨n, h1, h2, h3⟩ := lP_spec h
  subst h3
  exact V.last C h1 h2 hd kk
theorem V.xlald (C : Cx p s m args meth c cc nL own g) {a : Nat} {j : Int32} {v : Int64} (h : lG S a j G = some v) (hd : decode cc pc = .ok (.laload, 1)) (kk : V p l e R s m args below meth c Q nL g S F G cells slots (pc + 1) lv (.long v :: st)) : V p l e R s m args below meth c Q nL g S F G cells slots pc lv (.int j :: .ref a :: st) := by
  obtain ⟨n, h1, h2, h3⟩ := lG_spec h
  subst h3
  exact V.lald C h1 h2 hd kk
def xWsW (y : MethodName) (cc : ByteArray) (maxL : Nat) (ret : Option FieldType) (hh : List (Nat × Nat × Nat × Nat)) : List Cond := .codeWith y cc maxL ret hh :: xGT
def CTW (l : Launch) (g : xG) (d lc mc ms : Nat) (y : MethodName) (cc : ByteArray) (maxL : Nat) (ret : Option FieldType) (hh : List (Nat × Nat × Nat × Nat)) (As : List Value) (S : List xO) (F : xF) (G : xL) (r : Option Value) (F2 : xF) (G2 : xL) : Prop :=
  Met l y (xWsW y cc maxL ret hh) (xRm d lc mc ms) (xPc g S F G 1 As) (xQc g S F2 G2 r) mc ms (xA g)
theorem CTW.of {d lc mc ms : Nat} {y : MethodName} {maxL : Nat} {ret : Option FieldType} {hh : List (Nat × Nat × Nat × Nat)} {As : List Value} {r : Option Value} (lv0 : List (Option Value)) (hy : plainName y.cls = true) (hlen : (lg_sl (As.map (xv g))).length ≤ maxL) (hlv : xal g 0 lv0 = lv_args 0 (As.map (xv g)))
    (body : ∀ (p : Program) (e : Env) (s : State) (m : MethodId) (args : Array Value) (below : List Frame) (meth : Method) (c : Code), Cx p s m args meth c cc maxL y.cls g → meth.sig.returnType = ret → c.exceptionTable.toList.map (fun h => (h.startPc, h.endPc, h.handlerPc, h.catchType)) = hh →
      V p l e (xRm d lc mc ms) s m args below meth c (xMQ g below args s mc ms S F2 G2 r) maxL g S F G 0 0 0 lv0 []) : CTW l g d lc mc ms y cc maxL ret hh As S F G r F2 G2 := by
  refine va_MetW (cc := cc) (maxL := maxL) (ret := ret) (hh := hh) hy rfl ?_
  intro p e s m args below meth c s₁ B hml hv
  obtain ⟨rfl, hx, hz, hP, hl0, hK⟩ := hv
  have hws := atoms_spec (ws := xWsW y cc maxL ret hh) B.pre
  have hts : ∀ w ∈ xGT, w.before _ s = true := fun w hw => hws w (List.mem_cons_of_mem _ hw)
  have C : Cx p s m ((As.map (xv g)).toArray) meth c cc maxL y.cls g := ⟨B.exec, B.bytes, hml, findClass_of_methodNamed B.named, hts, hK, B.notSynchronized, hz⟩
  obtain ⟨m9, meth9, c9, k1, k2, k3, -, -, k6, -⟩ := Cond.codeWith_spec (hws _ List.mem_cons_self)
  cases k1.symm.trans B.named
  cases k2.symm.trans B.method
  have hc9 : c9 = c := Option.some.inj (k3.symm.trans (Stand.of_body B).code)
  subst hc9
  have hl := lv_entry (As.map (xv g)) (n := maxL) hlen
  rw [lg_entry_eq]
  exact body p e s m _ below meth c9 C B.returns k6 s.heap [] _ hl0 hP va_S.rf (by unfold xl; rw [hlv]; exact hl)
def xCw (own : String) (idx : Nat) (y : MethodName) (cc : ByteArray) (maxL : Nat) (ret : Option FieldType) (hh : List (Nat × Nat × Nat × Nat)) (n : Nat) : Prop :=
  Cond.methodLink own idx y ∈ xGT ∧ Cond.codeWith y cc maxL ret hh ∈ xGT ∧ Cond.initialized y.cls ∈ xGT ∧ Cond.static y ∈ xGT ∧ (y.cls ≠ "java/lang/invoke/MethodHandle" ∧ y.cls ≠ "java/lang/invoke/VarHandle" ∧ (parseMethodDescriptor y.desc).map (fun d => d.parameters.length) = some n)
set_option maxHeartbeats 4000000 in
/-- a static method with a table of handlers -/
theorem V.cSW (C : Cx p s m args meth c cc nL own g) {d lc mc ms idx maxL n : Nat} {y : MethodName} {bytes : ByteArray} {ret : Option FieldType} {hh : List (Nat × Nat × Nat × Nat)} {As rest : List Value} {r : Value}
    (hM : CTW l g d lc mc ms y bytes maxL ret hh As S F G (some r) F2 G2) (hm : xCw own idx y bytes maxL ret hh n) (hn : As.length = n) (hst : st = As.reverse ++ rest)
    (hR : d + 1 ≤ R.frames ∧ 8 + (maxL + 11) + lc ≤ R.locals ∧ cells + mc ≤ R.cells ∧ slots + ms ≤ R.slots) (hcat : (rest.map fun v => v.category).sum ≤ 8) (hd : decode cc pc = .ok (.invokestatic idx, 3))
    (kk : V p l e R s m args below meth c Q nL g S F2 G2 (cells + mc) (slots + ms) (pc + 3) lv (r :: rest)) : V p l e R s m args below meth c Q nL g S F G cells slots pc lv st := by
  obtain ⟨hlink, hcode, hini, hstat, hy⟩ := hm
  refine V.ofRun (a := (As.map (xv g)).toArray) (r := some r) C (fun H locs ls h1 h2 h3 h4 hle => ?_) kk
  have hrm : 2 * (F0 m pc ls (st.map (xv g))).monitorRoom + ((rest.map (xv g)).map fun v => v.category).sum ≤ 8 := lv_room (by rw [xcatS]; exact hcat)
  have hpre : PreS s H (xPc g S F G 1 As) (As.map (xv g)) := ⟨xPc_blind, fun U hU hW => xPc_at (As := As) C h1 h2 h3 (fun q => absurd q (by decide)) hle U hU hW⟩
  have hst2 : (F0 m pc ls (st.map (xv g))).stack = (As.map (xv g)).reverse ++ rest.map (xv g) := by
    rw [hst]; simp
  have hG : GoodIn xGT (xWsW y bytes maxL ret hh) := by
    intro w hw
    rcases List.mem_cons.mp hw with h | h
    · subst h; exact ⟨hcode, xGT_good _ hcode⟩
    · exact ⟨h, xGT_good _ h⟩
  have hini2 := C.ts _ hini
  have hK : Back l R p e below s args y 3 8 (PreOf R mc ms (xPc g S F G 1 As)) (PostOf (xQc g S F2 G2 (some r)) mc ms (xA g)) := va_backW (hh := hh) (bytes := bytes) (maxL := maxL) (ret := ret) hM hpre.1 rfl rfl hR.1 hR.2.1 (pay_in C.ts hG) List.mem_cons_self (fun a' U hW => word_at hW (Or.inl (by first | rfl | simp [Cond.onTables, Cond.keeps, Cond.steady])) hini2)
  intro T hT X
  obtain ⟨mk, methM, cM, hnamed, hmethM, -, -, -, -, -, -, hsigM⟩ := Cond.codeWith_spec (C.ts _ hcode)
  have hstatic : methM.isStatic = true := Cond.static_spec hnamed hmethM (C.ts _ hstat)
  obtain ⟨kP, hkP, -⟩ := className_of_methodNamed hnamed
  have hinitP : kP.init = .initialized := Cond.initialized_spec (findClass_of_methodNamed hnamed) hkP hini2
  have hlen : (As.map (xv g)).length = methM.sig.parameters.length := by
    have h9 := hy.2.2
    rw [hsigM] at h9
    rw [List.length_map, hn]
    exact (Option.some.inj h9).symm
  obtain ⟨vm₁, X₁, hstep₁⟩ := X.invokestatic C.x C.ow (C.ts _ hlink) hnamed hmethM hstatic hkP hinitP ⟨hy.1, hy.2.1⟩ (g := F0 m pc ls (st.map (xv g))) rfl (argsL := As.map (xv g)) (rest := rest.map (xv g)) hlen hst2 (by rw [C.b]; exact hd)
  obtain ⟨v, ⟨U2, l2, c2, s2⟩, X2, ⟨g2, mk2, t, L, e1, e2, hq, h1', hL, h2', h3'⟩, hsteps⟩ := hK m meth c ⟨T.setVm vm₁, locs, cells, slots⟩ { F0 m pc ls (st.map (xv g)) with stack := rest.map (xv g) } (.invokestatic idx) mk (As.map (xv g)).toArray X₁ rfl (h4.1.trans C.ml.symm) (by rw [C.b]; exact hd) hrm (X₁.named hnamed) ⟨hR.2.2.1, hR.2.2.2, hpre.2 (T.setVm vm₁) hT X₁.warmed⟩
  dsimp only [Pt.U, Pt.locs, Pt.cells, Pt.slots] at X2 e1 e2 h1' h2' h3' hsteps
  subst h1'; subst h2'; subst h3'
  exact ⟨v, (T.setVm vm₁).calling g2 mk2 (As.map (xv g)).toArray, t, U2, L, hT, X2, hL, e1, e2, hq, fun target h => hstep₁ _ fun acts => by rw [doInvoke_state]; exact hsteps.trans h⟩
end XWR
