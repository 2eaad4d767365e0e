section XV2
variable {p : Program} {l : Launch} {e : Env} {R : Room} {s : State} {m : MethodId} {args : Array Value} {below : List Frame} {meth : Method} {c : Code} {Q : State → Prop}
variable {cc : ByteArray} {nL : Nat} {own : String} {g : xG} {S : List xO} {F : xF} {G : xL} {cells slots pc : Nat} {lv : List (Option Value)} {st : List Value}
theorem xw_size {H : Heap} (h : va_P g.2.2.2 xCl (xw g F G S) H) (hg : g.1 ≤ H.size) : g.1 + S.length ≤ H.size := by
  cases hn : S.length with
  | zero => exact hg
  | succ n =>
    have hl : n < S.length := by omega
    have h1 : S[n]? = some S[n] := List.getElem?_eq_getElem hl
    have h2 := (h n _ (xw_some h1)).lt
    have h3 : g.1 + n < H.size := h2
    omega
theorem W.sized {H : Heap} {locs : List Loc} {gf : JFrame} (k : H.size ≤ s.heap.size + cells → W p l e R s m args below meth c H locs cells slots Q gf) : W p l e R s m args below meth c H locs cells slots Q gf := fun T hT X => k (by rw [← hT]; exact X.heapSize) T hT X
theorem V.iast (C : Cx p s m args meth c cc nL own g) {a n : Nat} {j v : Int32} (hS : S[a]? = some (.inl (0, n))) (hin : vp_in j n) (hd : decode cc pc = .ok (.iastore, 1)) (kk : V p l e R s m args below meth c Q nL g S (up2 F a j.toNatClampNeg v) G cells slots (pc + 1) lv st) : V p l e R s m args below meth c Q nL g S F G cells slots pc lv (.int v :: .int j :: .ref a :: st) := fun H locs ls h1 h2 h3 h4 =>
  va_iast C.x C.b C.k h2 (xw_D g F G h1) h3 a 0 (xw_some hS) (xTy0 g) hin hd (fun H1 locs1 q1 _ q2 => kk H1 locs1 ls h1 (by rw [← xw_putA (by decide) _ v hS]; exact q1) q2 h4)
theorem V.bast (C : Cx p s m args meth c cc nL own g) {a n : Nat} {j v : Int32} (hS : S[a]? = some (.inl (3, n))) (hin : vp_in j n) (hd : decode cc pc = .ok (.bastore, 1)) (kk : V p l e R s m args below meth c Q nL g S (up2 F a j.toNatClampNeg (vp_nar .byte v)) G cells slots (pc + 1) lv st) : V p l e R s m args below meth c Q nL g S F G cells slots pc lv (.int v :: .int j :: .ref a :: st) := fun H locs ls h1 h2 h3 h4 =>
  va_bast C.x C.b C.k h2 (xw_D g F G h1) h3 a 3 (xw_some hS) (xTy3 g) hin hd (fun H1 locs1 q1 _ q2 => kk H1 locs1 ls h1 (by rw [← xw_putA (by decide) _ (vp_nar .byte v) hS]; exact q1) q2 h4)
theorem V.last (C : Cx p s m args meth c cc nL own g) {a n : Nat} {j : Int32} {v : Int64} (hS : S[a]? = some (.inl (1, n))) (hin : vp_in j n) (hd : decode cc pc = .ok (.lastore, 1)) (kk : V p l e R s m args below meth c Q nL g S F (up2 G a j.toNatClampNeg v) cells slots (pc + 1) lv st) : V p l e R s m args below meth c Q nL g S F G cells slots pc lv (.long v :: .int j :: .ref a :: st) := fun H locs ls h1 h2 h3 h4 =>
  va_last C.x C.b C.k h2 (xw_D g F G h1) h3 a 1 (xw_some hS) (xTy1 g) hin hd (fun H1 locs1 q1 _ q2 => kk H1 locs1 ls h1 (by rw [← xw_putL _ v hS]; exact q1) q2 h4)
theorem V.lald (C : Cx p s m args meth c cc nL own g) {a n : Nat} {j : Int32} (hS : S[a]? = some (.inl (1, n))) (hin : vp_in j n) (hd : decode cc pc = .ok (.laload, 1)) (kk : V p l e R s m args below meth c Q nL g S F G cells slots (pc + 1) lv (.long (G a j.toNatClampNeg) :: st)) : V p l e R s m args below meth c Q nL g S F G cells slots pc lv (.int j :: .ref a :: st) := fun H locs ls h1 h2 h3 h4 =>
  va_lald C.x C.b C.k h2 a 1 (xw_some hS) (xTy1 g) hin hd (kk H locs ls h1 h2 h3 h4)
/-- the script -/
theorem V.sld (C : Cx p s m args meth c cc nL own g) {L : Nat} {xs : Nat → Int32} {j : Int32} {u : UInt32} (hX : va_X g.2.1 L xs s s.heap) (hbl : g.2.1 < s.heap.size) (hbg : g.2.1 < g.1) (hin : vp_in j L) (hd : decode cc pc = .ok (.iaload, 1)) (kk : V p l e R s m args below meth c Q nL g S F G cells slots (pc + 1) lv (.int (xs j.toNatClampNeg) :: st)) : V p l e R s m args below meth c Q nL g S F G cells slots pc lv (.int j :: .float u :: st) := fun H locs ls h1 h2 h3 h4 =>
  va_sld (A := xA g) C.x C.b hX hbl (fun q => absurd q.1 (Nat.not_le.mpr hbg)) h3 hin hd (kk H locs ls h1 h2 h3 h4)
theorem V.slen (C : Cx p s m args meth c cc nL own g) {L : Nat} {xs : Nat → Int32} {u : UInt32} (hX : va_X g.2.1 L xs s s.heap) (hbl : g.2.1 < s.heap.size) (hbg : g.2.1 < g.1) (hd : decode cc pc = .ok (.arraylength, 1)) (kk : V p l e R s m args below meth c Q nL g S F G cells slots (pc + 1) lv (.int (nI L) :: st)) : V p l e R s m args below meth c Q nL g S F G cells slots pc lv (.float u :: st) := fun H locs ls h1 h2 h3 h4 =>
  va_slen (A := xA g) C.x C.b hX hbl (fun q => absurd q.1 (Nat.not_le.mpr hbg)) h3 hd (kk H locs ls h1 h2 h3 h4)
def xd0 (o : Option Value) : Value := match o with
  | none => .int 0
  | some v => v
/-- a new object -/
theorem V.new (C : Cx p s m args meth c cc nL own g) {idx ci : Nat} {Cn : String} {T : u_T} {N : Nat} (fs : List (Option Value)) (hz : s.heap.size + cells = g.1 + S.length) (hKK : S.length + 1 ≤ xKK) (hc : xCl[ci]? = some (Cn, T, N)) (t0 : Nat → FieldType) (hty : ∀ k, k < N → parseFieldDescriptor (T k).2.2.1 = some (t0 k)) (hin : ∀ w ∈ u_ws Cn T N, w ∈ xGT)
    (hw : Cond.classLink own idx Cn ∈ xGT ∧ Cond.instantiable Cn N ∈ xGT ∧ Cond.initialized Cn ∈ xGT) (hdef : ∀ j, j < N → defaultValue (t0 j) = xd0 (fs.getD j (some .null))) (hnull : ∀ o ∈ fs, o = none ∨ o = some .null) (hR : cells + 1 ≤ R.cells ∧ slots + N ≤ R.slots) (hd : decode cc pc = .ok (.new idx, 3))
    (kk : V p l e R s m args below meth c Q nL g (S ++ [.inr (.inr (ci, fs))]) (upR F S.length (fun _ => 0)) G (cells + 1) (slots + N) (pc + 3) lv (.ref S.length :: st)) : V p l e R s m args below meth c Q nL g S F G cells slots pc lv st := by
  intro H locs ls h1 h2 h3 h4
  refine W.sized (fun hle => ?_)
  have hge : g.1 + S.length ≤ H.size := xw_size h2 (Nat.le_trans C.hz h3.1)
  have hH : H.size = g.1 + S.length := by omega
  have hKn := C.k.1 ci _ hc
  refine W.newcK C.x C.b C.ow (C.ts _ hw.1) (C.ts _ hw.2.1) (C.ts _ hw.2.2) rfl hd hR.1 hR.2 hKn.2.1 hH (fun H1 kC hkC e1 z1 o1 => ?_)
  have hk : ∀ (k : Nat) (q : Nat × va_E), (xw g F G S)[k]? = some q → H1[q.1]? = H[q.1]? := fun k q hq => o1 q.1 (by have := (h2 k q hq).lt; omega)
  refine kk H1 locs ls (by rw [List.length_append]; exact hKK) ?_ ⟨by have := h3.1; omega, fun q q1 q2 => (o1 q (by have := h3.1; omega)).trans (h3.2.1 q q1 q2), h3.2.2⟩ h4
  rw [← xw_push, ← xw_fresh (g := g) (F := F) (F' := upR F S.length (fun _ => 0)) (G := G) (G' := G) (S := S) (fun i hi => upR_ne F _ _ (Nat.ne_of_lt hi)) (fun i _ => rfl)]
  refine (h2.kept hk).app (fun k q hq => ?_)
  have hz2 : k < 1 := (List.getElem?_eq_some_iff.mp hq).1
  rw [show k = 0 by omega] at hq
  cases hq
  refine ⟨_, hc, (u_born t0 C.ts hin hKn hkC e1 hty).to (fun j hj => ?_)⟩
  rw [hdef j hj]
  unfold vp_V
  rw [List.getD_eq_getElem?_getD, List.getD_eq_getElem?_getD, xfs_at]
  cases hf : fs[j]? with
  | none => rfl
  | some o =>
    rcases hnull o (List.mem_of_getElem? hf) with h | h
    · subst h; simp [xfv, xd0, upR_eq]
    · subst h; rfl
theorem xK_arr0 (hK : va_K g.2.2.2 xCl (xTy g.2.2.1) s) {cA : ClassId} (h : s.vm.findClass ("[" ++ FieldType.int.toString) = some cA) : cA = g.2.2.1 0 := by
  have h1 := (hK.2 0 _ (xTy0 g)).2
  exact Option.some.inj (h.symm.trans h1)
theorem xK_arr1 (hK : va_K g.2.2.2 xCl (xTy g.2.2.1) s) {cA : ClassId} (h : s.vm.findClass ("[" ++ FieldType.long.toString) = some cA) : cA = g.2.2.1 1 := by
  have h1 := (hK.2 1 _ (xTy1 g)).2
  exact Option.some.inj (h.symm.trans h1)
/-- a new row of ints -/
theorem V.newI (C : Cx p s m args meth c cc nL own g) {n : Int32} (N : Nat) (hz : s.heap.size + cells = g.1 + S.length) (hKK : S.length + 1 ≤ xKK) (hw : Cond.arrayClass .int ∈ xGT) (hn : ¬ n < 0) (hN : n.toNatClampNeg = N) (hb : N * 4 ≤ 536870912) (hR : cells + 1 ≤ R.cells ∧ slots + N ≤ R.slots) (hd : decode cc pc = .ok (.newarray .int, 2))
    (kk : V p l e R s m args below meth c Q nL g (S ++ [.inl (0, N)]) (upR F S.length (fun _ => 0)) G (cells + 1) (slots + N) (pc + 2) lv (.ref S.length :: st)) : V p l e R s m args below meth c Q nL g S F G cells slots pc lv (.int n :: st) := by
  intro H locs ls h1 h2 h3 h4
  refine W.sized (fun hle => ?_)
  have hge : g.1 + S.length ≤ H.size := xw_size h2 (Nat.le_trans C.hz h3.1)
  have hH : H.size = g.1 + S.length := by omega
  refine va_newaK C.x C.b (atype := .int) (C.ts _ hw) rfl hd rfl hn hN hb hR.1 hR.2 hH (fun H1 cA e1 z1 o1 hAr hNm => ?_)
  have hcA : cA = g.2.2.1 0 := xK_arr0 C.k hNm
  have hk : ∀ (k : Nat) (q : Nat × va_E), (xw g F G S)[k]? = some q → H1[q.1]? = H[q.1]? := fun k q hq => o1 q.1 (by have := (h2 k q hq).lt; omega)
  refine kk H1 locs ls (by rw [List.length_append]; exact hKK) ?_ ⟨by have := h3.1; omega, fun q q1 q2 => (o1 q (by have := h3.1; omega)).trans (h3.2.1 q q1 q2), h3.2.2⟩ h4
  rw [← xw_push, ← xw_fresh (g := g) (F := F) (F' := upR F S.length (fun _ => 0)) (G := G) (G' := G) (S := S) (fun i hi => upR_ne F _ _ (Nat.ne_of_lt hi)) (fun i _ => rfl)]
  refine (h2.kept hk).app (fun k q hq => ?_)
  have hz2 : k < 1 := (List.getElem?_eq_some_iff.mp hq).1
  rw [show k = 0 by omega] at hq
  cases hq
  show H1[g.1 + S.length]? = some (vp_cell _ _)
  rw [e1, hcA]
  simp only [upR_eq]
  rfl
/-- a new row of longs -/
theorem V.newL (C : Cx p s m args meth c cc nL own g) {n : Int32} (N : Nat) (hz : s.heap.size + cells = g.1 + S.length) (hKK : S.length + 1 ≤ xKK) (hw : Cond.arrayClass .long ∈ xGT) (hn : ¬ n < 0) (hN : n.toNatClampNeg = N) (hb : N * 8 ≤ 536870912) (hR : cells + 1 ≤ R.cells ∧ slots + N ≤ R.slots) (hd : decode cc pc = .ok (.newarray .long, 2))
    (kk : V p l e R s m args below meth c Q nL g (S ++ [.inl (1, N)]) F (upR G S.length (fun _ => 0)) (cells + 1) (slots + N) (pc + 2) lv (.ref S.length :: st)) : V p l e R s m args below meth c Q nL g S F G cells slots pc lv (.int n :: st) := by
  intro H locs ls h1 h2 h3 h4
  refine W.sized (fun hle => ?_)
  have hge : g.1 + S.length ≤ H.size := xw_size h2 (Nat.le_trans C.hz h3.1)
  have hH : H.size = g.1 + S.length := by omega
  refine va_newaK C.x C.b (atype := .long) (C.ts _ hw) rfl hd rfl hn hN hb hR.1 hR.2 hH (fun H1 cA e1 z1 o1 hAr hNm => ?_)
  have hcA : cA = g.2.2.1 1 := xK_arr1 C.k hNm
  have hk : ∀ (k : Nat) (q : Nat × va_E), (xw g F G S)[k]? = some q → H1[q.1]? = H[q.1]? := fun k q hq => o1 q.1 (by have := (h2 k q hq).lt; omega)
  refine kk H1 locs ls (by rw [List.length_append]; exact hKK) ?_ ⟨by have := h3.1; omega, fun q q1 q2 => (o1 q (by have := h3.1; omega)).trans (h3.2.1 q q1 q2), h3.2.2⟩ h4
  rw [← xw_push, ← xw_fresh (g := g) (F := F) (F' := F) (G := G) (G' := upR G S.length (fun _ => 0)) (S := S) (fun i _ => rfl) (fun i hi => upR_ne G _ _ (Nat.ne_of_lt hi))]
  refine (h2.kept hk).app (fun k q hq => ?_)
  have hz2 : k < 1 := (List.getElem?_eq_some_iff.mp hq).1
  rw [show k = 0 by omega] at hq
  cases hq
  show H1[g.1 + S.length]? = some (vp_cell _ _)
  rw [e1, hcA]
  simp only [upR_eq]
  rfl
/-- Object's constructor -/
theorem V.objInit (C : Cx p s m args meth c cc nL own g) {idx a : Nat} (hw : Cond.methodLink own idx Lib.objectInit ∈ xGT ∧ Cond.instanceMethod Lib.objectInit ∈ xGT ∧ Cond.code Lib.objectInit ⟨#[0xb1]⟩ 1 none ∈ xGT) (hR : 1 ≤ R.frames ∧ (st.map fun v => v.category).sum + 12 ≤ R.locals) (hd : decode cc pc = .ok (.invokespecial idx, 3)) (kk : V p l e R s m args below meth c Q nL g S F G cells slots (pc + 3) lv st) : V p l e R s m args below meth c Q nL g S F G cells slots pc lv (.ref a :: st) := by
  intro H locs ls h1 h2 h3 h4
  have hcat : ((st.map (xv g)).map fun v => v.category).sum = (st.map fun v => v.category).sum := by
    rw [List.map_map]; congr 1; apply List.map_congr_left; intro v _; exact xv_cat g v
  refine W.objInit C.x C.b C.ow (C.ts _ hw.1) (C.ts _ hw.2.1) (C.ts _ hw.2.2) rfl (by rw [C.ml]; exact h4.1) rfl hd hR.1 ?_ (kk H locs ls h1 h2 h3 h4)
  show 2 * 0 + ((st.map (xv g)).map fun v => v.category).sum + 12 ≤ R.locals
  rw [hcat]
  have := hR.2
  omega
theorem xcatS (g : xG) (st : List Value) : ((st.map (xv g)).map fun v => v.category).sum = (st.map fun v => v.category).sum := by
  rw [List.map_map]; congr 1; apply List.map_congr_left; intro v _; exact xv_cat g v
def xmx (a b : Int32) : Int32 := if a < b then b else a
def xmn (a b : Int32) : Int32 := if b < a then b else a
theorem V.mmax (C : Cx p s m args meth c cc nL own g) {idx : Nat} {a b : Int32} (hw : Cond.methodLink own idx Lib.Math.max.name ∈ xGT ∧ Cond.static Lib.Math.max.name ∈ xGT ∧ Cond.initialized "java/lang/Math" ∈ xGT ∧ Cond.code Lib.Math.max.name Lib.Math.max.code 2 (some .int) ∈ xGT) (hR : 1 ≤ R.frames ∧ (st.map fun v => v.category).sum + 13 ≤ R.locals ∧ cells ≤ R.cells ∧ slots ≤ R.slots) (hd : decode cc pc = .ok (.invokestatic idx, 3)) (kk : V p l e R s m args below meth c Q nL g S F G cells slots (pc + 3) lv (.int (xmx a b) :: st)) : V p l e R s m args below meth c Q nL g S F G cells slots pc lv (.int b :: .int a :: st) := fun H locs ls h1 h2 h3 h4 =>
  va_mmax C.x C.b (C.ml.trans h4.1.symm) C.ow (C.ts _ hw.1) (C.ts _ hw.2.1) (C.ts _ hw.2.2.1) (C.ts _ hw.2.2.2) hR.1 (by rw [xcatS]; exact hR.2.1) hR.2.2.1 hR.2.2.2 hd (kk H locs ls h1 h2 h3 h4)
theorem V.mmin (C : Cx p s m args meth c cc nL own g) {idx : Nat} {a b : Int32} (hw : Cond.methodLink own idx Lib.Math.min.name ∈ xGT ∧ Cond.static Lib.Math.min.name ∈ xGT ∧ Cond.initialized "java/lang/Math" ∈ xGT ∧ Cond.code Lib.Math.min.name Lib.Math.min.code 2 (some .int) ∈ xGT) (hR : 1 ≤ R.frames ∧ (st.map fun v => v.category).sum + 13 ≤ R.locals ∧ cells ≤ R.cells ∧ slots ≤ R.slots) (hd : decode cc pc = .ok (.invokestatic idx, 3)) (kk : V p l e R s m args below meth c Q nL g S F G cells slots (pc + 3) lv (.int (xmn a b) :: st)) : V p l e R s m args below meth c Q nL g S F G cells slots pc lv (.int b :: .int a :: st) := fun H locs ls h1 h2 h3 h4 =>
  va_mmin C.x C.b (C.ml.trans h4.1.symm) C.ow (C.ts _ hw.1) (C.ts _ hw.2.1) (C.ts _ hw.2.2.1) (C.ts _ hw.2.2.2) hR.1 (by rw [xcatS]; exact hR.2.1) hR.2.2.1 hR.2.2.2 hd (kk H locs ls h1 h2 h3 h4)
/-- System.arraycopy in one row -/
theorem V.copy (C : Cx p s m args meth c cc nL own g) {idx a n0 : Nat} {sp dp n : Int32} (hw : Cond.methodLink own idx arraycopyName ∈ xGT ∧ Cond.native arraycopyName ∈ xGT ∧ Cond.static arraycopyName ∈ xGT ∧ Cond.initialized "java/lang/System" ∈ xGT) (hS : S[a]? = some (.inl (0, n0))) (g1 : ¬ sp < 0) (g2 : ¬ dp < 0) (g3 : ¬ n < 0) (g4 : sp.toNatClampNeg + n.toNatClampNeg ≤ n0) (g5 : dp.toNatClampNeg + n.toNatClampNeg ≤ n0)
    (hR : 1 ≤ R.frames ∧ (st.map fun v => v.category).sum + (nativeFrameWords "java/lang/System" "arraycopy" 5 + 11) ≤ R.locals) (hd : decode cc pc = .ok (.invokestatic idx, 3)) (kk : V p l e R s m args below meth c Q nL g S (upR F a (va_cpy (F a) (F a) sp.toNatClampNeg dp.toNatClampNeg n.toNatClampNeg)) G cells slots (pc + 3) lv st) : V p l e R s m args below meth c Q nL g S F G cells slots pc lv (.int n :: .int dp :: .ref a :: .int sp :: .ref a :: st) := fun H locs ls h1 h2 h3 h4 =>
  va_copyi (ty := .int) C.x C.b (C.ml.trans h4.1.symm) C.ow (C.ts _ hw.1) (C.ts _ hw.2.1) (C.ts _ hw.2.2.1) (C.ts _ hw.2.2.2) C.k h2 (xw_D g F G h1) h3 a a 0 0 (xw_some hS) (xw_some hS) (xTy0 g) (xTy0 g) rfl g1 g2 g3 g4 g5 (fun _ _ => rfl) hR.1 (by rw [xcatS]; exact hR.2) hd (fun H1 locs1 q1 _ q2 => kk H1 locs1 ls h1 (by rw [← xw_putRow _ hS]; exact q1) q2 h4)
/-! contracts -/
def xWs (y : MethodName) (cc : ByteArray) (maxL : Nat) (ret : Option FieldType) : List Cond := .code y cc maxL ret :: xGT
def xRm (d lc mc ms : Nat) : Room := { frames := d, cells := mc, slots := ms, locals := lc }
def xPc (g : xG) (S : List xO) (F : xF) (G : xL) (x : Nat) (As : List Value) : Array Value → State → Prop := fun a U => a = (As.map (xv g)).toArray ∧ (x = 0 → U.heap.size = g.1 + S.length) ∧ g.1 ≤ U.heap.size ∧ va_P g.2.2.2 xCl (xw g F G S) U.heap ∧ S.length ≤ xKK ∧ xK g U
def xQc (g : xG) (S : List xO) (F : xF) (G : xL) (r : Option Value) : Array Value → State → Outcome → State → Prop := fun _ st o t => o = .returned (r.map (xv g)) ∧ S.length ≤ xKK ∧ va_P g.2.2.2 xCl (xw g F G S) t.heap ∧ va_F (xA g) st t
/-- y with arguments As, in the world S F G, answers r; the world is S2 F2 G2 then; mc new cells of ms slots; it nests d deep; x = 0: the heap ends where the world ends (constructors) -/
def CT (l : Launch) (g : xG) (d lc mc ms : Nat) (y : MethodName) (cc : ByteArray) (maxL : Nat) (ret : Option FieldType) (x : Nat) (As : List Value) (S : List xO) (F : xF) (G : xL) (r : Option Value) (S2 : List xO) (F2 : xF) (G2 : xL) : Prop :=
  Met l y (xWs y cc maxL ret) (xRm d lc mc ms) (xPc g S F G x As) (xQc g S2 F2 G2 r) mc ms (xA g)
abbrev xMQ (g : xG) (below : List Frame) (args : Array Value) (s : State) (mc ms : Nat) (S : List xO) (F : xF) (G : xL) (r : Option Value) : State → Prop := MQ below (xQc g S F G r) args s mc ms (xA g)
theorem CT.of {l : Launch} {g : xG} {d lc mc ms : Nat} {y : MethodName} {cc : ByteArray} {maxL : Nat} {ret : Option FieldType} {x : Nat} {As : List Value} {S S2 : List xO} {F F2 : xF} {G G2 : xL} {r : Option Value} (lv0 : List (Option Value)) (hy : plainName y.cls = true) (hlen : (lg_sl (As.map (xv g))).length ≤ maxL) (hlv : xal g 0 lv0 = lv_args 0 (As.map (xv g)))
    (body : ∀ (p : Program) (e : Env) (s : State) (m : MethodId) (args : Array Value) (below : List Frame) (meth : Method) (c : Code), Cx p s m args meth c cc maxL y.cls g → meth.sig.returnType = ret → meth.name = y.name → (x = 0 → s.heap.size = g.1 + S.length) →
      V p l e (xRm d lc mc ms) s m args below meth c (xMQ g below args s mc ms S2 F2 G2 r) maxL g S F G 0 0 0 lv0 []) : CT l g d lc mc ms y cc maxL ret x As S F G r S2 F2 G2 := by
  refine Met.ofW (cc := cc) (maxL := maxL) (ret := ret) hy rfl ?_
  intro p e s m args below meth c s₁ B hml hv
  obtain ⟨rfl, hx, hz, hP, hl0, hK⟩ := hv
  have hts : ∀ w ∈ xGT, w.before _ s = true := fun w hw => atoms_spec (ws := xWs y cc maxL ret) B.pre w (List.mem_cons_of_mem _ hw)
  have C : Cx p s m ((As.map (xv g)).toArray) meth c cc maxL y.cls g := ⟨B.exec, B.bytes, hml, findClass_of_methodNamed B.named, hts, hK, B.notSynchronized, hz⟩
  have hl := lv_entry (As.map (xv g)) (n := maxL) hlen
  rw [lg_entry_eq]
  exact body p e s m _ below meth c C B.returns (name_of_methodNamed B.named B.method).1 hx s.heap [] _ hl0 hP va_S.rf (by unfold xl; rw [hlv]; exact hl)
/-- ends -/
theorem V.iret (C : Cx p s m args meth c cc nL own g) {S2 : List xO} {F2 : xF} {G2 : xL} {v r : Int32} (hr : meth.sig.returnType = some .int) (hd : decode cc pc = .ok (.ireturn, 1)) (e0 : v = r) (e1 : F = F2) (e2 : G = G2) (e3 : S = S2) : V p l e R s m args below meth c (xMQ g below args s cells slots S2 F2 G2 (some (.int r))) nL g S F G cells slots pc lv [.int v] := by
  subst e0; subst e1; subst e2; subst e3
  intro H locs ls h1 h2 h3 h4
  exact W.iret C.x C.b hr (fun t ht hW => ⟨rfl, h1, by rw [ht]; exact h2, h3.F ht⟩) h3.2.2 hd C.lk
theorem V.zret (C : Cx p s m args meth c cc nL own g) {S2 : List xO} {F2 : xF} {G2 : xL} {v r : Int32} (hr : meth.sig.returnType = some .boolean) (hn : narrow .boolean (.int v) = .int v) (hd : decode cc pc = .ok (.ireturn, 1)) (e0 : v = r) (e1 : F = F2) (e2 : G = G2) (e3 : S = S2) : V p l e R s m args below meth c (xMQ g below args s cells slots S2 F2 G2 (some (.int r))) nL g S F G cells slots pc lv [.int v] := by
  subst e0; subst e1; subst e2; subst e3
  intro H locs ls h1 h2 h3 h4
  exact W.zret C.x C.b hr hn (fun t ht hW => ⟨rfl, h1, by rw [ht]; exact h2, h3.F ht⟩) h3.2.2 hd C.lk
theorem V.vret (C : Cx p s m args meth c cc nL own g) {S2 : List xO} {F2 : xF} {G2 : xL} (hr : meth.sig.returnType = none) (hd : decode cc pc = .ok (.return_, 1)) (e1 : F = F2) (e2 : G = G2) (e3 : S = S2) : V p l e R s m args below meth c (xMQ g below args s cells slots S2 F2 G2 none) nL g S F G cells slots pc lv [] := by
  subst e1; subst e2; subst e3
  intro H locs ls h1 h2 h3 h4
  exact W.vret C.x C.b hr (fun t ht hW => ⟨rfl, h1, by rw [ht]; exact h2, h3.F ht⟩) h3.2.2 hd C.lk
theorem V.aret (C : Cx p s m args meth c cc nL own g) {S2 : List xO} {F2 : xF} {G2 : xL} {a r : Nat} {Cn : String} (hr : meth.sig.returnType = some (.object Cn)) (hd : decode cc pc = .ok (.areturn, 1)) (e0 : a = r) (e1 : F = F2) (e2 : G = G2) (e3 : S = S2) : V p l e R s m args below meth c (xMQ g below args s cells slots S2 F2 G2 (some (.ref r))) nL g S F G cells slots pc lv [.ref a] := by
  subst e0; subst e1; subst e2; subst e3
  intro H locs ls h1 h2 h3 h4
  exact W.aret C.x C.b hr (Or.inl ⟨_, rfl⟩) (Or.inr ⟨_, rfl⟩) (fun t ht hW => ⟨rfl, h1, by rw [ht]; exact h2, h3.F ht⟩) h3.2.2 hd C.lk
theorem xPc_blind {x : Nat} {As : List Value} : FrameBlind (xPc g S F G x As) := by
  intro a U gg mk h
  obtain ⟨q0, q1, q2, q3, q5, q4⟩ := h
  exact ⟨q0, q1, q2, q3, q5, va_K.moved (u := U) (U := U.calling gg mk a) (Vm.Alike.refl U.vm) q4.1, fun w hw => va_Nw.same (u := U) (U := U.calling gg mk a) (xNT_tab w hw) rfl (q4.2.1 w hw), by obtain ⟨u0, a1, a2, a3, a4, a5⟩ := q4.2.2; exact ⟨u0, a1, a2, a3, a4, a5⟩⟩
theorem xK.warm {u U : State} (hW : u.WarmedH U.vm) (hh : ∀ q : Nat, q < g.1 → U.heap[q]? = u.heap[q]?) (h : xK g u) : xK g U := ⟨va_K.moved hW.alike h.1, fun w hw => xNT_warm hW w hw (h.2.1 w hw), h.2.2.at hW hh⟩
theorem va_S.low {H0 H : Heap} {locs : List Loc} (h : va_S (xA g) H0 H locs) (hg : g.1 ≤ H0.size) : ∀ q : Nat, q < g.1 → H[q]? = H0[q]? := fun q hq => h.2.1 q (Nat.lt_of_lt_of_le hq hg) (fun z => absurd z.1 (Nat.not_le.mpr hq))
/-- behind a call -/
theorem V.ofRun (C : Cx p s m args meth c cc nL own g) {mc ms : Nat} {rest st0 : List Value} {r : Option Value} {S2 : List xO} {F2 : xF} {G2 : xL} {a : Array Value}
    (hr : ∀ (H : Heap) (locs : List Loc) (ls : Array Slot), S.length ≤ xKK → va_P g.2.2.2 xCl (xw g F G S) H → va_S (xA g) s.heap H locs → xl g ls nL lv → H.size ≤ s.heap.size + cells → va_Run p l e R s m args below meth c H locs cells slots mc ms (F0 m pc ls (st0.map (xv g))) (rest.map (xv g)) (xQc g S2 F2 G2 r a) (xA g))
    (kk : V p l e R s m args below meth c Q nL g S2 F2 G2 (cells + mc) (slots + ms) (pc + 3) lv (r.toList ++ rest)) : V p l e R s m args below meth c Q nL g S F G cells slots pc lv st0 := by
  intro H locs ls h1 h2 h3 h4 T hT X
  obtain ⟨v, st₀, t, T2, L, q0, X2, hL, e1, e2, ⟨hv, hl2, hP2, hF2⟩, go⟩ := hr H locs ls h1 h2 h3 h4 (by rw [← hT]; exact X.heapSize) T hT X
  cases hv
  rw [va_F, q0] at hF2
  obtain ⟨t2, a1, b1⟩ := kk T2.heap (locs ++ L) ls hl2 (by rw [e1]; exact hP2) ⟨Nat.le_trans h3.1 (by rw [e1]; exact hF2.1), fun q z1 z2 => by rw [e1, hF2.2 q (Nat.lt_of_lt_of_le z1 h3.1) z2]; exact h3.2.1 q z1 z2, fun q hq => by
      rcases List.mem_append.mp hq with z | z
      · exact h3.2.2 q z
      · exact hL q z⟩ h4 T2 rfl X2
  refine ⟨t2, go t2 ?_, b1⟩
  have : (r.map (xv g)).toList ++ rest.map (xv g) = (r.toList ++ rest).map (xv g) := by cases r <;> simp
  rw [this]
  exact a1
/-- what a call of y needs of the tables: its link (own or a nest mate's), its code -/
def xMl (own : String) (idx : Nat) (y : MethodName) (cc : ByteArray) (maxL : Nat) (ret : Option FieldType) (n : Nat) : Prop :=
  (Cond.methodLink own idx y ∈ xGT ∨ ∃ host, Cond.methodLinkNest own idx y host ∈ xNT) ∧ Cond.code y cc maxL ret ∈ xGT ∧ Cond.initialized y.cls ∈ xGT ∧ (y.cls ≠ "java/lang/invoke/MethodHandle" ∧ y.cls ≠ "java/lang/invoke/VarHandle" ∧ (parseMethodDescriptor y.desc).map (fun d => d.parameters.length) = some n)
theorem xGood {y : MethodName} {cc : ByteArray} {maxL : Nat} {ret : Option FieldType} (h : Cond.code y cc maxL ret ∈ xGT) : GoodIn xGT (xWs y cc maxL ret) := by
  intro w hw
  rcases List.mem_cons.mp hw with h1 | h1
  · subst h1; exact ⟨h, xGT_good _ h⟩
  · exact ⟨h1, xGT_good _ h1⟩
theorem xPc_at (C : Cx p s m args meth c cc nL own g) {H : Heap} {locs : List Loc} {x : Nat} {As : List Value} (h1 : S.length ≤ xKK) (h2 : va_P g.2.2.2 xCl (xw g F G S) H) (h3 : va_S (xA g) s.heap H locs) (hz : x = 0 → s.heap.size + cells = g.1 + S.length) (hle : H.size ≤ s.heap.size + cells) (U : State) (hU : U.heap = H) (hW : s.WarmedH U.vm) : xPc g S F G x As (As.map (xv g)).toArray U := by
  have hge : g.1 + S.length ≤ H.size := xw_size h2 (Nat.le_trans C.hz h3.1)
  exact ⟨rfl, fun q => by rw [hU]; have := hz q; omega, by rw [hU]; exact Nat.le_trans C.hz h3.1, by rw [hU]; exact h2, h1, C.kk.warm hW (fun q hq => by rw [hU]; exact h3.low C.hz q hq)⟩
/-- an instance method of an object of its own class -/
theorem V.cV (C : Cx p s m args meth c cc nL own g) {d lc mc ms idx maxL n ci a x : Nat} {y : MethodName} {bytes : ByteArray} {ret : Option FieldType} {As rest : List Value} {r : Option Value} {S2 : List xO} {F2 : xF} {G2 : xL} {fs : List (Option Value)} {T : u_T} {N : Nat}
    (hM : CT l g d lc mc ms y bytes maxL ret x (.ref a :: As) S F G r S2 F2 G2) (hm : xMl own idx y bytes maxL ret n) (hv : Cond.instanceMethod y ∈ xGT ∧ Cond.selects y.cls y y ∈ xGT) (hS : S[a]? = some (.inr (.inr (ci, fs)))) (hc : xCl[ci]? = some (y.cls, T, N)) (hn : As.length = n) (hst : st = As.reverse ++ .ref a :: rest) (hz : x = 0 → s.heap.size + cells = g.1 + S.length)
    (hR : d + 1 ≤ R.frames ∧ 8 + (maxL + 11) + lc ≤ R.locals ∧ cells + mc ≤ R.cells ∧ slots + ms ≤ R.slots) (hcat : (rest.map fun v => v.category).sum ≤ 8) (hd : decode cc pc = .ok (.invokevirtual idx, 3))
    (kk : V p l e R s m args below meth c Q nL g S2 F2 G2 (cells + mc) (slots + ms) (pc + 3) lv (r.toList ++ rest)) : V p l e R s m args below meth c Q nL g S F G cells slots pc lv st := by
  obtain ⟨hlink, hcode, hini, hy⟩ := hm
  refine V.ofRun (a := ((Value.ref a :: As).map (xv g)).toArray) C (fun H locs ls h1 h2 h3 h4 hle => ?_) kk
  have hrm : 2 * (F0 m pc ls (st.map (xv g))).monitorRoom + ((rest.map (xv g)).map fun v => v.category).sum ≤ 8 := lv_room (by rw [xcatS]; exact hcat)
  have hpre : PreV s H y.cls (g.1 + a) (xPc g S F G x (.ref a :: As)) (As.map (xv g)) := ⟨xPc_blind, va_recv (q := (y.cls, T, N)) C.k h2 hc (xw_some hS), fun U hU hW => xPc_at (As := .ref a :: As) C h1 h2 h3 hz hle U hU hW⟩
  have hst2 : (F0 m pc ls (st.map (xv g))).stack = (As.map (xv g)).reverse ++ .ref (g.1 + a) :: rest.map (xv g) := by
    rw [hst]; simp [xv]
  rcases hlink with hlink | ⟨host, hlink⟩
  · exact va_runV ⟨C.x, C.b, C.ml, C.ow, C.ts⟩ hM ⟨callB_of n C.ts (xGood hcode) rfl rfl rfl (C.ts _ hini) (C.ts _ hlink) hy ⟨hR.1, hR.2.1⟩, C.ts _ hv.1, C.ts _ hv.2⟩ hpre rfl (by rw [List.length_map]; exact hn) h4.1 hst2 hrm hd ⟨hR.2.2.1, hR.2.2.2⟩
  · exact va_runVN ⟨C.x, C.b, C.ml, C.ow, C.ts⟩ hM ⟨va_cnB n C.ts (xGood hcode) rfl rfl rfl (C.nw _ hlink) (C.ts _ hini) hy ⟨hR.1, hR.2.1⟩, C.ts _ hv.1, C.ts _ hv.2⟩ hpre rfl (by rw [List.length_map]; exact hn) h4.1 hst2 hrm hd ⟨hR.2.2.1, hR.2.2.2⟩
/-- a static method -/
theorem V.cS (C : Cx p s m args meth c cc nL own g) {d lc mc ms idx maxL n x : Nat} {y : MethodName} {bytes : ByteArray} {ret : Option FieldType} {As rest : List Value} {r : Option Value} {S2 : List xO} {F2 : xF} {G2 : xL}
    (hM : CT l g d lc mc ms y bytes maxL ret x As S F G r S2 F2 G2) (hm : xMl own idx y bytes maxL ret n) (hv : Cond.static y ∈ xGT) (hn : As.length = n) (hst : st = As.reverse ++ rest) (hz : x = 0 → s.heap.size + cells = g.1 + S.length)
    (hR : d + 1 ≤ R.frames ∧ 8 + (maxL + 11) + lc ≤ R.locals ∧ cells + mc ≤ R.cells ∧ slots + ms ≤ R.slots) (hcat : (rest.map fun v => v.category).sum ≤ 8) (hd : decode cc pc = .ok (.invokestatic idx, 3))
    (kk : V p l e R s m args below meth c Q nL g S2 F2 G2 (cells + mc) (slots + ms) (pc + 3) lv (r.toList ++ rest)) : V p l e R s m args below meth c Q nL g S F G cells slots pc lv st := by
  obtain ⟨hlink, hcode, hini, hy⟩ := hm
  refine V.ofRun (a := (As.map (xv g)).toArray) C (fun H locs ls h1 h2 h3 h4 hle => ?_) kk
  have hrm : 2 * (F0 m pc ls (st.map (xv g))).monitorRoom + ((rest.map (xv g)).map fun v => v.category).sum ≤ 8 := lv_room (by rw [xcatS]; exact hcat)
  have hpre : PreS s H (xPc g S F G x As) (As.map (xv g)) := ⟨xPc_blind, fun U hU hW => xPc_at (As := As) C h1 h2 h3 hz hle U hU hW⟩
  have hst2 : (F0 m pc ls (st.map (xv g))).stack = (As.map (xv g)).reverse ++ rest.map (xv g) := by
    rw [hst]; simp
  rcases hlink with hlink | ⟨host, hlink⟩
  · exact va_runS ⟨C.x, C.b, C.ml, C.ow, C.ts⟩ hM ⟨callB_of n C.ts (xGood hcode) rfl rfl rfl (C.ts _ hini) (C.ts _ hlink) hy ⟨hR.1, hR.2.1⟩, C.ts _ hv⟩ hpre rfl (by rw [List.length_map]; exact hn) h4.1 hst2 hrm hd ⟨hR.2.2.1, hR.2.2.2⟩
  · exact va_runSN ⟨C.x, C.b, C.ml, C.ow, C.ts⟩ hM ⟨va_cnB n C.ts (xGood hcode) rfl rfl rfl (C.nw _ hlink) (C.ts _ hini) hy ⟨hR.1, hR.2.1⟩, C.ts _ hv, trivial⟩ hpre rfl (by rw [List.length_map]; exact hn) h4.1 hst2 hrm hd ⟨hR.2.2.1, hR.2.2.2⟩
/-- a constructor -/
theorem V.cI (C : Cx p s m args meth c cc nL own g) {d lc mc ms idx maxL n a x : Nat} {y : MethodName} {bytes : ByteArray} {As rest : List Value} {S2 : List xO} {F2 : xF} {G2 : xL}
    (hM : CT l g d lc mc ms y bytes maxL none x (.ref a :: As) S F G none S2 F2 G2) (hm : xMl own idx y bytes maxL none n) (hv : Cond.instanceMethod y ∈ xGT) (hy1 : y.name = "<init>") (hn : As.length = n) (hst : st = As.reverse ++ .ref a :: rest) (hz : x = 0 → s.heap.size + cells = g.1 + S.length)
    (hR : d + 1 ≤ R.frames ∧ 8 + (maxL + 11) + lc ≤ R.locals ∧ cells + mc ≤ R.cells ∧ slots + ms ≤ R.slots) (hcat : (rest.map fun v => v.category).sum ≤ 8) (hd : decode cc pc = .ok (.invokespecial idx, 3))
    (kk : V p l e R s m args below meth c Q nL g S2 F2 G2 (cells + mc) (slots + ms) (pc + 3) lv rest) : V p l e R s m args below meth c Q nL g S F G cells slots pc lv st := by
  obtain ⟨hlink, hcode, hini, hy⟩ := hm
  refine V.ofRun (a := ((Value.ref a :: As).map (xv g)).toArray) (r := none) C (fun H locs ls h1 h2 h3 h4 hle => ?_) kk
  have hrm : 2 * (F0 m pc ls (st.map (xv g))).monitorRoom + ((rest.map (xv g)).map fun v => v.category).sum ≤ 8 := lv_room (by rw [xcatS]; exact hcat)
  have hpre : PreS s H (xPc g S F G x (.ref a :: As)) (.ref (g.1 + a) :: As.map (xv g)) := ⟨xPc_blind, fun U hU hW => xPc_at (As := .ref a :: As) C h1 h2 h3 hz hle U hU hW⟩
  have hst2 : (F0 m pc ls (st.map (xv g))).stack = (As.map (xv g)).reverse ++ .ref (g.1 + a) :: rest.map (xv g) := by
    rw [hst]; simp [xv]
  rcases hlink with hlink | ⟨host, hlink⟩
  · exact va_runI ⟨C.x, C.b, C.ml, C.ow, C.ts⟩ hM ⟨callB_of n C.ts (xGood hcode) rfl rfl rfl (C.ts _ hini) (C.ts _ hlink) hy ⟨hR.1, hR.2.1⟩, hy1, C.ts _ hv⟩ hpre rfl (by rw [List.length_map]; exact hn) h4.1 hst2 hrm hd ⟨hR.2.2.1, hR.2.2.2⟩
  · exact va_runIN ⟨C.x, C.b, C.ml, C.ow, C.ts⟩ hM ⟨va_cnB n C.ts (xGood hcode) rfl rfl rfl (C.nw _ hlink) (C.ts _ hini) hy ⟨hR.1, hR.2.1⟩, hy1, C.ts _ hv⟩ hpre rfl (by rw [List.length_map]; exact hn) h4.1 hst2 hrm hd ⟨hR.2.2.1, hR.2.2.2⟩
end XV2
