/-! the operations of the pure functions, and their rows: what fails (a wrong index, another class) is none -/
def gI (S : List xO) (ci a k : Nat) (F : xF) : Option Int32 := match S[a]? with
  | some (.inr (.inr (c, fs))) => if c = ci then (match fs[k]? with
    | some none => some (F a k)
    | _ => none) else none
  | _ => none
def gR (S : List xO) (ci a k : Nat) : Option Nat := match S[a]? with
  | some (.inr (.inr (c, fs))) => if c = ci then (match fs[k]? with
    | some (some (.ref q)) => some q
    | _ => none) else none
  | _ => none
def pI (S : List xO) (ci a k : Nat) (v : Int32) (F : xF) : Option xF := match S[a]? with
  | some (.inr (.inr (c, fs))) => if c = ci then (match fs[k]? with
    | some none => some (up2 F a k v)
    | _ => none) else none
  | _ => none
def aG (S : List xO) (a : Nat) (j : Int32) (F : xF) : Option Int32 := match S[a]? with
  | some (.inl (0, n)) => if 0 ≤ j.toInt ∧ j.toInt < n then some (F a j.toNatClampNeg) else none
  | _ => none
def aP (S : List xO) (a : Nat) (j v : Int32) (F : xF) : Option xF := match S[a]? with
  | some (.inl (0, n)) => if 0 ≤ j.toInt ∧ j.toInt < n then some (up2 F a j.toNatClampNeg v) else none
  | _ => none
def bG (S : List xO) (a : Nat) (j : Int32) (F : xF) : Option Int32 := match S[a]? with
  | some (.inl (3, n)) => if 0 ≤ j.toInt ∧ j.toInt < n then some (F a j.toNatClampNeg) else none
  | _ => none
def bP (S : List xO) (a : Nat) (j v : Int32) (F : xF) : Option xF := match S[a]? with
  | some (.inl (3, n)) => if 0 ≤ j.toInt ∧ j.toInt < n then some (up2 F a j.toNatClampNeg (vp_nar .byte v)) else none
  | _ => none
def aN (S : List xO) (a : Nat) : Option Int32 := match S[a]? with
  | some (.inl (0, n)) => some (nI n)
  | _ => none
def rG (S : List xO) (a : Nat) (j : Int32) : Option Nat := match S[a]? with
  | some (.inr (.inl (t, rs))) => if t = 2 ∧ 0 ≤ j.toInt ∧ j.toInt < rs.length then rs.getD j.toNatClampNeg none else none
  | _ => none
def aC (S : List xO) (a : Nat) (sp dp n : Int32) (F : xF) : Option xF := match S[a]? with
  | some (.inl (0, n0)) => if 0 ≤ sp.toInt ∧ 0 ≤ dp.toInt ∧ 0 ≤ n.toInt ∧ sp.toInt + n.toInt ≤ n0 ∧ dp.toInt + n.toInt ≤ n0 then some (upR F a (va_cpy (F a) (F a) sp.toNatClampNeg dp.toNatClampNeg n.toNatClampNeg)) else none
  | _ => none
def xcl {α : Type} (S : List xO) (ci a : Nat) (o : Option α) : Option α := match S[a]? with
  | some (.inr (.inr (c, _))) => if c = ci then o else none
  | _ => none
section XOP
variable {S : List xO} {F F1 : xF} {ci a k : Nat} {v j : Int32}
theorem gI_spec (h : gI S ci a k F = some v) : ∃ fs, S[a]? = some (.inr (.inr (ci, fs))) ∧ fs[k]? = some none ∧ F a k = v := by
  unfold gI at h
  split at h
  · split at h
    · rename_i c fs hS hc
      subst hc
      split at h
      · rename_i hf
        exact ⟨fs, hS, hf, Option.some.inj h⟩
      · cases h
    · cases h
  · cases h
theorem gI_of {fs : List (Option Value)} (hS : S[a]? = some (.inr (.inr (ci, fs)))) (hf : fs[k]? = some none) : gI S ci a k F = some (F a k) := by
  unfold gI; rw [hS]; simp [hf]
theorem gR_spec {q : Nat} (h : gR S ci a k = some q) : ∃ fs, S[a]? = some (.inr (.inr (ci, fs))) ∧ fs[k]? = some (some (.ref q)) := by
  unfold gR at h
  split at h
  · split at h
    · rename_i c fs hS hc
      subst hc
      split at h
      · rename_i q2 hf
        cases h
        exact ⟨fs, hS, hf⟩
      · cases h
    · cases h
  · cases h
theorem gR_of {q : Nat} {fs : List (Option Value)} (hS : S[a]? = some (.inr (.inr (ci, fs)))) (hf : fs[k]? = some (some (.ref q))) : gR S ci a k = some q := by
  unfold gR; rw [hS]; simp [hf]
theorem pI_spec (h : pI S ci a k v F = some F1) : ∃ fs, S[a]? = some (.inr (.inr (ci, fs))) ∧ fs[k]? = some none ∧ up2 F a k v = F1 := by
  unfold pI at h
  split at h
  · split at h
    · rename_i c fs hS hc
      subst hc
      split at h
      · rename_i hf
        exact ⟨fs, hS, hf, Option.some.inj h⟩
      · cases h
    · cases h
  · cases h
theorem pI_of {fs : List (Option Value)} (hS : S[a]? = some (.inr (.inr (ci, fs)))) (hf : fs[k]? = some none) : pI S ci a k v F = some (up2 F a k v) := by
  unfold pI; rw [hS]; simp [hf]
theorem aG_spec (h : aG S a j F = some v) : ∃ n, S[a]? = some (.inl (0, n)) ∧ vp_in j n ∧ F a j.toNatClampNeg = v := by
  unfold aG at h
  split at h
  · rename_i n hS
    split at h
    · rename_i hj
      exact ⟨n, hS, vp_in_iff.mpr hj, Option.some.inj h⟩
    · cases h
  · cases h
theorem aG_of {n : Nat} (hS : S[a]? = some (.inl (0, n))) (hj : 0 ≤ j.toInt ∧ j.toInt < n) : aG S a j F = some (F a j.toNatClampNeg) := by
  unfold aG; rw [hS]; simp [hj]
theorem aP_spec (h : aP S a j v F = some F1) : ∃ n, S[a]? = some (.inl (0, n)) ∧ vp_in j n ∧ up2 F a j.toNatClampNeg v = F1 := by
  unfold aP at h
  split at h
  · rename_i n hS
    split at h
    · rename_i hj
      exact ⟨n, hS, vp_in_iff.mpr hj, Option.some.inj h⟩
    · cases h
  · cases h
theorem aP_of {n : Nat} (hS : S[a]? = some (.inl (0, n))) (hj : 0 ≤ j.toInt ∧ j.toInt < n) : aP S a j v F = some (up2 F a j.toNatClampNeg v) := by
  unfold aP; rw [hS]; simp [hj]
theorem bG_spec (h : bG S a j F = some v) : ∃ n, S[a]? = some (.inl (3, n)) ∧ vp_in j n ∧ F a j.toNatClampNeg = v := by
  unfold bG at h
  split at h
  · rename_i n hS
    split at h
    · rename_i hj
      exact ⟨n, hS, vp_in_iff.mpr hj, Option.some.inj h⟩
    · cases h
  · cases h
theorem bG_of {n : Nat} (hS : S[a]? = some (.inl (3, n))) (hj : 0 ≤ j.toInt ∧ j.toInt < n) : bG S a j F = some (F a j.toNatClampNeg) := by
  unfold bG; rw [hS]; simp [hj]
theorem bP_spec (h : bP S a j v F = some F1) : ∃ n, S[a]? = some (.inl (3, n)) ∧ vp_in j n ∧ up2 F a j.toNatClampNeg (vp_nar .byte v) = F1 := by
  unfold bP at h
  split at h
  · rename_i n hS
    split at h
    · rename_i hj
      exact ⟨n, hS, vp_in_iff.mpr hj, Option.some.inj h⟩
    · cases h
  · cases h
theorem bP_of {n : Nat} (hS : S[a]? = some (.inl (3, n))) (hj : 0 ≤ j.toInt ∧ j.toInt < n) : bP S a j v F = some (up2 F a j.toNatClampNeg (vp_nar .byte v)) := by
  unfold bP; rw [hS]; simp [hj]
theorem aN_spec (h : aN S a = some v) : ∃ n, S[a]? = some (.inl (0, n)) ∧ nI n = v := by
  unfold aN at h
  split at h
  · rename_i n hS
    exact ⟨n, hS, Option.some.inj h⟩
  · cases h
theorem aN_of {n : Nat} (hS : S[a]? = some (.inl (0, n))) : aN S a = some (nI n) := by
  simp [aN, hS]
theorem rG_spec {q : Nat} (h : rG S a j = some q) : ∃ rs : List (Option Nat), S[a]? = some (.inr (.inl (2, rs))) ∧ vp_in j rs.length ∧ rs.getD j.toNatClampNeg none = some q := by
  unfold rG at h
  split at h
  · rename_i t rs hS
    split at h
    · rename_i hj
      obtain ⟨h1, h2⟩ := hj
      subst h1
      exact ⟨rs, hS, vp_in_iff.mpr h2, h⟩
    · cases h
  · cases h
theorem xcl_spec {α : Type} {o : Option α} {x : α} (h : xcl S ci a o = some x) : (∃ fs, S[a]? = some (.inr (.inr (ci, fs)))) ∧ o = some x := by
  unfold xcl at h
  split at h
  · rename_i c fs hS
    split at h
    · rename_i hc
      subst hc
      exact ⟨⟨fs, hS⟩, h⟩
    · cases h
  · cases h
theorem xcl_of {α : Type} {o : Option α} {fs : List (Option Value)} (hS : S[a]? = some (.inr (.inr (ci, fs)))) : xcl S ci a o = o := by
  unfold xcl; rw [hS]; simp
theorem aC_spec {sp dp n : Int32} (h : aC S a sp dp n F = some F1) : ∃ n0, S[a]? = some (.inl (0, n0)) ∧ ¬ sp < 0 ∧ ¬ dp < 0 ∧ ¬ n < 0 ∧ sp.toNatClampNeg + n.toNatClampNeg ≤ n0 ∧ dp.toNatClampNeg + n.toNatClampNeg ≤ n0 ∧ upR F a (va_cpy (F a) (F a) sp.toNatClampNeg dp.toNatClampNeg n.toNatClampNeg) = F1 := by
  unfold aC at h
  split at h
  · rename_i n0 hS
    split at h
    · rename_i hj
      obtain ⟨h1, h2, h3, h4, h5⟩ := hj
      refine ⟨n0, hS, ?_, ?_, ?_, ?_, ?_, Option.some.inj h⟩
      · rw [Int32.lt_iff_toInt_lt, Int32.toInt_zero]; omega
      · rw [Int32.lt_iff_toInt_lt, Int32.toInt_zero]; omega
      · rw [Int32.lt_iff_toInt_lt, Int32.toInt_zero]; omega
      · show sp.toInt.toNat + n.toInt.toNat ≤ n0; omega
      · show dp.toInt.toNat + n.toInt.toNat ≤ n0; omega
    · cases h
  · cases h
end XOP
def xsub : List (Option Value) → List (Option Value) → Prop
  | [], _ => True
  | none :: r2, [] => xsub r2 []
  | none :: r2, _ :: r => xsub r2 r
  | some _ :: _, [] => False
  | some v :: r2, o :: r => o = some v ∧ xsub r2 r
theorem xsub_spec : ∀ {lv2 lv : List (Option Value)}, xsub lv2 lv → ∀ (k : Nat) (v : Value), xlg lv2 k = some v → xlg lv k = some v
  | [], _, _, k, v, h => by simp [xlg] at h
  | none :: r2, [], hs, 0, v, h => by simp [xlg] at h
  | none :: r2, [], hs, k + 1, v, h => by
    have := xsub_spec (lv2 := r2) (lv := []) hs k v h
    simp [xlg] at this
  | none :: r2, o :: r, hs, 0, v, h => by simp [xlg] at h
  | none :: r2, o :: r, hs, k + 1, v, h => xsub_spec (lv2 := r2) (lv := r) hs k v h
  | some w :: r2, [], hs, k, v, h => by cases hs
  | some w :: r2, o :: r, hs, 0, v, h => by
    obtain ⟨h1, -⟩ := hs
    have h2 : w = v := by simpa [xlg] using h
    rw [← h2]
    exact h1
  | some w :: r2, o :: r, hs, k + 1, v, h => xsub_spec (lv2 := r2) (lv := r) hs.2 k v h
section XV3
variable {p : Program} {l : Launch} {e : Env} {R : Room} {s : State} {m : MethodId} {args : Array Value} {below : List Frame} {meth : Method} {c : Code} {Q : State → Prop}
variable {cc : ByteArray} {nL : Nat} {own : String} {g : xG} {S : List xO} {F F1 : xF} {G : xL} {cells slots pc : Nat} {lv : List (Option Value)} {st : List Value} {idx ci a k : Nat} {v j : Int32}
theorem V.xgetI (C : Cx p s m args meth c cc nL own g) (hl : xFl own idx ci k) (h : gI S ci a k F = some v) (hd : decode cc pc = .ok (.getfield idx, 3)) (kk : V p l e R s m args below meth c Q nL g S F G cells slots (pc + 3) lv (.int v :: st)) : V p l e R s m args below meth c Q nL g S F G cells slots pc lv (.ref a :: st) := by
  obtain ⟨fs, h1, h2, h3⟩ := gI_spec h
  subst h3
  exact V.getI C hl h1 h2 hd kk
theorem V.xgetR (C : Cx p s m args meth c cc nL own g) {q : Nat} (hl : xFl own idx ci k) (h : gR S ci a k = some q) (hd : decode cc pc = .ok (.getfield idx, 3)) (kk : V p l e R s m args below meth c Q nL g S F G cells slots (pc + 3) lv (.ref q :: st)) : V p l e R s m args below meth c Q nL g S F G cells slots pc lv (.ref a :: st) := by
  obtain ⟨fs, h1, h2⟩ := gR_spec h
  exact V.getR C hl h1 h2 hd kk
theorem V.xputI (C : Cx p s m args meth c cc nL own g) (hl : xFl own idx ci k) (ht : xFt ci) (hI : xFI ci k) (h : pI S ci a k v F = some F1) (hd : decode cc pc = .ok (.putfield idx, 3)) (kk : V p l e R s m args below meth c Q nL g S F1 G cells slots (pc + 3) lv st) : V p l e R s m args below meth c Q nL g S F G cells slots pc lv (.int v :: .ref a :: st) := by
  obtain ⟨fs, h1, h2, h3⟩ := pI_spec h
  subst h3
  exact V.putI C hl ht hI h1 h2 hd kk
theorem V.xiald (C : Cx p s m args meth c cc nL own g) (h : aG S a j F = some v) (hd : decode cc pc = .ok (.iaload, 1)) (kk : V p l e R s m args below meth c Q nL g S F G cells slots (pc + 1) lv (.int v :: st)) : V p l e R s m args below meth c Q nL g S F G cells slots pc lv (.int j :: .ref a :: st) := by
  obtain ⟨n, h1, h2, h3⟩ := aG_spec h
  subst h3
  exact V.iald C h1 h2 hd kk
theorem V.xiast (C : Cx p s m args meth c cc nL own g) (h : aP S a j v F = some F1) (hd : decode cc pc = .ok (.iastore, 1)) (kk : V p l e R s m args below meth c Q nL g S F1 G cells slots (pc + 1) lv st) : V p l e R s m args below meth c Q nL g S F G cells slots pc lv (.int v :: .int j :: .ref a :: st) := by
  obtain ⟨n, h1, h2, h3⟩ := aP_spec h
  subst h3
  exact V.iast C h1 h2 hd kk
theorem V.xbald (C : Cx p s m args meth c cc nL own g) (h : bG S a j F = some v) (hd : decode cc pc = .ok (.baload, 1)) (kk : V p l e R s m args below meth c Q nL g S F G cells slots (pc + 1) lv (.int v :: st)) : V p l e R s m args below meth c Q nL g S F G cells slots pc lv (.int j :: .ref a :: st) := by
  obtain ⟨n, h1, h2, h3⟩ := bG_spec h
  subst h3
  exact V.bald C h1 h2 hd kk
theorem V.xbast (C : Cx p s m args meth c cc nL own g) (h : bP S a j v F = some F1) (hd : decode cc pc = .ok (.bastore, 1)) (kk : V p l e R s m args below meth c Q nL g S F1 G cells slots (pc + 1) lv st) : V p l e R s m args below meth c Q nL g S F G cells slots pc lv (.int v :: .int j :: .ref a :: st) := by
  obtain ⟨n, h1, h2, h3⟩ := bP_spec h
  subst h3
  exact V.bast C h1 h2 hd kk
theorem V.xalen (C : Cx p s m args meth c cc nL own g) (h : aN S a = some v) (hd : decode cc pc = .ok (.arraylength, 1)) (kk : V p l e R s m args below meth c Q nL g S F G cells slots (pc + 1) lv (.int v :: st)) : V p l e R s m args below meth c Q nL g S F G cells slots pc lv (.ref a :: st) := by
  obtain ⟨n, h1, h2⟩ := aN_spec h
  subst h2
  exact V.alen C h1 hd kk
theorem V.xaald (C : Cx p s m args meth c cc nL own g) {q : Nat} (h : rG S a j = some q) (hd : decode cc pc = .ok (.aaload, 1)) (kk : V p l e R s m args below meth c Q nL g S F G cells slots (pc + 1) lv (.ref q :: st)) : V p l e R s m args below meth c Q nL g S F G cells slots pc lv (.int j :: .ref a :: st) := by
  obtain ⟨rs, h1, h2, h3⟩ := rG_spec h
  exact V.aald C h1 (xTy2 g) h2 h3 hd kk
theorem V.xcopy (C : Cx p s m args meth c cc nL own g) {sp dp n : Int32} (hw : Cond.methodLink own idx arraycopyName ∈ xGT ∧ Cond.native arraycopyName ∈ xGT ∧ Cond.static arraycopyName ∈ xGT ∧ Cond.initialized "java/lang/System" ∈ xGT) (h : aC S a sp dp n F = some F1) (hR : 1 ≤ R.frames ∧ (st.map fun v => v.category).sum + (nativeFrameWords "java/lang/System" "arraycopy" 5 + 11) ≤ R.locals) (hd : decode cc pc = .ok (.invokestatic idx, 3)) (kk : V p l e R s m args below meth c Q nL g S F1 G cells slots (pc + 3) lv st) : V p l e R s m args below meth c Q nL g S F G cells slots pc lv (.int n :: .int dp :: .ref a :: .int sp :: .ref a :: st) := by
  obtain ⟨n0, h1, h2, h3, h4, h5, h6, h7⟩ := aC_spec h
  subst h7
  exact V.copy C hw h1 h2 h3 h4 h5 h6 hR hd kk
/-- calls, with the answer on the stack, and without -/
def xCv (own : String) (idx : Nat) (y : MethodName) (cc : ByteArray) (maxL : Nat) (ret : Option FieldType) (n ci : Nat) : Prop := xMl own idx y cc maxL ret n ∧ (Cond.instanceMethod y ∈ xGT ∧ Cond.selects y.cls y y ∈ xGT) ∧ ∃ (T : u_T) (N : Nat), xCl[ci]? = some (y.cls, T, N)
def xCs (own : String) (idx : Nat) (y : MethodName) (cc : ByteArray) (maxL : Nat) (ret : Option FieldType) (n : Nat) : Prop := xMl own idx y cc maxL ret n ∧ Cond.static y ∈ xGT
variable {d lc maxL n : Nat} {y : MethodName} {bytes : ByteArray} {ret : Option FieldType} {As rest : List Value} {r : Value} {F2 : xF} {fs : List (Option Value)}
theorem V.cVr (C : Cx p s m args meth c cc nL own g) (hM : CT l g d lc 0 0 y bytes maxL ret 1 (.ref a :: As) S F G (some r) S F2 G) (hm : xCv own idx y bytes maxL ret n ci) (hS : S[a]? = some (.inr (.inr (ci, fs)))) (hn : As.length = n) (hst : st = As.reverse ++ .ref a :: rest) (hR : d + 1 ≤ R.frames ∧ 8 + (maxL + 11) + lc ≤ R.locals ∧ cells + 0 ≤ R.cells ∧ slots + 0 ≤ R.slots) (hcat : (rest.map fun v => v.category).sum ≤ 8) (hd : decode cc pc = .ok (.invokevirtual idx, 3))
    (kk : V p l e R s m args below meth c Q nL g S F2 G cells slots (pc + 3) lv (r :: rest)) : V p l e R s m args below meth c Q nL g S F G cells slots pc lv st := by
  obtain ⟨h1, h2, T, N, h3⟩ := hm
  exact V.cV C hM h1 h2 hS h3 hn hst (fun q => absurd q (by decide)) hR hcat hd kk
theorem V.cVv (C : Cx p s m args meth c cc nL own g) (hM : CT l g d lc 0 0 y bytes maxL ret 1 (.ref a :: As) S F G none S F2 G) (hm : xCv own idx y bytes maxL ret n ci) (hS : S[a]? = some (.inr (.inr (ci, fs)))) (hn : As.length = n) (hst : st = As.reverse ++ .ref a :: rest) (hR : d + 1 ≤ R.frames ∧ 8 + (maxL + 11) + lc ≤ R.locals ∧ cells + 0 ≤ R.cells ∧ slots + 0 ≤ R.slots) (hcat : (rest.map fun v => v.category).sum ≤ 8) (hd : decode cc pc = .ok (.invokevirtual idx, 3))
    (kk : V p l e R s m args below meth c Q nL g S F2 G cells slots (pc + 3) lv rest) : V p l e R s m args below meth c Q nL g S F G cells slots pc lv st := by
  obtain ⟨h1, h2, T, N, h3⟩ := hm
  exact V.cV C hM h1 h2 hS h3 hn hst (fun q => absurd q (by decide)) hR hcat hd kk
theorem V.cSr (C : Cx p s m args meth c cc nL own g) (hM : CT l g d lc 0 0 y bytes maxL ret 1 As S F G (some r) S F2 G) (hm : xCs own idx y bytes maxL ret n) (hn : As.length = n) (hst : st = As.reverse ++ rest) (hR : d + 1 ≤ R.frames ∧ 8 + (maxL + 11) + lc ≤ R.locals ∧ cells + 0 ≤ R.cells ∧ slots + 0 ≤ R.slots) (hcat : (rest.map fun v => v.category).sum ≤ 8) (hd : decode cc pc = .ok (.invokestatic idx, 3))
    (kk : V p l e R s m args below meth c Q nL g S F2 G cells slots (pc + 3) lv (r :: rest)) : V p l e R s m args below meth c Q nL g S F G cells slots pc lv st := V.cS C hM hm.1 hm.2 hn hst (fun q => absurd q (by decide)) hR hcat hd kk
theorem V.cSv (C : Cx p s m args meth c cc nL own g) (hM : CT l g d lc 0 0 y bytes maxL ret 1 As S F G none S F2 G) (hm : xCs own idx y bytes maxL ret n) (hn : As.length = n) (hst : st = As.reverse ++ rest) (hR : d + 1 ≤ R.frames ∧ 8 + (maxL + 11) + lc ≤ R.locals ∧ cells + 0 ≤ R.cells ∧ slots + 0 ≤ R.slots) (hcat : (rest.map fun v => v.category).sum ≤ 8) (hd : decode cc pc = .ok (.invokestatic idx, 3))
    (kk : V p l e R s m args below meth c Q nL g S F2 G cells slots (pc + 3) lv rest) : V p l e R s m args below meth c Q nL g S F G cells slots pc lv st := V.cS C hM hm.1 hm.2 hn hst (fun q => absurd q (by decide)) hR hcat hd kk
end XV3
