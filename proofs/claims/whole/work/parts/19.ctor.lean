/-! making: the shapes grow -/
def nO (S : List xO) (ci : Nat) (fs : List (Option Value)) (F : xF) : Option (List xO × xF × Nat) := if S.length + 1 ≤ xKK then some (S ++ [.inr (.inr (ci, fs))], upR F S.length (fun _ => 0), S.length) else none
def nA (S : List xO) (t lim : Nat) (n : Int32) (F : xF) : Option (List xO × xF × Nat) := if S.length + 1 ≤ xKK ∧ 0 ≤ n.toInt ∧ n.toInt ≤ lim then some (S ++ [.inl (t, n.toNatClampNeg)], upR F S.length (fun _ => 0), S.length) else none
def nQ (S : List xO) (lim : Nat) (n : Int32) : Option (List xO × Nat) := if S.length + 1 ≤ xKK ∧ 0 ≤ n.toInt ∧ n.toInt ≤ lim then some (S ++ [.inr (.inl (2, List.replicate n.toNatClampNeg none))], S.length) else none
def pR (S : List xO) (ci a k q : Nat) : Option (List xO) := match S[a]? with
  | some (.inr (.inr (c, fs))) => if c = ci ∧ k < fs.length then some (S.set a (.inr (.inr (ci, fs.set k (some (.ref q)))))) else none
  | _ => none
def rP (S : List xO) (a : Nat) (j : Int32) (ci q : Nat) : Option (List xO) := match S[a]? with
  | some (.inr (.inl (t, rs))) => if t = 2 ∧ 0 ≤ j.toInt ∧ j.toInt < rs.length then xcl S ci q (some (S.set a (.inr (.inl (2, rs.set j.toNatClampNeg (some q)))))) else none
  | _ => none
section XCT
variable {p : Program} {l : Launch} {e : Env} {R : Room} {s : State} {m : MethodId} {args : Array Value} {below : List Frame} {meth : Method} {c : Code} {Q : State → Prop}
variable {cc : ByteArray} {nL : Nat} {own : String} {g : xG} {S S1 : List xO} {F F1 : xF} {G : xL} {cells slots pc : Nat} {lv : List (Option Value)} {st : List Value} {idx ci a k q : Nat}
theorem nO_spec {fs : List (Option Value)} (h : nO S ci fs F = some (S1, F1, q)) : S.length + 1 ≤ xKK ∧ S1 = S ++ [.inr (.inr (ci, fs))] ∧ F1 = upR F S.length (fun _ => 0) ∧ q = S.length := by
  unfold nO at h
  split at h
  · rename_i h1
    simp only [Option.some.injEq, Prod.mk.injEq] at h
    exact ⟨h1, h.1.symm, h.2.1.symm, h.2.2.symm⟩
  · cases h
theorem nO_len {fs : List (Option Value)} (h : nO S ci fs F = some (S1, F1, q)) : S1.length = S.length + 1 := by
  rw [(nO_spec h).2.1]; simp
theorem nA_spec {t lim : Nat} {n : Int32} (h : nA S t lim n F = some (S1, F1, q)) : (S.length + 1 ≤ xKK ∧ 0 ≤ n.toInt ∧ n.toInt ≤ lim) ∧ S1 = S ++ [.inl (t, n.toNatClampNeg)] ∧ F1 = upR F S.length (fun _ => 0) ∧ q = S.length := by
  unfold nA at h
  split at h
  · rename_i h1
    simp only [Option.some.injEq, Prod.mk.injEq] at h
    exact ⟨h1, h.1.symm, h.2.1.symm, h.2.2.symm⟩
  · cases h
theorem nA_len {t lim : Nat} {n : Int32} (h : nA S t lim n F = some (S1, F1, q)) : S1.length = S.length + 1 := by
  rw [(nA_spec h).2.1]; simp
theorem nQ_spec {lim : Nat} {n : Int32} (h : nQ S lim n = some (S1, q)) : (S.length + 1 ≤ xKK ∧ 0 ≤ n.toInt ∧ n.toInt ≤ lim) ∧ S1 = S ++ [.inr (.inl (2, List.replicate n.toNatClampNeg none))] ∧ q = S.length := by
  unfold nQ at h
  split at h
  · rename_i h1
    simp only [Option.some.injEq, Prod.mk.injEq] at h
    exact ⟨h1, h.1.symm, h.2.symm⟩
  · cases h
theorem nQ_len {lim : Nat} {n : Int32} (h : nQ S lim n = some (S1, q)) : S1.length = S.length + 1 := by
  rw [(nQ_spec h).2.1]; simp
theorem pR_spec (h : pR S ci a k q = some S1) : ∃ fs, S[a]? = some (.inr (.inr (ci, fs))) ∧ k < fs.length ∧ S1 = S.set a (.inr (.inr (ci, fs.set k (some (.ref q))))) := by
  unfold pR at h
  split at h
  · rename_i c fs hS
    split at h
    · rename_i h1
      obtain ⟨h1, h2⟩ := h1
      subst h1
      exact ⟨fs, hS, h2, (Option.some.inj h).symm⟩
    · cases h
  · cases h
theorem pR_len (h : pR S ci a k q = some S1) : S1.length = S.length := by
  obtain ⟨fs, -, -, h1⟩ := pR_spec h
  rw [h1]; simp
theorem rP_spec {j : Int32} (h : rP S a j ci q = some S1) : ∃ (rs : List (Option Nat)) (fs : List (Option Value)), S[a]? = some (.inr (.inl (2, rs))) ∧ vp_in j rs.length ∧ S[q]? = some (.inr (.inr (ci, fs))) ∧ S1 = S.set a (.inr (.inl (2, rs.set j.toNatClampNeg (some q)))) := by
  unfold rP at h
  split at h
  · rename_i t rs hS
    split at h
    · rename_i h1
      obtain ⟨h1, h2⟩ := h1
      subst h1
      obtain ⟨⟨fs, h3⟩, h4⟩ := xcl_spec h
      exact ⟨rs, fs, hS, vp_in_iff.mpr h2, h3, (Option.some.inj h4).symm⟩
    · cases h
  · cases h
theorem rP_len {j : Int32} (h : rP S a j ci q = some S1) : S1.length = S.length := by
  obtain ⟨rs, fs, -, -, -, h1⟩ := rP_spec h
  rw [h1]; simp
/-- a final reference, in a constructor -/
def xFRF (own : String) (idx ci k : Nat) : Prop := ∃ (w : vw_C) (ty : FieldType), xCl[ci]? = some w ∧ (w.2.1 k).2.2.2 = true ∧ parseFieldDescriptor (w.2.1 k).2.2.1 = some ty ∧ (∀ b : Nat, narrow ty (.ref b) = .ref b ∧ fits ty (.ref b) = true) ∧ (w.2.1 k).1 = own ∧ Cond.fieldLink own idx (w.2.1 k).1 (w.2.1 k).2.1 (w.2.1 k).2.2.1 ∈ xGT
theorem V.xputRF (C : Cx p s m args meth c cc nL own g) (hmn : meth.name = "<init>") (hl : xFl own idx ci k) (ht : xFt ci) (hI : xFRF own idx ci k) (h : pR S ci a k q = some S1) (hd : decode cc pc = .ok (.putfield idx, 3)) (kk : V p l e R s m args below meth c Q nL g S1 F G cells slots (pc + 3) lv st) : V p l e R s m args below meth c Q nL g S F G cells slots pc lv (.ref q :: .ref a :: st) := by
  intro H locs ls h1 h2 h3 h4
  obtain ⟨fs, hS, hk2, rfl⟩ := pR_spec h
  obtain ⟨⟨Cn, T, N⟩, hc, hk, hin, -⟩ := hl
  obtain ⟨⟨Cn1, T1, N1⟩, t0, hc1, hty, hnm⟩ := ht
  cases hc.symm.trans hc1
  obtain ⟨⟨Cn2, T2, N2⟩, ty, hc2, hfin, hdesc, hrf, hdecl, hlink⟩ := hI
  cases hc.symm.trans hc2
  have hl2 : k < (xfs g F a fs).length := by rw [xfs_len]; exact hk2
  exact va_putF (ty := ty) (v := .ref (g.1 + q)) C.x C.b C.ts hin t0 hty hnm C.ow C.k h2 (xw_D g F G h1) h3 a (xw_some hS) hc k hk (C.ts _ hlink) (fun _ h => h) hfin hmn hdecl hdesc (hrf _).1 (hrf _).2 hl2 hd (fun H1 locs1 q1 _ q2 => kk H1 locs1 ls (by rw [List.length_set]; exact h1) (by rw [← xw_putR (.ref q) hS hk2]; exact q1) q2 h4)
theorem V.xputIF (C : Cx p s m args meth c cc nL own g) {v : Int32} (hmn : meth.name = "<init>") (hl : xFl own idx ci k) (ht : xFt ci) (hI : xFIF own idx ci k) (h : pI S ci a k v F = some F1) (hd : decode cc pc = .ok (.putfield idx, 3)) (kk : V p l e R s m args below meth c Q nL g S F1 G cells slots (pc + 3) lv st) : V p l e R s m args below meth c Q nL g S F G cells slots pc lv (.int v :: .ref a :: st) := by
  obtain ⟨fs, h1, h2, h3⟩ := pI_spec h
  subst h3
  exact V.putIF C hmn hl ht hI h1 h2 hd kk
/-- what a new object needs of the tables -/
def xNO (own : String) (idx ci N : Nat) (fs : List (Option Value)) : Prop := ∃ (Cn : String) (T : u_T) (t0 : Nat → FieldType), xCl[ci]? = some (Cn, T, N) ∧ (∀ k, k < N → parseFieldDescriptor (T k).2.2.1 = some (t0 k)) ∧ (∀ w ∈ u_ws Cn T N, w ∈ xGT) ∧ (Cond.classLink own idx Cn ∈ xGT ∧ Cond.instantiable Cn N ∈ xGT ∧ Cond.initialized Cn ∈ xGT) ∧ (∀ j, j < N → defaultValue (t0 j) = xd0 (fs.getD j (some .null))) ∧ ∀ o ∈ fs, o = none ∨ o = some .null
theorem V.xnewO (C : Cx p s m args meth c cc nL own g) {N : Nat} {fs : List (Option Value)} (hz : s.heap.size + cells = g.1 + S.length) (hw : xNO own idx ci N fs) (h : nO S ci fs F = some (S1, F1, q)) (hR : cells + 1 ≤ R.cells ∧ slots + N ≤ R.slots) (hd : decode cc pc = .ok (.new idx, 3)) (kk : V p l e R s m args below meth c Q nL g S1 F1 G (cells + 1) (slots + N) (pc + 3) lv (.ref q :: st)) : V p l e R s m args below meth c Q nL g S F G cells slots pc lv st := by
  obtain ⟨h1, rfl, rfl, rfl⟩ := nO_spec h
  obtain ⟨Cn, T, t0, w1, w2, w3, w4, w5, w6⟩ := hw
  exact V.new C fs hz h1 w1 t0 w2 w3 w4 w5 w6 hR hd kk
theorem V.xnewI (C : Cx p s m args meth c cc nL own g) {lim : Nat} {n : Int32} (hz : s.heap.size + cells = g.1 + S.length) (hw : Cond.arrayClass .int ∈ xGT) (hlim : lim ≤ 100000) (h : nA S 0 lim n F = some (S1, F1, q)) (hR : cells + 1 ≤ R.cells ∧ slots + lim ≤ R.slots) (hd : decode cc pc = .ok (.newarray .int, 2)) (kk : V p l e R s m args below meth c Q nL g S1 F1 G (cells + 1) (slots + lim) (pc + 2) lv (.ref q :: st)) : V p l e R s m args below meth c Q nL g S F G cells slots pc lv (.int n :: st) := by
  obtain ⟨⟨h1, h2, h3⟩, rfl, rfl, rfl⟩ := nA_spec h
  have h4 : n.toNatClampNeg ≤ lim := by show n.toInt.toNat ≤ lim; omega
  exact V.newI C n.toNatClampNeg hz h1 hw (by rw [Int32.lt_iff_toInt_lt, Int32.toInt_zero]; omega) rfl (by omega) ⟨hR.1, by omega⟩ hd (V.wide _ _ (Nat.le_refl _) (by omega) kk)
theorem xK_arr3 (hK : va_K g.2.2.2 xCl (xTy g.2.2.1) s) {cA : ClassId} (h : s.vm.findClass ("[" ++ FieldType.byte.toString) = some cA) : cA = g.2.2.1 3 := by
  have h1 := (hK.2 3 _ (xTy3 g)).2
  exact Option.some.inj (h.symm.trans h1)
theorem V.newB (C : Cx p s m args meth c cc nL own g) {n : Int32} (N : Nat) (hz : s.heap.size + cells = g.1 + S.length) (hKK : S.length + 1 ≤ xKK) (hw : Cond.arrayClass .byte ∈ xGT) (hn : ¬ n < 0) (hN : n.toNatClampNeg = N) (hb : N * 1 ≤ 536870912) (hR : cells + 1 ≤ R.cells ∧ slots + N ≤ R.slots) (hd : decode cc pc = .ok (.newarray .byte, 2))
    (kk : V p l e R s m args below meth c Q nL g (S ++ [.inl (3, N)]) (upR F S.length (fun _ => 0)) G (cells + 1) (slots + N) (pc + 2) lv (.ref S.length :: st)) : V p l e R s m args below meth c Q nL g S F G cells slots pc lv (.int n :: st) := by
  intro H locs ls h1 h2 h3 h4
  refine W.sized (fun hle => ?_)
  have hge : g.1 + S.length ≤ H.size := xw_size h2 (Nat.le_trans C.hz h3.1)
  have hH : H.size = g.1 + S.length := by omega
  refine va_newaK C.x C.b (atype := .byte) (C.ts _ hw) rfl hd rfl hn hN hb hR.1 hR.2 hH (fun H1 cA e1 z1 o1 hAr hNm => ?_)
  have hcA : cA = g.2.2.1 3 := xK_arr3 C.k hNm
  have hk : ∀ (k : Nat) (q : Nat × va_E), (xw g F G S)[k]? = some q → H1[q.1]? = H[q.1]? := fun k q hq => o1 q.1 (by have := (h2 k q hq).lt; omega)
  refine kk H1 locs ls (by rw [List.length_append]; exact hKK) ?_ ⟨by have := h3.1; omega, fun q q1 q2 => (o1 q (by have := h3.1; omega)).trans (h3.2.1 q q1 q2), h3.2.2⟩ h4
  rw [← xw_push, ← xw_fresh (g := g) (F := F) (F' := upR F S.length (fun _ => 0)) (G := G) (G' := G) (S := S) (fun i hi => upR_ne F _ _ (Nat.ne_of_lt hi)) (fun i _ => rfl)]
  refine (h2.kept hk).app (fun k q hq => ?_)
  have hz2 : k < 1 := (List.getElem?_eq_some_iff.mp hq).1
  rw [show k = 0 by omega] at hq
  cases hq
  show H1[g.1 + S.length]? = some (vp_cell _ _)
  rw [e1, hcA]
  simp only [upR_eq]
  rfl
theorem V.xnewB (C : Cx p s m args meth c cc nL own g) {lim : Nat} {n : Int32} (hz : s.heap.size + cells = g.1 + S.length) (hw : Cond.arrayClass .byte ∈ xGT) (hlim : lim ≤ 100000) (h : nA S 3 lim n F = some (S1, F1, q)) (hR : cells + 1 ≤ R.cells ∧ slots + lim ≤ R.slots) (hd : decode cc pc = .ok (.newarray .byte, 2)) (kk : V p l e R s m args below meth c Q nL g S1 F1 G (cells + 1) (slots + lim) (pc + 2) lv (.ref q :: st)) : V p l e R s m args below meth c Q nL g S F G cells slots pc lv (.int n :: st) := by
  obtain ⟨⟨h1, h2, h3⟩, rfl, rfl, rfl⟩ := nA_spec h
  have h4 : n.toNatClampNeg ≤ lim := by show n.toInt.toNat ≤ lim; omega
  exact V.newB C n.toNatClampNeg hz h1 hw (by rw [Int32.lt_iff_toInt_lt, Int32.toInt_zero]; omega) rfl (by omega) ⟨hR.1, by omega⟩ hd (V.wide _ _ (Nat.le_refl _) (by omega) kk)
theorem xrs_set {rs : List (Option Nat)} {j : Nat} (hj : j < rs.length) (q : Nat) : xrs g (rs.set j (some q)) = va_up (xrs g rs) j (some (g.1 + q)) := by
  funext i
  simp only [xrs, va_up, List.getD_eq_getElem?_getD]
  by_cases h : i = j
  · subst h
    rw [List.getElem?_set_self hj]
    simp
  · rw [List.getElem?_set_ne (Ne.symm h), if_neg h]
theorem V.xaast (C : Cx p s m args meth c cc nL own g) {j : Int32} {T : u_T} {N : Nat} (hc : xCl[ci]? = some ("PaletteFrames$Frame", T, N)) (h : rP S a j ci q = some S1) (hd : decode cc pc = .ok (.aastore, 1)) (kk : V p l e R s m args below meth c Q nL g S1 F G cells slots (pc + 1) lv st) : V p l e R s m args below meth c Q nL g S F G cells slots pc lv (.ref q :: .int j :: .ref a :: st) := by
  intro H locs ls h1 h2 h3 h4
  obtain ⟨rs, fs, hS, hin, hq, rfl⟩ := rP_spec h
  have hlt : j.toNatClampNeg < rs.length := Nat.not_le.mp fun z => hin (Or.inr z)
  refine va_astq (r := ("PaletteFrames$Frame", T, N)) C.x C.b C.k h2 (xw_D g F G h1) h3 a 2 q ci (xw_some hS) (xTy2 g) (xw_some hq) hc hin hd (fun H1 locs1 q1 _ q2 => kk H1 locs1 ls (by rw [List.length_set]; exact h1) ?_ q2 h4)
  have e1 : (xw g F G S).set a (g.1 + a, .inl (g.2.2.1 2, rs.length, .inr (.inr (.inr (.inr (va_up (xrs g rs) j.toNatClampNeg (some (g.1 + q)))))))) = xw g F G (S.set a (.inr (.inl (2, rs.set j.toNatClampNeg (some q))))) := by
    refine xw_set rfl (List.getElem?_eq_some_iff.mp hS).1 ?_ (fun i _ => rfl) (fun i _ => rfl)
    simp only [xc, List.length_set]
    rw [xrs_set hlt]
  rw [← e1]
  exact q1
theorem V.xnewQ (C : Cx p s m args meth c cc nL own g) {lim : Nat} {n : Int32} (hz : s.heap.size + cells = g.1 + S.length) (hw : Cond.classLink own idx "PaletteFrames$Frame" ∈ xGT ∧ Cond.arrayOver (.object "PaletteFrames$Frame") ∈ lw_tbl) (hlim : lim ≤ 100000) (h : nQ S lim n = some (S1, q)) (hR : cells + 1 ≤ R.cells ∧ slots + lim ≤ R.slots) (hd : decode cc pc = .ok (.anewarray idx, 3)) (kk : V p l e R s m args below meth c Q nL g S1 F G (cells + 1) (slots + lim) (pc + 3) lv (.ref q :: st)) : V p l e R s m args below meth c Q nL g S F G cells slots pc lv (.int n :: st) := by
  obtain ⟨⟨hKK, g2, g3⟩, rfl, rfl⟩ := nQ_spec h
  have hle4 : n.toNatClampNeg ≤ lim := by show n.toInt.toNat ≤ lim; omega
  intro H locs ls h1 h2 h3 h4
  refine W.sized (fun hle => ?_)
  have hge : g.1 + S.length ≤ H.size := xw_size h2 (Nat.le_trans C.hz h3.1)
  have hH : H.size = g.1 + S.length := by omega
  have hover : (Cond.arrayOver (.object "PaletteFrames$Frame")).before args s = true := by
    obtain ⟨u0, a1, a2, a3, a4, a5⟩ := C.th
    exact va_AO.use (va_AO.moved a3.alike (va_AO.of (a1 _ hw.2)))
  refine W.anew C.x C.b C.ow (C.ts _ hw.1) hover rfl hd rfl (by rw [Int32.lt_iff_toInt_lt, Int32.toInt_zero]; omega) (by omega) hR.1 (by omega) fun cA kA comp f1 f2 f3 f4 => ?_
  have hcA : cA = g.2.2.1 2 := by
    obtain ⟨kA2, comp2, -, -, -, h9⟩ := (C.k.2 2 _ (xTy2 g)).2
    exact Option.some.inj (f1.symm.trans h9)
  generalize hH1 : H.push ({ cls := cA, slots := Array.replicate n.toNatClampNeg .null, vm := .none } : Cell) = H1
  have z1 : H1.size = H.size + 1 := by rw [← hH1, Array.size_push]
  have e1 : H1[H.size]? = some (arrV cA n.toNatClampNeg (fun _ => .null)) := by rw [← hH1, Array.getElem?_push_size, ← arrV_new]
  have o1 : ∀ q : Nat, q < H.size → H1[q]? = H[q]? := fun q hq => by rw [← hH1, Array.getElem?_push, if_neg (Nat.ne_of_lt hq)]
  have hk : ∀ (k : Nat) (q : Nat × va_E), (xw g F G S)[k]? = some q → H1[q.1]? = H[q.1]? := fun k q hq => o1 q.1 (h2 k q hq).lt
  rw [hH]
  refine W.widen (k := cells + 1) (n := slots + lim) (Nat.le_refl _) (by omega) ?_
  refine kk H1 locs ls (by rw [List.length_append]; exact hKK) ?_ ⟨by have := h3.1; omega, fun q q1 q2 => (o1 q (by have := h3.1; omega)).trans (h3.2.1 q q1 q2), h3.2.2⟩ h4
  rw [← xw_push]
  refine (h2.kept hk).app (fun k q hq => ?_)
  have hz2 : k < 1 := (List.getElem?_eq_some_iff.mp hq).1
  rw [show k = 0 by omega] at hq
  cases hq
  show H1[g.1 + S.length]? = some (vp_cell _ _)
  rw [← hH, e1, hcA, vp_cell_q, List.length_replicate]
  congr 2
  funext i
  unfold xrs
  rw [List.getD_eq_getElem?_getD, List.getElem?_replicate]
  split <;> rfl
/-- a constructor's call -/
def xCi (own : String) (idx : Nat) (y : MethodName) (cc : ByteArray) (maxL n : Nat) : Prop := xMl own idx y cc maxL none n ∧ Cond.instanceMethod y ∈ xGT ∧ y.name = "<init>"
theorem V.cIv (C : Cx p s m args meth c cc nL own g) {d lc mc ms maxL n a : Nat} {y : MethodName} {bytes : ByteArray} {As rest : List Value} {S2 : List xO} {F2 : xF} (hM : CT l g d lc mc ms y bytes maxL none 0 (.ref a :: As) S F G none S2 F2 G) (hm : xCi own idx y bytes maxL n) (hn : As.length = n) (hst : st = As.reverse ++ .ref a :: rest) (hz : s.heap.size + cells = g.1 + S.length) (hR : d + 1 ≤ R.frames ∧ 8 + (maxL + 11) + lc ≤ R.locals ∧ cells + mc ≤ R.cells ∧ slots + ms ≤ R.slots) (hcat : (rest.map fun v => v.category).sum ≤ 8) (hd : decode cc pc = .ok (.invokespecial idx, 3))
    (kk : V p l e R s m args below meth c Q nL g S2 F2 G (cells + mc) (slots + ms) (pc + 3) lv rest) : V p l e R s m args below meth c Q nL g S F G cells slots pc lv st := V.cI C hM hm.1 hm.2.1 hm.2.2 hn hst (fun _ => hz) hR hcat hd kk
end XCT
