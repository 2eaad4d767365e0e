/-! THE ABSTRACT WORLD. Shapes S never change once everything is made: what changes are the numbers F (fields and arrays of ints) and G (arrays of longs). -/
/-- a shape: an array of numbers (its type's place, its length), an array of references, or an object (its class's place; a field is none: a number, or some: a value that stays) -/
abbrev xO : Type := (Nat × Nat) ⊕ ((Nat × List (Option Nat)) ⊕ (Nat × List (Option Value)))
abbrev xF : Type := Nat → Nat → Int32
abbrev xL : Type := Nat → Nat → Int64
/-- where the world begins; the script's address; the array classes; the classes -/
abbrev xG : Type := Nat × Nat × (Nat → ClassId) × va_G
/-- a value of the abstract world as the machine has it: references count from the world's begin; a float stands for the script -/
def xv (g : xG) (v : Value) : Value := match v with
  | .ref i => .ref (g.1 + i)
  | .float _ => .ref g.2.1
  | .int x => .int x
  | .long x => .long x
  | .double x => .double x
  | .null => .null
  | .retAddr x => .retAddr x
theorem xv_cat (g : xG) (v : Value) : (xv g v).category = v.category := by cases v <;> rfl
def xfv (g : xG) (F : xF) (a j : Nat) (o : Option Value) : Value := match o with
  | none => .int (F a j)
  | some v => xv g v
def xfs (g : xG) (F : xF) (a : Nat) (fs : List (Option Value)) : List Value := fs.mapIdx (xfv g F a)
def xrs (g : xG) (rs : List (Option Nat)) : Nat → Option Nat := fun j => (rs.getD j none).map (g.1 + ·)
def xc (g : xG) (F : xF) (G : xL) (k : Nat) (o : xO) : va_E := match o with
  | .inl (t, n) => if t = 1 then .inl (g.2.2.1 t, n, .inr (.inl (G k))) else .inl (g.2.2.1 t, n, .inl (F k))
  | .inr (.inl (t, rs)) => .inl (g.2.2.1 t, rs.length, .inr (.inr (.inr (.inr (xrs g rs)))))
  | .inr (.inr (ci, fs)) => .inr (ci, xfs g F k fs)
def xw (g : xG) (F : xF) (G : xL) (S : List xO) : va_W := S.mapIdx (fun k o => (g.1 + k, xc g F G k o))
def up2 {α : Type} (F : Nat → Nat → α) (a k : Nat) (v : α) : Nat → Nat → α := fun i j => if i = a then (if j = k then v else F i j) else F i j
theorem up2_row {α : Type} (F : Nat → Nat → α) (a k : Nat) (v : α) {i : Nat} (h : i ≠ a) : up2 F a k v i = F i := by
  funext j; simp [up2, h]
theorem up2_eq {α : Type} (F : Nat → Nat → α) (a k : Nat) (v : α) : up2 F a k v a k = v := by simp [up2]
theorem up2_ne {α : Type} (F : Nat → Nat → α) (a k : Nat) (v : α) {i j : Nat} (h : i ≠ a ∨ j ≠ k) : up2 F a k v i j = F i j := by
  unfold up2
  rcases h with h | h
  · simp [h]
  · simp [h]
theorem xw_at (g : xG) (F : xF) (G : xL) (S : List xO) (k : Nat) : (xw g F G S)[k]? = (S[k]?).map (fun o => (g.1 + k, xc g F G k o)) := by
  unfold xw
  rw [List.getElem?_mapIdx]
theorem xw_some {g : xG} {F : xF} {G : xL} {S : List xO} {k : Nat} {o : xO} (h : S[k]? = some o) : (xw g F G S)[k]? = some (g.1 + k, xc g F G k o) := by
  rw [xw_at, h]; rfl
/-- the cells that may change: the world's -/
def xA (g : xG) (q : Nat) : Prop := g.1 ≤ q ∧ q < g.1 + xKK
theorem xw_D (g : xG) (F : xF) (G : xL) {S : List xO} (hl : S.length ≤ xKK) : va_D (xA g) (xw g F G S) := by
  refine ⟨fun i j p q hi hj h => ?_, fun k q hk => ?_⟩
  · rw [xw_at] at hi hj
    cases h1 : S[i]? with
    | none => rw [h1] at hi; cases hi
    | some o =>
      rw [h1] at hi
      cases h2 : S[j]? with
      | none => rw [h2] at hj; cases hj
      | some o2 =>
        rw [h2] at hj
        cases hi; cases hj
        exact Nat.add_left_cancel h
  · rw [xw_at] at hk
    cases h1 : S[k]? with
    | none => rw [h1] at hk; cases hk
    | some o =>
      rw [h1] at hk
      cases hk
      have h2 := (List.getElem?_eq_some_iff.mp h1).1
      show g.1 ≤ g.1 + k ∧ g.1 + k < g.1 + xKK
      exact ⟨Nat.le_add_right _ _, by omega⟩
theorem xfs_at (g : xG) (F : xF) (a : Nat) (fs : List (Option Value)) (k : Nat) : (xfs g F a fs)[k]? = (fs[k]?).map (xfv g F a k) := by
  unfold xfs
  rw [List.getElem?_mapIdx]
theorem xfs_len (g : xG) (F : xF) (a : Nat) (fs : List (Option Value)) : (xfs g F a fs).length = fs.length := by
  unfold xfs
  rw [List.length_mapIdx]
theorem xc_row {g : xG} {F F' : xF} {G G' : xL} {k : Nat} (o : xO) (hF : F' k = F k) (hG : G' k = G k) : xc g F' G' k o = xc g F G k o := by
  rcases o with ⟨t, n⟩ | ⟨t, rs⟩ | ⟨ci, fs⟩
  · simp only [xc, hF, hG]
  · rfl
  · simp only [xc]
    congr 2
    apply List.ext_getElem?
    intro j
    rw [xfs_at, xfs_at]
    cases fs[j]? with
    | none => rfl
    | some o => cases o <;> simp [xfv, hF]
/-- a world in which one cell differs -/
theorem xw_set {g : xG} {F F' : xF} {G G' : xL} {S S' : List xO} {a : Nat} {e : va_E} {o' : xO} (hS : S' = S.set a o') (hl : a < S.length) (he : xc g F' G' a o' = e) (hF : ∀ i, i ≠ a → F' i = F i) (hG : ∀ i, i ≠ a → G' i = G i) : (xw g F G S).set a (g.1 + a, e) = xw g F' G' S' := by
  subst hS
  subst he
  apply List.ext_getElem?
  intro i
  rw [xw_at]
  by_cases h : i = a
  · subst h
    have h1 : i < (xw g F G S).length := by unfold xw; rw [List.length_mapIdx]; exact hl
    rw [List.getElem?_set_self h1, List.getElem?_set_self hl]
    rfl
  · rw [List.getElem?_set_ne (Ne.symm h), List.getElem?_set_ne (Ne.symm h), xw_at]
    cases S[i]? with
    | none => rfl
    | some o => simp only [Option.map_some]; rw [xc_row o (hF i h) (hG i h)]
theorem set_same {α : Type} {S : List α} {a : Nat} {o : α} (h : S[a]? = some o) : S = S.set a o := by
  apply List.ext_getElem?
  intro i
  by_cases hi : i = a
  · subst hi
    rw [List.getElem?_set_self (List.getElem?_eq_some_iff.mp h).1, h]
  · rw [List.getElem?_set_ne (Ne.symm hi)]
/-- a number of an object is another one -/
theorem xw_putF {g : xG} {F : xF} {G : xL} {S : List xO} {a k ci : Nat} {fs : List (Option Value)} (v : Int32) (h : S[a]? = some (.inr (.inr (ci, fs)))) (hf : fs[k]? = some none) : (xw g F G S).set a (g.1 + a, .inr (ci, (xfs g F a fs).set k (.int v))) = xw g (up2 F a k v) G S := by
  refine xw_set (set_same h) (List.getElem?_eq_some_iff.mp h).1 ?_ (fun i hi => up2_row F a k v hi) (fun i _ => rfl)
  simp only [xc]
  congr 2
  apply List.ext_getElem?
  intro j
  have hl : k < (xfs g F a fs).length := by rw [xfs_len]; exact (List.getElem?_eq_some_iff.mp hf).1
  by_cases hj : j = k
  · subst hj
    rw [List.getElem?_set_self hl, xfs_at, hf]
    simp [xfv, up2_eq]
  · rw [List.getElem?_set_ne (Ne.symm hj), xfs_at, xfs_at]
    cases fs[j]? with
    | none => rfl
    | some o => cases o <;> simp [xfv, up2_ne F a k v (Or.inr hj)]
/-- a reference of an object is another one (constructors) -/
theorem xw_putR {g : xG} {F : xF} {G : xL} {S : List xO} {a k ci : Nat} {fs : List (Option Value)} (v : Value) (h : S[a]? = some (.inr (.inr (ci, fs)))) (hf : k < fs.length) : (xw g F G S).set a (g.1 + a, .inr (ci, (xfs g F a fs).set k (xv g v))) = xw g F G (S.set a (.inr (.inr (ci, fs.set k (some v))))) := by
  refine xw_set rfl (List.getElem?_eq_some_iff.mp h).1 ?_ (fun i _ => rfl) (fun i _ => rfl)
  simp only [xc]
  congr 2
  apply List.ext_getElem?
  intro j
  have hl : k < (xfs g F a fs).length := by rw [xfs_len]; exact hf
  by_cases hj : j = k
  · subst hj
    rw [List.getElem?_set_self hl, xfs_at, List.getElem?_set_self hf]
    rfl
  · rw [List.getElem?_set_ne (Ne.symm hj), xfs_at, xfs_at, List.getElem?_set_ne (Ne.symm hj)]
theorem xw_putA {g : xG} {F : xF} {G : xL} {S : List xO} {a n t : Nat} (ht : t ≠ 1) (j : Nat) (v : Int32) (h : S[a]? = some (.inl (t, n))) : (xw g F G S).set a (g.1 + a, .inl (g.2.2.1 t, n, .inl (upd (F a) j v))) = xw g (up2 F a j v) G S := by
  refine xw_set (set_same h) (List.getElem?_eq_some_iff.mp h).1 ?_ (fun i hi => up2_row F a j v hi) (fun i _ => rfl)
  simp only [xc, if_neg ht]
  congr 4
  funext i
  simp [up2, upd]
theorem xw_putL {g : xG} {F : xF} {G : xL} {S : List xO} {a n : Nat} (j : Nat) (v : Int64) (h : S[a]? = some (.inl (1, n))) : (xw g F G S).set a (g.1 + a, .inl (g.2.2.1 1, n, .inr (.inl (vp_updL (G a) j v)))) = xw g F (up2 G a j v) S := by
  refine xw_set (set_same h) (List.getElem?_eq_some_iff.mp h).1 ?_ (fun i _ => rfl) (fun i hi => up2_row G a j v hi)
  simp only [xc, if_pos]
  congr 5
  funext i
  simp [up2, vp_updL]
/-- a whole row of numbers is another one -/
def upR {α : Type} (F : Nat → α) (a : Nat) (f : α) : Nat → α := fun i => if i = a then f else F i
theorem upR_eq {α : Type} (F : Nat → α) (a : Nat) (f : α) : upR F a f a = f := by simp [upR]
theorem upR_ne {α : Type} (F : Nat → α) (a : Nat) (f : α) {i : Nat} (h : i ≠ a) : upR F a f i = F i := by simp [upR, h]
theorem xw_putRow {g : xG} {F : xF} {G : xL} {S : List xO} {a n : Nat} (f : Nat → Int32) (h : S[a]? = some (.inl (0, n))) : (xw g F G S).set a (g.1 + a, .inl (g.2.2.1 0, n, .inl f)) = xw g (upR F a f) G S := by
  refine xw_set (set_same h) (List.getElem?_eq_some_iff.mp h).1 ?_ (fun i hi => upR_ne F a f hi) (fun i _ => rfl)
  simp only [xc, upR_eq]
  rfl
/-- a new cell -/
theorem xw_push (g : xG) (F : xF) (G : xL) (S : List xO) (o : xO) : xw g F G S ++ [(g.1 + S.length, xc g F G S.length o)] = xw g F G (S ++ [o]) := by
  unfold xw
  rw [List.mapIdx_append]
  simp
/-- fresh rows of numbers -/
theorem xw_fresh {g : xG} {F F' : xF} {G G' : xL} {S : List xO} (hF : ∀ i, i < S.length → F' i = F i) (hG : ∀ i, i < S.length → G' i = G i) : xw g F G S = xw g F' G' S := by
  apply List.ext_getElem?
  intro i
  rw [xw_at, xw_at]
  cases h : S[i]? with
  | none => rfl
  | some o =>
    have hi := (List.getElem?_eq_some_iff.mp h).1
    simp only [Option.map_some]
    rw [xc_row o (hF i hi) (hG i hi)]
/-! locals: a list of what is known of each -/
def xlg : List (Option Value) → Nat → Option Value
  | [], _ => none
  | o :: _, 0 => o
  | _ :: r, n + 1 => xlg r n
def xls : List (Option Value) → Nat → Value → List (Option Value)
  | [], _, _ => []
  | _ :: r, 0, v => some v :: r
  | o :: r, n + 1, v => o :: xls r n v
/-- what is stored at k tears no long apart -/
def xl1 (lv : List (Option Value)) (k : Nat) : Bool := match k with
  | 0 => true
  | j + 1 => match xlg lv j with
    | some v => v.category == 1
    | none => true
def xal (g : xG) : Nat → List (Option Value) → List (Nat × Value)
  | _, [] => []
  | i, none :: r => xal g (i + 1) r
  | i, some v :: r => (i, xv g v) :: xal g (i + 1) r
theorem xal_ge {g : xG} : ∀ (lv : List (Option Value)) (i : Nat) (q : Nat × Value), q ∈ xal g i lv → i ≤ q.1
  | [], _, _, h => by simp [xal] at h
  | none :: r, i, q, h => by
    have := xal_ge r (i + 1) q h
    omega
  | some v :: r, i, q, h => by
    rcases List.mem_cons.mp h with h | h
    · subst h; exact Nat.le_refl _
    · have := xal_ge r (i + 1) q h
      omega
theorem xal_get {g : xG} : ∀ (lv : List (Option Value)) (i k : Nat) (v : Value), xlg lv k = some v → (i + k, xv g v) ∈ xal g i lv
  | [], _, _, _, h => by simp [xlg] at h
  | none :: r, i, 0, v, h => by simp [xlg] at h
  | some w :: r, i, 0, v, h => by
    simp only [xlg, Option.some.injEq] at h
    subst h
    exact List.mem_cons_self
  | none :: r, i, k + 1, v, h => by
    have := xal_get (g := g) r (i + 1) k v h
    rw [show i + (k + 1) = i + 1 + k by omega]
    exact this
  | some w :: r, i, k + 1, v, h => by
    have := xal_get (g := g) r (i + 1) k v h
    rw [show i + (k + 1) = i + 1 + k by omega]
    exact List.mem_cons_of_mem _ this
theorem xal_inv {g : xG} : ∀ (lv : List (Option Value)) (i : Nat) (q : Nat × Value), q ∈ xal g i lv → ∃ k v, q = (i + k, xv g v) ∧ xlg lv k = some v
  | [], _, _, h => by simp [xal] at h
  | none :: r, i, q, h => by
    obtain ⟨k, v, h1, h2⟩ := xal_inv r (i + 1) q h
    exact ⟨k + 1, v, by rw [h1]; congr 1; omega, h2⟩
  | some w :: r, i, q, h => by
    rcases List.mem_cons.mp h with h | h
    · exact ⟨0, w, h, rfl⟩
    · obtain ⟨k, v, h1, h2⟩ := xal_inv r (i + 1) q h
      exact ⟨k + 1, v, by rw [h1]; congr 1; omega, h2⟩
theorem xal_put {g : xG} : ∀ (lv : List (Option Value)) (i k : Nat) (v : Value) (q : Nat × Value), q ∈ xal g i (xls lv k v) → q = (i + k, xv g v) ∨ (q ∈ xal g i lv ∧ q.1 ≠ i + k)
  | [], _, _, _, _, h => by simp [xls, xal] at h
  | none :: r, i, 0, v, q, h => by
    rcases List.mem_cons.mp h with h | h
    · exact Or.inl h
    · have := xal_ge r (i + 1) q h
      exact Or.inr ⟨h, by omega⟩
  | some w :: r, i, 0, v, q, h => by
    rcases List.mem_cons.mp h with h | h
    · exact Or.inl h
    · have := xal_ge r (i + 1) q h
      exact Or.inr ⟨List.mem_cons_of_mem _ h, by omega⟩
  | none :: r, i, k + 1, v, q, h => by
    have h1 : q ∈ xal g (i + 1) (xls r k v) := h
    rcases xal_put r (i + 1) k v q h1 with h2 | ⟨h2, h3⟩
    · left; rw [h2]; congr 1; omega
    · right; exact ⟨h2, by omega⟩
  | some w :: r, i, k + 1, v, q, h => by
    rcases List.mem_cons.mp h with h | h
    · right
      subst h
      exact ⟨List.mem_cons_self, by omega⟩
    · have h1 : q ∈ xal g (i + 1) (xls r k v) := h
      rcases xal_put r (i + 1) k v q h1 with h2 | ⟨h2, h3⟩
      · left; rw [h2]; congr 1; omega
      · right; exact ⟨List.mem_cons_of_mem _ h2, by omega⟩
def xl (g : xG) (ls : Array Slot) (nL : Nat) (lv : List (Option Value)) : Prop := lv_has ls nL (xal g 0 lv)
theorem xl.get {g : xG} {ls : Array Slot} {nL : Nat} {lv : List (Option Value)} (h : xl g ls nL lv) {k : Nat} {v : Value} (hk : xlg lv k = some v) : ls[k]? = some (.val (xv g v)) := by
  have := h.2.2 _ (xal_get lv 0 k v hk)
  simpa using this
theorem xl.sub {g : xG} {ls : Array Slot} {nL : Nat} {l l' : List (Nat × Value)} (h : lv_has ls nL l) (hs : ∀ q, q ∈ l' → q ∈ l) : lv_has ls nL l' := ⟨h.1, h.2.1, fun q hq => h.2.2 q (hs q hq)⟩
theorem xl.put {g : xG} {ls' : Array Slot} {nL k : Nat} {lv : List (Option Value)} {v : Value} (hc : xl1 lv k = true) (h : lv_has ls' nL ((k, xv g v) :: (xal g 0 lv).filter (fun q => !(q.1 == k) && !(q.1 + 1 == k && q.2.category == 2)))) : xl g ls' nL (xls lv k v) := by
  refine xl.sub (g := g) h (fun q hq => ?_)
  rcases xal_put lv 0 k v q hq with h1 | ⟨h1, h2⟩
  · rw [h1, Nat.zero_add]; exact List.mem_cons_self
  · refine List.mem_cons_of_mem _ (List.mem_filter.mpr ⟨h1, ?_⟩)
    have h4 : q.1 ≠ k := by omega
    obtain ⟨j, v2, h5, h6⟩ := xal_inv lv 0 q h1
    subst h5
    by_cases h7 : 0 + j + 1 = k
    · subst h7
      have h8 : v2.category = 1 := by
        have := hc
        simp only [xl1, Nat.zero_add, h6, beq_iff_eq] at this
        exact this
      have h9 : (xv g v2).category = 1 := by rw [xv_cat]; exact h8
      simp [h9]
    · have h10 : ¬ j = k := by simpa using h4
      have h11 : ¬ j + 1 = k := by simpa using h7
      simp [h10, h11]
theorem xl.weak {g : xG} {ls : Array Slot} {nL : Nat} {lv lv' : List (Option Value)} (h : xl g ls nL lv) (hs : ∀ k v, xlg lv' k = some v → xlg lv k = some v) : xl g ls nL lv' := by
  refine xl.sub (g := g) h (fun q hq => ?_)
  obtain ⟨k, v, h1, h2⟩ := xal_inv lv' 0 q hq
  have := xal_get (g := g) lv 0 k v (hs k v h2)
  rw [h1]
  exact this
/-- a long is stored -/
def xls2 : List (Option Value) → Nat → Value → List (Option Value)
  | [], _, _ => []
  | [_], 0, v => [some v]
  | _ :: _ :: r, 0, v => some v :: none :: r
  | o :: r, n + 1, v => o :: xls2 r n v
theorem xal_put2 {g : xG} : ∀ (lv : List (Option Value)) (i k : Nat) (v : Value) (q : Nat × Value), q ∈ xal g i (xls2 lv k v) → q = (i + k, xv g v) ∨ (q ∈ xal g i lv ∧ q.1 ≠ i + k ∧ q.1 ≠ i + k + 1)
  | [], _, _, _, _, h => by simp [xls2, xal] at h
  | [o], i, 0, v, q, h => by
    simp [xls2, xal] at h
    exact Or.inl h
  | o :: o2 :: r, i, 0, v, q, h => by
    have h0 : q ∈ (i, xv g v) :: xal g (i + 1 + 1) r := h
    rcases List.mem_cons.mp h0 with hh | hh
    · exact Or.inl hh
    · have h1 := xal_ge r (i + 1 + 1) q hh
      have h2 : q ∈ xal g i (o :: o2 :: r) := by
        have h3 : q ∈ xal g (i + 1) (o2 :: r) := by
          cases o2 with
          | none => exact hh
          | some w => exact List.mem_cons_of_mem _ hh
        cases o with
        | none => exact h3
        | some w => exact List.mem_cons_of_mem _ h3
      exact Or.inr ⟨h2, by omega, by omega⟩
  | none :: r, i, k + 1, v, q, h => by
    have h1 : q ∈ xal g (i + 1) (xls2 r k v) := by
      cases r <;> exact h
    rcases xal_put2 r (i + 1) k v q h1 with h2 | ⟨h2, h3, h4⟩
    · left; rw [h2]; congr 1; omega
    · right; exact ⟨h2, by omega, by omega⟩
  | some w :: r, i, k + 1, v, q, h => by
    have h0 : q ∈ (i, xv g w) :: xal g (i + 1) (xls2 r k v) := by
      cases r <;> exact h
    rcases List.mem_cons.mp h0 with h | h
    · right
      subst h
      exact ⟨List.mem_cons_self, by omega, by omega⟩
    · rcases xal_put2 r (i + 1) k v q h with h2 | ⟨h2, h3, h4⟩
      · left; rw [h2]; congr 1; omega
      · right; exact ⟨List.mem_cons_of_mem _ h2, by omega, by omega⟩
theorem xl.put2 {g : xG} {ls' : Array Slot} {nL k : Nat} {lv : List (Option Value)} {v : Value} (hc : xl1 lv k = true) (h : lv_has ls' nL ((k, xv g v) :: (xal g 0 lv).filter (fun q => !(q.1 == k) && (!(q.1 == k + 1) && !(q.1 + 1 == k && q.2.category == 2))))) : xl g ls' nL (xls2 lv k v) := by
  refine xl.sub (g := g) h (fun q hq => ?_)
  rcases xal_put2 lv 0 k v q hq with h1 | ⟨h1, h2, h3⟩
  · rw [h1, Nat.zero_add]; exact List.mem_cons_self
  · refine List.mem_cons_of_mem _ (List.mem_filter.mpr ⟨h1, ?_⟩)
    obtain ⟨j, v2, h5, h6⟩ := xal_inv lv 0 q h1
    subst h5
    have h10 : ¬ j = k := by simpa using h2
    have h12 : ¬ j = k + 1 := by simpa using h3
    by_cases h7 : j + 1 = k
    · subst h7
      have h8 : v2.category = 1 := by
        have := hc
        simp only [xl1, h6, beq_iff_eq] at this
        exact this
      have h9 : (xv g v2).category = 1 := by rw [xv_cat]; exact h8
      simp [h9, h12]
    · simp [h10, h12, h7]
theorem xTy0 (g : xG) : (xTy g.2.2.1)[0]? = some (g.2.2.1 0, .int) := rfl
theorem xTy1 (g : xG) : (xTy g.2.2.1)[1]? = some (g.2.2.1 1, .long) := rfl
theorem xTy2 (g : xG) : (xTy g.2.2.1)[2]? = some (g.2.2.1 2, .object "PaletteFrames$Frame") := rfl
theorem xTy3 (g : xG) : (xTy g.2.2.1)[3]? = some (g.2.2.1 3, .byte) := rfl
/-- the law's start, as a ghost: what its tables and statics said then; the heap below the world is as it was -/
def xTh (g : xG) (U : State) : Prop := ∃ u0 : State, (∀ w ∈ lw_tbl, w.before #[Value.ref g.2.1] u0 = true) ∧ (Jvm.Cond.and given_1 narrow_1).before #[Value.ref g.2.1] u0 = true ∧ u0.WarmedH U.vm ∧ u0.heap.size = g.1 ∧ ∀ q : Nat, q < g.1 → U.heap[q]? = u0.heap[q]?
theorem xTh.at {g : xG} {u U : State} (hW : u.WarmedH U.vm) (hh : ∀ q : Nat, q < g.1 → U.heap[q]? = u.heap[q]?) (h : xTh g u) : xTh g U := by
  obtain ⟨u0, a1, a2, a3, a4, a5⟩ := h
  exact ⟨u0, a1, a2, State.WarmedH.trans a3 hW, a4, fun q hq => (hh q hq).trans (a5 q hq)⟩
def xK (g : xG) (U : State) : Prop := va_K g.2.2.2 xCl (xTy g.2.2.1) U ∧ xNW U ∧ xTh g U
/-- what a field's link needs of the tables -/
def xFl (own : String) (idx ci k : Nat) : Prop := ∃ q : vw_C, xCl[ci]? = some q ∧ k < q.2.2 ∧ (∀ w ∈ u_ws q.1 q.2.1 q.2.2, w ∈ xGT) ∧ (Cond.fieldLink own idx (q.2.1 k).1 (q.2.1 k).2.1 (q.2.1 k).2.2.1 ∈ xGT ∨ ∃ host, Cond.fieldLinkNest own idx (q.2.1 k).1 (q.2.1 k).2.1 (q.2.1 k).2.2.1 host ∈ xNT)
def xFt (ci : Nat) : Prop := ∃ (q : vw_C) (t0 : Nat → FieldType), xCl[ci]? = some q ∧ (∀ k, k < q.2.2 → parseFieldDescriptor (q.2.1 k).2.2.1 = some (t0 k)) ∧ ∀ a, a < q.2.2 → ∀ b, b < q.2.2 → a ≠ b → (q.2.1 a).2.1 ≠ (q.2.1 b).2.1
def xFI (ci k : Nat) : Prop := ∃ q : vw_C, xCl[ci]? = some q ∧ (q.2.1 k).2.2.2 = false ∧ (q.2.1 k).2.2.1 = "I"
def xFIF (own : String) (idx ci k : Nat) : Prop := ∃ q : vw_C, xCl[ci]? = some q ∧ (q.2.1 k).2.2.2 = true ∧ (q.2.1 k).2.2.1 = "I" ∧ (q.2.1 k).1 = own ∧ Cond.fieldLink own idx (q.2.1 k).1 (q.2.1 k).2.1 (q.2.1 k).2.2.1 ∈ xGT
