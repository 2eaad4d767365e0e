/-! THE RELATION between the component's numbers (0 .. 70) and the reference's (71 .. 94) -/
def Ag (cs : List (Nat × Nat)) (rs : List Nat) (F F' : xF) : Prop := (∀ p ∈ cs, F' p.1 p.2 = F p.1 p.2) ∧ ∀ a ∈ rs, F' a = F a
def Fix (b : Nat) (F : xF) : Prop :=
  2 ≤ b ∧
  b ≤ 8 ∧
  F 0 0 = nI b ∧
  F 71 0 = nI b ∧
  F 71 1 = nI (2 ^ b) ∧
  F 71 2 = nI (2 ^ b + 1) ∧
  F 5 0 = nI (2 ^ b) ∧
  F 5 1 = nI (2 ^ b + 1) ∧
  F 8 0 = nI b ∧
  F 8 1 = nI (2 ^ b + 1) ∧
  F 9 0 = nI (2 ^ b + 1) ∧
  F 13 0 = nI (2 ^ b) ∧
  F 13 1 = nI (2 ^ b + 1) ∧
  F 18 0 = nI b ∧
  F 18 1 = nI (2 ^ b + 1)
theorem Fix.h2 {b : Nat} {F : xF} (h : Fix b F) : 2 ≤ b := h.1
theorem Fix.h8 {b : Nat} {F : xF} (h : Fix b F) : b ≤ 8 := h.2.1
theorem Fix.a {b : Nat} {F : xF} (h : Fix b F) : F 0 0 = nI b := h.2.2.1
theorem Fix.m0 {b : Nat} {F : xF} (h : Fix b F) : F 71 0 = nI b := h.2.2.2.1
theorem Fix.m1 {b : Nat} {F : xF} (h : Fix b F) : F 71 1 = nI (2 ^ b) := h.2.2.2.2.1
theorem Fix.m2 {b : Nat} {F : xF} (h : Fix b F) : F 71 2 = nI (2 ^ b + 1) := h.2.2.2.2.2.1
theorem Fix.c0 {b : Nat} {F : xF} (h : Fix b F) : F 5 0 = nI (2 ^ b) := h.2.2.2.2.2.2.1
theorem Fix.c1 {b : Nat} {F : xF} (h : Fix b F) : F 5 1 = nI (2 ^ b + 1) := h.2.2.2.2.2.2.2.1
theorem Fix.w0 {b : Nat} {F : xF} (h : Fix b F) : F 8 0 = nI b := h.2.2.2.2.2.2.2.2.1
theorem Fix.w1 {b : Nat} {F : xF} (h : Fix b F) : F 8 1 = nI (2 ^ b + 1) := h.2.2.2.2.2.2.2.2.2.1
theorem Fix.s0 {b : Nat} {F : xF} (h : Fix b F) : F 9 0 = nI (2 ^ b + 1) := h.2.2.2.2.2.2.2.2.2.2.1
theorem Fix.r0 {b : Nat} {F : xF} (h : Fix b F) : F 13 0 = nI (2 ^ b) := h.2.2.2.2.2.2.2.2.2.2.2.1
theorem Fix.r1 {b : Nat} {F : xF} (h : Fix b F) : F 13 1 = nI (2 ^ b + 1) := h.2.2.2.2.2.2.2.2.2.2.2.2.1
theorem Fix.v0 {b : Nat} {F : xF} (h : Fix b F) : F 18 0 = nI b := h.2.2.2.2.2.2.2.2.2.2.2.2.2.1
theorem Fix.v1 {b : Nat} {F : xF} (h : Fix b F) : F 18 1 = nI (2 ^ b + 1) := h.2.2.2.2.2.2.2.2.2.2.2.2.2.2
def Rule (F : xF) : Prop := ∃ k : Nat, k ≤ 2 ∧ F 0 6 = nI k ∧ F 71 4 = nI k
def Row (b r : Nat) (F : xF) : Prop := r ≤ 12000 ∧ F 1 1 = nI r ∧ F 71 5 = nI r ∧ ∀ k, k < r → ∃ s : Nat, s < 2 ^ b ∧ F 2 k = nI s ∧ F 72 k = nI s
def Cod (c : Nat) (F : xF) : Prop := c ≤ 18060 ∧ F 6 1 = nI c ∧ F 71 7 = nI c ∧ ∀ k, k < c → ∃ s : Nat, s < 256 ∧ F 7 k = nI s ∧ F 73 k = vp_nar .byte (nI s)
def Tol (F : xF) : Prop := F 74 0 = F 5 5 ∧ F 74 1 = F 5 6 ∧ F 74 2 = F 5 7 ∧ F 74 3 = F 9 4 - F 9 0
/-- the coder's table can be emptied -/
def Tab (b : Nat) (F : xF) : Prop := ∃ z : Nat, 2 ^ b + 1 ≤ z ∧ z ≤ 4095 ∧ F 9 4 = nI z ∧ (∀ e, 2 ^ b + 1 < e → e ≤ z → ∃ s : Nat, s < 8192 ∧ F 12 e = nI s) ∧ ∀ s, s < 8192 → F 10 s = nI 0 ∨ ∃ e, 2 ^ b + 1 < e ∧ e ≤ z ∧ F 12 e = nI s
def Wai (w : Nat) (F : xF) : Prop := w ≤ 24000 ∧ F 3 1 = nI w ∧ F 71 10 = nI w ∧ ∀ k, k < w → ∃ s : Nat, s < 256 ∧ F 4 k = nI s ∧ F 75 k = vp_nar .byte (nI s)
def Red (b q : Nat) (F : xF) : Prop := q ≤ 12000 ∧ F 14 1 = nI q ∧ F 71 12 = nI q ∧ ∀ k, k < q → ∃ s : Nat, s < 2 ^ b ∧ F 15 k = nI s ∧ F 76 k = nI s
/-- a colour, or none -/
def Clr (x : Int32) : Prop := x = -1 ∨ ∃ k : Nat, k ≤ 16777215 ∧ x = nI k
/-- the frame i -/
def Frm (b i : Nat) (F : xF) : Prop :=
  (∃ x y w h e d : Nat, 1 ≤ w ∧ 1 ≤ h ∧ x + w ≤ 24 ∧ y + h ≤ 24 ∧ e ≤ 3 ∧ d ≤ 1000 ∧ F (23 + 4 * i) 2 = nI x ∧ F 82 i = nI x ∧ F (23 + 4 * i) 3 = nI y ∧ F 83 i = nI y ∧ F (23 + 4 * i) 4 = nI w ∧ F 84 i = nI w ∧ F (23 + 4 * i) 5 = nI h ∧ F 85 i = nI h ∧ F (23 + 4 * i) 6 = nI e ∧ F 86 i = nI e ∧ F (23 + 4 * i) 7 = nI d ∧ F 87 i = nI d ∧
    ∀ r c, r < h → c < w → ∃ s : Nat, s < 2 ^ b ∧ F (24 + 4 * i) (r * w + c) = nI s ∧ F 89 (576 * i + 24 * r + c) = nI s) ∧
  (F 88 i = F (23 + 4 * i) 8 ∧ (F 88 i = -1 ∨ ∃ s : Nat, s < 2 ^ b ∧ F 88 i = nI s)) ∧
  (∀ s, s < 2 ^ b → F 90 (256 * i + s) = F (26 + 4 * i) s ∧ Clr (F 90 (256 * i + s)))
theorem Frm.g {b i : Nat} {F : xF} (h : Frm b i F) : ∃ x y w h e d : Nat, 1 ≤ w ∧ 1 ≤ h ∧ x + w ≤ 24 ∧ y + h ≤ 24 ∧ e ≤ 3 ∧ d ≤ 1000 ∧ F (23 + 4 * i) 2 = nI x ∧ F 82 i = nI x ∧ F (23 + 4 * i) 3 = nI y ∧ F 83 i = nI y ∧ F (23 + 4 * i) 4 = nI w ∧ F 84 i = nI w ∧ F (23 + 4 * i) 5 = nI h ∧ F 85 i = nI h ∧ F (23 + 4 * i) 6 = nI e ∧ F 86 i = nI e ∧ F (23 + 4 * i) 7 = nI d ∧ F 87 i = nI d ∧
    ∀ r c, r < h → c < w → ∃ s : Nat, s < 2 ^ b ∧ F (24 + 4 * i) (r * w + c) = nI s ∧ F 89 (576 * i + 24 * r + c) = nI s := h.1
theorem Frm.t {b i : Nat} {F : xF} (h : Frm b i F) : F 88 i = F (23 + 4 * i) 8 ∧ (F 88 i = -1 ∨ ∃ s : Nat, s < 2 ^ b ∧ F 88 i = nI s) := h.2.1
theorem Frm.c {b i : Nat} {F : xF} (h : Frm b i F) : ∀ s, s < 2 ^ b → F 90 (256 * i + s) = F (26 + 4 * i) s ∧ Clr (F 90 (256 * i + s)) := h.2.2
def Frs (b f : Nat) (F : xF) : Prop := f ≤ 12 ∧ F 19 2 = nI f ∧ F 71 23 = nI f ∧ ∀ i, i < f → Frm b i F
def Pal (b : Nat) (F : xF) : Prop := ∀ s, s < 2 ^ b → F 90 (3072 + s) = F 22 s ∧ Clr (F 90 (3072 + s))
def RI (b : Nat) (F : xF) : Prop :=
  Fix b F ∧
  Rule F ∧
  (∃ r, Row b r F) ∧
  (∃ c, Cod c F) ∧
  Tol F ∧
  Tab b F ∧
  (∃ w, Wai w F) ∧
  (∃ q, Red b q F) ∧
  (∃ f, Frs b f F) ∧
  Pal b F
theorem RI.fx {b : Nat} {F : xF} (h : RI b F) : Fix b F := h.1
theorem RI.ru {b : Nat} {F : xF} (h : RI b F) : Rule F := h.2.1
theorem RI.ro {b : Nat} {F : xF} (h : RI b F) : ∃ r, Row b r F := h.2.2.1
theorem RI.co {b : Nat} {F : xF} (h : RI b F) : ∃ c, Cod c F := h.2.2.2.1
theorem RI.to {b : Nat} {F : xF} (h : RI b F) : Tol F := h.2.2.2.2.1
theorem RI.ta {b : Nat} {F : xF} (h : RI b F) : Tab b F := h.2.2.2.2.2.1
theorem RI.wa {b : Nat} {F : xF} (h : RI b F) : ∃ w, Wai w F := h.2.2.2.2.2.2.1
theorem RI.re {b : Nat} {F : xF} (h : RI b F) : ∃ q, Red b q F := h.2.2.2.2.2.2.2.1
theorem RI.fr {b : Nat} {F : xF} (h : RI b F) : ∃ f, Frs b f F := h.2.2.2.2.2.2.2.2.1
theorem RI.pa {b : Nat} {F : xF} (h : RI b F) : Pal b F := h.2.2.2.2.2.2.2.2.2

theorem Fix.ag {b : Nat} {F F' : xF} (h : Fix b F) (g : Ag [(0, 0), (71, 0), (71, 1), (71, 2), (5, 0), (5, 1), (8, 0), (8, 1), (9, 0), (13, 0), (13, 1), (18, 0), (18, 1)] [] F F') : Fix b F' := by
  have g1 := g.1
  simp only [List.forall_mem_cons] at g1
  obtain ⟨e0, e1, e2, e3, e4, e5, e6, e7, e8, e9, e10, e11, e12, -⟩ := g1
  exact ⟨h.h2, h.h8, e0.trans h.a, e1.trans h.m0, e2.trans h.m1, e3.trans h.m2, e4.trans h.c0, e5.trans h.c1, e6.trans h.w0, e7.trans h.w1, e8.trans h.s0, e9.trans h.r0, e10.trans h.r1, e11.trans h.v0, e12.trans h.v1⟩
theorem Rule.ag {F F' : xF} (h : Rule F) (g : Ag [(0, 6), (71, 4)] [] F F') : Rule F' := by
  have g1 := g.1
  have g2 := g.2
  simp only [List.forall_mem_cons] at g1 g2
  obtain ⟨e0, e1, -⟩ := g1
  unfold Rule at h ⊢
  simp only [e0, e1]
  exact h
theorem Row.ag {b r : Nat} {F F' : xF} (h : Row b r F) (g : Ag [(1, 1), (71, 5)] [2, 72] F F') : Row b r F' := by
  have g1 := g.1
  have g2 := g.2
  simp only [List.forall_mem_cons] at g1 g2
  obtain ⟨e0, e1, -⟩ := g1
  obtain ⟨z0, z1, -⟩ := g2
  unfold Row at h ⊢
  simp only [e0, e1, z0, z1]
  exact h
theorem Cod.ag {c : Nat} {F F' : xF} (h : Cod c F) (g : Ag [(6, 1), (71, 7)] [7, 73] F F') : Cod c F' := by
  have g1 := g.1
  have g2 := g.2
  simp only [List.forall_mem_cons] at g1 g2
  obtain ⟨e0, e1, -⟩ := g1
  obtain ⟨z0, z1, -⟩ := g2
  unfold Cod at h ⊢
  simp only [e0, e1, z0, z1]
  exact h
theorem Tol.ag {F F' : xF} (h : Tol F) (g : Ag [(5, 5), (5, 6), (5, 7), (9, 4), (9, 0)] [74] F F') : Tol F' := by
  have g1 := g.1
  have g2 := g.2
  simp only [List.forall_mem_cons] at g1 g2
  obtain ⟨e0, e1, e2, e3, e4, -⟩ := g1
  obtain ⟨z0, -⟩ := g2
  unfold Tol at h ⊢
  simp only [e0, e1, e2, e3, e4, z0]
  exact h
theorem Tab.ag {b : Nat} {F F' : xF} (h : Tab b F) (g : Ag [(9, 4)] [10, 12] F F') : Tab b F' := by
  have g1 := g.1
  have g2 := g.2
  simp only [List.forall_mem_cons] at g1 g2
  obtain ⟨e0, -⟩ := g1
  obtain ⟨z0, z1, -⟩ := g2
  unfold Tab at h ⊢
  simp only [e0, z0, z1]
  exact h
theorem Wai.ag {w : Nat} {F F' : xF} (h : Wai w F) (g : Ag [(3, 1), (71, 10)] [4, 75] F F') : Wai w F' := by
  have g1 := g.1
  have g2 := g.2
  simp only [List.forall_mem_cons] at g1 g2
  obtain ⟨e0, e1, -⟩ := g1
  obtain ⟨z0, z1, -⟩ := g2
  unfold Wai at h ⊢
  simp only [e0, e1, z0, z1]
  exact h
theorem Red.ag {b q : Nat} {F F' : xF} (h : Red b q F) (g : Ag [(14, 1), (71, 12)] [15, 76] F F') : Red b q F' := by
  have g1 := g.1
  have g2 := g.2
  simp only [List.forall_mem_cons] at g1 g2
  obtain ⟨e0, e1, -⟩ := g1
  obtain ⟨z0, z1, -⟩ := g2
  unfold Red at h ⊢
  simp only [e0, e1, z0, z1]
  exact h
theorem Pal.ag {b : Nat} {F F' : xF} (h : Pal b F) (g : Ag [] [22, 90] F F') : Pal b F' := by
  have g1 := g.1
  have g2 := g.2
  simp only [List.forall_mem_cons] at g1 g2
  obtain ⟨z0, z1, -⟩ := g2
  unfold Pal at h ⊢
  simp only [z0, z1]
  exact h
theorem Frm.ag {b i : Nat} {F F' : xF} (h : Frm b i F) (g1 : F' (23 + 4 * i) = F (23 + 4 * i)) (g2 : F' (24 + 4 * i) = F (24 + 4 * i)) (g3 : F' (26 + 4 * i) = F (26 + 4 * i)) (g : ∀ k, 82 ≤ k → k ≤ 90 → F' k = F k) : Frm b i F' := by
  refine ⟨?_, ?_, ?_⟩
  · simp only [g1, g2, g 82 (by decide) (by decide), g 83 (by decide) (by decide), g 84 (by decide) (by decide), g 85 (by decide) (by decide), g 86 (by decide) (by decide), g 87 (by decide) (by decide), g 89 (by decide) (by decide)]
    exact h.g
  · simp only [g1, g 88 (by decide) (by decide)]
    exact h.t
  · simp only [g3, g 90 (by decide) (by decide)]
    exact h.c
theorem Frs.ag {b f : Nat} {F F' : xF} (h : Frs b f F) (h1 : F' 19 2 = F 19 2) (h2 : F' 71 23 = F 71 23) (h3 : ∀ k, 23 ≤ k → k ≤ 70 → F' k = F k) (h4 : ∀ k, 82 ≤ k → k ≤ 90 → F' k = F k) : Frs b f F' := by
  refine ⟨h.1, by rw [h1]; exact h.2.1, by rw [h2]; exact h.2.2.1, fun i hi => ?_⟩
  have := h.1
  exact (h.2.2.2 i hi).ag (h3 _ (by omega) (by omega)) (h3 _ (by omega) (by omega)) (h3 _ (by omega) (by omega)) h4
theorem lgc (v : Int64) : lg_cmp v v = 0 := by unfold lg_cmp; simp
theorem lP_95 {n : Nat} {v : Int64} {G : xL} : lP (SS n) 95 0 v G = some (up2 G 95 0 v) := rfl
theorem lG_95 {n : Nat} {G : xL} : lG (SS n) 95 0 G = some (G 95 0) := rfl
theorem w_put {n N : Nat} {p1 p2 p3 : Int32} {F F1 F2 : xF} {G : xL} {e : Nat} {r b t : Int32} (h1 : f_PF_put (SS n) N 0 p1 p2 p3 F = some (e, r, F1)) (h2 : f_Mo_put (SS n) N 71 p1 p2 p3 F1 = some (b, F2)) (h3 : F2 71 3 = t) (h4 : (e = 0 ∧ t = 0 ∧ r = b) ∨ (e = 1 ∧ t = 1) ∨ (e = 2 ∧ t = 2)) : ∃ G2, q_put (SS n) N 0 71 95 p1 p2 p3 F G = some (1, F2, G2) := by
  unfold q_put f_La_put
  rw [xcl_0, h1]
  rcases h4 with ⟨rfl, rfl, rfl⟩ | ⟨rfl, rfl⟩ | ⟨rfl, rfl⟩
  · refine ⟨up2 G 95 0 r.toInt64, ?_⟩
    simp only [Option.bind_some, if_pos, lP_95, lG_95, xcl_71, h2, f_Mo_thrown, gI_71_3, h3, up2_eq, lgc]
  · refine ⟨G, ?_⟩
    simp [xcl_71, h2, f_Mo_thrown, gI_71_3, h3]
  · refine ⟨G, ?_⟩
    simp [xcl_71, h2, f_Mo_thrown, gI_71_3, h3]
theorem w_rule {n N : Nat} {p1 : Int32} {F F1 F2 : xF} {G : xL} {e : Nat} {r b t : Int32} (h1 : f_PF_rule (SS n) 0 p1 F = some (e, r, F1)) (h2 : f_Mo_rule (SS n) 71 p1 F1 = some (b, F2)) (h3 : F2 71 3 = t) (h4 : (e = 0 ∧ t = 0 ∧ r = b) ∨ (e = 1 ∧ t = 1)) : ∃ G2, q_rule (SS n) N 0 71 95 p1 F G = some (1, F2, G2) := by
  unfold q_rule f_La_rule
  rw [xcl_0, h1]
  rcases h4 with ⟨rfl, rfl, rfl⟩ | ⟨rfl, rfl⟩
  · refine ⟨up2 G 95 0 r.toInt64, ?_⟩
    simp only [Option.bind_some, if_pos, lP_95, lG_95, xcl_71, h2, f_Mo_thrown, gI_71_3, h3, up2_eq, lgc]
  · refine ⟨G, ?_⟩
    simp [xcl_71, h2, f_Mo_thrown, gI_71_3, h3]
theorem w_byteAt {n N : Nat} {p1 : Int32} {F F1 F2 : xF} {G : xL} {e : Nat} {r b t : Int32} (h1 : f_PF_byteAt (SS n) 0 p1 F = some (e, r, F1)) (h2 : f_Mo_byteAt (SS n) 71 p1 F1 = some (b, F2)) (h3 : F2 71 3 = t) (h4 : (e = 0 ∧ t = 0 ∧ r = b) ∨ (e = 3 ∧ t = 1)) : ∃ G2, q_byteAt (SS n) N 0 71 95 p1 F G = some (1, F2, G2) := by
  unfold q_byteAt f_La_byteAt
  rw [xcl_0, h1]
  rcases h4 with ⟨rfl, rfl, rfl⟩ | ⟨rfl, rfl⟩
  · refine ⟨up2 G 95 0 r.toInt64, ?_⟩
    simp only [Option.bind_some, if_pos, lP_95, lG_95, xcl_71, h2, f_Mo_thrown, gI_71_3, h3, up2_eq, lgc]
  · refine ⟨G, ?_⟩
    simp [xcl_71, h2, f_Mo_thrown, gI_71_3, h3]
theorem w_feed {n N : Nat} {p1 : Int32} {F F1 F2 : xF} {G : xL} {e : Nat} {r b t : Int32} (h1 : f_PF_feed (SS n) 0 p1 F = some (e, r, F1)) (h2 : f_Mo_feed (SS n) 71 p1 F1 = some (b, F2)) (h3 : F2 71 3 = t) (h4 : (e = 0 ∧ t = 0 ∧ r = b) ∨ (e = 1 ∧ t = 1) ∨ (e = 2 ∧ t = 2)) : ∃ G2, q_feed (SS n) N 0 71 95 p1 F G = some (1, F2, G2) := by
  unfold q_feed f_La_feed
  rw [xcl_0, h1]
  rcases h4 with ⟨rfl, rfl, rfl⟩ | ⟨rfl, rfl⟩ | ⟨rfl, rfl⟩
  · refine ⟨up2 G 95 0 r.toInt64, ?_⟩
    simp only [Option.bind_some, if_pos, lP_95, lG_95, xcl_71, h2, f_Mo_thrown, gI_71_3, h3, up2_eq, lgc]
  · refine ⟨G, ?_⟩
    simp [xcl_71, h2, f_Mo_thrown, gI_71_3, h3]
  · refine ⟨G, ?_⟩
    simp [xcl_71, h2, f_Mo_thrown, gI_71_3, h3]
theorem w_pass {n N : Nat} {p1 p2 : Int32} {F F1 F2 : xF} {G : xL} {e : Nat} {r b t : Int32} (h1 : f_PF_pass (SS n) N 0 p1 p2 F = some (e, r, F1)) (h2 : f_Mo_pass (SS n) N 71 p1 p2 F1 = some (b, F2)) (h3 : F2 71 3 = t) (h4 : (e = 0 ∧ t = 0 ∧ r = b) ∨ (e = 3 ∧ t = 1) ∨ (e = 1 ∧ t = 2) ∨ (e = 2 ∧ t = 3)) : ∃ G2, q_pass (SS n) N 0 71 95 p1 p2 F G = some (1, F2, G2) := by
  unfold q_pass f_La_pass
  rw [xcl_0, h1]
  rcases h4 with ⟨rfl, rfl, rfl⟩ | ⟨rfl, rfl⟩ | ⟨rfl, rfl⟩ | ⟨rfl, rfl⟩
  · refine ⟨up2 G 95 0 r.toInt64, ?_⟩
    simp only [Option.bind_some, if_pos, lP_95, lG_95, xcl_71, h2, f_Mo_thrown, gI_71_3, h3, up2_eq, lgc]
  · refine ⟨G, ?_⟩
    simp [xcl_71, h2, f_Mo_thrown, gI_71_3, h3]
  · refine ⟨G, ?_⟩
    simp [xcl_71, h2, f_Mo_thrown, gI_71_3, h3]
  · refine ⟨G, ?_⟩
    simp [xcl_71, h2, f_Mo_thrown, gI_71_3, h3]
theorem w_at {n N : Nat} {p1 : Int32} {F F1 F2 : xF} {G : xL} {e : Nat} {r b t : Int32} (h1 : f_PF_at (SS n) 0 p1 F = some (e, r, F1)) (h2 : f_Mo_at (SS n) 71 p1 F1 = some (b, F2)) (h3 : F2 71 3 = t) (h4 : (e = 0 ∧ t = 0 ∧ r = b) ∨ (e = 3 ∧ t = 1)) : ∃ G2, q_at (SS n) N 0 71 95 p1 F G = some (1, F2, G2) := by
  unfold q_at f_La_at
  rw [xcl_0, h1]
  rcases h4 with ⟨rfl, rfl, rfl⟩ | ⟨rfl, rfl⟩
  · refine ⟨up2 G 95 0 r.toInt64, ?_⟩
    simp only [Option.bind_some, if_pos, lP_95, lG_95, xcl_71, h2, f_Mo_thrown, gI_71_3, h3, up2_eq, lgc]
  · refine ⟨G, ?_⟩
    simp [xcl_71, h2, f_Mo_thrown, gI_71_3, h3]
theorem w_frame {n N : Nat} {p1 p2 p3 p4 p5 p6 p7 : Int32} {F F1 F2 : xF} {G : xL} {e : Nat} {r b t : Int32} (h1 : f_PF_frame (SS n) N 0 p1 p2 p3 p4 (xb p5) p6 p7 F = some (e, r, F1)) (h2 : f_Mo_frame (SS n) N 71 p1 p2 p3 p4 (xb p5) p6 p7 F1 = some (b, F2)) (h3 : F2 71 3 = t) (h4 : (e = 0 ∧ t = 0 ∧ r = b) ∨ (e = 1 ∧ t = 1) ∨ (e = 4 ∧ t = 2) ∨ (e = 2 ∧ t = 3)) : ∃ G2, q_frame (SS n) N 0 71 95 p1 p2 p3 p4 p5 p6 p7 F G = some (1, F2, G2) := by
  unfold q_frame f_La_frame
  rw [xcl_0, h1]
  rcases h4 with ⟨rfl, rfl, rfl⟩ | ⟨rfl, rfl⟩ | ⟨rfl, rfl⟩ | ⟨rfl, rfl⟩
  · refine ⟨up2 G 95 0 r.toInt64, ?_⟩
    simp only [Option.bind_some, if_pos, lP_95, lG_95, xcl_71, h2, f_Mo_thrown, gI_71_3, h3, up2_eq, lgc]
  · refine ⟨G, ?_⟩
    simp [xcl_71, h2, f_Mo_thrown, gI_71_3, h3]
  · refine ⟨G, ?_⟩
    simp [xcl_71, h2, f_Mo_thrown, gI_71_3, h3]
  · refine ⟨G, ?_⟩
    simp [xcl_71, h2, f_Mo_thrown, gI_71_3, h3]
theorem w_colour {n N : Nat} {p1 p2 p3 : Int32} {F F1 F2 : xF} {G : xL} {e : Nat} {r b t : Int32} (h1 : f_PF_colour (SS n) 0 p1 p2 p3 F = some (e, r, F1)) (h2 : f_Mo_colour (SS n) N 71 p1 p2 p3 F1 = some (b, F2)) (h3 : F2 71 3 = t) (h4 : (e = 0 ∧ t = 0 ∧ r = b) ∨ (e = 3 ∧ t = 1) ∨ (e = 1 ∧ t = 2)) : ∃ G2, q_colour (SS n) N 0 71 95 p1 p2 p3 F G = some (1, F2, G2) := by
  unfold q_colour f_La_colour
  rw [xcl_0, h1]
  rcases h4 with ⟨rfl, rfl, rfl⟩ | ⟨rfl, rfl⟩ | ⟨rfl, rfl⟩
  · refine ⟨up2 G 95 0 r.toInt64, ?_⟩
    simp only [Option.bind_some, if_pos, lP_95, lG_95, xcl_71, h2, f_Mo_thrown, gI_71_3, h3, up2_eq, lgc]
  · refine ⟨G, ?_⟩
    simp [xcl_71, h2, f_Mo_thrown, gI_71_3, h3]
  · refine ⟨G, ?_⟩
    simp [xcl_71, h2, f_Mo_thrown, gI_71_3, h3]
theorem w_through {n N : Nat} {p1 p2 : Int32} {F F1 F2 : xF} {G : xL} {e : Nat} {r b t : Int32} (h1 : f_PF_through (SS n) 0 p1 p2 F = some (e, r, F1)) (h2 : f_Mo_through (SS n) 71 p1 p2 F1 = some (b, F2)) (h3 : F2 71 3 = t) (h4 : (e = 0 ∧ t = 0 ∧ r = b) ∨ (e = 3 ∧ t = 1)) : ∃ G2, q_through (SS n) N 0 71 95 p1 p2 F G = some (1, F2, G2) := by
  unfold q_through f_La_through
  rw [xcl_0, h1]
  rcases h4 with ⟨rfl, rfl, rfl⟩ | ⟨rfl, rfl⟩
  · refine ⟨up2 G 95 0 r.toInt64, ?_⟩
    simp only [Option.bind_some, if_pos, lP_95, lG_95, xcl_71, h2, f_Mo_thrown, gI_71_3, h3, up2_eq, lgc]
  · refine ⟨G, ?_⟩
    simp [xcl_71, h2, f_Mo_thrown, gI_71_3, h3]
theorem w_shown {n N : Nat} {p1 p2 p3 : Int32} {F F1 F2 : xF} {G : xL} {e : Nat} {r b t : Int32} (h1 : f_PF_shown (SS n) N 0 p1 p2 p3 F = some (e, r, F1)) (h2 : f_Mo_shown (SS n) N 71 p1 p2 p3 F1 = some (b, F2)) (h3 : F2 71 3 = t) (h4 : (e = 0 ∧ t = 0 ∧ r = b) ∨ (e = 3 ∧ t = 1)) : ∃ G2, q_shown (SS n) N 0 71 95 p1 p2 p3 F G = some (1, F2, G2) := by
  unfold q_shown f_La_shown
  rw [xcl_0, h1]
  rcases h4 with ⟨rfl, rfl, rfl⟩ | ⟨rfl, rfl⟩
  · refine ⟨up2 G 95 0 r.toInt64, ?_⟩
    simp only [Option.bind_some, if_pos, lP_95, lG_95, xcl_71, h2, f_Mo_thrown, gI_71_3, h3, up2_eq, lgc]
  · refine ⟨G, ?_⟩
    simp [xcl_71, h2, f_Mo_thrown, gI_71_3, h3]
theorem w_symbol {n N : Nat} {p1 p2 p3 : Int32} {F F1 F2 : xF} {G : xL} {e : Nat} {r b t : Int32} (h1 : f_PF_symbol (SS n) 0 p1 p2 p3 F = some (e, r, F1)) (h2 : f_Mo_symbol (SS n) 71 p1 p2 p3 F1 = some (b, F2)) (h3 : F2 71 3 = t) (h4 : (e = 0 ∧ t = 0 ∧ r = b) ∨ (e = 3 ∧ t = 1)) : ∃ G2, q_symbol (SS n) N 0 71 95 p1 p2 p3 F G = some (1, F2, G2) := by
  unfold q_symbol f_La_symbol
  rw [xcl_0, h1]
  rcases h4 with ⟨rfl, rfl, rfl⟩ | ⟨rfl, rfl⟩
  · refine ⟨up2 G 95 0 r.toInt64, ?_⟩
    simp only [Option.bind_some, if_pos, lP_95, lG_95, xcl_71, h2, f_Mo_thrown, gI_71_3, h3, up2_eq, lgc]
  · refine ⟨G, ?_⟩
    simp [xcl_71, h2, f_Mo_thrown, gI_71_3, h3]
theorem w_when {n N : Nat} {p1 p2 : Int32} {F F1 F2 : xF} {G : xL} {e : Nat} {r b t : Int32} (h1 : f_PF_when (SS n) N 0 p1 p2 F = some (e, r, F1)) (h2 : f_Mo_when (SS n) N 71 p1 p2 F1 = some (b, F2)) (h3 : F2 71 3 = t) (h4 : (e = 0 ∧ t = 0 ∧ r = b) ∨ (e = 1 ∧ t = 1)) : ∃ G2, q_when (SS n) N 0 71 95 p1 p2 F G = some (1, F2, G2) := by
  unfold q_when f_La_when
  rw [xcl_0, h1]
  rcases h4 with ⟨rfl, rfl, rfl⟩ | ⟨rfl, rfl⟩
  · refine ⟨up2 G 95 0 r.toInt64, ?_⟩
    simp only [Option.bind_some, if_pos, lP_95, lG_95, xcl_71, h2, f_Mo_thrown, gI_71_3, h3, up2_eq, lgc]
  · refine ⟨G, ?_⟩
    simp [xcl_71, h2, f_Mo_thrown, gI_71_3, h3]
theorem w_passOf {n N : Nat} {p1 : Int32} {F F1 F2 : xF} {G : xL} {e : Nat} {r b t : Int32} (h1 : f_PF_passOf (SS n) 0 p1 F = some (e, r, F1)) (h2 : f_Mo_passOf (SS n) 71 p1 F1 = some (b, F2)) (h3 : F2 71 3 = t) (h4 : (e = 0 ∧ t = 0 ∧ r = b) ∨ (e = 1 ∧ t = 1)) : ∃ G2, q_passOf (SS n) N 0 71 95 p1 F G = some (1, F2, G2) := by
  unfold q_passOf f_La_passOf
  rw [xcl_0, h1]
  rcases h4 with ⟨rfl, rfl, rfl⟩ | ⟨rfl, rfl⟩
  · refine ⟨up2 G 95 0 r.toInt64, ?_⟩
    simp only [Option.bind_some, if_pos, lP_95, lG_95, xcl_71, h2, f_Mo_thrown, gI_71_3, h3, up2_eq, lgc]
  · refine ⟨G, ?_⟩
    simp [xcl_71, h2, f_Mo_thrown, gI_71_3, h3]
