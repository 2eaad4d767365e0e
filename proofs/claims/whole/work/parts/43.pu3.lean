theorem RI.code {b : Nat} {F : xF} {v : Int32} (h : RI b F) : RI b (up2 F 71 3 v) := by
  obtain ⟨h1, h2, ⟨r, h3⟩, ⟨c, h4⟩, h5, h6, ⟨w, h7⟩, ⟨q, h8⟩, ⟨f, h9⟩, h10⟩ := h
  exact ⟨h1.ag ⟨by simp [up2, upR], by simp [up2_row, upR]⟩, h2.ag ⟨by simp [up2, upR], by simp [up2_row, upR]⟩, ⟨r, h3.ag ⟨by simp [up2, upR], by simp [up2_row, upR]⟩⟩, ⟨c, h4.ag ⟨by simp [up2, upR], by simp [up2_row, upR]⟩⟩, h5.ag ⟨by simp [up2, upR], by simp [up2_row, upR]⟩, h6.ag ⟨by simp [up2, upR], by simp [up2_row, upR]⟩, ⟨w, h7.ag ⟨by simp [up2, upR], by simp [up2_row, upR]⟩⟩, ⟨q, h8.ag ⟨by simp [up2, upR], by simp [up2_row, upR]⟩⟩, ⟨f, h9.ag (by simp [up2]) (by simp [up2]) (fun k h1 h2 => by funext j; simp only [up2, upR]; repeat rw [if_neg (by omega)]) (fun k h1 h2 => by funext j; simp only [up2, upR]; repeat rw [if_neg (by omega)])⟩, h10.ag ⟨by simp [up2, upR], by simp [up2_row, upR]⟩⟩
theorem up2_up2 {α : Type} (F : Nat → Nat → α) (a k : Nat) (v w : α) : up2 (up2 F a k v) a k w = up2 F a k w := by
  funext i j; simp only [up2]; split <;> (try split) <;> rfl
section SI
variable {b n N : Nat} {F : xF} {G : xL} {p1 p2 p3 : Int32}
theorem s_rule (h : RI b F) : ∃ F2 G2, q_rule (SS n) N 0 71 95 p1 F G = some (1, F2, G2) ∧ RI b F2 := by
  by_cases c1 : p1 < 0
  · have e1 : f_PF_rule (SS n) 0 p1 F = some (1, 0, F) := by unfold f_PF_rule; rw [if_pos c1]
    have e2 : f_Mo_rule (SS n) 71 p1 F = some (0, up2 F 71 3 1) := by
      unfold f_Mo_rule; rw [if_pos c1]; simp only [pI_71_3, Option.bind_some, gI_71_3, up2_eq]; rfl
    obtain ⟨G2, e3⟩ := w_rule (N := N) (G := G) e1 e2 (up2_eq F 71 3 1) (Or.inr ⟨rfl, rfl⟩)
    exact ⟨_, G2, e3, h.code⟩
  · by_cases c2 : p1 ≤ 2
    · obtain ⟨k, rfl, hk1, hk2⟩ := nI_rng (lo := 0) (hi := 2) c1 c2 (by decide) (by decide)
      have e1 : f_PF_rule (SS n) 0 (nI k) F = some (0, F 0 6, up2 F 0 6 (nI k)) := by
        unfold f_PF_rule; rw [if_neg c1, if_pos c2]; simp only [pI_0_6, Option.bind_some, gI_0_6]
      have e2 : f_Mo_rule (SS n) 71 (nI k) (up2 F 0 6 (nI k)) = some (F 71 4, up2 (up2 (up2 F 0 6 (nI k)) 71 3 0) 71 4 (nI k)) := by
        unfold f_Mo_rule; rw [if_neg c1, if_pos c2]; simp only [pI_71_3, Option.bind_some, gI_71_3, up2_eq, gI_71_4, pI_71_4]
        rfl
      obtain ⟨j, hj1, hj2, hj3⟩ := h.ru
      obtain ⟨G2, e3⟩ := w_rule (N := N) (G := G) e1 e2 (t := 0) (by simp [up2]) (Or.inl ⟨rfl, rfl, by rw [hj2, hj3]⟩)
      refine ⟨_, G2, e3, ?_⟩
      obtain ⟨h1, h2, ⟨r, h3⟩, ⟨c, h4⟩, h5, h6, ⟨w, h7⟩, ⟨q, h8⟩, ⟨f, h9⟩, h10⟩ := h
      exact ⟨h1.ag ⟨by simp [up2, upR], by simp [up2_row, upR]⟩, ⟨k, hk2, by simp [up2], by simp [up2]⟩, ⟨r, h3.ag ⟨by simp [up2, upR], by simp [up2_row, upR]⟩⟩, ⟨c, h4.ag ⟨by simp [up2, upR], by simp [up2_row, upR]⟩⟩, h5.ag ⟨by simp [up2, upR], by simp [up2_row, upR]⟩, h6.ag ⟨by simp [up2, upR], by simp [up2_row, upR]⟩, ⟨w, h7.ag ⟨by simp [up2, upR], by simp [up2_row, upR]⟩⟩, ⟨q, h8.ag ⟨by simp [up2, upR], by simp [up2_row, upR]⟩⟩, ⟨f, h9.ag (by simp [up2]) (by simp [up2]) (fun k h1 h2 => by funext j; simp only [up2, upR]; repeat rw [if_neg (by omega)]) (fun k h1 h2 => by funext j; simp only [up2, upR]; repeat rw [if_neg (by omega)])⟩, h10.ag ⟨by simp [up2, upR], by simp [up2_row, upR]⟩⟩
    · have e1 : f_PF_rule (SS n) 0 p1 F = some (1, 0, F) := by unfold f_PF_rule; rw [if_neg c1, if_neg c2]
      have e2 : f_Mo_rule (SS n) 71 p1 F = some (0, up2 F 71 3 1) := by
        unfold f_Mo_rule; rw [if_neg c1, if_neg c2]; simp only [pI_71_3, Option.bind_some, gI_71_3, up2_eq]; rfl
      obtain ⟨G2, e3⟩ := w_rule (N := N) (G := G) e1 e2 (up2_eq F 71 3 1) (Or.inr ⟨rfl, rfl⟩)
      exact ⟨_, G2, e3, h.code⟩
end SI
