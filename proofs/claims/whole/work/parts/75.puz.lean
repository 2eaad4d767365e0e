/-! the law, pure -/
section PL
variable {b n N L : Nat} {F : xF} {xs : Nat → Int32}
theorem pure_law (hL : L ≤ 4097) : ∃ N, f_law N L xs = some 1 := by
  obtain ⟨N, hN⟩ : ∃ N, N = 600001 := ⟨_, rfl⟩
  refine ⟨N, ?_⟩
  obtain ⟨b, hb2, hb8, hB, hmo⟩ := least_of (cellv L xs)
  obtain ⟨F0, hF0⟩ : ∃ F0 : xF, F0 = upR (fun _ _ => 0) 0 (fun _ => 0) := ⟨_, rfl⟩
  have e1 : nO [] 8 [none, some .null, some .null, some .null, some .null, some .null, none] (fun _ _ => 0) = some ([Sum.inr (.inr (8, [none, some .null, some .null, some .null, some .null, some .null, none]))], F0, 0) := by rw [hF0]; rfl
  obtain ⟨F1, k1, k2, k3, k4, k5⟩ := pf_of (F := F0) (N := N) hB hb8 (by omega)
  obtain ⟨hp4, hp256⟩ := pw8 hb2 hb8
  have hK : xKK = 96 := rfl
  have e3 := nO_of (S := YZ (2 ^ b)) (F := F1) (ci := 9) (fs := [none, none, none, none, none, none, some .null, none, some .null, some .null, none, some .null, none, some .null, none, some .null, some .null, some .null, some .null, some .null, none, none, none, none, some .null, some .null, some .null, some .null, some .null, some .null, some .null, some .null, some .null, some .null, some .null, some .null, some .null]) (by rw [YZ_len]; omega)
  rw [YZ_len] at e3
  obtain ⟨F3, m1, m2, m3, m4, m5, m6, m7, m8, m9, m10, m11, m12, m13⟩ := moU_of (n := 2 ^ b) (N := N) (F := FMo (upR F1 71 (fun _ => 0))) hb8 (by omega)
  have e4 := mo0 (N := N) (p0 := cellv L xs) (F := upR F1 71 (fun _ => 0)) (YZ_len (n := 2 ^ b))
  rw [hmo] at e4
  have e4' := e4.trans m1
  have hlen : (YZ (2 ^ b) ++ (OM :: LM)).length = 95 := by
    rw [List.length_append, YZ_len]; rfl
  have e5 : nL (YZ (2 ^ b) ++ (OM :: LM)) (fun _ _ => 0) = some (SS (2 ^ b), upR (fun _ _ => 0) 95 (fun _ => 0), 95) := by
    unfold nL
    rw [hlen, if_pos (by omega), SS_YZ]
  have lo : ∀ c, c < 71 → F3 c = F1 c := fun c hc => by rw [m2 c (by omega) (by omega) (by omega), FMo_lo (by omega), upR_ne _ _ _ (by omega)]
  have lo2 : ∀ c, c < 20 → c ≠ 0 → F3 c = F55 b F0 c := fun c h1 h2 => by rw [lo c (by omega), k2 c h1 h2]
  have n1 : (1 : Int32) <<< (nI b &&& 31) = nI (2 ^ b) := sh1 (by omega)
  have n2 : (1 : Int32) <<< (nI b &&& 31) + 1 = nI (2 ^ b + 1) := by rw [n1, nI_1]
  have z : ∀ a j, F0 a j = 0 := fun a j => by rw [hF0]; simp [upR]
  have hRI : RI b F3 := by
    refine ⟨⟨hb2, hb8, ?_, m3, m4, m5, ?_, ?_, ?_, ?_, ?_, ?_, ?_, ?_, ?_⟩, ⟨0, by decide, ?_, m8⟩, ⟨0, by decide, ?_, m9, fun k hk => absurd hk (Nat.not_lt_zero k)⟩, ⟨0, by decide, ?_, m10, fun k hk => absurd hk (Nat.not_lt_zero k)⟩, ⟨?_, ?_, ?_, ?_⟩, ⟨2 ^ b + 1, Nat.le_refl _, by omega, ?_, fun e q1 q2 => by omega, fun s hs => Or.inl ?_⟩, ⟨0, by decide, ?_, m11, fun k hk => absurd hk (Nat.not_lt_zero k)⟩, ⟨0, by decide, ?_, m12, fun k hk => absurd hk (Nat.not_lt_zero k)⟩, ⟨0, by decide, ?_, m13, fun k hk => absurd hk (Nat.not_lt_zero k)⟩, fun s hs => ⟨?_, Or.inl ?_⟩⟩
    · rw [lo 0 (by decide), k3 0 (by decide)]; simp [F55, up2, upR]
    · rw [lo2 5 (by decide) (by decide), ← n1]; simp [F55, up2, upR]
    · rw [lo2 5 (by decide) (by decide), ← n2]; simp [F55, up2, upR]
    · rw [lo2 8 (by decide) (by decide)]; simp [F55, up2, upR]
    · rw [lo2 8 (by decide) (by decide), ← n2]; simp [F55, up2, upR]
    · rw [lo2 9 (by decide) (by decide), ← n2]; simp [F55, up2, upR]
    · rw [lo2 13 (by decide) (by decide), ← n1]; simp [F55, up2, upR]
    · rw [lo2 13 (by decide) (by decide), ← n2]; simp [F55, up2, upR]
    · rw [lo2 18 (by decide) (by decide)]; simp [F55, up2, upR]
    · rw [lo2 18 (by decide) (by decide), ← n2]; simp [F55, up2, upR]
    · rw [lo 0 (by decide), k4]; rfl
    · rw [lo2 1 (by decide) (by decide)]; simp [F55, up2, upR]; rfl
    · rw [lo2 6 (by decide) (by decide)]; simp [F55, up2, upR]; rfl
    · rw [m6 0 (by decide), lo2 5 (by decide) (by decide)]; simp [F55, up2, upR]; rfl
    · rw [m6 1 (by decide), lo2 5 (by decide) (by decide)]; simp [F55, up2, upR]; rfl
    · rw [m6 2 (by decide), lo2 5 (by decide) (by decide)]; simp [F55, up2, upR]; rfl
    · rw [m6 3 (by decide), lo2 9 (by decide) (by decide)]; simp [F55, up2, upR]; rfl
    · rw [lo2 9 (by decide) (by decide), ← n2]; simp [F55, up2, upR]
    · rw [lo2 10 (by decide) (by decide)]; simp [F55, up2, upR]; rfl
    · rw [lo2 3 (by decide) (by decide)]; simp [F55, up2, upR]; rfl
    · rw [lo2 14 (by decide) (by decide)]; simp [F55, up2, upR]; rfl
    · rw [lo2 19 (by decide) (by decide)]; simp [F55, up2, upR]; rfl
    · rw [m7 _ (by omega), lo 22 (by decide), k5 s hs]
    · exact m7 _ (by omega)
  unfold f_law
  simp only [e1, Option.bind_some, k1, e3]
  rw [e4', Option.bind_some, e5, Option.bind_some]
  exact law_loop (b := b) rfl (by omega) hL 1000 1 F3 _ hRI (by decide) (by omega) (by decide)
end PL
