/-- the shapes of the world when all is made: n colours a palette -/
def SS (n : Nat) : List xO := [.inr (.inr (8, [none, some (.ref 1), some (.ref 3), some (.ref 5), some (.ref 13), some (.ref 19), none])),
  .inr (.inr (0, [some (.ref 2), none])),
  .inl (0, 12000),
  .inr (.inr (0, [some (.ref 4), none])),
  .inl (0, 24000),
  .inr (.inr (3, [none, none, some (.ref 8), some (.ref 9), some (.ref 6), none, none, none, none, none, none, none])),
  .inr (.inr (0, [some (.ref 7), none])),
  .inl (0, 18060),
  .inr (.inr (1, [none, none, none, none])),
  .inr (.inr (2, [none, some (.ref 10), some (.ref 11), some (.ref 12), none])),
  .inl (0, 8192),
  .inl (0, 4096),
  .inl (0, 4096),
  .inr (.inr (4, [none, none, some (.ref 18), some (.ref 14), some (.ref 16), some (.ref 17), none])),
  .inr (.inr (0, [some (.ref 15), none])),
  .inl (0, 12000),
  .inl (0, 4096),
  .inl (0, 4096),
  .inr (.inr (1, [none, none, none, none])),
  .inr (.inr (7, [some (.ref 20), some (.ref 21), none])),
  .inr (.inl (2, [some 23, some 27, some 31, some 35, some 39, some 43, some 47, some 51, some 55, some 59, some 63, some 67])),
  .inr (.inr (5, [some (.ref 22)])),
  .inl (0, n),
  .inr (.inr (6, [some (.ref 24), some (.ref 25), none, none, none, none, none, none, none])),
  .inl (0, 576),
  .inr (.inr (5, [some (.ref 26)])),
  .inl (0, n),
  .inr (.inr (6, [some (.ref 28), some (.ref 29), none, none, none, none, none, none, none])),
  .inl (0, 576),
  .inr (.inr (5, [some (.ref 30)])),
  .inl (0, n),
  .inr (.inr (6, [some (.ref 32), some (.ref 33), none, none, none, none, none, none, none])),
  .inl (0, 576),
  .inr (.inr (5, [some (.ref 34)])),
  .inl (0, n),
  .inr (.inr (6, [some (.ref 36), some (.ref 37), none, none, none, none, none, none, none])),
  .inl (0, 576),
  .inr (.inr (5, [some (.ref 38)])),
  .inl (0, n),
  .inr (.inr (6, [some (.ref 40), some (.ref 41), none, none, none, none, none, none, none])),
  .inl (0, 576),
  .inr (.inr (5, [some (.ref 42)])),
  .inl (0, n),
  .inr (.inr (6, [some (.ref 44), some (.ref 45), none, none, none, none, none, none, none])),
  .inl (0, 576),
  .inr (.inr (5, [some (.ref 46)])),
  .inl (0, n),
  .inr (.inr (6, [some (.ref 48), some (.ref 49), none, none, none, none, none, none, none])),
  .inl (0, 576),
  .inr (.inr (5, [some (.ref 50)])),
  .inl (0, n),
  .inr (.inr (6, [some (.ref 52), some (.ref 53), none, none, none, none, none, none, none])),
  .inl (0, 576),
  .inr (.inr (5, [some (.ref 54)])),
  .inl (0, n),
  .inr (.inr (6, [some (.ref 56), some (.ref 57), none, none, none, none, none, none, none])),
  .inl (0, 576),
  .inr (.inr (5, [some (.ref 58)])),
  .inl (0, n),
  .inr (.inr (6, [some (.ref 60), some (.ref 61), none, none, none, none, none, none, none])),
  .inl (0, 576),
  .inr (.inr (5, [some (.ref 62)])),
  .inl (0, n),
  .inr (.inr (6, [some (.ref 64), some (.ref 65), none, none, none, none, none, none, none])),
  .inl (0, 576),
  .inr (.inr (5, [some (.ref 66)])),
  .inl (0, n),
  .inr (.inr (6, [some (.ref 68), some (.ref 69), none, none, none, none, none, none, none])),
  .inl (0, 576),
  .inr (.inr (5, [some (.ref 70)])),
  .inl (0, n),
  .inr (.inr (9, [none, none, none, none, none, none, some (.ref 72), none, some (.ref 73), some (.ref 74), none, some (.ref 75), none, some (.ref 76), none, some (.ref 77), some (.ref 78), some (.ref 79), some (.ref 80), some (.ref 81), none, none, none, none, some (.ref 82), some (.ref 83), some (.ref 84), some (.ref 85), some (.ref 86), some (.ref 87), some (.ref 88), some (.ref 89), some (.ref 90), some (.ref 91), some (.ref 92), some (.ref 93), some (.ref 94)])),
  .inl (0, 12000),
  .inl (3, 24000),
  .inl (0, 4),
  .inl (3, 24000),
  .inl (0, 12000),
  .inl (0, 4096),
  .inl (0, 4096),
  .inl (0, 4096),
  .inl (0, 4096),
  .inl (0, 4096),
  .inl (0, 12),
  .inl (0, 12),
  .inl (0, 12),
  .inl (0, 12),
  .inl (0, 12),
  .inl (0, 12),
  .inl (0, 12),
  .inl (0, 6912),
  .inl (0, 3328),
  .inl (0, 576),
  .inl (0, 576),
  .inl (0, 576),
  .inl (0, 576),
  .inl (1, 1)]
section PU0
variable {n : Nat} {F : xF} {v j : Int32}
theorem xcl_0 {α : Type} {o : Option α} : xcl (SS n) 8 0 o = o := rfl
theorem gI_0_0 : gI (SS n) 8 0 0 F = some (F 0 0) := rfl
theorem pI_0_0 : pI (SS n) 8 0 0 v F = some (up2 F 0 0 v) := rfl
theorem gR_0_1 : gR (SS n) 8 0 1 = some 1 := rfl
theorem gR_0_2 : gR (SS n) 8 0 2 = some 3 := rfl
theorem gR_0_3 : gR (SS n) 8 0 3 = some 5 := rfl
theorem gR_0_4 : gR (SS n) 8 0 4 = some 13 := rfl
theorem gR_0_5 : gR (SS n) 8 0 5 = some 19 := rfl
theorem gI_0_6 : gI (SS n) 8 0 6 F = some (F 0 6) := rfl
theorem pI_0_6 : pI (SS n) 8 0 6 v F = some (up2 F 0 6 v) := rfl
theorem xcl_1 {α : Type} {o : Option α} : xcl (SS n) 0 1 o = o := rfl
theorem gR_1_0 : gR (SS n) 0 1 0 = some 2 := rfl
theorem gI_1_1 : gI (SS n) 0 1 1 F = some (F 1 1) := rfl
theorem pI_1_1 : pI (SS n) 0 1 1 v F = some (up2 F 1 1 v) := rfl
theorem sh_2 : (SS n)[2]? = some (.inl (0, 12000)) := rfl
theorem xcl_3 {α : Type} {o : Option α} : xcl (SS n) 0 3 o = o := rfl
theorem gR_3_0 : gR (SS n) 0 3 0 = some 4 := rfl
theorem gI_3_1 : gI (SS n) 0 3 1 F = some (F 3 1) := rfl
theorem pI_3_1 : pI (SS n) 0 3 1 v F = some (up2 F 3 1 v) := rfl
theorem sh_4 : (SS n)[4]? = some (.inl (0, 24000)) := rfl
theorem xcl_5 {α : Type} {o : Option α} : xcl (SS n) 3 5 o = o := rfl
theorem gI_5_0 : gI (SS n) 3 5 0 F = some (F 5 0) := rfl
theorem pI_5_0 : pI (SS n) 3 5 0 v F = some (up2 F 5 0 v) := rfl
theorem gI_5_1 : gI (SS n) 3 5 1 F = some (F 5 1) := rfl
theorem pI_5_1 : pI (SS n) 3 5 1 v F = some (up2 F 5 1 v) := rfl
theorem gR_5_2 : gR (SS n) 3 5 2 = some 8 := rfl
theorem gR_5_3 : gR (SS n) 3 5 3 = some 9 := rfl
theorem gR_5_4 : gR (SS n) 3 5 4 = some 6 := rfl
theorem gI_5_5 : gI (SS n) 3 5 5 F = some (F 5 5) := rfl
theorem pI_5_5 : pI (SS n) 3 5 5 v F = some (up2 F 5 5 v) := rfl
theorem gI_5_6 : gI (SS n) 3 5 6 F = some (F 5 6) := rfl
theorem pI_5_6 : pI (SS n) 3 5 6 v F = some (up2 F 5 6 v) := rfl
theorem gI_5_7 : gI (SS n) 3 5 7 F = some (F 5 7) := rfl
theorem pI_5_7 : pI (SS n) 3 5 7 v F = some (up2 F 5 7 v) := rfl
theorem gI_5_8 : gI (SS n) 3 5 8 F = some (F 5 8) := rfl
theorem pI_5_8 : pI (SS n) 3 5 8 v F = some (up2 F 5 8 v) := rfl
theorem gI_5_9 : gI (SS n) 3 5 9 F = some (F 5 9) := rfl
theorem pI_5_9 : pI (SS n) 3 5 9 v F = some (up2 F 5 9 v) := rfl
theorem gI_5_10 : gI (SS n) 3 5 10 F = some (F 5 10) := rfl
theorem pI_5_10 : pI (SS n) 3 5 10 v F = some (up2 F 5 10 v) := rfl
theorem gI_5_11 : gI (SS n) 3 5 11 F = some (F 5 11) := rfl
theorem pI_5_11 : pI (SS n) 3 5 11 v F = some (up2 F 5 11 v) := rfl
theorem xcl_6 {α : Type} {o : Option α} : xcl (SS n) 0 6 o = o := rfl
theorem gR_6_0 : gR (SS n) 0 6 0 = some 7 := rfl
theorem gI_6_1 : gI (SS n) 0 6 1 F = some (F 6 1) := rfl
theorem pI_6_1 : pI (SS n) 0 6 1 v F = some (up2 F 6 1 v) := rfl
theorem sh_7 : (SS n)[7]? = some (.inl (0, 18060)) := rfl
theorem xcl_8 {α : Type} {o : Option α} : xcl (SS n) 1 8 o = o := rfl
theorem gI_8_0 : gI (SS n) 1 8 0 F = some (F 8 0) := rfl
theorem pI_8_0 : pI (SS n) 1 8 0 v F = some (up2 F 8 0 v) := rfl
theorem gI_8_1 : gI (SS n) 1 8 1 F = some (F 8 1) := rfl
theorem pI_8_1 : pI (SS n) 1 8 1 v F = some (up2 F 8 1 v) := rfl
theorem gI_8_2 : gI (SS n) 1 8 2 F = some (F 8 2) := rfl
theorem pI_8_2 : pI (SS n) 1 8 2 v F = some (up2 F 8 2 v) := rfl
theorem gI_8_3 : gI (SS n) 1 8 3 F = some (F 8 3) := rfl
theorem pI_8_3 : pI (SS n) 1 8 3 v F = some (up2 F 8 3 v) := rfl
theorem xcl_9 {α : Type} {o : Option α} : xcl (SS n) 2 9 o = o := rfl
theorem gI_9_0 : gI (SS n) 2 9 0 F = some (F 9 0) := rfl
theorem pI_9_0 : pI (SS n) 2 9 0 v F = some (up2 F 9 0 v) := rfl
theorem gR_9_1 : gR (SS n) 2 9 1 = some 10 := rfl
theorem gR_9_2 : gR (SS n) 2 9 2 = some 11 := rfl
theorem gR_9_3 : gR (SS n) 2 9 3 = some 12 := rfl
theorem gI_9_4 : gI (SS n) 2 9 4 F = some (F 9 4) := rfl
theorem pI_9_4 : pI (SS n) 2 9 4 v F = some (up2 F 9 4 v) := rfl
theorem sh_10 : (SS n)[10]? = some (.inl (0, 8192)) := rfl
theorem sh_11 : (SS n)[11]? = some (.inl (0, 4096)) := rfl
theorem sh_12 : (SS n)[12]? = some (.inl (0, 4096)) := rfl
theorem xcl_13 {α : Type} {o : Option α} : xcl (SS n) 4 13 o = o := rfl
theorem gI_13_0 : gI (SS n) 4 13 0 F = some (F 13 0) := rfl
theorem pI_13_0 : pI (SS n) 4 13 0 v F = some (up2 F 13 0 v) := rfl
theorem gI_13_1 : gI (SS n) 4 13 1 F = some (F 13 1) := rfl
theorem pI_13_1 : pI (SS n) 4 13 1 v F = some (up2 F 13 1 v) := rfl
theorem gR_13_2 : gR (SS n) 4 13 2 = some 18 := rfl
theorem gR_13_3 : gR (SS n) 4 13 3 = some 14 := rfl
theorem gR_13_4 : gR (SS n) 4 13 4 = some 16 := rfl
theorem gR_13_5 : gR (SS n) 4 13 5 = some 17 := rfl
theorem gI_13_6 : gI (SS n) 4 13 6 F = some (F 13 6) := rfl
theorem pI_13_6 : pI (SS n) 4 13 6 v F = some (up2 F 13 6 v) := rfl
theorem xcl_14 {α : Type} {o : Option α} : xcl (SS n) 0 14 o = o := rfl
theorem gR_14_0 : gR (SS n) 0 14 0 = some 15 := rfl
theorem gI_14_1 : gI (SS n) 0 14 1 F = some (F 14 1) := rfl
theorem pI_14_1 : pI (SS n) 0 14 1 v F = some (up2 F 14 1 v) := rfl
theorem sh_15 : (SS n)[15]? = some (.inl (0, 12000)) := rfl
theorem sh_16 : (SS n)[16]? = some (.inl (0, 4096)) := rfl
theorem sh_17 : (SS n)[17]? = some (.inl (0, 4096)) := rfl
theorem xcl_18 {α : Type} {o : Option α} : xcl (SS n) 1 18 o = o := rfl
theorem gI_18_0 : gI (SS n) 1 18 0 F = some (F 18 0) := rfl
theorem pI_18_0 : pI (SS n) 1 18 0 v F = some (up2 F 18 0 v) := rfl
theorem gI_18_1 : gI (SS n) 1 18 1 F = some (F 18 1) := rfl
theorem pI_18_1 : pI (SS n) 1 18 1 v F = some (up2 F 18 1 v) := rfl
theorem gI_18_2 : gI (SS n) 1 18 2 F = some (F 18 2) := rfl
theorem pI_18_2 : pI (SS n) 1 18 2 v F = some (up2 F 18 2 v) := rfl
theorem gI_18_3 : gI (SS n) 1 18 3 F = some (F 18 3) := rfl
theorem pI_18_3 : pI (SS n) 1 18 3 v F = some (up2 F 18 3 v) := rfl
theorem xcl_19 {α : Type} {o : Option α} : xcl (SS n) 7 19 o = o := rfl
theorem gR_19_0 : gR (SS n) 7 19 0 = some 20 := rfl
theorem gR_19_1 : gR (SS n) 7 19 1 = some 21 := rfl
theorem gI_19_2 : gI (SS n) 7 19 2 F = some (F 19 2) := rfl
theorem pI_19_2 : pI (SS n) 7 19 2 v F = some (up2 F 19 2 v) := rfl
theorem xcl_21 {α : Type} {o : Option α} : xcl (SS n) 5 21 o = o := rfl
theorem gR_21_0 : gR (SS n) 5 21 0 = some 22 := rfl
theorem sh_22 : (SS n)[22]? = some (.inl (0, n)) := rfl
theorem xcl_71 {α : Type} {o : Option α} : xcl (SS n) 9 71 o = o := rfl
theorem gI_71_0 : gI (SS n) 9 71 0 F = some (F 71 0) := rfl
theorem pI_71_0 : pI (SS n) 9 71 0 v F = some (up2 F 71 0 v) := rfl
theorem gI_71_1 : gI (SS n) 9 71 1 F = some (F 71 1) := rfl
theorem pI_71_1 : pI (SS n) 9 71 1 v F = some (up2 F 71 1 v) := rfl
theorem gI_71_2 : gI (SS n) 9 71 2 F = some (F 71 2) := rfl
theorem pI_71_2 : pI (SS n) 9 71 2 v F = some (up2 F 71 2 v) := rfl
theorem gI_71_3 : gI (SS n) 9 71 3 F = some (F 71 3) := rfl
theorem pI_71_3 : pI (SS n) 9 71 3 v F = some (up2 F 71 3 v) := rfl
theorem gI_71_4 : gI (SS n) 9 71 4 F = some (F 71 4) := rfl
theorem pI_71_4 : pI (SS n) 9 71 4 v F = some (up2 F 71 4 v) := rfl
theorem gI_71_5 : gI (SS n) 9 71 5 F = some (F 71 5) := rfl
theorem pI_71_5 : pI (SS n) 9 71 5 v F = some (up2 F 71 5 v) := rfl
theorem gR_71_6 : gR (SS n) 9 71 6 = some 72 := rfl
theorem gI_71_7 : gI (SS n) 9 71 7 F = some (F 71 7) := rfl
theorem pI_71_7 : pI (SS n) 9 71 7 v F = some (up2 F 71 7 v) := rfl
theorem gR_71_8 : gR (SS n) 9 71 8 = some 73 := rfl
theorem gR_71_9 : gR (SS n) 9 71 9 = some 74 := rfl
theorem gI_71_10 : gI (SS n) 9 71 10 F = some (F 71 10) := rfl
theorem pI_71_10 : pI (SS n) 9 71 10 v F = some (up2 F 71 10 v) := rfl
theorem gR_71_11 : gR (SS n) 9 71 11 = some 75 := rfl
theorem gI_71_12 : gI (SS n) 9 71 12 F = some (F 71 12) := rfl
theorem pI_71_12 : pI (SS n) 9 71 12 v F = some (up2 F 71 12 v) := rfl
theorem gR_71_13 : gR (SS n) 9 71 13 = some 76 := rfl
theorem gI_71_14 : gI (SS n) 9 71 14 F = some (F 71 14) := rfl
theorem pI_71_14 : pI (SS n) 9 71 14 v F = some (up2 F 71 14 v) := rfl
theorem gR_71_15 : gR (SS n) 9 71 15 = some 77 := rfl
theorem gR_71_16 : gR (SS n) 9 71 16 = some 78 := rfl
theorem gR_71_17 : gR (SS n) 9 71 17 = some 79 := rfl
theorem gR_71_18 : gR (SS n) 9 71 18 = some 80 := rfl
theorem gR_71_19 : gR (SS n) 9 71 19 = some 81 := rfl
theorem gI_71_20 : gI (SS n) 9 71 20 F = some (F 71 20) := rfl
theorem pI_71_20 : pI (SS n) 9 71 20 v F = some (up2 F 71 20 v) := rfl
theorem gI_71_21 : gI (SS n) 9 71 21 F = some (F 71 21) := rfl
theorem pI_71_21 : pI (SS n) 9 71 21 v F = some (up2 F 71 21 v) := rfl
theorem gI_71_22 : gI (SS n) 9 71 22 F = some (F 71 22) := rfl
theorem pI_71_22 : pI (SS n) 9 71 22 v F = some (up2 F 71 22 v) := rfl
theorem gI_71_23 : gI (SS n) 9 71 23 F = some (F 71 23) := rfl
theorem pI_71_23 : pI (SS n) 9 71 23 v F = some (up2 F 71 23 v) := rfl
theorem gR_71_24 : gR (SS n) 9 71 24 = some 82 := rfl
theorem gR_71_25 : gR (SS n) 9 71 25 = some 83 := rfl
theorem gR_71_26 : gR (SS n) 9 71 26 = some 84 := rfl
theorem gR_71_27 : gR (SS n) 9 71 27 = some 85 := rfl
theorem gR_71_28 : gR (SS n) 9 71 28 = some 86 := rfl
theorem gR_71_29 : gR (SS n) 9 71 29 = some 87 := rfl
theorem gR_71_30 : gR (SS n) 9 71 30 = some 88 := rfl
theorem gR_71_31 : gR (SS n) 9 71 31 = some 89 := rfl
theorem gR_71_32 : gR (SS n) 9 71 32 = some 90 := rfl
theorem gR_71_33 : gR (SS n) 9 71 33 = some 91 := rfl
theorem gR_71_34 : gR (SS n) 9 71 34 = some 92 := rfl
theorem gR_71_35 : gR (SS n) 9 71 35 = some 93 := rfl
theorem gR_71_36 : gR (SS n) 9 71 36 = some 94 := rfl
theorem sh_72 : (SS n)[72]? = some (.inl (0, 12000)) := rfl
theorem sh_73 : (SS n)[73]? = some (.inl (3, 24000)) := rfl
theorem sh_74 : (SS n)[74]? = some (.inl (0, 4)) := rfl
theorem sh_75 : (SS n)[75]? = some (.inl (3, 24000)) := rfl
theorem sh_76 : (SS n)[76]? = some (.inl (0, 12000)) := rfl
theorem sh_77 : (SS n)[77]? = some (.inl (0, 4096)) := rfl
theorem sh_78 : (SS n)[78]? = some (.inl (0, 4096)) := rfl
theorem sh_79 : (SS n)[79]? = some (.inl (0, 4096)) := rfl
theorem sh_80 : (SS n)[80]? = some (.inl (0, 4096)) := rfl
theorem sh_81 : (SS n)[81]? = some (.inl (0, 4096)) := rfl
theorem sh_82 : (SS n)[82]? = some (.inl (0, 12)) := rfl
theorem sh_83 : (SS n)[83]? = some (.inl (0, 12)) := rfl
theorem sh_84 : (SS n)[84]? = some (.inl (0, 12)) := rfl
theorem sh_85 : (SS n)[85]? = some (.inl (0, 12)) := rfl
theorem sh_86 : (SS n)[86]? = some (.inl (0, 12)) := rfl
theorem sh_87 : (SS n)[87]? = some (.inl (0, 12)) := rfl
theorem sh_88 : (SS n)[88]? = some (.inl (0, 12)) := rfl
theorem sh_89 : (SS n)[89]? = some (.inl (0, 6912)) := rfl
theorem sh_90 : (SS n)[90]? = some (.inl (0, 3328)) := rfl
theorem sh_91 : (SS n)[91]? = some (.inl (0, 576)) := rfl
theorem sh_92 : (SS n)[92]? = some (.inl (0, 576)) := rfl
theorem sh_93 : (SS n)[93]? = some (.inl (0, 576)) := rfl
theorem sh_94 : (SS n)[94]? = some (.inl (0, 576)) := rfl
theorem sh_95 : (SS n)[95]? = some (.inl (1, 1)) := rfl
end PU0
