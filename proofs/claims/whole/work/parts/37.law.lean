theorem cw_La_106 : xCw "PaletteFramesLaw" 106 y_La_at b_La_at 4 (some .int) [(0, 9, 12, 24)] 3 := ⟨(xGT_of 607 (by decide +kernel) (by decide +kernel)), (xGT_of 609 (by decide +kernel) (by decide +kernel)), (xGT_of 29 (by decide +kernel) (by decide +kernel)), (xGT_of 608 (by decide +kernel) (by decide +kernel)), by decide +kernel⟩
theorem cw_La_113 : xCw "PaletteFramesLaw" 113 y_La_frame b_La_frame 10 (some .int) [(0, 20, 23, 13), (0, 20, 27, 40), (0, 20, 31, 15)] 9 := ⟨(xGT_of 615 (by decide +kernel) (by decide +kernel)), (xGT_of 617 (by decide +kernel) (by decide +kernel)), (xGT_of 29 (by decide +kernel) (by decide +kernel)), (xGT_of 616 (by decide +kernel) (by decide +kernel)), by decide +kernel⟩
theorem cw_La_117 : xCw "PaletteFramesLaw" 117 y_La_colour b_La_colour 6 (some .int) [(0, 12, 15, 24), (0, 12, 19, 13)] 5 := ⟨(xGT_of 683 (by decide +kernel) (by decide +kernel)), (xGT_of 685 (by decide +kernel) (by decide +kernel)), (xGT_of 29 (by decide +kernel) (by decide +kernel)), (xGT_of 684 (by decide +kernel) (by decide +kernel)), by decide +kernel⟩
theorem cw_La_120 : xCw "PaletteFramesLaw" 120 y_La_through b_La_through 5 (some .int) [(0, 10, 13, 24)] 4 := ⟨(xGT_of 709 (by decide +kernel) (by decide +kernel)), (xGT_of 711 (by decide +kernel) (by decide +kernel)), (xGT_of 29 (by decide +kernel) (by decide +kernel)), (xGT_of 710 (by decide +kernel) (by decide +kernel)), by decide +kernel⟩
theorem cw_La_123 : xCw "PaletteFramesLaw" 123 y_La_shown b_La_shown 6 (some .int) [(0, 12, 15, 24)] 5 := ⟨(xGT_of 716 (by decide +kernel) (by decide +kernel)), (xGT_of 718 (by decide +kernel) (by decide +kernel)), (xGT_of 29 (by decide +kernel) (by decide +kernel)), (xGT_of 717 (by decide +kernel) (by decide +kernel)), by decide +kernel⟩
theorem cw_La_126 : xCw "PaletteFramesLaw" 126 y_La_symbol b_La_symbol 6 (some .int) [(0, 12, 15, 24)] 5 := ⟨(xGT_of 748 (by decide +kernel) (by decide +kernel)), (xGT_of 750 (by decide +kernel) (by decide +kernel)), (xGT_of 29 (by decide +kernel) (by decide +kernel)), (xGT_of 749 (by decide +kernel) (by decide +kernel)), by decide +kernel⟩
theorem cw_La_129 : xCw "PaletteFramesLaw" 129 y_La_when b_La_when 5 (some .int) [(0, 10, 13, 13)] 4 := ⟨(xGT_of 757 (by decide +kernel) (by decide +kernel)), (xGT_of 759 (by decide +kernel) (by decide +kernel)), (xGT_of 29 (by decide +kernel) (by decide +kernel)), (xGT_of 758 (by decide +kernel) (by decide +kernel)), by decide +kernel⟩
theorem cw_La_132 : xCw "PaletteFramesLaw" 132 y_La_passOf b_La_passOf 4 (some .int) [(0, 9, 12, 13)] 3 := ⟨(xGT_of 769 (by decide +kernel) (by decide +kernel)), (xGT_of 771 (by decide +kernel) (by decide +kernel)), (xGT_of 29 (by decide +kernel) (by decide +kernel)), (xGT_of 770 (by decide +kernel) (by decide +kernel)), by decide +kernel⟩
theorem cw_La_72 : xCw "PaletteFramesLaw" 72 y_La_put b_La_put 6 (some .int) [(0, 12, 15, 13), (0, 12, 19, 15)] 5 := ⟨(xGT_of 461 (by decide +kernel) (by decide +kernel)), (xGT_of 463 (by decide +kernel) (by decide +kernel)), (xGT_of 29 (by decide +kernel) (by decide +kernel)), (xGT_of 462 (by decide +kernel) (by decide +kernel)), by decide +kernel⟩
theorem cw_La_80 : xCw "PaletteFramesLaw" 80 y_La_rule b_La_rule 4 (some .int) [(0, 9, 12, 13)] 3 := ⟨(xGT_of 556 (by decide +kernel) (by decide +kernel)), (xGT_of 558 (by decide +kernel) (by decide +kernel)), (xGT_of 29 (by decide +kernel) (by decide +kernel)), (xGT_of 557 (by decide +kernel) (by decide +kernel)), by decide +kernel⟩
theorem cw_La_88 : xCw "PaletteFramesLaw" 88 y_La_byteAt b_La_byteAt 4 (some .int) [(0, 9, 12, 24)] 3 := ⟨(xGT_of 564 (by decide +kernel) (by decide +kernel)), (xGT_of 566 (by decide +kernel) (by decide +kernel)), (xGT_of 29 (by decide +kernel) (by decide +kernel)), (xGT_of 565 (by decide +kernel) (by decide +kernel)), by decide +kernel⟩
theorem cw_La_95 : xCw "PaletteFramesLaw" 95 y_La_feed b_La_feed 4 (some .int) [(0, 9, 12, 13), (0, 9, 15, 15)] 3 := ⟨(xGT_of 589 (by decide +kernel) (by decide +kernel)), (xGT_of 591 (by decide +kernel) (by decide +kernel)), (xGT_of 29 (by decide +kernel) (by decide +kernel)), (xGT_of 590 (by decide +kernel) (by decide +kernel)), by decide +kernel⟩
theorem cw_La_98 : xCw "PaletteFramesLaw" 98 y_La_pass b_La_pass 5 (some .int) [(0, 10, 13, 24), (0, 10, 17, 13), (0, 10, 21, 15)] 4 := ⟨(xGT_of 598 (by decide +kernel) (by decide +kernel)), (xGT_of 600 (by decide +kernel) (by decide +kernel)), (xGT_of 29 (by decide +kernel) (by decide +kernel)), (xGT_of 599 (by decide +kernel) (by decide +kernel)), by decide +kernel⟩
theorem mv_La_101 : xCv "PaletteFramesLaw" 101 y_Mo_pass b_Mo_pass 6 (some .int) 2 9 := ⟨⟨Or.inl (xGT_of 953 (by decide +kernel) (by decide +kernel)), (xGT_of 956 (by decide +kernel) (by decide +kernel)), (xGT_of 41 (by decide +kernel) (by decide +kernel)), by decide +kernel⟩, ⟨(xGT_of 954 (by decide +kernel) (by decide +kernel)), (xGT_of 955 (by decide +kernel) (by decide +kernel))⟩, T_9, 37, rfl⟩
theorem mv_La_102 : xCv "PaletteFramesLaw" 102 y_PF_decode b_PF_decode 2 (some .int) 0 8 := ⟨⟨Or.inl (xGT_of 399 (by decide +kernel) (by decide +kernel)), (xGT_of 402 (by decide +kernel) (by decide +kernel)), (xGT_of 30 (by decide +kernel) (by decide +kernel)), by decide +kernel⟩, ⟨(xGT_of 400 (by decide +kernel) (by decide +kernel)), (xGT_of 401 (by decide +kernel) (by decide +kernel))⟩, T_8, 7, rfl⟩
theorem mv_La_105 : xCv "PaletteFramesLaw" 105 y_Mo_decode b_Mo_decode 7 (some .int) 0 9 := ⟨⟨Or.inl (xGT_of 957 (by decide +kernel) (by decide +kernel)), (xGT_of 960 (by decide +kernel) (by decide +kernel)), (xGT_of 41 (by decide +kernel) (by decide +kernel)), by decide +kernel⟩, ⟨(xGT_of 958 (by decide +kernel) (by decide +kernel)), (xGT_of 959 (by decide +kernel) (by decide +kernel))⟩, T_9, 37, rfl⟩
theorem mv_La_108 : xCv "PaletteFramesLaw" 108 y_Mo_at b_Mo_at 2 (some .int) 1 9 := ⟨⟨Or.inl (xGT_of 973 (by decide +kernel) (by decide +kernel)), (xGT_of 976 (by decide +kernel) (by decide +kernel)), (xGT_of 41 (by decide +kernel) (by decide +kernel)), by decide +kernel⟩, ⟨(xGT_of 974 (by decide +kernel) (by decide +kernel)), (xGT_of 975 (by decide +kernel) (by decide +kernel))⟩, T_9, 37, rfl⟩
theorem mv_La_109 : xCv "PaletteFramesLaw" 109 y_PF_take b_PF_take 2 (some .int) 0 8 := ⟨⟨Or.inl (xGT_of 435 (by decide +kernel) (by decide +kernel)), (xGT_of 438 (by decide +kernel) (by decide +kernel)), (xGT_of 30 (by decide +kernel) (by decide +kernel)), by decide +kernel⟩, ⟨(xGT_of 436 (by decide +kernel) (by decide +kernel)), (xGT_of 437 (by decide +kernel) (by decide +kernel))⟩, T_8, 7, rfl⟩
theorem mv_La_112 : xCv "PaletteFramesLaw" 112 y_Mo_take b_Mo_take 2 (some .int) 0 9 := ⟨⟨Or.inl (xGT_of 977 (by decide +kernel) (by decide +kernel)), (xGT_of 980 (by decide +kernel) (by decide +kernel)), (xGT_of 41 (by decide +kernel) (by decide +kernel)), by decide +kernel⟩, ⟨(xGT_of 978 (by decide +kernel) (by decide +kernel)), (xGT_of 979 (by decide +kernel) (by decide +kernel))⟩, T_9, 37, rfl⟩
theorem mv_La_116 : xCv "PaletteFramesLaw" 116 y_Mo_frame b_Mo_frame 14 (some .int) 7 9 := ⟨⟨Or.inl (xGT_of 981 (by decide +kernel) (by decide +kernel)), (xGT_of 984 (by decide +kernel) (by decide +kernel)), (xGT_of 41 (by decide +kernel) (by decide +kernel)), by decide +kernel⟩, ⟨(xGT_of 982 (by decide +kernel) (by decide +kernel)), (xGT_of 983 (by decide +kernel) (by decide +kernel))⟩, T_9, 37, rfl⟩
theorem mv_La_119 : xCv "PaletteFramesLaw" 119 y_Mo_colour b_Mo_colour 7 (some .int) 3 9 := ⟨⟨Or.inl (xGT_of 988 (by decide +kernel) (by decide +kernel)), (xGT_of 991 (by decide +kernel) (by decide +kernel)), (xGT_of 41 (by decide +kernel) (by decide +kernel)), by decide +kernel⟩, ⟨(xGT_of 989 (by decide +kernel) (by decide +kernel)), (xGT_of 990 (by decide +kernel) (by decide +kernel))⟩, T_9, 37, rfl⟩
theorem mv_La_122 : xCv "PaletteFramesLaw" 122 y_Mo_through b_Mo_through 4 (some .int) 2 9 := ⟨⟨Or.inl (xGT_of 1001 (by decide +kernel) (by decide +kernel)), (xGT_of 1004 (by decide +kernel) (by decide +kernel)), (xGT_of 41 (by decide +kernel) (by decide +kernel)), by decide +kernel⟩, ⟨(xGT_of 1002 (by decide +kernel) (by decide +kernel)), (xGT_of 1003 (by decide +kernel) (by decide +kernel))⟩, T_9, 37, rfl⟩
theorem mv_La_125 : xCv "PaletteFramesLaw" 125 y_Mo_shown b_Mo_shown 7 (some .int) 3 9 := ⟨⟨Or.inl (xGT_of 1005 (by decide +kernel) (by decide +kernel)), (xGT_of 1008 (by decide +kernel) (by decide +kernel)), (xGT_of 41 (by decide +kernel) (by decide +kernel)), by decide +kernel⟩, ⟨(xGT_of 1006 (by decide +kernel) (by decide +kernel)), (xGT_of 1007 (by decide +kernel) (by decide +kernel))⟩, T_9, 37, rfl⟩
theorem mv_La_128 : xCv "PaletteFramesLaw" 128 y_Mo_symbol b_Mo_symbol 4 (some .int) 3 9 := ⟨⟨Or.inl (xGT_of 1021 (by decide +kernel) (by decide +kernel)), (xGT_of 1024 (by decide +kernel) (by decide +kernel)), (xGT_of 41 (by decide +kernel) (by decide +kernel)), by decide +kernel⟩, ⟨(xGT_of 1022 (by decide +kernel) (by decide +kernel)), (xGT_of 1023 (by decide +kernel) (by decide +kernel))⟩, T_9, 37, rfl⟩
theorem mv_La_131 : xCv "PaletteFramesLaw" 131 y_Mo_when b_Mo_when 8 (some .int) 2 9 := ⟨⟨Or.inl (xGT_of 1025 (by decide +kernel) (by decide +kernel)), (xGT_of 1028 (by decide +kernel) (by decide +kernel)), (xGT_of 41 (by decide +kernel) (by decide +kernel)), by decide +kernel⟩, ⟨(xGT_of 1026 (by decide +kernel) (by decide +kernel)), (xGT_of 1027 (by decide +kernel) (by decide +kernel))⟩, T_9, 37, rfl⟩
theorem mv_La_134 : xCv "PaletteFramesLaw" 134 y_Mo_passOf b_Mo_passOf 2 (some .int) 1 9 := ⟨⟨Or.inl (xGT_of 1029 (by decide +kernel) (by decide +kernel)), (xGT_of 1032 (by decide +kernel) (by decide +kernel)), (xGT_of 41 (by decide +kernel) (by decide +kernel)), by decide +kernel⟩, ⟨(xGT_of 1030 (by decide +kernel) (by decide +kernel)), (xGT_of 1031 (by decide +kernel) (by decide +kernel))⟩, T_9, 37, rfl⟩
theorem mv_La_135 : xCv "PaletteFramesLaw" 135 y_PF_told b_PF_told 2 (some .int) 1 8 := ⟨⟨Or.inl (xGT_of 441 (by decide +kernel) (by decide +kernel)), (xGT_of 444 (by decide +kernel) (by decide +kernel)), (xGT_of 30 (by decide +kernel) (by decide +kernel)), by decide +kernel⟩, ⟨(xGT_of 442 (by decide +kernel) (by decide +kernel)), (xGT_of 443 (by decide +kernel) (by decide +kernel))⟩, T_8, 7, rfl⟩
theorem mv_La_138 : xCv "PaletteFramesLaw" 138 y_Mo_told b_Mo_told 2 (some .int) 1 9 := ⟨⟨Or.inl (xGT_of 1033 (by decide +kernel) (by decide +kernel)), (xGT_of 1036 (by decide +kernel) (by decide +kernel)), (xGT_of 41 (by decide +kernel) (by decide +kernel)), by decide +kernel⟩, ⟨(xGT_of 1034 (by decide +kernel) (by decide +kernel)), (xGT_of 1035 (by decide +kernel) (by decide +kernel))⟩, T_9, 37, rfl⟩
theorem mv_La_139 : xCv "PaletteFramesLaw" 139 y_PF_clear b_PF_clear 1 none 0 8 := ⟨⟨Or.inl (xGT_of 445 (by decide +kernel) (by decide +kernel)), (xGT_of 448 (by decide +kernel) (by decide +kernel)), (xGT_of 30 (by decide +kernel) (by decide +kernel)), by decide +kernel⟩, ⟨(xGT_of 446 (by decide +kernel) (by decide +kernel)), (xGT_of 447 (by decide +kernel) (by decide +kernel))⟩, T_8, 7, rfl⟩
theorem mv_La_142 : xCv "PaletteFramesLaw" 142 y_Mo_clear b_Mo_clear 2 none 0 9 := ⟨⟨Or.inl (xGT_of 904 (by decide +kernel) (by decide +kernel)), (xGT_of 787 (by decide +kernel) (by decide +kernel)), (xGT_of 41 (by decide +kernel) (by decide +kernel)), by decide +kernel⟩, ⟨(xGT_of 785 (by decide +kernel) (by decide +kernel)), (xGT_of 786 (by decide +kernel) (by decide +kernel))⟩, T_9, 37, rfl⟩
theorem mv_La_75 : xCv "PaletteFramesLaw" 75 y_Mo_put b_Mo_put 6 (some .int) 3 9 := ⟨⟨Or.inl (xGT_of 905 (by decide +kernel) (by decide +kernel)), (xGT_of 908 (by decide +kernel) (by decide +kernel)), (xGT_of 41 (by decide +kernel) (by decide +kernel)), by decide +kernel⟩, ⟨(xGT_of 906 (by decide +kernel) (by decide +kernel)), (xGT_of 907 (by decide +kernel) (by decide +kernel))⟩, T_9, 37, rfl⟩
theorem mv_La_76 : xCv "PaletteFramesLaw" 76 y_Mo_thrown b_Mo_thrown 1 (some .int) 0 9 := ⟨⟨Or.inl (xGT_of 900 (by decide +kernel) (by decide +kernel)), (xGT_of 903 (by decide +kernel) (by decide +kernel)), (xGT_of 41 (by decide +kernel) (by decide +kernel)), by decide +kernel⟩, ⟨(xGT_of 901 (by decide +kernel) (by decide +kernel)), (xGT_of 902 (by decide +kernel) (by decide +kernel))⟩, T_9, 37, rfl⟩
theorem mv_La_83 : xCv "PaletteFramesLaw" 83 y_Mo_rule b_Mo_rule 3 (some .int) 1 9 := ⟨⟨Or.inl (xGT_of 909 (by decide +kernel) (by decide +kernel)), (xGT_of 912 (by decide +kernel) (by decide +kernel)), (xGT_of 41 (by decide +kernel) (by decide +kernel)), by decide +kernel⟩, ⟨(xGT_of 910 (by decide +kernel) (by decide +kernel)), (xGT_of 911 (by decide +kernel) (by decide +kernel))⟩, T_9, 37, rfl⟩
theorem mv_La_84 : xCv "PaletteFramesLaw" 84 y_PF_encode b_PF_encode 1 (some .int) 0 8 := ⟨⟨Or.inl (xGT_of 306 (by decide +kernel) (by decide +kernel)), (xGT_of 309 (by decide +kernel) (by decide +kernel)), (xGT_of 30 (by decide +kernel) (by decide +kernel)), by decide +kernel⟩, ⟨(xGT_of 307 (by decide +kernel) (by decide +kernel)), (xGT_of 308 (by decide +kernel) (by decide +kernel))⟩, T_8, 7, rfl⟩
theorem mv_La_87 : xCv "PaletteFramesLaw" 87 y_Mo_encode b_Mo_encode 9 (some .int) 0 9 := ⟨⟨Or.inl (xGT_of 913 (by decide +kernel) (by decide +kernel)), (xGT_of 916 (by decide +kernel) (by decide +kernel)), (xGT_of 41 (by decide +kernel) (by decide +kernel)), by decide +kernel⟩, ⟨(xGT_of 914 (by decide +kernel) (by decide +kernel)), (xGT_of 915 (by decide +kernel) (by decide +kernel))⟩, T_9, 37, rfl⟩
theorem mv_La_90 : xCv "PaletteFramesLaw" 90 y_Mo_byteAt b_Mo_byteAt 2 (some .int) 1 9 := ⟨⟨Or.inl (xGT_of 941 (by decide +kernel) (by decide +kernel)), (xGT_of 944 (by decide +kernel) (by decide +kernel)), (xGT_of 41 (by decide +kernel) (by decide +kernel)), by decide +kernel⟩, ⟨(xGT_of 942 (by decide +kernel) (by decide +kernel)), (xGT_of 943 (by decide +kernel) (by decide +kernel))⟩, T_9, 37, rfl⟩
theorem mv_La_91 : xCv "PaletteFramesLaw" 91 y_PF_coded b_PF_coded 2 (some .int) 1 8 := ⟨⟨Or.inl (xGT_of 391 (by decide +kernel) (by decide +kernel)), (xGT_of 394 (by decide +kernel) (by decide +kernel)), (xGT_of 30 (by decide +kernel) (by decide +kernel)), by decide +kernel⟩, ⟨(xGT_of 392 (by decide +kernel) (by decide +kernel)), (xGT_of 393 (by decide +kernel) (by decide +kernel))⟩, T_8, 7, rfl⟩
theorem mv_La_94 : xCv "PaletteFramesLaw" 94 y_Mo_coded b_Mo_coded 2 (some .int) 1 9 := ⟨⟨Or.inl (xGT_of 945 (by decide +kernel) (by decide +kernel)), (xGT_of 948 (by decide +kernel) (by decide +kernel)), (xGT_of 41 (by decide +kernel) (by decide +kernel)), by decide +kernel⟩, ⟨(xGT_of 946 (by decide +kernel) (by decide +kernel)), (xGT_of 947 (by decide +kernel) (by decide +kernel))⟩, T_9, 37, rfl⟩
theorem mv_La_97 : xCv "PaletteFramesLaw" 97 y_Mo_feed b_Mo_feed 2 (some .int) 1 9 := ⟨⟨Or.inl (xGT_of 949 (by decide +kernel) (by decide +kernel)), (xGT_of 952 (by decide +kernel) (by decide +kernel)), (xGT_of 41 (by decide +kernel) (by decide +kernel)), by decide +kernel⟩, ⟨(xGT_of 950 (by decide +kernel) (by decide +kernel)), (xGT_of 951 (by decide +kernel) (by decide +kernel))⟩, T_9, 37, rfl⟩
def xb (v : Int32) : Int32 := if v = 0 then 0 else 1
def q_put (S : List xO) (N x mm o : Nat) (p1 : Int32) (p2 : Int32) (p3 : Int32) (F : xF) (G : xL) : Option (Int32 × xF × xL) :=
  (f_La_put S N x p1 p2 p3 o F G).bind fun w =>
  (xcl S 9 mm (f_Mo_put S N mm p1 p2 p3 w.2.1)).bind fun b =>
  (f_Mo_thrown S mm b.2).bind fun t =>
  if t = w.1 then
    if w.1 = 0 then (lG S o 0 w.2.2).bind fun v => if lg_cmp v b.1.toInt64 = 0 then some (1, b.2, w.2.2) else some (0, b.2, w.2.2)
    else some (1, b.2, w.2.2)
  else some (0, b.2, w.2.2)
set_option maxHeartbeats 4000000 in
set_option maxRecDepth 100000 in
theorem o_put {p : Program} {l : Launch} (hfl : l.flags = flags0) {e : Env} {s : State} {m : MethodId} {args : Array Value} {below : List Frame} {meth : Method} {c : Code} {Q : State → Prop} {g : xG} {S : List xO} (C : Cx p s m args meth c code 7 "PaletteFramesLaw" g) {L : Nat} {xs : Nat → Int32} (hX : va_X g.2.1 L xs s s.heap) (hbl : g.2.1 < s.heap.size) (hbg : g.2.1 < g.1) {N x mm o : Nat} {i : Int32} (hin : ∀ k : Int32, 0 ≤ k.toInt ∧ k.toInt ≤ 7 → vp_in (i + k) L) {F F2 : xF} {G G2 : xL} {ce sl : Nat} (hce : ce + 1 ≤ room_1.cells ∧ sl + 6 ≤ room_1.slots) (h : q_put S N x mm o (xs (i + 1).toNatClampNeg) (xs (i + 2).toNatClampNeg) (xs (i + 3).toNatClampNeg) F G = some (1, F2, G2)) (kk : V p l e room_1 s m args below meth c Q 7 g S F2 G2 (ce + 1) (sl + 6) 33 [some (.float 0), some (.ref x), some (.ref mm), some (.ref o), some (.int (i + 8)), none, none] []) : V p l e room_1 s m args below meth c Q 7 g S F G ce sl 140 [some (.float 0), some (.ref x), some (.ref mm), some (.ref o), some (.int i), none, none] [] := by
  unfold q_put at h
  obtain ⟨⟨k, F3, G3⟩, e1, h⟩ := Option.bind_eq_some_iff.mp h
  dsimp only at h
  obtain ⟨⟨b, F4⟩, e2, h⟩ := Option.bind_eq_some_iff.mp h
  dsimp only at h
  obtain ⟨⟨fs, hS⟩, e2⟩ := xcl_spec e2
  obtain ⟨t, e3, h⟩ := Option.bind_eq_some_iff.mp h
  refine V.aload_n C 1 rfl rfl d_La_law_140 ?_
  refine V.sload_n C 0 rfl rfl d_La_law_141 ?_
  refine V.iload C rfl d_La_law_142 ?_
  refine V.iconst C 1 (by decide) d_La_law_144 ?_
  refine V.iadd C d_La_law_145 ?_
  refine V.sld C hX hbl hbg (hin 1 (by decide)) d_La_law_146 ?_
  refine V.sload_n C 0 rfl rfl d_La_law_147 ?_
  refine V.iload C rfl d_La_law_148 ?_
  refine V.iconst C 2 (by decide) d_La_law_150 ?_
  refine V.iadd C d_La_law_151 ?_
  refine V.sld C hX hbl hbg (hin 2 (by decide)) d_La_law_152 ?_
  refine V.sload_n C 0 rfl rfl d_La_law_153 ?_
  refine V.iload C rfl d_La_law_154 ?_
  refine V.iconst C 3 (by decide) d_La_law_156 ?_
  refine V.iadd C d_La_law_157 ?_
  refine V.sld C hX hbl hbg (hin 3 (by decide)) d_La_law_158 ?_
  refine V.aload_n C 3 rfl rfl d_La_law_159 ?_
  refine V.cSW C (c_La_put hfl e1) cw_La_72 rfl rfl ⟨by decide, by decide, hce.1, hce.2⟩ (Nat.le_of_ble_eq_true rfl) d_La_law_160 ?_
  refine V.is5 C (by decide) rfl d_La_law_163 ?_
  refine V.aload_n C 2 rfl rfl d_La_law_165 ?_
  refine V.sload_n C 0 rfl rfl d_La_law_166 ?_
  refine V.iload C rfl d_La_law_167 ?_
  refine V.iconst C 1 (by decide) d_La_law_169 ?_
  refine V.iadd C d_La_law_170 ?_
  refine V.sld C hX hbl hbg (hin 1 (by decide)) d_La_law_171 ?_
  refine V.sload_n C 0 rfl rfl d_La_law_172 ?_
  refine V.iload C rfl d_La_law_173 ?_
  refine V.iconst C 2 (by decide) d_La_law_175 ?_
  refine V.iadd C d_La_law_176 ?_
  refine V.sld C hX hbl hbg (hin 2 (by decide)) d_La_law_177 ?_
  refine V.sload_n C 0 rfl rfl d_La_law_178 ?_
  refine V.iload C rfl d_La_law_179 ?_
  refine V.iconst C 3 (by decide) d_La_law_181 ?_
  refine V.iadd C d_La_law_182 ?_
  refine V.sld C hX hbl hbg (hin 3 (by decide)) d_La_law_183 ?_
  refine V.cVr C (c_Mo_put e2) mv_La_75 hS rfl rfl ⟨by decide, by decide, hce.1, hce.2⟩ (Nat.le_of_ble_eq_true rfl) d_La_law_184 ?_
  refine V.is6 C (by decide) rfl d_La_law_187 ?_
  refine V.aload_n C 2 rfl rfl d_La_law_189 ?_
  refine V.cVr C (c_Mo_thrown e3) mv_La_76 hS rfl rfl ⟨by decide, by decide, hce.1, hce.2⟩ (Nat.le_of_ble_eq_true rfl) d_La_law_190 ?_
  refine V.iload C rfl d_La_law_193 ?_
  refine V.icmp_eq C 200 (by decide) d_La_law_195 (fun c1 => ?_) (fun c1 => ?_)
  · rw [if_pos c1] at h
    refine V.iload C rfl d_La_law_200 ?_
    refine V.if_ne C 217 (by decide) d_La_law_202 (fun c2 => ?_) (fun c2 => ?_)
    · rw [if_neg c2] at h
      simp only [Option.some.injEq, Prod.mk.injEq, true_and] at h
      obtain ⟨rfl, rfl⟩ := h
      refine V.goto C 1192 (by decide) d_La_law_217 ?_
      refine V.inc4 C 8 (by decide) (by decide) rfl d_La_law_1192 ?_
      refine V.goto C 33 (by decide) d_La_law_1195 ?_
      exact V.weak (xsub_spec (by simp [xsub])) kk
    · rw [if_pos c2] at h
      obtain ⟨v5, e5, h⟩ := Option.bind_eq_some_iff.mp h
      refine V.aload_n C 3 rfl rfl d_La_law_205 ?_
      refine V.iconst C 0 (by decide) d_La_law_206 ?_
      refine V.xlald C e5 d_La_law_207 ?_
      refine V.iload C rfl d_La_law_208 ?_
      refine V.i2l C d_La_law_210 ?_
      refine V.lcmp C d_La_law_211 ?_
      refine V.if_eq C 217 (by decide) d_La_law_212 (fun c3 => ?_) (fun c3 => ?_)
      · rw [if_pos c3] at h
        simp only [Option.some.injEq, Prod.mk.injEq, true_and] at h
        obtain ⟨rfl, rfl⟩ := h
        refine V.goto C 1192 (by decide) d_La_law_217 ?_
        refine V.inc4 C 8 (by decide) (by decide) rfl d_La_law_1192 ?_
        refine V.goto C 33 (by decide) d_La_law_1195 ?_
        exact V.weak (xsub_spec (by simp [xsub])) kk
      · rw [if_neg c3] at h
        simp at h
  · rw [if_neg c1] at h
    simp at h
def q_rule (S : List xO) (N x mm o : Nat) (p1 : Int32) (F : xF) (G : xL) : Option (Int32 × xF × xL) :=
  (f_La_rule S x p1 o F G).bind fun w =>
  (xcl S 9 mm (f_Mo_rule S mm p1 w.2.1)).bind fun b =>
  (f_Mo_thrown S mm b.2).bind fun t =>
  if t = w.1 then
    if w.1 = 0 then (lG S o 0 w.2.2).bind fun v => if lg_cmp v b.1.toInt64 = 0 then some (1, b.2, w.2.2) else some (0, b.2, w.2.2)
    else some (1, b.2, w.2.2)
  else some (0, b.2, w.2.2)
set_option maxHeartbeats 4000000 in
set_option maxRecDepth 100000 in
theorem o_rule {p : Program} {l : Launch} (hfl : l.flags = flags0) {e : Env} {s : State} {m : MethodId} {args : Array Value} {below : List Frame} {meth : Method} {c : Code} {Q : State → Prop} {g : xG} {S : List xO} (C : Cx p s m args meth c code 7 "PaletteFramesLaw" g) {L : Nat} {xs : Nat → Int32} (hX : va_X g.2.1 L xs s s.heap) (hbl : g.2.1 < s.heap.size) (hbg : g.2.1 < g.1) {N x mm o : Nat} {i : Int32} (hin : ∀ k : Int32, 0 ≤ k.toInt ∧ k.toInt ≤ 7 → vp_in (i + k) L) {F F2 : xF} {G G2 : xL} {ce sl : Nat} (hce : ce + 1 ≤ room_1.cells ∧ sl + 6 ≤ room_1.slots) (h : q_rule S N x mm o (xs (i + 1).toNatClampNeg) F G = some (1, F2, G2)) (kk : V p l e room_1 s m args below meth c Q 7 g S F2 G2 (ce + 1) (sl + 6) 33 [some (.float 0), some (.ref x), some (.ref mm), some (.ref o), some (.int (i + 8)), none, none] []) : V p l e room_1 s m args below meth c Q 7 g S F G ce sl 220 [some (.float 0), some (.ref x), some (.ref mm), some (.ref o), some (.int i), none, none] [] := by
  unfold q_rule at h
  obtain ⟨⟨k, F3, G3⟩, e1, h⟩ := Option.bind_eq_some_iff.mp h
  dsimp only at h
  obtain ⟨⟨b, F4⟩, e2, h⟩ := Option.bind_eq_some_iff.mp h
  dsimp only at h
  obtain ⟨⟨fs, hS⟩, e2⟩ := xcl_spec e2
  obtain ⟨t, e3, h⟩ := Option.bind_eq_some_iff.mp h
  refine V.aload_n C 1 rfl rfl d_La_law_220 ?_
  refine V.sload_n C 0 rfl rfl d_La_law_221 ?_
  refine V.iload C rfl d_La_law_222 ?_
  refine V.iconst C 1 (by decide) d_La_law_224 ?_
  refine V.iadd C d_La_law_225 ?_
  refine V.sld C hX hbl hbg (hin 1 (by decide)) d_La_law_226 ?_
  refine V.aload_n C 3 rfl rfl d_La_law_227 ?_
  refine V.cSW C (c_La_rule hfl e1) cw_La_80 rfl rfl ⟨by decide, by decide, hce.1, hce.2⟩ (Nat.le_of_ble_eq_true rfl) d_La_law_228 ?_
  refine V.is5 C (by decide) rfl d_La_law_231 ?_
  refine V.aload_n C 2 rfl rfl d_La_law_233 ?_
  refine V.sload_n C 0 rfl rfl d_La_law_234 ?_
  refine V.iload C rfl d_La_law_235 ?_
  refine V.iconst C 1 (by decide) d_La_law_237 ?_
  refine V.iadd C d_La_law_238 ?_
  refine V.sld C hX hbl hbg (hin 1 (by decide)) d_La_law_239 ?_
  refine V.cVr C (c_Mo_rule e2) mv_La_83 hS rfl rfl ⟨by decide, by decide, hce.1, hce.2⟩ (Nat.le_of_ble_eq_true rfl) d_La_law_240 ?_
  refine V.is6 C (by decide) rfl d_La_law_243 ?_
  refine V.aload_n C 2 rfl rfl d_La_law_245 ?_
  refine V.cVr C (c_Mo_thrown e3) mv_La_76 hS rfl rfl ⟨by decide, by decide, hce.1, hce.2⟩ (Nat.le_of_ble_eq_true rfl) d_La_law_246 ?_
  refine V.iload C rfl d_La_law_249 ?_
  refine V.icmp_eq C 256 (by decide) d_La_law_251 (fun c1 => ?_) (fun c1 => ?_)
  · rw [if_pos c1] at h
    refine V.iload C rfl d_La_law_256 ?_
    refine V.if_ne C 273 (by decide) d_La_law_258 (fun c2 => ?_) (fun c2 => ?_)
    · rw [if_neg c2] at h
      simp only [Option.some.injEq, Prod.mk.injEq, true_and] at h
      obtain ⟨rfl, rfl⟩ := h
      refine V.goto C 1192 (by decide) d_La_law_273 ?_
      refine V.inc4 C 8 (by decide) (by decide) rfl d_La_law_1192 ?_
      refine V.goto C 33 (by decide) d_La_law_1195 ?_
      exact V.weak (xsub_spec (by simp [xsub])) kk
    · rw [if_pos c2] at h
      obtain ⟨v5, e5, h⟩ := Option.bind_eq_some_iff.mp h
      refine V.aload_n C 3 rfl rfl d_La_law_261 ?_
      refine V.iconst C 0 (by decide) d_La_law_262 ?_
      refine V.xlald C e5 d_La_law_263 ?_
      refine V.iload C rfl d_La_law_264 ?_
      refine V.i2l C d_La_law_266 ?_
      refine V.lcmp C d_La_law_267 ?_
      refine V.if_eq C 273 (by decide) d_La_law_268 (fun c3 => ?_) (fun c3 => ?_)
      · rw [if_pos c3] at h
        simp only [Option.some.injEq, Prod.mk.injEq, true_and] at h
        obtain ⟨rfl, rfl⟩ := h
        refine V.goto C 1192 (by decide) d_La_law_273 ?_
        refine V.inc4 C 8 (by decide) (by decide) rfl d_La_law_1192 ?_
        refine V.goto C 33 (by decide) d_La_law_1195 ?_
        exact V.weak (xsub_spec (by simp [xsub])) kk
      · rw [if_neg c3] at h
        simp at h
  · rw [if_neg c1] at h
    simp at h
def q_encode (S : List xO) (N x mm o : Nat)  (F : xF) (G : xL) : Option (Int32 × xF × xL) :=
  (xcl S 8 x (f_PF_encode S N x F)).bind fun w =>
  (xcl S 9 mm (f_Mo_encode S N mm w.2)).bind fun b =>
  if w.1 = b.1 then some (1, b.2, G) else some (0, b.2, G)
set_option maxHeartbeats 4000000 in
set_option maxRecDepth 100000 in
theorem o_encode {p : Program} {l : Launch} (hfl : l.flags = flags0) {e : Env} {s : State} {m : MethodId} {args : Array Value} {below : List Frame} {meth : Method} {c : Code} {Q : State → Prop} {g : xG} {S : List xO} (C : Cx p s m args meth c code 7 "PaletteFramesLaw" g) {L : Nat} {xs : Nat → Int32} (hX : va_X g.2.1 L xs s s.heap) (hbl : g.2.1 < s.heap.size) (hbg : g.2.1 < g.1) {N x mm o : Nat} {i : Int32} (hin : ∀ k : Int32, 0 ≤ k.toInt ∧ k.toInt ≤ 7 → vp_in (i + k) L) {F F2 : xF} {G G2 : xL} {ce sl : Nat} (hce : ce + 1 ≤ room_1.cells ∧ sl + 6 ≤ room_1.slots) (h : q_encode S N x mm o F G = some (1, F2, G2)) (kk : V p l e room_1 s m args below meth c Q 7 g S F2 G2 (ce + 1) (sl + 6) 33 [some (.float 0), some (.ref x), some (.ref mm), some (.ref o), some (.int (i + 8)), none, none] []) : V p l e room_1 s m args below meth c Q 7 g S F G ce sl 276 [some (.float 0), some (.ref x), some (.ref mm), some (.ref o), some (.int i), none, none] [] := by
  unfold q_encode at h
  obtain ⟨⟨w1, w2⟩, e1, h⟩ := Option.bind_eq_some_iff.mp h
  dsimp only at h
  obtain ⟨⟨fse1, hSe1⟩, e1⟩ := xcl_spec e1
  obtain ⟨⟨b1, b2⟩, e2, h⟩ := Option.bind_eq_some_iff.mp h
  dsimp only at h
  obtain ⟨⟨fse2, hSe2⟩, e2⟩ := xcl_spec e2
  refine V.aload_n C 1 rfl rfl d_La_law_276 ?_
  refine V.cVr C (c_PF_encode e1) mv_La_84 hSe1 rfl rfl ⟨by decide, by decide, Nat.le_of_succ_le hce.1, Nat.le_trans (Nat.le_add_right sl 6) hce.2⟩ (Nat.le_of_ble_eq_true rfl) d_La_law_277 ?_
  refine V.aload_n C 2 rfl rfl d_La_law_280 ?_
  refine V.cVr C (c_Mo_encode e2) mv_La_87 hSe2 rfl rfl ⟨by decide, by decide, Nat.le_of_succ_le hce.1, Nat.le_trans (Nat.le_add_right sl 6) hce.2⟩ (Nat.le_of_ble_eq_true rfl) d_La_law_281 ?_
  refine V.icmp_eq C 1192 (by decide) d_La_law_284 (fun c1 => ?_) (fun c1 => ?_)
  · rw [if_pos c1] at h
    simp only [Option.some.injEq, Prod.mk.injEq, true_and] at h
    obtain ⟨rfl, rfl⟩ := h
    refine V.inc4 C 8 (by decide) (by decide) rfl d_La_law_1192 ?_
    refine V.goto C 33 (by decide) d_La_law_1195 ?_
    exact V.wide _ _ (Nat.le_add_right _ _) (Nat.le_add_right _ _) (V.weak (xsub_spec (by simp [xsub])) kk)
  · rw [if_neg c1] at h
    simp at h
def q_byteAt (S : List xO) (N x mm o : Nat) (p1 : Int32) (F : xF) (G : xL) : Option (Int32 × xF × xL) :=
  (f_La_byteAt S x p1 o F G).bind fun w =>
  (xcl S 9 mm (f_Mo_byteAt S mm p1 w.2.1)).bind fun b =>
  (f_Mo_thrown S mm b.2).bind fun t =>
  if t = w.1 then
    if w.1 = 0 then (lG S o 0 w.2.2).bind fun v => if lg_cmp v b.1.toInt64 = 0 then some (1, b.2, w.2.2) else some (0, b.2, w.2.2)
    else some (1, b.2, w.2.2)
  else some (0, b.2, w.2.2)
set_option maxHeartbeats 4000000 in
set_option maxRecDepth 100000 in
theorem o_byteAt {p : Program} {l : Launch} (hfl : l.flags = flags0) {e : Env} {s : State} {m : MethodId} {args : Array Value} {below : List Frame} {meth : Method} {c : Code} {Q : State → Prop} {g : xG} {S : List xO} (C : Cx p s m args meth c code 7 "PaletteFramesLaw" g) {L : Nat} {xs : Nat → Int32} (hX : va_X g.2.1 L xs s s.heap) (hbl : g.2.1 < s.heap.size) (hbg : g.2.1 < g.1) {N x mm o : Nat} {i : Int32} (hin : ∀ k : Int32, 0 ≤ k.toInt ∧ k.toInt ≤ 7 → vp_in (i + k) L) {F F2 : xF} {G G2 : xL} {ce sl : Nat} (hce : ce + 1 ≤ room_1.cells ∧ sl + 6 ≤ room_1.slots) (h : q_byteAt S N x mm o (xs (i + 1).toNatClampNeg) F G = some (1, F2, G2)) (kk : V p l e room_1 s m args below meth c Q 7 g S F2 G2 (ce + 1) (sl + 6) 33 [some (.float 0), some (.ref x), some (.ref mm), some (.ref o), some (.int (i + 8)), none, none] []) : V p l e room_1 s m args below meth c Q 7 g S F G ce sl 289 [some (.float 0), some (.ref x), some (.ref mm), some (.ref o), some (.int i), none, none] [] := by
  unfold q_byteAt at h
  obtain ⟨⟨k, F3, G3⟩, e1, h⟩ := Option.bind_eq_some_iff.mp h
  dsimp only at h
  obtain ⟨⟨b, F4⟩, e2, h⟩ := Option.bind_eq_some_iff.mp h
  dsimp only at h
  obtain ⟨⟨fs, hS⟩, e2⟩ := xcl_spec e2
  obtain ⟨t, e3, h⟩ := Option.bind_eq_some_iff.mp h
  refine V.aload_n C 1 rfl rfl d_La_law_289 ?_
  refine V.sload_n C 0 rfl rfl d_La_law_290 ?_
  refine V.iload C rfl d_La_law_291 ?_
  refine V.iconst C 1 (by decide) d_La_law_293 ?_
  refine V.iadd C d_La_law_294 ?_
  refine V.sld C hX hbl hbg (hin 1 (by decide)) d_La_law_295 ?_
  refine V.aload_n C 3 rfl rfl d_La_law_296 ?_
  refine V.cSW C (c_La_byteAt hfl e1) cw_La_88 rfl rfl ⟨by decide, by decide, hce.1, hce.2⟩ (Nat.le_of_ble_eq_true rfl) d_La_law_297 ?_
  refine V.is5 C (by decide) rfl d_La_law_300 ?_
  refine V.aload_n C 2 rfl rfl d_La_law_302 ?_
  refine V.sload_n C 0 rfl rfl d_La_law_303 ?_
  refine V.iload C rfl d_La_law_304 ?_
  refine V.iconst C 1 (by decide) d_La_law_306 ?_
  refine V.iadd C d_La_law_307 ?_
  refine V.sld C hX hbl hbg (hin 1 (by decide)) d_La_law_308 ?_
  refine V.cVr C (c_Mo_byteAt e2) mv_La_90 hS rfl rfl ⟨by decide, by decide, hce.1, hce.2⟩ (Nat.le_of_ble_eq_true rfl) d_La_law_309 ?_
  refine V.is6 C (by decide) rfl d_La_law_312 ?_
  refine V.aload_n C 2 rfl rfl d_La_law_314 ?_
  refine V.cVr C (c_Mo_thrown e3) mv_La_76 hS rfl rfl ⟨by decide, by decide, hce.1, hce.2⟩ (Nat.le_of_ble_eq_true rfl) d_La_law_315 ?_
  refine V.iload C rfl d_La_law_318 ?_
  refine V.icmp_eq C 325 (by decide) d_La_law_320 (fun c1 => ?_) (fun c1 => ?_)
  · rw [if_pos c1] at h
    refine V.iload C rfl d_La_law_325 ?_
    refine V.if_ne C 342 (by decide) d_La_law_327 (fun c2 => ?_) (fun c2 => ?_)
    · rw [if_neg c2] at h
      simp only [Option.some.injEq, Prod.mk.injEq, true_and] at h
      obtain ⟨rfl, rfl⟩ := h
      refine V.goto C 1192 (by decide) d_La_law_342 ?_
      refine V.inc4 C 8 (by decide) (by decide) rfl d_La_law_1192 ?_
      refine V.goto C 33 (by decide) d_La_law_1195 ?_
      exact V.weak (xsub_spec (by simp [xsub])) kk
    · rw [if_pos c2] at h
      obtain ⟨v5, e5, h⟩ := Option.bind_eq_some_iff.mp h
      refine V.aload_n C 3 rfl rfl d_La_law_330 ?_
      refine V.iconst C 0 (by decide) d_La_law_331 ?_
      refine V.xlald C e5 d_La_law_332 ?_
      refine V.iload C rfl d_La_law_333 ?_
      refine V.i2l C d_La_law_335 ?_
      refine V.lcmp C d_La_law_336 ?_
      refine V.if_eq C 342 (by decide) d_La_law_337 (fun c3 => ?_) (fun c3 => ?_)
      · rw [if_pos c3] at h
        simp only [Option.some.injEq, Prod.mk.injEq, true_and] at h
        obtain ⟨rfl, rfl⟩ := h
        refine V.goto C 1192 (by decide) d_La_law_342 ?_
        refine V.inc4 C 8 (by decide) (by decide) rfl d_La_law_1192 ?_
        refine V.goto C 33 (by decide) d_La_law_1195 ?_
        exact V.weak (xsub_spec (by simp [xsub])) kk
      · rw [if_neg c3] at h
        simp at h
  · rw [if_neg c1] at h
    simp at h
def q_coded (S : List xO) (N x mm o : Nat) (p1 : Int32) (F : xF) (G : xL) : Option (Int32 × xF × xL) :=
  (xcl S 8 x (f_PF_coded S x p1 F)).bind fun w =>
  (xcl S 9 mm (f_Mo_coded S mm p1 F)).bind fun b =>
  if w = b.1 then some (1, b.2, G) else some (0, b.2, G)
set_option maxHeartbeats 4000000 in
set_option maxRecDepth 100000 in
theorem o_coded {p : Program} {l : Launch} (hfl : l.flags = flags0) {e : Env} {s : State} {m : MethodId} {args : Array Value} {below : List Frame} {meth : Method} {c : Code} {Q : State → Prop} {g : xG} {S : List xO} (C : Cx p s m args meth c code 7 "PaletteFramesLaw" g) {L : Nat} {xs : Nat → Int32} (hX : va_X g.2.1 L xs s s.heap) (hbl : g.2.1 < s.heap.size) (hbg : g.2.1 < g.1) {N x mm o : Nat} {i : Int32} (hin : ∀ k : Int32, 0 ≤ k.toInt ∧ k.toInt ≤ 7 → vp_in (i + k) L) {F F2 : xF} {G G2 : xL} {ce sl : Nat} (hce : ce + 1 ≤ room_1.cells ∧ sl + 6 ≤ room_1.slots) (h : q_coded S N x mm o (xs (i + 1).toNatClampNeg) F G = some (1, F2, G2)) (kk : V p l e room_1 s m args below meth c Q 7 g S F2 G2 (ce + 1) (sl + 6) 33 [some (.float 0), some (.ref x), some (.ref mm), some (.ref o), some (.int (i + 8)), none, none] []) : V p l e room_1 s m args below meth c Q 7 g S F G ce sl 345 [some (.float 0), some (.ref x), some (.ref mm), some (.ref o), some (.int i), none, none] [] := by
  unfold q_coded at h
  obtain ⟨w, e1, h⟩ := Option.bind_eq_some_iff.mp h
  obtain ⟨⟨fse1, hSe1⟩, e1⟩ := xcl_spec e1
  obtain ⟨⟨b1, b2⟩, e2, h⟩ := Option.bind_eq_some_iff.mp h
  dsimp only at h
  obtain ⟨⟨fse2, hSe2⟩, e2⟩ := xcl_spec e2
  refine V.aload_n C 1 rfl rfl d_La_law_345 ?_
  refine V.sload_n C 0 rfl rfl d_La_law_346 ?_
  refine V.iload C rfl d_La_law_347 ?_
  refine V.iconst C 1 (by decide) d_La_law_349 ?_
  refine V.iadd C d_La_law_350 ?_
  refine V.sld C hX hbl hbg (hin 1 (by decide)) d_La_law_351 ?_
  refine V.cVr C (c_PF_coded e1) mv_La_91 hSe1 rfl rfl ⟨by decide, by decide, Nat.le_of_succ_le hce.1, Nat.le_trans (Nat.le_add_right sl 6) hce.2⟩ (Nat.le_of_ble_eq_true rfl) d_La_law_352 ?_
  refine V.aload_n C 2 rfl rfl d_La_law_355 ?_
  refine V.sload_n C 0 rfl rfl d_La_law_356 ?_
  refine V.iload C rfl d_La_law_357 ?_
  refine V.iconst C 1 (by decide) d_La_law_359 ?_
  refine V.iadd C d_La_law_360 ?_
  refine V.sld C hX hbl hbg (hin 1 (by decide)) d_La_law_361 ?_
  refine V.cVr C (c_Mo_coded e2) mv_La_94 hSe2 rfl rfl ⟨by decide, by decide, Nat.le_of_succ_le hce.1, Nat.le_trans (Nat.le_add_right sl 6) hce.2⟩ (Nat.le_of_ble_eq_true rfl) d_La_law_362 ?_
  refine V.icmp_eq C 1192 (by decide) d_La_law_365 (fun c1 => ?_) (fun c1 => ?_)
  · rw [if_pos c1] at h
    simp only [Option.some.injEq, Prod.mk.injEq, true_and] at h
    obtain ⟨rfl, rfl⟩ := h
    refine V.inc4 C 8 (by decide) (by decide) rfl d_La_law_1192 ?_
    refine V.goto C 33 (by decide) d_La_law_1195 ?_
    exact V.wide _ _ (Nat.le_add_right _ _) (Nat.le_add_right _ _) (V.weak (xsub_spec (by simp [xsub])) kk)
  · rw [if_neg c1] at h
    simp at h
def q_feed (S : List xO) (N x mm o : Nat) (p1 : Int32) (F : xF) (G : xL) : Option (Int32 × xF × xL) :=
  (f_La_feed S x p1 o F G).bind fun w =>
  (xcl S 9 mm (f_Mo_feed S mm p1 w.2.1)).bind fun b =>
  (f_Mo_thrown S mm b.2).bind fun t =>
  if t = w.1 then
    if w.1 = 0 then (lG S o 0 w.2.2).bind fun v => if lg_cmp v b.1.toInt64 = 0 then some (1, b.2, w.2.2) else some (0, b.2, w.2.2)
    else some (1, b.2, w.2.2)
  else some (0, b.2, w.2.2)
set_option maxHeartbeats 4000000 in
set_option maxRecDepth 100000 in
theorem o_feed {p : Program} {l : Launch} (hfl : l.flags = flags0) {e : Env} {s : State} {m : MethodId} {args : Array Value} {below : List Frame} {meth : Method} {c : Code} {Q : State → Prop} {g : xG} {S : List xO} (C : Cx p s m args meth c code 7 "PaletteFramesLaw" g) {L : Nat} {xs : Nat → Int32} (hX : va_X g.2.1 L xs s s.heap) (hbl : g.2.1 < s.heap.size) (hbg : g.2.1 < g.1) {N x mm o : Nat} {i : Int32} (hin : ∀ k : Int32, 0 ≤ k.toInt ∧ k.toInt ≤ 7 → vp_in (i + k) L) {F F2 : xF} {G G2 : xL} {ce sl : Nat} (hce : ce + 1 ≤ room_1.cells ∧ sl + 6 ≤ room_1.slots) (h : q_feed S N x mm o (xs (i + 1).toNatClampNeg) F G = some (1, F2, G2)) (kk : V p l e room_1 s m args below meth c Q 7 g S F2 G2 (ce + 1) (sl + 6) 33 [some (.float 0), some (.ref x), some (.ref mm), some (.ref o), some (.int (i + 8)), none, none] []) : V p l e room_1 s m args below meth c Q 7 g S F G ce sl 370 [some (.float 0), some (.ref x), some (.ref mm), some (.ref o), some (.int i), none, none] [] := by
  unfold q_feed at h
  obtain ⟨⟨k, F3, G3⟩, e1, h⟩ := Option.bind_eq_some_iff.mp h
  dsimp only at h
  obtain ⟨⟨b, F4⟩, e2, h⟩ := Option.bind_eq_some_iff.mp h
  dsimp only at h
  obtain ⟨⟨fs, hS⟩, e2⟩ := xcl_spec e2
  obtain ⟨t, e3, h⟩ := Option.bind_eq_some_iff.mp h
  refine V.aload_n C 1 rfl rfl d_La_law_370 ?_
  refine V.sload_n C 0 rfl rfl d_La_law_371 ?_
  refine V.iload C rfl d_La_law_372 ?_
  refine V.iconst C 1 (by decide) d_La_law_374 ?_
  refine V.iadd C d_La_law_375 ?_
  refine V.sld C hX hbl hbg (hin 1 (by decide)) d_La_law_376 ?_
  refine V.aload_n C 3 rfl rfl d_La_law_377 ?_
  refine V.cSW C (c_La_feed hfl e1) cw_La_95 rfl rfl ⟨by decide, by decide, hce.1, hce.2⟩ (Nat.le_of_ble_eq_true rfl) d_La_law_378 ?_
  refine V.is5 C (by decide) rfl d_La_law_381 ?_
  refine V.aload_n C 2 rfl rfl d_La_law_383 ?_
  refine V.sload_n C 0 rfl rfl d_La_law_384 ?_
  refine V.iload C rfl d_La_law_385 ?_
  refine V.iconst C 1 (by decide) d_La_law_387 ?_
  refine V.iadd C d_La_law_388 ?_
  refine V.sld C hX hbl hbg (hin 1 (by decide)) d_La_law_389 ?_
  refine V.cVr C (c_Mo_feed e2) mv_La_97 hS rfl rfl ⟨by decide, by decide, hce.1, hce.2⟩ (Nat.le_of_ble_eq_true rfl) d_La_law_390 ?_
  refine V.is6 C (by decide) rfl d_La_law_393 ?_
  refine V.aload_n C 2 rfl rfl d_La_law_395 ?_
  refine V.cVr C (c_Mo_thrown e3) mv_La_76 hS rfl rfl ⟨by decide, by decide, hce.1, hce.2⟩ (Nat.le_of_ble_eq_true rfl) d_La_law_396 ?_
  refine V.iload C rfl d_La_law_399 ?_
  refine V.icmp_eq C 406 (by decide) d_La_law_401 (fun c1 => ?_) (fun c1 => ?_)
  · rw [if_pos c1] at h
    refine V.iload C rfl d_La_law_406 ?_
    refine V.if_ne C 423 (by decide) d_La_law_408 (fun c2 => ?_) (fun c2 => ?_)
    · rw [if_neg c2] at h
      simp only [Option.some.injEq, Prod.mk.injEq, true_and] at h
      obtain ⟨rfl, rfl⟩ := h
      refine V.goto C 1192 (by decide) d_La_law_423 ?_
      refine V.inc4 C 8 (by decide) (by decide) rfl d_La_law_1192 ?_
      refine V.goto C 33 (by decide) d_La_law_1195 ?_
      exact V.weak (xsub_spec (by simp [xsub])) kk
    · rw [if_pos c2] at h
      obtain ⟨v5, e5, h⟩ := Option.bind_eq_some_iff.mp h
      refine V.aload_n C 3 rfl rfl d_La_law_411 ?_
      refine V.iconst C 0 (by decide) d_La_law_412 ?_
      refine V.xlald C e5 d_La_law_413 ?_
      refine V.iload C rfl d_La_law_414 ?_
      refine V.i2l C d_La_law_416 ?_
      refine V.lcmp C d_La_law_417 ?_
      refine V.if_eq C 423 (by decide) d_La_law_418 (fun c3 => ?_) (fun c3 => ?_)
      · rw [if_pos c3] at h
        simp only [Option.some.injEq, Prod.mk.injEq, true_and] at h
        obtain ⟨rfl, rfl⟩ := h
        refine V.goto C 1192 (by decide) d_La_law_423 ?_
        refine V.inc4 C 8 (by decide) (by decide) rfl d_La_law_1192 ?_
        refine V.goto C 33 (by decide) d_La_law_1195 ?_
        exact V.weak (xsub_spec (by simp [xsub])) kk
      · rw [if_neg c3] at h
        simp at h
  · rw [if_neg c1] at h
    simp at h
def q_pass (S : List xO) (N x mm o : Nat) (p1 : Int32) (p2 : Int32) (F : xF) (G : xL) : Option (Int32 × xF × xL) :=
  (f_La_pass S N x p1 p2 o F G).bind fun w =>
  (xcl S 9 mm (f_Mo_pass S N mm p1 p2 w.2.1)).bind fun b =>
  (f_Mo_thrown S mm b.2).bind fun t =>
  if t = w.1 then
    if w.1 = 0 then (lG S o 0 w.2.2).bind fun v => if lg_cmp v b.1.toInt64 = 0 then some (1, b.2, w.2.2) else some (0, b.2, w.2.2)
    else some (1, b.2, w.2.2)
  else some (0, b.2, w.2.2)
set_option maxHeartbeats 4000000 in
set_option maxRecDepth 100000 in
theorem o_pass {p : Program} {l : Launch} (hfl : l.flags = flags0) {e : Env} {s : State} {m : MethodId} {args : Array Value} {below : List Frame} {meth : Method} {c : Code} {Q : State → Prop} {g : xG} {S : List xO} (C : Cx p s m args meth c code 7 "PaletteFramesLaw" g) {L : Nat} {xs : Nat → Int32} (hX : va_X g.2.1 L xs s s.heap) (hbl : g.2.1 < s.heap.size) (hbg : g.2.1 < g.1) {N x mm o : Nat} {i : Int32} (hin : ∀ k : Int32, 0 ≤ k.toInt ∧ k.toInt ≤ 7 → vp_in (i + k) L) {F F2 : xF} {G G2 : xL} {ce sl : Nat} (hce : ce + 1 ≤ room_1.cells ∧ sl + 6 ≤ room_1.slots) (h : q_pass S N x mm o (xs (i + 1).toNatClampNeg) (xs (i + 2).toNatClampNeg) F G = some (1, F2, G2)) (kk : V p l e room_1 s m args below meth c Q 7 g S F2 G2 (ce + 1) (sl + 6) 33 [some (.float 0), some (.ref x), some (.ref mm), some (.ref o), some (.int (i + 8)), none, none] []) : V p l e room_1 s m args below meth c Q 7 g S F G ce sl 426 [some (.float 0), some (.ref x), some (.ref mm), some (.ref o), some (.int i), none, none] [] := by
  unfold q_pass at h
  obtain ⟨⟨k, F3, G3⟩, e1, h⟩ := Option.bind_eq_some_iff.mp h
  dsimp only at h
  obtain ⟨⟨b, F4⟩, e2, h⟩ := Option.bind_eq_some_iff.mp h
  dsimp only at h
  obtain ⟨⟨fs, hS⟩, e2⟩ := xcl_spec e2
  obtain ⟨t, e3, h⟩ := Option.bind_eq_some_iff.mp h
  refine V.aload_n C 1 rfl rfl d_La_law_426 ?_
  refine V.sload_n C 0 rfl rfl d_La_law_427 ?_
  refine V.iload C rfl d_La_law_428 ?_
  refine V.iconst C 1 (by decide) d_La_law_430 ?_
  refine V.iadd C d_La_law_431 ?_
  refine V.sld C hX hbl hbg (hin 1 (by decide)) d_La_law_432 ?_
  refine V.sload_n C 0 rfl rfl d_La_law_433 ?_
  refine V.iload C rfl d_La_law_434 ?_
  refine V.iconst C 2 (by decide) d_La_law_436 ?_
  refine V.iadd C d_La_law_437 ?_
  refine V.sld C hX hbl hbg (hin 2 (by decide)) d_La_law_438 ?_
  refine V.aload_n C 3 rfl rfl d_La_law_439 ?_
  refine V.cSW C (c_La_pass hfl e1) cw_La_98 rfl rfl ⟨by decide, by decide, hce.1, hce.2⟩ (Nat.le_of_ble_eq_true rfl) d_La_law_440 ?_
  refine V.is5 C (by decide) rfl d_La_law_443 ?_
  refine V.aload_n C 2 rfl rfl d_La_law_445 ?_
  refine V.sload_n C 0 rfl rfl d_La_law_446 ?_
  refine V.iload C rfl d_La_law_447 ?_
  refine V.iconst C 1 (by decide) d_La_law_449 ?_
  refine V.iadd C d_La_law_450 ?_
  refine V.sld C hX hbl hbg (hin 1 (by decide)) d_La_law_451 ?_
  refine V.sload_n C 0 rfl rfl d_La_law_452 ?_
  refine V.iload C rfl d_La_law_453 ?_
  refine V.iconst C 2 (by decide) d_La_law_455 ?_
  refine V.iadd C d_La_law_456 ?_
  refine V.sld C hX hbl hbg (hin 2 (by decide)) d_La_law_457 ?_
  refine V.cVr C (c_Mo_pass e2) mv_La_101 hS rfl rfl ⟨by decide, by decide, hce.1, hce.2⟩ (Nat.le_of_ble_eq_true rfl) d_La_law_458 ?_
  refine V.is6 C (by decide) rfl d_La_law_461 ?_
  refine V.aload_n C 2 rfl rfl d_La_law_463 ?_
  refine V.cVr C (c_Mo_thrown e3) mv_La_76 hS rfl rfl ⟨by decide, by decide, hce.1, hce.2⟩ (Nat.le_of_ble_eq_true rfl) d_La_law_464 ?_
  refine V.iload C rfl d_La_law_467 ?_
  refine V.icmp_eq C 474 (by decide) d_La_law_469 (fun c1 => ?_) (fun c1 => ?_)
  · rw [if_pos c1] at h
    refine V.iload C rfl d_La_law_474 ?_
    refine V.if_ne C 491 (by decide) d_La_law_476 (fun c2 => ?_) (fun c2 => ?_)
    · rw [if_neg c2] at h
      simp only [Option.some.injEq, Prod.mk.injEq, true_and] at h
      obtain ⟨rfl, rfl⟩ := h
      refine V.goto C 1192 (by decide) d_La_law_491 ?_
      refine V.inc4 C 8 (by decide) (by decide) rfl d_La_law_1192 ?_
      refine V.goto C 33 (by decide) d_La_law_1195 ?_
      exact V.weak (xsub_spec (by simp [xsub])) kk
    · rw [if_pos c2] at h
      obtain ⟨v5, e5, h⟩ := Option.bind_eq_some_iff.mp h
      refine V.aload_n C 3 rfl rfl d_La_law_479 ?_
      refine V.iconst C 0 (by decide) d_La_law_480 ?_
      refine V.xlald C e5 d_La_law_481 ?_
      refine V.iload C rfl d_La_law_482 ?_
      refine V.i2l C d_La_law_484 ?_
      refine V.lcmp C d_La_law_485 ?_
      refine V.if_eq C 491 (by decide) d_La_law_486 (fun c3 => ?_) (fun c3 => ?_)
      · rw [if_pos c3] at h
        simp only [Option.some.injEq, Prod.mk.injEq, true_and] at h
        obtain ⟨rfl, rfl⟩ := h
        refine V.goto C 1192 (by decide) d_La_law_491 ?_
        refine V.inc4 C 8 (by decide) (by decide) rfl d_La_law_1192 ?_
        refine V.goto C 33 (by decide) d_La_law_1195 ?_
        exact V.weak (xsub_spec (by simp [xsub])) kk
      · rw [if_neg c3] at h
        simp at h
  · rw [if_neg c1] at h
    simp at h
def q_decode (S : List xO) (N x mm o : Nat)  (F : xF) (G : xL) : Option (Int32 × xF × xL) :=
  (xcl S 8 x (f_PF_decode S N x F)).bind fun w =>
  (xcl S 9 mm (f_Mo_decode S N mm w.2)).bind fun b =>
  if w.1 = b.1 then some (1, b.2, G) else some (0, b.2, G)
set_option maxHeartbeats 4000000 in
set_option maxRecDepth 100000 in
theorem o_decode {p : Program} {l : Launch} (hfl : l.flags = flags0) {e : Env} {s : State} {m : MethodId} {args : Array Value} {below : List Frame} {meth : Method} {c : Code} {Q : State → Prop} {g : xG} {S : List xO} (C : Cx p s m args meth c code 7 "PaletteFramesLaw" g) {L : Nat} {xs : Nat → Int32} (hX : va_X g.2.1 L xs s s.heap) (hbl : g.2.1 < s.heap.size) (hbg : g.2.1 < g.1) {N x mm o : Nat} {i : Int32} (hin : ∀ k : Int32, 0 ≤ k.toInt ∧ k.toInt ≤ 7 → vp_in (i + k) L) {F F2 : xF} {G G2 : xL} {ce sl : Nat} (hce : ce + 1 ≤ room_1.cells ∧ sl + 6 ≤ room_1.slots) (h : q_decode S N x mm o F G = some (1, F2, G2)) (kk : V p l e room_1 s m args below meth c Q 7 g S F2 G2 (ce + 1) (sl + 6) 33 [some (.float 0), some (.ref x), some (.ref mm), some (.ref o), some (.int (i + 8)), none, none] []) : V p l e room_1 s m args below meth c Q 7 g S F G ce sl 494 [some (.float 0), some (.ref x), some (.ref mm), some (.ref o), some (.int i), none, none] [] := by
  unfold q_decode at h
  obtain ⟨⟨w1, w2⟩, e1, h⟩ := Option.bind_eq_some_iff.mp h
  dsimp only at h
  obtain ⟨⟨fse1, hSe1⟩, e1⟩ := xcl_spec e1
  obtain ⟨⟨b1, b2⟩, e2, h⟩ := Option.bind_eq_some_iff.mp h
  dsimp only at h
  obtain ⟨⟨fse2, hSe2⟩, e2⟩ := xcl_spec e2
  refine V.aload_n C 1 rfl rfl d_La_law_494 ?_
  refine V.cVr C (c_PF_decode e1) mv_La_102 hSe1 rfl rfl ⟨by decide, by decide, Nat.le_of_succ_le hce.1, Nat.le_trans (Nat.le_add_right sl 6) hce.2⟩ (Nat.le_of_ble_eq_true rfl) d_La_law_495 ?_
  refine V.aload_n C 2 rfl rfl d_La_law_498 ?_
  refine V.cVr C (c_Mo_decode e2) mv_La_105 hSe2 rfl rfl ⟨by decide, by decide, Nat.le_of_succ_le hce.1, Nat.le_trans (Nat.le_add_right sl 6) hce.2⟩ (Nat.le_of_ble_eq_true rfl) d_La_law_499 ?_
  refine V.icmp_eq C 1192 (by decide) d_La_law_502 (fun c1 => ?_) (fun c1 => ?_)
  · rw [if_pos c1] at h
    simp only [Option.some.injEq, Prod.mk.injEq, true_and] at h
    obtain ⟨rfl, rfl⟩ := h
    refine V.inc4 C 8 (by decide) (by decide) rfl d_La_law_1192 ?_
    refine V.goto C 33 (by decide) d_La_law_1195 ?_
    exact V.wide _ _ (Nat.le_add_right _ _) (Nat.le_add_right _ _) (V.weak (xsub_spec (by simp [xsub])) kk)
  · rw [if_neg c1] at h
    simp at h
def q_at (S : List xO) (N x mm o : Nat) (p1 : Int32) (F : xF) (G : xL) : Option (Int32 × xF × xL) :=
  (f_La_at S x p1 o F G).bind fun w =>
  (xcl S 9 mm (f_Mo_at S mm p1 w.2.1)).bind fun b =>
  (f_Mo_thrown S mm b.2).bind fun t =>
  if t = w.1 then
    if w.1 = 0 then (lG S o 0 w.2.2).bind fun v => if lg_cmp v b.1.toInt64 = 0 then some (1, b.2, w.2.2) else some (0, b.2, w.2.2)
    else some (1, b.2, w.2.2)
  else some (0, b.2, w.2.2)
set_option maxHeartbeats 4000000 in
set_option maxRecDepth 100000 in
theorem o_at {p : Program} {l : Launch} (hfl : l.flags = flags0) {e : Env} {s : State} {m : MethodId} {args : Array Value} {below : List Frame} {meth : Method} {c : Code} {Q : State → Prop} {g : xG} {S : List xO} (C : Cx p s m args meth c code 7 "PaletteFramesLaw" g) {L : Nat} {xs : Nat → Int32} (hX : va_X g.2.1 L xs s s.heap) (hbl : g.2.1 < s.heap.size) (hbg : g.2.1 < g.1) {N x mm o : Nat} {i : Int32} (hin : ∀ k : Int32, 0 ≤ k.toInt ∧ k.toInt ≤ 7 → vp_in (i + k) L) {F F2 : xF} {G G2 : xL} {ce sl : Nat} (hce : ce + 1 ≤ room_1.cells ∧ sl + 6 ≤ room_1.slots) (h : q_at S N x mm o (xs (i + 1).toNatClampNeg) F G = some (1, F2, G2)) (kk : V p l e room_1 s m args below meth c Q 7 g S F2 G2 (ce + 1) (sl + 6) 33 [some (.float 0), some (.ref x), some (.ref mm), some (.ref o), some (.int (i + 8)), none, none] []) : V p l e room_1 s m args below meth c Q 7 g S F G ce sl 507 [some (.float 0), some (.ref x), some (.ref mm), some (.ref o), some (.int i), none, none] [] := by
  unfold q_at at h
  obtain ⟨⟨k, F3, G3⟩, e1, h⟩ := Option.bind_eq_some_iff.mp h
  dsimp only at h
  obtain ⟨⟨b, F4⟩, e2, h⟩ := Option.bind_eq_some_iff.mp h
  dsimp only at h
  obtain ⟨⟨fs, hS⟩, e2⟩ := xcl_spec e2
  obtain ⟨t, e3, h⟩ := Option.bind_eq_some_iff.mp h
  refine V.aload_n C 1 rfl rfl d_La_law_507 ?_
  refine V.sload_n C 0 rfl rfl d_La_law_508 ?_
  refine V.iload C rfl d_La_law_509 ?_
  refine V.iconst C 1 (by decide) d_La_law_511 ?_
  refine V.iadd C d_La_law_512 ?_
  refine V.sld C hX hbl hbg (hin 1 (by decide)) d_La_law_513 ?_
  refine V.aload_n C 3 rfl rfl d_La_law_514 ?_
  refine V.cSW C (c_La_at hfl e1) cw_La_106 rfl rfl ⟨by decide, by decide, hce.1, hce.2⟩ (Nat.le_of_ble_eq_true rfl) d_La_law_515 ?_
  refine V.is5 C (by decide) rfl d_La_law_518 ?_
  refine V.aload_n C 2 rfl rfl d_La_law_520 ?_
  refine V.sload_n C 0 rfl rfl d_La_law_521 ?_
  refine V.iload C rfl d_La_law_522 ?_
  refine V.iconst C 1 (by decide) d_La_law_524 ?_
  refine V.iadd C d_La_law_525 ?_
  refine V.sld C hX hbl hbg (hin 1 (by decide)) d_La_law_526 ?_
  refine V.cVr C (c_Mo_at e2) mv_La_108 hS rfl rfl ⟨by decide, by decide, hce.1, hce.2⟩ (Nat.le_of_ble_eq_true rfl) d_La_law_527 ?_
  refine V.is6 C (by decide) rfl d_La_law_530 ?_
  refine V.aload_n C 2 rfl rfl d_La_law_532 ?_
  refine V.cVr C (c_Mo_thrown e3) mv_La_76 hS rfl rfl ⟨by decide, by decide, hce.1, hce.2⟩ (Nat.le_of_ble_eq_true rfl) d_La_law_533 ?_
  refine V.iload C rfl d_La_law_536 ?_
  refine V.icmp_eq C 543 (by decide) d_La_law_538 (fun c1 => ?_) (fun c1 => ?_)
  · rw [if_pos c1] at h
    refine V.iload C rfl d_La_law_543 ?_
    refine V.if_ne C 560 (by decide) d_La_law_545 (fun c2 => ?_) (fun c2 => ?_)
    · rw [if_neg c2] at h
      simp only [Option.some.injEq, Prod.mk.injEq, true_and] at h
      obtain ⟨rfl, rfl⟩ := h
      refine V.goto C 1192 (by decide) d_La_law_560 ?_
      refine V.inc4 C 8 (by decide) (by decide) rfl d_La_law_1192 ?_
      refine V.goto C 33 (by decide) d_La_law_1195 ?_
      exact V.weak (xsub_spec (by simp [xsub])) kk
    · rw [if_pos c2] at h
      obtain ⟨v5, e5, h⟩ := Option.bind_eq_some_iff.mp h
      refine V.aload_n C 3 rfl rfl d_La_law_548 ?_
      refine V.iconst C 0 (by decide) d_La_law_549 ?_
      refine V.xlald C e5 d_La_law_550 ?_
      refine V.iload C rfl d_La_law_551 ?_
      refine V.i2l C d_La_law_553 ?_
      refine V.lcmp C d_La_law_554 ?_
      refine V.if_eq C 560 (by decide) d_La_law_555 (fun c3 => ?_) (fun c3 => ?_)
      · rw [if_pos c3] at h
        simp only [Option.some.injEq, Prod.mk.injEq, true_and] at h
        obtain ⟨rfl, rfl⟩ := h
        refine V.goto C 1192 (by decide) d_La_law_560 ?_
        refine V.inc4 C 8 (by decide) (by decide) rfl d_La_law_1192 ?_
        refine V.goto C 33 (by decide) d_La_law_1195 ?_
        exact V.weak (xsub_spec (by simp [xsub])) kk
      · rw [if_neg c3] at h
        simp at h
  · rw [if_neg c1] at h
    simp at h
def q_take (S : List xO) (N x mm o : Nat)  (F : xF) (G : xL) : Option (Int32 × xF × xL) :=
  (xcl S 8 x (f_PF_take S N x F)).bind fun w =>
  (xcl S 9 mm (f_Mo_take S N mm w.2)).bind fun b =>
  if w.1 = b.1 then some (1, b.2, G) else some (0, b.2, G)
set_option maxHeartbeats 4000000 in
set_option maxRecDepth 100000 in
theorem o_take {p : Program} {l : Launch} (hfl : l.flags = flags0) {e : Env} {s : State} {m : MethodId} {args : Array Value} {below : List Frame} {meth : Method} {c : Code} {Q : State → Prop} {g : xG} {S : List xO} (C : Cx p s m args meth c code 7 "PaletteFramesLaw" g) {L : Nat} {xs : Nat → Int32} (hX : va_X g.2.1 L xs s s.heap) (hbl : g.2.1 < s.heap.size) (hbg : g.2.1 < g.1) {N x mm o : Nat} {i : Int32} (hin : ∀ k : Int32, 0 ≤ k.toInt ∧ k.toInt ≤ 7 → vp_in (i + k) L) {F F2 : xF} {G G2 : xL} {ce sl : Nat} (hce : ce + 1 ≤ room_1.cells ∧ sl + 6 ≤ room_1.slots) (h : q_take S N x mm o F G = some (1, F2, G2)) (kk : V p l e room_1 s m args below meth c Q 7 g S F2 G2 (ce + 1) (sl + 6) 33 [some (.float 0), some (.ref x), some (.ref mm), some (.ref o), some (.int (i + 8)), none, none] []) : V p l e room_1 s m args below meth c Q 7 g S F G ce sl 563 [some (.float 0), some (.ref x), some (.ref mm), some (.ref o), some (.int i), none, none] [] := by
  unfold q_take at h
  obtain ⟨⟨w1, w2⟩, e1, h⟩ := Option.bind_eq_some_iff.mp h
  dsimp only at h
  obtain ⟨⟨fse1, hSe1⟩, e1⟩ := xcl_spec e1
  obtain ⟨⟨b1, b2⟩, e2, h⟩ := Option.bind_eq_some_iff.mp h
  dsimp only at h
  obtain ⟨⟨fse2, hSe2⟩, e2⟩ := xcl_spec e2
  refine V.aload_n C 1 rfl rfl d_La_law_563 ?_
  refine V.cVr C (c_PF_take e1) mv_La_109 hSe1 rfl rfl ⟨by decide, by decide, Nat.le_of_succ_le hce.1, Nat.le_trans (Nat.le_add_right sl 6) hce.2⟩ (Nat.le_of_ble_eq_true rfl) d_La_law_564 ?_
  refine V.aload_n C 2 rfl rfl d_La_law_567 ?_
  refine V.cVr C (c_Mo_take e2) mv_La_112 hSe2 rfl rfl ⟨by decide, by decide, Nat.le_of_succ_le hce.1, Nat.le_trans (Nat.le_add_right sl 6) hce.2⟩ (Nat.le_of_ble_eq_true rfl) d_La_law_568 ?_
  refine V.icmp_eq C 1192 (by decide) d_La_law_571 (fun c1 => ?_) (fun c1 => ?_)
  · rw [if_pos c1] at h
    simp only [Option.some.injEq, Prod.mk.injEq, true_and] at h
    obtain ⟨rfl, rfl⟩ := h
    refine V.inc4 C 8 (by decide) (by decide) rfl d_La_law_1192 ?_
    refine V.goto C 33 (by decide) d_La_law_1195 ?_
    exact V.wide _ _ (Nat.le_add_right _ _) (Nat.le_add_right _ _) (V.weak (xsub_spec (by simp [xsub])) kk)
  · rw [if_neg c1] at h
    simp at h
def q_frame (S : List xO) (N x mm o : Nat) (p1 : Int32) (p2 : Int32) (p3 : Int32) (p4 : Int32) (p5 : Int32) (p6 : Int32) (p7 : Int32) (F : xF) (G : xL) : Option (Int32 × xF × xL) :=
  (f_La_frame S N x p1 p2 p3 p4 (xb p5) p6 p7 o F G).bind fun w =>
  (xcl S 9 mm (f_Mo_frame S N mm p1 p2 p3 p4 (xb p5) p6 p7 w.2.1)).bind fun b =>
  (f_Mo_thrown S mm b.2).bind fun t =>
  if t = w.1 then
    if w.1 = 0 then (lG S o 0 w.2.2).bind fun v => if lg_cmp v b.1.toInt64 = 0 then some (1, b.2, w.2.2) else some (0, b.2, w.2.2)
    else some (1, b.2, w.2.2)
  else some (0, b.2, w.2.2)
set_option maxHeartbeats 4000000 in
set_option maxRecDepth 100000 in
theorem o_frame {p : Program} {l : Launch} (hfl : l.flags = flags0) {e : Env} {s : State} {m : MethodId} {args : Array Value} {below : List Frame} {meth : Method} {c : Code} {Q : State → Prop} {g : xG} {S : List xO} (C : Cx p s m args meth c code 7 "PaletteFramesLaw" g) {L : Nat} {xs : Nat → Int32} (hX : va_X g.2.1 L xs s s.heap) (hbl : g.2.1 < s.heap.size) (hbg : g.2.1 < g.1) {N x mm o : Nat} {i : Int32} (hin : ∀ k : Int32, 0 ≤ k.toInt ∧ k.toInt ≤ 7 → vp_in (i + k) L) {F F2 : xF} {G G2 : xL} {ce sl : Nat} (hce : ce + 1 ≤ room_1.cells ∧ sl + 6 ≤ room_1.slots) (h : q_frame S N x mm o (xs (i + 1).toNatClampNeg) (xs (i + 2).toNatClampNeg) (xs (i + 3).toNatClampNeg) (xs (i + 4).toNatClampNeg) (xs (i + 5).toNatClampNeg) (xs (i + 6).toNatClampNeg) (xs (i + 7).toNatClampNeg) F G = some (1, F2, G2)) (kk : V p l e room_1 s m args below meth c Q 7 g S F2 G2 (ce + 1) (sl + 6) 33 [some (.float 0), some (.ref x), some (.ref mm), some (.ref o), some (.int (i + 8)), none, none] []) : V p l e room_1 s m args below meth c Q 7 g S F G ce sl 576 [some (.float 0), some (.ref x), some (.ref mm), some (.ref o), some (.int i), none, none] [] := by
  by_cases h5 : xs (i + 5).toNatClampNeg = 0
  · have hb : xb (xs (i + 5).toNatClampNeg) = 0 := if_pos h5
    unfold q_frame at h
    rw [hb] at h
    obtain ⟨⟨k, F3, G3⟩, e1, h⟩ := Option.bind_eq_some_iff.mp h
    dsimp only at h
    obtain ⟨⟨b, F4⟩, e2, h⟩ := Option.bind_eq_some_iff.mp h
    dsimp only at h
    obtain ⟨⟨fs, hS⟩, e2⟩ := xcl_spec e2
    obtain ⟨t, e3, h⟩ := Option.bind_eq_some_iff.mp h
    refine V.aload_n C 1 rfl rfl d_La_law_576 ?_
    refine V.sload_n C 0 rfl rfl d_La_law_577 ?_
    refine V.iload C rfl d_La_law_578 ?_
    refine V.iconst C 1 (by decide) d_La_law_580 ?_
    refine V.iadd C d_La_law_581 ?_
    refine V.sld C hX hbl hbg (hin 1 (by decide)) d_La_law_582 ?_
    refine V.sload_n C 0 rfl rfl d_La_law_583 ?_
    refine V.iload C rfl d_La_law_584 ?_
    refine V.iconst C 2 (by decide) d_La_law_586 ?_
    refine V.iadd C d_La_law_587 ?_
    refine V.sld C hX hbl hbg (hin 2 (by decide)) d_La_law_588 ?_
    refine V.sload_n C 0 rfl rfl d_La_law_589 ?_
    refine V.iload C rfl d_La_law_590 ?_
    refine V.iconst C 3 (by decide) d_La_law_592 ?_
    refine V.iadd C d_La_law_593 ?_
    refine V.sld C hX hbl hbg (hin 3 (by decide)) d_La_law_594 ?_
    refine V.sload_n C 0 rfl rfl d_La_law_595 ?_
    refine V.iload C rfl d_La_law_596 ?_
    refine V.iconst C 4 (by decide) d_La_law_598 ?_
    refine V.iadd C d_La_law_599 ?_
    refine V.sld C hX hbl hbg (hin 4 (by decide)) d_La_law_600 ?_
    refine V.sload_n C 0 rfl rfl d_La_law_601 ?_
    refine V.iload C rfl d_La_law_602 ?_
    refine V.iconst C 5 (by decide) d_La_law_604 ?_
    refine V.iadd C d_La_law_605 ?_
    refine V.sld C hX hbl hbg (hin 5 (by decide)) d_La_law_606 ?_
    refine V.if_eq C 614 (by decide) d_La_law_607 (fun _ => ?_) (fun c5 => absurd h5 c5)
    refine V.iconst C 0 (by decide) d_La_law_614 ?_
    refine V.sload_n C 0 rfl rfl d_La_law_615 ?_
    refine V.iload C rfl d_La_law_616 ?_
    refine V.bipush C 6 (by decide) d_La_law_618 ?_
    refine V.iadd C d_La_law_620 ?_
    refine V.sld C hX hbl hbg (hin 6 (by decide)) d_La_law_621 ?_
    refine V.sload_n C 0 rfl rfl d_La_law_622 ?_
    refine V.iload C rfl d_La_law_623 ?_
    refine V.bipush C 7 (by decide) d_La_law_625 ?_
    refine V.iadd C d_La_law_627 ?_
    refine V.sld C hX hbl hbg (hin 7 (by decide)) d_La_law_628 ?_
    refine V.aload_n C 3 rfl rfl d_La_law_629 ?_
    refine V.cSW C (c_La_frame hfl e1) cw_La_113 rfl rfl ⟨by decide, by decide, hce.1, hce.2⟩ (Nat.le_of_ble_eq_true rfl) d_La_law_630 ?_
    refine V.is5 C (by decide) rfl d_La_law_633 ?_
    refine V.aload_n C 2 rfl rfl d_La_law_635 ?_
    refine V.sload_n C 0 rfl rfl d_La_law_636 ?_
    refine V.iload C rfl d_La_law_637 ?_
    refine V.iconst C 1 (by decide) d_La_law_639 ?_
    refine V.iadd C d_La_law_640 ?_
    refine V.sld C hX hbl hbg (hin 1 (by decide)) d_La_law_641 ?_
    refine V.sload_n C 0 rfl rfl d_La_law_642 ?_
    refine V.iload C rfl d_La_law_643 ?_
    refine V.iconst C 2 (by decide) d_La_law_645 ?_
    refine V.iadd C d_La_law_646 ?_
    refine V.sld C hX hbl hbg (hin 2 (by decide)) d_La_law_647 ?_
    refine V.sload_n C 0 rfl rfl d_La_law_648 ?_
    refine V.iload C rfl d_La_law_649 ?_
    refine V.iconst C 3 (by decide) d_La_law_651 ?_
    refine V.iadd C d_La_law_652 ?_
    refine V.sld C hX hbl hbg (hin 3 (by decide)) d_La_law_653 ?_
    refine V.sload_n C 0 rfl rfl d_La_law_654 ?_
    refine V.iload C rfl d_La_law_655 ?_
    refine V.iconst C 4 (by decide) d_La_law_657 ?_
    refine V.iadd C d_La_law_658 ?_
    refine V.sld C hX hbl hbg (hin 4 (by decide)) d_La_law_659 ?_
    refine V.sload_n C 0 rfl rfl d_La_law_660 ?_
    refine V.iload C rfl d_La_law_661 ?_
    refine V.iconst C 5 (by decide) d_La_law_663 ?_
    refine V.iadd C d_La_law_664 ?_
    refine V.sld C hX hbl hbg (hin 5 (by decide)) d_La_law_665 ?_
    refine V.if_eq C 673 (by decide) d_La_law_666 (fun _ => ?_) (fun c5 => absurd h5 c5)
    refine V.iconst C 0 (by decide) d_La_law_673 ?_
    refine V.sload_n C 0 rfl rfl d_La_law_674 ?_
    refine V.iload C rfl d_La_law_675 ?_
    refine V.bipush C 6 (by decide) d_La_law_677 ?_
    refine V.iadd C d_La_law_679 ?_
    refine V.sld C hX hbl hbg (hin 6 (by decide)) d_La_law_680 ?_
    refine V.sload_n C 0 rfl rfl d_La_law_681 ?_
    refine V.iload C rfl d_La_law_682 ?_
    refine V.bipush C 7 (by decide) d_La_law_684 ?_
    refine V.iadd C d_La_law_686 ?_
    refine V.sld C hX hbl hbg (hin 7 (by decide)) d_La_law_687 ?_
    refine V.cVr C (c_Mo_frame e2) mv_La_116 hS rfl rfl ⟨by decide, by decide, hce.1, hce.2⟩ (Nat.le_of_ble_eq_true rfl) d_La_law_688 ?_
    refine V.is6 C (by decide) rfl d_La_law_691 ?_
    refine V.aload_n C 2 rfl rfl d_La_law_693 ?_
    refine V.cVr C (c_Mo_thrown e3) mv_La_76 hS rfl rfl ⟨by decide, by decide, hce.1, hce.2⟩ (Nat.le_of_ble_eq_true rfl) d_La_law_694 ?_
    refine V.iload C rfl d_La_law_697 ?_
    refine V.icmp_eq C 704 (by decide) d_La_law_699 (fun c1 => ?_) (fun c1 => ?_)
    · rw [if_pos c1] at h
      refine V.iload C rfl d_La_law_704 ?_
      refine V.if_ne C 721 (by decide) d_La_law_706 (fun c2 => ?_) (fun c2 => ?_)
      · rw [if_neg c2] at h
        simp only [Option.some.injEq, Prod.mk.injEq, true_and] at h
        obtain ⟨rfl, rfl⟩ := h
        refine V.goto C 1192 (by decide) d_La_law_721 ?_
        refine V.inc4 C 8 (by decide) (by decide) rfl d_La_law_1192 ?_
        refine V.goto C 33 (by decide) d_La_law_1195 ?_
        exact V.weak (xsub_spec (by simp [xsub])) kk
      · rw [if_pos c2] at h
        obtain ⟨v5, e5, h⟩ := Option.bind_eq_some_iff.mp h
        refine V.aload_n C 3 rfl rfl d_La_law_709 ?_
        refine V.iconst C 0 (by decide) d_La_law_710 ?_
        refine V.xlald C e5 d_La_law_711 ?_
        refine V.iload C rfl d_La_law_712 ?_
        refine V.i2l C d_La_law_714 ?_
        refine V.lcmp C d_La_law_715 ?_
        refine V.if_eq C 721 (by decide) d_La_law_716 (fun c3 => ?_) (fun c3 => ?_)
        · rw [if_pos c3] at h
          simp only [Option.some.injEq, Prod.mk.injEq, true_and] at h
          obtain ⟨rfl, rfl⟩ := h
          refine V.goto C 1192 (by decide) d_La_law_721 ?_
          refine V.inc4 C 8 (by decide) (by decide) rfl d_La_law_1192 ?_
          refine V.goto C 33 (by decide) d_La_law_1195 ?_
          exact V.weak (xsub_spec (by simp [xsub])) kk
        · rw [if_neg c3] at h
          simp at h
    · rw [if_neg c1] at h
      simp at h
  · have hb : xb (xs (i + 5).toNatClampNeg) = 1 := if_neg h5
    unfold q_frame at h
    rw [hb] at h
    obtain ⟨⟨k, F3, G3⟩, e1, h⟩ := Option.bind_eq_some_iff.mp h
    dsimp only at h
    obtain ⟨⟨b, F4⟩, e2, h⟩ := Option.bind_eq_some_iff.mp h
    dsimp only at h
    obtain ⟨⟨fs, hS⟩, e2⟩ := xcl_spec e2
    obtain ⟨t, e3, h⟩ := Option.bind_eq_some_iff.mp h
    refine V.aload_n C 1 rfl rfl d_La_law_576 ?_
    refine V.sload_n C 0 rfl rfl d_La_law_577 ?_
    refine V.iload C rfl d_La_law_578 ?_
    refine V.iconst C 1 (by decide) d_La_law_580 ?_
    refine V.iadd C d_La_law_581 ?_
    refine V.sld C hX hbl hbg (hin 1 (by decide)) d_La_law_582 ?_
    refine V.sload_n C 0 rfl rfl d_La_law_583 ?_
    refine V.iload C rfl d_La_law_584 ?_
    refine V.iconst C 2 (by decide) d_La_law_586 ?_
    refine V.iadd C d_La_law_587 ?_
    refine V.sld C hX hbl hbg (hin 2 (by decide)) d_La_law_588 ?_
    refine V.sload_n C 0 rfl rfl d_La_law_589 ?_
    refine V.iload C rfl d_La_law_590 ?_
    refine V.iconst C 3 (by decide) d_La_law_592 ?_
    refine V.iadd C d_La_law_593 ?_
    refine V.sld C hX hbl hbg (hin 3 (by decide)) d_La_law_594 ?_
    refine V.sload_n C 0 rfl rfl d_La_law_595 ?_
    refine V.iload C rfl d_La_law_596 ?_
    refine V.iconst C 4 (by decide) d_La_law_598 ?_
    refine V.iadd C d_La_law_599 ?_
    refine V.sld C hX hbl hbg (hin 4 (by decide)) d_La_law_600 ?_
    refine V.sload_n C 0 rfl rfl d_La_law_601 ?_
    refine V.iload C rfl d_La_law_602 ?_
    refine V.iconst C 5 (by decide) d_La_law_604 ?_
    refine V.iadd C d_La_law_605 ?_
    refine V.sld C hX hbl hbg (hin 5 (by decide)) d_La_law_606 ?_
    refine V.if_eq C 614 (by decide) d_La_law_607 (fun c5 => absurd c5 h5) (fun _ => ?_)
    refine V.iconst C 1 (by decide) d_La_law_610 ?_
    refine V.goto C 615 (by decide) d_La_law_611 ?_
    refine V.sload_n C 0 rfl rfl d_La_law_615 ?_
    refine V.iload C rfl d_La_law_616 ?_
    refine V.bipush C 6 (by decide) d_La_law_618 ?_
    refine V.iadd C d_La_law_620 ?_
    refine V.sld C hX hbl hbg (hin 6 (by decide)) d_La_law_621 ?_
    refine V.sload_n C 0 rfl rfl d_La_law_622 ?_
    refine V.iload C rfl d_La_law_623 ?_
    refine V.bipush C 7 (by decide) d_La_law_625 ?_
    refine V.iadd C d_La_law_627 ?_
    refine V.sld C hX hbl hbg (hin 7 (by decide)) d_La_law_628 ?_
    refine V.aload_n C 3 rfl rfl d_La_law_629 ?_
    refine V.cSW C (c_La_frame hfl e1) cw_La_113 rfl rfl ⟨by decide, by decide, hce.1, hce.2⟩ (Nat.le_of_ble_eq_true rfl) d_La_law_630 ?_
    refine V.is5 C (by decide) rfl d_La_law_633 ?_
    refine V.aload_n C 2 rfl rfl d_La_law_635 ?_
    refine V.sload_n C 0 rfl rfl d_La_law_636 ?_
    refine V.iload C rfl d_La_law_637 ?_
    refine V.iconst C 1 (by decide) d_La_law_639 ?_
    refine V.iadd C d_La_law_640 ?_
    refine V.sld C hX hbl hbg (hin 1 (by decide)) d_La_law_641 ?_
    refine V.sload_n C 0 rfl rfl d_La_law_642 ?_
    refine V.iload C rfl d_La_law_643 ?_
    refine V.iconst C 2 (by decide) d_La_law_645 ?_
    refine V.iadd C d_La_law_646 ?_
    refine V.sld C hX hbl hbg (hin 2 (by decide)) d_La_law_647 ?_
    refine V.sload_n C 0 rfl rfl d_La_law_648 ?_
    refine V.iload C rfl d_La_law_649 ?_
    refine V.iconst C 3 (by decide) d_La_law_651 ?_
    refine V.iadd C d_La_law_652 ?_
    refine V.sld C hX hbl hbg (hin 3 (by decide)) d_La_law_653 ?_
    refine V.sload_n C 0 rfl rfl d_La_law_654 ?_
    refine V.iload C rfl d_La_law_655 ?_
    refine V.iconst C 4 (by decide) d_La_law_657 ?_
    refine V.iadd C d_La_law_658 ?_
    refine V.sld C hX hbl hbg (hin 4 (by decide)) d_La_law_659 ?_
    refine V.sload_n C 0 rfl rfl d_La_law_660 ?_
    refine V.iload C rfl d_La_law_661 ?_
    refine V.iconst C 5 (by decide) d_La_law_663 ?_
    refine V.iadd C d_La_law_664 ?_
    refine V.sld C hX hbl hbg (hin 5 (by decide)) d_La_law_665 ?_
    refine V.if_eq C 673 (by decide) d_La_law_666 (fun c5 => absurd c5 h5) (fun _ => ?_)
    refine V.iconst C 1 (by decide) d_La_law_669 ?_
    refine V.goto C 674 (by decide) d_La_law_670 ?_
    refine V.sload_n C 0 rfl rfl d_La_law_674 ?_
    refine V.iload C rfl d_La_law_675 ?_
    refine V.bipush C 6 (by decide) d_La_law_677 ?_
    refine V.iadd C d_La_law_679 ?_
    refine V.sld C hX hbl hbg (hin 6 (by decide)) d_La_law_680 ?_
    refine V.sload_n C 0 rfl rfl d_La_law_681 ?_
    refine V.iload C rfl d_La_law_682 ?_
    refine V.bipush C 7 (by decide) d_La_law_684 ?_
    refine V.iadd C d_La_law_686 ?_
    refine V.sld C hX hbl hbg (hin 7 (by decide)) d_La_law_687 ?_
    refine V.cVr C (c_Mo_frame e2) mv_La_116 hS rfl rfl ⟨by decide, by decide, hce.1, hce.2⟩ (Nat.le_of_ble_eq_true rfl) d_La_law_688 ?_
    refine V.is6 C (by decide) rfl d_La_law_691 ?_
    refine V.aload_n C 2 rfl rfl d_La_law_693 ?_
    refine V.cVr C (c_Mo_thrown e3) mv_La_76 hS rfl rfl ⟨by decide, by decide, hce.1, hce.2⟩ (Nat.le_of_ble_eq_true rfl) d_La_law_694 ?_
    refine V.iload C rfl d_La_law_697 ?_
    refine V.icmp_eq C 704 (by decide) d_La_law_699 (fun c1 => ?_) (fun c1 => ?_)
    · rw [if_pos c1] at h
      refine V.iload C rfl d_La_law_704 ?_
      refine V.if_ne C 721 (by decide) d_La_law_706 (fun c2 => ?_) (fun c2 => ?_)
      · rw [if_neg c2] at h
        simp only [Option.some.injEq, Prod.mk.injEq, true_and] at h
        obtain ⟨rfl, rfl⟩ := h
        refine V.goto C 1192 (by decide) d_La_law_721 ?_
        refine V.inc4 C 8 (by decide) (by decide) rfl d_La_law_1192 ?_
        refine V.goto C 33 (by decide) d_La_law_1195 ?_
        exact V.weak (xsub_spec (by simp [xsub])) kk
      · rw [if_pos c2] at h
        obtain ⟨v5, e5, h⟩ := Option.bind_eq_some_iff.mp h
        refine V.aload_n C 3 rfl rfl d_La_law_709 ?_
        refine V.iconst C 0 (by decide) d_La_law_710 ?_
        refine V.xlald C e5 d_La_law_711 ?_
        refine V.iload C rfl d_La_law_712 ?_
        refine V.i2l C d_La_law_714 ?_
        refine V.lcmp C d_La_law_715 ?_
        refine V.if_eq C 721 (by decide) d_La_law_716 (fun c3 => ?_) (fun c3 => ?_)
        · rw [if_pos c3] at h
          simp only [Option.some.injEq, Prod.mk.injEq, true_and] at h
          obtain ⟨rfl, rfl⟩ := h
          refine V.goto C 1192 (by decide) d_La_law_721 ?_
          refine V.inc4 C 8 (by decide) (by decide) rfl d_La_law_1192 ?_
          refine V.goto C 33 (by decide) d_La_law_1195 ?_
          exact V.weak (xsub_spec (by simp [xsub])) kk
        · rw [if_neg c3] at h
          simp at h
    · rw [if_neg c1] at h
      simp at h
def q_colour (S : List xO) (N x mm o : Nat) (p1 : Int32) (p2 : Int32) (p3 : Int32) (F : xF) (G : xL) : Option (Int32 × xF × xL) :=
  (f_La_colour S x p1 p2 p3 o F G).bind fun w =>
  (xcl S 9 mm (f_Mo_colour S N mm p1 p2 p3 w.2.1)).bind fun b =>
  (f_Mo_thrown S mm b.2).bind fun t =>
  if t = w.1 then
    if w.1 = 0 then (lG S o 0 w.2.2).bind fun v => if lg_cmp v b.1.toInt64 = 0 then some (1, b.2, w.2.2) else some (0, b.2, w.2.2)
    else some (1, b.2, w.2.2)
  else some (0, b.2, w.2.2)
set_option maxHeartbeats 4000000 in
set_option maxRecDepth 100000 in
theorem o_colour {p : Program} {l : Launch} (hfl : l.flags = flags0) {e : Env} {s : State} {m : MethodId} {args : Array Value} {below : List Frame} {meth : Method} {c : Code} {Q : State → Prop} {g : xG} {S : List xO} (C : Cx p s m args meth c code 7 "PaletteFramesLaw" g) {L : Nat} {xs : Nat → Int32} (hX : va_X g.2.1 L xs s s.heap) (hbl : g.2.1 < s.heap.size) (hbg : g.2.1 < g.1) {N x mm o : Nat} {i : Int32} (hin : ∀ k : Int32, 0 ≤ k.toInt ∧ k.toInt ≤ 7 → vp_in (i + k) L) {F F2 : xF} {G G2 : xL} {ce sl : Nat} (hce : ce + 1 ≤ room_1.cells ∧ sl + 6 ≤ room_1.slots) (h : q_colour S N x mm o (xs (i + 1).toNatClampNeg) (xs (i + 2).toNatClampNeg) (xs (i + 3).toNatClampNeg) F G = some (1, F2, G2)) (kk : V p l e room_1 s m args below meth c Q 7 g S F2 G2 (ce + 1) (sl + 6) 33 [some (.float 0), some (.ref x), some (.ref mm), some (.ref o), some (.int (i + 8)), none, none] []) : V p l e room_1 s m args below meth c Q 7 g S F G ce sl 724 [some (.float 0), some (.ref x), some (.ref mm), some (.ref o), some (.int i), none, none] [] := by
  unfold q_colour at h
  obtain ⟨⟨k, F3, G3⟩, e1, h⟩ := Option.bind_eq_some_iff.mp h
  dsimp only at h
  obtain ⟨⟨b, F4⟩, e2, h⟩ := Option.bind_eq_some_iff.mp h
  dsimp only at h
  obtain ⟨⟨fs, hS⟩, e2⟩ := xcl_spec e2
  obtain ⟨t, e3, h⟩ := Option.bind_eq_some_iff.mp h
  refine V.aload_n C 1 rfl rfl d_La_law_724 ?_
  refine V.sload_n C 0 rfl rfl d_La_law_725 ?_
  refine V.iload C rfl d_La_law_726 ?_
  refine V.iconst C 1 (by decide) d_La_law_728 ?_
  refine V.iadd C d_La_law_729 ?_
  refine V.sld C hX hbl hbg (hin 1 (by decide)) d_La_law_730 ?_
  refine V.sload_n C 0 rfl rfl d_La_law_731 ?_
  refine V.iload C rfl d_La_law_732 ?_
  refine V.iconst C 2 (by decide) d_La_law_734 ?_
  refine V.iadd C d_La_law_735 ?_
  refine V.sld C hX hbl hbg (hin 2 (by decide)) d_La_law_736 ?_
  refine V.sload_n C 0 rfl rfl d_La_law_737 ?_
  refine V.iload C rfl d_La_law_738 ?_
  refine V.iconst C 3 (by decide) d_La_law_740 ?_
  refine V.iadd C d_La_law_741 ?_
  refine V.sld C hX hbl hbg (hin 3 (by decide)) d_La_law_742 ?_
  refine V.aload_n C 3 rfl rfl d_La_law_743 ?_
  refine V.cSW C (c_La_colour hfl e1) cw_La_117 rfl rfl ⟨by decide, by decide, hce.1, hce.2⟩ (Nat.le_of_ble_eq_true rfl) d_La_law_744 ?_
  refine V.is5 C (by decide) rfl d_La_law_747 ?_
  refine V.aload_n C 2 rfl rfl d_La_law_749 ?_
  refine V.sload_n C 0 rfl rfl d_La_law_750 ?_
  refine V.iload C rfl d_La_law_751 ?_
  refine V.iconst C 1 (by decide) d_La_law_753 ?_
  refine V.iadd C d_La_law_754 ?_
  refine V.sld C hX hbl hbg (hin 1 (by decide)) d_La_law_755 ?_
  refine V.sload_n C 0 rfl rfl d_La_law_756 ?_
  refine V.iload C rfl d_La_law_757 ?_
  refine V.iconst C 2 (by decide) d_La_law_759 ?_
  refine V.iadd C d_La_law_760 ?_
  refine V.sld C hX hbl hbg (hin 2 (by decide)) d_La_law_761 ?_
  refine V.sload_n C 0 rfl rfl d_La_law_762 ?_
  refine V.iload C rfl d_La_law_763 ?_
  refine V.iconst C 3 (by decide) d_La_law_765 ?_
  refine V.iadd C d_La_law_766 ?_
  refine V.sld C hX hbl hbg (hin 3 (by decide)) d_La_law_767 ?_
  refine V.cVr C (c_Mo_colour e2) mv_La_119 hS rfl rfl ⟨by decide, by decide, hce.1, hce.2⟩ (Nat.le_of_ble_eq_true rfl) d_La_law_768 ?_
  refine V.is6 C (by decide) rfl d_La_law_771 ?_
  refine V.aload_n C 2 rfl rfl d_La_law_773 ?_
  refine V.cVr C (c_Mo_thrown e3) mv_La_76 hS rfl rfl ⟨by decide, by decide, hce.1, hce.2⟩ (Nat.le_of_ble_eq_true rfl) d_La_law_774 ?_
  refine V.iload C rfl d_La_law_777 ?_
  refine V.icmp_eq C 784 (by decide) d_La_law_779 (fun c1 => ?_) (fun c1 => ?_)
  · rw [if_pos c1] at h
    refine V.iload C rfl d_La_law_784 ?_
    refine V.if_ne C 801 (by decide) d_La_law_786 (fun c2 => ?_) (fun c2 => ?_)
    · rw [if_neg c2] at h
      simp only [Option.some.injEq, Prod.mk.injEq, true_and] at h
      obtain ⟨rfl, rfl⟩ := h
      refine V.goto C 1192 (by decide) d_La_law_801 ?_
      refine V.inc4 C 8 (by decide) (by decide) rfl d_La_law_1192 ?_
      refine V.goto C 33 (by decide) d_La_law_1195 ?_
      exact V.weak (xsub_spec (by simp [xsub])) kk
    · rw [if_pos c2] at h
      obtain ⟨v5, e5, h⟩ := Option.bind_eq_some_iff.mp h
      refine V.aload_n C 3 rfl rfl d_La_law_789 ?_
      refine V.iconst C 0 (by decide) d_La_law_790 ?_
      refine V.xlald C e5 d_La_law_791 ?_
      refine V.iload C rfl d_La_law_792 ?_
      refine V.i2l C d_La_law_794 ?_
      refine V.lcmp C d_La_law_795 ?_
      refine V.if_eq C 801 (by decide) d_La_law_796 (fun c3 => ?_) (fun c3 => ?_)
      · rw [if_pos c3] at h
        simp only [Option.some.injEq, Prod.mk.injEq, true_and] at h
        obtain ⟨rfl, rfl⟩ := h
        refine V.goto C 1192 (by decide) d_La_law_801 ?_
        refine V.inc4 C 8 (by decide) (by decide) rfl d_La_law_1192 ?_
        refine V.goto C 33 (by decide) d_La_law_1195 ?_
        exact V.weak (xsub_spec (by simp [xsub])) kk
      · rw [if_neg c3] at h
        simp at h
  · rw [if_neg c1] at h
    simp at h
def q_through (S : List xO) (N x mm o : Nat) (p1 : Int32) (p2 : Int32) (F : xF) (G : xL) : Option (Int32 × xF × xL) :=
  (f_La_through S x p1 p2 o F G).bind fun w =>
  (xcl S 9 mm (f_Mo_through S mm p1 p2 w.2.1)).bind fun b =>
  (f_Mo_thrown S mm b.2).bind fun t =>
  if t = w.1 then
    if w.1 = 0 then (lG S o 0 w.2.2).bind fun v => if lg_cmp v b.1.toInt64 = 0 then some (1, b.2, w.2.2) else some (0, b.2, w.2.2)
    else some (1, b.2, w.2.2)
  else some (0, b.2, w.2.2)
set_option maxHeartbeats 4000000 in
set_option maxRecDepth 100000 in
theorem o_through {p : Program} {l : Launch} (hfl : l.flags = flags0) {e : Env} {s : State} {m : MethodId} {args : Array Value} {below : List Frame} {meth : Method} {c : Code} {Q : State → Prop} {g : xG} {S : List xO} (C : Cx p s m args meth c code 7 "PaletteFramesLaw" g) {L : Nat} {xs : Nat → Int32} (hX : va_X g.2.1 L xs s s.heap) (hbl : g.2.1 < s.heap.size) (hbg : g.2.1 < g.1) {N x mm o : Nat} {i : Int32} (hin : ∀ k : Int32, 0 ≤ k.toInt ∧ k.toInt ≤ 7 → vp_in (i + k) L) {F F2 : xF} {G G2 : xL} {ce sl : Nat} (hce : ce + 1 ≤ room_1.cells ∧ sl + 6 ≤ room_1.slots) (h : q_through S N x mm o (xs (i + 1).toNatClampNeg) (xs (i + 2).toNatClampNeg) F G = some (1, F2, G2)) (kk : V p l e room_1 s m args below meth c Q 7 g S F2 G2 (ce + 1) (sl + 6) 33 [some (.float 0), some (.ref x), some (.ref mm), some (.ref o), some (.int (i + 8)), none, none] []) : V p l e room_1 s m args below meth c Q 7 g S F G ce sl 804 [some (.float 0), some (.ref x), some (.ref mm), some (.ref o), some (.int i), none, none] [] := by
  unfold q_through at h
  obtain ⟨⟨k, F3, G3⟩, e1, h⟩ := Option.bind_eq_some_iff.mp h
  dsimp only at h
  obtain ⟨⟨b, F4⟩, e2, h⟩ := Option.bind_eq_some_iff.mp h
  dsimp only at h
  obtain ⟨⟨fs, hS⟩, e2⟩ := xcl_spec e2
  obtain ⟨t, e3, h⟩ := Option.bind_eq_some_iff.mp h
  refine V.aload_n C 1 rfl rfl d_La_law_804 ?_
  refine V.sload_n C 0 rfl rfl d_La_law_805 ?_
  refine V.iload C rfl d_La_law_806 ?_
  refine V.iconst C 1 (by decide) d_La_law_808 ?_
  refine V.iadd C d_La_law_809 ?_
  refine V.sld C hX hbl hbg (hin 1 (by decide)) d_La_law_810 ?_
  refine V.sload_n C 0 rfl rfl d_La_law_811 ?_
  refine V.iload C rfl d_La_law_812 ?_
  refine V.iconst C 2 (by decide) d_La_law_814 ?_
  refine V.iadd C d_La_law_815 ?_
  refine V.sld C hX hbl hbg (hin 2 (by decide)) d_La_law_816 ?_
  refine V.aload_n C 3 rfl rfl d_La_law_817 ?_
  refine V.cSW C (c_La_through hfl e1) cw_La_120 rfl rfl ⟨by decide, by decide, hce.1, hce.2⟩ (Nat.le_of_ble_eq_true rfl) d_La_law_818 ?_
  refine V.is5 C (by decide) rfl d_La_law_821 ?_
  refine V.aload_n C 2 rfl rfl d_La_law_823 ?_
  refine V.sload_n C 0 rfl rfl d_La_law_824 ?_
  refine V.iload C rfl d_La_law_825 ?_
  refine V.iconst C 1 (by decide) d_La_law_827 ?_
  refine V.iadd C d_La_law_828 ?_
  refine V.sld C hX hbl hbg (hin 1 (by decide)) d_La_law_829 ?_
  refine V.sload_n C 0 rfl rfl d_La_law_830 ?_
  refine V.iload C rfl d_La_law_831 ?_
  refine V.iconst C 2 (by decide) d_La_law_833 ?_
  refine V.iadd C d_La_law_834 ?_
  refine V.sld C hX hbl hbg (hin 2 (by decide)) d_La_law_835 ?_
  refine V.cVr C (c_Mo_through e2) mv_La_122 hS rfl rfl ⟨by decide, by decide, hce.1, hce.2⟩ (Nat.le_of_ble_eq_true rfl) d_La_law_836 ?_
  refine V.is6 C (by decide) rfl d_La_law_839 ?_
  refine V.aload_n C 2 rfl rfl d_La_law_841 ?_
  refine V.cVr C (c_Mo_thrown e3) mv_La_76 hS rfl rfl ⟨by decide, by decide, hce.1, hce.2⟩ (Nat.le_of_ble_eq_true rfl) d_La_law_842 ?_
  refine V.iload C rfl d_La_law_845 ?_
  refine V.icmp_eq C 852 (by decide) d_La_law_847 (fun c1 => ?_) (fun c1 => ?_)
  · rw [if_pos c1] at h
    refine V.iload C rfl d_La_law_852 ?_
    refine V.if_ne C 869 (by decide) d_La_law_854 (fun c2 => ?_) (fun c2 => ?_)
    · rw [if_neg c2] at h
      simp only [Option.some.injEq, Prod.mk.injEq, true_and] at h
      obtain ⟨rfl, rfl⟩ := h
      refine V.goto C 1192 (by decide) d_La_law_869 ?_
      refine V.inc4 C 8 (by decide) (by decide) rfl d_La_law_1192 ?_
      refine V.goto C 33 (by decide) d_La_law_1195 ?_
      exact V.weak (xsub_spec (by simp [xsub])) kk
    · rw [if_pos c2] at h
      obtain ⟨v5, e5, h⟩ := Option.bind_eq_some_iff.mp h
      refine V.aload_n C 3 rfl rfl d_La_law_857 ?_
      refine V.iconst C 0 (by decide) d_La_law_858 ?_
      refine V.xlald C e5 d_La_law_859 ?_
      refine V.iload C rfl d_La_law_860 ?_
      refine V.i2l C d_La_law_862 ?_
      refine V.lcmp C d_La_law_863 ?_
      refine V.if_eq C 869 (by decide) d_La_law_864 (fun c3 => ?_) (fun c3 => ?_)
      · rw [if_pos c3] at h
        simp only [Option.some.injEq, Prod.mk.injEq, true_and] at h
        obtain ⟨rfl, rfl⟩ := h
        refine V.goto C 1192 (by decide) d_La_law_869 ?_
        refine V.inc4 C 8 (by decide) (by decide) rfl d_La_law_1192 ?_
        refine V.goto C 33 (by decide) d_La_law_1195 ?_
        exact V.weak (xsub_spec (by simp [xsub])) kk
      · rw [if_neg c3] at h
        simp at h
  · rw [if_neg c1] at h
    simp at h
def q_shown (S : List xO) (N x mm o : Nat) (p1 : Int32) (p2 : Int32) (p3 : Int32) (F : xF) (G : xL) : Option (Int32 × xF × xL) :=
  (f_La_shown S N x p1 p2 p3 o F G).bind fun w =>
  (xcl S 9 mm (f_Mo_shown S N mm p1 p2 p3 w.2.1)).bind fun b =>
  (f_Mo_thrown S mm b.2).bind fun t =>
  if t = w.1 then
    if w.1 = 0 then (lG S o 0 w.2.2).bind fun v => if lg_cmp v b.1.toInt64 = 0 then some (1, b.2, w.2.2) else some (0, b.2, w.2.2)
    else some (1, b.2, w.2.2)
  else some (0, b.2, w.2.2)
set_option maxHeartbeats 4000000 in
set_option maxRecDepth 100000 in
theorem o_shown {p : Program} {l : Launch} (hfl : l.flags = flags0) {e : Env} {s : State} {m : MethodId} {args : Array Value} {below : List Frame} {meth : Method} {c : Code} {Q : State → Prop} {g : xG} {S : List xO} (C : Cx p s m args meth c code 7 "PaletteFramesLaw" g) {L : Nat} {xs : Nat → Int32} (hX : va_X g.2.1 L xs s s.heap) (hbl : g.2.1 < s.heap.size) (hbg : g.2.1 < g.1) {N x mm o : Nat} {i : Int32} (hin : ∀ k : Int32, 0 ≤ k.toInt ∧ k.toInt ≤ 7 → vp_in (i + k) L) {F F2 : xF} {G G2 : xL} {ce sl : Nat} (hce : ce + 1 ≤ room_1.cells ∧ sl + 6 ≤ room_1.slots) (h : q_shown S N x mm o (xs (i + 1).toNatClampNeg) (xs (i + 2).toNatClampNeg) (xs (i + 3).toNatClampNeg) F G = some (1, F2, G2)) (kk : V p l e room_1 s m args below meth c Q 7 g S F2 G2 (ce + 1) (sl + 6) 33 [some (.float 0), some (.ref x), some (.ref mm), some (.ref o), some (.int (i + 8)), none, none] []) : V p l e room_1 s m args below meth c Q 7 g S F G ce sl 872 [some (.float 0), some (.ref x), some (.ref mm), some (.ref o), some (.int i), none, none] [] := by
  unfold q_shown at h
  obtain ⟨⟨k, F3, G3⟩, e1, h⟩ := Option.bind_eq_some_iff.mp h
  dsimp only at h
  obtain ⟨⟨b, F4⟩, e2, h⟩ := Option.bind_eq_some_iff.mp h
  dsimp only at h
  obtain ⟨⟨fs, hS⟩, e2⟩ := xcl_spec e2
  obtain ⟨t, e3, h⟩ := Option.bind_eq_some_iff.mp h
  refine V.aload_n C 1 rfl rfl d_La_law_872 ?_
  refine V.sload_n C 0 rfl rfl d_La_law_873 ?_
  refine V.iload C rfl d_La_law_874 ?_
  refine V.iconst C 1 (by decide) d_La_law_876 ?_
  refine V.iadd C d_La_law_877 ?_
  refine V.sld C hX hbl hbg (hin 1 (by decide)) d_La_law_878 ?_
  refine V.sload_n C 0 rfl rfl d_La_law_879 ?_
  refine V.iload C rfl d_La_law_880 ?_
  refine V.iconst C 2 (by decide) d_La_law_882 ?_
  refine V.iadd C d_La_law_883 ?_
  refine V.sld C hX hbl hbg (hin 2 (by decide)) d_La_law_884 ?_
  refine V.sload_n C 0 rfl rfl d_La_law_885 ?_
  refine V.iload C rfl d_La_law_886 ?_
  refine V.iconst C 3 (by decide) d_La_law_888 ?_
  refine V.iadd C d_La_law_889 ?_
  refine V.sld C hX hbl hbg (hin 3 (by decide)) d_La_law_890 ?_
  refine V.aload_n C 3 rfl rfl d_La_law_891 ?_
  refine V.cSW C (c_La_shown hfl e1) cw_La_123 rfl rfl ⟨by decide, by decide, hce.1, hce.2⟩ (Nat.le_of_ble_eq_true rfl) d_La_law_892 ?_
  refine V.is5 C (by decide) rfl d_La_law_895 ?_
  refine V.aload_n C 2 rfl rfl d_La_law_897 ?_
  refine V.sload_n C 0 rfl rfl d_La_law_898 ?_
  refine V.iload C rfl d_La_law_899 ?_
  refine V.iconst C 1 (by decide) d_La_law_901 ?_
  refine V.iadd C d_La_law_902 ?_
  refine V.sld C hX hbl hbg (hin 1 (by decide)) d_La_law_903 ?_
  refine V.sload_n C 0 rfl rfl d_La_law_904 ?_
  refine V.iload C rfl d_La_law_905 ?_
  refine V.iconst C 2 (by decide) d_La_law_907 ?_
  refine V.iadd C d_La_law_908 ?_
  refine V.sld C hX hbl hbg (hin 2 (by decide)) d_La_law_909 ?_
  refine V.sload_n C 0 rfl rfl d_La_law_910 ?_
  refine V.iload C rfl d_La_law_911 ?_
  refine V.iconst C 3 (by decide) d_La_law_913 ?_
  refine V.iadd C d_La_law_914 ?_
  refine V.sld C hX hbl hbg (hin 3 (by decide)) d_La_law_915 ?_
  refine V.cVr C (c_Mo_shown e2) mv_La_125 hS rfl rfl ⟨by decide, by decide, hce.1, hce.2⟩ (Nat.le_of_ble_eq_true rfl) d_La_law_916 ?_
  refine V.is6 C (by decide) rfl d_La_law_919 ?_
  refine V.aload_n C 2 rfl rfl d_La_law_921 ?_
  refine V.cVr C (c_Mo_thrown e3) mv_La_76 hS rfl rfl ⟨by decide, by decide, hce.1, hce.2⟩ (Nat.le_of_ble_eq_true rfl) d_La_law_922 ?_
  refine V.iload C rfl d_La_law_925 ?_
  refine V.icmp_eq C 932 (by decide) d_La_law_927 (fun c1 => ?_) (fun c1 => ?_)
  · rw [if_pos c1] at h
    refine V.iload C rfl d_La_law_932 ?_
    refine V.if_ne C 949 (by decide) d_La_law_934 (fun c2 => ?_) (fun c2 => ?_)
    · rw [if_neg c2] at h
      simp only [Option.some.injEq, Prod.mk.injEq, true_and] at h
      obtain ⟨rfl, rfl⟩ := h
      refine V.goto C 1192 (by decide) d_La_law_949 ?_
      refine V.inc4 C 8 (by decide) (by decide) rfl d_La_law_1192 ?_
      refine V.goto C 33 (by decide) d_La_law_1195 ?_
      exact V.weak (xsub_spec (by simp [xsub])) kk
    · rw [if_pos c2] at h
      obtain ⟨v5, e5, h⟩ := Option.bind_eq_some_iff.mp h
      refine V.aload_n C 3 rfl rfl d_La_law_937 ?_
      refine V.iconst C 0 (by decide) d_La_law_938 ?_
      refine V.xlald C e5 d_La_law_939 ?_
      refine V.iload C rfl d_La_law_940 ?_
      refine V.i2l C d_La_law_942 ?_
      refine V.lcmp C d_La_law_943 ?_
      refine V.if_eq C 949 (by decide) d_La_law_944 (fun c3 => ?_) (fun c3 => ?_)
      · rw [if_pos c3] at h
        simp only [Option.some.injEq, Prod.mk.injEq, true_and] at h
        obtain ⟨rfl, rfl⟩ := h
        refine V.goto C 1192 (by decide) d_La_law_949 ?_
        refine V.inc4 C 8 (by decide) (by decide) rfl d_La_law_1192 ?_
        refine V.goto C 33 (by decide) d_La_law_1195 ?_
        exact V.weak (xsub_spec (by simp [xsub])) kk
      · rw [if_neg c3] at h
        simp at h
  · rw [if_neg c1] at h
    simp at h
def q_symbol (S : List xO) (N x mm o : Nat) (p1 : Int32) (p2 : Int32) (p3 : Int32) (F : xF) (G : xL) : Option (Int32 × xF × xL) :=
  (f_La_symbol S x p1 p2 p3 o F G).bind fun w =>
  (xcl S 9 mm (f_Mo_symbol S mm p1 p2 p3 w.2.1)).bind fun b =>
  (f_Mo_thrown S mm b.2).bind fun t =>
  if t = w.1 then
    if w.1 = 0 then (lG S o 0 w.2.2).bind fun v => if lg_cmp v b.1.toInt64 = 0 then some (1, b.2, w.2.2) else some (0, b.2, w.2.2)
    else some (1, b.2, w.2.2)
  else some (0, b.2, w.2.2)
set_option maxHeartbeats 4000000 in
set_option maxRecDepth 100000 in
theorem o_symbol {p : Program} {l : Launch} (hfl : l.flags = flags0) {e : Env} {s : State} {m : MethodId} {args : Array Value} {below : List Frame} {meth : Method} {c : Code} {Q : State → Prop} {g : xG} {S : List xO} (C : Cx p s m args meth c code 7 "PaletteFramesLaw" g) {L : Nat} {xs : Nat → Int32} (hX : va_X g.2.1 L xs s s.heap) (hbl : g.2.1 < s.heap.size) (hbg : g.2.1 < g.1) {N x mm o : Nat} {i : Int32} (hin : ∀ k : Int32, 0 ≤ k.toInt ∧ k.toInt ≤ 7 → vp_in (i + k) L) {F F2 : xF} {G G2 : xL} {ce sl : Nat} (hce : ce + 1 ≤ room_1.cells ∧ sl + 6 ≤ room_1.slots) (h : q_symbol S N x mm o (xs (i + 1).toNatClampNeg) (xs (i + 2).toNatClampNeg) (xs (i + 3).toNatClampNeg) F G = some (1, F2, G2)) (kk : V p l e room_1 s m args below meth c Q 7 g S F2 G2 (ce + 1) (sl + 6) 33 [some (.float 0), some (.ref x), some (.ref mm), some (.ref o), some (.int (i + 8)), none, none] []) : V p l e room_1 s m args below meth c Q 7 g S F G ce sl 952 [some (.float 0), some (.ref x), some (.ref mm), some (.ref o), some (.int i), none, none] [] := by
  unfold q_symbol at h
  obtain ⟨⟨k, F3, G3⟩, e1, h⟩ := Option.bind_eq_some_iff.mp h
  dsimp only at h
  obtain ⟨⟨b, F4⟩, e2, h⟩ := Option.bind_eq_some_iff.mp h
  dsimp only at h
  obtain ⟨⟨fs, hS⟩, e2⟩ := xcl_spec e2
  obtain ⟨t, e3, h⟩ := Option.bind_eq_some_iff.mp h
  refine V.aload_n C 1 rfl rfl d_La_law_952 ?_
  refine V.sload_n C 0 rfl rfl d_La_law_953 ?_
  refine V.iload C rfl d_La_law_954 ?_
  refine V.iconst C 1 (by decide) d_La_law_956 ?_
  refine V.iadd C d_La_law_957 ?_
  refine V.sld C hX hbl hbg (hin 1 (by decide)) d_La_law_958 ?_
  refine V.sload_n C 0 rfl rfl d_La_law_959 ?_
  refine V.iload C rfl d_La_law_960 ?_
  refine V.iconst C 2 (by decide) d_La_law_962 ?_
  refine V.iadd C d_La_law_963 ?_
  refine V.sld C hX hbl hbg (hin 2 (by decide)) d_La_law_964 ?_
  refine V.sload_n C 0 rfl rfl d_La_law_965 ?_
  refine V.iload C rfl d_La_law_966 ?_
  refine V.iconst C 3 (by decide) d_La_law_968 ?_
  refine V.iadd C d_La_law_969 ?_
  refine V.sld C hX hbl hbg (hin 3 (by decide)) d_La_law_970 ?_
  refine V.aload_n C 3 rfl rfl d_La_law_971 ?_
  refine V.cSW C (c_La_symbol hfl e1) cw_La_126 rfl rfl ⟨by decide, by decide, hce.1, hce.2⟩ (Nat.le_of_ble_eq_true rfl) d_La_law_972 ?_
  refine V.is5 C (by decide) rfl d_La_law_975 ?_
  refine V.aload_n C 2 rfl rfl d_La_law_977 ?_
  refine V.sload_n C 0 rfl rfl d_La_law_978 ?_
  refine V.iload C rfl d_La_law_979 ?_
  refine V.iconst C 1 (by decide) d_La_law_981 ?_
  refine V.iadd C d_La_law_982 ?_
  refine V.sld C hX hbl hbg (hin 1 (by decide)) d_La_law_983 ?_
  refine V.sload_n C 0 rfl rfl d_La_law_984 ?_
  refine V.iload C rfl d_La_law_985 ?_
  refine V.iconst C 2 (by decide) d_La_law_987 ?_
  refine V.iadd C d_La_law_988 ?_
  refine V.sld C hX hbl hbg (hin 2 (by decide)) d_La_law_989 ?_
  refine V.sload_n C 0 rfl rfl d_La_law_990 ?_
  refine V.iload C rfl d_La_law_991 ?_
  refine V.iconst C 3 (by decide) d_La_law_993 ?_
  refine V.iadd C d_La_law_994 ?_
  refine V.sld C hX hbl hbg (hin 3 (by decide)) d_La_law_995 ?_
  refine V.cVr C (c_Mo_symbol e2) mv_La_128 hS rfl rfl ⟨by decide, by decide, hce.1, hce.2⟩ (Nat.le_of_ble_eq_true rfl) d_La_law_996 ?_
  refine V.is6 C (by decide) rfl d_La_law_999 ?_
  refine V.aload_n C 2 rfl rfl d_La_law_1001 ?_
  refine V.cVr C (c_Mo_thrown e3) mv_La_76 hS rfl rfl ⟨by decide, by decide, hce.1, hce.2⟩ (Nat.le_of_ble_eq_true rfl) d_La_law_1002 ?_
  refine V.iload C rfl d_La_law_1005 ?_
  refine V.icmp_eq C 1012 (by decide) d_La_law_1007 (fun c1 => ?_) (fun c1 => ?_)
  · rw [if_pos c1] at h
    refine V.iload C rfl d_La_law_1012 ?_
    refine V.if_ne C 1029 (by decide) d_La_law_1014 (fun c2 => ?_) (fun c2 => ?_)
    · rw [if_neg c2] at h
      simp only [Option.some.injEq, Prod.mk.injEq, true_and] at h
      obtain ⟨rfl, rfl⟩ := h
      refine V.goto C 1192 (by decide) d_La_law_1029 ?_
      refine V.inc4 C 8 (by decide) (by decide) rfl d_La_law_1192 ?_
      refine V.goto C 33 (by decide) d_La_law_1195 ?_
      exact V.weak (xsub_spec (by simp [xsub])) kk
    · rw [if_pos c2] at h
      obtain ⟨v5, e5, h⟩ := Option.bind_eq_some_iff.mp h
      refine V.aload_n C 3 rfl rfl d_La_law_1017 ?_
      refine V.iconst C 0 (by decide) d_La_law_1018 ?_
      refine V.xlald C e5 d_La_law_1019 ?_
      refine V.iload C rfl d_La_law_1020 ?_
      refine V.i2l C d_La_law_1022 ?_
      refine V.lcmp C d_La_law_1023 ?_
      refine V.if_eq C 1029 (by decide) d_La_law_1024 (fun c3 => ?_) (fun c3 => ?_)
      · rw [if_pos c3] at h
        simp only [Option.some.injEq, Prod.mk.injEq, true_and] at h
        obtain ⟨rfl, rfl⟩ := h
        refine V.goto C 1192 (by decide) d_La_law_1029 ?_
        refine V.inc4 C 8 (by decide) (by decide) rfl d_La_law_1192 ?_
        refine V.goto C 33 (by decide) d_La_law_1195 ?_
        exact V.weak (xsub_spec (by simp [xsub])) kk
      · rw [if_neg c3] at h
        simp at h
  · rw [if_neg c1] at h
    simp at h
def q_when (S : List xO) (N x mm o : Nat) (p1 : Int32) (p2 : Int32) (F : xF) (G : xL) : Option (Int32 × xF × xL) :=
  (f_La_when S N x p1 p2 o F G).bind fun w =>
  (xcl S 9 mm (f_Mo_when S N mm p1 p2 w.2.1)).bind fun b =>
  (f_Mo_thrown S mm b.2).bind fun t =>
  if t = w.1 then
    if w.1 = 0 then (lG S o 0 w.2.2).bind fun v => if lg_cmp v b.1.toInt64 = 0 then some (1, b.2, w.2.2) else some (0, b.2, w.2.2)
    else some (1, b.2, w.2.2)
  else some (0, b.2, w.2.2)
set_option maxHeartbeats 4000000 in
set_option maxRecDepth 100000 in
theorem o_when {p : Program} {l : Launch} (hfl : l.flags = flags0) {e : Env} {s : State} {m : MethodId} {args : Array Value} {below : List Frame} {meth : Method} {c : Code} {Q : State → Prop} {g : xG} {S : List xO} (C : Cx p s m args meth c code 7 "PaletteFramesLaw" g) {L : Nat} {xs : Nat → Int32} (hX : va_X g.2.1 L xs s s.heap) (hbl : g.2.1 < s.heap.size) (hbg : g.2.1 < g.1) {N x mm o : Nat} {i : Int32} (hin : ∀ k : Int32, 0 ≤ k.toInt ∧ k.toInt ≤ 7 → vp_in (i + k) L) {F F2 : xF} {G G2 : xL} {ce sl : Nat} (hce : ce + 1 ≤ room_1.cells ∧ sl + 6 ≤ room_1.slots) (h : q_when S N x mm o (xs (i + 1).toNatClampNeg) (xs (i + 2).toNatClampNeg) F G = some (1, F2, G2)) (kk : V p l e room_1 s m args below meth c Q 7 g S F2 G2 (ce + 1) (sl + 6) 33 [some (.float 0), some (.ref x), some (.ref mm), some (.ref o), some (.int (i + 8)), none, none] []) : V p l e room_1 s m args below meth c Q 7 g S F G ce sl 1032 [some (.float 0), some (.ref x), some (.ref mm), some (.ref o), some (.int i), none, none] [] := by
  unfold q_when at h
  obtain ⟨⟨k, F3, G3⟩, e1, h⟩ := Option.bind_eq_some_iff.mp h
  dsimp only at h
  obtain ⟨⟨b, F4⟩, e2, h⟩ := Option.bind_eq_some_iff.mp h
  dsimp only at h
  obtain ⟨⟨fs, hS⟩, e2⟩ := xcl_spec e2
  obtain ⟨t, e3, h⟩ := Option.bind_eq_some_iff.mp h
  refine V.aload_n C 1 rfl rfl d_La_law_1032 ?_
  refine V.sload_n C 0 rfl rfl d_La_law_1033 ?_
  refine V.iload C rfl d_La_law_1034 ?_
  refine V.iconst C 1 (by decide) d_La_law_1036 ?_
  refine V.iadd C d_La_law_1037 ?_
  refine V.sld C hX hbl hbg (hin 1 (by decide)) d_La_law_1038 ?_
  refine V.sload_n C 0 rfl rfl d_La_law_1039 ?_
  refine V.iload C rfl d_La_law_1040 ?_
  refine V.iconst C 2 (by decide) d_La_law_1042 ?_
  refine V.iadd C d_La_law_1043 ?_
  refine V.sld C hX hbl hbg (hin 2 (by decide)) d_La_law_1044 ?_
  refine V.aload_n C 3 rfl rfl d_La_law_1045 ?_
  refine V.cSW C (c_La_when hfl e1) cw_La_129 rfl rfl ⟨by decide, by decide, hce.1, hce.2⟩ (Nat.le_of_ble_eq_true rfl) d_La_law_1046 ?_
  refine V.is5 C (by decide) rfl d_La_law_1049 ?_
  refine V.aload_n C 2 rfl rfl d_La_law_1051 ?_
  refine V.sload_n C 0 rfl rfl d_La_law_1052 ?_
  refine V.iload C rfl d_La_law_1053 ?_
  refine V.iconst C 1 (by decide) d_La_law_1055 ?_
  refine V.iadd C d_La_law_1056 ?_
  refine V.sld C hX hbl hbg (hin 1 (by decide)) d_La_law_1057 ?_
  refine V.sload_n C 0 rfl rfl d_La_law_1058 ?_
  refine V.iload C rfl d_La_law_1059 ?_
  refine V.iconst C 2 (by decide) d_La_law_1061 ?_
  refine V.iadd C d_La_law_1062 ?_
  refine V.sld C hX hbl hbg (hin 2 (by decide)) d_La_law_1063 ?_
  refine V.cVr C (c_Mo_when e2) mv_La_131 hS rfl rfl ⟨by decide, by decide, hce.1, hce.2⟩ (Nat.le_of_ble_eq_true rfl) d_La_law_1064 ?_
  refine V.is6 C (by decide) rfl d_La_law_1067 ?_
  refine V.aload_n C 2 rfl rfl d_La_law_1069 ?_
  refine V.cVr C (c_Mo_thrown e3) mv_La_76 hS rfl rfl ⟨by decide, by decide, hce.1, hce.2⟩ (Nat.le_of_ble_eq_true rfl) d_La_law_1070 ?_
  refine V.iload C rfl d_La_law_1073 ?_
  refine V.icmp_eq C 1080 (by decide) d_La_law_1075 (fun c1 => ?_) (fun c1 => ?_)
  · rw [if_pos c1] at h
    refine V.iload C rfl d_La_law_1080 ?_
    refine V.if_ne C 1097 (by decide) d_La_law_1082 (fun c2 => ?_) (fun c2 => ?_)
    · rw [if_neg c2] at h
      simp only [Option.some.injEq, Prod.mk.injEq, true_and] at h
      obtain ⟨rfl, rfl⟩ := h
      refine V.goto C 1192 (by decide) d_La_law_1097 ?_
      refine V.inc4 C 8 (by decide) (by decide) rfl d_La_law_1192 ?_
      refine V.goto C 33 (by decide) d_La_law_1195 ?_
      exact V.weak (xsub_spec (by simp [xsub])) kk
    · rw [if_pos c2] at h
      obtain ⟨v5, e5, h⟩ := Option.bind_eq_some_iff.mp h
      refine V.aload_n C 3 rfl rfl d_La_law_1085 ?_
      refine V.iconst C 0 (by decide) d_La_law_1086 ?_
      refine V.xlald C e5 d_La_law_1087 ?_
      refine V.iload C rfl d_La_law_1088 ?_
      refine V.i2l C d_La_law_1090 ?_
      refine V.lcmp C d_La_law_1091 ?_
      refine V.if_eq C 1097 (by decide) d_La_law_1092 (fun c3 => ?_) (fun c3 => ?_)
      · rw [if_pos c3] at h
        simp only [Option.some.injEq, Prod.mk.injEq, true_and] at h
        obtain ⟨rfl, rfl⟩ := h
        refine V.goto C 1192 (by decide) d_La_law_1097 ?_
        refine V.inc4 C 8 (by decide) (by decide) rfl d_La_law_1192 ?_
        refine V.goto C 33 (by decide) d_La_law_1195 ?_
        exact V.weak (xsub_spec (by simp [xsub])) kk
      · rw [if_neg c3] at h
        simp at h
  · rw [if_neg c1] at h
    simp at h
def q_passOf (S : List xO) (N x mm o : Nat) (p1 : Int32) (F : xF) (G : xL) : Option (Int32 × xF × xL) :=
  (f_La_passOf S x p1 o F G).bind fun w =>
  (xcl S 9 mm (f_Mo_passOf S mm p1 w.2.1)).bind fun b =>
  (f_Mo_thrown S mm b.2).bind fun t =>
  if t = w.1 then
    if w.1 = 0 then (lG S o 0 w.2.2).bind fun v => if lg_cmp v b.1.toInt64 = 0 then some (1, b.2, w.2.2) else some (0, b.2, w.2.2)
    else some (1, b.2, w.2.2)
  else some (0, b.2, w.2.2)
set_option maxHeartbeats 4000000 in
set_option maxRecDepth 100000 in
theorem o_passOf {p : Program} {l : Launch} (hfl : l.flags = flags0) {e : Env} {s : State} {m : MethodId} {args : Array Value} {below : List Frame} {meth : Method} {c : Code} {Q : State → Prop} {g : xG} {S : List xO} (C : Cx p s m args meth c code 7 "PaletteFramesLaw" g) {L : Nat} {xs : Nat → Int32} (hX : va_X g.2.1 L xs s s.heap) (hbl : g.2.1 < s.heap.size) (hbg : g.2.1 < g.1) {N x mm o : Nat} {i : Int32} (hin : ∀ k : Int32, 0 ≤ k.toInt ∧ k.toInt ≤ 7 → vp_in (i + k) L) {F F2 : xF} {G G2 : xL} {ce sl : Nat} (hce : ce + 1 ≤ room_1.cells ∧ sl + 6 ≤ room_1.slots) (h : q_passOf S N x mm o (xs (i + 1).toNatClampNeg) F G = some (1, F2, G2)) (kk : V p l e room_1 s m args below meth c Q 7 g S F2 G2 (ce + 1) (sl + 6) 33 [some (.float 0), some (.ref x), some (.ref mm), some (.ref o), some (.int (i + 8)), none, none] []) : V p l e room_1 s m args below meth c Q 7 g S F G ce sl 1100 [some (.float 0), some (.ref x), some (.ref mm), some (.ref o), some (.int i), none, none] [] := by
  unfold q_passOf at h
  obtain ⟨⟨k, F3, G3⟩, e1, h⟩ := Option.bind_eq_some_iff.mp h
  dsimp only at h
  obtain ⟨⟨b, F4⟩, e2, h⟩ := Option.bind_eq_some_iff.mp h
  dsimp only at h
  obtain ⟨⟨fs, hS⟩, e2⟩ := xcl_spec e2
  obtain ⟨t, e3, h⟩ := Option.bind_eq_some_iff.mp h
  refine V.aload_n C 1 rfl rfl d_La_law_1100 ?_
  refine V.sload_n C 0 rfl rfl d_La_law_1101 ?_
  refine V.iload C rfl d_La_law_1102 ?_
  refine V.iconst C 1 (by decide) d_La_law_1104 ?_
  refine V.iadd C d_La_law_1105 ?_
  refine V.sld C hX hbl hbg (hin 1 (by decide)) d_La_law_1106 ?_
  refine V.aload_n C 3 rfl rfl d_La_law_1107 ?_
  refine V.cSW C (c_La_passOf hfl e1) cw_La_132 rfl rfl ⟨by decide, by decide, hce.1, hce.2⟩ (Nat.le_of_ble_eq_true rfl) d_La_law_1108 ?_
  refine V.is5 C (by decide) rfl d_La_law_1111 ?_
  refine V.aload_n C 2 rfl rfl d_La_law_1113 ?_
  refine V.sload_n C 0 rfl rfl d_La_law_1114 ?_
  refine V.iload C rfl d_La_law_1115 ?_
  refine V.iconst C 1 (by decide) d_La_law_1117 ?_
  refine V.iadd C d_La_law_1118 ?_
  refine V.sld C hX hbl hbg (hin 1 (by decide)) d_La_law_1119 ?_
  refine V.cVr C (c_Mo_passOf e2) mv_La_134 hS rfl rfl ⟨by decide, by decide, hce.1, hce.2⟩ (Nat.le_of_ble_eq_true rfl) d_La_law_1120 ?_
  refine V.is6 C (by decide) rfl d_La_law_1123 ?_
  refine V.aload_n C 2 rfl rfl d_La_law_1125 ?_
  refine V.cVr C (c_Mo_thrown e3) mv_La_76 hS rfl rfl ⟨by decide, by decide, hce.1, hce.2⟩ (Nat.le_of_ble_eq_true rfl) d_La_law_1126 ?_
  refine V.iload C rfl d_La_law_1129 ?_
  refine V.icmp_eq C 1136 (by decide) d_La_law_1131 (fun c1 => ?_) (fun c1 => ?_)
  · rw [if_pos c1] at h
    refine V.iload C rfl d_La_law_1136 ?_
    refine V.if_ne C 1153 (by decide) d_La_law_1138 (fun c2 => ?_) (fun c2 => ?_)
    · rw [if_neg c2] at h
      simp only [Option.some.injEq, Prod.mk.injEq, true_and] at h
      obtain ⟨rfl, rfl⟩ := h
      refine V.goto C 1192 (by decide) d_La_law_1153 ?_
      refine V.inc4 C 8 (by decide) (by decide) rfl d_La_law_1192 ?_
      refine V.goto C 33 (by decide) d_La_law_1195 ?_
      exact V.weak (xsub_spec (by simp [xsub])) kk
    · rw [if_pos c2] at h
      obtain ⟨v5, e5, h⟩ := Option.bind_eq_some_iff.mp h
      refine V.aload_n C 3 rfl rfl d_La_law_1141 ?_
      refine V.iconst C 0 (by decide) d_La_law_1142 ?_
      refine V.xlald C e5 d_La_law_1143 ?_
      refine V.iload C rfl d_La_law_1144 ?_
      refine V.i2l C d_La_law_1146 ?_
      refine V.lcmp C d_La_law_1147 ?_
      refine V.if_eq C 1153 (by decide) d_La_law_1148 (fun c3 => ?_) (fun c3 => ?_)
      · rw [if_pos c3] at h
        simp only [Option.some.injEq, Prod.mk.injEq, true_and] at h
        obtain ⟨rfl, rfl⟩ := h
        refine V.goto C 1192 (by decide) d_La_law_1153 ?_
        refine V.inc4 C 8 (by decide) (by decide) rfl d_La_law_1192 ?_
        refine V.goto C 33 (by decide) d_La_law_1195 ?_
        exact V.weak (xsub_spec (by simp [xsub])) kk
      · rw [if_neg c3] at h
        simp at h
  · rw [if_neg c1] at h
    simp at h
def q_told (S : List xO) (N x mm o : Nat) (p1 : Int32) (F : xF) (G : xL) : Option (Int32 × xF × xL) :=
  (xcl S 8 x (f_PF_told S x p1 F)).bind fun w =>
  (xcl S 9 mm (f_Mo_told S mm p1 F)).bind fun b =>
  if w = b.1 then some (1, b.2, G) else some (0, b.2, G)
set_option maxHeartbeats 4000000 in
set_option maxRecDepth 100000 in
theorem o_told {p : Program} {l : Launch} (hfl : l.flags = flags0) {e : Env} {s : State} {m : MethodId} {args : Array Value} {below : List Frame} {meth : Method} {c : Code} {Q : State → Prop} {g : xG} {S : List xO} (C : Cx p s m args meth c code 7 "PaletteFramesLaw" g) {L : Nat} {xs : Nat → Int32} (hX : va_X g.2.1 L xs s s.heap) (hbl : g.2.1 < s.heap.size) (hbg : g.2.1 < g.1) {N x mm o : Nat} {i : Int32} (hin : ∀ k : Int32, 0 ≤ k.toInt ∧ k.toInt ≤ 7 → vp_in (i + k) L) {F F2 : xF} {G G2 : xL} {ce sl : Nat} (hce : ce + 1 ≤ room_1.cells ∧ sl + 6 ≤ room_1.slots) (h : q_told S N x mm o (xs (i + 1).toNatClampNeg) F G = some (1, F2, G2)) (kk : V p l e room_1 s m args below meth c Q 7 g S F2 G2 (ce + 1) (sl + 6) 33 [some (.float 0), some (.ref x), some (.ref mm), some (.ref o), some (.int (i + 8)), none, none] []) : V p l e room_1 s m args below meth c Q 7 g S F G ce sl 1156 [some (.float 0), some (.ref x), some (.ref mm), some (.ref o), some (.int i), none, none] [] := by
  unfold q_told at h
  obtain ⟨w, e1, h⟩ := Option.bind_eq_some_iff.mp h
  obtain ⟨⟨fse1, hSe1⟩, e1⟩ := xcl_spec e1
  obtain ⟨⟨b1, b2⟩, e2, h⟩ := Option.bind_eq_some_iff.mp h
  dsimp only at h
  obtain ⟨⟨fse2, hSe2⟩, e2⟩ := xcl_spec e2
  refine V.aload_n C 1 rfl rfl d_La_law_1156 ?_
  refine V.sload_n C 0 rfl rfl d_La_law_1157 ?_
  refine V.iload C rfl d_La_law_1158 ?_
  refine V.iconst C 1 (by decide) d_La_law_1160 ?_
  refine V.iadd C d_La_law_1161 ?_
  refine V.sld C hX hbl hbg (hin 1 (by decide)) d_La_law_1162 ?_
  refine V.cVr C (c_PF_told e1) mv_La_135 hSe1 rfl rfl ⟨by decide, by decide, Nat.le_of_succ_le hce.1, Nat.le_trans (Nat.le_add_right sl 6) hce.2⟩ (Nat.le_of_ble_eq_true rfl) d_La_law_1163 ?_
  refine V.aload_n C 2 rfl rfl d_La_law_1166 ?_
  refine V.sload_n C 0 rfl rfl d_La_law_1167 ?_
  refine V.iload C rfl d_La_law_1168 ?_
  refine V.iconst C 1 (by decide) d_La_law_1170 ?_
  refine V.iadd C d_La_law_1171 ?_
  refine V.sld C hX hbl hbg (hin 1 (by decide)) d_La_law_1172 ?_
  refine V.cVr C (c_Mo_told e2) mv_La_138 hSe2 rfl rfl ⟨by decide, by decide, Nat.le_of_succ_le hce.1, Nat.le_trans (Nat.le_add_right sl 6) hce.2⟩ (Nat.le_of_ble_eq_true rfl) d_La_law_1173 ?_
  refine V.icmp_eq C 1192 (by decide) d_La_law_1176 (fun c1 => ?_) (fun c1 => ?_)
  · rw [if_pos c1] at h
    simp only [Option.some.injEq, Prod.mk.injEq, true_and] at h
    obtain ⟨rfl, rfl⟩ := h
    refine V.inc4 C 8 (by decide) (by decide) rfl d_La_law_1192 ?_
    refine V.goto C 33 (by decide) d_La_law_1195 ?_
    exact V.wide _ _ (Nat.le_add_right _ _) (Nat.le_add_right _ _) (V.weak (xsub_spec (by simp [xsub])) kk)
  · rw [if_neg c1] at h
    simp at h
def q_clear (S : List xO) (N x mm o : Nat)  (F : xF) (G : xL) : Option (Int32 × xF × xL) :=
  (xcl S 8 x (f_PF_clear S N x F)).bind fun w =>
  (xcl S 9 mm (f_Mo_clear S N mm w)).bind fun b =>
  some (1, b, G)
set_option maxHeartbeats 4000000 in
set_option maxRecDepth 100000 in
theorem o_clear {p : Program} {l : Launch} (hfl : l.flags = flags0) {e : Env} {s : State} {m : MethodId} {args : Array Value} {below : List Frame} {meth : Method} {c : Code} {Q : State → Prop} {g : xG} {S : List xO} (C : Cx p s m args meth c code 7 "PaletteFramesLaw" g) {L : Nat} {xs : Nat → Int32} (hX : va_X g.2.1 L xs s s.heap) (hbl : g.2.1 < s.heap.size) (hbg : g.2.1 < g.1) {N x mm o : Nat} {i : Int32} (hin : ∀ k : Int32, 0 ≤ k.toInt ∧ k.toInt ≤ 7 → vp_in (i + k) L) {F F2 : xF} {G G2 : xL} {ce sl : Nat} (hce : ce + 1 ≤ room_1.cells ∧ sl + 6 ≤ room_1.slots) (h : q_clear S N x mm o F G = some (1, F2, G2)) (kk : V p l e room_1 s m args below meth c Q 7 g S F2 G2 (ce + 1) (sl + 6) 33 [some (.float 0), some (.ref x), some (.ref mm), some (.ref o), some (.int (i + 8)), none, none] []) : V p l e room_1 s m args below meth c Q 7 g S F G ce sl 1181 [some (.float 0), some (.ref x), some (.ref mm), some (.ref o), some (.int i), none, none] [] := by
  unfold q_clear at h
  obtain ⟨w, e1, h⟩ := Option.bind_eq_some_iff.mp h
  obtain ⟨⟨fse1, hSe1⟩, e1⟩ := xcl_spec e1
  obtain ⟨b, e2, h⟩ := Option.bind_eq_some_iff.mp h
  obtain ⟨⟨fse2, hSe2⟩, e2⟩ := xcl_spec e2
  refine V.aload_n C 1 rfl rfl d_La_law_1181 ?_
  refine V.cVv C (c_PF_clear e1) mv_La_139 hSe1 rfl rfl ⟨by decide, by decide, Nat.le_of_succ_le hce.1, Nat.le_trans (Nat.le_add_right sl 6) hce.2⟩ (Nat.le_of_ble_eq_true rfl) d_La_law_1182 ?_
  refine V.aload_n C 2 rfl rfl d_La_law_1185 ?_
  refine V.cVv C (c_Mo_clear e2) mv_La_142 hSe2 rfl rfl ⟨by decide, by decide, Nat.le_of_succ_le hce.1, Nat.le_trans (Nat.le_add_right sl 6) hce.2⟩ (Nat.le_of_ble_eq_true rfl) d_La_law_1186 ?_
  simp only [Option.some.injEq, Prod.mk.injEq, true_and] at h
  obtain ⟨rfl, rfl⟩ := h
  refine V.goto C 1192 (by decide) d_La_law_1189 ?_
  refine V.inc4 C 8 (by decide) (by decide) rfl d_La_law_1192 ?_
  refine V.goto C 33 (by decide) d_La_law_1195 ?_
  exact V.wide _ _ (Nat.le_add_right _ _) (Nat.le_add_right _ _) (V.weak (xsub_spec (by simp [xsub])) kk)
theorem q_all : ∀ k : Int32, (0 ≤ k.toInt ∧ k.toInt ≤ 18) → k = 0 ∨ k = 1 ∨ k = 2 ∨ k = 3 ∨ k = 4 ∨ k = 5 ∨ k = 6 ∨ k = 7 ∨ k = 8 ∨ k = 9 ∨ k = 10 ∨ k = 11 ∨ k = 12 ∨ k = 13 ∨ k = 14 ∨ k = 15 ∨ k = 16 ∨ k = 17 ∨ k = 18 := by
  intro k hk
  have hk2 : k = Int32.ofInt k.toInt := (Int32.ofInt_toInt k).symm
  generalize k.toInt = z at hk hk2
  obtain ⟨n, rfl⟩ := Int.eq_ofNat_of_zero_le hk.1
  have hn : n < 19 := by omega
  subst hk2
  clear hk
  revert n
  decide
/-- one call of the script: c says which, v its numbers -/
def q_step (S : List xO) (N x mm o : Nat) (c : Int32) (v : Int32 → Int32) (F : xF) (G : xL) : Option (Int32 × xF × xL) :=
  if c = 0 then q_put S N x mm o (v 1) (v 2) (v 3) F G else
  if c = 1 then q_rule S N x mm o (v 1) F G else
  if c = 2 then q_encode S N x mm o F G else
  if c = 3 then q_byteAt S N x mm o (v 1) F G else
  if c = 4 then q_coded S N x mm o (v 1) F G else
  if c = 5 then q_feed S N x mm o (v 1) F G else
  if c = 6 then q_pass S N x mm o (v 1) (v 2) F G else
  if c = 7 then q_decode S N x mm o F G else
  if c = 8 then q_at S N x mm o (v 1) F G else
  if c = 9 then q_take S N x mm o F G else
  if c = 10 then q_frame S N x mm o (v 1) (v 2) (v 3) (v 4) (v 5) (v 6) (v 7) F G else
  if c = 11 then q_colour S N x mm o (v 1) (v 2) (v 3) F G else
  if c = 12 then q_through S N x mm o (v 1) (v 2) F G else
  if c = 13 then q_shown S N x mm o (v 1) (v 2) (v 3) F G else
  if c = 14 then q_symbol S N x mm o (v 1) (v 2) (v 3) F G else
  if c = 15 then q_when S N x mm o (v 1) (v 2) F G else
  if c = 16 then q_passOf S N x mm o (v 1) F G else
  if c = 17 then q_told S N x mm o (v 1) F G else
  if c = 18 then q_clear S N x mm o F G else
  some (1, F, G)
set_option maxHeartbeats 4000000 in
set_option maxRecDepth 100000 in
theorem o_step {p : Program} {l : Launch} (hfl : l.flags = flags0) {e : Env} {s : State} {m : MethodId} {args : Array Value} {below : List Frame} {meth : Method} {c : Code} {Q : State → Prop} {g : xG} {S : List xO} (C : Cx p s m args meth c code 7 "PaletteFramesLaw" g) {L : Nat} {xs : Nat → Int32} (hX : va_X g.2.1 L xs s s.heap) (hbl : g.2.1 < s.heap.size) (hbg : g.2.1 < g.1) {N x mm o : Nat} {i : Int32} (hin : ∀ k : Int32, 0 ≤ k.toInt ∧ k.toInt ≤ 7 → vp_in (i + k) L) {F F2 : xF} {G G2 : xL} {ce sl : Nat} (hce : ce + 1 ≤ room_1.cells ∧ sl + 6 ≤ room_1.slots) (h : q_step S N x mm o (xs i.toNatClampNeg &&& 31) (fun k => xs (i + k).toNatClampNeg) F G = some (1, F2, G2)) (kk : V p l e room_1 s m args below meth c Q 7 g S F2 G2 (ce + 1) (sl + 6) 33 [some (.float 0), some (.ref x), some (.ref mm), some (.ref o), some (.int (i + 8)), none, none] []) : V p l e room_1 s m args below meth c Q 7 g S F G ce sl 50 [some (.float 0), some (.ref x), some (.ref mm), some (.ref o), some (.int i), none, none] [.int (xs i.toNatClampNeg &&& 31)] := by
  generalize xs i.toNatClampNeg &&& 31 = cs at h ⊢
  unfold q_step at h
  by_cases c0 : cs = 0
  · rw [if_pos c0] at h
    subst c0
    exact V.tableIn C 140 (by decide) (by decide) rfl (by decide) d_La_law_50 (o_put hfl C hX hbl hbg hin hce h kk)
  rw [if_neg c0] at h
  by_cases c1 : cs = 1
  · rw [if_pos c1] at h
    subst c1
    exact V.tableIn C 220 (by decide) (by decide) rfl (by decide) d_La_law_50 (o_rule hfl C hX hbl hbg hin hce h kk)
  rw [if_neg c1] at h
  by_cases c2 : cs = 2
  · rw [if_pos c2] at h
    subst c2
    exact V.tableIn C 276 (by decide) (by decide) rfl (by decide) d_La_law_50 (o_encode hfl C hX hbl hbg hin hce h kk)
  rw [if_neg c2] at h
  by_cases c3 : cs = 3
  · rw [if_pos c3] at h
    subst c3
    exact V.tableIn C 289 (by decide) (by decide) rfl (by decide) d_La_law_50 (o_byteAt hfl C hX hbl hbg hin hce h kk)
  rw [if_neg c3] at h
  by_cases c4 : cs = 4
  · rw [if_pos c4] at h
    subst c4
    exact V.tableIn C 345 (by decide) (by decide) rfl (by decide) d_La_law_50 (o_coded hfl C hX hbl hbg hin hce h kk)
  rw [if_neg c4] at h
  by_cases c5 : cs = 5
  · rw [if_pos c5] at h
    subst c5
    exact V.tableIn C 370 (by decide) (by decide) rfl (by decide) d_La_law_50 (o_feed hfl C hX hbl hbg hin hce h kk)
  rw [if_neg c5] at h
  by_cases c6 : cs = 6
  · rw [if_pos c6] at h
    subst c6
    exact V.tableIn C 426 (by decide) (by decide) rfl (by decide) d_La_law_50 (o_pass hfl C hX hbl hbg hin hce h kk)
  rw [if_neg c6] at h
  by_cases c7 : cs = 7
  · rw [if_pos c7] at h
    subst c7
    exact V.tableIn C 494 (by decide) (by decide) rfl (by decide) d_La_law_50 (o_decode hfl C hX hbl hbg hin hce h kk)
  rw [if_neg c7] at h
  by_cases c8 : cs = 8
  · rw [if_pos c8] at h
    subst c8
    exact V.tableIn C 507 (by decide) (by decide) rfl (by decide) d_La_law_50 (o_at hfl C hX hbl hbg hin hce h kk)
  rw [if_neg c8] at h
  by_cases c9 : cs = 9
  · rw [if_pos c9] at h
    subst c9
    exact V.tableIn C 563 (by decide) (by decide) rfl (by decide) d_La_law_50 (o_take hfl C hX hbl hbg hin hce h kk)
  rw [if_neg c9] at h
  by_cases c10 : cs = 10
  · rw [if_pos c10] at h
    subst c10
    exact V.tableIn C 576 (by decide) (by decide) rfl (by decide) d_La_law_50 (o_frame hfl C hX hbl hbg hin hce h kk)
  rw [if_neg c10] at h
  by_cases c11 : cs = 11
  · rw [if_pos c11] at h
    subst c11
    exact V.tableIn C 724 (by decide) (by decide) rfl (by decide) d_La_law_50 (o_colour hfl C hX hbl hbg hin hce h kk)
  rw [if_neg c11] at h
  by_cases c12 : cs = 12
  · rw [if_pos c12] at h
    subst c12
    exact V.tableIn C 804 (by decide) (by decide) rfl (by decide) d_La_law_50 (o_through hfl C hX hbl hbg hin hce h kk)
  rw [if_neg c12] at h
  by_cases c13 : cs = 13
  · rw [if_pos c13] at h
    subst c13
    exact V.tableIn C 872 (by decide) (by decide) rfl (by decide) d_La_law_50 (o_shown hfl C hX hbl hbg hin hce h kk)
  rw [if_neg c13] at h
  by_cases c14 : cs = 14
  · rw [if_pos c14] at h
    subst c14
    exact V.tableIn C 952 (by decide) (by decide) rfl (by decide) d_La_law_50 (o_symbol hfl C hX hbl hbg hin hce h kk)
  rw [if_neg c14] at h
  by_cases c15 : cs = 15
  · rw [if_pos c15] at h
    subst c15
    exact V.tableIn C 1032 (by decide) (by decide) rfl (by decide) d_La_law_50 (o_when hfl C hX hbl hbg hin hce h kk)
  rw [if_neg c15] at h
  by_cases c16 : cs = 16
  · rw [if_pos c16] at h
    subst c16
    exact V.tableIn C 1100 (by decide) (by decide) rfl (by decide) d_La_law_50 (o_passOf hfl C hX hbl hbg hin hce h kk)
  rw [if_neg c16] at h
  by_cases c17 : cs = 17
  · rw [if_pos c17] at h
    subst c17
    exact V.tableIn C 1156 (by decide) (by decide) rfl (by decide) d_La_law_50 (o_told hfl C hX hbl hbg hin hce h kk)
  rw [if_neg c17] at h
  by_cases c18 : cs = 18
  · rw [if_pos c18] at h
    subst c18
    exact V.tableIn C 1181 (by decide) (by decide) rfl (by decide) d_La_law_50 (o_clear hfl C hX hbl hbg hin hce h kk)
  rw [if_neg c18] at h
  simp only [Option.some.injEq, Prod.mk.injEq, true_and] at h
  obtain ⟨rfl, rfl⟩ := h
  have ho : cs.toInt < 0 ∨ 18 < cs.toInt := by
    apply Classical.byContradiction
    intro hn
    rcases q_all cs (by omega) with q | q | q | q | q | q | q | q | q | q | q | q | q | q | q | q | q | q | q
    · exact c0 q
    · exact c1 q
    · exact c2 q
    · exact c3 q
    · exact c4 q
    · exact c5 q
    · exact c6 q
    · exact c7 q
    · exact c8 q
    · exact c9 q
    · exact c10 q
    · exact c11 q
    · exact c12 q
    · exact c13 q
    · exact c14 q
    · exact c15 q
    · exact c16 q
    · exact c17 q
    · exact c18 q
  refine V.tableOut C 1192 ho (by decide) d_La_law_50 ?_
  refine V.inc4 C 8 (by decide) (by decide) rfl d_La_law_1192 ?_
  refine V.goto C 33 (by decide) d_La_law_1195 ?_
  exact V.wide _ _ (Nat.le_add_right _ _) (Nat.le_add_right _ _) kk
