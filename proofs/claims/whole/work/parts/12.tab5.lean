/-! ops of each method, and that each is sound -/
theorem d95_0 : decode (pB 95) 0 = .ok (.aload_n 0, 1) := by decide +kernel
theorem d95_1 : decode (pB 95) 1 = .ok (.invokespecial 1, 3) := by decide +kernel
theorem d95_4 : decode (pB 95) 4 = .ok (.aload_n 0, 1) := by decide +kernel
theorem d95_5 : decode (pB 95) 5 = .ok (.sipush 166, 3) := by decide +kernel
theorem d95_8 : decode (pB 95) 8 = .ok (.newarray .int, 2) := by decide +kernel
theorem d95_10 : decode (pB 95) 10 = .ok (.putfield 7, 3) := by decide +kernel
theorem d95_13 : decode (pB 95) 13 = .ok (.aload_n 0, 1) := by decide +kernel
theorem d95_14 : decode (pB 95) 14 = .ok (.sipush 996, 3) := by decide +kernel
theorem d95_17 : decode (pB 95) 17 = .ok (.newarray .int, 2) := by decide +kernel
theorem d95_19 : decode (pB 95) 19 = .ok (.putfield 13, 3) := by decide +kernel
theorem d95_22 : decode (pB 95) 22 = .ok (.aload_n 0, 1) := by decide +kernel
theorem d95_23 : decode (pB 95) 23 = .ok (.sipush 332, 3) := by decide +kernel
theorem d95_26 : decode (pB 95) 26 = .ok (.newarray .int, 2) := by decide +kernel
theorem d95_28 : decode (pB 95) 28 = .ok (.putfield 16, 3) := by decide +kernel
theorem d95_31 : decode (pB 95) 31 = .ok (.aload_n 0, 1) := by decide +kernel
theorem d95_32 : decode (pB 95) 32 = .ok (.iconst 2, 1) := by decide +kernel
theorem d95_33 : decode (pB 95) 33 = .ok (.newarray .boolean, 2) := by decide +kernel
theorem d95_35 : decode (pB 95) 35 = .ok (.putfield 19, 3) := by decide +kernel
theorem d95_38 : decode (pB 95) 38 = .ok (.aload_n 0, 1) := by decide +kernel
theorem d95_39 : decode (pB 95) 39 = .ok (.bipush 80, 2) := by decide +kernel
theorem d95_41 : decode (pB 95) 41 = .ok (.newarray .int, 2) := by decide +kernel
theorem d95_43 : decode (pB 95) 43 = .ok (.putfield 23, 3) := by decide +kernel
theorem d95_46 : decode (pB 95) 46 = .ok (.aload_n 0, 1) := by decide +kernel
theorem d95_47 : decode (pB 95) 47 = .ok (.sipush 168, 3) := by decide +kernel
theorem d95_50 : decode (pB 95) 50 = .ok (.newarray .int, 2) := by decide +kernel
theorem d95_52 : decode (pB 95) 52 = .ok (.putfield 26, 3) := by decide +kernel
theorem d95_55 : decode (pB 95) 55 = .ok (.aload_n 0, 1) := by decide +kernel
theorem d95_56 : decode (pB 95) 56 = .ok (.sipush 256, 3) := by decide +kernel
theorem d95_59 : decode (pB 95) 59 = .ok (.newarray .int, 2) := by decide +kernel
theorem d95_61 : decode (pB 95) 61 = .ok (.putfield 29, 3) := by decide +kernel
theorem d95_64 : decode (pB 95) 64 = .ok (.aload_n 0, 1) := by decide +kernel
theorem d95_65 : decode (pB 95) 65 = .ok (.bipush 16, 2) := by decide +kernel
theorem d95_67 : decode (pB 95) 67 = .ok (.newarray .int, 2) := by decide +kernel
theorem d95_69 : decode (pB 95) 69 = .ok (.putfield 32, 3) := by decide +kernel
theorem d95_72 : decode (pB 95) 72 = .ok (.aload_n 0, 1) := by decide +kernel
theorem d95_73 : decode (pB 95) 73 = .ok (.sipush 256, 3) := by decide +kernel
theorem d95_76 : decode (pB 95) 76 = .ok (.newarray .int, 2) := by decide +kernel
theorem d95_78 : decode (pB 95) 78 = .ok (.putfield 35, 3) := by decide +kernel
theorem d95_81 : decode (pB 95) 81 = .ok (.aload_n 0, 1) := by decide +kernel
theorem d95_82 : decode (pB 95) 82 = .ok (.bipush 16, 2) := by decide +kernel
theorem d95_84 : decode (pB 95) 84 = .ok (.newarray .int, 2) := by decide +kernel
theorem d95_86 : decode (pB 95) 86 = .ok (.putfield 38, 3) := by decide +kernel
theorem d95_89 : decode (pB 95) 89 = .ok (.aload_n 0, 1) := by decide +kernel
theorem d95_90 : decode (pB 95) 90 = .ok (.iconst 5, 1) := by decide +kernel
theorem d95_91 : decode (pB 95) 91 = .ok (.newarray .int, 2) := by decide +kernel
theorem d95_93 : decode (pB 95) 93 = .ok (.putfield 41, 3) := by decide +kernel
theorem d95_96 : decode (pB 95) 96 = .ok (.aload_n 0, 1) := by decide +kernel
theorem d95_97 : decode (pB 95) 97 = .ok (.iconst 0, 1) := by decide +kernel
theorem d95_98 : decode (pB 95) 98 = .ok (.putfield 44, 3) := by decide +kernel
theorem d95_101 : decode (pB 95) 101 = .ok (.aload_n 0, 1) := by decide +kernel
theorem d95_102 : decode (pB 95) 102 = .ok (.getfield 7, 3) := by decide +kernel
theorem d95_105 : decode (pB 95) 105 = .ok (.iconst 0, 1) := by decide +kernel
theorem d95_106 : decode (pB 95) 106 = .ok (.bipush 8, 2) := by decide +kernel
theorem d95_108 : decode (pB 95) 108 = .ok (.iastore, 1) := by decide +kernel
theorem d95_109 : decode (pB 95) 109 = .ok (.aload_n 0, 1) := by decide +kernel
theorem d95_110 : decode (pB 95) 110 = .ok (.getfield 7, 3) := by decide +kernel
theorem d95_113 : decode (pB 95) 113 = .ok (.iconst 1, 1) := by decide +kernel
theorem d95_114 : decode (pB 95) 114 = .ok (.iconst 1, 1) := by decide +kernel
theorem d95_115 : decode (pB 95) 115 = .ok (.iastore, 1) := by decide +kernel
theorem d95_116 : decode (pB 95) 116 = .ok (.aload_n 0, 1) := by decide +kernel
theorem d95_117 : decode (pB 95) 117 = .ok (.getfield 7, 3) := by decide +kernel
theorem d95_120 : decode (pB 95) 120 = .ok (.iconst 2, 1) := by decide +kernel
theorem d95_121 : decode (pB 95) 121 = .ok (.iconst 3, 1) := by decide +kernel
theorem d95_122 : decode (pB 95) 122 = .ok (.iastore, 1) := by decide +kernel
theorem d95_123 : decode (pB 95) 123 = .ok (.iconst 0, 1) := by decide +kernel
theorem d95_124 : decode (pB 95) 124 = .ok (.istore_n 1, 1) := by decide +kernel
theorem d95_125 : decode (pB 95) 125 = .ok (.iload_n 1, 1) := by decide +kernel
theorem d95_126 : decode (pB 95) 126 = .ok (.bipush 12, 2) := by decide +kernel
theorem d95_128 : decode (pB 95) 128 = .ok (.if_icmp .ge 20, 3) := by decide +kernel
theorem d95_131 : decode (pB 95) 131 = .ok (.aload_n 0, 1) := by decide +kernel
theorem d95_132 : decode (pB 95) 132 = .ok (.getfield 7, 3) := by decide +kernel
theorem d95_135 : decode (pB 95) 135 = .ok (.bipush 10, 2) := by decide +kernel
theorem d95_137 : decode (pB 95) 137 = .ok (.iload_n 1, 1) := by decide +kernel
theorem d95_138 : decode (pB 95) 138 = .ok (.iadd, 1) := by decide +kernel
theorem d95_139 : decode (pB 95) 139 = .ok (.bipush (-6), 2) := by decide +kernel
theorem d95_141 : decode (pB 95) 141 = .ok (.iastore, 1) := by decide +kernel
theorem d95_142 : decode (pB 95) 142 = .ok (.iinc 1 1, 3) := by decide +kernel
theorem d95_145 : decode (pB 95) 145 = .ok (.goto (-20), 3) := by decide +kernel
theorem d95_148 : decode (pB 95) 148 = .ok (.return_, 1) := by decide +kernel
theorem st1_95_1 : p_st1 95 1 = true := by decide +kernel
/-- RX5.<init> -/
def t95_0 : List (Nat × pO) := [(0, o_aload 0 1), (1, o_oinit 4), (4, o_aload 0 5), (5, o_push (.int (nI 166)) 8), (8, o_newa 0 10), (10, o_putR 5 1 13), (13, o_aload 0 14), (14, o_push (.int (nI 996)) 17), (17, o_newa 0 19), (19, o_putR 5 2 22), (22, o_aload 0 23), (23, o_push (.int (nI 332)) 26), (26, o_newa 0 28), (28, o_putR 5 4 31), (31, o_aload 0 32), (32, o_push (.int (nI 2)) 33), (33, o_newa 1 35), (35, o_putR 5 5 38), (38, o_aload 0 39), (39, o_push (.int (nI 80)) 41), (41, o_newa 0 43), (43, o_putR 5 6 46), (46, o_aload 0 47), (47, o_push (.int (nI 168)) 50), (50, o_newa 0 52), (52, o_putR 5 10 55), (55, o_aload 0 56), (56, o_push (.int (nI 256)) 59), (59, o_newa 0 61), (61, o_putR 5 12 64), (64, o_aload 0 65), (65, o_push (.int (nI 16)) 67), (67, o_newa 0 69), (69, o_putR 5 13 72), (72, o_aload 0 73), (73, o_push (.int (nI 256)) 76), (76, o_newa 0 78), (78, o_putR 5 15 81), (81, o_aload 0 82), (82, o_push (.int (nI 16)) 84)]
theorem ok95_0 : ∀ q ∈ t95_0, p_Z 95 q := List.forall_mem_cons.mpr ⟨⟨s_aload_n d95_0 rfl, tl_aload _ _⟩, List.forall_mem_cons.mpr ⟨⟨s_oinit d95_1 wd_615 wd_75 wd_76, tl_oinit _⟩, List.forall_mem_cons.mpr ⟨⟨s_aload_n d95_4 rfl, tl_aload _ _⟩, List.forall_mem_cons.mpr ⟨⟨s_sipush d95_5 rfl, tl_push _ _⟩, List.forall_mem_cons.mpr ⟨⟨s_newai d95_8 wd_114, tl_newa _ _⟩, List.forall_mem_cons.mpr ⟨⟨f_putR_5_1 d95_10 wd_617, tl_putR _ _ _⟩, List.forall_mem_cons.mpr ⟨⟨s_aload_n d95_13 rfl, tl_aload _ _⟩, List.forall_mem_cons.mpr ⟨⟨s_sipush d95_14 rfl, tl_push _ _⟩, List.forall_mem_cons.mpr ⟨⟨s_newai d95_17 wd_114, tl_newa _ _⟩, List.forall_mem_cons.mpr ⟨⟨f_putR_5_2 d95_19 wd_618, tl_putR _ _ _⟩, List.forall_mem_cons.mpr ⟨⟨s_aload_n d95_22 rfl, tl_aload _ _⟩, List.forall_mem_cons.mpr ⟨⟨s_sipush d95_23 rfl, tl_push _ _⟩, List.forall_mem_cons.mpr ⟨⟨s_newai d95_26 wd_114, tl_newa _ _⟩, List.forall_mem_cons.mpr ⟨⟨f_putR_5_4 d95_28 wd_620, tl_putR _ _ _⟩, List.forall_mem_cons.mpr ⟨⟨s_aload_n d95_31 rfl, tl_aload _ _⟩, List.forall_mem_cons.mpr ⟨⟨s_iconst d95_32 rfl, tl_push _ _⟩, List.forall_mem_cons.mpr ⟨⟨s_newaz d95_33 wd_141, tl_newa _ _⟩, List.forall_mem_cons.mpr ⟨⟨f_putR_5_5 d95_35 wd_621, tl_putR _ _ _⟩, List.forall_mem_cons.mpr ⟨⟨s_aload_n d95_38 rfl, tl_aload _ _⟩, List.forall_mem_cons.mpr ⟨⟨s_bipush d95_39 rfl, tl_push _ _⟩, List.forall_mem_cons.mpr ⟨⟨s_newai d95_41 wd_114, tl_newa _ _⟩, List.forall_mem_cons.mpr ⟨⟨f_putR_5_6 d95_43 wd_622, tl_putR _ _ _⟩, List.forall_mem_cons.mpr ⟨⟨s_aload_n d95_46 rfl, tl_aload _ _⟩, List.forall_mem_cons.mpr ⟨⟨s_sipush d95_47 rfl, tl_push _ _⟩, List.forall_mem_cons.mpr ⟨⟨s_newai d95_50 wd_114, tl_newa _ _⟩, List.forall_mem_cons.mpr ⟨⟨f_putR_5_10 d95_52 wd_626, tl_putR _ _ _⟩, List.forall_mem_cons.mpr ⟨⟨s_aload_n d95_55 rfl, tl_aload _ _⟩, List.forall_mem_cons.mpr ⟨⟨s_sipush d95_56 rfl, tl_push _ _⟩, List.forall_mem_cons.mpr ⟨⟨s_newai d95_59 wd_114, tl_newa _ _⟩, List.forall_mem_cons.mpr ⟨⟨f_putR_5_12 d95_61 wd_628, tl_putR _ _ _⟩, List.forall_mem_cons.mpr ⟨⟨s_aload_n d95_64 rfl, tl_aload _ _⟩, List.forall_mem_cons.mpr ⟨⟨s_bipush d95_65 rfl, tl_push _ _⟩, List.forall_mem_cons.mpr ⟨⟨s_newai d95_67 wd_114, tl_newa _ _⟩, List.forall_mem_cons.mpr ⟨⟨f_putR_5_13 d95_69 wd_629, tl_putR _ _ _⟩, List.forall_mem_cons.mpr ⟨⟨s_aload_n d95_72 rfl, tl_aload _ _⟩, List.forall_mem_cons.mpr ⟨⟨s_sipush d95_73 rfl, tl_push _ _⟩, List.forall_mem_cons.mpr ⟨⟨s_newai d95_76 wd_114, tl_newa _ _⟩, List.forall_mem_cons.mpr ⟨⟨f_putR_5_15 d95_78 wd_631, tl_putR _ _ _⟩, List.forall_mem_cons.mpr ⟨⟨s_aload_n d95_81 rfl, tl_aload _ _⟩, List.forall_mem_cons.mpr ⟨⟨s_bipush d95_82 rfl, tl_push _ _⟩, fun _ h => absurd h List.not_mem_nil⟩⟩⟩⟩⟩⟩⟩⟩⟩⟩⟩⟩⟩⟩⟩⟩⟩⟩⟩⟩⟩⟩⟩⟩⟩⟩⟩⟩⟩⟩⟩⟩⟩⟩⟩⟩⟩⟩⟩⟩
/-- RX5.<init> -/
def t95_1 : List (Nat × pO) := [(84, o_newa 0 86), (86, o_putR 5 16 89), (89, o_aload 0 90), (90, o_push (.int (nI 5)) 91), (91, o_newa 0 93), (93, o_putR 5 17 96), (96, o_aload 0 97), (97, o_push (.int (nI 0)) 98), (98, o_putI 5 0 101), (101, o_aload 0 102), (102, o_getR 5 1 105), (105, o_push (.int (nI 0)) 106), (106, o_push (.int (nI 8)) 108), (108, o_iast 109), (109, o_aload 0 110), (110, o_getR 5 1 113), (113, o_push (.int (nI 1)) 114), (114, o_push (.int (nI 1)) 115), (115, o_iast 116), (116, o_aload 0 117), (117, o_getR 5 1 120), (120, o_push (.int (nI 2)) 121), (121, o_push (.int (nI 3)) 122), (122, o_iast 123), (123, o_push (.int (nI 0)) 124), (124, o_istore 1 125), (125, o_iload 1 126), (126, o_push (.int (nI 12)) 128), (128, o_icge 148 131), (131, o_aload 0 132), (132, o_getR 5 1 135), (135, o_push (.int (nI 10)) 137), (137, o_iload 1 138), (138, o_iadd 139), (139, o_push (.int (nM 6)) 141), (141, o_iast 142), (142, o_iinc 1 (nI 1) 145), (145, o_goto 125), (148, o_vret)]
theorem ok95_1 : ∀ q ∈ t95_1, p_Z 95 q := List.forall_mem_cons.mpr ⟨⟨s_newai d95_84 wd_114, tl_newa _ _⟩, List.forall_mem_cons.mpr ⟨⟨f_putR_5_16 d95_86 wd_632, tl_putR _ _ _⟩, List.forall_mem_cons.mpr ⟨⟨s_aload_n d95_89 rfl, tl_aload _ _⟩, List.forall_mem_cons.mpr ⟨⟨s_iconst d95_90 rfl, tl_push _ _⟩, List.forall_mem_cons.mpr ⟨⟨s_newai d95_91 wd_114, tl_newa _ _⟩, List.forall_mem_cons.mpr ⟨⟨f_putR_5_17 d95_93 wd_633, tl_putR _ _ _⟩, List.forall_mem_cons.mpr ⟨⟨s_aload_n d95_96 rfl, tl_aload _ _⟩, List.forall_mem_cons.mpr ⟨⟨s_iconst d95_97 rfl, tl_push _ _⟩, List.forall_mem_cons.mpr ⟨⟨f_putI_5_0 d95_98 wd_616, tl_putI _ _ _⟩, List.forall_mem_cons.mpr ⟨⟨s_aload_n d95_101 rfl, tl_aload _ _⟩, List.forall_mem_cons.mpr ⟨⟨f_getR_5_1 d95_102 wd_617, tl_getR _ _ _⟩, List.forall_mem_cons.mpr ⟨⟨s_iconst d95_105 rfl, tl_push _ _⟩, List.forall_mem_cons.mpr ⟨⟨s_bipush d95_106 rfl, tl_push _ _⟩, List.forall_mem_cons.mpr ⟨⟨s_iast d95_108, tl_iast _⟩, List.forall_mem_cons.mpr ⟨⟨s_aload_n d95_109 rfl, tl_aload _ _⟩, List.forall_mem_cons.mpr ⟨⟨f_getR_5_1 d95_110 wd_617, tl_getR _ _ _⟩, List.forall_mem_cons.mpr ⟨⟨s_iconst d95_113 rfl, tl_push _ _⟩, List.forall_mem_cons.mpr ⟨⟨s_iconst d95_114 rfl, tl_push _ _⟩, List.forall_mem_cons.mpr ⟨⟨s_iast d95_115, tl_iast _⟩, List.forall_mem_cons.mpr ⟨⟨s_aload_n d95_116 rfl, tl_aload _ _⟩, List.forall_mem_cons.mpr ⟨⟨f_getR_5_1 d95_117 wd_617, tl_getR _ _ _⟩, List.forall_mem_cons.mpr ⟨⟨s_iconst d95_120 rfl, tl_push _ _⟩, List.forall_mem_cons.mpr ⟨⟨s_iconst d95_121 rfl, tl_push _ _⟩, List.forall_mem_cons.mpr ⟨⟨s_iast d95_122, tl_iast _⟩, List.forall_mem_cons.mpr ⟨⟨s_iconst d95_123 rfl, tl_push _ _⟩, List.forall_mem_cons.mpr ⟨⟨s_istore_n d95_124 rfl st1_95_1, tl_istore _ _⟩, List.forall_mem_cons.mpr ⟨⟨s_iload_n d95_125 rfl, tl_iload _ _⟩, List.forall_mem_cons.mpr ⟨⟨s_bipush d95_126 rfl, tl_push _ _⟩, List.forall_mem_cons.mpr ⟨⟨s_icge d95_128 rfl, tl_icge _ _⟩, List.forall_mem_cons.mpr ⟨⟨s_aload_n d95_131 rfl, tl_aload _ _⟩, List.forall_mem_cons.mpr ⟨⟨f_getR_5_1 d95_132 wd_617, tl_getR _ _ _⟩, List.forall_mem_cons.mpr ⟨⟨s_bipush d95_135 rfl, tl_push _ _⟩, List.forall_mem_cons.mpr ⟨⟨s_iload_n d95_137 rfl, tl_iload _ _⟩, List.forall_mem_cons.mpr ⟨⟨s_iadd d95_138, tl_iadd _⟩, List.forall_mem_cons.mpr ⟨⟨s_bipush d95_139 rfl, tl_push _ _⟩, List.forall_mem_cons.mpr ⟨⟨s_iast d95_141, tl_iast _⟩, List.forall_mem_cons.mpr ⟨⟨s_iinc d95_142 rfl st1_95_1, tl_iinc _ _ _⟩, List.forall_mem_cons.mpr ⟨⟨s_goto d95_145 rfl, tl_goto _⟩, List.forall_mem_cons.mpr ⟨⟨s_vret d95_148 rfl, tl_vret⟩, fun _ h => absurd h List.not_mem_nil⟩⟩⟩⟩⟩⟩⟩⟩⟩⟩⟩⟩⟩⟩⟩⟩⟩⟩⟩⟩⟩⟩⟩⟩⟩⟩⟩⟩⟩⟩⟩⟩⟩⟩⟩⟩⟩⟩⟩
def t95 : List (Nat × pO) := t95_0 ++ (t95_1)
theorem ok95 : ∀ q ∈ t95, p_Z 95 q := List.forall_mem_append.mpr ⟨ok95_0, ok95_1⟩
theorem d96_0 : decode (pB 96) 0 = .ok (.iload_n 0, 1) := by decide +kernel
theorem d96_1 : decode (pB 96) 1 = .ok (.iload_n 1, 1) := by decide +kernel
theorem d96_2 : decode (pB 96) 2 = .ok (.if_icmp .lt 12, 3) := by decide +kernel
theorem d96_5 : decode (pB 96) 5 = .ok (.iload_n 0, 1) := by decide +kernel
theorem d96_6 : decode (pB 96) 6 = .ok (.iload_n 2, 1) := by decide +kernel
theorem d96_7 : decode (pB 96) 7 = .ok (.if_icmp .gt 7, 3) := by decide +kernel
theorem d96_10 : decode (pB 96) 10 = .ok (.iconst 1, 1) := by decide +kernel
theorem d96_11 : decode (pB 96) 11 = .ok (.goto 4, 3) := by decide +kernel
theorem d96_14 : decode (pB 96) 14 = .ok (.iconst 0, 1) := by decide +kernel
theorem d96_15 : decode (pB 96) 15 = .ok (.ireturn, 1) := by decide +kernel
/-- RX5.in -/
def t96_0 : List (Nat × pO) := [(0, o_iload 0 1), (1, o_iload 1 2), (2, o_iclt 14 5), (5, o_iload 0 6), (6, o_iload 2 7), (7, o_icgt 14 10), (10, o_push (.int (nI 1)) 11), (11, o_goto 15), (14, o_push (.int (nI 0)) 15), (15, o_zret)]
theorem ok96_0 : ∀ q ∈ t96_0, p_Z 96 q := List.forall_mem_cons.mpr ⟨⟨s_iload_n d96_0 rfl, tl_iload _ _⟩, List.forall_mem_cons.mpr ⟨⟨s_iload_n d96_1 rfl, tl_iload _ _⟩, List.forall_mem_cons.mpr ⟨⟨s_iclt d96_2 rfl, tl_iclt _ _⟩, List.forall_mem_cons.mpr ⟨⟨s_iload_n d96_5 rfl, tl_iload _ _⟩, List.forall_mem_cons.mpr ⟨⟨s_iload_n d96_6 rfl, tl_iload _ _⟩, List.forall_mem_cons.mpr ⟨⟨s_icgt d96_7 rfl, tl_icgt _ _⟩, List.forall_mem_cons.mpr ⟨⟨s_iconst d96_10 rfl, tl_push _ _⟩, List.forall_mem_cons.mpr ⟨⟨s_goto d96_11 rfl, tl_goto _⟩, List.forall_mem_cons.mpr ⟨⟨s_iconst d96_14 rfl, tl_push _ _⟩, List.forall_mem_cons.mpr ⟨⟨s_zret d96_15 rfl, tl_zret⟩, fun _ h => absurd h List.not_mem_nil⟩⟩⟩⟩⟩⟩⟩⟩⟩⟩
def t96 : List (Nat × pO) := t96_0
theorem ok96 : ∀ q ∈ t96, p_Z 96 q := ok96_0
theorem d97_0 : decode (pB 97) 0 = .ok (.iload_n 1, 1) := by decide +kernel
theorem d97_1 : decode (pB 97) 1 = .ok (.iconst 0, 1) := by decide +kernel
theorem d97_2 : decode (pB 97) 2 = .ok (.aload_n 0, 1) := by decide +kernel
theorem d97_3 : decode (pB 97) 3 = .ok (.getfield 7, 3) := by decide +kernel
theorem d97_6 : decode (pB 97) 6 = .ok (.iconst 3, 1) := by decide +kernel
theorem d97_7 : decode (pB 97) 7 = .ok (.iaload, 1) := by decide +kernel
theorem d97_8 : decode (pB 97) 8 = .ok (.iconst 1, 1) := by decide +kernel
theorem d97_9 : decode (pB 97) 9 = .ok (.isub, 1) := by decide +kernel
theorem d97_10 : decode (pB 97) 10 = .ok (.invokestatic 48, 3) := by decide +kernel
theorem d97_13 : decode (pB 97) 13 = .ok (.ireturn, 1) := by decide +kernel
/-- RX5.isCousin -/
def t97_0 : List (Nat × pO) := [(0, o_iload 1 1), (1, o_push (.int (nI 0)) 2), (2, o_aload 0 3), (3, o_getR 5 1 6), (6, o_push (.int (nI 3)) 7), (7, o_iald 8), (8, o_push (.int (nI 1)) 9), (9, o_isub 10), (10, o_invS 96 3 13), (13, o_zret)]
theorem ok97_0 : ∀ q ∈ t97_0, p_Z 97 q := List.forall_mem_cons.mpr ⟨⟨s_iload_n d97_0 rfl, tl_iload _ _⟩, List.forall_mem_cons.mpr ⟨⟨s_iconst d97_1 rfl, tl_push _ _⟩, List.forall_mem_cons.mpr ⟨⟨s_aload_n d97_2 rfl, tl_aload _ _⟩, List.forall_mem_cons.mpr ⟨⟨f_getR_5_1 d97_3 wd_617, tl_getR _ _ _⟩, List.forall_mem_cons.mpr ⟨⟨s_iconst d97_6 rfl, tl_push _ _⟩, List.forall_mem_cons.mpr ⟨⟨s_iald d97_7, tl_iald _⟩, List.forall_mem_cons.mpr ⟨⟨s_iconst d97_8 rfl, tl_push _ _⟩, List.forall_mem_cons.mpr ⟨⟨s_isub d97_9, tl_isub _⟩, List.forall_mem_cons.mpr ⟨⟨q_invS_96 d97_10 wd_675, tl_invS _ _ _⟩, List.forall_mem_cons.mpr ⟨⟨s_zret d97_13 rfl, tl_zret⟩, fun _ h => absurd h List.not_mem_nil⟩⟩⟩⟩⟩⟩⟩⟩⟩⟩
def t97 : List (Nat × pO) := t97_0
theorem ok97 : ∀ q ∈ t97, p_Z 97 q := ok97_0
theorem d98_0 : decode (pB 98) 0 = .ok (.iload_n 1, 1) := by decide +kernel
theorem d98_1 : decode (pB 98) 1 = .ok (.iconst 0, 1) := by decide +kernel
theorem d98_2 : decode (pB 98) 2 = .ok (.aload_n 0, 1) := by decide +kernel
theorem d98_3 : decode (pB 98) 3 = .ok (.getfield 7, 3) := by decide +kernel
theorem d98_6 : decode (pB 98) 6 = .ok (.iconst 0, 1) := by decide +kernel
theorem d98_7 : decode (pB 98) 7 = .ok (.iaload, 1) := by decide +kernel
theorem d98_8 : decode (pB 98) 8 = .ok (.iconst 1, 1) := by decide +kernel
theorem d98_9 : decode (pB 98) 9 = .ok (.isub, 1) := by decide +kernel
theorem d98_10 : decode (pB 98) 10 = .ok (.invokestatic 48, 3) := by decide +kernel
theorem d98_13 : decode (pB 98) 13 = .ok (.ireturn, 1) := by decide +kernel
/-- RX5.isSeat -/
def t98_0 : List (Nat × pO) := [(0, o_iload 1 1), (1, o_push (.int (nI 0)) 2), (2, o_aload 0 3), (3, o_getR 5 1 6), (6, o_push (.int (nI 0)) 7), (7, o_iald 8), (8, o_push (.int (nI 1)) 9), (9, o_isub 10), (10, o_invS 96 3 13), (13, o_zret)]
theorem ok98_0 : ∀ q ∈ t98_0, p_Z 98 q := List.forall_mem_cons.mpr ⟨⟨s_iload_n d98_0 rfl, tl_iload _ _⟩, List.forall_mem_cons.mpr ⟨⟨s_iconst d98_1 rfl, tl_push _ _⟩, List.forall_mem_cons.mpr ⟨⟨s_aload_n d98_2 rfl, tl_aload _ _⟩, List.forall_mem_cons.mpr ⟨⟨f_getR_5_1 d98_3 wd_617, tl_getR _ _ _⟩, List.forall_mem_cons.mpr ⟨⟨s_iconst d98_6 rfl, tl_push _ _⟩, List.forall_mem_cons.mpr ⟨⟨s_iald d98_7, tl_iald _⟩, List.forall_mem_cons.mpr ⟨⟨s_iconst d98_8 rfl, tl_push _ _⟩, List.forall_mem_cons.mpr ⟨⟨s_isub d98_9, tl_isub _⟩, List.forall_mem_cons.mpr ⟨⟨q_invS_96 d98_10 wd_675, tl_invS _ _ _⟩, List.forall_mem_cons.mpr ⟨⟨s_zret d98_13 rfl, tl_zret⟩, fun _ h => absurd h List.not_mem_nil⟩⟩⟩⟩⟩⟩⟩⟩⟩⟩
def t98 : List (Nat × pO) := t98_0
theorem ok98 : ∀ q ∈ t98, p_Z 98 q := ok98_0
theorem d99_0 : decode (pB 99) 0 = .ok (.aload_n 0, 1) := by decide +kernel
theorem d99_1 : decode (pB 99) 1 = .ok (.getfield 7, 3) := by decide +kernel
theorem d99_4 : decode (pB 99) 4 = .ok (.bipush 22, 2) := by decide +kernel
theorem d99_6 : decode (pB 99) 6 = .ok (.bipush 12, 2) := by decide +kernel
theorem d99_8 : decode (pB 99) 8 = .ok (.iload_n 1, 1) := by decide +kernel
theorem d99_9 : decode (pB 99) 9 = .ok (.imul, 1) := by decide +kernel
theorem d99_10 : decode (pB 99) 10 = .ok (.iadd, 1) := by decide +kernel
theorem d99_11 : decode (pB 99) 11 = .ok (.iload_n 2, 1) := by decide +kernel
theorem d99_12 : decode (pB 99) 12 = .ok (.iadd, 1) := by decide +kernel
theorem d99_13 : decode (pB 99) 13 = .ok (.iaload, 1) := by decide +kernel
theorem d99_14 : decode (pB 99) 14 = .ok (.ireturn, 1) := by decide +kernel
/-- RX5.relation -/
def t99_0 : List (Nat × pO) := [(0, o_aload 0 1), (1, o_getR 5 1 4), (4, o_push (.int (nI 22)) 6), (6, o_push (.int (nI 12)) 8), (8, o_iload 1 9), (9, o_imul 10), (10, o_iadd 11), (11, o_iload 2 12), (12, o_iadd 13), (13, o_iald 14), (14, o_iret)]
theorem ok99_0 : ∀ q ∈ t99_0, p_Z 99 q := List.forall_mem_cons.mpr ⟨⟨s_aload_n d99_0 rfl, tl_aload _ _⟩, List.forall_mem_cons.mpr ⟨⟨f_getR_5_1 d99_1 wd_617, tl_getR _ _ _⟩, List.forall_mem_cons.mpr ⟨⟨s_bipush d99_4 rfl, tl_push _ _⟩, List.forall_mem_cons.mpr ⟨⟨s_bipush d99_6 rfl, tl_push _ _⟩, List.forall_mem_cons.mpr ⟨⟨s_iload_n d99_8 rfl, tl_iload _ _⟩, List.forall_mem_cons.mpr ⟨⟨s_imul d99_9, tl_imul _⟩, List.forall_mem_cons.mpr ⟨⟨s_iadd d99_10, tl_iadd _⟩, List.forall_mem_cons.mpr ⟨⟨s_iload_n d99_11 rfl, tl_iload _ _⟩, List.forall_mem_cons.mpr ⟨⟨s_iadd d99_12, tl_iadd _⟩, List.forall_mem_cons.mpr ⟨⟨s_iald d99_13, tl_iald _⟩, List.forall_mem_cons.mpr ⟨⟨s_iret d99_14 rfl, tl_iret⟩, fun _ h => absurd h List.not_mem_nil⟩⟩⟩⟩⟩⟩⟩⟩⟩⟩⟩
def t99 : List (Nat × pO) := t99_0
theorem ok99 : ∀ q ∈ t99, p_Z 99 q := ok99_0
theorem d100_0 : decode (pB 100) 0 = .ok (.aload_n 0, 1) := by decide +kernel
theorem d100_1 : decode (pB 100) 1 = .ok (.getfield 52, 3) := by decide +kernel
theorem d100_4 : decode (pB 100) 4 = .ok (.bipush 6, 2) := by decide +kernel
theorem d100_6 : decode (pB 100) 6 = .ok (.if_icmp .ne 44, 3) := by decide +kernel
theorem d100_9 : decode (pB 100) 9 = .ok (.iconst 0, 1) := by decide +kernel
theorem d100_10 : decode (pB 100) 10 = .ok (.istore_n 1, 1) := by decide +kernel
theorem d100_11 : decode (pB 100) 11 = .ok (.iload_n 1, 1) := by decide +kernel
theorem d100_12 : decode (pB 100) 12 = .ok (.sipush 830, 3) := by decide +kernel
theorem d100_15 : decode (pB 100) 15 = .ok (.if_icmp .ge 25, 3) := by decide +kernel
theorem d100_18 : decode (pB 100) 18 = .ok (.aload_n 0, 1) := by decide +kernel
theorem d100_19 : decode (pB 100) 19 = .ok (.getfield 13, 3) := by decide +kernel
theorem d100_22 : decode (pB 100) 22 = .ok (.iload_n 1, 1) := by decide +kernel
theorem d100_23 : decode (pB 100) 23 = .ok (.aload_n 0, 1) := by decide +kernel
theorem d100_24 : decode (pB 100) 24 = .ok (.getfield 13, 3) := by decide +kernel
theorem d100_27 : decode (pB 100) 27 = .ok (.iload_n 1, 1) := by decide +kernel
theorem d100_28 : decode (pB 100) 28 = .ok (.sipush 166, 3) := by decide +kernel
theorem d100_31 : decode (pB 100) 31 = .ok (.iadd, 1) := by decide +kernel
theorem d100_32 : decode (pB 100) 32 = .ok (.iaload, 1) := by decide +kernel
theorem d100_33 : decode (pB 100) 33 = .ok (.iastore, 1) := by decide +kernel
theorem d100_34 : decode (pB 100) 34 = .ok (.iinc 1 1, 3) := by decide +kernel
theorem d100_37 : decode (pB 100) 37 = .ok (.goto (-26), 3) := by decide +kernel
theorem d100_40 : decode (pB 100) 40 = .ok (.aload_n 0, 1) := by decide +kernel
theorem d100_41 : decode (pB 100) 41 = .ok (.dup, 1) := by decide +kernel
theorem d100_42 : decode (pB 100) 42 = .ok (.getfield 52, 3) := by decide +kernel
theorem d100_45 : decode (pB 100) 45 = .ok (.iconst 1, 1) := by decide +kernel
theorem d100_46 : decode (pB 100) 46 = .ok (.isub, 1) := by decide +kernel
theorem d100_47 : decode (pB 100) 47 = .ok (.putfield 52, 3) := by decide +kernel
theorem d100_50 : decode (pB 100) 50 = .ok (.iconst 0, 1) := by decide +kernel
theorem d100_51 : decode (pB 100) 51 = .ok (.istore_n 1, 1) := by decide +kernel
theorem d100_52 : decode (pB 100) 52 = .ok (.iload_n 1, 1) := by decide +kernel
theorem d100_53 : decode (pB 100) 53 = .ok (.sipush 166, 3) := by decide +kernel
theorem d100_56 : decode (pB 100) 56 = .ok (.if_icmp .ge 30, 3) := by decide +kernel
theorem d100_59 : decode (pB 100) 59 = .ok (.aload_n 0, 1) := by decide +kernel
theorem d100_60 : decode (pB 100) 60 = .ok (.getfield 13, 3) := by decide +kernel
theorem d100_63 : decode (pB 100) 63 = .ok (.sipush 166, 3) := by decide +kernel
theorem d100_66 : decode (pB 100) 66 = .ok (.aload_n 0, 1) := by decide +kernel
theorem d100_67 : decode (pB 100) 67 = .ok (.getfield 52, 3) := by decide +kernel
theorem d100_70 : decode (pB 100) 70 = .ok (.imul, 1) := by decide +kernel
theorem d100_71 : decode (pB 100) 71 = .ok (.iload_n 1, 1) := by decide +kernel
theorem d100_72 : decode (pB 100) 72 = .ok (.iadd, 1) := by decide +kernel
theorem d100_73 : decode (pB 100) 73 = .ok (.aload_n 0, 1) := by decide +kernel
theorem d100_74 : decode (pB 100) 74 = .ok (.getfield 7, 3) := by decide +kernel
theorem d100_77 : decode (pB 100) 77 = .ok (.iload_n 1, 1) := by decide +kernel
theorem d100_78 : decode (pB 100) 78 = .ok (.iaload, 1) := by decide +kernel
theorem d100_79 : decode (pB 100) 79 = .ok (.iastore, 1) := by decide +kernel
theorem d100_80 : decode (pB 100) 80 = .ok (.iinc 1 1, 3) := by decide +kernel
theorem d100_83 : decode (pB 100) 83 = .ok (.goto (-31), 3) := by decide +kernel
theorem d100_86 : decode (pB 100) 86 = .ok (.aload_n 0, 1) := by decide +kernel
theorem d100_87 : decode (pB 100) 87 = .ok (.dup, 1) := by decide +kernel
theorem d100_88 : decode (pB 100) 88 = .ok (.getfield 52, 3) := by decide +kernel
theorem d100_91 : decode (pB 100) 91 = .ok (.iconst 1, 1) := by decide +kernel
theorem d100_92 : decode (pB 100) 92 = .ok (.iadd, 1) := by decide +kernel
theorem d100_93 : decode (pB 100) 93 = .ok (.putfield 52, 3) := by decide +kernel
theorem d100_96 : decode (pB 100) 96 = .ok (.return_, 1) := by decide +kernel
theorem st1_100_1 : p_st1 100 1 = true := by decide +kernel
/-- RX5.records -/
def t100_0 : List (Nat × pO) := [(0, o_aload 0 1), (1, o_getI 5 3 4), (4, o_push (.int (nI 6)) 6), (6, o_icne 50 9), (9, o_push (.int (nI 0)) 10), (10, o_istore 1 11), (11, o_iload 1 12), (12, o_push (.int (nI 830)) 15), (15, o_icge 40 18), (18, o_aload 0 19), (19, o_getR 5 2 22), (22, o_iload 1 23), (23, o_aload 0 24), (24, o_getR 5 2 27), (27, o_iload 1 28), (28, o_push (.int (nI 166)) 31), (31, o_iadd 32), (32, o_iald 33), (33, o_iast 34), (34, o_iinc 1 (nI 1) 37), (37, o_goto 11), (40, o_aload 0 41), (41, o_dupr 42), (42, o_getI 5 3 45), (45, o_push (.int (nI 1)) 46), (46, o_isub 47), (47, o_putI 5 3 50), (50, o_push (.int (nI 0)) 51), (51, o_istore 1 52), (52, o_iload 1 53), (53, o_push (.int (nI 166)) 56), (56, o_icge 86 59), (59, o_aload 0 60), (60, o_getR 5 2 63), (63, o_push (.int (nI 166)) 66), (66, o_aload 0 67), (67, o_getI 5 3 70), (70, o_imul 71), (71, o_iload 1 72), (72, o_iadd 73)]
theorem ok100_0 : ∀ q ∈ t100_0, p_Z 100 q := List.forall_mem_cons.mpr ⟨⟨s_aload_n d100_0 rfl, tl_aload _ _⟩, List.forall_mem_cons.mpr ⟨⟨f_getI_5_3 d100_1 wd_619, tl_getI _ _ _⟩, List.forall_mem_cons.mpr ⟨⟨s_bipush d100_4 rfl, tl_push _ _⟩, List.forall_mem_cons.mpr ⟨⟨s_icne d100_6 rfl, tl_icne _ _⟩, List.forall_mem_cons.mpr ⟨⟨s_iconst d100_9 rfl, tl_push _ _⟩, List.forall_mem_cons.mpr ⟨⟨s_istore_n d100_10 rfl st1_100_1, tl_istore _ _⟩, List.forall_mem_cons.mpr ⟨⟨s_iload_n d100_11 rfl, tl_iload _ _⟩, List.forall_mem_cons.mpr ⟨⟨s_sipush d100_12 rfl, tl_push _ _⟩, List.forall_mem_cons.mpr ⟨⟨s_icge d100_15 rfl, tl_icge _ _⟩, List.forall_mem_cons.mpr ⟨⟨s_aload_n d100_18 rfl, tl_aload _ _⟩, List.forall_mem_cons.mpr ⟨⟨f_getR_5_2 d100_19 wd_618, tl_getR _ _ _⟩, List.forall_mem_cons.mpr ⟨⟨s_iload_n d100_22 rfl, tl_iload _ _⟩, List.forall_mem_cons.mpr ⟨⟨s_aload_n d100_23 rfl, tl_aload _ _⟩, List.forall_mem_cons.mpr ⟨⟨f_getR_5_2 d100_24 wd_618, tl_getR _ _ _⟩, List.forall_mem_cons.mpr ⟨⟨s_iload_n d100_27 rfl, tl_iload _ _⟩, List.forall_mem_cons.mpr ⟨⟨s_sipush d100_28 rfl, tl_push _ _⟩, List.forall_mem_cons.mpr ⟨⟨s_iadd d100_31, tl_iadd _⟩, List.forall_mem_cons.mpr ⟨⟨s_iald d100_32, tl_iald _⟩, List.forall_mem_cons.mpr ⟨⟨s_iast d100_33, tl_iast _⟩, List.forall_mem_cons.mpr ⟨⟨s_iinc d100_34 rfl st1_100_1, tl_iinc _ _ _⟩, List.forall_mem_cons.mpr ⟨⟨s_goto d100_37 rfl, tl_goto _⟩, List.forall_mem_cons.mpr ⟨⟨s_aload_n d100_40 rfl, tl_aload _ _⟩, List.forall_mem_cons.mpr ⟨⟨s_dupr d100_41, tl_dupr _⟩, List.forall_mem_cons.mpr ⟨⟨f_getI_5_3 d100_42 wd_619, tl_getI _ _ _⟩, List.forall_mem_cons.mpr ⟨⟨s_iconst d100_45 rfl, tl_push _ _⟩, List.forall_mem_cons.mpr ⟨⟨s_isub d100_46, tl_isub _⟩, List.forall_mem_cons.mpr ⟨⟨f_putI_5_3 d100_47 wd_619, tl_putI _ _ _⟩, List.forall_mem_cons.mpr ⟨⟨s_iconst d100_50 rfl, tl_push _ _⟩, List.forall_mem_cons.mpr ⟨⟨s_istore_n d100_51 rfl st1_100_1, tl_istore _ _⟩, List.forall_mem_cons.mpr ⟨⟨s_iload_n d100_52 rfl, tl_iload _ _⟩, List.forall_mem_cons.mpr ⟨⟨s_sipush d100_53 rfl, tl_push _ _⟩, List.forall_mem_cons.mpr ⟨⟨s_icge d100_56 rfl, tl_icge _ _⟩, List.forall_mem_cons.mpr ⟨⟨s_aload_n d100_59 rfl, tl_aload _ _⟩, List.forall_mem_cons.mpr ⟨⟨f_getR_5_2 d100_60 wd_618, tl_getR _ _ _⟩, List.forall_mem_cons.mpr ⟨⟨s_sipush d100_63 rfl, tl_push _ _⟩, List.forall_mem_cons.mpr ⟨⟨s_aload_n d100_66 rfl, tl_aload _ _⟩, List.forall_mem_cons.mpr ⟨⟨f_getI_5_3 d100_67 wd_619, tl_getI _ _ _⟩, List.forall_mem_cons.mpr ⟨⟨s_imul d100_70, tl_imul _⟩, List.forall_mem_cons.mpr ⟨⟨s_iload_n d100_71 rfl, tl_iload _ _⟩, List.forall_mem_cons.mpr ⟨⟨s_iadd d100_72, tl_iadd _⟩, fun _ h => absurd h List.not_mem_nil⟩⟩⟩⟩⟩⟩⟩⟩⟩⟩⟩⟩⟩⟩⟩⟩⟩⟩⟩⟩⟩⟩⟩⟩⟩⟩⟩⟩⟩⟩⟩⟩⟩⟩⟩⟩⟩⟩⟩⟩
/-- RX5.records -/
def t100_1 : List (Nat × pO) := [(73, o_aload 0 74), (74, o_getR 5 1 77), (77, o_iload 1 78), (78, o_iald 79), (79, o_iast 80), (80, o_iinc 1 (nI 1) 83), (83, o_goto 52), (86, o_aload 0 87), (87, o_dupr 88), (88, o_getI 5 3 91), (91, o_push (.int (nI 1)) 92), (92, o_iadd 93), (93, o_putI 5 3 96), (96, o_vret)]
theorem ok100_1 : ∀ q ∈ t100_1, p_Z 100 q := List.forall_mem_cons.mpr ⟨⟨s_aload_n d100_73 rfl, tl_aload _ _⟩, List.forall_mem_cons.mpr ⟨⟨f_getR_5_1 d100_74 wd_617, tl_getR _ _ _⟩, List.forall_mem_cons.mpr ⟨⟨s_iload_n d100_77 rfl, tl_iload _ _⟩, List.forall_mem_cons.mpr ⟨⟨s_iald d100_78, tl_iald _⟩, List.forall_mem_cons.mpr ⟨⟨s_iast d100_79, tl_iast _⟩, List.forall_mem_cons.mpr ⟨⟨s_iinc d100_80 rfl st1_100_1, tl_iinc _ _ _⟩, List.forall_mem_cons.mpr ⟨⟨s_goto d100_83 rfl, tl_goto _⟩, List.forall_mem_cons.mpr ⟨⟨s_aload_n d100_86 rfl, tl_aload _ _⟩, List.forall_mem_cons.mpr ⟨⟨s_dupr d100_87, tl_dupr _⟩, List.forall_mem_cons.mpr ⟨⟨f_getI_5_3 d100_88 wd_619, tl_getI _ _ _⟩, List.forall_mem_cons.mpr ⟨⟨s_iconst d100_91 rfl, tl_push _ _⟩, List.forall_mem_cons.mpr ⟨⟨s_iadd d100_92, tl_iadd _⟩, List.forall_mem_cons.mpr ⟨⟨f_putI_5_3 d100_93 wd_619, tl_putI _ _ _⟩, List.forall_mem_cons.mpr ⟨⟨s_vret d100_96 rfl, tl_vret⟩, fun _ h => absurd h List.not_mem_nil⟩⟩⟩⟩⟩⟩⟩⟩⟩⟩⟩⟩⟩⟩
def t100 : List (Nat × pO) := t100_0 ++ (t100_1)
theorem ok100 : ∀ q ∈ t100, p_Z 100 q := List.forall_mem_append.mpr ⟨ok100_0, ok100_1⟩
theorem d101_0 : decode (pB 101) 0 = .ok (.aload_n 0, 1) := by decide +kernel
theorem d101_1 : decode (pB 101) 1 = .ok (.getfield 35, 3) := by decide +kernel
theorem d101_4 : decode (pB 101) 4 = .ok (.bipush 16, 2) := by decide +kernel
theorem d101_6 : decode (pB 101) 6 = .ok (.iload_n 1, 1) := by decide +kernel
theorem d101_7 : decode (pB 101) 7 = .ok (.imul, 1) := by decide +kernel
theorem d101_8 : decode (pB 101) 8 = .ok (.aload_n 0, 1) := by decide +kernel
theorem d101_9 : decode (pB 101) 9 = .ok (.getfield 38, 3) := by decide +kernel
theorem d101_12 : decode (pB 101) 12 = .ok (.iload_n 1, 1) := by decide +kernel
theorem d101_13 : decode (pB 101) 13 = .ok (.iaload, 1) := by decide +kernel
theorem d101_14 : decode (pB 101) 14 = .ok (.iadd, 1) := by decide +kernel
theorem d101_15 : decode (pB 101) 15 = .ok (.iload_n 2, 1) := by decide +kernel
theorem d101_16 : decode (pB 101) 16 = .ok (.iastore, 1) := by decide +kernel
theorem d101_17 : decode (pB 101) 17 = .ok (.aload_n 0, 1) := by decide +kernel
theorem d101_18 : decode (pB 101) 18 = .ok (.getfield 38, 3) := by decide +kernel
theorem d101_21 : decode (pB 101) 21 = .ok (.iload_n 1, 1) := by decide +kernel
theorem d101_22 : decode (pB 101) 22 = .ok (.dup2, 1) := by decide +kernel
theorem d101_23 : decode (pB 101) 23 = .ok (.iaload, 1) := by decide +kernel
theorem d101_24 : decode (pB 101) 24 = .ok (.iconst 1, 1) := by decide +kernel
theorem d101_25 : decode (pB 101) 25 = .ok (.iadd, 1) := by decide +kernel
theorem d101_26 : decode (pB 101) 26 = .ok (.iastore, 1) := by decide +kernel
theorem d101_27 : decode (pB 101) 27 = .ok (.return_, 1) := by decide +kernel
/-- RX5.puts -/
def t101_0 : List (Nat × pO) := [(0, o_aload 0 1), (1, o_getR 5 15 4), (4, o_push (.int (nI 16)) 6), (6, o_iload 1 7), (7, o_imul 8), (8, o_aload 0 9), (9, o_getR 5 16 12), (12, o_iload 1 13), (13, o_iald 14), (14, o_iadd 15), (15, o_iload 2 16), (16, o_iast 17), (17, o_aload 0 18), (18, o_getR 5 16 21), (21, o_iload 1 22), (22, o_dup2i 23), (23, o_iald 24), (24, o_push (.int (nI 1)) 25), (25, o_iadd 26), (26, o_iast 27), (27, o_vret)]
theorem ok101_0 : ∀ q ∈ t101_0, p_Z 101 q := List.forall_mem_cons.mpr ⟨⟨s_aload_n d101_0 rfl, tl_aload _ _⟩, List.forall_mem_cons.mpr ⟨⟨f_getR_5_15 d101_1 wd_631, tl_getR _ _ _⟩, List.forall_mem_cons.mpr ⟨⟨s_bipush d101_4 rfl, tl_push _ _⟩, List.forall_mem_cons.mpr ⟨⟨s_iload_n d101_6 rfl, tl_iload _ _⟩, List.forall_mem_cons.mpr ⟨⟨s_imul d101_7, tl_imul _⟩, List.forall_mem_cons.mpr ⟨⟨s_aload_n d101_8 rfl, tl_aload _ _⟩, List.forall_mem_cons.mpr ⟨⟨f_getR_5_16 d101_9 wd_632, tl_getR _ _ _⟩, List.forall_mem_cons.mpr ⟨⟨s_iload_n d101_12 rfl, tl_iload _ _⟩, List.forall_mem_cons.mpr ⟨⟨s_iald d101_13, tl_iald _⟩, List.forall_mem_cons.mpr ⟨⟨s_iadd d101_14, tl_iadd _⟩, List.forall_mem_cons.mpr ⟨⟨s_iload_n d101_15 rfl, tl_iload _ _⟩, List.forall_mem_cons.mpr ⟨⟨s_iast d101_16, tl_iast _⟩, List.forall_mem_cons.mpr ⟨⟨s_aload_n d101_17 rfl, tl_aload _ _⟩, List.forall_mem_cons.mpr ⟨⟨f_getR_5_16 d101_18 wd_632, tl_getR _ _ _⟩, List.forall_mem_cons.mpr ⟨⟨s_iload_n d101_21 rfl, tl_iload _ _⟩, List.forall_mem_cons.mpr ⟨⟨s_dup2i d101_22, tl_dup2i _⟩, List.forall_mem_cons.mpr ⟨⟨s_iald d101_23, tl_iald _⟩, List.forall_mem_cons.mpr ⟨⟨s_iconst d101_24 rfl, tl_push _ _⟩, List.forall_mem_cons.mpr ⟨⟨s_iadd d101_25, tl_iadd _⟩, List.forall_mem_cons.mpr ⟨⟨s_iast d101_26, tl_iast _⟩, List.forall_mem_cons.mpr ⟨⟨s_vret d101_27 rfl, tl_vret⟩, fun _ h => absurd h List.not_mem_nil⟩⟩⟩⟩⟩⟩⟩⟩⟩⟩⟩⟩⟩⟩⟩⟩⟩⟩⟩⟩⟩
def t101 : List (Nat × pO) := t101_0
theorem ok101 : ∀ q ∈ t101, p_Z 101 q := ok101_0
theorem d102_0 : decode (pB 102) 0 = .ok (.iload_n 1, 1) := by decide +kernel
theorem d102_1 : decode (pB 102) 1 = .ok (.aload_n 0, 1) := by decide +kernel
theorem d102_2 : decode (pB 102) 2 = .ok (.getfield 55, 3) := by decide +kernel
theorem d102_5 : decode (pB 102) 5 = .ok (.iload_n 1, 1) := by decide +kernel
theorem d102_6 : decode (pB 102) 6 = .ok (.isub, 1) := by decide +kernel
theorem d102_7 : decode (pB 102) 7 = .ok (.if_icmp .le 7, 3) := by decide +kernel
theorem d102_10 : decode (pB 102) 10 = .ok (.iload_n 1, 1) := by decide +kernel
theorem d102_11 : decode (pB 102) 11 = .ok (.goto 9, 3) := by decide +kernel
theorem d102_14 : decode (pB 102) 14 = .ok (.aload_n 0, 1) := by decide +kernel
theorem d102_15 : decode (pB 102) 15 = .ok (.getfield 55, 3) := by decide +kernel
theorem d102_18 : decode (pB 102) 18 = .ok (.iload_n 1, 1) := by decide +kernel
theorem d102_19 : decode (pB 102) 19 = .ok (.isub, 1) := by decide +kernel
theorem d102_20 : decode (pB 102) 20 = .ok (.istore_n 2, 1) := by decide +kernel
theorem d102_21 : decode (pB 102) 21 = .ok (.iconst 0, 1) := by decide +kernel
theorem d102_22 : decode (pB 102) 22 = .ok (.istore_n 3, 1) := by decide +kernel
theorem d102_23 : decode (pB 102) 23 = .ok (.iload_n 3, 1) := by decide +kernel
theorem d102_24 : decode (pB 102) 24 = .ok (.iload_n 2, 1) := by decide +kernel
theorem d102_25 : decode (pB 102) 25 = .ok (.if_icmp .ge 126, 3) := by decide +kernel
theorem d102_28 : decode (pB 102) 28 = .ok (.aload_n 0, 1) := by decide +kernel
theorem d102_29 : decode (pB 102) 29 = .ok (.getfield 38, 3) := by decide +kernel
theorem d102_32 : decode (pB 102) 32 = .ok (.iload_n 3, 1) := by decide +kernel
theorem d102_33 : decode (pB 102) 33 = .ok (.iconst 0, 1) := by decide +kernel
theorem d102_34 : decode (pB 102) 34 = .ok (.iastore, 1) := by decide +kernel
theorem d102_35 : decode (pB 102) 35 = .ok (.iload_n 1, 1) := by decide +kernel
theorem d102_36 : decode (pB 102) 36 = .ok (.iconst 1, 1) := by decide +kernel
theorem d102_37 : decode (pB 102) 37 = .ok (.isub, 1) := by decide +kernel
theorem d102_38 : decode (pB 102) 38 = .ok (.iload_n 3, 1) := by decide +kernel
theorem d102_39 : decode (pB 102) 39 = .ok (.isub, 1) := by decide +kernel
theorem d102_40 : decode (pB 102) 40 = .ok (.istore 4, 2) := by decide +kernel
theorem d102_42 : decode (pB 102) 42 = .ok (.iload_n 1, 1) := by decide +kernel
theorem d102_43 : decode (pB 102) 43 = .ok (.iload_n 3, 1) := by decide +kernel
theorem d102_44 : decode (pB 102) 44 = .ok (.iadd, 1) := by decide +kernel
theorem d102_45 : decode (pB 102) 45 = .ok (.istore 5, 2) := by decide +kernel
theorem d102_47 : decode (pB 102) 47 = .ok (.iconst 0, 1) := by decide +kernel
theorem d102_48 : decode (pB 102) 48 = .ok (.istore 6, 2) := by decide +kernel
theorem d102_50 : decode (pB 102) 50 = .ok (.iload 4, 2) := by decide +kernel
theorem d102_52 : decode (pB 102) 52 = .ok (.ifCond .lt 39, 3) := by decide +kernel
theorem d102_55 : decode (pB 102) 55 = .ok (.iload 6, 2) := by decide +kernel
theorem d102_57 : decode (pB 102) 57 = .ok (.aload_n 0, 1) := by decide +kernel
theorem d102_58 : decode (pB 102) 58 = .ok (.getfield 32, 3) := by decide +kernel
theorem d102_61 : decode (pB 102) 61 = .ok (.iload 4, 2) := by decide +kernel
theorem d102_63 : decode (pB 102) 63 = .ok (.iaload, 1) := by decide +kernel
theorem d102_64 : decode (pB 102) 64 = .ok (.if_icmp .ge 27, 3) := by decide +kernel
theorem d102_67 : decode (pB 102) 67 = .ok (.aload_n 0, 1) := by decide +kernel
theorem d102_68 : decode (pB 102) 68 = .ok (.iload_n 3, 1) := by decide +kernel
theorem d102_69 : decode (pB 102) 69 = .ok (.aload_n 0, 1) := by decide +kernel
theorem d102_70 : decode (pB 102) 70 = .ok (.getfield 29, 3) := by decide +kernel
theorem d102_73 : decode (pB 102) 73 = .ok (.bipush 16, 2) := by decide +kernel
theorem d102_75 : decode (pB 102) 75 = .ok (.iload 4, 2) := by decide +kernel
theorem d102_77 : decode (pB 102) 77 = .ok (.imul, 1) := by decide +kernel
theorem d102_78 : decode (pB 102) 78 = .ok (.iload 6, 2) := by decide +kernel
theorem d102_80 : decode (pB 102) 80 = .ok (.iadd, 1) := by decide +kernel
theorem d102_81 : decode (pB 102) 81 = .ok (.iaload, 1) := by decide +kernel
theorem d102_82 : decode (pB 102) 82 = .ok (.invokevirtual 58, 3) := by decide +kernel
theorem d102_85 : decode (pB 102) 85 = .ok (.iinc 6 1, 3) := by decide +kernel
theorem d102_88 : decode (pB 102) 88 = .ok (.goto (-38), 3) := by decide +kernel
theorem d102_91 : decode (pB 102) 91 = .ok (.iload 5, 2) := by decide +kernel
theorem d102_93 : decode (pB 102) 93 = .ok (.aload_n 0, 1) := by decide +kernel
theorem d102_94 : decode (pB 102) 94 = .ok (.getfield 55, 3) := by decide +kernel
theorem d102_97 : decode (pB 102) 97 = .ok (.if_icmp .ge 15, 3) := by decide +kernel
theorem d102_100 : decode (pB 102) 100 = .ok (.aload_n 0, 1) := by decide +kernel
theorem d102_101 : decode (pB 102) 101 = .ok (.getfield 32, 3) := by decide +kernel
theorem d102_104 : decode (pB 102) 104 = .ok (.iload 5, 2) := by decide +kernel
theorem d102_106 : decode (pB 102) 106 = .ok (.iaload, 1) := by decide +kernel
theorem d102_107 : decode (pB 102) 107 = .ok (.iconst 1, 1) := by decide +kernel
theorem d102_108 : decode (pB 102) 108 = .ok (.isub, 1) := by decide +kernel
theorem d102_109 : decode (pB 102) 109 = .ok (.goto 5, 3) := by decide +kernel
theorem d102_112 : decode (pB 102) 112 = .ok (.bipush (-6), 2) := by decide +kernel
theorem d102_114 : decode (pB 102) 114 = .ok (.istore 6, 2) := by decide +kernel
theorem d102_116 : decode (pB 102) 116 = .ok (.iload 6, 2) := by decide +kernel
theorem d102_118 : decode (pB 102) 118 = .ok (.ifCond .lt 27, 3) := by decide +kernel
theorem d102_121 : decode (pB 102) 121 = .ok (.aload_n 0, 1) := by decide +kernel
theorem d102_122 : decode (pB 102) 122 = .ok (.iload_n 3, 1) := by decide +kernel
theorem d102_123 : decode (pB 102) 123 = .ok (.aload_n 0, 1) := by decide +kernel
theorem d102_124 : decode (pB 102) 124 = .ok (.getfield 29, 3) := by decide +kernel
theorem d102_127 : decode (pB 102) 127 = .ok (.bipush 16, 2) := by decide +kernel
theorem d102_129 : decode (pB 102) 129 = .ok (.iload 5, 2) := by decide +kernel
theorem d102_131 : decode (pB 102) 131 = .ok (.imul, 1) := by decide +kernel
theorem d102_132 : decode (pB 102) 132 = .ok (.iload 6, 2) := by decide +kernel
theorem d102_134 : decode (pB 102) 134 = .ok (.iadd, 1) := by decide +kernel
theorem d102_135 : decode (pB 102) 135 = .ok (.iaload, 1) := by decide +kernel
theorem d102_136 : decode (pB 102) 136 = .ok (.invokevirtual 58, 3) := by decide +kernel
theorem d102_139 : decode (pB 102) 139 = .ok (.iinc 6 (-1), 3) := by decide +kernel
theorem d102_142 : decode (pB 102) 142 = .ok (.goto (-26), 3) := by decide +kernel
theorem d102_145 : decode (pB 102) 145 = .ok (.iinc 3 1, 3) := by decide +kernel
theorem d102_148 : decode (pB 102) 148 = .ok (.goto (-125), 3) := by decide +kernel
theorem d102_151 : decode (pB 102) 151 = .ok (.aload_n 0, 1) := by decide +kernel
theorem d102_152 : decode (pB 102) 152 = .ok (.iload_n 2, 1) := by decide +kernel
theorem d102_153 : decode (pB 102) 153 = .ok (.putfield 55, 3) := by decide +kernel
theorem d102_156 : decode (pB 102) 156 = .ok (.iconst 0, 1) := by decide +kernel
theorem d102_157 : decode (pB 102) 157 = .ok (.istore_n 3, 1) := by decide +kernel
theorem d102_158 : decode (pB 102) 158 = .ok (.iload_n 3, 1) := by decide +kernel
theorem d102_159 : decode (pB 102) 159 = .ok (.iload_n 2, 1) := by decide +kernel
theorem d102_160 : decode (pB 102) 160 = .ok (.if_icmp .ge 65, 3) := by decide +kernel
theorem d102_163 : decode (pB 102) 163 = .ok (.aload_n 0, 1) := by decide +kernel
theorem d102_164 : decode (pB 102) 164 = .ok (.getfield 32, 3) := by decide +kernel
theorem d102_167 : decode (pB 102) 167 = .ok (.iload_n 3, 1) := by decide +kernel
theorem d102_168 : decode (pB 102) 168 = .ok (.aload_n 0, 1) := by decide +kernel
theorem d102_169 : decode (pB 102) 169 = .ok (.getfield 38, 3) := by decide +kernel
theorem d102_172 : decode (pB 102) 172 = .ok (.iload_n 3, 1) := by decide +kernel
theorem d102_173 : decode (pB 102) 173 = .ok (.iaload, 1) := by decide +kernel
theorem d102_174 : decode (pB 102) 174 = .ok (.iastore, 1) := by decide +kernel
theorem d102_175 : decode (pB 102) 175 = .ok (.iconst 0, 1) := by decide +kernel
theorem d102_176 : decode (pB 102) 176 = .ok (.istore 4, 2) := by decide +kernel
theorem d102_178 : decode (pB 102) 178 = .ok (.iload 4, 2) := by decide +kernel
theorem d102_180 : decode (pB 102) 180 = .ok (.aload_n 0, 1) := by decide +kernel
theorem d102_181 : decode (pB 102) 181 = .ok (.getfield 32, 3) := by decide +kernel
theorem d102_184 : decode (pB 102) 184 = .ok (.iload_n 3, 1) := by decide +kernel
theorem d102_185 : decode (pB 102) 185 = .ok (.iaload, 1) := by decide +kernel
theorem d102_186 : decode (pB 102) 186 = .ok (.if_icmp .ge 33, 3) := by decide +kernel
theorem d102_189 : decode (pB 102) 189 = .ok (.aload_n 0, 1) := by decide +kernel
theorem d102_190 : decode (pB 102) 190 = .ok (.getfield 29, 3) := by decide +kernel
theorem d102_193 : decode (pB 102) 193 = .ok (.bipush 16, 2) := by decide +kernel
theorem d102_195 : decode (pB 102) 195 = .ok (.iload_n 3, 1) := by decide +kernel
theorem d102_196 : decode (pB 102) 196 = .ok (.imul, 1) := by decide +kernel
theorem d102_197 : decode (pB 102) 197 = .ok (.iload 4, 2) := by decide +kernel
theorem d102_199 : decode (pB 102) 199 = .ok (.iadd, 1) := by decide +kernel
theorem d102_200 : decode (pB 102) 200 = .ok (.aload_n 0, 1) := by decide +kernel
theorem d102_201 : decode (pB 102) 201 = .ok (.getfield 35, 3) := by decide +kernel
theorem d102_204 : decode (pB 102) 204 = .ok (.bipush 16, 2) := by decide +kernel
theorem d102_206 : decode (pB 102) 206 = .ok (.iload_n 3, 1) := by decide +kernel
theorem d102_207 : decode (pB 102) 207 = .ok (.imul, 1) := by decide +kernel
theorem d102_208 : decode (pB 102) 208 = .ok (.iload 4, 2) := by decide +kernel
theorem d102_210 : decode (pB 102) 210 = .ok (.iadd, 1) := by decide +kernel
theorem d102_211 : decode (pB 102) 211 = .ok (.iaload, 1) := by decide +kernel
theorem d102_212 : decode (pB 102) 212 = .ok (.iastore, 1) := by decide +kernel
theorem d102_213 : decode (pB 102) 213 = .ok (.iinc 4 1, 3) := by decide +kernel
theorem d102_216 : decode (pB 102) 216 = .ok (.goto (-38), 3) := by decide +kernel
theorem d102_219 : decode (pB 102) 219 = .ok (.iinc 3 1, 3) := by decide +kernel
theorem d102_222 : decode (pB 102) 222 = .ok (.goto (-64), 3) := by decide +kernel
theorem d102_225 : decode (pB 102) 225 = .ok (.return_, 1) := by decide +kernel
theorem st1_102_2 : p_st1 102 2 = true := by decide +kernel
theorem st1_102_3 : p_st1 102 3 = true := by decide +kernel
theorem st1_102_4 : p_st1 102 4 = true := by decide +kernel
theorem st1_102_5 : p_st1 102 5 = true := by decide +kernel
theorem st1_102_6 : p_st1 102 6 = true := by decide +kernel
/-- RX5.foldsAt -/
def t102_0 : List (Nat × pO) := [(0, o_iload 1 1), (1, o_aload 0 2), (2, o_getI 5 14 5), (5, o_iload 1 6), (6, o_isub 7), (7, o_icle 14 10), (10, o_iload 1 11), (11, o_goto 20), (14, o_aload 0 15), (15, o_getI 5 14 18), (18, o_iload 1 19), (19, o_isub 20), (20, o_istore 2 21), (21, o_push (.int (nI 0)) 22), (22, o_istore 3 23), (23, o_iload 3 24), (24, o_iload 2 25), (25, o_icge 151 28), (28, o_aload 0 29), (29, o_getR 5 16 32), (32, o_iload 3 33), (33, o_push (.int (nI 0)) 34), (34, o_iast 35), (35, o_iload 1 36), (36, o_push (.int (nI 1)) 37), (37, o_isub 38), (38, o_iload 3 39), (39, o_isub 40), (40, o_istore 4 42), (42, o_iload 1 43), (43, o_iload 3 44), (44, o_iadd 45), (45, o_istore 5 47), (47, o_push (.int (nI 0)) 48), (48, o_istore 6 50), (50, o_iload 4 52), (52, o_iflt 91 55), (55, o_iload 6 57), (57, o_aload 0 58), (58, o_getR 5 13 61)]
theorem ok102_0 : ∀ q ∈ t102_0, p_Z 102 q := List.forall_mem_cons.mpr ⟨⟨s_iload_n d102_0 rfl, tl_iload _ _⟩, List.forall_mem_cons.mpr ⟨⟨s_aload_n d102_1 rfl, tl_aload _ _⟩, List.forall_mem_cons.mpr ⟨⟨f_getI_5_14 d102_2 wd_630, tl_getI _ _ _⟩, List.forall_mem_cons.mpr ⟨⟨s_iload_n d102_5 rfl, tl_iload _ _⟩, List.forall_mem_cons.mpr ⟨⟨s_isub d102_6, tl_isub _⟩, List.forall_mem_cons.mpr ⟨⟨s_icle d102_7 rfl, tl_icle _ _⟩, List.forall_mem_cons.mpr ⟨⟨s_iload_n d102_10 rfl, tl_iload _ _⟩, List.forall_mem_cons.mpr ⟨⟨s_goto d102_11 rfl, tl_goto _⟩, List.forall_mem_cons.mpr ⟨⟨s_aload_n d102_14 rfl, tl_aload _ _⟩, List.forall_mem_cons.mpr ⟨⟨f_getI_5_14 d102_15 wd_630, tl_getI _ _ _⟩, List.forall_mem_cons.mpr ⟨⟨s_iload_n d102_18 rfl, tl_iload _ _⟩, List.forall_mem_cons.mpr ⟨⟨s_isub d102_19, tl_isub _⟩, List.forall_mem_cons.mpr ⟨⟨s_istore_n d102_20 rfl st1_102_2, tl_istore _ _⟩, List.forall_mem_cons.mpr ⟨⟨s_iconst d102_21 rfl, tl_push _ _⟩, List.forall_mem_cons.mpr ⟨⟨s_istore_n d102_22 rfl st1_102_3, tl_istore _ _⟩, List.forall_mem_cons.mpr ⟨⟨s_iload_n d102_23 rfl, tl_iload _ _⟩, List.forall_mem_cons.mpr ⟨⟨s_iload_n d102_24 rfl, tl_iload _ _⟩, List.forall_mem_cons.mpr ⟨⟨s_icge d102_25 rfl, tl_icge _ _⟩, List.forall_mem_cons.mpr ⟨⟨s_aload_n d102_28 rfl, tl_aload _ _⟩, List.forall_mem_cons.mpr ⟨⟨f_getR_5_16 d102_29 wd_632, tl_getR _ _ _⟩, List.forall_mem_cons.mpr ⟨⟨s_iload_n d102_32 rfl, tl_iload _ _⟩, List.forall_mem_cons.mpr ⟨⟨s_iconst d102_33 rfl, tl_push _ _⟩, List.forall_mem_cons.mpr ⟨⟨s_iast d102_34, tl_iast _⟩, List.forall_mem_cons.mpr ⟨⟨s_iload_n d102_35 rfl, tl_iload _ _⟩, List.forall_mem_cons.mpr ⟨⟨s_iconst d102_36 rfl, tl_push _ _⟩, List.forall_mem_cons.mpr ⟨⟨s_isub d102_37, tl_isub _⟩, List.forall_mem_cons.mpr ⟨⟨s_iload_n d102_38 rfl, tl_iload _ _⟩, List.forall_mem_cons.mpr ⟨⟨s_isub d102_39, tl_isub _⟩, List.forall_mem_cons.mpr ⟨⟨s_istore d102_40 st1_102_4, tl_istore _ _⟩, List.forall_mem_cons.mpr ⟨⟨s_iload_n d102_42 rfl, tl_iload _ _⟩, List.forall_mem_cons.mpr ⟨⟨s_iload_n d102_43 rfl, tl_iload _ _⟩, List.forall_mem_cons.mpr ⟨⟨s_iadd d102_44, tl_iadd _⟩, List.forall_mem_cons.mpr ⟨⟨s_istore d102_45 st1_102_5, tl_istore _ _⟩, List.forall_mem_cons.mpr ⟨⟨s_iconst d102_47 rfl, tl_push _ _⟩, List.forall_mem_cons.mpr ⟨⟨s_istore d102_48 st1_102_6, tl_istore _ _⟩, List.forall_mem_cons.mpr ⟨⟨s_iload d102_50, tl_iload _ _⟩, List.forall_mem_cons.mpr ⟨⟨s_iflt d102_52 rfl, tl_iflt _ _⟩, List.forall_mem_cons.mpr ⟨⟨s_iload d102_55, tl_iload _ _⟩, List.forall_mem_cons.mpr ⟨⟨s_aload_n d102_57 rfl, tl_aload _ _⟩, List.forall_mem_cons.mpr ⟨⟨f_getR_5_13 d102_58 wd_629, tl_getR _ _ _⟩, fun _ h => absurd h List.not_mem_nil⟩⟩⟩⟩⟩⟩⟩⟩⟩⟩⟩⟩⟩⟩⟩⟩⟩⟩⟩⟩⟩⟩⟩⟩⟩⟩⟩⟩⟩⟩⟩⟩⟩⟩⟩⟩⟩⟩⟩⟩
/-- RX5.foldsAt -/
def t102_1 : List (Nat × pO) := [(61, o_iload 4 63), (63, o_iald 64), (64, o_icge 91 67), (67, o_aload 0 68), (68, o_iload 3 69), (69, o_aload 0 70), (70, o_getR 5 12 73), (73, o_push (.int (nI 16)) 75), (75, o_iload 4 77), (77, o_imul 78), (78, o_iload 6 80), (80, o_iadd 81), (81, o_iald 82), (82, o_invV 5 101 2 85), (85, o_iinc 6 (nI 1) 88), (88, o_goto 50), (91, o_iload 5 93), (93, o_aload 0 94), (94, o_getI 5 14 97), (97, o_icge 112 100), (100, o_aload 0 101), (101, o_getR 5 13 104), (104, o_iload 5 106), (106, o_iald 107), (107, o_push (.int (nI 1)) 108), (108, o_isub 109), (109, o_goto 114), (112, o_push (.int (nM 6)) 114), (114, o_istore 6 116), (116, o_iload 6 118), (118, o_iflt 145 121), (121, o_aload 0 122), (122, o_iload 3 123), (123, o_aload 0 124), (124, o_getR 5 12 127), (127, o_push (.int (nI 16)) 129), (129, o_iload 5 131), (131, o_imul 132), (132, o_iload 6 134), (134, o_iadd 135)]
theorem ok102_1 : ∀ q ∈ t102_1, p_Z 102 q := List.forall_mem_cons.mpr ⟨⟨s_iload d102_61, tl_iload _ _⟩, List.forall_mem_cons.mpr ⟨⟨s_iald d102_63, tl_iald _⟩, List.forall_mem_cons.mpr ⟨⟨s_icge d102_64 rfl, tl_icge _ _⟩, List.forall_mem_cons.mpr ⟨⟨s_aload_n d102_67 rfl, tl_aload _ _⟩, List.forall_mem_cons.mpr ⟨⟨s_iload_n d102_68 rfl, tl_iload _ _⟩, List.forall_mem_cons.mpr ⟨⟨s_aload_n d102_69 rfl, tl_aload _ _⟩, List.forall_mem_cons.mpr ⟨⟨f_getR_5_12 d102_70 wd_628, tl_getR _ _ _⟩, List.forall_mem_cons.mpr ⟨⟨s_bipush d102_73 rfl, tl_push _ _⟩, List.forall_mem_cons.mpr ⟨⟨s_iload d102_75, tl_iload _ _⟩, List.forall_mem_cons.mpr ⟨⟨s_imul d102_77, tl_imul _⟩, List.forall_mem_cons.mpr ⟨⟨s_iload d102_78, tl_iload _ _⟩, List.forall_mem_cons.mpr ⟨⟨s_iadd d102_80, tl_iadd _⟩, List.forall_mem_cons.mpr ⟨⟨s_iald d102_81, tl_iald _⟩, List.forall_mem_cons.mpr ⟨⟨q_invV_101 d102_82 wd_766, tl_invV _ _ _ _⟩, List.forall_mem_cons.mpr ⟨⟨s_iinc d102_85 rfl st1_102_6, tl_iinc _ _ _⟩, List.forall_mem_cons.mpr ⟨⟨s_goto d102_88 rfl, tl_goto _⟩, List.forall_mem_cons.mpr ⟨⟨s_iload d102_91, tl_iload _ _⟩, List.forall_mem_cons.mpr ⟨⟨s_aload_n d102_93 rfl, tl_aload _ _⟩, List.forall_mem_cons.mpr ⟨⟨f_getI_5_14 d102_94 wd_630, tl_getI _ _ _⟩, List.forall_mem_cons.mpr ⟨⟨s_icge d102_97 rfl, tl_icge _ _⟩, List.forall_mem_cons.mpr ⟨⟨s_aload_n d102_100 rfl, tl_aload _ _⟩, List.forall_mem_cons.mpr ⟨⟨f_getR_5_13 d102_101 wd_629, tl_getR _ _ _⟩, List.forall_mem_cons.mpr ⟨⟨s_iload d102_104, tl_iload _ _⟩, List.forall_mem_cons.mpr ⟨⟨s_iald d102_106, tl_iald _⟩, List.forall_mem_cons.mpr ⟨⟨s_iconst d102_107 rfl, tl_push _ _⟩, List.forall_mem_cons.mpr ⟨⟨s_isub d102_108, tl_isub _⟩, List.forall_mem_cons.mpr ⟨⟨s_goto d102_109 rfl, tl_goto _⟩, List.forall_mem_cons.mpr ⟨⟨s_bipush d102_112 rfl, tl_push _ _⟩, List.forall_mem_cons.mpr ⟨⟨s_istore d102_114 st1_102_6, tl_istore _ _⟩, List.forall_mem_cons.mpr ⟨⟨s_iload d102_116, tl_iload _ _⟩, List.forall_mem_cons.mpr ⟨⟨s_iflt d102_118 rfl, tl_iflt _ _⟩, List.forall_mem_cons.mpr ⟨⟨s_aload_n d102_121 rfl, tl_aload _ _⟩, List.forall_mem_cons.mpr ⟨⟨s_iload_n d102_122 rfl, tl_iload _ _⟩, List.forall_mem_cons.mpr ⟨⟨s_aload_n d102_123 rfl, tl_aload _ _⟩, List.forall_mem_cons.mpr ⟨⟨f_getR_5_12 d102_124 wd_628, tl_getR _ _ _⟩, List.forall_mem_cons.mpr ⟨⟨s_bipush d102_127 rfl, tl_push _ _⟩, List.forall_mem_cons.mpr ⟨⟨s_iload d102_129, tl_iload _ _⟩, List.forall_mem_cons.mpr ⟨⟨s_imul d102_131, tl_imul _⟩, List.forall_mem_cons.mpr ⟨⟨s_iload d102_132, tl_iload _ _⟩, List.forall_mem_cons.mpr ⟨⟨s_iadd d102_134, tl_iadd _⟩, fun _ h => absurd h List.not_mem_nil⟩⟩⟩⟩⟩⟩⟩⟩⟩⟩⟩⟩⟩⟩⟩⟩⟩⟩⟩⟩⟩⟩⟩⟩⟩⟩⟩⟩⟩⟩⟩⟩⟩⟩⟩⟩⟩⟩⟩⟩
/-- RX5.foldsAt -/
def t102_2 : List (Nat × pO) := [(135, o_iald 136), (136, o_invV 5 101 2 139), (139, o_iinc 6 (nM 1) 142), (142, o_goto 116), (145, o_iinc 3 (nI 1) 148), (148, o_goto 23), (151, o_aload 0 152), (152, o_iload 2 153), (153, o_putI 5 14 156), (156, o_push (.int (nI 0)) 157), (157, o_istore 3 158), (158, o_iload 3 159), (159, o_iload 2 160), (160, o_icge 225 163), (163, o_aload 0 164), (164, o_getR 5 13 167), (167, o_iload 3 168), (168, o_aload 0 169), (169, o_getR 5 16 172), (172, o_iload 3 173), (173, o_iald 174), (174, o_iast 175), (175, o_push (.int (nI 0)) 176), (176, o_istore 4 178), (178, o_iload 4 180), (180, o_aload 0 181), (181, o_getR 5 13 184), (184, o_iload 3 185), (185, o_iald 186), (186, o_icge 219 189), (189, o_aload 0 190), (190, o_getR 5 12 193), (193, o_push (.int (nI 16)) 195), (195, o_iload 3 196), (196, o_imul 197), (197, o_iload 4 199), (199, o_iadd 200), (200, o_aload 0 201), (201, o_getR 5 15 204), (204, o_push (.int (nI 16)) 206)]
theorem ok102_2 : ∀ q ∈ t102_2, p_Z 102 q := List.forall_mem_cons.mpr ⟨⟨s_iald d102_135, tl_iald _⟩, List.forall_mem_cons.mpr ⟨⟨q_invV_101 d102_136 wd_766, tl_invV _ _ _ _⟩, List.forall_mem_cons.mpr ⟨⟨s_iinc d102_139 rfl st1_102_6, tl_iinc _ _ _⟩, List.forall_mem_cons.mpr ⟨⟨s_goto d102_142 rfl, tl_goto _⟩, List.forall_mem_cons.mpr ⟨⟨s_iinc d102_145 rfl st1_102_3, tl_iinc _ _ _⟩, List.forall_mem_cons.mpr ⟨⟨s_goto d102_148 rfl, tl_goto _⟩, List.forall_mem_cons.mpr ⟨⟨s_aload_n d102_151 rfl, tl_aload _ _⟩, List.forall_mem_cons.mpr ⟨⟨s_iload_n d102_152 rfl, tl_iload _ _⟩, List.forall_mem_cons.mpr ⟨⟨f_putI_5_14 d102_153 wd_630, tl_putI _ _ _⟩, List.forall_mem_cons.mpr ⟨⟨s_iconst d102_156 rfl, tl_push _ _⟩, List.forall_mem_cons.mpr ⟨⟨s_istore_n d102_157 rfl st1_102_3, tl_istore _ _⟩, List.forall_mem_cons.mpr ⟨⟨s_iload_n d102_158 rfl, tl_iload _ _⟩, List.forall_mem_cons.mpr ⟨⟨s_iload_n d102_159 rfl, tl_iload _ _⟩, List.forall_mem_cons.mpr ⟨⟨s_icge d102_160 rfl, tl_icge _ _⟩, List.forall_mem_cons.mpr ⟨⟨s_aload_n d102_163 rfl, tl_aload _ _⟩, List.forall_mem_cons.mpr ⟨⟨f_getR_5_13 d102_164 wd_629, tl_getR _ _ _⟩, List.forall_mem_cons.mpr ⟨⟨s_iload_n d102_167 rfl, tl_iload _ _⟩, List.forall_mem_cons.mpr ⟨⟨s_aload_n d102_168 rfl, tl_aload _ _⟩, List.forall_mem_cons.mpr ⟨⟨f_getR_5_16 d102_169 wd_632, tl_getR _ _ _⟩, List.forall_mem_cons.mpr ⟨⟨s_iload_n d102_172 rfl, tl_iload _ _⟩, List.forall_mem_cons.mpr ⟨⟨s_iald d102_173, tl_iald _⟩, List.forall_mem_cons.mpr ⟨⟨s_iast d102_174, tl_iast _⟩, List.forall_mem_cons.mpr ⟨⟨s_iconst d102_175 rfl, tl_push _ _⟩, List.forall_mem_cons.mpr ⟨⟨s_istore d102_176 st1_102_4, tl_istore _ _⟩, List.forall_mem_cons.mpr ⟨⟨s_iload d102_178, tl_iload _ _⟩, List.forall_mem_cons.mpr ⟨⟨s_aload_n d102_180 rfl, tl_aload _ _⟩, List.forall_mem_cons.mpr ⟨⟨f_getR_5_13 d102_181 wd_629, tl_getR _ _ _⟩, List.forall_mem_cons.mpr ⟨⟨s_iload_n d102_184 rfl, tl_iload _ _⟩, List.forall_mem_cons.mpr ⟨⟨s_iald d102_185, tl_iald _⟩, List.forall_mem_cons.mpr ⟨⟨s_icge d102_186 rfl, tl_icge _ _⟩, List.forall_mem_cons.mpr ⟨⟨s_aload_n d102_189 rfl, tl_aload _ _⟩, List.forall_mem_cons.mpr ⟨⟨f_getR_5_12 d102_190 wd_628, tl_getR _ _ _⟩, List.forall_mem_cons.mpr ⟨⟨s_bipush d102_193 rfl, tl_push _ _⟩, List.forall_mem_cons.mpr ⟨⟨s_iload_n d102_195 rfl, tl_iload _ _⟩, List.forall_mem_cons.mpr ⟨⟨s_imul d102_196, tl_imul _⟩, List.forall_mem_cons.mpr ⟨⟨s_iload d102_197, tl_iload _ _⟩, List.forall_mem_cons.mpr ⟨⟨s_iadd d102_199, tl_iadd _⟩, List.forall_mem_cons.mpr ⟨⟨s_aload_n d102_200 rfl, tl_aload _ _⟩, List.forall_mem_cons.mpr ⟨⟨f_getR_5_15 d102_201 wd_631, tl_getR _ _ _⟩, List.forall_mem_cons.mpr ⟨⟨s_bipush d102_204 rfl, tl_push _ _⟩, fun _ h => absurd h List.not_mem_nil⟩⟩⟩⟩⟩⟩⟩⟩⟩⟩⟩⟩⟩⟩⟩⟩⟩⟩⟩⟩⟩⟩⟩⟩⟩⟩⟩⟩⟩⟩⟩⟩⟩⟩⟩⟩⟩⟩⟩⟩
/-- RX5.foldsAt -/
def t102_3 : List (Nat × pO) := [(206, o_iload 3 207), (207, o_imul 208), (208, o_iload 4 210), (210, o_iadd 211), (211, o_iald 212), (212, o_iast 213), (213, o_iinc 4 (nI 1) 216), (216, o_goto 178), (219, o_iinc 3 (nI 1) 222), (222, o_goto 158), (225, o_vret)]
theorem ok102_3 : ∀ q ∈ t102_3, p_Z 102 q := List.forall_mem_cons.mpr ⟨⟨s_iload_n d102_206 rfl, tl_iload _ _⟩, List.forall_mem_cons.mpr ⟨⟨s_imul d102_207, tl_imul _⟩, List.forall_mem_cons.mpr ⟨⟨s_iload d102_208, tl_iload _ _⟩, List.forall_mem_cons.mpr ⟨⟨s_iadd d102_210, tl_iadd _⟩, List.forall_mem_cons.mpr ⟨⟨s_iald d102_211, tl_iald _⟩, List.forall_mem_cons.mpr ⟨⟨s_iast d102_212, tl_iast _⟩, List.forall_mem_cons.mpr ⟨⟨s_iinc d102_213 rfl st1_102_4, tl_iinc _ _ _⟩, List.forall_mem_cons.mpr ⟨⟨s_goto d102_216 rfl, tl_goto _⟩, List.forall_mem_cons.mpr ⟨⟨s_iinc d102_219 rfl st1_102_3, tl_iinc _ _ _⟩, List.forall_mem_cons.mpr ⟨⟨s_goto d102_222 rfl, tl_goto _⟩, List.forall_mem_cons.mpr ⟨⟨s_vret d102_225 rfl, tl_vret⟩, fun _ h => absurd h List.not_mem_nil⟩⟩⟩⟩⟩⟩⟩⟩⟩⟩⟩
def t102 : List (Nat × pO) := t102_0 ++ (t102_1 ++ (t102_2 ++ (t102_3)))
theorem ok102 : ∀ q ∈ t102, p_Z 102 q := List.forall_mem_append.mpr ⟨ok102_0, List.forall_mem_append.mpr ⟨ok102_1, List.forall_mem_append.mpr ⟨ok102_2, ok102_3⟩⟩⟩
theorem d103_0 : decode (pB 103) 0 = .ok (.aload_n 0, 1) := by decide +kernel
theorem d103_1 : decode (pB 103) 1 = .ok (.aload_n 0, 1) := by decide +kernel
theorem d103_2 : decode (pB 103) 2 = .ok (.getfield 7, 3) := by decide +kernel
theorem d103_5 : decode (pB 103) 5 = .ok (.iconst 0, 1) := by decide +kernel
theorem d103_6 : decode (pB 103) 6 = .ok (.iaload, 1) := by decide +kernel
theorem d103_7 : decode (pB 103) 7 = .ok (.putfield 55, 3) := by decide +kernel
theorem d103_10 : decode (pB 103) 10 = .ok (.iconst 0, 1) := by decide +kernel
theorem d103_11 : decode (pB 103) 11 = .ok (.istore_n 1, 1) := by decide +kernel
theorem d103_12 : decode (pB 103) 12 = .ok (.iload_n 1, 1) := by decide +kernel
theorem d103_13 : decode (pB 103) 13 = .ok (.aload_n 0, 1) := by decide +kernel
theorem d103_14 : decode (pB 103) 14 = .ok (.getfield 55, 3) := by decide +kernel
theorem d103_17 : decode (pB 103) 17 = .ok (.if_icmp .ge 26, 3) := by decide +kernel
theorem d103_20 : decode (pB 103) 20 = .ok (.aload_n 0, 1) := by decide +kernel
theorem d103_21 : decode (pB 103) 21 = .ok (.getfield 32, 3) := by decide +kernel
theorem d103_24 : decode (pB 103) 24 = .ok (.iload_n 1, 1) := by decide +kernel
theorem d103_25 : decode (pB 103) 25 = .ok (.iconst 1, 1) := by decide +kernel
theorem d103_26 : decode (pB 103) 26 = .ok (.iastore, 1) := by decide +kernel
theorem d103_27 : decode (pB 103) 27 = .ok (.aload_n 0, 1) := by decide +kernel
theorem d103_28 : decode (pB 103) 28 = .ok (.getfield 29, 3) := by decide +kernel
theorem d103_31 : decode (pB 103) 31 = .ok (.bipush 16, 2) := by decide +kernel
theorem d103_33 : decode (pB 103) 33 = .ok (.iload_n 1, 1) := by decide +kernel
theorem d103_34 : decode (pB 103) 34 = .ok (.imul, 1) := by decide +kernel
theorem d103_35 : decode (pB 103) 35 = .ok (.iload_n 1, 1) := by decide +kernel
theorem d103_36 : decode (pB 103) 36 = .ok (.iastore, 1) := by decide +kernel
theorem d103_37 : decode (pB 103) 37 = .ok (.iinc 1 1, 3) := by decide +kernel
theorem d103_40 : decode (pB 103) 40 = .ok (.goto (-28), 3) := by decide +kernel
theorem d103_43 : decode (pB 103) 43 = .ok (.iconst 0, 1) := by decide +kernel
theorem d103_44 : decode (pB 103) 44 = .ok (.istore_n 1, 1) := by decide +kernel
theorem d103_45 : decode (pB 103) 45 = .ok (.iload_n 1, 1) := by decide +kernel
theorem d103_46 : decode (pB 103) 46 = .ok (.aload_n 0, 1) := by decide +kernel
theorem d103_47 : decode (pB 103) 47 = .ok (.getfield 7, 3) := by decide +kernel
theorem d103_50 : decode (pB 103) 50 = .ok (.iconst 4, 1) := by decide +kernel
theorem d103_51 : decode (pB 103) 51 = .ok (.iaload, 1) := by decide +kernel
theorem d103_52 : decode (pB 103) 52 = .ok (.if_icmp .ge 21, 3) := by decide +kernel
theorem d103_55 : decode (pB 103) 55 = .ok (.aload_n 0, 1) := by decide +kernel
theorem d103_56 : decode (pB 103) 56 = .ok (.aload_n 0, 1) := by decide +kernel
theorem d103_57 : decode (pB 103) 57 = .ok (.getfield 7, 3) := by decide +kernel
theorem d103_60 : decode (pB 103) 60 = .ok (.iconst 5, 1) := by decide +kernel
theorem d103_61 : decode (pB 103) 61 = .ok (.iload_n 1, 1) := by decide +kernel
theorem d103_62 : decode (pB 103) 62 = .ok (.iadd, 1) := by decide +kernel
theorem d103_63 : decode (pB 103) 63 = .ok (.iaload, 1) := by decide +kernel
theorem d103_64 : decode (pB 103) 64 = .ok (.invokevirtual 62, 3) := by decide +kernel
theorem d103_67 : decode (pB 103) 67 = .ok (.iinc 1 1, 3) := by decide +kernel
theorem d103_70 : decode (pB 103) 70 = .ok (.goto (-25), 3) := by decide +kernel
theorem d103_73 : decode (pB 103) 73 = .ok (.return_, 1) := by decide +kernel
theorem st1_103_1 : p_st1 103 1 = true := by decide +kernel
/-- RX5.lays -/
def t103_0 : List (Nat × pO) := [(0, o_aload 0 1), (1, o_aload 0 2), (2, o_getR 5 1 5), (5, o_push (.int (nI 0)) 6), (6, o_iald 7), (7, o_putI 5 14 10), (10, o_push (.int (nI 0)) 11), (11, o_istore 1 12), (12, o_iload 1 13), (13, o_aload 0 14), (14, o_getI 5 14 17), (17, o_icge 43 20), (20, o_aload 0 21), (21, o_getR 5 13 24), (24, o_iload 1 25), (25, o_push (.int (nI 1)) 26), (26, o_iast 27), (27, o_aload 0 28), (28, o_getR 5 12 31), (31, o_push (.int (nI 16)) 33), (33, o_iload 1 34), (34, o_imul 35), (35, o_iload 1 36), (36, o_iast 37), (37, o_iinc 1 (nI 1) 40), (40, o_goto 12), (43, o_push (.int (nI 0)) 44), (44, o_istore 1 45), (45, o_iload 1 46), (46, o_aload 0 47), (47, o_getR 5 1 50), (50, o_push (.int (nI 4)) 51), (51, o_iald 52), (52, o_icge 73 55), (55, o_aload 0 56), (56, o_aload 0 57), (57, o_getR 5 1 60), (60, o_push (.int (nI 5)) 61), (61, o_iload 1 62), (62, o_iadd 63)]
theorem ok103_0 : ∀ q ∈ t103_0, p_Z 103 q := List.forall_mem_cons.mpr ⟨⟨s_aload_n d103_0 rfl, tl_aload _ _⟩, List.forall_mem_cons.mpr ⟨⟨s_aload_n d103_1 rfl, tl_aload _ _⟩, List.forall_mem_cons.mpr ⟨⟨f_getR_5_1 d103_2 wd_617, tl_getR _ _ _⟩, List.forall_mem_cons.mpr ⟨⟨s_iconst d103_5 rfl, tl_push _ _⟩, List.forall_mem_cons.mpr ⟨⟨s_iald d103_6, tl_iald _⟩, List.forall_mem_cons.mpr ⟨⟨f_putI_5_14 d103_7 wd_630, tl_putI _ _ _⟩, List.forall_mem_cons.mpr ⟨⟨s_iconst d103_10 rfl, tl_push _ _⟩, List.forall_mem_cons.mpr ⟨⟨s_istore_n d103_11 rfl st1_103_1, tl_istore _ _⟩, List.forall_mem_cons.mpr ⟨⟨s_iload_n d103_12 rfl, tl_iload _ _⟩, List.forall_mem_cons.mpr ⟨⟨s_aload_n d103_13 rfl, tl_aload _ _⟩, List.forall_mem_cons.mpr ⟨⟨f_getI_5_14 d103_14 wd_630, tl_getI _ _ _⟩, List.forall_mem_cons.mpr ⟨⟨s_icge d103_17 rfl, tl_icge _ _⟩, List.forall_mem_cons.mpr ⟨⟨s_aload_n d103_20 rfl, tl_aload _ _⟩, List.forall_mem_cons.mpr ⟨⟨f_getR_5_13 d103_21 wd_629, tl_getR _ _ _⟩, List.forall_mem_cons.mpr ⟨⟨s_iload_n d103_24 rfl, tl_iload _ _⟩, List.forall_mem_cons.mpr ⟨⟨s_iconst d103_25 rfl, tl_push _ _⟩, List.forall_mem_cons.mpr ⟨⟨s_iast d103_26, tl_iast _⟩, List.forall_mem_cons.mpr ⟨⟨s_aload_n d103_27 rfl, tl_aload _ _⟩, List.forall_mem_cons.mpr ⟨⟨f_getR_5_12 d103_28 wd_628, tl_getR _ _ _⟩, List.forall_mem_cons.mpr ⟨⟨s_bipush d103_31 rfl, tl_push _ _⟩, List.forall_mem_cons.mpr ⟨⟨s_iload_n d103_33 rfl, tl_iload _ _⟩, List.forall_mem_cons.mpr ⟨⟨s_imul d103_34, tl_imul _⟩, List.forall_mem_cons.mpr ⟨⟨s_iload_n d103_35 rfl, tl_iload _ _⟩, List.forall_mem_cons.mpr ⟨⟨s_iast d103_36, tl_iast _⟩, List.forall_mem_cons.mpr ⟨⟨s_iinc d103_37 rfl st1_103_1, tl_iinc _ _ _⟩, List.forall_mem_cons.mpr ⟨⟨s_goto d103_40 rfl, tl_goto _⟩, List.forall_mem_cons.mpr ⟨⟨s_iconst d103_43 rfl, tl_push _ _⟩, List.forall_mem_cons.mpr ⟨⟨s_istore_n d103_44 rfl st1_103_1, tl_istore _ _⟩, List.forall_mem_cons.mpr ⟨⟨s_iload_n d103_45 rfl, tl_iload _ _⟩, List.forall_mem_cons.mpr ⟨⟨s_aload_n d103_46 rfl, tl_aload _ _⟩, List.forall_mem_cons.mpr ⟨⟨f_getR_5_1 d103_47 wd_617, tl_getR _ _ _⟩, List.forall_mem_cons.mpr ⟨⟨s_iconst d103_50 rfl, tl_push _ _⟩, List.forall_mem_cons.mpr ⟨⟨s_iald d103_51, tl_iald _⟩, List.forall_mem_cons.mpr ⟨⟨s_icge d103_52 rfl, tl_icge _ _⟩, List.forall_mem_cons.mpr ⟨⟨s_aload_n d103_55 rfl, tl_aload _ _⟩, List.forall_mem_cons.mpr ⟨⟨s_aload_n d103_56 rfl, tl_aload _ _⟩, List.forall_mem_cons.mpr ⟨⟨f_getR_5_1 d103_57 wd_617, tl_getR _ _ _⟩, List.forall_mem_cons.mpr ⟨⟨s_iconst d103_60 rfl, tl_push _ _⟩, List.forall_mem_cons.mpr ⟨⟨s_iload_n d103_61 rfl, tl_iload _ _⟩, List.forall_mem_cons.mpr ⟨⟨s_iadd d103_62, tl_iadd _⟩, fun _ h => absurd h List.not_mem_nil⟩⟩⟩⟩⟩⟩⟩⟩⟩⟩⟩⟩⟩⟩⟩⟩⟩⟩⟩⟩⟩⟩⟩⟩⟩⟩⟩⟩⟩⟩⟩⟩⟩⟩⟩⟩⟩⟩⟩⟩
/-- RX5.lays -/
def t103_1 : List (Nat × pO) := [(63, o_iald 64), (64, o_invV 5 102 1 67), (67, o_iinc 1 (nI 1) 70), (70, o_goto 45), (73, o_vret)]
theorem ok103_1 : ∀ q ∈ t103_1, p_Z 103 q := List.forall_mem_cons.mpr ⟨⟨s_iald d103_63, tl_iald _⟩, List.forall_mem_cons.mpr ⟨⟨q_invV_102 d103_64 wd_762, tl_invV _ _ _ _⟩, List.forall_mem_cons.mpr ⟨⟨s_iinc d103_67 rfl st1_103_1, tl_iinc _ _ _⟩, List.forall_mem_cons.mpr ⟨⟨s_goto d103_70 rfl, tl_goto _⟩, List.forall_mem_cons.mpr ⟨⟨s_vret d103_73 rfl, tl_vret⟩, fun _ h => absurd h List.not_mem_nil⟩⟩⟩⟩⟩
def t103 : List (Nat × pO) := t103_0 ++ (t103_1)
theorem ok103 : ∀ q ∈ t103, p_Z 103 q := List.forall_mem_append.mpr ⟨ok103_0, ok103_1⟩
theorem d104_0 : decode (pB 104) 0 = .ok (.bipush (-6), 2) := by decide +kernel
theorem d104_2 : decode (pB 104) 2 = .ok (.istore_n 2, 1) := by decide +kernel
theorem d104_3 : decode (pB 104) 3 = .ok (.iconst 0, 1) := by decide +kernel
theorem d104_4 : decode (pB 104) 4 = .ok (.istore_n 3, 1) := by decide +kernel
theorem d104_5 : decode (pB 104) 5 = .ok (.iload_n 3, 1) := by decide +kernel
theorem d104_6 : decode (pB 104) 6 = .ok (.aload_n 0, 1) := by decide +kernel
theorem d104_7 : decode (pB 104) 7 = .ok (.getfield 55, 3) := by decide +kernel
theorem d104_10 : decode (pB 104) 10 = .ok (.if_icmp .ge 51, 3) := by decide +kernel
theorem d104_13 : decode (pB 104) 13 = .ok (.iconst 0, 1) := by decide +kernel
theorem d104_14 : decode (pB 104) 14 = .ok (.istore 4, 2) := by decide +kernel
theorem d104_16 : decode (pB 104) 16 = .ok (.iload 4, 2) := by decide +kernel
theorem d104_18 : decode (pB 104) 18 = .ok (.aload_n 0, 1) := by decide +kernel
theorem d104_19 : decode (pB 104) 19 = .ok (.getfield 32, 3) := by decide +kernel
theorem d104_22 : decode (pB 104) 22 = .ok (.iload_n 3, 1) := by decide +kernel
theorem d104_23 : decode (pB 104) 23 = .ok (.iaload, 1) := by decide +kernel
theorem d104_24 : decode (pB 104) 24 = .ok (.if_icmp .ge 31, 3) := by decide +kernel
theorem d104_27 : decode (pB 104) 27 = .ok (.aload_n 0, 1) := by decide +kernel
theorem d104_28 : decode (pB 104) 28 = .ok (.getfield 29, 3) := by decide +kernel
theorem d104_31 : decode (pB 104) 31 = .ok (.bipush 16, 2) := by decide +kernel
theorem d104_33 : decode (pB 104) 33 = .ok (.iload_n 3, 1) := by decide +kernel
theorem d104_34 : decode (pB 104) 34 = .ok (.imul, 1) := by decide +kernel
theorem d104_35 : decode (pB 104) 35 = .ok (.iload 4, 2) := by decide +kernel
theorem d104_37 : decode (pB 104) 37 = .ok (.iadd, 1) := by decide +kernel
theorem d104_38 : decode (pB 104) 38 = .ok (.iaload, 1) := by decide +kernel
theorem d104_39 : decode (pB 104) 39 = .ok (.iload_n 1, 1) := by decide +kernel
theorem d104_40 : decode (pB 104) 40 = .ok (.if_icmp .ne 7, 3) := by decide +kernel
theorem d104_43 : decode (pB 104) 43 = .ok (.iload_n 3, 1) := by decide +kernel
theorem d104_44 : decode (pB 104) 44 = .ok (.goto 4, 3) := by decide +kernel
theorem d104_47 : decode (pB 104) 47 = .ok (.iload_n 2, 1) := by decide +kernel
theorem d104_48 : decode (pB 104) 48 = .ok (.istore_n 2, 1) := by decide +kernel
theorem d104_49 : decode (pB 104) 49 = .ok (.iinc 4 1, 3) := by decide +kernel
theorem d104_52 : decode (pB 104) 52 = .ok (.goto (-36), 3) := by decide +kernel
theorem d104_55 : decode (pB 104) 55 = .ok (.iinc 3 1, 3) := by decide +kernel
theorem d104_58 : decode (pB 104) 58 = .ok (.goto (-53), 3) := by decide +kernel
theorem d104_61 : decode (pB 104) 61 = .ok (.iload_n 2, 1) := by decide +kernel
theorem d104_62 : decode (pB 104) 62 = .ok (.ireturn, 1) := by decide +kernel
theorem st1_104_2 : p_st1 104 2 = true := by decide +kernel
theorem st1_104_3 : p_st1 104 3 = true := by decide +kernel
theorem st1_104_4 : p_st1 104 4 = true := by decide +kernel
/-- RX5.columnOf -/
def t104_0 : List (Nat × pO) := [(0, o_push (.int (nM 6)) 2), (2, o_istore 2 3), (3, o_push (.int (nI 0)) 4), (4, o_istore 3 5), (5, o_iload 3 6), (6, o_aload 0 7), (7, o_getI 5 14 10), (10, o_icge 61 13), (13, o_push (.int (nI 0)) 14), (14, o_istore 4 16), (16, o_iload 4 18), (18, o_aload 0 19), (19, o_getR 5 13 22), (22, o_iload 3 23), (23, o_iald 24), (24, o_icge 55 27), (27, o_aload 0 28), (28, o_getR 5 12 31), (31, o_push (.int (nI 16)) 33), (33, o_iload 3 34), (34, o_imul 35), (35, o_iload 4 37), (37, o_iadd 38), (38, o_iald 39), (39, o_iload 1 40), (40, o_icne 47 43), (43, o_iload 3 44), (44, o_goto 48), (47, o_iload 2 48), (48, o_istore 2 49), (49, o_iinc 4 (nI 1) 52), (52, o_goto 16), (55, o_iinc 3 (nI 1) 58), (58, o_goto 5), (61, o_iload 2 62), (62, o_iret)]
theorem ok104_0 : ∀ q ∈ t104_0, p_Z 104 q := List.forall_mem_cons.mpr ⟨⟨s_bipush d104_0 rfl, tl_push _ _⟩, List.forall_mem_cons.mpr ⟨⟨s_istore_n d104_2 rfl st1_104_2, tl_istore _ _⟩, List.forall_mem_cons.mpr ⟨⟨s_iconst d104_3 rfl, tl_push _ _⟩, List.forall_mem_cons.mpr ⟨⟨s_istore_n d104_4 rfl st1_104_3, tl_istore _ _⟩, List.forall_mem_cons.mpr ⟨⟨s_iload_n d104_5 rfl, tl_iload _ _⟩, List.forall_mem_cons.mpr ⟨⟨s_aload_n d104_6 rfl, tl_aload _ _⟩, List.forall_mem_cons.mpr ⟨⟨f_getI_5_14 d104_7 wd_630, tl_getI _ _ _⟩, List.forall_mem_cons.mpr ⟨⟨s_icge d104_10 rfl, tl_icge _ _⟩, List.forall_mem_cons.mpr ⟨⟨s_iconst d104_13 rfl, tl_push _ _⟩, List.forall_mem_cons.mpr ⟨⟨s_istore d104_14 st1_104_4, tl_istore _ _⟩, List.forall_mem_cons.mpr ⟨⟨s_iload d104_16, tl_iload _ _⟩, List.forall_mem_cons.mpr ⟨⟨s_aload_n d104_18 rfl, tl_aload _ _⟩, List.forall_mem_cons.mpr ⟨⟨f_getR_5_13 d104_19 wd_629, tl_getR _ _ _⟩, List.forall_mem_cons.mpr ⟨⟨s_iload_n d104_22 rfl, tl_iload _ _⟩, List.forall_mem_cons.mpr ⟨⟨s_iald d104_23, tl_iald _⟩, List.forall_mem_cons.mpr ⟨⟨s_icge d104_24 rfl, tl_icge _ _⟩, List.forall_mem_cons.mpr ⟨⟨s_aload_n d104_27 rfl, tl_aload _ _⟩, List.forall_mem_cons.mpr ⟨⟨f_getR_5_12 d104_28 wd_628, tl_getR _ _ _⟩, List.forall_mem_cons.mpr ⟨⟨s_bipush d104_31 rfl, tl_push _ _⟩, List.forall_mem_cons.mpr ⟨⟨s_iload_n d104_33 rfl, tl_iload _ _⟩, List.forall_mem_cons.mpr ⟨⟨s_imul d104_34, tl_imul _⟩, List.forall_mem_cons.mpr ⟨⟨s_iload d104_35, tl_iload _ _⟩, List.forall_mem_cons.mpr ⟨⟨s_iadd d104_37, tl_iadd _⟩, List.forall_mem_cons.mpr ⟨⟨s_iald d104_38, tl_iald _⟩, List.forall_mem_cons.mpr ⟨⟨s_iload_n d104_39 rfl, tl_iload _ _⟩, List.forall_mem_cons.mpr ⟨⟨s_icne d104_40 rfl, tl_icne _ _⟩, List.forall_mem_cons.mpr ⟨⟨s_iload_n d104_43 rfl, tl_iload _ _⟩, List.forall_mem_cons.mpr ⟨⟨s_goto d104_44 rfl, tl_goto _⟩, List.forall_mem_cons.mpr ⟨⟨s_iload_n d104_47 rfl, tl_iload _ _⟩, List.forall_mem_cons.mpr ⟨⟨s_istore_n d104_48 rfl st1_104_2, tl_istore _ _⟩, List.forall_mem_cons.mpr ⟨⟨s_iinc d104_49 rfl st1_104_4, tl_iinc _ _ _⟩, List.forall_mem_cons.mpr ⟨⟨s_goto d104_52 rfl, tl_goto _⟩, List.forall_mem_cons.mpr ⟨⟨s_iinc d104_55 rfl st1_104_3, tl_iinc _ _ _⟩, List.forall_mem_cons.mpr ⟨⟨s_goto d104_58 rfl, tl_goto _⟩, List.forall_mem_cons.mpr ⟨⟨s_iload_n d104_61 rfl, tl_iload _ _⟩, List.forall_mem_cons.mpr ⟨⟨s_iret d104_62 rfl, tl_iret⟩, fun _ h => absurd h List.not_mem_nil⟩⟩⟩⟩⟩⟩⟩⟩⟩⟩⟩⟩⟩⟩⟩⟩⟩⟩⟩⟩⟩⟩⟩⟩⟩⟩⟩⟩⟩⟩⟩⟩⟩⟩⟩⟩
def t104 : List (Nat × pO) := t104_0
theorem ok104 : ∀ q ∈ t104, p_Z 104 q := ok104_0
theorem d105_0 : decode (pB 105) 0 = .ok (.aload_n 0, 1) := by decide +kernel
theorem d105_1 : decode (pB 105) 1 = .ok (.iload_n 1, 1) := by decide +kernel
theorem d105_2 : decode (pB 105) 2 = .ok (.invokevirtual 66, 3) := by decide +kernel
theorem d105_5 : decode (pB 105) 5 = .ok (.istore_n 2, 1) := by decide +kernel
theorem d105_6 : decode (pB 105) 6 = .ok (.iconst 0, 1) := by decide +kernel
theorem d105_7 : decode (pB 105) 7 = .ok (.istore_n 3, 1) := by decide +kernel
theorem d105_8 : decode (pB 105) 8 = .ok (.aload_n 0, 1) := by decide +kernel
theorem d105_9 : decode (pB 105) 9 = .ok (.getfield 29, 3) := by decide +kernel
theorem d105_12 : decode (pB 105) 12 = .ok (.bipush 16, 2) := by decide +kernel
theorem d105_14 : decode (pB 105) 14 = .ok (.iload_n 2, 1) := by decide +kernel
theorem d105_15 : decode (pB 105) 15 = .ok (.imul, 1) := by decide +kernel
theorem d105_16 : decode (pB 105) 16 = .ok (.iload_n 3, 1) := by decide +kernel
theorem d105_17 : decode (pB 105) 17 = .ok (.iadd, 1) := by decide +kernel
theorem d105_18 : decode (pB 105) 18 = .ok (.iaload, 1) := by decide +kernel
theorem d105_19 : decode (pB 105) 19 = .ok (.iload_n 1, 1) := by decide +kernel
theorem d105_20 : decode (pB 105) 20 = .ok (.if_icmp .eq 9, 3) := by decide +kernel
theorem d105_23 : decode (pB 105) 23 = .ok (.iinc 3 1, 3) := by decide +kernel
theorem d105_26 : decode (pB 105) 26 = .ok (.goto (-18), 3) := by decide +kernel
theorem d105_29 : decode (pB 105) 29 = .ok (.iload_n 3, 1) := by decide +kernel
theorem d105_30 : decode (pB 105) 30 = .ok (.ireturn, 1) := by decide +kernel
theorem st1_105_2 : p_st1 105 2 = true := by decide +kernel
theorem st1_105_3 : p_st1 105 3 = true := by decide +kernel
/-- RX5.rankOf -/
def t105_0 : List (Nat × pO) := [(0, o_aload 0 1), (1, o_iload 1 2), (2, o_invV 5 104 1 5), (5, o_istore 2 6), (6, o_push (.int (nI 0)) 7), (7, o_istore 3 8), (8, o_aload 0 9), (9, o_getR 5 12 12), (12, o_push (.int (nI 16)) 14), (14, o_iload 2 15), (15, o_imul 16), (16, o_iload 3 17), (17, o_iadd 18), (18, o_iald 19), (19, o_iload 1 20), (20, o_iceq 29 23), (23, o_iinc 3 (nI 1) 26), (26, o_goto 8), (29, o_iload 3 30), (30, o_iret)]
theorem ok105_0 : ∀ q ∈ t105_0, p_Z 105 q := List.forall_mem_cons.mpr ⟨⟨s_aload_n d105_0 rfl, tl_aload _ _⟩, List.forall_mem_cons.mpr ⟨⟨s_iload_n d105_1 rfl, tl_iload _ _⟩, List.forall_mem_cons.mpr ⟨⟨q_invV_104 d105_2 wd_778, tl_invV _ _ _ _⟩, List.forall_mem_cons.mpr ⟨⟨s_istore_n d105_5 rfl st1_105_2, tl_istore _ _⟩, List.forall_mem_cons.mpr ⟨⟨s_iconst d105_6 rfl, tl_push _ _⟩, List.forall_mem_cons.mpr ⟨⟨s_istore_n d105_7 rfl st1_105_3, tl_istore _ _⟩, List.forall_mem_cons.mpr ⟨⟨s_aload_n d105_8 rfl, tl_aload _ _⟩, List.forall_mem_cons.mpr ⟨⟨f_getR_5_12 d105_9 wd_628, tl_getR _ _ _⟩, List.forall_mem_cons.mpr ⟨⟨s_bipush d105_12 rfl, tl_push _ _⟩, List.forall_mem_cons.mpr ⟨⟨s_iload_n d105_14 rfl, tl_iload _ _⟩, List.forall_mem_cons.mpr ⟨⟨s_imul d105_15, tl_imul _⟩, List.forall_mem_cons.mpr ⟨⟨s_iload_n d105_16 rfl, tl_iload _ _⟩, List.forall_mem_cons.mpr ⟨⟨s_iadd d105_17, tl_iadd _⟩, List.forall_mem_cons.mpr ⟨⟨s_iald d105_18, tl_iald _⟩, List.forall_mem_cons.mpr ⟨⟨s_iload_n d105_19 rfl, tl_iload _ _⟩, List.forall_mem_cons.mpr ⟨⟨s_iceq d105_20 rfl, tl_iceq _ _⟩, List.forall_mem_cons.mpr ⟨⟨s_iinc d105_23 rfl st1_105_3, tl_iinc _ _ _⟩, List.forall_mem_cons.mpr ⟨⟨s_goto d105_26 rfl, tl_goto _⟩, List.forall_mem_cons.mpr ⟨⟨s_iload_n d105_29 rfl, tl_iload _ _⟩, List.forall_mem_cons.mpr ⟨⟨s_iret d105_30 rfl, tl_iret⟩, fun _ h => absurd h List.not_mem_nil⟩⟩⟩⟩⟩⟩⟩⟩⟩⟩⟩⟩⟩⟩⟩⟩⟩⟩⟩⟩
def t105 : List (Nat × pO) := t105_0
theorem ok105 : ∀ q ∈ t105, p_Z 105 q := ok105_0
theorem d106_0 : decode (pB 106) 0 = .ok (.aload_n 0, 1) := by decide +kernel
theorem d106_1 : decode (pB 106) 1 = .ok (.iload_n 1, 1) := by decide +kernel
theorem d106_2 : decode (pB 106) 2 = .ok (.invokevirtual 66, 3) := by decide +kernel
theorem d106_5 : decode (pB 106) 5 = .ok (.istore_n 3, 1) := by decide +kernel
theorem d106_6 : decode (pB 106) 6 = .ok (.aload_n 0, 1) := by decide +kernel
theorem d106_7 : decode (pB 106) 7 = .ok (.iload_n 1, 1) := by decide +kernel
theorem d106_8 : decode (pB 106) 8 = .ok (.invokevirtual 70, 3) := by decide +kernel
theorem d106_11 : decode (pB 106) 11 = .ok (.iload_n 2, 1) := by decide +kernel
theorem d106_12 : decode (pB 106) 12 = .ok (.iadd, 1) := by decide +kernel
theorem d106_13 : decode (pB 106) 13 = .ok (.istore 4, 2) := by decide +kernel
theorem d106_15 : decode (pB 106) 15 = .ok (.iload 4, 2) := by decide +kernel
theorem d106_17 : decode (pB 106) 17 = .ok (.iconst 0, 1) := by decide +kernel
theorem d106_18 : decode (pB 106) 18 = .ok (.aload_n 0, 1) := by decide +kernel
theorem d106_19 : decode (pB 106) 19 = .ok (.getfield 32, 3) := by decide +kernel
theorem d106_22 : decode (pB 106) 22 = .ok (.iload_n 3, 1) := by decide +kernel
theorem d106_23 : decode (pB 106) 23 = .ok (.iaload, 1) := by decide +kernel
theorem d106_24 : decode (pB 106) 24 = .ok (.iconst 1, 1) := by decide +kernel
theorem d106_25 : decode (pB 106) 25 = .ok (.isub, 1) := by decide +kernel
theorem d106_26 : decode (pB 106) 26 = .ok (.invokestatic 48, 3) := by decide +kernel
theorem d106_29 : decode (pB 106) 29 = .ok (.ifCond .eq 18, 3) := by decide +kernel
theorem d106_32 : decode (pB 106) 32 = .ok (.aload_n 0, 1) := by decide +kernel
theorem d106_33 : decode (pB 106) 33 = .ok (.getfield 29, 3) := by decide +kernel
theorem d106_36 : decode (pB 106) 36 = .ok (.bipush 16, 2) := by decide +kernel
theorem d106_38 : decode (pB 106) 38 = .ok (.iload_n 3, 1) := by decide +kernel
theorem d106_39 : decode (pB 106) 39 = .ok (.imul, 1) := by decide +kernel
theorem d106_40 : decode (pB 106) 40 = .ok (.iload 4, 2) := by decide +kernel
theorem d106_42 : decode (pB 106) 42 = .ok (.iadd, 1) := by decide +kernel
theorem d106_43 : decode (pB 106) 43 = .ok (.iaload, 1) := by decide +kernel
theorem d106_44 : decode (pB 106) 44 = .ok (.goto 5, 3) := by decide +kernel
theorem d106_47 : decode (pB 106) 47 = .ok (.bipush (-6), 2) := by decide +kernel
theorem d106_49 : decode (pB 106) 49 = .ok (.ireturn, 1) := by decide +kernel
theorem st1_106_3 : p_st1 106 3 = true := by decide +kernel
theorem st1_106_4 : p_st1 106 4 = true := by decide +kernel
/-- RX5.beside -/
def t106_0 : List (Nat × pO) := [(0, o_aload 0 1), (1, o_iload 1 2), (2, o_invV 5 104 1 5), (5, o_istore 3 6), (6, o_aload 0 7), (7, o_iload 1 8), (8, o_invV 5 105 1 11), (11, o_iload 2 12), (12, o_iadd 13), (13, o_istore 4 15), (15, o_iload 4 17), (17, o_push (.int (nI 0)) 18), (18, o_aload 0 19), (19, o_getR 5 13 22), (22, o_iload 3 23), (23, o_iald 24), (24, o_push (.int (nI 1)) 25), (25, o_isub 26), (26, o_invS 96 3 29), (29, o_ifeq 47 32), (32, o_aload 0 33), (33, o_getR 5 12 36), (36, o_push (.int (nI 16)) 38), (38, o_iload 3 39), (39, o_imul 40), (40, o_iload 4 42), (42, o_iadd 43), (43, o_iald 44), (44, o_goto 49), (47, o_push (.int (nM 6)) 49), (49, o_iret)]
theorem ok106_0 : ∀ q ∈ t106_0, p_Z 106 q := List.forall_mem_cons.mpr ⟨⟨s_aload_n d106_0 rfl, tl_aload _ _⟩, List.forall_mem_cons.mpr ⟨⟨s_iload_n d106_1 rfl, tl_iload _ _⟩, List.forall_mem_cons.mpr ⟨⟨q_invV_104 d106_2 wd_778, tl_invV _ _ _ _⟩, List.forall_mem_cons.mpr ⟨⟨s_istore_n d106_5 rfl st1_106_3, tl_istore _ _⟩, List.forall_mem_cons.mpr ⟨⟨s_aload_n d106_6 rfl, tl_aload _ _⟩, List.forall_mem_cons.mpr ⟨⟨s_iload_n d106_7 rfl, tl_iload _ _⟩, List.forall_mem_cons.mpr ⟨⟨q_invV_105 d106_8 wd_782, tl_invV _ _ _ _⟩, List.forall_mem_cons.mpr ⟨⟨s_iload_n d106_11 rfl, tl_iload _ _⟩, List.forall_mem_cons.mpr ⟨⟨s_iadd d106_12, tl_iadd _⟩, List.forall_mem_cons.mpr ⟨⟨s_istore d106_13 st1_106_4, tl_istore _ _⟩, List.forall_mem_cons.mpr ⟨⟨s_iload d106_15, tl_iload _ _⟩, List.forall_mem_cons.mpr ⟨⟨s_iconst d106_17 rfl, tl_push _ _⟩, List.forall_mem_cons.mpr ⟨⟨s_aload_n d106_18 rfl, tl_aload _ _⟩, List.forall_mem_cons.mpr ⟨⟨f_getR_5_13 d106_19 wd_629, tl_getR _ _ _⟩, List.forall_mem_cons.mpr ⟨⟨s_iload_n d106_22 rfl, tl_iload _ _⟩, List.forall_mem_cons.mpr ⟨⟨s_iald d106_23, tl_iald _⟩, List.forall_mem_cons.mpr ⟨⟨s_iconst d106_24 rfl, tl_push _ _⟩, List.forall_mem_cons.mpr ⟨⟨s_isub d106_25, tl_isub _⟩, List.forall_mem_cons.mpr ⟨⟨q_invS_96 d106_26 wd_675, tl_invS _ _ _⟩, List.forall_mem_cons.mpr ⟨⟨s_ifeq d106_29 rfl, tl_ifeq _ _⟩, List.forall_mem_cons.mpr ⟨⟨s_aload_n d106_32 rfl, tl_aload _ _⟩, List.forall_mem_cons.mpr ⟨⟨f_getR_5_12 d106_33 wd_628, tl_getR _ _ _⟩, List.forall_mem_cons.mpr ⟨⟨s_bipush d106_36 rfl, tl_push _ _⟩, List.forall_mem_cons.mpr ⟨⟨s_iload_n d106_38 rfl, tl_iload _ _⟩, List.forall_mem_cons.mpr ⟨⟨s_imul d106_39, tl_imul _⟩, List.forall_mem_cons.mpr ⟨⟨s_iload d106_40, tl_iload _ _⟩, List.forall_mem_cons.mpr ⟨⟨s_iadd d106_42, tl_iadd _⟩, List.forall_mem_cons.mpr ⟨⟨s_iald d106_43, tl_iald _⟩, List.forall_mem_cons.mpr ⟨⟨s_goto d106_44 rfl, tl_goto _⟩, List.forall_mem_cons.mpr ⟨⟨s_bipush d106_47 rfl, tl_push _ _⟩, List.forall_mem_cons.mpr ⟨⟨s_iret d106_49 rfl, tl_iret⟩, fun _ h => absurd h List.not_mem_nil⟩⟩⟩⟩⟩⟩⟩⟩⟩⟩⟩⟩⟩⟩⟩⟩⟩⟩⟩⟩⟩⟩⟩⟩⟩⟩⟩⟩⟩⟩⟩
def t106 : List (Nat × pO) := t106_0
theorem ok106 : ∀ q ∈ t106, p_Z 106 q := ok106_0
theorem d107_0 : decode (pB 107) 0 = .ok (.bipush (-6), 2) := by decide +kernel
theorem d107_2 : decode (pB 107) 2 = .ok (.istore_n 2, 1) := by decide +kernel
theorem d107_3 : decode (pB 107) 3 = .ok (.iconst 0, 1) := by decide +kernel
theorem d107_4 : decode (pB 107) 4 = .ok (.istore_n 3, 1) := by decide +kernel
theorem d107_5 : decode (pB 107) 5 = .ok (.iload_n 3, 1) := by decide +kernel
theorem d107_6 : decode (pB 107) 6 = .ok (.aload_n 0, 1) := by decide +kernel
theorem d107_7 : decode (pB 107) 7 = .ok (.getfield 7, 3) := by decide +kernel
theorem d107_10 : decode (pB 107) 10 = .ok (.iconst 3, 1) := by decide +kernel
theorem d107_11 : decode (pB 107) 11 = .ok (.iaload, 1) := by decide +kernel
theorem d107_12 : decode (pB 107) 12 = .ok (.if_icmp .ge 34, 3) := by decide +kernel
theorem d107_15 : decode (pB 107) 15 = .ok (.iload_n 1, 1) := by decide +kernel
theorem d107_16 : decode (pB 107) 16 = .ok (.bipush (-6), 2) := by decide +kernel
theorem d107_18 : decode (pB 107) 18 = .ok (.if_icmp .eq 20, 3) := by decide +kernel
theorem d107_21 : decode (pB 107) 21 = .ok (.aload_n 0, 1) := by decide +kernel
theorem d107_22 : decode (pB 107) 22 = .ok (.getfield 7, 3) := by decide +kernel
theorem d107_25 : decode (pB 107) 25 = .ok (.bipush 10, 2) := by decide +kernel
theorem d107_27 : decode (pB 107) 27 = .ok (.iload_n 3, 1) := by decide +kernel
theorem d107_28 : decode (pB 107) 28 = .ok (.iadd, 1) := by decide +kernel
theorem d107_29 : decode (pB 107) 29 = .ok (.iaload, 1) := by decide +kernel
theorem d107_30 : decode (pB 107) 30 = .ok (.iload_n 1, 1) := by decide +kernel
theorem d107_31 : decode (pB 107) 31 = .ok (.if_icmp .ne 7, 3) := by decide +kernel
theorem d107_34 : decode (pB 107) 34 = .ok (.iload_n 3, 1) := by decide +kernel
theorem d107_35 : decode (pB 107) 35 = .ok (.goto 4, 3) := by decide +kernel
theorem d107_38 : decode (pB 107) 38 = .ok (.iload_n 2, 1) := by decide +kernel
theorem d107_39 : decode (pB 107) 39 = .ok (.istore_n 2, 1) := by decide +kernel
theorem d107_40 : decode (pB 107) 40 = .ok (.iinc 3 1, 3) := by decide +kernel
theorem d107_43 : decode (pB 107) 43 = .ok (.goto (-38), 3) := by decide +kernel
theorem d107_46 : decode (pB 107) 46 = .ok (.iload_n 2, 1) := by decide +kernel
theorem d107_47 : decode (pB 107) 47 = .ok (.ireturn, 1) := by decide +kernel
theorem st1_107_2 : p_st1 107 2 = true := by decide +kernel
theorem st1_107_3 : p_st1 107 3 = true := by decide +kernel
/-- RX5.sitter -/
def t107_0 : List (Nat × pO) := [(0, o_push (.int (nM 6)) 2), (2, o_istore 2 3), (3, o_push (.int (nI 0)) 4), (4, o_istore 3 5), (5, o_iload 3 6), (6, o_aload 0 7), (7, o_getR 5 1 10), (10, o_push (.int (nI 3)) 11), (11, o_iald 12), (12, o_icge 46 15), (15, o_iload 1 16), (16, o_push (.int (nM 6)) 18), (18, o_iceq 38 21), (21, o_aload 0 22), (22, o_getR 5 1 25), (25, o_push (.int (nI 10)) 27), (27, o_iload 3 28), (28, o_iadd 29), (29, o_iald 30), (30, o_iload 1 31), (31, o_icne 38 34), (34, o_iload 3 35), (35, o_goto 39), (38, o_iload 2 39), (39, o_istore 2 40), (40, o_iinc 3 (nI 1) 43), (43, o_goto 5), (46, o_iload 2 47), (47, o_iret)]
theorem ok107_0 : ∀ q ∈ t107_0, p_Z 107 q := List.forall_mem_cons.mpr ⟨⟨s_bipush d107_0 rfl, tl_push _ _⟩, List.forall_mem_cons.mpr ⟨⟨s_istore_n d107_2 rfl st1_107_2, tl_istore _ _⟩, List.forall_mem_cons.mpr ⟨⟨s_iconst d107_3 rfl, tl_push _ _⟩, List.forall_mem_cons.mpr ⟨⟨s_istore_n d107_4 rfl st1_107_3, tl_istore _ _⟩, List.forall_mem_cons.mpr ⟨⟨s_iload_n d107_5 rfl, tl_iload _ _⟩, List.forall_mem_cons.mpr ⟨⟨s_aload_n d107_6 rfl, tl_aload _ _⟩, List.forall_mem_cons.mpr ⟨⟨f_getR_5_1 d107_7 wd_617, tl_getR _ _ _⟩, List.forall_mem_cons.mpr ⟨⟨s_iconst d107_10 rfl, tl_push _ _⟩, List.forall_mem_cons.mpr ⟨⟨s_iald d107_11, tl_iald _⟩, List.forall_mem_cons.mpr ⟨⟨s_icge d107_12 rfl, tl_icge _ _⟩, List.forall_mem_cons.mpr ⟨⟨s_iload_n d107_15 rfl, tl_iload _ _⟩, List.forall_mem_cons.mpr ⟨⟨s_bipush d107_16 rfl, tl_push _ _⟩, List.forall_mem_cons.mpr ⟨⟨s_iceq d107_18 rfl, tl_iceq _ _⟩, List.forall_mem_cons.mpr ⟨⟨s_aload_n d107_21 rfl, tl_aload _ _⟩, List.forall_mem_cons.mpr ⟨⟨f_getR_5_1 d107_22 wd_617, tl_getR _ _ _⟩, List.forall_mem_cons.mpr ⟨⟨s_bipush d107_25 rfl, tl_push _ _⟩, List.forall_mem_cons.mpr ⟨⟨s_iload_n d107_27 rfl, tl_iload _ _⟩, List.forall_mem_cons.mpr ⟨⟨s_iadd d107_28, tl_iadd _⟩, List.forall_mem_cons.mpr ⟨⟨s_iald d107_29, tl_iald _⟩, List.forall_mem_cons.mpr ⟨⟨s_iload_n d107_30 rfl, tl_iload _ _⟩, List.forall_mem_cons.mpr ⟨⟨s_icne d107_31 rfl, tl_icne _ _⟩, List.forall_mem_cons.mpr ⟨⟨s_iload_n d107_34 rfl, tl_iload _ _⟩, List.forall_mem_cons.mpr ⟨⟨s_goto d107_35 rfl, tl_goto _⟩, List.forall_mem_cons.mpr ⟨⟨s_iload_n d107_38 rfl, tl_iload _ _⟩, List.forall_mem_cons.mpr ⟨⟨s_istore_n d107_39 rfl st1_107_2, tl_istore _ _⟩, List.forall_mem_cons.mpr ⟨⟨s_iinc d107_40 rfl st1_107_3, tl_iinc _ _ _⟩, List.forall_mem_cons.mpr ⟨⟨s_goto d107_43 rfl, tl_goto _⟩, List.forall_mem_cons.mpr ⟨⟨s_iload_n d107_46 rfl, tl_iload _ _⟩, List.forall_mem_cons.mpr ⟨⟨s_iret d107_47 rfl, tl_iret⟩, fun _ h => absurd h List.not_mem_nil⟩⟩⟩⟩⟩⟩⟩⟩⟩⟩⟩⟩⟩⟩⟩⟩⟩⟩⟩⟩⟩⟩⟩⟩⟩⟩⟩⟩⟩
def t107 : List (Nat × pO) := t107_0
theorem ok107 : ∀ q ∈ t107, p_Z 107 q := ok107_0
theorem d108_0 : decode (pB 108) 0 = .ok (.iconst 0, 1) := by decide +kernel
theorem d108_1 : decode (pB 108) 1 = .ok (.istore_n 2, 1) := by decide +kernel
theorem d108_2 : decode (pB 108) 2 = .ok (.iconst 0, 1) := by decide +kernel
theorem d108_3 : decode (pB 108) 3 = .ok (.istore_n 3, 1) := by decide +kernel
theorem d108_4 : decode (pB 108) 4 = .ok (.iload_n 3, 1) := by decide +kernel
theorem d108_5 : decode (pB 108) 5 = .ok (.aload_n 0, 1) := by decide +kernel
theorem d108_6 : decode (pB 108) 6 = .ok (.getfield 7, 3) := by decide +kernel
theorem d108_9 : decode (pB 108) 9 = .ok (.iconst 3, 1) := by decide +kernel
theorem d108_10 : decode (pB 108) 10 = .ok (.iaload, 1) := by decide +kernel
theorem d108_11 : decode (pB 108) 11 = .ok (.if_icmp .ge 74, 3) := by decide +kernel
theorem d108_14 : decode (pB 108) 14 = .ok (.aload_n 0, 1) := by decide +kernel
theorem d108_15 : decode (pB 108) 15 = .ok (.getfield 7, 3) := by decide +kernel
theorem d108_18 : decode (pB 108) 18 = .ok (.bipush 10, 2) := by decide +kernel
theorem d108_20 : decode (pB 108) 20 = .ok (.iload_n 3, 1) := by decide +kernel
theorem d108_21 : decode (pB 108) 21 = .ok (.iadd, 1) := by decide +kernel
theorem d108_22 : decode (pB 108) 22 = .ok (.iaload, 1) := by decide +kernel
theorem d108_23 : decode (pB 108) 23 = .ok (.bipush (-6), 2) := by decide +kernel
theorem d108_25 : decode (pB 108) 25 = .ok (.if_icmp .ne 8, 3) := by decide +kernel
theorem d108_28 : decode (pB 108) 28 = .ok (.bipush (-6), 2) := by decide +kernel
theorem d108_30 : decode (pB 108) 30 = .ok (.goto 21, 3) := by decide +kernel
theorem d108_33 : decode (pB 108) 33 = .ok (.aload_n 0, 1) := by decide +kernel
theorem d108_34 : decode (pB 108) 34 = .ok (.aload_n 0, 1) := by decide +kernel
theorem d108_35 : decode (pB 108) 35 = .ok (.aload_n 0, 1) := by decide +kernel
theorem d108_36 : decode (pB 108) 36 = .ok (.getfield 7, 3) := by decide +kernel
theorem d108_39 : decode (pB 108) 39 = .ok (.bipush 10, 2) := by decide +kernel
theorem d108_41 : decode (pB 108) 41 = .ok (.iload_n 3, 1) := by decide +kernel
theorem d108_42 : decode (pB 108) 42 = .ok (.iadd, 1) := by decide +kernel
theorem d108_43 : decode (pB 108) 43 = .ok (.iaload, 1) := by decide +kernel
theorem d108_44 : decode (pB 108) 44 = .ok (.iconst 1, 1) := by decide +kernel
theorem d108_45 : decode (pB 108) 45 = .ok (.invokevirtual 73, 3) := by decide +kernel
theorem d108_48 : decode (pB 108) 48 = .ok (.invokevirtual 77, 3) := by decide +kernel
theorem d108_51 : decode (pB 108) 51 = .ok (.istore 4, 2) := by decide +kernel
theorem d108_53 : decode (pB 108) 53 = .ok (.iload_n 2, 1) := by decide +kernel
theorem d108_54 : decode (pB 108) 54 = .ok (.iload 4, 2) := by decide +kernel
theorem d108_56 : decode (pB 108) 56 = .ok (.bipush (-6), 2) := by decide +kernel
theorem d108_58 : decode (pB 108) 58 = .ok (.if_icmp .eq 18, 3) := by decide +kernel
theorem d108_61 : decode (pB 108) 61 = .ok (.aload_n 0, 1) := by decide +kernel
theorem d108_62 : decode (pB 108) 62 = .ok (.iload_n 3, 1) := by decide +kernel
theorem d108_63 : decode (pB 108) 63 = .ok (.iload 4, 2) := by decide +kernel
theorem d108_65 : decode (pB 108) 65 = .ok (.invokevirtual 80, 3) := by decide +kernel
theorem d108_68 : decode (pB 108) 68 = .ok (.iload_n 1, 1) := by decide +kernel
theorem d108_69 : decode (pB 108) 69 = .ok (.if_icmp .ne 7, 3) := by decide +kernel
theorem d108_72 : decode (pB 108) 72 = .ok (.iconst 1, 1) := by decide +kernel
theorem d108_73 : decode (pB 108) 73 = .ok (.goto 4, 3) := by decide +kernel
theorem d108_76 : decode (pB 108) 76 = .ok (.iconst 0, 1) := by decide +kernel
theorem d108_77 : decode (pB 108) 77 = .ok (.iadd, 1) := by decide +kernel
theorem d108_78 : decode (pB 108) 78 = .ok (.istore_n 2, 1) := by decide +kernel
theorem d108_79 : decode (pB 108) 79 = .ok (.iinc 3 1, 3) := by decide +kernel
theorem d108_82 : decode (pB 108) 82 = .ok (.goto (-78), 3) := by decide +kernel
theorem d108_85 : decode (pB 108) 85 = .ok (.iload_n 2, 1) := by decide +kernel
theorem d108_86 : decode (pB 108) 86 = .ok (.ireturn, 1) := by decide +kernel
theorem st1_108_2 : p_st1 108 2 = true := by decide +kernel
theorem st1_108_3 : p_st1 108 3 = true := by decide +kernel
theorem st1_108_4 : p_st1 108 4 = true := by decide +kernel
/-- RX5.pairs -/
def t108_0 : List (Nat × pO) := [(0, o_push (.int (nI 0)) 1), (1, o_istore 2 2), (2, o_push (.int (nI 0)) 3), (3, o_istore 3 4), (4, o_iload 3 5), (5, o_aload 0 6), (6, o_getR 5 1 9), (9, o_push (.int (nI 3)) 10), (10, o_iald 11), (11, o_icge 85 14), (14, o_aload 0 15), (15, o_getR 5 1 18), (18, o_push (.int (nI 10)) 20), (20, o_iload 3 21), (21, o_iadd 22), (22, o_iald 23), (23, o_push (.int (nM 6)) 25), (25, o_icne 33 28), (28, o_push (.int (nM 6)) 30), (30, o_goto 51), (33, o_aload 0 34), (34, o_aload 0 35), (35, o_aload 0 36), (36, o_getR 5 1 39), (39, o_push (.int (nI 10)) 41), (41, o_iload 3 42), (42, o_iadd 43), (43, o_iald 44), (44, o_push (.int (nI 1)) 45), (45, o_invV 5 106 2 48), (48, o_invV 5 107 1 51), (51, o_istore 4 53), (53, o_iload 2 54), (54, o_iload 4 56), (56, o_push (.int (nM 6)) 58), (58, o_iceq 76 61), (61, o_aload 0 62), (62, o_iload 3 63), (63, o_iload 4 65), (65, o_invV 5 99 2 68)]
theorem ok108_0 : ∀ q ∈ t108_0, p_Z 108 q := List.forall_mem_cons.mpr ⟨⟨s_iconst d108_0 rfl, tl_push _ _⟩, List.forall_mem_cons.mpr ⟨⟨s_istore_n d108_1 rfl st1_108_2, tl_istore _ _⟩, List.forall_mem_cons.mpr ⟨⟨s_iconst d108_2 rfl, tl_push _ _⟩, List.forall_mem_cons.mpr ⟨⟨s_istore_n d108_3 rfl st1_108_3, tl_istore _ _⟩, List.forall_mem_cons.mpr ⟨⟨s_iload_n d108_4 rfl, tl_iload _ _⟩, List.forall_mem_cons.mpr ⟨⟨s_aload_n d108_5 rfl, tl_aload _ _⟩, List.forall_mem_cons.mpr ⟨⟨f_getR_5_1 d108_6 wd_617, tl_getR _ _ _⟩, List.forall_mem_cons.mpr ⟨⟨s_iconst d108_9 rfl, tl_push _ _⟩, List.forall_mem_cons.mpr ⟨⟨s_iald d108_10, tl_iald _⟩, List.forall_mem_cons.mpr ⟨⟨s_icge d108_11 rfl, tl_icge _ _⟩, List.forall_mem_cons.mpr ⟨⟨s_aload_n d108_14 rfl, tl_aload _ _⟩, List.forall_mem_cons.mpr ⟨⟨f_getR_5_1 d108_15 wd_617, tl_getR _ _ _⟩, List.forall_mem_cons.mpr ⟨⟨s_bipush d108_18 rfl, tl_push _ _⟩, List.forall_mem_cons.mpr ⟨⟨s_iload_n d108_20 rfl, tl_iload _ _⟩, List.forall_mem_cons.mpr ⟨⟨s_iadd d108_21, tl_iadd _⟩, List.forall_mem_cons.mpr ⟨⟨s_iald d108_22, tl_iald _⟩, List.forall_mem_cons.mpr ⟨⟨s_bipush d108_23 rfl, tl_push _ _⟩, List.forall_mem_cons.mpr ⟨⟨s_icne d108_25 rfl, tl_icne _ _⟩, List.forall_mem_cons.mpr ⟨⟨s_bipush d108_28 rfl, tl_push _ _⟩, List.forall_mem_cons.mpr ⟨⟨s_goto d108_30 rfl, tl_goto _⟩, List.forall_mem_cons.mpr ⟨⟨s_aload_n d108_33 rfl, tl_aload _ _⟩, List.forall_mem_cons.mpr ⟨⟨s_aload_n d108_34 rfl, tl_aload _ _⟩, List.forall_mem_cons.mpr ⟨⟨s_aload_n d108_35 rfl, tl_aload _ _⟩, List.forall_mem_cons.mpr ⟨⟨f_getR_5_1 d108_36 wd_617, tl_getR _ _ _⟩, List.forall_mem_cons.mpr ⟨⟨s_bipush d108_39 rfl, tl_push _ _⟩, List.forall_mem_cons.mpr ⟨⟨s_iload_n d108_41 rfl, tl_iload _ _⟩, List.forall_mem_cons.mpr ⟨⟨s_iadd d108_42, tl_iadd _⟩, List.forall_mem_cons.mpr ⟨⟨s_iald d108_43, tl_iald _⟩, List.forall_mem_cons.mpr ⟨⟨s_iconst d108_44 rfl, tl_push _ _⟩, List.forall_mem_cons.mpr ⟨⟨q_invV_106 d108_45 wd_774, tl_invV _ _ _ _⟩, List.forall_mem_cons.mpr ⟨⟨q_invV_107 d108_48 wd_710, tl_invV _ _ _ _⟩, List.forall_mem_cons.mpr ⟨⟨s_istore d108_51 st1_108_4, tl_istore _ _⟩, List.forall_mem_cons.mpr ⟨⟨s_iload_n d108_53 rfl, tl_iload _ _⟩, List.forall_mem_cons.mpr ⟨⟨s_iload d108_54, tl_iload _ _⟩, List.forall_mem_cons.mpr ⟨⟨s_bipush d108_56 rfl, tl_push _ _⟩, List.forall_mem_cons.mpr ⟨⟨s_iceq d108_58 rfl, tl_iceq _ _⟩, List.forall_mem_cons.mpr ⟨⟨s_aload_n d108_61 rfl, tl_aload _ _⟩, List.forall_mem_cons.mpr ⟨⟨s_iload_n d108_62 rfl, tl_iload _ _⟩, List.forall_mem_cons.mpr ⟨⟨s_iload d108_63, tl_iload _ _⟩, List.forall_mem_cons.mpr ⟨⟨q_invV_99 d108_65 wd_742, tl_invV _ _ _ _⟩, fun _ h => absurd h List.not_mem_nil⟩⟩⟩⟩⟩⟩⟩⟩⟩⟩⟩⟩⟩⟩⟩⟩⟩⟩⟩⟩⟩⟩⟩⟩⟩⟩⟩⟩⟩⟩⟩⟩⟩⟩⟩⟩⟩⟩⟩⟩
/-- RX5.pairs -/
def t108_1 : List (Nat × pO) := [(68, o_iload 1 69), (69, o_icne 76 72), (72, o_push (.int (nI 1)) 73), (73, o_goto 77), (76, o_push (.int (nI 0)) 77), (77, o_iadd 78), (78, o_istore 2 79), (79, o_iinc 3 (nI 1) 82), (82, o_goto 4), (85, o_iload 2 86), (86, o_iret)]
theorem ok108_1 : ∀ q ∈ t108_1, p_Z 108 q := List.forall_mem_cons.mpr ⟨⟨s_iload_n d108_68 rfl, tl_iload _ _⟩, List.forall_mem_cons.mpr ⟨⟨s_icne d108_69 rfl, tl_icne _ _⟩, List.forall_mem_cons.mpr ⟨⟨s_iconst d108_72 rfl, tl_push _ _⟩, List.forall_mem_cons.mpr ⟨⟨s_goto d108_73 rfl, tl_goto _⟩, List.forall_mem_cons.mpr ⟨⟨s_iconst d108_76 rfl, tl_push _ _⟩, List.forall_mem_cons.mpr ⟨⟨s_iadd d108_77, tl_iadd _⟩, List.forall_mem_cons.mpr ⟨⟨s_istore_n d108_78 rfl st1_108_2, tl_istore _ _⟩, List.forall_mem_cons.mpr ⟨⟨s_iinc d108_79 rfl st1_108_3, tl_iinc _ _ _⟩, List.forall_mem_cons.mpr ⟨⟨s_goto d108_82 rfl, tl_goto _⟩, List.forall_mem_cons.mpr ⟨⟨s_iload_n d108_85 rfl, tl_iload _ _⟩, List.forall_mem_cons.mpr ⟨⟨s_iret d108_86 rfl, tl_iret⟩, fun _ h => absurd h List.not_mem_nil⟩⟩⟩⟩⟩⟩⟩⟩⟩⟩⟩
def t108 : List (Nat × pO) := t108_0 ++ (t108_1)
theorem ok108 : ∀ q ∈ t108, p_Z 108 q := List.forall_mem_append.mpr ⟨ok108_0, ok108_1⟩
theorem d109_0 : decode (pB 109) 0 = .ok (.iload_n 2, 1) := by decide +kernel
theorem d109_1 : decode (pB 109) 1 = .ok (.bipush (-6), 2) := by decide +kernel
theorem d109_3 : decode (pB 109) 3 = .ok (.if_icmp .ne 7, 3) := by decide +kernel
theorem d109_6 : decode (pB 109) 6 = .ok (.iconst 0, 1) := by decide +kernel
theorem d109_7 : decode (pB 109) 7 = .ok (.goto 9, 3) := by decide +kernel
theorem d109_10 : decode (pB 109) 10 = .ok (.aload_n 0, 1) := by decide +kernel
theorem d109_11 : decode (pB 109) 11 = .ok (.iload_n 1, 1) := by decide +kernel
theorem d109_12 : decode (pB 109) 12 = .ok (.iload_n 2, 1) := by decide +kernel
theorem d109_13 : decode (pB 109) 13 = .ok (.invokevirtual 80, 3) := by decide +kernel
theorem d109_16 : decode (pB 109) 16 = .ok (.ireturn, 1) := by decide +kernel
/-- RX5.by -/
def t109_0 : List (Nat × pO) := [(0, o_iload 2 1), (1, o_push (.int (nM 6)) 3), (3, o_icne 10 6), (6, o_push (.int (nI 0)) 7), (7, o_goto 16), (10, o_aload 0 11), (11, o_iload 1 12), (12, o_iload 2 13), (13, o_invV 5 99 2 16), (16, o_iret)]
theorem ok109_0 : ∀ q ∈ t109_0, p_Z 109 q := List.forall_mem_cons.mpr ⟨⟨s_iload_n d109_0 rfl, tl_iload _ _⟩, List.forall_mem_cons.mpr ⟨⟨s_bipush d109_1 rfl, tl_push _ _⟩, List.forall_mem_cons.mpr ⟨⟨s_icne d109_3 rfl, tl_icne _ _⟩, List.forall_mem_cons.mpr ⟨⟨s_iconst d109_6 rfl, tl_push _ _⟩, List.forall_mem_cons.mpr ⟨⟨s_goto d109_7 rfl, tl_goto _⟩, List.forall_mem_cons.mpr ⟨⟨s_aload_n d109_10 rfl, tl_aload _ _⟩, List.forall_mem_cons.mpr ⟨⟨s_iload_n d109_11 rfl, tl_iload _ _⟩, List.forall_mem_cons.mpr ⟨⟨s_iload_n d109_12 rfl, tl_iload _ _⟩, List.forall_mem_cons.mpr ⟨⟨q_invV_99 d109_13 wd_742, tl_invV _ _ _ _⟩, List.forall_mem_cons.mpr ⟨⟨s_iret d109_16 rfl, tl_iret⟩, fun _ h => absurd h List.not_mem_nil⟩⟩⟩⟩⟩⟩⟩⟩⟩⟩
def t109 : List (Nat × pO) := t109_0
theorem ok109 : ∀ q ∈ t109, p_Z 109 q := ok109_0
theorem d110_0 : decode (pB 110) 0 = .ok (.aload_n 0, 1) := by decide +kernel
theorem d110_1 : decode (pB 110) 1 = .ok (.getfield 7, 3) := by decide +kernel
theorem d110_4 : decode (pB 110) 4 = .ok (.bipush 10, 2) := by decide +kernel
theorem d110_6 : decode (pB 110) 6 = .ok (.iload_n 1, 1) := by decide +kernel
theorem d110_7 : decode (pB 110) 7 = .ok (.iadd, 1) := by decide +kernel
theorem d110_8 : decode (pB 110) 8 = .ok (.iaload, 1) := by decide +kernel
theorem d110_9 : decode (pB 110) 9 = .ok (.istore_n 2, 1) := by decide +kernel
theorem d110_10 : decode (pB 110) 10 = .ok (.iload_n 2, 1) := by decide +kernel
theorem d110_11 : decode (pB 110) 11 = .ok (.bipush (-6), 2) := by decide +kernel
theorem d110_13 : decode (pB 110) 13 = .ok (.if_icmp .ne 6, 3) := by decide +kernel
theorem d110_16 : decode (pB 110) 16 = .ok (.bipush (-6), 2) := by decide +kernel
theorem d110_18 : decode (pB 110) 18 = .ok (.ireturn, 1) := by decide +kernel
theorem d110_19 : decode (pB 110) 19 = .ok (.aload_n 0, 1) := by decide +kernel
theorem d110_20 : decode (pB 110) 20 = .ok (.iload_n 1, 1) := by decide +kernel
theorem d110_21 : decode (pB 110) 21 = .ok (.aload_n 0, 1) := by decide +kernel
theorem d110_22 : decode (pB 110) 22 = .ok (.iload_n 2, 1) := by decide +kernel
theorem d110_23 : decode (pB 110) 23 = .ok (.iconst 1, 1) := by decide +kernel
theorem d110_24 : decode (pB 110) 24 = .ok (.isub, 1) := by decide +kernel
theorem d110_25 : decode (pB 110) 25 = .ok (.invokevirtual 77, 3) := by decide +kernel
theorem d110_28 : decode (pB 110) 28 = .ok (.invokevirtual 83, 3) := by decide +kernel
theorem d110_31 : decode (pB 110) 31 = .ok (.aload_n 0, 1) := by decide +kernel
theorem d110_32 : decode (pB 110) 32 = .ok (.iload_n 1, 1) := by decide +kernel
theorem d110_33 : decode (pB 110) 33 = .ok (.aload_n 0, 1) := by decide +kernel
theorem d110_34 : decode (pB 110) 34 = .ok (.iload_n 2, 1) := by decide +kernel
theorem d110_35 : decode (pB 110) 35 = .ok (.iconst 1, 1) := by decide +kernel
theorem d110_36 : decode (pB 110) 36 = .ok (.iadd, 1) := by decide +kernel
theorem d110_37 : decode (pB 110) 37 = .ok (.invokevirtual 77, 3) := by decide +kernel
theorem d110_40 : decode (pB 110) 40 = .ok (.invokevirtual 83, 3) := by decide +kernel
theorem d110_43 : decode (pB 110) 43 = .ok (.iadd, 1) := by decide +kernel
theorem d110_44 : decode (pB 110) 44 = .ok (.istore_n 3, 1) := by decide +kernel
theorem d110_45 : decode (pB 110) 45 = .ok (.aload_n 0, 1) := by decide +kernel
theorem d110_46 : decode (pB 110) 46 = .ok (.iload_n 1, 1) := by decide +kernel
theorem d110_47 : decode (pB 110) 47 = .ok (.aload_n 0, 1) := by decide +kernel
theorem d110_48 : decode (pB 110) 48 = .ok (.aload_n 0, 1) := by decide +kernel
theorem d110_49 : decode (pB 110) 49 = .ok (.iload_n 2, 1) := by decide +kernel
theorem d110_50 : decode (pB 110) 50 = .ok (.iconst (-1), 1) := by decide +kernel
theorem d110_51 : decode (pB 110) 51 = .ok (.invokevirtual 73, 3) := by decide +kernel
theorem d110_54 : decode (pB 110) 54 = .ok (.invokevirtual 77, 3) := by decide +kernel
theorem d110_57 : decode (pB 110) 57 = .ok (.invokevirtual 83, 3) := by decide +kernel
theorem d110_60 : decode (pB 110) 60 = .ok (.aload_n 0, 1) := by decide +kernel
theorem d110_61 : decode (pB 110) 61 = .ok (.iload_n 1, 1) := by decide +kernel
theorem d110_62 : decode (pB 110) 62 = .ok (.aload_n 0, 1) := by decide +kernel
theorem d110_63 : decode (pB 110) 63 = .ok (.aload_n 0, 1) := by decide +kernel
theorem d110_64 : decode (pB 110) 64 = .ok (.iload_n 2, 1) := by decide +kernel
theorem d110_65 : decode (pB 110) 65 = .ok (.iconst 1, 1) := by decide +kernel
theorem d110_66 : decode (pB 110) 66 = .ok (.invokevirtual 73, 3) := by decide +kernel
theorem d110_69 : decode (pB 110) 69 = .ok (.invokevirtual 77, 3) := by decide +kernel
theorem d110_72 : decode (pB 110) 72 = .ok (.invokevirtual 83, 3) := by decide +kernel
theorem d110_75 : decode (pB 110) 75 = .ok (.iadd, 1) := by decide +kernel
theorem d110_76 : decode (pB 110) 76 = .ok (.istore 4, 2) := by decide +kernel
theorem d110_78 : decode (pB 110) 78 = .ok (.iconst 5, 1) := by decide +kernel
theorem d110_79 : decode (pB 110) 79 = .ok (.aload_n 0, 1) := by decide +kernel
theorem d110_80 : decode (pB 110) 80 = .ok (.getfield 7, 3) := by decide +kernel
theorem d110_83 : decode (pB 110) 83 = .ok (.iconst 1, 1) := by decide +kernel
theorem d110_84 : decode (pB 110) 84 = .ok (.iaload, 1) := by decide +kernel
theorem d110_85 : decode (pB 110) 85 = .ok (.iload_n 3, 1) := by decide +kernel
theorem d110_86 : decode (pB 110) 86 = .ok (.imul, 1) := by decide +kernel
theorem d110_87 : decode (pB 110) 87 = .ok (.iadd, 1) := by decide +kernel
theorem d110_88 : decode (pB 110) 88 = .ok (.aload_n 0, 1) := by decide +kernel
theorem d110_89 : decode (pB 110) 89 = .ok (.getfield 7, 3) := by decide +kernel
theorem d110_92 : decode (pB 110) 92 = .ok (.iconst 2, 1) := by decide +kernel
theorem d110_93 : decode (pB 110) 93 = .ok (.iaload, 1) := by decide +kernel
theorem d110_94 : decode (pB 110) 94 = .ok (.iload 4, 2) := by decide +kernel
theorem d110_96 : decode (pB 110) 96 = .ok (.imul, 1) := by decide +kernel
theorem d110_97 : decode (pB 110) 97 = .ok (.iadd, 1) := by decide +kernel
theorem d110_98 : decode (pB 110) 98 = .ok (.istore 5, 2) := by decide +kernel
theorem d110_100 : decode (pB 110) 100 = .ok (.iload 5, 2) := by decide +kernel
theorem d110_102 : decode (pB 110) 102 = .ok (.ifCond .ge 7, 3) := by decide +kernel
theorem d110_105 : decode (pB 110) 105 = .ok (.iconst 0, 1) := by decide +kernel
theorem d110_106 : decode (pB 110) 106 = .ok (.goto 17, 3) := by decide +kernel
theorem d110_109 : decode (pB 110) 109 = .ok (.iload 5, 2) := by decide +kernel
theorem d110_111 : decode (pB 110) 111 = .ok (.bipush 9, 2) := by decide +kernel
theorem d110_113 : decode (pB 110) 113 = .ok (.if_icmp .le 8, 3) := by decide +kernel
theorem d110_116 : decode (pB 110) 116 = .ok (.bipush 9, 2) := by decide +kernel
theorem d110_118 : decode (pB 110) 118 = .ok (.goto 5, 3) := by decide +kernel
theorem d110_121 : decode (pB 110) 121 = .ok (.iload 5, 2) := by decide +kernel
theorem d110_123 : decode (pB 110) 123 = .ok (.ireturn, 1) := by decide +kernel
theorem st1_110_2 : p_st1 110 2 = true := by decide +kernel
theorem st1_110_3 : p_st1 110 3 = true := by decide +kernel
theorem st1_110_4 : p_st1 110 4 = true := by decide +kernel
theorem st1_110_5 : p_st1 110 5 = true := by decide +kernel
/-- RX5.mood -/
def t110_0 : List (Nat × pO) := [(0, o_aload 0 1), (1, o_getR 5 1 4), (4, o_push (.int (nI 10)) 6), (6, o_iload 1 7), (7, o_iadd 8), (8, o_iald 9), (9, o_istore 2 10), (10, o_iload 2 11), (11, o_push (.int (nM 6)) 13), (13, o_icne 19 16), (16, o_push (.int (nM 6)) 18), (18, o_iret), (19, o_aload 0 20), (20, o_iload 1 21), (21, o_aload 0 22), (22, o_iload 2 23), (23, o_push (.int (nI 1)) 24), (24, o_isub 25), (25, o_invV 5 107 1 28), (28, o_invV 5 109 2 31), (31, o_aload 0 32), (32, o_iload 1 33), (33, o_aload 0 34), (34, o_iload 2 35), (35, o_push (.int (nI 1)) 36), (36, o_iadd 37), (37, o_invV 5 107 1 40), (40, o_invV 5 109 2 43), (43, o_iadd 44), (44, o_istore 3 45), (45, o_aload 0 46), (46, o_iload 1 47), (47, o_aload 0 48), (48, o_aload 0 49), (49, o_iload 2 50), (50, o_push (.int (nM 1)) 51), (51, o_invV 5 106 2 54), (54, o_invV 5 107 1 57), (57, o_invV 5 109 2 60), (60, o_aload 0 61)]
theorem ok110_0 : ∀ q ∈ t110_0, p_Z 110 q := List.forall_mem_cons.mpr ⟨⟨s_aload_n d110_0 rfl, tl_aload _ _⟩, List.forall_mem_cons.mpr ⟨⟨f_getR_5_1 d110_1 wd_617, tl_getR _ _ _⟩, List.forall_mem_cons.mpr ⟨⟨s_bipush d110_4 rfl, tl_push _ _⟩, List.forall_mem_cons.mpr ⟨⟨s_iload_n d110_6 rfl, tl_iload _ _⟩, List.forall_mem_cons.mpr ⟨⟨s_iadd d110_7, tl_iadd _⟩, List.forall_mem_cons.mpr ⟨⟨s_iald d110_8, tl_iald _⟩, List.forall_mem_cons.mpr ⟨⟨s_istore_n d110_9 rfl st1_110_2, tl_istore _ _⟩, List.forall_mem_cons.mpr ⟨⟨s_iload_n d110_10 rfl, tl_iload _ _⟩, List.forall_mem_cons.mpr ⟨⟨s_bipush d110_11 rfl, tl_push _ _⟩, List.forall_mem_cons.mpr ⟨⟨s_icne d110_13 rfl, tl_icne _ _⟩, List.forall_mem_cons.mpr ⟨⟨s_bipush d110_16 rfl, tl_push _ _⟩, List.forall_mem_cons.mpr ⟨⟨s_iret d110_18 rfl, tl_iret⟩, List.forall_mem_cons.mpr ⟨⟨s_aload_n d110_19 rfl, tl_aload _ _⟩, List.forall_mem_cons.mpr ⟨⟨s_iload_n d110_20 rfl, tl_iload _ _⟩, List.forall_mem_cons.mpr ⟨⟨s_aload_n d110_21 rfl, tl_aload _ _⟩, List.forall_mem_cons.mpr ⟨⟨s_iload_n d110_22 rfl, tl_iload _ _⟩, List.forall_mem_cons.mpr ⟨⟨s_iconst d110_23 rfl, tl_push _ _⟩, List.forall_mem_cons.mpr ⟨⟨s_isub d110_24, tl_isub _⟩, List.forall_mem_cons.mpr ⟨⟨q_invV_107 d110_25 wd_710, tl_invV _ _ _ _⟩, List.forall_mem_cons.mpr ⟨⟨q_invV_109 d110_28 wd_818, tl_invV _ _ _ _⟩, List.forall_mem_cons.mpr ⟨⟨s_aload_n d110_31 rfl, tl_aload _ _⟩, List.forall_mem_cons.mpr ⟨⟨s_iload_n d110_32 rfl, tl_iload _ _⟩, List.forall_mem_cons.mpr ⟨⟨s_aload_n d110_33 rfl, tl_aload _ _⟩, List.forall_mem_cons.mpr ⟨⟨s_iload_n d110_34 rfl, tl_iload _ _⟩, List.forall_mem_cons.mpr ⟨⟨s_iconst d110_35 rfl, tl_push _ _⟩, List.forall_mem_cons.mpr ⟨⟨s_iadd d110_36, tl_iadd _⟩, List.forall_mem_cons.mpr ⟨⟨q_invV_107 d110_37 wd_710, tl_invV _ _ _ _⟩, List.forall_mem_cons.mpr ⟨⟨q_invV_109 d110_40 wd_818, tl_invV _ _ _ _⟩, List.forall_mem_cons.mpr ⟨⟨s_iadd d110_43, tl_iadd _⟩, List.forall_mem_cons.mpr ⟨⟨s_istore_n d110_44 rfl st1_110_3, tl_istore _ _⟩, List.forall_mem_cons.mpr ⟨⟨s_aload_n d110_45 rfl, tl_aload _ _⟩, List.forall_mem_cons.mpr ⟨⟨s_iload_n d110_46 rfl, tl_iload _ _⟩, List.forall_mem_cons.mpr ⟨⟨s_aload_n d110_47 rfl, tl_aload _ _⟩, List.forall_mem_cons.mpr ⟨⟨s_aload_n d110_48 rfl, tl_aload _ _⟩, List.forall_mem_cons.mpr ⟨⟨s_iload_n d110_49 rfl, tl_iload _ _⟩, List.forall_mem_cons.mpr ⟨⟨s_iconst d110_50 rfl, tl_push _ _⟩, List.forall_mem_cons.mpr ⟨⟨q_invV_106 d110_51 wd_774, tl_invV _ _ _ _⟩, List.forall_mem_cons.mpr ⟨⟨q_invV_107 d110_54 wd_710, tl_invV _ _ _ _⟩, List.forall_mem_cons.mpr ⟨⟨q_invV_109 d110_57 wd_818, tl_invV _ _ _ _⟩, List.forall_mem_cons.mpr ⟨⟨s_aload_n d110_60 rfl, tl_aload _ _⟩, fun _ h => absurd h List.not_mem_nil⟩⟩⟩⟩⟩⟩⟩⟩⟩⟩⟩⟩⟩⟩⟩⟩⟩⟩⟩⟩⟩⟩⟩⟩⟩⟩⟩⟩⟩⟩⟩⟩⟩⟩⟩⟩⟩⟩⟩⟩
/-- RX5.mood -/
def t110_1 : List (Nat × pO) := [(61, o_iload 1 62), (62, o_aload 0 63), (63, o_aload 0 64), (64, o_iload 2 65), (65, o_push (.int (nI 1)) 66), (66, o_invV 5 106 2 69), (69, o_invV 5 107 1 72), (72, o_invV 5 109 2 75), (75, o_iadd 76), (76, o_istore 4 78), (78, o_push (.int (nI 5)) 79), (79, o_aload 0 80), (80, o_getR 5 1 83), (83, o_push (.int (nI 1)) 84), (84, o_iald 85), (85, o_iload 3 86), (86, o_imul 87), (87, o_iadd 88), (88, o_aload 0 89), (89, o_getR 5 1 92), (92, o_push (.int (nI 2)) 93), (93, o_iald 94), (94, o_iload 4 96), (96, o_imul 97), (97, o_iadd 98), (98, o_istore 5 100), (100, o_iload 5 102), (102, o_ifge 109 105), (105, o_push (.int (nI 0)) 106), (106, o_goto 123), (109, o_iload 5 111), (111, o_push (.int (nI 9)) 113), (113, o_icle 121 116), (116, o_push (.int (nI 9)) 118), (118, o_goto 123), (121, o_iload 5 123), (123, o_iret)]
theorem ok110_1 : ∀ q ∈ t110_1, p_Z 110 q := List.forall_mem_cons.mpr ⟨⟨s_iload_n d110_61 rfl, tl_iload _ _⟩, List.forall_mem_cons.mpr ⟨⟨s_aload_n d110_62 rfl, tl_aload _ _⟩, List.forall_mem_cons.mpr ⟨⟨s_aload_n d110_63 rfl, tl_aload _ _⟩, List.forall_mem_cons.mpr ⟨⟨s_iload_n d110_64 rfl, tl_iload _ _⟩, List.forall_mem_cons.mpr ⟨⟨s_iconst d110_65 rfl, tl_push _ _⟩, List.forall_mem_cons.mpr ⟨⟨q_invV_106 d110_66 wd_774, tl_invV _ _ _ _⟩, List.forall_mem_cons.mpr ⟨⟨q_invV_107 d110_69 wd_710, tl_invV _ _ _ _⟩, List.forall_mem_cons.mpr ⟨⟨q_invV_109 d110_72 wd_818, tl_invV _ _ _ _⟩, List.forall_mem_cons.mpr ⟨⟨s_iadd d110_75, tl_iadd _⟩, List.forall_mem_cons.mpr ⟨⟨s_istore d110_76 st1_110_4, tl_istore _ _⟩, List.forall_mem_cons.mpr ⟨⟨s_iconst d110_78 rfl, tl_push _ _⟩, List.forall_mem_cons.mpr ⟨⟨s_aload_n d110_79 rfl, tl_aload _ _⟩, List.forall_mem_cons.mpr ⟨⟨f_getR_5_1 d110_80 wd_617, tl_getR _ _ _⟩, List.forall_mem_cons.mpr ⟨⟨s_iconst d110_83 rfl, tl_push _ _⟩, List.forall_mem_cons.mpr ⟨⟨s_iald d110_84, tl_iald _⟩, List.forall_mem_cons.mpr ⟨⟨s_iload_n d110_85 rfl, tl_iload _ _⟩, List.forall_mem_cons.mpr ⟨⟨s_imul d110_86, tl_imul _⟩, List.forall_mem_cons.mpr ⟨⟨s_iadd d110_87, tl_iadd _⟩, List.forall_mem_cons.mpr ⟨⟨s_aload_n d110_88 rfl, tl_aload _ _⟩, List.forall_mem_cons.mpr ⟨⟨f_getR_5_1 d110_89 wd_617, tl_getR _ _ _⟩, List.forall_mem_cons.mpr ⟨⟨s_iconst d110_92 rfl, tl_push _ _⟩, List.forall_mem_cons.mpr ⟨⟨s_iald d110_93, tl_iald _⟩, List.forall_mem_cons.mpr ⟨⟨s_iload d110_94, tl_iload _ _⟩, List.forall_mem_cons.mpr ⟨⟨s_imul d110_96, tl_imul _⟩, List.forall_mem_cons.mpr ⟨⟨s_iadd d110_97, tl_iadd _⟩, List.forall_mem_cons.mpr ⟨⟨s_istore d110_98 st1_110_5, tl_istore _ _⟩, List.forall_mem_cons.mpr ⟨⟨s_iload d110_100, tl_iload _ _⟩, List.forall_mem_cons.mpr ⟨⟨s_ifge d110_102 rfl, tl_ifge _ _⟩, List.forall_mem_cons.mpr ⟨⟨s_iconst d110_105 rfl, tl_push _ _⟩, List.forall_mem_cons.mpr ⟨⟨s_goto d110_106 rfl, tl_goto _⟩, List.forall_mem_cons.mpr ⟨⟨s_iload d110_109, tl_iload _ _⟩, List.forall_mem_cons.mpr ⟨⟨s_bipush d110_111 rfl, tl_push _ _⟩, List.forall_mem_cons.mpr ⟨⟨s_icle d110_113 rfl, tl_icle _ _⟩, List.forall_mem_cons.mpr ⟨⟨s_bipush d110_116 rfl, tl_push _ _⟩, List.forall_mem_cons.mpr ⟨⟨s_goto d110_118 rfl, tl_goto _⟩, List.forall_mem_cons.mpr ⟨⟨s_iload d110_121, tl_iload _ _⟩, List.forall_mem_cons.mpr ⟨⟨s_iret d110_123 rfl, tl_iret⟩, fun _ h => absurd h List.not_mem_nil⟩⟩⟩⟩⟩⟩⟩⟩⟩⟩⟩⟩⟩⟩⟩⟩⟩⟩⟩⟩⟩⟩⟩⟩⟩⟩⟩⟩⟩⟩⟩⟩⟩⟩⟩⟩⟩
def t110 : List (Nat × pO) := t110_0 ++ (t110_1)
theorem ok110 : ∀ q ∈ t110, p_Z 110 q := List.forall_mem_append.mpr ⟨ok110_0, ok110_1⟩
theorem d111_0 : decode (pB 111) 0 = .ok (.iconst 0, 1) := by decide +kernel
theorem d111_1 : decode (pB 111) 1 = .ok (.istore_n 1, 1) := by decide +kernel
theorem d111_2 : decode (pB 111) 2 = .ok (.iconst 0, 1) := by decide +kernel
theorem d111_3 : decode (pB 111) 3 = .ok (.istore_n 2, 1) := by decide +kernel
theorem d111_4 : decode (pB 111) 4 = .ok (.iload_n 2, 1) := by decide +kernel
theorem d111_5 : decode (pB 111) 5 = .ok (.aload_n 0, 1) := by decide +kernel
theorem d111_6 : decode (pB 111) 6 = .ok (.getfield 7, 3) := by decide +kernel
theorem d111_9 : decode (pB 111) 9 = .ok (.iconst 3, 1) := by decide +kernel
theorem d111_10 : decode (pB 111) 10 = .ok (.iaload, 1) := by decide +kernel
theorem d111_11 : decode (pB 111) 11 = .ok (.if_icmp .ge 35, 3) := by decide +kernel
theorem d111_14 : decode (pB 111) 14 = .ok (.iload_n 1, 1) := by decide +kernel
theorem d111_15 : decode (pB 111) 15 = .ok (.aload_n 0, 1) := by decide +kernel
theorem d111_16 : decode (pB 111) 16 = .ok (.getfield 7, 3) := by decide +kernel
theorem d111_19 : decode (pB 111) 19 = .ok (.bipush 10, 2) := by decide +kernel
theorem d111_21 : decode (pB 111) 21 = .ok (.iload_n 2, 1) := by decide +kernel
theorem d111_22 : decode (pB 111) 22 = .ok (.iadd, 1) := by decide +kernel
theorem d111_23 : decode (pB 111) 23 = .ok (.iaload, 1) := by decide +kernel
theorem d111_24 : decode (pB 111) 24 = .ok (.bipush (-6), 2) := by decide +kernel
theorem d111_26 : decode (pB 111) 26 = .ok (.if_icmp .ne 7, 3) := by decide +kernel
theorem d111_29 : decode (pB 111) 29 = .ok (.iconst 0, 1) := by decide +kernel
theorem d111_30 : decode (pB 111) 30 = .ok (.goto 8, 3) := by decide +kernel
theorem d111_33 : decode (pB 111) 33 = .ok (.aload_n 0, 1) := by decide +kernel
theorem d111_34 : decode (pB 111) 34 = .ok (.iload_n 2, 1) := by decide +kernel
theorem d111_35 : decode (pB 111) 35 = .ok (.invokevirtual 86, 3) := by decide +kernel
theorem d111_38 : decode (pB 111) 38 = .ok (.iadd, 1) := by decide +kernel
theorem d111_39 : decode (pB 111) 39 = .ok (.istore_n 1, 1) := by decide +kernel
theorem d111_40 : decode (pB 111) 40 = .ok (.iinc 2 1, 3) := by decide +kernel
theorem d111_43 : decode (pB 111) 43 = .ok (.goto (-39), 3) := by decide +kernel
theorem d111_46 : decode (pB 111) 46 = .ok (.iload_n 1, 1) := by decide +kernel
theorem d111_47 : decode (pB 111) 47 = .ok (.ireturn, 1) := by decide +kernel
theorem st1_111_1 : p_st1 111 1 = true := by decide +kernel
theorem st1_111_2 : p_st1 111 2 = true := by decide +kernel
/-- RX5.toast -/
def t111_0 : List (Nat × pO) := [(0, o_push (.int (nI 0)) 1), (1, o_istore 1 2), (2, o_push (.int (nI 0)) 3), (3, o_istore 2 4), (4, o_iload 2 5), (5, o_aload 0 6), (6, o_getR 5 1 9), (9, o_push (.int (nI 3)) 10), (10, o_iald 11), (11, o_icge 46 14), (14, o_iload 1 15), (15, o_aload 0 16), (16, o_getR 5 1 19), (19, o_push (.int (nI 10)) 21), (21, o_iload 2 22), (22, o_iadd 23), (23, o_iald 24), (24, o_push (.int (nM 6)) 26), (26, o_icne 33 29), (29, o_push (.int (nI 0)) 30), (30, o_goto 38), (33, o_aload 0 34), (34, o_iload 2 35), (35, o_invV 5 110 1 38), (38, o_iadd 39), (39, o_istore 1 40), (40, o_iinc 2 (nI 1) 43), (43, o_goto 4), (46, o_iload 1 47), (47, o_iret)]
theorem ok111_0 : ∀ q ∈ t111_0, p_Z 111 q := List.forall_mem_cons.mpr ⟨⟨s_iconst d111_0 rfl, tl_push _ _⟩, List.forall_mem_cons.mpr ⟨⟨s_istore_n d111_1 rfl st1_111_1, tl_istore _ _⟩, List.forall_mem_cons.mpr ⟨⟨s_iconst d111_2 rfl, tl_push _ _⟩, List.forall_mem_cons.mpr ⟨⟨s_istore_n d111_3 rfl st1_111_2, tl_istore _ _⟩, List.forall_mem_cons.mpr ⟨⟨s_iload_n d111_4 rfl, tl_iload _ _⟩, List.forall_mem_cons.mpr ⟨⟨s_aload_n d111_5 rfl, tl_aload _ _⟩, List.forall_mem_cons.mpr ⟨⟨f_getR_5_1 d111_6 wd_617, tl_getR _ _ _⟩, List.forall_mem_cons.mpr ⟨⟨s_iconst d111_9 rfl, tl_push _ _⟩, List.forall_mem_cons.mpr ⟨⟨s_iald d111_10, tl_iald _⟩, List.forall_mem_cons.mpr ⟨⟨s_icge d111_11 rfl, tl_icge _ _⟩, List.forall_mem_cons.mpr ⟨⟨s_iload_n d111_14 rfl, tl_iload _ _⟩, List.forall_mem_cons.mpr ⟨⟨s_aload_n d111_15 rfl, tl_aload _ _⟩, List.forall_mem_cons.mpr ⟨⟨f_getR_5_1 d111_16 wd_617, tl_getR _ _ _⟩, List.forall_mem_cons.mpr ⟨⟨s_bipush d111_19 rfl, tl_push _ _⟩, List.forall_mem_cons.mpr ⟨⟨s_iload_n d111_21 rfl, tl_iload _ _⟩, List.forall_mem_cons.mpr ⟨⟨s_iadd d111_22, tl_iadd _⟩, List.forall_mem_cons.mpr ⟨⟨s_iald d111_23, tl_iald _⟩, List.forall_mem_cons.mpr ⟨⟨s_bipush d111_24 rfl, tl_push _ _⟩, List.forall_mem_cons.mpr ⟨⟨s_icne d111_26 rfl, tl_icne _ _⟩, List.forall_mem_cons.mpr ⟨⟨s_iconst d111_29 rfl, tl_push _ _⟩, List.forall_mem_cons.mpr ⟨⟨s_goto d111_30 rfl, tl_goto _⟩, List.forall_mem_cons.mpr ⟨⟨s_aload_n d111_33 rfl, tl_aload _ _⟩, List.forall_mem_cons.mpr ⟨⟨s_iload_n d111_34 rfl, tl_iload _ _⟩, List.forall_mem_cons.mpr ⟨⟨q_invV_110 d111_35 wd_814, tl_invV _ _ _ _⟩, List.forall_mem_cons.mpr ⟨⟨s_iadd d111_38, tl_iadd _⟩, List.forall_mem_cons.mpr ⟨⟨s_istore_n d111_39 rfl st1_111_1, tl_istore _ _⟩, List.forall_mem_cons.mpr ⟨⟨s_iinc d111_40 rfl st1_111_2, tl_iinc _ _ _⟩, List.forall_mem_cons.mpr ⟨⟨s_goto d111_43 rfl, tl_goto _⟩, List.forall_mem_cons.mpr ⟨⟨s_iload_n d111_46 rfl, tl_iload _ _⟩, List.forall_mem_cons.mpr ⟨⟨s_iret d111_47 rfl, tl_iret⟩, fun _ h => absurd h List.not_mem_nil⟩⟩⟩⟩⟩⟩⟩⟩⟩⟩⟩⟩⟩⟩⟩⟩⟩⟩⟩⟩⟩⟩⟩⟩⟩⟩⟩⟩⟩⟩
def t111 : List (Nat × pO) := t111_0
theorem ok111 : ∀ q ∈ t111, p_Z 111 q := ok111_0
theorem d112_0 : decode (pB 112) 0 = .ok (.iconst 0, 1) := by decide +kernel
theorem d112_1 : decode (pB 112) 1 = .ok (.istore_n 1, 1) := by decide +kernel
theorem d112_2 : decode (pB 112) 2 = .ok (.iconst 0, 1) := by decide +kernel
theorem d112_3 : decode (pB 112) 3 = .ok (.istore_n 2, 1) := by decide +kernel
theorem d112_4 : decode (pB 112) 4 = .ok (.iload_n 2, 1) := by decide +kernel
theorem d112_5 : decode (pB 112) 5 = .ok (.aload_n 0, 1) := by decide +kernel
theorem d112_6 : decode (pB 112) 6 = .ok (.getfield 55, 3) := by decide +kernel
theorem d112_9 : decode (pB 112) 9 = .ok (.if_icmp .ge 30, 3) := by decide +kernel
theorem d112_12 : decode (pB 112) 12 = .ok (.aload_n 0, 1) := by decide +kernel
theorem d112_13 : decode (pB 112) 13 = .ok (.getfield 32, 3) := by decide +kernel
theorem d112_16 : decode (pB 112) 16 = .ok (.iload_n 2, 1) := by decide +kernel
theorem d112_17 : decode (pB 112) 17 = .ok (.iaload, 1) := by decide +kernel
theorem d112_18 : decode (pB 112) 18 = .ok (.iload_n 1, 1) := by decide +kernel
theorem d112_19 : decode (pB 112) 19 = .ok (.if_icmp .le 12, 3) := by decide +kernel
theorem d112_22 : decode (pB 112) 22 = .ok (.aload_n 0, 1) := by decide +kernel
theorem d112_23 : decode (pB 112) 23 = .ok (.getfield 32, 3) := by decide +kernel
theorem d112_26 : decode (pB 112) 26 = .ok (.iload_n 2, 1) := by decide +kernel
theorem d112_27 : decode (pB 112) 27 = .ok (.iaload, 1) := by decide +kernel
theorem d112_28 : decode (pB 112) 28 = .ok (.goto 4, 3) := by decide +kernel
theorem d112_31 : decode (pB 112) 31 = .ok (.iload_n 1, 1) := by decide +kernel
theorem d112_32 : decode (pB 112) 32 = .ok (.istore_n 1, 1) := by decide +kernel
theorem d112_33 : decode (pB 112) 33 = .ok (.iinc 2 1, 3) := by decide +kernel
theorem d112_36 : decode (pB 112) 36 = .ok (.goto (-32), 3) := by decide +kernel
theorem d112_39 : decode (pB 112) 39 = .ok (.iload_n 1, 1) := by decide +kernel
theorem d112_40 : decode (pB 112) 40 = .ok (.ireturn, 1) := by decide +kernel
theorem st1_112_1 : p_st1 112 1 = true := by decide +kernel
theorem st1_112_2 : p_st1 112 2 = true := by decide +kernel
/-- RX5.highest -/
def t112_0 : List (Nat × pO) := [(0, o_push (.int (nI 0)) 1), (1, o_istore 1 2), (2, o_push (.int (nI 0)) 3), (3, o_istore 2 4), (4, o_iload 2 5), (5, o_aload 0 6), (6, o_getI 5 14 9), (9, o_icge 39 12), (12, o_aload 0 13), (13, o_getR 5 13 16), (16, o_iload 2 17), (17, o_iald 18), (18, o_iload 1 19), (19, o_icle 31 22), (22, o_aload 0 23), (23, o_getR 5 13 26), (26, o_iload 2 27), (27, o_iald 28), (28, o_goto 32), (31, o_iload 1 32), (32, o_istore 1 33), (33, o_iinc 2 (nI 1) 36), (36, o_goto 4), (39, o_iload 1 40), (40, o_iret)]
theorem ok112_0 : ∀ q ∈ t112_0, p_Z 112 q := List.forall_mem_cons.mpr ⟨⟨s_iconst d112_0 rfl, tl_push _ _⟩, List.forall_mem_cons.mpr ⟨⟨s_istore_n d112_1 rfl st1_112_1, tl_istore _ _⟩, List.forall_mem_cons.mpr ⟨⟨s_iconst d112_2 rfl, tl_push _ _⟩, List.forall_mem_cons.mpr ⟨⟨s_istore_n d112_3 rfl st1_112_2, tl_istore _ _⟩, List.forall_mem_cons.mpr ⟨⟨s_iload_n d112_4 rfl, tl_iload _ _⟩, List.forall_mem_cons.mpr ⟨⟨s_aload_n d112_5 rfl, tl_aload _ _⟩, List.forall_mem_cons.mpr ⟨⟨f_getI_5_14 d112_6 wd_630, tl_getI _ _ _⟩, List.forall_mem_cons.mpr ⟨⟨s_icge d112_9 rfl, tl_icge _ _⟩, List.forall_mem_cons.mpr ⟨⟨s_aload_n d112_12 rfl, tl_aload _ _⟩, List.forall_mem_cons.mpr ⟨⟨f_getR_5_13 d112_13 wd_629, tl_getR _ _ _⟩, List.forall_mem_cons.mpr ⟨⟨s_iload_n d112_16 rfl, tl_iload _ _⟩, List.forall_mem_cons.mpr ⟨⟨s_iald d112_17, tl_iald _⟩, List.forall_mem_cons.mpr ⟨⟨s_iload_n d112_18 rfl, tl_iload _ _⟩, List.forall_mem_cons.mpr ⟨⟨s_icle d112_19 rfl, tl_icle _ _⟩, List.forall_mem_cons.mpr ⟨⟨s_aload_n d112_22 rfl, tl_aload _ _⟩, List.forall_mem_cons.mpr ⟨⟨f_getR_5_13 d112_23 wd_629, tl_getR _ _ _⟩, List.forall_mem_cons.mpr ⟨⟨s_iload_n d112_26 rfl, tl_iload _ _⟩, List.forall_mem_cons.mpr ⟨⟨s_iald d112_27, tl_iald _⟩, List.forall_mem_cons.mpr ⟨⟨s_goto d112_28 rfl, tl_goto _⟩, List.forall_mem_cons.mpr ⟨⟨s_iload_n d112_31 rfl, tl_iload _ _⟩, List.forall_mem_cons.mpr ⟨⟨s_istore_n d112_32 rfl st1_112_1, tl_istore _ _⟩, List.forall_mem_cons.mpr ⟨⟨s_iinc d112_33 rfl st1_112_2, tl_iinc _ _ _⟩, List.forall_mem_cons.mpr ⟨⟨s_goto d112_36 rfl, tl_goto _⟩, List.forall_mem_cons.mpr ⟨⟨s_iload_n d112_39 rfl, tl_iload _ _⟩, List.forall_mem_cons.mpr ⟨⟨s_iret d112_40 rfl, tl_iret⟩, fun _ h => absurd h List.not_mem_nil⟩⟩⟩⟩⟩⟩⟩⟩⟩⟩⟩⟩⟩⟩⟩⟩⟩⟩⟩⟩⟩⟩⟩⟩⟩
def t112 : List (Nat × pO) := t112_0
theorem ok112 : ∀ q ∈ t112, p_Z 112 q := ok112_0
theorem d113_0 : decode (pB 113) 0 = .ok (.iconst 0, 1) := by decide +kernel
theorem d113_1 : decode (pB 113) 1 = .ok (.istore_n 2, 1) := by decide +kernel
theorem d113_2 : decode (pB 113) 2 = .ok (.iconst 0, 1) := by decide +kernel
theorem d113_3 : decode (pB 113) 3 = .ok (.istore_n 3, 1) := by decide +kernel
theorem d113_4 : decode (pB 113) 4 = .ok (.iload_n 3, 1) := by decide +kernel
theorem d113_5 : decode (pB 113) 5 = .ok (.aload_n 0, 1) := by decide +kernel
theorem d113_6 : decode (pB 113) 6 = .ok (.getfield 7, 3) := by decide +kernel
theorem d113_9 : decode (pB 113) 9 = .ok (.iconst 3, 1) := by decide +kernel
theorem d113_10 : decode (pB 113) 10 = .ok (.iaload, 1) := by decide +kernel
theorem d113_11 : decode (pB 113) 11 = .ok (.if_icmp .ge 32, 3) := by decide +kernel
theorem d113_14 : decode (pB 113) 14 = .ok (.iload_n 2, 1) := by decide +kernel
theorem d113_15 : decode (pB 113) 15 = .ok (.ifCond .ne 16, 3) := by decide +kernel
theorem d113_18 : decode (pB 113) 18 = .ok (.aload_n 0, 1) := by decide +kernel
theorem d113_19 : decode (pB 113) 19 = .ok (.getfield 7, 3) := by decide +kernel
theorem d113_22 : decode (pB 113) 22 = .ok (.bipush 10, 2) := by decide +kernel
theorem d113_24 : decode (pB 113) 24 = .ok (.iload_n 3, 1) := by decide +kernel
theorem d113_25 : decode (pB 113) 25 = .ok (.iadd, 1) := by decide +kernel
theorem d113_26 : decode (pB 113) 26 = .ok (.iaload, 1) := by decide +kernel
theorem d113_27 : decode (pB 113) 27 = .ok (.iload_n 1, 1) := by decide +kernel
theorem d113_28 : decode (pB 113) 28 = .ok (.if_icmp .lt 7, 3) := by decide +kernel
theorem d113_31 : decode (pB 113) 31 = .ok (.iconst 1, 1) := by decide +kernel
theorem d113_32 : decode (pB 113) 32 = .ok (.goto 4, 3) := by decide +kernel
theorem d113_35 : decode (pB 113) 35 = .ok (.iconst 0, 1) := by decide +kernel
theorem d113_36 : decode (pB 113) 36 = .ok (.istore_n 2, 1) := by decide +kernel
theorem d113_37 : decode (pB 113) 37 = .ok (.iinc 3 1, 3) := by decide +kernel
theorem d113_40 : decode (pB 113) 40 = .ok (.goto (-36), 3) := by decide +kernel
theorem d113_43 : decode (pB 113) 43 = .ok (.iload_n 2, 1) := by decide +kernel
theorem d113_44 : decode (pB 113) 44 = .ok (.ireturn, 1) := by decide +kernel
theorem st1_113_2 : p_st1 113 2 = true := by decide +kernel
theorem st1_113_3 : p_st1 113 3 = true := by decide +kernel
/-- RX5.sitsBeyond -/
def t113_0 : List (Nat × pO) := [(0, o_push (.int (nI 0)) 1), (1, o_istore 2 2), (2, o_push (.int (nI 0)) 3), (3, o_istore 3 4), (4, o_iload 3 5), (5, o_aload 0 6), (6, o_getR 5 1 9), (9, o_push (.int (nI 3)) 10), (10, o_iald 11), (11, o_icge 43 14), (14, o_iload 2 15), (15, o_ifne 31 18), (18, o_aload 0 19), (19, o_getR 5 1 22), (22, o_push (.int (nI 10)) 24), (24, o_iload 3 25), (25, o_iadd 26), (26, o_iald 27), (27, o_iload 1 28), (28, o_iclt 35 31), (31, o_push (.int (nI 1)) 32), (32, o_goto 36), (35, o_push (.int (nI 0)) 36), (36, o_istore 2 37), (37, o_iinc 3 (nI 1) 40), (40, o_goto 4), (43, o_iload 2 44), (44, o_zret)]
theorem ok113_0 : ∀ q ∈ t113_0, p_Z 113 q := List.forall_mem_cons.mpr ⟨⟨s_iconst d113_0 rfl, tl_push _ _⟩, List.forall_mem_cons.mpr ⟨⟨s_istore_n d113_1 rfl st1_113_2, tl_istore _ _⟩, List.forall_mem_cons.mpr ⟨⟨s_iconst d113_2 rfl, tl_push _ _⟩, List.forall_mem_cons.mpr ⟨⟨s_istore_n d113_3 rfl st1_113_3, tl_istore _ _⟩, List.forall_mem_cons.mpr ⟨⟨s_iload_n d113_4 rfl, tl_iload _ _⟩, List.forall_mem_cons.mpr ⟨⟨s_aload_n d113_5 rfl, tl_aload _ _⟩, List.forall_mem_cons.mpr ⟨⟨f_getR_5_1 d113_6 wd_617, tl_getR _ _ _⟩, List.forall_mem_cons.mpr ⟨⟨s_iconst d113_9 rfl, tl_push _ _⟩, List.forall_mem_cons.mpr ⟨⟨s_iald d113_10, tl_iald _⟩, List.forall_mem_cons.mpr ⟨⟨s_icge d113_11 rfl, tl_icge _ _⟩, List.forall_mem_cons.mpr ⟨⟨s_iload_n d113_14 rfl, tl_iload _ _⟩, List.forall_mem_cons.mpr ⟨⟨s_ifne d113_15 rfl, tl_ifne _ _⟩, List.forall_mem_cons.mpr ⟨⟨s_aload_n d113_18 rfl, tl_aload _ _⟩, List.forall_mem_cons.mpr ⟨⟨f_getR_5_1 d113_19 wd_617, tl_getR _ _ _⟩, List.forall_mem_cons.mpr ⟨⟨s_bipush d113_22 rfl, tl_push _ _⟩, List.forall_mem_cons.mpr ⟨⟨s_iload_n d113_24 rfl, tl_iload _ _⟩, List.forall_mem_cons.mpr ⟨⟨s_iadd d113_25, tl_iadd _⟩, List.forall_mem_cons.mpr ⟨⟨s_iald d113_26, tl_iald _⟩, List.forall_mem_cons.mpr ⟨⟨s_iload_n d113_27 rfl, tl_iload _ _⟩, List.forall_mem_cons.mpr ⟨⟨s_iclt d113_28 rfl, tl_iclt _ _⟩, List.forall_mem_cons.mpr ⟨⟨s_iconst d113_31 rfl, tl_push _ _⟩, List.forall_mem_cons.mpr ⟨⟨s_goto d113_32 rfl, tl_goto _⟩, List.forall_mem_cons.mpr ⟨⟨s_iconst d113_35 rfl, tl_push _ _⟩, List.forall_mem_cons.mpr ⟨⟨s_istore_n d113_36 rfl st1_113_2, tl_istore _ _⟩, List.forall_mem_cons.mpr ⟨⟨s_iinc d113_37 rfl st1_113_3, tl_iinc _ _ _⟩, List.forall_mem_cons.mpr ⟨⟨s_goto d113_40 rfl, tl_goto _⟩, List.forall_mem_cons.mpr ⟨⟨s_iload_n d113_43 rfl, tl_iload _ _⟩, List.forall_mem_cons.mpr ⟨⟨s_zret d113_44 rfl, tl_zret⟩, fun _ h => absurd h List.not_mem_nil⟩⟩⟩⟩⟩⟩⟩⟩⟩⟩⟩⟩⟩⟩⟩⟩⟩⟩⟩⟩⟩⟩⟩⟩⟩⟩⟩⟩
def t113 : List (Nat × pO) := t113_0
theorem ok113 : ∀ q ∈ t113, p_Z 113 q := ok113_0
theorem d114_0 : decode (pB 114) 0 = .ok (.aload_n 0, 1) := by decide +kernel
theorem d114_1 : decode (pB 114) 1 = .ok (.iconst 0, 1) := by decide +kernel
theorem d114_2 : decode (pB 114) 2 = .ok (.putfield 44, 3) := by decide +kernel
theorem d114_5 : decode (pB 114) 5 = .ok (.iload_n 1, 1) := by decide +kernel
theorem d114_6 : decode (pB 114) 6 = .ok (.ifCond .ne 13, 3) := by decide +kernel
theorem d114_9 : decode (pB 114) 9 = .ok (.iload_n 2, 1) := by decide +kernel
theorem d114_10 : decode (pB 114) 10 = .ok (.iconst 2, 1) := by decide +kernel
theorem d114_11 : decode (pB 114) 11 = .ok (.bipush 16, 2) := by decide +kernel
theorem d114_13 : decode (pB 114) 13 = .ok (.invokestatic 48, 3) := by decide +kernel
theorem d114_16 : decode (pB 114) 16 = .ok (.ifCond .ne 32, 3) := by decide +kernel
theorem d114_19 : decode (pB 114) 19 = .ok (.iload_n 1, 1) := by decide +kernel
theorem d114_20 : decode (pB 114) 20 = .ok (.iconst 1, 1) := by decide +kernel
theorem d114_21 : decode (pB 114) 21 = .ok (.if_icmp .ne 12, 3) := by decide +kernel
theorem d114_24 : decode (pB 114) 24 = .ok (.iload_n 2, 1) := by decide +kernel
theorem d114_25 : decode (pB 114) 25 = .ok (.iconst 0, 1) := by decide +kernel
theorem d114_26 : decode (pB 114) 26 = .ok (.iconst 5, 1) := by decide +kernel
theorem d114_27 : decode (pB 114) 27 = .ok (.invokestatic 48, 3) := by decide +kernel
theorem d114_30 : decode (pB 114) 30 = .ok (.ifCond .ne 18, 3) := by decide +kernel
theorem d114_33 : decode (pB 114) 33 = .ok (.iload_n 1, 1) := by decide +kernel
theorem d114_34 : decode (pB 114) 34 = .ok (.iconst 2, 1) := by decide +kernel
theorem d114_35 : decode (pB 114) 35 = .ok (.if_icmp .ne 17, 3) := by decide +kernel
theorem d114_38 : decode (pB 114) 38 = .ok (.iload_n 2, 1) := by decide +kernel
theorem d114_39 : decode (pB 114) 39 = .ok (.iconst 0, 1) := by decide +kernel
theorem d114_40 : decode (pB 114) 40 = .ok (.bipush 9, 2) := by decide +kernel
theorem d114_42 : decode (pB 114) 42 = .ok (.invokestatic 48, 3) := by decide +kernel
theorem d114_45 : decode (pB 114) 45 = .ok (.ifCond .eq 7, 3) := by decide +kernel
theorem d114_48 : decode (pB 114) 48 = .ok (.iconst 1, 1) := by decide +kernel
theorem d114_49 : decode (pB 114) 49 = .ok (.goto 4, 3) := by decide +kernel
theorem d114_52 : decode (pB 114) 52 = .ok (.iconst 0, 1) := by decide +kernel
theorem d114_53 : decode (pB 114) 53 = .ok (.istore_n 3, 1) := by decide +kernel
theorem d114_54 : decode (pB 114) 54 = .ok (.iload_n 3, 1) := by decide +kernel
theorem d114_55 : decode (pB 114) 55 = .ok (.ifCond .ne 6, 3) := by decide +kernel
theorem d114_58 : decode (pB 114) 58 = .ok (.bipush (-2), 2) := by decide +kernel
theorem d114_60 : decode (pB 114) 60 = .ok (.ireturn, 1) := by decide +kernel
theorem d114_61 : decode (pB 114) 61 = .ok (.iload_n 1, 1) := by decide +kernel
theorem d114_62 : decode (pB 114) 62 = .ok (.ifCond .ne 23, 3) := by decide +kernel
theorem d114_65 : decode (pB 114) 65 = .ok (.aload_n 0, 1) := by decide +kernel
theorem d114_66 : decode (pB 114) 66 = .ok (.getfield 7, 3) := by decide +kernel
theorem d114_69 : decode (pB 114) 69 = .ok (.iconst 4, 1) := by decide +kernel
theorem d114_70 : decode (pB 114) 70 = .ok (.iaload, 1) := by decide +kernel
theorem d114_71 : decode (pB 114) 71 = .ok (.ifCond .gt 11, 3) := by decide +kernel
theorem d114_74 : decode (pB 114) 74 = .ok (.aload_n 0, 1) := by decide +kernel
theorem d114_75 : decode (pB 114) 75 = .ok (.iload_n 2, 1) := by decide +kernel
theorem d114_76 : decode (pB 114) 76 = .ok (.invokevirtual 89, 3) := by decide +kernel
theorem d114_79 : decode (pB 114) 79 = .ok (.ifCond .eq 6, 3) := by decide +kernel
theorem d114_82 : decode (pB 114) 82 = .ok (.bipush (-5), 2) := by decide +kernel
theorem d114_84 : decode (pB 114) 84 = .ok (.ireturn, 1) := by decide +kernel
theorem d114_85 : decode (pB 114) 85 = .ok (.aload_n 0, 1) := by decide +kernel
theorem d114_86 : decode (pB 114) 86 = .ok (.invokevirtual 93, 3) := by decide +kernel
theorem d114_89 : decode (pB 114) 89 = .ok (.aload_n 0, 1) := by decide +kernel
theorem d114_90 : decode (pB 114) 90 = .ok (.getfield 7, 3) := by decide +kernel
theorem d114_93 : decode (pB 114) 93 = .ok (.iload_n 1, 1) := by decide +kernel
theorem d114_94 : decode (pB 114) 94 = .ok (.iaload, 1) := by decide +kernel
theorem d114_95 : decode (pB 114) 95 = .ok (.istore 4, 2) := by decide +kernel
theorem d114_97 : decode (pB 114) 97 = .ok (.aload_n 0, 1) := by decide +kernel
theorem d114_98 : decode (pB 114) 98 = .ok (.getfield 7, 3) := by decide +kernel
theorem d114_101 : decode (pB 114) 101 = .ok (.iload_n 1, 1) := by decide +kernel
theorem d114_102 : decode (pB 114) 102 = .ok (.iload_n 2, 1) := by decide +kernel
theorem d114_103 : decode (pB 114) 103 = .ok (.iastore, 1) := by decide +kernel
theorem d114_104 : decode (pB 114) 104 = .ok (.iload 4, 2) := by decide +kernel
theorem d114_106 : decode (pB 114) 106 = .ok (.ireturn, 1) := by decide +kernel
theorem st1_114_3 : p_st1 114 3 = true := by decide +kernel
theorem st1_114_4 : p_st1 114 4 = true := by decide +kernel
/-- RX5.set -/
def t114_0 : List (Nat × pO) := [(0, o_aload 0 1), (1, o_push (.int (nI 0)) 2), (2, o_putI 5 0 5), (5, o_iload 1 6), (6, o_ifne 19 9), (9, o_iload 2 10), (10, o_push (.int (nI 2)) 11), (11, o_push (.int (nI 16)) 13), (13, o_invS 96 3 16), (16, o_ifne 48 19), (19, o_iload 1 20), (20, o_push (.int (nI 1)) 21), (21, o_icne 33 24), (24, o_iload 2 25), (25, o_push (.int (nI 0)) 26), (26, o_push (.int (nI 5)) 27), (27, o_invS 96 3 30), (30, o_ifne 48 33), (33, o_iload 1 34), (34, o_push (.int (nI 2)) 35), (35, o_icne 52 38), (38, o_iload 2 39), (39, o_push (.int (nI 0)) 40), (40, o_push (.int (nI 9)) 42), (42, o_invS 96 3 45), (45, o_ifeq 52 48), (48, o_push (.int (nI 1)) 49), (49, o_goto 53), (52, o_push (.int (nI 0)) 53), (53, o_istore 3 54), (54, o_iload 3 55), (55, o_ifne 61 58), (58, o_push (.int (nM 2)) 60), (60, o_iret), (61, o_iload 1 62), (62, o_ifne 85 65), (65, o_aload 0 66), (66, o_getR 5 1 69), (69, o_push (.int (nI 4)) 70), (70, o_iald 71)]
theorem ok114_0 : ∀ q ∈ t114_0, p_Z 114 q := List.forall_mem_cons.mpr ⟨⟨s_aload_n d114_0 rfl, tl_aload _ _⟩, List.forall_mem_cons.mpr ⟨⟨s_iconst d114_1 rfl, tl_push _ _⟩, List.forall_mem_cons.mpr ⟨⟨f_putI_5_0 d114_2 wd_616, tl_putI _ _ _⟩, List.forall_mem_cons.mpr ⟨⟨s_iload_n d114_5 rfl, tl_iload _ _⟩, List.forall_mem_cons.mpr ⟨⟨s_ifne d114_6 rfl, tl_ifne _ _⟩, List.forall_mem_cons.mpr ⟨⟨s_iload_n d114_9 rfl, tl_iload _ _⟩, List.forall_mem_cons.mpr ⟨⟨s_iconst d114_10 rfl, tl_push _ _⟩, List.forall_mem_cons.mpr ⟨⟨s_bipush d114_11 rfl, tl_push _ _⟩, List.forall_mem_cons.mpr ⟨⟨q_invS_96 d114_13 wd_675, tl_invS _ _ _⟩, List.forall_mem_cons.mpr ⟨⟨s_ifne d114_16 rfl, tl_ifne _ _⟩, List.forall_mem_cons.mpr ⟨⟨s_iload_n d114_19 rfl, tl_iload _ _⟩, List.forall_mem_cons.mpr ⟨⟨s_iconst d114_20 rfl, tl_push _ _⟩, List.forall_mem_cons.mpr ⟨⟨s_icne d114_21 rfl, tl_icne _ _⟩, List.forall_mem_cons.mpr ⟨⟨s_iload_n d114_24 rfl, tl_iload _ _⟩, List.forall_mem_cons.mpr ⟨⟨s_iconst d114_25 rfl, tl_push _ _⟩, List.forall_mem_cons.mpr ⟨⟨s_iconst d114_26 rfl, tl_push _ _⟩, List.forall_mem_cons.mpr ⟨⟨q_invS_96 d114_27 wd_675, tl_invS _ _ _⟩, List.forall_mem_cons.mpr ⟨⟨s_ifne d114_30 rfl, tl_ifne _ _⟩, List.forall_mem_cons.mpr ⟨⟨s_iload_n d114_33 rfl, tl_iload _ _⟩, List.forall_mem_cons.mpr ⟨⟨s_iconst d114_34 rfl, tl_push _ _⟩, List.forall_mem_cons.mpr ⟨⟨s_icne d114_35 rfl, tl_icne _ _⟩, List.forall_mem_cons.mpr ⟨⟨s_iload_n d114_38 rfl, tl_iload _ _⟩, List.forall_mem_cons.mpr ⟨⟨s_iconst d114_39 rfl, tl_push _ _⟩, List.forall_mem_cons.mpr ⟨⟨s_bipush d114_40 rfl, tl_push _ _⟩, List.forall_mem_cons.mpr ⟨⟨q_invS_96 d114_42 wd_675, tl_invS _ _ _⟩, List.forall_mem_cons.mpr ⟨⟨s_ifeq d114_45 rfl, tl_ifeq _ _⟩, List.forall_mem_cons.mpr ⟨⟨s_iconst d114_48 rfl, tl_push _ _⟩, List.forall_mem_cons.mpr ⟨⟨s_goto d114_49 rfl, tl_goto _⟩, List.forall_mem_cons.mpr ⟨⟨s_iconst d114_52 rfl, tl_push _ _⟩, List.forall_mem_cons.mpr ⟨⟨s_istore_n d114_53 rfl st1_114_3, tl_istore _ _⟩, List.forall_mem_cons.mpr ⟨⟨s_iload_n d114_54 rfl, tl_iload _ _⟩, List.forall_mem_cons.mpr ⟨⟨s_ifne d114_55 rfl, tl_ifne _ _⟩, List.forall_mem_cons.mpr ⟨⟨s_bipush d114_58 rfl, tl_push _ _⟩, List.forall_mem_cons.mpr ⟨⟨s_iret d114_60 rfl, tl_iret⟩, List.forall_mem_cons.mpr ⟨⟨s_iload_n d114_61 rfl, tl_iload _ _⟩, List.forall_mem_cons.mpr ⟨⟨s_ifne d114_62 rfl, tl_ifne _ _⟩, List.forall_mem_cons.mpr ⟨⟨s_aload_n d114_65 rfl, tl_aload _ _⟩, List.forall_mem_cons.mpr ⟨⟨f_getR_5_1 d114_66 wd_617, tl_getR _ _ _⟩, List.forall_mem_cons.mpr ⟨⟨s_iconst d114_69 rfl, tl_push _ _⟩, List.forall_mem_cons.mpr ⟨⟨s_iald d114_70, tl_iald _⟩, fun _ h => absurd h List.not_mem_nil⟩⟩⟩⟩⟩⟩⟩⟩⟩⟩⟩⟩⟩⟩⟩⟩⟩⟩⟩⟩⟩⟩⟩⟩⟩⟩⟩⟩⟩⟩⟩⟩⟩⟩⟩⟩⟩⟩⟩⟩
/-- RX5.set -/
def t114_1 : List (Nat × pO) := [(71, o_ifgt 82 74), (74, o_aload 0 75), (75, o_iload 2 76), (76, o_invV 5 113 1 79), (79, o_ifeq 85 82), (82, o_push (.int (nM 5)) 84), (84, o_iret), (85, o_aload 0 86), (86, o_invV 5 100 0 89), (89, o_aload 0 90), (90, o_getR 5 1 93), (93, o_iload 1 94), (94, o_iald 95), (95, o_istore 4 97), (97, o_aload 0 98), (98, o_getR 5 1 101), (101, o_iload 1 102), (102, o_iload 2 103), (103, o_iast 104), (104, o_iload 4 106), (106, o_iret)]
theorem ok114_1 : ∀ q ∈ t114_1, p_Z 114 q := List.forall_mem_cons.mpr ⟨⟨s_ifgt d114_71 rfl, tl_ifgt _ _⟩, List.forall_mem_cons.mpr ⟨⟨s_aload_n d114_74 rfl, tl_aload _ _⟩, List.forall_mem_cons.mpr ⟨⟨s_iload_n d114_75 rfl, tl_iload _ _⟩, List.forall_mem_cons.mpr ⟨⟨q_invV_113 d114_76 wd_678, tl_invV _ _ _ _⟩, List.forall_mem_cons.mpr ⟨⟨s_ifeq d114_79 rfl, tl_ifeq _ _⟩, List.forall_mem_cons.mpr ⟨⟨s_bipush d114_82 rfl, tl_push _ _⟩, List.forall_mem_cons.mpr ⟨⟨s_iret d114_84 rfl, tl_iret⟩, List.forall_mem_cons.mpr ⟨⟨s_aload_n d114_85 rfl, tl_aload _ _⟩, List.forall_mem_cons.mpr ⟨⟨q_invV_100 d114_86 wd_682, tl_invV _ _ _ _⟩, List.forall_mem_cons.mpr ⟨⟨s_aload_n d114_89 rfl, tl_aload _ _⟩, List.forall_mem_cons.mpr ⟨⟨f_getR_5_1 d114_90 wd_617, tl_getR _ _ _⟩, List.forall_mem_cons.mpr ⟨⟨s_iload_n d114_93 rfl, tl_iload _ _⟩, List.forall_mem_cons.mpr ⟨⟨s_iald d114_94, tl_iald _⟩, List.forall_mem_cons.mpr ⟨⟨s_istore d114_95 st1_114_4, tl_istore _ _⟩, List.forall_mem_cons.mpr ⟨⟨s_aload_n d114_97 rfl, tl_aload _ _⟩, List.forall_mem_cons.mpr ⟨⟨f_getR_5_1 d114_98 wd_617, tl_getR _ _ _⟩, List.forall_mem_cons.mpr ⟨⟨s_iload_n d114_101 rfl, tl_iload _ _⟩, List.forall_mem_cons.mpr ⟨⟨s_iload_n d114_102 rfl, tl_iload _ _⟩, List.forall_mem_cons.mpr ⟨⟨s_iast d114_103, tl_iast _⟩, List.forall_mem_cons.mpr ⟨⟨s_iload d114_104, tl_iload _ _⟩, List.forall_mem_cons.mpr ⟨⟨s_iret d114_106 rfl, tl_iret⟩, fun _ h => absurd h List.not_mem_nil⟩⟩⟩⟩⟩⟩⟩⟩⟩⟩⟩⟩⟩⟩⟩⟩⟩⟩⟩⟩⟩
def t114 : List (Nat × pO) := t114_0 ++ (t114_1)
theorem ok114 : ∀ q ∈ t114, p_Z 114 q := List.forall_mem_append.mpr ⟨ok114_0, ok114_1⟩
theorem d115_0 : decode (pB 115) 0 = .ok (.aload_n 0, 1) := by decide +kernel
theorem d115_1 : decode (pB 115) 1 = .ok (.getfield 7, 3) := by decide +kernel
theorem d115_4 : decode (pB 115) 4 = .ok (.iconst 3, 1) := by decide +kernel
theorem d115_5 : decode (pB 115) 5 = .ok (.dup2, 1) := by decide +kernel
theorem d115_6 : decode (pB 115) 6 = .ok (.iaload, 1) := by decide +kernel
theorem d115_7 : decode (pB 115) 7 = .ok (.iconst 1, 1) := by decide +kernel
theorem d115_8 : decode (pB 115) 8 = .ok (.iadd, 1) := by decide +kernel
theorem d115_9 : decode (pB 115) 9 = .ok (.iastore, 1) := by decide +kernel
theorem d115_10 : decode (pB 115) 10 = .ok (.aload_n 0, 1) := by decide +kernel
theorem d115_11 : decode (pB 115) 11 = .ok (.getfield 7, 3) := by decide +kernel
theorem d115_14 : decode (pB 115) 14 = .ok (.iconst 3, 1) := by decide +kernel
theorem d115_15 : decode (pB 115) 15 = .ok (.iaload, 1) := by decide +kernel
theorem d115_16 : decode (pB 115) 16 = .ok (.iconst 1, 1) := by decide +kernel
theorem d115_17 : decode (pB 115) 17 = .ok (.isub, 1) := by decide +kernel
theorem d115_18 : decode (pB 115) 18 = .ok (.ireturn, 1) := by decide +kernel
/-- RX5.comes -/
def t115_0 : List (Nat × pO) := [(0, o_aload 0 1), (1, o_getR 5 1 4), (4, o_push (.int (nI 3)) 5), (5, o_dup2i 6), (6, o_iald 7), (7, o_push (.int (nI 1)) 8), (8, o_iadd 9), (9, o_iast 10), (10, o_aload 0 11), (11, o_getR 5 1 14), (14, o_push (.int (nI 3)) 15), (15, o_iald 16), (16, o_push (.int (nI 1)) 17), (17, o_isub 18), (18, o_iret)]
theorem ok115_0 : ∀ q ∈ t115_0, p_Z 115 q := List.forall_mem_cons.mpr ⟨⟨s_aload_n d115_0 rfl, tl_aload _ _⟩, List.forall_mem_cons.mpr ⟨⟨f_getR_5_1 d115_1 wd_617, tl_getR _ _ _⟩, List.forall_mem_cons.mpr ⟨⟨s_iconst d115_4 rfl, tl_push _ _⟩, List.forall_mem_cons.mpr ⟨⟨s_dup2i d115_5, tl_dup2i _⟩, List.forall_mem_cons.mpr ⟨⟨s_iald d115_6, tl_iald _⟩, List.forall_mem_cons.mpr ⟨⟨s_iconst d115_7 rfl, tl_push _ _⟩, List.forall_mem_cons.mpr ⟨⟨s_iadd d115_8, tl_iadd _⟩, List.forall_mem_cons.mpr ⟨⟨s_iast d115_9, tl_iast _⟩, List.forall_mem_cons.mpr ⟨⟨s_aload_n d115_10 rfl, tl_aload _ _⟩, List.forall_mem_cons.mpr ⟨⟨f_getR_5_1 d115_11 wd_617, tl_getR _ _ _⟩, List.forall_mem_cons.mpr ⟨⟨s_iconst d115_14 rfl, tl_push _ _⟩, List.forall_mem_cons.mpr ⟨⟨s_iald d115_15, tl_iald _⟩, List.forall_mem_cons.mpr ⟨⟨s_iconst d115_16 rfl, tl_push _ _⟩, List.forall_mem_cons.mpr ⟨⟨s_isub d115_17, tl_isub _⟩, List.forall_mem_cons.mpr ⟨⟨s_iret d115_18 rfl, tl_iret⟩, fun _ h => absurd h List.not_mem_nil⟩⟩⟩⟩⟩⟩⟩⟩⟩⟩⟩⟩⟩⟩⟩
def t115 : List (Nat × pO) := t115_0
theorem ok115 : ∀ q ∈ t115, p_Z 115 q := ok115_0
theorem d116_0 : decode (pB 116) 0 = .ok (.aload_n 0, 1) := by decide +kernel
theorem d116_1 : decode (pB 116) 1 = .ok (.iconst 0, 1) := by decide +kernel
theorem d116_2 : decode (pB 116) 2 = .ok (.putfield 44, 3) := by decide +kernel
theorem d116_5 : decode (pB 116) 5 = .ok (.aload_n 0, 1) := by decide +kernel
theorem d116_6 : decode (pB 116) 6 = .ok (.getfield 7, 3) := by decide +kernel
theorem d116_9 : decode (pB 116) 9 = .ok (.iconst 3, 1) := by decide +kernel
theorem d116_10 : decode (pB 116) 10 = .ok (.iaload, 1) := by decide +kernel
theorem d116_11 : decode (pB 116) 11 = .ok (.bipush 12, 2) := by decide +kernel
theorem d116_13 : decode (pB 116) 13 = .ok (.if_icmp .ne 6, 3) := by decide +kernel
theorem d116_16 : decode (pB 116) 16 = .ok (.bipush (-4), 2) := by decide +kernel
theorem d116_18 : decode (pB 116) 18 = .ok (.ireturn, 1) := by decide +kernel
theorem d116_19 : decode (pB 116) 19 = .ok (.aload_n 0, 1) := by decide +kernel
theorem d116_20 : decode (pB 116) 20 = .ok (.invokevirtual 93, 3) := by decide +kernel
theorem d116_23 : decode (pB 116) 23 = .ok (.aload_n 0, 1) := by decide +kernel
theorem d116_24 : decode (pB 116) 24 = .ok (.invokevirtual 96, 3) := by decide +kernel
theorem d116_27 : decode (pB 116) 27 = .ok (.ireturn, 1) := by decide +kernel
/-- RX5.cousin -/
def t116_0 : List (Nat × pO) := [(0, o_aload 0 1), (1, o_push (.int (nI 0)) 2), (2, o_putI 5 0 5), (5, o_aload 0 6), (6, o_getR 5 1 9), (9, o_push (.int (nI 3)) 10), (10, o_iald 11), (11, o_push (.int (nI 12)) 13), (13, o_icne 19 16), (16, o_push (.int (nM 4)) 18), (18, o_iret), (19, o_aload 0 20), (20, o_invV 5 100 0 23), (23, o_aload 0 24), (24, o_invV 5 115 0 27), (27, o_iret)]
theorem ok116_0 : ∀ q ∈ t116_0, p_Z 116 q := List.forall_mem_cons.mpr ⟨⟨s_aload_n d116_0 rfl, tl_aload _ _⟩, List.forall_mem_cons.mpr ⟨⟨s_iconst d116_1 rfl, tl_push _ _⟩, List.forall_mem_cons.mpr ⟨⟨f_putI_5_0 d116_2 wd_616, tl_putI _ _ _⟩, List.forall_mem_cons.mpr ⟨⟨s_aload_n d116_5 rfl, tl_aload _ _⟩, List.forall_mem_cons.mpr ⟨⟨f_getR_5_1 d116_6 wd_617, tl_getR _ _ _⟩, List.forall_mem_cons.mpr ⟨⟨s_iconst d116_9 rfl, tl_push _ _⟩, List.forall_mem_cons.mpr ⟨⟨s_iald d116_10, tl_iald _⟩, List.forall_mem_cons.mpr ⟨⟨s_bipush d116_11 rfl, tl_push _ _⟩, List.forall_mem_cons.mpr ⟨⟨s_icne d116_13 rfl, tl_icne _ _⟩, List.forall_mem_cons.mpr ⟨⟨s_bipush d116_16 rfl, tl_push _ _⟩, List.forall_mem_cons.mpr ⟨⟨s_iret d116_18 rfl, tl_iret⟩, List.forall_mem_cons.mpr ⟨⟨s_aload_n d116_19 rfl, tl_aload _ _⟩, List.forall_mem_cons.mpr ⟨⟨q_invV_100 d116_20 wd_682, tl_invV _ _ _ _⟩, List.forall_mem_cons.mpr ⟨⟨s_aload_n d116_23 rfl, tl_aload _ _⟩, List.forall_mem_cons.mpr ⟨⟨q_invV_115 d116_24 wd_690, tl_invV _ _ _ _⟩, List.forall_mem_cons.mpr ⟨⟨s_iret d116_27 rfl, tl_iret⟩, fun _ h => absurd h List.not_mem_nil⟩⟩⟩⟩⟩⟩⟩⟩⟩⟩⟩⟩⟩⟩⟩⟩
def t116 : List (Nat × pO) := t116_0
theorem ok116 : ∀ q ∈ t116, p_Z 116 q := ok116_0
theorem d117_0 : decode (pB 117) 0 = .ok (.aload_n 0, 1) := by decide +kernel
theorem d117_1 : decode (pB 117) 1 = .ok (.iload_n 1, 1) := by decide +kernel
theorem d117_2 : decode (pB 117) 2 = .ok (.invokevirtual 100, 3) := by decide +kernel
theorem d117_5 : decode (pB 117) 5 = .ok (.ifCond .eq 11, 3) := by decide +kernel
theorem d117_8 : decode (pB 117) 8 = .ok (.aload_n 0, 1) := by decide +kernel
theorem d117_9 : decode (pB 117) 9 = .ok (.iload_n 2, 1) := by decide +kernel
theorem d117_10 : decode (pB 117) 10 = .ok (.invokevirtual 103, 3) := by decide +kernel
theorem d117_13 : decode (pB 117) 13 = .ok (.ifCond .ne 5, 3) := by decide +kernel
theorem d117_16 : decode (pB 117) 16 = .ok (.iconst (-1), 1) := by decide +kernel
theorem d117_17 : decode (pB 117) 17 = .ok (.ireturn, 1) := by decide +kernel
theorem d117_18 : decode (pB 117) 18 = .ok (.aload_n 0, 1) := by decide +kernel
theorem d117_19 : decode (pB 117) 19 = .ok (.getfield 7, 3) := by decide +kernel
theorem d117_22 : decode (pB 117) 22 = .ok (.iconst 4, 1) := by decide +kernel
theorem d117_23 : decode (pB 117) 23 = .ok (.iaload, 1) := by decide +kernel
theorem d117_24 : decode (pB 117) 24 = .ok (.ifCond .gt 13, 3) := by decide +kernel
theorem d117_27 : decode (pB 117) 27 = .ok (.aload_n 0, 1) := by decide +kernel
theorem d117_28 : decode (pB 117) 28 = .ok (.iload_n 2, 1) := by decide +kernel
theorem d117_29 : decode (pB 117) 29 = .ok (.invokevirtual 77, 3) := by decide +kernel
theorem d117_32 : decode (pB 117) 32 = .ok (.bipush (-6), 2) := by decide +kernel
theorem d117_34 : decode (pB 117) 34 = .ok (.if_icmp .eq 8, 3) := by decide +kernel
theorem d117_37 : decode (pB 117) 37 = .ok (.bipush (-5), 2) := by decide +kernel
theorem d117_39 : decode (pB 117) 39 = .ok (.goto 4, 3) := by decide +kernel
theorem d117_42 : decode (pB 117) 42 = .ok (.iconst 0, 1) := by decide +kernel
theorem d117_43 : decode (pB 117) 43 = .ok (.ireturn, 1) := by decide +kernel
/-- RX5.refusesSeat -/
def t117_0 : List (Nat × pO) := [(0, o_aload 0 1), (1, o_iload 1 2), (2, o_invV 5 97 1 5), (5, o_ifeq 16 8), (8, o_aload 0 9), (9, o_iload 2 10), (10, o_invV 5 98 1 13), (13, o_ifne 18 16), (16, o_push (.int (nM 1)) 17), (17, o_iret), (18, o_aload 0 19), (19, o_getR 5 1 22), (22, o_push (.int (nI 4)) 23), (23, o_iald 24), (24, o_ifgt 37 27), (27, o_aload 0 28), (28, o_iload 2 29), (29, o_invV 5 107 1 32), (32, o_push (.int (nM 6)) 34), (34, o_iceq 42 37), (37, o_push (.int (nM 5)) 39), (39, o_goto 43), (42, o_push (.int (nI 0)) 43), (43, o_iret)]
theorem ok117_0 : ∀ q ∈ t117_0, p_Z 117 q := List.forall_mem_cons.mpr ⟨⟨s_aload_n d117_0 rfl, tl_aload _ _⟩, List.forall_mem_cons.mpr ⟨⟨s_iload_n d117_1 rfl, tl_iload _ _⟩, List.forall_mem_cons.mpr ⟨⟨q_invV_97 d117_2 wd_702, tl_invV _ _ _ _⟩, List.forall_mem_cons.mpr ⟨⟨s_ifeq d117_5 rfl, tl_ifeq _ _⟩, List.forall_mem_cons.mpr ⟨⟨s_aload_n d117_8 rfl, tl_aload _ _⟩, List.forall_mem_cons.mpr ⟨⟨s_iload_n d117_9 rfl, tl_iload _ _⟩, List.forall_mem_cons.mpr ⟨⟨q_invV_98 d117_10 wd_706, tl_invV _ _ _ _⟩, List.forall_mem_cons.mpr ⟨⟨s_ifne d117_13 rfl, tl_ifne _ _⟩, List.forall_mem_cons.mpr ⟨⟨s_iconst d117_16 rfl, tl_push _ _⟩, List.forall_mem_cons.mpr ⟨⟨s_iret d117_17 rfl, tl_iret⟩, List.forall_mem_cons.mpr ⟨⟨s_aload_n d117_18 rfl, tl_aload _ _⟩, List.forall_mem_cons.mpr ⟨⟨f_getR_5_1 d117_19 wd_617, tl_getR _ _ _⟩, List.forall_mem_cons.mpr ⟨⟨s_iconst d117_22 rfl, tl_push _ _⟩, List.forall_mem_cons.mpr ⟨⟨s_iald d117_23, tl_iald _⟩, List.forall_mem_cons.mpr ⟨⟨s_ifgt d117_24 rfl, tl_ifgt _ _⟩, List.forall_mem_cons.mpr ⟨⟨s_aload_n d117_27 rfl, tl_aload _ _⟩, List.forall_mem_cons.mpr ⟨⟨s_iload_n d117_28 rfl, tl_iload _ _⟩, List.forall_mem_cons.mpr ⟨⟨q_invV_107 d117_29 wd_710, tl_invV _ _ _ _⟩, List.forall_mem_cons.mpr ⟨⟨s_bipush d117_32 rfl, tl_push _ _⟩, List.forall_mem_cons.mpr ⟨⟨s_iceq d117_34 rfl, tl_iceq _ _⟩, List.forall_mem_cons.mpr ⟨⟨s_bipush d117_37 rfl, tl_push _ _⟩, List.forall_mem_cons.mpr ⟨⟨s_goto d117_39 rfl, tl_goto _⟩, List.forall_mem_cons.mpr ⟨⟨s_iconst d117_42 rfl, tl_push _ _⟩, List.forall_mem_cons.mpr ⟨⟨s_iret d117_43 rfl, tl_iret⟩, fun _ h => absurd h List.not_mem_nil⟩⟩⟩⟩⟩⟩⟩⟩⟩⟩⟩⟩⟩⟩⟩⟩⟩⟩⟩⟩⟩⟩⟩⟩
def t117 : List (Nat × pO) := t117_0
theorem ok117 : ∀ q ∈ t117, p_Z 117 q := ok117_0
theorem d118_0 : decode (pB 118) 0 = .ok (.aload_n 0, 1) := by decide +kernel
theorem d118_1 : decode (pB 118) 1 = .ok (.iconst 0, 1) := by decide +kernel
theorem d118_2 : decode (pB 118) 2 = .ok (.putfield 44, 3) := by decide +kernel
theorem d118_5 : decode (pB 118) 5 = .ok (.aload_n 0, 1) := by decide +kernel
theorem d118_6 : decode (pB 118) 6 = .ok (.iload_n 1, 1) := by decide +kernel
theorem d118_7 : decode (pB 118) 7 = .ok (.iload_n 2, 1) := by decide +kernel
theorem d118_8 : decode (pB 118) 8 = .ok (.invokevirtual 106, 3) := by decide +kernel
theorem d118_11 : decode (pB 118) 11 = .ok (.istore_n 3, 1) := by decide +kernel
theorem d118_12 : decode (pB 118) 12 = .ok (.iload_n 3, 1) := by decide +kernel
theorem d118_13 : decode (pB 118) 13 = .ok (.ifCond .eq 5, 3) := by decide +kernel
theorem d118_16 : decode (pB 118) 16 = .ok (.iload_n 3, 1) := by decide +kernel
theorem d118_17 : decode (pB 118) 17 = .ok (.ireturn, 1) := by decide +kernel
theorem d118_18 : decode (pB 118) 18 = .ok (.aload_n 0, 1) := by decide +kernel
theorem d118_19 : decode (pB 118) 19 = .ok (.invokevirtual 93, 3) := by decide +kernel
theorem d118_22 : decode (pB 118) 22 = .ok (.aload_n 0, 1) := by decide +kernel
theorem d118_23 : decode (pB 118) 23 = .ok (.getfield 7, 3) := by decide +kernel
theorem d118_26 : decode (pB 118) 26 = .ok (.bipush 10, 2) := by decide +kernel
theorem d118_28 : decode (pB 118) 28 = .ok (.iload_n 1, 1) := by decide +kernel
theorem d118_29 : decode (pB 118) 29 = .ok (.iadd, 1) := by decide +kernel
theorem d118_30 : decode (pB 118) 30 = .ok (.iaload, 1) := by decide +kernel
theorem d118_31 : decode (pB 118) 31 = .ok (.istore 4, 2) := by decide +kernel
theorem d118_33 : decode (pB 118) 33 = .ok (.aload_n 0, 1) := by decide +kernel
theorem d118_34 : decode (pB 118) 34 = .ok (.getfield 7, 3) := by decide +kernel
theorem d118_37 : decode (pB 118) 37 = .ok (.bipush 10, 2) := by decide +kernel
theorem d118_39 : decode (pB 118) 39 = .ok (.iload_n 1, 1) := by decide +kernel
theorem d118_40 : decode (pB 118) 40 = .ok (.iadd, 1) := by decide +kernel
theorem d118_41 : decode (pB 118) 41 = .ok (.iload_n 2, 1) := by decide +kernel
theorem d118_42 : decode (pB 118) 42 = .ok (.iastore, 1) := by decide +kernel
theorem d118_43 : decode (pB 118) 43 = .ok (.iload 4, 2) := by decide +kernel
theorem d118_45 : decode (pB 118) 45 = .ok (.ireturn, 1) := by decide +kernel
theorem st1_118_3 : p_st1 118 3 = true := by decide +kernel
theorem st1_118_4 : p_st1 118 4 = true := by decide +kernel
/-- RX5.sit -/
def t118_0 : List (Nat × pO) := [(0, o_aload 0 1), (1, o_push (.int (nI 0)) 2), (2, o_putI 5 0 5), (5, o_aload 0 6), (6, o_iload 1 7), (7, o_iload 2 8), (8, o_invV 5 117 2 11), (11, o_istore 3 12), (12, o_iload 3 13), (13, o_ifeq 18 16), (16, o_iload 3 17), (17, o_iret), (18, o_aload 0 19), (19, o_invV 5 100 0 22), (22, o_aload 0 23), (23, o_getR 5 1 26), (26, o_push (.int (nI 10)) 28), (28, o_iload 1 29), (29, o_iadd 30), (30, o_iald 31), (31, o_istore 4 33), (33, o_aload 0 34), (34, o_getR 5 1 37), (37, o_push (.int (nI 10)) 39), (39, o_iload 1 40), (40, o_iadd 41), (41, o_iload 2 42), (42, o_iast 43), (43, o_iload 4 45), (45, o_iret)]
theorem ok118_0 : ∀ q ∈ t118_0, p_Z 118 q := List.forall_mem_cons.mpr ⟨⟨s_aload_n d118_0 rfl, tl_aload _ _⟩, List.forall_mem_cons.mpr ⟨⟨s_iconst d118_1 rfl, tl_push _ _⟩, List.forall_mem_cons.mpr ⟨⟨f_putI_5_0 d118_2 wd_616, tl_putI _ _ _⟩, List.forall_mem_cons.mpr ⟨⟨s_aload_n d118_5 rfl, tl_aload _ _⟩, List.forall_mem_cons.mpr ⟨⟨s_iload_n d118_6 rfl, tl_iload _ _⟩, List.forall_mem_cons.mpr ⟨⟨s_iload_n d118_7 rfl, tl_iload _ _⟩, List.forall_mem_cons.mpr ⟨⟨q_invV_117 d118_8 wd_698, tl_invV _ _ _ _⟩, List.forall_mem_cons.mpr ⟨⟨s_istore_n d118_11 rfl st1_118_3, tl_istore _ _⟩, List.forall_mem_cons.mpr ⟨⟨s_iload_n d118_12 rfl, tl_iload _ _⟩, List.forall_mem_cons.mpr ⟨⟨s_ifeq d118_13 rfl, tl_ifeq _ _⟩, List.forall_mem_cons.mpr ⟨⟨s_iload_n d118_16 rfl, tl_iload _ _⟩, List.forall_mem_cons.mpr ⟨⟨s_iret d118_17 rfl, tl_iret⟩, List.forall_mem_cons.mpr ⟨⟨s_aload_n d118_18 rfl, tl_aload _ _⟩, List.forall_mem_cons.mpr ⟨⟨q_invV_100 d118_19 wd_682, tl_invV _ _ _ _⟩, List.forall_mem_cons.mpr ⟨⟨s_aload_n d118_22 rfl, tl_aload _ _⟩, List.forall_mem_cons.mpr ⟨⟨f_getR_5_1 d118_23 wd_617, tl_getR _ _ _⟩, List.forall_mem_cons.mpr ⟨⟨s_bipush d118_26 rfl, tl_push _ _⟩, List.forall_mem_cons.mpr ⟨⟨s_iload_n d118_28 rfl, tl_iload _ _⟩, List.forall_mem_cons.mpr ⟨⟨s_iadd d118_29, tl_iadd _⟩, List.forall_mem_cons.mpr ⟨⟨s_iald d118_30, tl_iald _⟩, List.forall_mem_cons.mpr ⟨⟨s_istore d118_31 st1_118_4, tl_istore _ _⟩, List.forall_mem_cons.mpr ⟨⟨s_aload_n d118_33 rfl, tl_aload _ _⟩, List.forall_mem_cons.mpr ⟨⟨f_getR_5_1 d118_34 wd_617, tl_getR _ _ _⟩, List.forall_mem_cons.mpr ⟨⟨s_bipush d118_37 rfl, tl_push _ _⟩, List.forall_mem_cons.mpr ⟨⟨s_iload_n d118_39 rfl, tl_iload _ _⟩, List.forall_mem_cons.mpr ⟨⟨s_iadd d118_40, tl_iadd _⟩, List.forall_mem_cons.mpr ⟨⟨s_iload_n d118_41 rfl, tl_iload _ _⟩, List.forall_mem_cons.mpr ⟨⟨s_iast d118_42, tl_iast _⟩, List.forall_mem_cons.mpr ⟨⟨s_iload d118_43, tl_iload _ _⟩, List.forall_mem_cons.mpr ⟨⟨s_iret d118_45 rfl, tl_iret⟩, fun _ h => absurd h List.not_mem_nil⟩⟩⟩⟩⟩⟩⟩⟩⟩⟩⟩⟩⟩⟩⟩⟩⟩⟩⟩⟩⟩⟩⟩⟩⟩⟩⟩⟩⟩⟩
def t118 : List (Nat × pO) := t118_0
theorem ok118 : ∀ q ∈ t118, p_Z 118 q := ok118_0
theorem d119_0 : decode (pB 119) 0 = .ok (.aload_n 0, 1) := by decide +kernel
theorem d119_1 : decode (pB 119) 1 = .ok (.iload_n 1, 1) := by decide +kernel
theorem d119_2 : decode (pB 119) 2 = .ok (.invokevirtual 100, 3) := by decide +kernel
theorem d119_5 : decode (pB 119) 5 = .ok (.ifCond .ne 5, 3) := by decide +kernel
theorem d119_8 : decode (pB 119) 8 = .ok (.iconst (-1), 1) := by decide +kernel
theorem d119_9 : decode (pB 119) 9 = .ok (.ireturn, 1) := by decide +kernel
theorem d119_10 : decode (pB 119) 10 = .ok (.aload_n 0, 1) := by decide +kernel
theorem d119_11 : decode (pB 119) 11 = .ok (.getfield 7, 3) := by decide +kernel
theorem d119_14 : decode (pB 119) 14 = .ok (.iconst 4, 1) := by decide +kernel
theorem d119_15 : decode (pB 119) 15 = .ok (.iaload, 1) := by decide +kernel
theorem d119_16 : decode (pB 119) 16 = .ok (.ifCond .gt 17, 3) := by decide +kernel
theorem d119_19 : decode (pB 119) 19 = .ok (.aload_n 0, 1) := by decide +kernel
theorem d119_20 : decode (pB 119) 20 = .ok (.getfield 7, 3) := by decide +kernel
theorem d119_23 : decode (pB 119) 23 = .ok (.bipush 10, 2) := by decide +kernel
theorem d119_25 : decode (pB 119) 25 = .ok (.iload_n 1, 1) := by decide +kernel
theorem d119_26 : decode (pB 119) 26 = .ok (.iadd, 1) := by decide +kernel
theorem d119_27 : decode (pB 119) 27 = .ok (.iaload, 1) := by decide +kernel
theorem d119_28 : decode (pB 119) 28 = .ok (.bipush (-6), 2) := by decide +kernel
theorem d119_30 : decode (pB 119) 30 = .ok (.if_icmp .ne 8, 3) := by decide +kernel
theorem d119_33 : decode (pB 119) 33 = .ok (.bipush (-5), 2) := by decide +kernel
theorem d119_35 : decode (pB 119) 35 = .ok (.goto 4, 3) := by decide +kernel
theorem d119_38 : decode (pB 119) 38 = .ok (.iconst 0, 1) := by decide +kernel
theorem d119_39 : decode (pB 119) 39 = .ok (.ireturn, 1) := by decide +kernel
/-- RX5.refusesStand -/
def t119_0 : List (Nat × pO) := [(0, o_aload 0 1), (1, o_iload 1 2), (2, o_invV 5 97 1 5), (5, o_ifne 10 8), (8, o_push (.int (nM 1)) 9), (9, o_iret), (10, o_aload 0 11), (11, o_getR 5 1 14), (14, o_push (.int (nI 4)) 15), (15, o_iald 16), (16, o_ifgt 33 19), (19, o_aload 0 20), (20, o_getR 5 1 23), (23, o_push (.int (nI 10)) 25), (25, o_iload 1 26), (26, o_iadd 27), (27, o_iald 28), (28, o_push (.int (nM 6)) 30), (30, o_icne 38 33), (33, o_push (.int (nM 5)) 35), (35, o_goto 39), (38, o_push (.int (nI 0)) 39), (39, o_iret)]
theorem ok119_0 : ∀ q ∈ t119_0, p_Z 119 q := List.forall_mem_cons.mpr ⟨⟨s_aload_n d119_0 rfl, tl_aload _ _⟩, List.forall_mem_cons.mpr ⟨⟨s_iload_n d119_1 rfl, tl_iload _ _⟩, List.forall_mem_cons.mpr ⟨⟨q_invV_97 d119_2 wd_702, tl_invV _ _ _ _⟩, List.forall_mem_cons.mpr ⟨⟨s_ifne d119_5 rfl, tl_ifne _ _⟩, List.forall_mem_cons.mpr ⟨⟨s_iconst d119_8 rfl, tl_push _ _⟩, List.forall_mem_cons.mpr ⟨⟨s_iret d119_9 rfl, tl_iret⟩, List.forall_mem_cons.mpr ⟨⟨s_aload_n d119_10 rfl, tl_aload _ _⟩, List.forall_mem_cons.mpr ⟨⟨f_getR_5_1 d119_11 wd_617, tl_getR _ _ _⟩, List.forall_mem_cons.mpr ⟨⟨s_iconst d119_14 rfl, tl_push _ _⟩, List.forall_mem_cons.mpr ⟨⟨s_iald d119_15, tl_iald _⟩, List.forall_mem_cons.mpr ⟨⟨s_ifgt d119_16 rfl, tl_ifgt _ _⟩, List.forall_mem_cons.mpr ⟨⟨s_aload_n d119_19 rfl, tl_aload _ _⟩, List.forall_mem_cons.mpr ⟨⟨f_getR_5_1 d119_20 wd_617, tl_getR _ _ _⟩, List.forall_mem_cons.mpr ⟨⟨s_bipush d119_23 rfl, tl_push _ _⟩, List.forall_mem_cons.mpr ⟨⟨s_iload_n d119_25 rfl, tl_iload _ _⟩, List.forall_mem_cons.mpr ⟨⟨s_iadd d119_26, tl_iadd _⟩, List.forall_mem_cons.mpr ⟨⟨s_iald d119_27, tl_iald _⟩, List.forall_mem_cons.mpr ⟨⟨s_bipush d119_28 rfl, tl_push _ _⟩, List.forall_mem_cons.mpr ⟨⟨s_icne d119_30 rfl, tl_icne _ _⟩, List.forall_mem_cons.mpr ⟨⟨s_bipush d119_33 rfl, tl_push _ _⟩, List.forall_mem_cons.mpr ⟨⟨s_goto d119_35 rfl, tl_goto _⟩, List.forall_mem_cons.mpr ⟨⟨s_iconst d119_38 rfl, tl_push _ _⟩, List.forall_mem_cons.mpr ⟨⟨s_iret d119_39 rfl, tl_iret⟩, fun _ h => absurd h List.not_mem_nil⟩⟩⟩⟩⟩⟩⟩⟩⟩⟩⟩⟩⟩⟩⟩⟩⟩⟩⟩⟩⟩⟩⟩
def t119 : List (Nat × pO) := t119_0
theorem ok119 : ∀ q ∈ t119, p_Z 119 q := ok119_0
theorem d120_0 : decode (pB 120) 0 = .ok (.aload_n 0, 1) := by decide +kernel
theorem d120_1 : decode (pB 120) 1 = .ok (.iconst 0, 1) := by decide +kernel
theorem d120_2 : decode (pB 120) 2 = .ok (.putfield 44, 3) := by decide +kernel
theorem d120_5 : decode (pB 120) 5 = .ok (.aload_n 0, 1) := by decide +kernel
theorem d120_6 : decode (pB 120) 6 = .ok (.iload_n 1, 1) := by decide +kernel
theorem d120_7 : decode (pB 120) 7 = .ok (.invokevirtual 109, 3) := by decide +kernel
theorem d120_10 : decode (pB 120) 10 = .ok (.istore_n 2, 1) := by decide +kernel
theorem d120_11 : decode (pB 120) 11 = .ok (.iload_n 2, 1) := by decide +kernel
theorem d120_12 : decode (pB 120) 12 = .ok (.ifCond .eq 5, 3) := by decide +kernel
theorem d120_15 : decode (pB 120) 15 = .ok (.iload_n 2, 1) := by decide +kernel
theorem d120_16 : decode (pB 120) 16 = .ok (.ireturn, 1) := by decide +kernel
theorem d120_17 : decode (pB 120) 17 = .ok (.aload_n 0, 1) := by decide +kernel
theorem d120_18 : decode (pB 120) 18 = .ok (.invokevirtual 93, 3) := by decide +kernel
theorem d120_21 : decode (pB 120) 21 = .ok (.aload_n 0, 1) := by decide +kernel
theorem d120_22 : decode (pB 120) 22 = .ok (.getfield 7, 3) := by decide +kernel
theorem d120_25 : decode (pB 120) 25 = .ok (.bipush 10, 2) := by decide +kernel
theorem d120_27 : decode (pB 120) 27 = .ok (.iload_n 1, 1) := by decide +kernel
theorem d120_28 : decode (pB 120) 28 = .ok (.iadd, 1) := by decide +kernel
theorem d120_29 : decode (pB 120) 29 = .ok (.iaload, 1) := by decide +kernel
theorem d120_30 : decode (pB 120) 30 = .ok (.istore_n 3, 1) := by decide +kernel
theorem d120_31 : decode (pB 120) 31 = .ok (.aload_n 0, 1) := by decide +kernel
theorem d120_32 : decode (pB 120) 32 = .ok (.getfield 7, 3) := by decide +kernel
theorem d120_35 : decode (pB 120) 35 = .ok (.bipush 10, 2) := by decide +kernel
theorem d120_37 : decode (pB 120) 37 = .ok (.iload_n 1, 1) := by decide +kernel
theorem d120_38 : decode (pB 120) 38 = .ok (.iadd, 1) := by decide +kernel
theorem d120_39 : decode (pB 120) 39 = .ok (.bipush (-6), 2) := by decide +kernel
theorem d120_41 : decode (pB 120) 41 = .ok (.iastore, 1) := by decide +kernel
theorem d120_42 : decode (pB 120) 42 = .ok (.iload_n 3, 1) := by decide +kernel
theorem d120_43 : decode (pB 120) 43 = .ok (.ireturn, 1) := by decide +kernel
theorem st1_120_2 : p_st1 120 2 = true := by decide +kernel
theorem st1_120_3 : p_st1 120 3 = true := by decide +kernel
/-- RX5.stand -/
def t120_0 : List (Nat × pO) := [(0, o_aload 0 1), (1, o_push (.int (nI 0)) 2), (2, o_putI 5 0 5), (5, o_aload 0 6), (6, o_iload 1 7), (7, o_invV 5 119 1 10), (10, o_istore 2 11), (11, o_iload 2 12), (12, o_ifeq 17 15), (15, o_iload 2 16), (16, o_iret), (17, o_aload 0 18), (18, o_invV 5 100 0 21), (21, o_aload 0 22), (22, o_getR 5 1 25), (25, o_push (.int (nI 10)) 27), (27, o_iload 1 28), (28, o_iadd 29), (29, o_iald 30), (30, o_istore 3 31), (31, o_aload 0 32), (32, o_getR 5 1 35), (35, o_push (.int (nI 10)) 37), (37, o_iload 1 38), (38, o_iadd 39), (39, o_push (.int (nM 6)) 41), (41, o_iast 42), (42, o_iload 3 43), (43, o_iret)]
theorem ok120_0 : ∀ q ∈ t120_0, p_Z 120 q := List.forall_mem_cons.mpr ⟨⟨s_aload_n d120_0 rfl, tl_aload _ _⟩, List.forall_mem_cons.mpr ⟨⟨s_iconst d120_1 rfl, tl_push _ _⟩, List.forall_mem_cons.mpr ⟨⟨f_putI_5_0 d120_2 wd_616, tl_putI _ _ _⟩, List.forall_mem_cons.mpr ⟨⟨s_aload_n d120_5 rfl, tl_aload _ _⟩, List.forall_mem_cons.mpr ⟨⟨s_iload_n d120_6 rfl, tl_iload _ _⟩, List.forall_mem_cons.mpr ⟨⟨q_invV_119 d120_7 wd_718, tl_invV _ _ _ _⟩, List.forall_mem_cons.mpr ⟨⟨s_istore_n d120_10 rfl st1_120_2, tl_istore _ _⟩, List.forall_mem_cons.mpr ⟨⟨s_iload_n d120_11 rfl, tl_iload _ _⟩, List.forall_mem_cons.mpr ⟨⟨s_ifeq d120_12 rfl, tl_ifeq _ _⟩, List.forall_mem_cons.mpr ⟨⟨s_iload_n d120_15 rfl, tl_iload _ _⟩, List.forall_mem_cons.mpr ⟨⟨s_iret d120_16 rfl, tl_iret⟩, List.forall_mem_cons.mpr ⟨⟨s_aload_n d120_17 rfl, tl_aload _ _⟩, List.forall_mem_cons.mpr ⟨⟨q_invV_100 d120_18 wd_682, tl_invV _ _ _ _⟩, List.forall_mem_cons.mpr ⟨⟨s_aload_n d120_21 rfl, tl_aload _ _⟩, List.forall_mem_cons.mpr ⟨⟨f_getR_5_1 d120_22 wd_617, tl_getR _ _ _⟩, List.forall_mem_cons.mpr ⟨⟨s_bipush d120_25 rfl, tl_push _ _⟩, List.forall_mem_cons.mpr ⟨⟨s_iload_n d120_27 rfl, tl_iload _ _⟩, List.forall_mem_cons.mpr ⟨⟨s_iadd d120_28, tl_iadd _⟩, List.forall_mem_cons.mpr ⟨⟨s_iald d120_29, tl_iald _⟩, List.forall_mem_cons.mpr ⟨⟨s_istore_n d120_30 rfl st1_120_3, tl_istore _ _⟩, List.forall_mem_cons.mpr ⟨⟨s_aload_n d120_31 rfl, tl_aload _ _⟩, List.forall_mem_cons.mpr ⟨⟨f_getR_5_1 d120_32 wd_617, tl_getR _ _ _⟩, List.forall_mem_cons.mpr ⟨⟨s_bipush d120_35 rfl, tl_push _ _⟩, List.forall_mem_cons.mpr ⟨⟨s_iload_n d120_37 rfl, tl_iload _ _⟩, List.forall_mem_cons.mpr ⟨⟨s_iadd d120_38, tl_iadd _⟩, List.forall_mem_cons.mpr ⟨⟨s_bipush d120_39 rfl, tl_push _ _⟩, List.forall_mem_cons.mpr ⟨⟨s_iast d120_41, tl_iast _⟩, List.forall_mem_cons.mpr ⟨⟨s_iload_n d120_42 rfl, tl_iload _ _⟩, List.forall_mem_cons.mpr ⟨⟨s_iret d120_43 rfl, tl_iret⟩, fun _ h => absurd h List.not_mem_nil⟩⟩⟩⟩⟩⟩⟩⟩⟩⟩⟩⟩⟩⟩⟩⟩⟩⟩⟩⟩⟩⟩⟩⟩⟩⟩⟩⟩⟩
def t120 : List (Nat × pO) := t120_0
theorem ok120 : ∀ q ∈ t120, p_Z 120 q := ok120_0
theorem d121_0 : decode (pB 121) 0 = .ok (.aload_n 0, 1) := by decide +kernel
theorem d121_1 : decode (pB 121) 1 = .ok (.iload_n 1, 1) := by decide +kernel
theorem d121_2 : decode (pB 121) 2 = .ok (.invokevirtual 77, 3) := by decide +kernel
theorem d121_5 : decode (pB 121) 5 = .ok (.istore_n 3, 1) := by decide +kernel
theorem d121_6 : decode (pB 121) 6 = .ok (.aload_n 0, 1) := by decide +kernel
theorem d121_7 : decode (pB 121) 7 = .ok (.iload_n 2, 1) := by decide +kernel
theorem d121_8 : decode (pB 121) 8 = .ok (.invokevirtual 77, 3) := by decide +kernel
theorem d121_11 : decode (pB 121) 11 = .ok (.istore 4, 2) := by decide +kernel
theorem d121_13 : decode (pB 121) 13 = .ok (.iload_n 3, 1) := by decide +kernel
theorem d121_14 : decode (pB 121) 14 = .ok (.bipush (-6), 2) := by decide +kernel
theorem d121_16 : decode (pB 121) 16 = .ok (.if_icmp .eq 13, 3) := by decide +kernel
theorem d121_19 : decode (pB 121) 19 = .ok (.aload_n 0, 1) := by decide +kernel
theorem d121_20 : decode (pB 121) 20 = .ok (.getfield 7, 3) := by decide +kernel
theorem d121_23 : decode (pB 121) 23 = .ok (.bipush 10, 2) := by decide +kernel
theorem d121_25 : decode (pB 121) 25 = .ok (.iload_n 3, 1) := by decide +kernel
theorem d121_26 : decode (pB 121) 26 = .ok (.iadd, 1) := by decide +kernel
theorem d121_27 : decode (pB 121) 27 = .ok (.iload_n 2, 1) := by decide +kernel
theorem d121_28 : decode (pB 121) 28 = .ok (.iastore, 1) := by decide +kernel
theorem d121_29 : decode (pB 121) 29 = .ok (.iload 4, 2) := by decide +kernel
theorem d121_31 : decode (pB 121) 31 = .ok (.bipush (-6), 2) := by decide +kernel
theorem d121_33 : decode (pB 121) 33 = .ok (.if_icmp .eq 14, 3) := by decide +kernel
theorem d121_36 : decode (pB 121) 36 = .ok (.aload_n 0, 1) := by decide +kernel
theorem d121_37 : decode (pB 121) 37 = .ok (.getfield 7, 3) := by decide +kernel
theorem d121_40 : decode (pB 121) 40 = .ok (.bipush 10, 2) := by decide +kernel
theorem d121_42 : decode (pB 121) 42 = .ok (.iload 4, 2) := by decide +kernel
theorem d121_44 : decode (pB 121) 44 = .ok (.iadd, 1) := by decide +kernel
theorem d121_45 : decode (pB 121) 45 = .ok (.iload_n 1, 1) := by decide +kernel
theorem d121_46 : decode (pB 121) 46 = .ok (.iastore, 1) := by decide +kernel
theorem d121_47 : decode (pB 121) 47 = .ok (.iload_n 3, 1) := by decide +kernel
theorem d121_48 : decode (pB 121) 48 = .ok (.bipush (-6), 2) := by decide +kernel
theorem d121_50 : decode (pB 121) 50 = .ok (.if_icmp .ne 7, 3) := by decide +kernel
theorem d121_53 : decode (pB 121) 53 = .ok (.iconst 0, 1) := by decide +kernel
theorem d121_54 : decode (pB 121) 54 = .ok (.goto 4, 3) := by decide +kernel
theorem d121_57 : decode (pB 121) 57 = .ok (.iconst 1, 1) := by decide +kernel
theorem d121_58 : decode (pB 121) 58 = .ok (.iload 4, 2) := by decide +kernel
theorem d121_60 : decode (pB 121) 60 = .ok (.bipush (-6), 2) := by decide +kernel
theorem d121_62 : decode (pB 121) 62 = .ok (.if_icmp .ne 7, 3) := by decide +kernel
theorem d121_65 : decode (pB 121) 65 = .ok (.iconst 0, 1) := by decide +kernel
theorem d121_66 : decode (pB 121) 66 = .ok (.goto 4, 3) := by decide +kernel
theorem d121_69 : decode (pB 121) 69 = .ok (.iconst 1, 1) := by decide +kernel
theorem d121_70 : decode (pB 121) 70 = .ok (.iadd, 1) := by decide +kernel
theorem d121_71 : decode (pB 121) 71 = .ok (.ireturn, 1) := by decide +kernel
theorem st1_121_3 : p_st1 121 3 = true := by decide +kernel
theorem st1_121_4 : p_st1 121 4 = true := by decide +kernel
/-- RX5.swaps -/
def t121_0 : List (Nat × pO) := [(0, o_aload 0 1), (1, o_iload 1 2), (2, o_invV 5 107 1 5), (5, o_istore 3 6), (6, o_aload 0 7), (7, o_iload 2 8), (8, o_invV 5 107 1 11), (11, o_istore 4 13), (13, o_iload 3 14), (14, o_push (.int (nM 6)) 16), (16, o_iceq 29 19), (19, o_aload 0 20), (20, o_getR 5 1 23), (23, o_push (.int (nI 10)) 25), (25, o_iload 3 26), (26, o_iadd 27), (27, o_iload 2 28), (28, o_iast 29), (29, o_iload 4 31), (31, o_push (.int (nM 6)) 33), (33, o_iceq 47 36), (36, o_aload 0 37), (37, o_getR 5 1 40), (40, o_push (.int (nI 10)) 42), (42, o_iload 4 44), (44, o_iadd 45), (45, o_iload 1 46), (46, o_iast 47), (47, o_iload 3 48), (48, o_push (.int (nM 6)) 50), (50, o_icne 57 53), (53, o_push (.int (nI 0)) 54), (54, o_goto 58), (57, o_push (.int (nI 1)) 58), (58, o_iload 4 60), (60, o_push (.int (nM 6)) 62), (62, o_icne 69 65), (65, o_push (.int (nI 0)) 66), (66, o_goto 70), (69, o_push (.int (nI 1)) 70)]
theorem ok121_0 : ∀ q ∈ t121_0, p_Z 121 q := List.forall_mem_cons.mpr ⟨⟨s_aload_n d121_0 rfl, tl_aload _ _⟩, List.forall_mem_cons.mpr ⟨⟨s_iload_n d121_1 rfl, tl_iload _ _⟩, List.forall_mem_cons.mpr ⟨⟨q_invV_107 d121_2 wd_710, tl_invV _ _ _ _⟩, List.forall_mem_cons.mpr ⟨⟨s_istore_n d121_5 rfl st1_121_3, tl_istore _ _⟩, List.forall_mem_cons.mpr ⟨⟨s_aload_n d121_6 rfl, tl_aload _ _⟩, List.forall_mem_cons.mpr ⟨⟨s_iload_n d121_7 rfl, tl_iload _ _⟩, List.forall_mem_cons.mpr ⟨⟨q_invV_107 d121_8 wd_710, tl_invV _ _ _ _⟩, List.forall_mem_cons.mpr ⟨⟨s_istore d121_11 st1_121_4, tl_istore _ _⟩, List.forall_mem_cons.mpr ⟨⟨s_iload_n d121_13 rfl, tl_iload _ _⟩, List.forall_mem_cons.mpr ⟨⟨s_bipush d121_14 rfl, tl_push _ _⟩, List.forall_mem_cons.mpr ⟨⟨s_iceq d121_16 rfl, tl_iceq _ _⟩, List.forall_mem_cons.mpr ⟨⟨s_aload_n d121_19 rfl, tl_aload _ _⟩, List.forall_mem_cons.mpr ⟨⟨f_getR_5_1 d121_20 wd_617, tl_getR _ _ _⟩, List.forall_mem_cons.mpr ⟨⟨s_bipush d121_23 rfl, tl_push _ _⟩, List.forall_mem_cons.mpr ⟨⟨s_iload_n d121_25 rfl, tl_iload _ _⟩, List.forall_mem_cons.mpr ⟨⟨s_iadd d121_26, tl_iadd _⟩, List.forall_mem_cons.mpr ⟨⟨s_iload_n d121_27 rfl, tl_iload _ _⟩, List.forall_mem_cons.mpr ⟨⟨s_iast d121_28, tl_iast _⟩, List.forall_mem_cons.mpr ⟨⟨s_iload d121_29, tl_iload _ _⟩, List.forall_mem_cons.mpr ⟨⟨s_bipush d121_31 rfl, tl_push _ _⟩, List.forall_mem_cons.mpr ⟨⟨s_iceq d121_33 rfl, tl_iceq _ _⟩, List.forall_mem_cons.mpr ⟨⟨s_aload_n d121_36 rfl, tl_aload _ _⟩, List.forall_mem_cons.mpr ⟨⟨f_getR_5_1 d121_37 wd_617, tl_getR _ _ _⟩, List.forall_mem_cons.mpr ⟨⟨s_bipush d121_40 rfl, tl_push _ _⟩, List.forall_mem_cons.mpr ⟨⟨s_iload d121_42, tl_iload _ _⟩, List.forall_mem_cons.mpr ⟨⟨s_iadd d121_44, tl_iadd _⟩, List.forall_mem_cons.mpr ⟨⟨s_iload_n d121_45 rfl, tl_iload _ _⟩, List.forall_mem_cons.mpr ⟨⟨s_iast d121_46, tl_iast _⟩, List.forall_mem_cons.mpr ⟨⟨s_iload_n d121_47 rfl, tl_iload _ _⟩, List.forall_mem_cons.mpr ⟨⟨s_bipush d121_48 rfl, tl_push _ _⟩, List.forall_mem_cons.mpr ⟨⟨s_icne d121_50 rfl, tl_icne _ _⟩, List.forall_mem_cons.mpr ⟨⟨s_iconst d121_53 rfl, tl_push _ _⟩, List.forall_mem_cons.mpr ⟨⟨s_goto d121_54 rfl, tl_goto _⟩, List.forall_mem_cons.mpr ⟨⟨s_iconst d121_57 rfl, tl_push _ _⟩, List.forall_mem_cons.mpr ⟨⟨s_iload d121_58, tl_iload _ _⟩, List.forall_mem_cons.mpr ⟨⟨s_bipush d121_60 rfl, tl_push _ _⟩, List.forall_mem_cons.mpr ⟨⟨s_icne d121_62 rfl, tl_icne _ _⟩, List.forall_mem_cons.mpr ⟨⟨s_iconst d121_65 rfl, tl_push _ _⟩, List.forall_mem_cons.mpr ⟨⟨s_goto d121_66 rfl, tl_goto _⟩, List.forall_mem_cons.mpr ⟨⟨s_iconst d121_69 rfl, tl_push _ _⟩, fun _ h => absurd h List.not_mem_nil⟩⟩⟩⟩⟩⟩⟩⟩⟩⟩⟩⟩⟩⟩⟩⟩⟩⟩⟩⟩⟩⟩⟩⟩⟩⟩⟩⟩⟩⟩⟩⟩⟩⟩⟩⟩⟩⟩⟩⟩
/-- RX5.swaps -/
def t121_1 : List (Nat × pO) := [(70, o_iadd 71), (71, o_iret)]
theorem ok121_1 : ∀ q ∈ t121_1, p_Z 121 q := List.forall_mem_cons.mpr ⟨⟨s_iadd d121_70, tl_iadd _⟩, List.forall_mem_cons.mpr ⟨⟨s_iret d121_71 rfl, tl_iret⟩, fun _ h => absurd h List.not_mem_nil⟩⟩
def t121 : List (Nat × pO) := t121_0 ++ (t121_1)
theorem ok121 : ∀ q ∈ t121, p_Z 121 q := List.forall_mem_append.mpr ⟨ok121_0, ok121_1⟩
theorem d122_0 : decode (pB 122) 0 = .ok (.aload_n 0, 1) := by decide +kernel
theorem d122_1 : decode (pB 122) 1 = .ok (.iconst 0, 1) := by decide +kernel
theorem d122_2 : decode (pB 122) 2 = .ok (.putfield 44, 3) := by decide +kernel
theorem d122_5 : decode (pB 122) 5 = .ok (.aload_n 0, 1) := by decide +kernel
theorem d122_6 : decode (pB 122) 6 = .ok (.iload_n 1, 1) := by decide +kernel
theorem d122_7 : decode (pB 122) 7 = .ok (.invokevirtual 103, 3) := by decide +kernel
theorem d122_10 : decode (pB 122) 10 = .ok (.ifCond .eq 11, 3) := by decide +kernel
theorem d122_13 : decode (pB 122) 13 = .ok (.aload_n 0, 1) := by decide +kernel
theorem d122_14 : decode (pB 122) 14 = .ok (.iload_n 2, 1) := by decide +kernel
theorem d122_15 : decode (pB 122) 15 = .ok (.invokevirtual 103, 3) := by decide +kernel
theorem d122_18 : decode (pB 122) 18 = .ok (.ifCond .ne 5, 3) := by decide +kernel
theorem d122_21 : decode (pB 122) 21 = .ok (.iconst (-1), 1) := by decide +kernel
theorem d122_22 : decode (pB 122) 22 = .ok (.ireturn, 1) := by decide +kernel
theorem d122_23 : decode (pB 122) 23 = .ok (.iload_n 1, 1) := by decide +kernel
theorem d122_24 : decode (pB 122) 24 = .ok (.iload_n 2, 1) := by decide +kernel
theorem d122_25 : decode (pB 122) 25 = .ok (.if_icmp .ne 6, 3) := by decide +kernel
theorem d122_28 : decode (pB 122) 28 = .ok (.bipush (-2), 2) := by decide +kernel
theorem d122_30 : decode (pB 122) 30 = .ok (.ireturn, 1) := by decide +kernel
theorem d122_31 : decode (pB 122) 31 = .ok (.aload_n 0, 1) := by decide +kernel
theorem d122_32 : decode (pB 122) 32 = .ok (.getfield 7, 3) := by decide +kernel
theorem d122_35 : decode (pB 122) 35 = .ok (.iconst 4, 1) := by decide +kernel
theorem d122_36 : decode (pB 122) 36 = .ok (.iaload, 1) := by decide +kernel
theorem d122_37 : decode (pB 122) 37 = .ok (.ifCond .le 6, 3) := by decide +kernel
theorem d122_40 : decode (pB 122) 40 = .ok (.bipush (-5), 2) := by decide +kernel
theorem d122_42 : decode (pB 122) 42 = .ok (.ireturn, 1) := by decide +kernel
theorem d122_43 : decode (pB 122) 43 = .ok (.aload_n 0, 1) := by decide +kernel
theorem d122_44 : decode (pB 122) 44 = .ok (.invokevirtual 93, 3) := by decide +kernel
theorem d122_47 : decode (pB 122) 47 = .ok (.aload_n 0, 1) := by decide +kernel
theorem d122_48 : decode (pB 122) 48 = .ok (.iload_n 1, 1) := by decide +kernel
theorem d122_49 : decode (pB 122) 49 = .ok (.iload_n 2, 1) := by decide +kernel
theorem d122_50 : decode (pB 122) 50 = .ok (.invokevirtual 112, 3) := by decide +kernel
theorem d122_53 : decode (pB 122) 53 = .ok (.ireturn, 1) := by decide +kernel
/-- RX5.swap -/
def t122_0 : List (Nat × pO) := [(0, o_aload 0 1), (1, o_push (.int (nI 0)) 2), (2, o_putI 5 0 5), (5, o_aload 0 6), (6, o_iload 1 7), (7, o_invV 5 98 1 10), (10, o_ifeq 21 13), (13, o_aload 0 14), (14, o_iload 2 15), (15, o_invV 5 98 1 18), (18, o_ifne 23 21), (21, o_push (.int (nM 1)) 22), (22, o_iret), (23, o_iload 1 24), (24, o_iload 2 25), (25, o_icne 31 28), (28, o_push (.int (nM 2)) 30), (30, o_iret), (31, o_aload 0 32), (32, o_getR 5 1 35), (35, o_push (.int (nI 4)) 36), (36, o_iald 37), (37, o_ifle 43 40), (40, o_push (.int (nM 5)) 42), (42, o_iret), (43, o_aload 0 44), (44, o_invV 5 100 0 47), (47, o_aload 0 48), (48, o_iload 1 49), (49, o_iload 2 50), (50, o_invV 5 121 2 53), (53, o_iret)]
theorem ok122_0 : ∀ q ∈ t122_0, p_Z 122 q := List.forall_mem_cons.mpr ⟨⟨s_aload_n d122_0 rfl, tl_aload _ _⟩, List.forall_mem_cons.mpr ⟨⟨s_iconst d122_1 rfl, tl_push _ _⟩, List.forall_mem_cons.mpr ⟨⟨f_putI_5_0 d122_2 wd_616, tl_putI _ _ _⟩, List.forall_mem_cons.mpr ⟨⟨s_aload_n d122_5 rfl, tl_aload _ _⟩, List.forall_mem_cons.mpr ⟨⟨s_iload_n d122_6 rfl, tl_iload _ _⟩, List.forall_mem_cons.mpr ⟨⟨q_invV_98 d122_7 wd_706, tl_invV _ _ _ _⟩, List.forall_mem_cons.mpr ⟨⟨s_ifeq d122_10 rfl, tl_ifeq _ _⟩, List.forall_mem_cons.mpr ⟨⟨s_aload_n d122_13 rfl, tl_aload _ _⟩, List.forall_mem_cons.mpr ⟨⟨s_iload_n d122_14 rfl, tl_iload _ _⟩, List.forall_mem_cons.mpr ⟨⟨q_invV_98 d122_15 wd_706, tl_invV _ _ _ _⟩, List.forall_mem_cons.mpr ⟨⟨s_ifne d122_18 rfl, tl_ifne _ _⟩, List.forall_mem_cons.mpr ⟨⟨s_iconst d122_21 rfl, tl_push _ _⟩, List.forall_mem_cons.mpr ⟨⟨s_iret d122_22 rfl, tl_iret⟩, List.forall_mem_cons.mpr ⟨⟨s_iload_n d122_23 rfl, tl_iload _ _⟩, List.forall_mem_cons.mpr ⟨⟨s_iload_n d122_24 rfl, tl_iload _ _⟩, List.forall_mem_cons.mpr ⟨⟨s_icne d122_25 rfl, tl_icne _ _⟩, List.forall_mem_cons.mpr ⟨⟨s_bipush d122_28 rfl, tl_push _ _⟩, List.forall_mem_cons.mpr ⟨⟨s_iret d122_30 rfl, tl_iret⟩, List.forall_mem_cons.mpr ⟨⟨s_aload_n d122_31 rfl, tl_aload _ _⟩, List.forall_mem_cons.mpr ⟨⟨f_getR_5_1 d122_32 wd_617, tl_getR _ _ _⟩, List.forall_mem_cons.mpr ⟨⟨s_iconst d122_35 rfl, tl_push _ _⟩, List.forall_mem_cons.mpr ⟨⟨s_iald d122_36, tl_iald _⟩, List.forall_mem_cons.mpr ⟨⟨s_ifle d122_37 rfl, tl_ifle _ _⟩, List.forall_mem_cons.mpr ⟨⟨s_bipush d122_40 rfl, tl_push _ _⟩, List.forall_mem_cons.mpr ⟨⟨s_iret d122_42 rfl, tl_iret⟩, List.forall_mem_cons.mpr ⟨⟨s_aload_n d122_43 rfl, tl_aload _ _⟩, List.forall_mem_cons.mpr ⟨⟨q_invV_100 d122_44 wd_682, tl_invV _ _ _ _⟩, List.forall_mem_cons.mpr ⟨⟨s_aload_n d122_47 rfl, tl_aload _ _⟩, List.forall_mem_cons.mpr ⟨⟨s_iload_n d122_48 rfl, tl_iload _ _⟩, List.forall_mem_cons.mpr ⟨⟨s_iload_n d122_49 rfl, tl_iload _ _⟩, List.forall_mem_cons.mpr ⟨⟨q_invV_121 d122_50 wd_726, tl_invV _ _ _ _⟩, List.forall_mem_cons.mpr ⟨⟨s_iret d122_53 rfl, tl_iret⟩, fun _ h => absurd h List.not_mem_nil⟩⟩⟩⟩⟩⟩⟩⟩⟩⟩⟩⟩⟩⟩⟩⟩⟩⟩⟩⟩⟩⟩⟩⟩⟩⟩⟩⟩⟩⟩⟩⟩
def t122 : List (Nat × pO) := t122_0
theorem ok122 : ∀ q ∈ t122, p_Z 122 q := ok122_0
theorem d123_0 : decode (pB 123) 0 = .ok (.aload_n 0, 1) := by decide +kernel
theorem d123_1 : decode (pB 123) 1 = .ok (.iload_n 1, 1) := by decide +kernel
theorem d123_2 : decode (pB 123) 2 = .ok (.invokevirtual 100, 3) := by decide +kernel
theorem d123_5 : decode (pB 123) 5 = .ok (.ifCond .eq 11, 3) := by decide +kernel
theorem d123_8 : decode (pB 123) 8 = .ok (.aload_n 0, 1) := by decide +kernel
theorem d123_9 : decode (pB 123) 9 = .ok (.iload_n 2, 1) := by decide +kernel
theorem d123_10 : decode (pB 123) 10 = .ok (.invokevirtual 100, 3) := by decide +kernel
theorem d123_13 : decode (pB 123) 13 = .ok (.ifCond .ne 5, 3) := by decide +kernel
theorem d123_16 : decode (pB 123) 16 = .ok (.iconst (-1), 1) := by decide +kernel
theorem d123_17 : decode (pB 123) 17 = .ok (.ireturn, 1) := by decide +kernel
theorem d123_18 : decode (pB 123) 18 = .ok (.iload_n 1, 1) := by decide +kernel
theorem d123_19 : decode (pB 123) 19 = .ok (.iload_n 2, 1) := by decide +kernel
theorem d123_20 : decode (pB 123) 20 = .ok (.if_icmp .ne 8, 3) := by decide +kernel
theorem d123_23 : decode (pB 123) 23 = .ok (.bipush (-2), 2) := by decide +kernel
theorem d123_25 : decode (pB 123) 25 = .ok (.goto 4, 3) := by decide +kernel
theorem d123_28 : decode (pB 123) 28 = .ok (.iconst 0, 1) := by decide +kernel
theorem d123_29 : decode (pB 123) 29 = .ok (.ireturn, 1) := by decide +kernel
/-- RX5.refusesRelation -/
def t123_0 : List (Nat × pO) := [(0, o_aload 0 1), (1, o_iload 1 2), (2, o_invV 5 97 1 5), (5, o_ifeq 16 8), (8, o_aload 0 9), (9, o_iload 2 10), (10, o_invV 5 97 1 13), (13, o_ifne 18 16), (16, o_push (.int (nM 1)) 17), (17, o_iret), (18, o_iload 1 19), (19, o_iload 2 20), (20, o_icne 28 23), (23, o_push (.int (nM 2)) 25), (25, o_goto 29), (28, o_push (.int (nI 0)) 29), (29, o_iret)]
theorem ok123_0 : ∀ q ∈ t123_0, p_Z 123 q := List.forall_mem_cons.mpr ⟨⟨s_aload_n d123_0 rfl, tl_aload _ _⟩, List.forall_mem_cons.mpr ⟨⟨s_iload_n d123_1 rfl, tl_iload _ _⟩, List.forall_mem_cons.mpr ⟨⟨q_invV_97 d123_2 wd_702, tl_invV _ _ _ _⟩, List.forall_mem_cons.mpr ⟨⟨s_ifeq d123_5 rfl, tl_ifeq _ _⟩, List.forall_mem_cons.mpr ⟨⟨s_aload_n d123_8 rfl, tl_aload _ _⟩, List.forall_mem_cons.mpr ⟨⟨s_iload_n d123_9 rfl, tl_iload _ _⟩, List.forall_mem_cons.mpr ⟨⟨q_invV_97 d123_10 wd_702, tl_invV _ _ _ _⟩, List.forall_mem_cons.mpr ⟨⟨s_ifne d123_13 rfl, tl_ifne _ _⟩, List.forall_mem_cons.mpr ⟨⟨s_iconst d123_16 rfl, tl_push _ _⟩, List.forall_mem_cons.mpr ⟨⟨s_iret d123_17 rfl, tl_iret⟩, List.forall_mem_cons.mpr ⟨⟨s_iload_n d123_18 rfl, tl_iload _ _⟩, List.forall_mem_cons.mpr ⟨⟨s_iload_n d123_19 rfl, tl_iload _ _⟩, List.forall_mem_cons.mpr ⟨⟨s_icne d123_20 rfl, tl_icne _ _⟩, List.forall_mem_cons.mpr ⟨⟨s_bipush d123_23 rfl, tl_push _ _⟩, List.forall_mem_cons.mpr ⟨⟨s_goto d123_25 rfl, tl_goto _⟩, List.forall_mem_cons.mpr ⟨⟨s_iconst d123_28 rfl, tl_push _ _⟩, List.forall_mem_cons.mpr ⟨⟨s_iret d123_29 rfl, tl_iret⟩, fun _ h => absurd h List.not_mem_nil⟩⟩⟩⟩⟩⟩⟩⟩⟩⟩⟩⟩⟩⟩⟩⟩⟩
def t123 : List (Nat × pO) := t123_0
theorem ok123 : ∀ q ∈ t123, p_Z 123 q := ok123_0
theorem d124_0 : decode (pB 124) 0 = .ok (.aload_n 0, 1) := by decide +kernel
theorem d124_1 : decode (pB 124) 1 = .ok (.iload_n 1, 1) := by decide +kernel
theorem d124_2 : decode (pB 124) 2 = .ok (.iload_n 2, 1) := by decide +kernel
theorem d124_3 : decode (pB 124) 3 = .ok (.invokevirtual 80, 3) := by decide +kernel
theorem d124_6 : decode (pB 124) 6 = .ok (.istore 4, 2) := by decide +kernel
theorem d124_8 : decode (pB 124) 8 = .ok (.aload_n 0, 1) := by decide +kernel
theorem d124_9 : decode (pB 124) 9 = .ok (.getfield 7, 3) := by decide +kernel
theorem d124_12 : decode (pB 124) 12 = .ok (.bipush 22, 2) := by decide +kernel
theorem d124_14 : decode (pB 124) 14 = .ok (.bipush 12, 2) := by decide +kernel
theorem d124_16 : decode (pB 124) 16 = .ok (.iload_n 1, 1) := by decide +kernel
theorem d124_17 : decode (pB 124) 17 = .ok (.imul, 1) := by decide +kernel
theorem d124_18 : decode (pB 124) 18 = .ok (.iadd, 1) := by decide +kernel
theorem d124_19 : decode (pB 124) 19 = .ok (.iload_n 2, 1) := by decide +kernel
theorem d124_20 : decode (pB 124) 20 = .ok (.iadd, 1) := by decide +kernel
theorem d124_21 : decode (pB 124) 21 = .ok (.iload_n 3, 1) := by decide +kernel
theorem d124_22 : decode (pB 124) 22 = .ok (.iastore, 1) := by decide +kernel
theorem d124_23 : decode (pB 124) 23 = .ok (.aload_n 0, 1) := by decide +kernel
theorem d124_24 : decode (pB 124) 24 = .ok (.getfield 7, 3) := by decide +kernel
theorem d124_27 : decode (pB 124) 27 = .ok (.bipush 22, 2) := by decide +kernel
theorem d124_29 : decode (pB 124) 29 = .ok (.bipush 12, 2) := by decide +kernel
theorem d124_31 : decode (pB 124) 31 = .ok (.iload_n 2, 1) := by decide +kernel
theorem d124_32 : decode (pB 124) 32 = .ok (.imul, 1) := by decide +kernel
theorem d124_33 : decode (pB 124) 33 = .ok (.iadd, 1) := by decide +kernel
theorem d124_34 : decode (pB 124) 34 = .ok (.iload_n 1, 1) := by decide +kernel
theorem d124_35 : decode (pB 124) 35 = .ok (.iadd, 1) := by decide +kernel
theorem d124_36 : decode (pB 124) 36 = .ok (.iload_n 3, 1) := by decide +kernel
theorem d124_37 : decode (pB 124) 37 = .ok (.iastore, 1) := by decide +kernel
theorem d124_38 : decode (pB 124) 38 = .ok (.iload 4, 2) := by decide +kernel
theorem d124_40 : decode (pB 124) 40 = .ok (.iconst 1, 1) := by decide +kernel
theorem d124_41 : decode (pB 124) 41 = .ok (.iadd, 1) := by decide +kernel
theorem d124_42 : decode (pB 124) 42 = .ok (.ireturn, 1) := by decide +kernel
theorem st1_124_4 : p_st1 124 4 = true := by decide +kernel
/-- RX5.relates -/
def t124_0 : List (Nat × pO) := [(0, o_aload 0 1), (1, o_iload 1 2), (2, o_iload 2 3), (3, o_invV 5 99 2 6), (6, o_istore 4 8), (8, o_aload 0 9), (9, o_getR 5 1 12), (12, o_push (.int (nI 22)) 14), (14, o_push (.int (nI 12)) 16), (16, o_iload 1 17), (17, o_imul 18), (18, o_iadd 19), (19, o_iload 2 20), (20, o_iadd 21), (21, o_iload 3 22), (22, o_iast 23), (23, o_aload 0 24), (24, o_getR 5 1 27), (27, o_push (.int (nI 22)) 29), (29, o_push (.int (nI 12)) 31), (31, o_iload 2 32), (32, o_imul 33), (33, o_iadd 34), (34, o_iload 1 35), (35, o_iadd 36), (36, o_iload 3 37), (37, o_iast 38), (38, o_iload 4 40), (40, o_push (.int (nI 1)) 41), (41, o_iadd 42), (42, o_iret)]
theorem ok124_0 : ∀ q ∈ t124_0, p_Z 124 q := List.forall_mem_cons.mpr ⟨⟨s_aload_n d124_0 rfl, tl_aload _ _⟩, List.forall_mem_cons.mpr ⟨⟨s_iload_n d124_1 rfl, tl_iload _ _⟩, List.forall_mem_cons.mpr ⟨⟨s_iload_n d124_2 rfl, tl_iload _ _⟩, List.forall_mem_cons.mpr ⟨⟨q_invV_99 d124_3 wd_742, tl_invV _ _ _ _⟩, List.forall_mem_cons.mpr ⟨⟨s_istore d124_6 st1_124_4, tl_istore _ _⟩, List.forall_mem_cons.mpr ⟨⟨s_aload_n d124_8 rfl, tl_aload _ _⟩, List.forall_mem_cons.mpr ⟨⟨f_getR_5_1 d124_9 wd_617, tl_getR _ _ _⟩, List.forall_mem_cons.mpr ⟨⟨s_bipush d124_12 rfl, tl_push _ _⟩, List.forall_mem_cons.mpr ⟨⟨s_bipush d124_14 rfl, tl_push _ _⟩, List.forall_mem_cons.mpr ⟨⟨s_iload_n d124_16 rfl, tl_iload _ _⟩, List.forall_mem_cons.mpr ⟨⟨s_imul d124_17, tl_imul _⟩, List.forall_mem_cons.mpr ⟨⟨s_iadd d124_18, tl_iadd _⟩, List.forall_mem_cons.mpr ⟨⟨s_iload_n d124_19 rfl, tl_iload _ _⟩, List.forall_mem_cons.mpr ⟨⟨s_iadd d124_20, tl_iadd _⟩, List.forall_mem_cons.mpr ⟨⟨s_iload_n d124_21 rfl, tl_iload _ _⟩, List.forall_mem_cons.mpr ⟨⟨s_iast d124_22, tl_iast _⟩, List.forall_mem_cons.mpr ⟨⟨s_aload_n d124_23 rfl, tl_aload _ _⟩, List.forall_mem_cons.mpr ⟨⟨f_getR_5_1 d124_24 wd_617, tl_getR _ _ _⟩, List.forall_mem_cons.mpr ⟨⟨s_bipush d124_27 rfl, tl_push _ _⟩, List.forall_mem_cons.mpr ⟨⟨s_bipush d124_29 rfl, tl_push _ _⟩, List.forall_mem_cons.mpr ⟨⟨s_iload_n d124_31 rfl, tl_iload _ _⟩, List.forall_mem_cons.mpr ⟨⟨s_imul d124_32, tl_imul _⟩, List.forall_mem_cons.mpr ⟨⟨s_iadd d124_33, tl_iadd _⟩, List.forall_mem_cons.mpr ⟨⟨s_iload_n d124_34 rfl, tl_iload _ _⟩, List.forall_mem_cons.mpr ⟨⟨s_iadd d124_35, tl_iadd _⟩, List.forall_mem_cons.mpr ⟨⟨s_iload_n d124_36 rfl, tl_iload _ _⟩, List.forall_mem_cons.mpr ⟨⟨s_iast d124_37, tl_iast _⟩, List.forall_mem_cons.mpr ⟨⟨s_iload d124_38, tl_iload _ _⟩, List.forall_mem_cons.mpr ⟨⟨s_iconst d124_40 rfl, tl_push _ _⟩, List.forall_mem_cons.mpr ⟨⟨s_iadd d124_41, tl_iadd _⟩, List.forall_mem_cons.mpr ⟨⟨s_iret d124_42 rfl, tl_iret⟩, fun _ h => absurd h List.not_mem_nil⟩⟩⟩⟩⟩⟩⟩⟩⟩⟩⟩⟩⟩⟩⟩⟩⟩⟩⟩⟩⟩⟩⟩⟩⟩⟩⟩⟩⟩⟩⟩
def t124 : List (Nat × pO) := t124_0
theorem ok124 : ∀ q ∈ t124, p_Z 124 q := ok124_0
theorem d125_0 : decode (pB 125) 0 = .ok (.aload_n 0, 1) := by decide +kernel
theorem d125_1 : decode (pB 125) 1 = .ok (.iconst 0, 1) := by decide +kernel
theorem d125_2 : decode (pB 125) 2 = .ok (.putfield 44, 3) := by decide +kernel
theorem d125_5 : decode (pB 125) 5 = .ok (.aload_n 0, 1) := by decide +kernel
theorem d125_6 : decode (pB 125) 6 = .ok (.iload_n 1, 1) := by decide +kernel
theorem d125_7 : decode (pB 125) 7 = .ok (.iload_n 2, 1) := by decide +kernel
theorem d125_8 : decode (pB 125) 8 = .ok (.invokevirtual 115, 3) := by decide +kernel
theorem d125_11 : decode (pB 125) 11 = .ok (.istore 4, 2) := by decide +kernel
theorem d125_13 : decode (pB 125) 13 = .ok (.iload 4, 2) := by decide +kernel
theorem d125_15 : decode (pB 125) 15 = .ok (.ifCond .eq 6, 3) := by decide +kernel
theorem d125_18 : decode (pB 125) 18 = .ok (.iload 4, 2) := by decide +kernel
theorem d125_20 : decode (pB 125) 20 = .ok (.ireturn, 1) := by decide +kernel
theorem d125_21 : decode (pB 125) 21 = .ok (.iload_n 3, 1) := by decide +kernel
theorem d125_22 : decode (pB 125) 22 = .ok (.iconst (-1), 1) := by decide +kernel
theorem d125_23 : decode (pB 125) 23 = .ok (.iconst 1, 1) := by decide +kernel
theorem d125_24 : decode (pB 125) 24 = .ok (.invokestatic 48, 3) := by decide +kernel
theorem d125_27 : decode (pB 125) 27 = .ok (.ifCond .ne 6, 3) := by decide +kernel
theorem d125_30 : decode (pB 125) 30 = .ok (.bipush (-2), 2) := by decide +kernel
theorem d125_32 : decode (pB 125) 32 = .ok (.ireturn, 1) := by decide +kernel
theorem d125_33 : decode (pB 125) 33 = .ok (.aload_n 0, 1) := by decide +kernel
theorem d125_34 : decode (pB 125) 34 = .ok (.invokevirtual 93, 3) := by decide +kernel
theorem d125_37 : decode (pB 125) 37 = .ok (.aload_n 0, 1) := by decide +kernel
theorem d125_38 : decode (pB 125) 38 = .ok (.iload_n 1, 1) := by decide +kernel
theorem d125_39 : decode (pB 125) 39 = .ok (.iload_n 2, 1) := by decide +kernel
theorem d125_40 : decode (pB 125) 40 = .ok (.iload_n 3, 1) := by decide +kernel
theorem d125_41 : decode (pB 125) 41 = .ok (.invokevirtual 118, 3) := by decide +kernel
theorem d125_44 : decode (pB 125) 44 = .ok (.ireturn, 1) := by decide +kernel
theorem st1_125_4 : p_st1 125 4 = true := by decide +kernel
/-- RX5.relate -/
def t125_0 : List (Nat × pO) := [(0, o_aload 0 1), (1, o_push (.int (nI 0)) 2), (2, o_putI 5 0 5), (5, o_aload 0 6), (6, o_iload 1 7), (7, o_iload 2 8), (8, o_invV 5 123 2 11), (11, o_istore 4 13), (13, o_iload 4 15), (15, o_ifeq 21 18), (18, o_iload 4 20), (20, o_iret), (21, o_iload 3 22), (22, o_push (.int (nM 1)) 23), (23, o_push (.int (nI 1)) 24), (24, o_invS 96 3 27), (27, o_ifne 33 30), (30, o_push (.int (nM 2)) 32), (32, o_iret), (33, o_aload 0 34), (34, o_invV 5 100 0 37), (37, o_aload 0 38), (38, o_iload 1 39), (39, o_iload 2 40), (40, o_iload 3 41), (41, o_invV 5 124 3 44), (44, o_iret)]
theorem ok125_0 : ∀ q ∈ t125_0, p_Z 125 q := List.forall_mem_cons.mpr ⟨⟨s_aload_n d125_0 rfl, tl_aload _ _⟩, List.forall_mem_cons.mpr ⟨⟨s_iconst d125_1 rfl, tl_push _ _⟩, List.forall_mem_cons.mpr ⟨⟨f_putI_5_0 d125_2 wd_616, tl_putI _ _ _⟩, List.forall_mem_cons.mpr ⟨⟨s_aload_n d125_5 rfl, tl_aload _ _⟩, List.forall_mem_cons.mpr ⟨⟨s_iload_n d125_6 rfl, tl_iload _ _⟩, List.forall_mem_cons.mpr ⟨⟨s_iload_n d125_7 rfl, tl_iload _ _⟩, List.forall_mem_cons.mpr ⟨⟨q_invV_123 d125_8 wd_734, tl_invV _ _ _ _⟩, List.forall_mem_cons.mpr ⟨⟨s_istore d125_11 st1_125_4, tl_istore _ _⟩, List.forall_mem_cons.mpr ⟨⟨s_iload d125_13, tl_iload _ _⟩, List.forall_mem_cons.mpr ⟨⟨s_ifeq d125_15 rfl, tl_ifeq _ _⟩, List.forall_mem_cons.mpr ⟨⟨s_iload d125_18, tl_iload _ _⟩, List.forall_mem_cons.mpr ⟨⟨s_iret d125_20 rfl, tl_iret⟩, List.forall_mem_cons.mpr ⟨⟨s_iload_n d125_21 rfl, tl_iload _ _⟩, List.forall_mem_cons.mpr ⟨⟨s_iconst d125_22 rfl, tl_push _ _⟩, List.forall_mem_cons.mpr ⟨⟨s_iconst d125_23 rfl, tl_push _ _⟩, List.forall_mem_cons.mpr ⟨⟨q_invS_96 d125_24 wd_675, tl_invS _ _ _⟩, List.forall_mem_cons.mpr ⟨⟨s_ifne d125_27 rfl, tl_ifne _ _⟩, List.forall_mem_cons.mpr ⟨⟨s_bipush d125_30 rfl, tl_push _ _⟩, List.forall_mem_cons.mpr ⟨⟨s_iret d125_32 rfl, tl_iret⟩, List.forall_mem_cons.mpr ⟨⟨s_aload_n d125_33 rfl, tl_aload _ _⟩, List.forall_mem_cons.mpr ⟨⟨q_invV_100 d125_34 wd_682, tl_invV _ _ _ _⟩, List.forall_mem_cons.mpr ⟨⟨s_aload_n d125_37 rfl, tl_aload _ _⟩, List.forall_mem_cons.mpr ⟨⟨s_iload_n d125_38 rfl, tl_iload _ _⟩, List.forall_mem_cons.mpr ⟨⟨s_iload_n d125_39 rfl, tl_iload _ _⟩, List.forall_mem_cons.mpr ⟨⟨s_iload_n d125_40 rfl, tl_iload _ _⟩, List.forall_mem_cons.mpr ⟨⟨q_invV_124 d125_41 wd_738, tl_invV _ _ _ _⟩, List.forall_mem_cons.mpr ⟨⟨s_iret d125_44 rfl, tl_iret⟩, fun _ h => absurd h List.not_mem_nil⟩⟩⟩⟩⟩⟩⟩⟩⟩⟩⟩⟩⟩⟩⟩⟩⟩⟩⟩⟩⟩⟩⟩⟩⟩⟩⟩
def t125 : List (Nat × pO) := t125_0
theorem ok125 : ∀ q ∈ t125, p_Z 125 q := ok125_0
theorem d126_0 : decode (pB 126) 0 = .ok (.aload_n 0, 1) := by decide +kernel
theorem d126_1 : decode (pB 126) 1 = .ok (.invokevirtual 122, 3) := by decide +kernel
theorem d126_4 : decode (pB 126) 4 = .ok (.iload_n 1, 1) := by decide +kernel
theorem d126_5 : decode (pB 126) 5 = .ok (.iconst 1, 1) := by decide +kernel
theorem d126_6 : decode (pB 126) 6 = .ok (.aload_n 0, 1) := by decide +kernel
theorem d126_7 : decode (pB 126) 7 = .ok (.getfield 55, 3) := by decide +kernel
theorem d126_10 : decode (pB 126) 10 = .ok (.iconst 1, 1) := by decide +kernel
theorem d126_11 : decode (pB 126) 11 = .ok (.isub, 1) := by decide +kernel
theorem d126_12 : decode (pB 126) 12 = .ok (.invokestatic 48, 3) := by decide +kernel
theorem d126_15 : decode (pB 126) 15 = .ok (.ifCond .ne 6, 3) := by decide +kernel
theorem d126_18 : decode (pB 126) 18 = .ok (.bipush (-2), 2) := by decide +kernel
theorem d126_20 : decode (pB 126) 20 = .ok (.ireturn, 1) := by decide +kernel
theorem d126_21 : decode (pB 126) 21 = .ok (.aload_n 0, 1) := by decide +kernel
theorem d126_22 : decode (pB 126) 22 = .ok (.getfield 7, 3) := by decide +kernel
theorem d126_25 : decode (pB 126) 25 = .ok (.iconst 4, 1) := by decide +kernel
theorem d126_26 : decode (pB 126) 26 = .ok (.iaload, 1) := by decide +kernel
theorem d126_27 : decode (pB 126) 27 = .ok (.iconst 5, 1) := by decide +kernel
theorem d126_28 : decode (pB 126) 28 = .ok (.if_icmp .ne 8, 3) := by decide +kernel
theorem d126_31 : decode (pB 126) 31 = .ok (.bipush (-4), 2) := by decide +kernel
theorem d126_33 : decode (pB 126) 33 = .ok (.goto 4, 3) := by decide +kernel
theorem d126_36 : decode (pB 126) 36 = .ok (.iconst 0, 1) := by decide +kernel
theorem d126_37 : decode (pB 126) 37 = .ok (.ireturn, 1) := by decide +kernel
/-- RX5.refusesPress -/
def t126_0 : List (Nat × pO) := [(0, o_aload 0 1), (1, o_invV 5 103 0 4), (4, o_iload 1 5), (5, o_push (.int (nI 1)) 6), (6, o_aload 0 7), (7, o_getI 5 14 10), (10, o_push (.int (nI 1)) 11), (11, o_isub 12), (12, o_invS 96 3 15), (15, o_ifne 21 18), (18, o_push (.int (nM 2)) 20), (20, o_iret), (21, o_aload 0 22), (22, o_getR 5 1 25), (25, o_push (.int (nI 4)) 26), (26, o_iald 27), (27, o_push (.int (nI 5)) 28), (28, o_icne 36 31), (31, o_push (.int (nM 4)) 33), (33, o_goto 37), (36, o_push (.int (nI 0)) 37), (37, o_iret)]
theorem ok126_0 : ∀ q ∈ t126_0, p_Z 126 q := List.forall_mem_cons.mpr ⟨⟨s_aload_n d126_0 rfl, tl_aload _ _⟩, List.forall_mem_cons.mpr ⟨⟨q_invV_103 d126_1 wd_758, tl_invV _ _ _ _⟩, List.forall_mem_cons.mpr ⟨⟨s_iload_n d126_4 rfl, tl_iload _ _⟩, List.forall_mem_cons.mpr ⟨⟨s_iconst d126_5 rfl, tl_push _ _⟩, List.forall_mem_cons.mpr ⟨⟨s_aload_n d126_6 rfl, tl_aload _ _⟩, List.forall_mem_cons.mpr ⟨⟨f_getI_5_14 d126_7 wd_630, tl_getI _ _ _⟩, List.forall_mem_cons.mpr ⟨⟨s_iconst d126_10 rfl, tl_push _ _⟩, List.forall_mem_cons.mpr ⟨⟨s_isub d126_11, tl_isub _⟩, List.forall_mem_cons.mpr ⟨⟨q_invS_96 d126_12 wd_675, tl_invS _ _ _⟩, List.forall_mem_cons.mpr ⟨⟨s_ifne d126_15 rfl, tl_ifne _ _⟩, List.forall_mem_cons.mpr ⟨⟨s_bipush d126_18 rfl, tl_push _ _⟩, List.forall_mem_cons.mpr ⟨⟨s_iret d126_20 rfl, tl_iret⟩, List.forall_mem_cons.mpr ⟨⟨s_aload_n d126_21 rfl, tl_aload _ _⟩, List.forall_mem_cons.mpr ⟨⟨f_getR_5_1 d126_22 wd_617, tl_getR _ _ _⟩, List.forall_mem_cons.mpr ⟨⟨s_iconst d126_25 rfl, tl_push _ _⟩, List.forall_mem_cons.mpr ⟨⟨s_iald d126_26, tl_iald _⟩, List.forall_mem_cons.mpr ⟨⟨s_iconst d126_27 rfl, tl_push _ _⟩, List.forall_mem_cons.mpr ⟨⟨s_icne d126_28 rfl, tl_icne _ _⟩, List.forall_mem_cons.mpr ⟨⟨s_bipush d126_31 rfl, tl_push _ _⟩, List.forall_mem_cons.mpr ⟨⟨s_goto d126_33 rfl, tl_goto _⟩, List.forall_mem_cons.mpr ⟨⟨s_iconst d126_36 rfl, tl_push _ _⟩, List.forall_mem_cons.mpr ⟨⟨s_iret d126_37 rfl, tl_iret⟩, fun _ h => absurd h List.not_mem_nil⟩⟩⟩⟩⟩⟩⟩⟩⟩⟩⟩⟩⟩⟩⟩⟩⟩⟩⟩⟩⟩⟩
def t126 : List (Nat × pO) := t126_0
theorem ok126 : ∀ q ∈ t126, p_Z 126 q := ok126_0
theorem d127_0 : decode (pB 127) 0 = .ok (.aload_n 0, 1) := by decide +kernel
theorem d127_1 : decode (pB 127) 1 = .ok (.iload_n 1, 1) := by decide +kernel
theorem d127_2 : decode (pB 127) 2 = .ok (.invokevirtual 125, 3) := by decide +kernel
theorem d127_5 : decode (pB 127) 5 = .ok (.istore_n 2, 1) := by decide +kernel
theorem d127_6 : decode (pB 127) 6 = .ok (.iload_n 2, 1) := by decide +kernel
theorem d127_7 : decode (pB 127) 7 = .ok (.ifCond .eq 5, 3) := by decide +kernel
theorem d127_10 : decode (pB 127) 10 = .ok (.iload_n 2, 1) := by decide +kernel
theorem d127_11 : decode (pB 127) 11 = .ok (.ireturn, 1) := by decide +kernel
theorem d127_12 : decode (pB 127) 12 = .ok (.aload_n 0, 1) := by decide +kernel
theorem d127_13 : decode (pB 127) 13 = .ok (.iload_n 1, 1) := by decide +kernel
theorem d127_14 : decode (pB 127) 14 = .ok (.invokevirtual 62, 3) := by decide +kernel
theorem d127_17 : decode (pB 127) 17 = .ok (.aload_n 0, 1) := by decide +kernel
theorem d127_18 : decode (pB 127) 18 = .ok (.iconst (-1), 1) := by decide +kernel
theorem d127_19 : decode (pB 127) 19 = .ok (.invokevirtual 128, 3) := by decide +kernel
theorem d127_22 : decode (pB 127) 22 = .ok (.ifCond .le 8, 3) := by decide +kernel
theorem d127_25 : decode (pB 127) 25 = .ok (.bipush (-5), 2) := by decide +kernel
theorem d127_27 : decode (pB 127) 27 = .ok (.goto 4, 3) := by decide +kernel
theorem d127_30 : decode (pB 127) 30 = .ok (.iconst 0, 1) := by decide +kernel
theorem d127_31 : decode (pB 127) 31 = .ok (.ireturn, 1) := by decide +kernel
theorem st1_127_2 : p_st1 127 2 = true := by decide +kernel
/-- RX5.refusesFold -/
def t127_0 : List (Nat × pO) := [(0, o_aload 0 1), (1, o_iload 1 2), (2, o_invV 5 126 1 5), (5, o_istore 2 6), (6, o_iload 2 7), (7, o_ifeq 12 10), (10, o_iload 2 11), (11, o_iret), (12, o_aload 0 13), (13, o_iload 1 14), (14, o_invV 5 102 1 17), (17, o_aload 0 18), (18, o_push (.int (nM 1)) 19), (19, o_invV 5 108 1 22), (22, o_ifle 30 25), (25, o_push (.int (nM 5)) 27), (27, o_goto 31), (30, o_push (.int (nI 0)) 31), (31, o_iret)]
theorem ok127_0 : ∀ q ∈ t127_0, p_Z 127 q := List.forall_mem_cons.mpr ⟨⟨s_aload_n d127_0 rfl, tl_aload _ _⟩, List.forall_mem_cons.mpr ⟨⟨s_iload_n d127_1 rfl, tl_iload _ _⟩, List.forall_mem_cons.mpr ⟨⟨q_invV_126 d127_2 wd_754, tl_invV _ _ _ _⟩, List.forall_mem_cons.mpr ⟨⟨s_istore_n d127_5 rfl st1_127_2, tl_istore _ _⟩, List.forall_mem_cons.mpr ⟨⟨s_iload_n d127_6 rfl, tl_iload _ _⟩, List.forall_mem_cons.mpr ⟨⟨s_ifeq d127_7 rfl, tl_ifeq _ _⟩, List.forall_mem_cons.mpr ⟨⟨s_iload_n d127_10 rfl, tl_iload _ _⟩, List.forall_mem_cons.mpr ⟨⟨s_iret d127_11 rfl, tl_iret⟩, List.forall_mem_cons.mpr ⟨⟨s_aload_n d127_12 rfl, tl_aload _ _⟩, List.forall_mem_cons.mpr ⟨⟨s_iload_n d127_13 rfl, tl_iload _ _⟩, List.forall_mem_cons.mpr ⟨⟨q_invV_102 d127_14 wd_762, tl_invV _ _ _ _⟩, List.forall_mem_cons.mpr ⟨⟨s_aload_n d127_17 rfl, tl_aload _ _⟩, List.forall_mem_cons.mpr ⟨⟨s_iconst d127_18 rfl, tl_push _ _⟩, List.forall_mem_cons.mpr ⟨⟨q_invV_108 d127_19 wd_770, tl_invV _ _ _ _⟩, List.forall_mem_cons.mpr ⟨⟨s_ifle d127_22 rfl, tl_ifle _ _⟩, List.forall_mem_cons.mpr ⟨⟨s_bipush d127_25 rfl, tl_push _ _⟩, List.forall_mem_cons.mpr ⟨⟨s_goto d127_27 rfl, tl_goto _⟩, List.forall_mem_cons.mpr ⟨⟨s_iconst d127_30 rfl, tl_push _ _⟩, List.forall_mem_cons.mpr ⟨⟨s_iret d127_31 rfl, tl_iret⟩, fun _ h => absurd h List.not_mem_nil⟩⟩⟩⟩⟩⟩⟩⟩⟩⟩⟩⟩⟩⟩⟩⟩⟩⟩⟩
def t127 : List (Nat × pO) := t127_0
theorem ok127 : ∀ q ∈ t127, p_Z 127 q := ok127_0
theorem d128_0 : decode (pB 128) 0 = .ok (.aload_n 0, 1) := by decide +kernel
theorem d128_1 : decode (pB 128) 1 = .ok (.getfield 7, 3) := by decide +kernel
theorem d128_4 : decode (pB 128) 4 = .ok (.iconst 5, 1) := by decide +kernel
theorem d128_5 : decode (pB 128) 5 = .ok (.aload_n 0, 1) := by decide +kernel
theorem d128_6 : decode (pB 128) 6 = .ok (.getfield 7, 3) := by decide +kernel
theorem d128_9 : decode (pB 128) 9 = .ok (.iconst 4, 1) := by decide +kernel
theorem d128_10 : decode (pB 128) 10 = .ok (.iaload, 1) := by decide +kernel
theorem d128_11 : decode (pB 128) 11 = .ok (.iadd, 1) := by decide +kernel
theorem d128_12 : decode (pB 128) 12 = .ok (.iload_n 1, 1) := by decide +kernel
theorem d128_13 : decode (pB 128) 13 = .ok (.iastore, 1) := by decide +kernel
theorem d128_14 : decode (pB 128) 14 = .ok (.aload_n 0, 1) := by decide +kernel
theorem d128_15 : decode (pB 128) 15 = .ok (.getfield 7, 3) := by decide +kernel
theorem d128_18 : decode (pB 128) 18 = .ok (.iconst 4, 1) := by decide +kernel
theorem d128_19 : decode (pB 128) 19 = .ok (.dup2, 1) := by decide +kernel
theorem d128_20 : decode (pB 128) 20 = .ok (.iaload, 1) := by decide +kernel
theorem d128_21 : decode (pB 128) 21 = .ok (.iconst 1, 1) := by decide +kernel
theorem d128_22 : decode (pB 128) 22 = .ok (.iadd, 1) := by decide +kernel
theorem d128_23 : decode (pB 128) 23 = .ok (.iastore, 1) := by decide +kernel
theorem d128_24 : decode (pB 128) 24 = .ok (.aload_n 0, 1) := by decide +kernel
theorem d128_25 : decode (pB 128) 25 = .ok (.invokevirtual 122, 3) := by decide +kernel
theorem d128_28 : decode (pB 128) 28 = .ok (.aload_n 0, 1) := by decide +kernel
theorem d128_29 : decode (pB 128) 29 = .ok (.getfield 55, 3) := by decide +kernel
theorem d128_32 : decode (pB 128) 32 = .ok (.ireturn, 1) := by decide +kernel
/-- RX5.folds -/
def t128_0 : List (Nat × pO) := [(0, o_aload 0 1), (1, o_getR 5 1 4), (4, o_push (.int (nI 5)) 5), (5, o_aload 0 6), (6, o_getR 5 1 9), (9, o_push (.int (nI 4)) 10), (10, o_iald 11), (11, o_iadd 12), (12, o_iload 1 13), (13, o_iast 14), (14, o_aload 0 15), (15, o_getR 5 1 18), (18, o_push (.int (nI 4)) 19), (19, o_dup2i 20), (20, o_iald 21), (21, o_push (.int (nI 1)) 22), (22, o_iadd 23), (23, o_iast 24), (24, o_aload 0 25), (25, o_invV 5 103 0 28), (28, o_aload 0 29), (29, o_getI 5 14 32), (32, o_iret)]
theorem ok128_0 : ∀ q ∈ t128_0, p_Z 128 q := List.forall_mem_cons.mpr ⟨⟨s_aload_n d128_0 rfl, tl_aload _ _⟩, List.forall_mem_cons.mpr ⟨⟨f_getR_5_1 d128_1 wd_617, tl_getR _ _ _⟩, List.forall_mem_cons.mpr ⟨⟨s_iconst d128_4 rfl, tl_push _ _⟩, List.forall_mem_cons.mpr ⟨⟨s_aload_n d128_5 rfl, tl_aload _ _⟩, List.forall_mem_cons.mpr ⟨⟨f_getR_5_1 d128_6 wd_617, tl_getR _ _ _⟩, List.forall_mem_cons.mpr ⟨⟨s_iconst d128_9 rfl, tl_push _ _⟩, List.forall_mem_cons.mpr ⟨⟨s_iald d128_10, tl_iald _⟩, List.forall_mem_cons.mpr ⟨⟨s_iadd d128_11, tl_iadd _⟩, List.forall_mem_cons.mpr ⟨⟨s_iload_n d128_12 rfl, tl_iload _ _⟩, List.forall_mem_cons.mpr ⟨⟨s_iast d128_13, tl_iast _⟩, List.forall_mem_cons.mpr ⟨⟨s_aload_n d128_14 rfl, tl_aload _ _⟩, List.forall_mem_cons.mpr ⟨⟨f_getR_5_1 d128_15 wd_617, tl_getR _ _ _⟩, List.forall_mem_cons.mpr ⟨⟨s_iconst d128_18 rfl, tl_push _ _⟩, List.forall_mem_cons.mpr ⟨⟨s_dup2i d128_19, tl_dup2i _⟩, List.forall_mem_cons.mpr ⟨⟨s_iald d128_20, tl_iald _⟩, List.forall_mem_cons.mpr ⟨⟨s_iconst d128_21 rfl, tl_push _ _⟩, List.forall_mem_cons.mpr ⟨⟨s_iadd d128_22, tl_iadd _⟩, List.forall_mem_cons.mpr ⟨⟨s_iast d128_23, tl_iast _⟩, List.forall_mem_cons.mpr ⟨⟨s_aload_n d128_24 rfl, tl_aload _ _⟩, List.forall_mem_cons.mpr ⟨⟨q_invV_103 d128_25 wd_758, tl_invV _ _ _ _⟩, List.forall_mem_cons.mpr ⟨⟨s_aload_n d128_28 rfl, tl_aload _ _⟩, List.forall_mem_cons.mpr ⟨⟨f_getI_5_14 d128_29 wd_630, tl_getI _ _ _⟩, List.forall_mem_cons.mpr ⟨⟨s_iret d128_32 rfl, tl_iret⟩, fun _ h => absurd h List.not_mem_nil⟩⟩⟩⟩⟩⟩⟩⟩⟩⟩⟩⟩⟩⟩⟩⟩⟩⟩⟩⟩⟩⟩⟩
def t128 : List (Nat × pO) := t128_0
theorem ok128 : ∀ q ∈ t128, p_Z 128 q := ok128_0
theorem d129_0 : decode (pB 129) 0 = .ok (.aload_n 0, 1) := by decide +kernel
theorem d129_1 : decode (pB 129) 1 = .ok (.iconst 0, 1) := by decide +kernel
theorem d129_2 : decode (pB 129) 2 = .ok (.putfield 44, 3) := by decide +kernel
theorem d129_5 : decode (pB 129) 5 = .ok (.aload_n 0, 1) := by decide +kernel
theorem d129_6 : decode (pB 129) 6 = .ok (.iload_n 1, 1) := by decide +kernel
theorem d129_7 : decode (pB 129) 7 = .ok (.invokevirtual 131, 3) := by decide +kernel
theorem d129_10 : decode (pB 129) 10 = .ok (.istore_n 2, 1) := by decide +kernel
theorem d129_11 : decode (pB 129) 11 = .ok (.iload_n 2, 1) := by decide +kernel
theorem d129_12 : decode (pB 129) 12 = .ok (.ifCond .eq 5, 3) := by decide +kernel
theorem d129_15 : decode (pB 129) 15 = .ok (.iload_n 2, 1) := by decide +kernel
theorem d129_16 : decode (pB 129) 16 = .ok (.ireturn, 1) := by decide +kernel
theorem d129_17 : decode (pB 129) 17 = .ok (.aload_n 0, 1) := by decide +kernel
theorem d129_18 : decode (pB 129) 18 = .ok (.invokevirtual 93, 3) := by decide +kernel
theorem d129_21 : decode (pB 129) 21 = .ok (.aload_n 0, 1) := by decide +kernel
theorem d129_22 : decode (pB 129) 22 = .ok (.iload_n 1, 1) := by decide +kernel
theorem d129_23 : decode (pB 129) 23 = .ok (.invokevirtual 134, 3) := by decide +kernel
theorem d129_26 : decode (pB 129) 26 = .ok (.ireturn, 1) := by decide +kernel
theorem st1_129_2 : p_st1 129 2 = true := by decide +kernel
/-- RX5.fold -/
def t129_0 : List (Nat × pO) := [(0, o_aload 0 1), (1, o_push (.int (nI 0)) 2), (2, o_putI 5 0 5), (5, o_aload 0 6), (6, o_iload 1 7), (7, o_invV 5 127 1 10), (10, o_istore 2 11), (11, o_iload 2 12), (12, o_ifeq 17 15), (15, o_iload 2 16), (16, o_iret), (17, o_aload 0 18), (18, o_invV 5 100 0 21), (21, o_aload 0 22), (22, o_iload 1 23), (23, o_invV 5 128 1 26), (26, o_iret)]
theorem ok129_0 : ∀ q ∈ t129_0, p_Z 129 q := List.forall_mem_cons.mpr ⟨⟨s_aload_n d129_0 rfl, tl_aload _ _⟩, List.forall_mem_cons.mpr ⟨⟨s_iconst d129_1 rfl, tl_push _ _⟩, List.forall_mem_cons.mpr ⟨⟨f_putI_5_0 d129_2 wd_616, tl_putI _ _ _⟩, List.forall_mem_cons.mpr ⟨⟨s_aload_n d129_5 rfl, tl_aload _ _⟩, List.forall_mem_cons.mpr ⟨⟨s_iload_n d129_6 rfl, tl_iload _ _⟩, List.forall_mem_cons.mpr ⟨⟨q_invV_127 d129_7 wd_750, tl_invV _ _ _ _⟩, List.forall_mem_cons.mpr ⟨⟨s_istore_n d129_10 rfl st1_129_2, tl_istore _ _⟩, List.forall_mem_cons.mpr ⟨⟨s_iload_n d129_11 rfl, tl_iload _ _⟩, List.forall_mem_cons.mpr ⟨⟨s_ifeq d129_12 rfl, tl_ifeq _ _⟩, List.forall_mem_cons.mpr ⟨⟨s_iload_n d129_15 rfl, tl_iload _ _⟩, List.forall_mem_cons.mpr ⟨⟨s_iret d129_16 rfl, tl_iret⟩, List.forall_mem_cons.mpr ⟨⟨s_aload_n d129_17 rfl, tl_aload _ _⟩, List.forall_mem_cons.mpr ⟨⟨q_invV_100 d129_18 wd_682, tl_invV _ _ _ _⟩, List.forall_mem_cons.mpr ⟨⟨s_aload_n d129_21 rfl, tl_aload _ _⟩, List.forall_mem_cons.mpr ⟨⟨s_iload_n d129_22 rfl, tl_iload _ _⟩, List.forall_mem_cons.mpr ⟨⟨q_invV_128 d129_23 wd_786, tl_invV _ _ _ _⟩, List.forall_mem_cons.mpr ⟨⟨s_iret d129_26 rfl, tl_iret⟩, fun _ h => absurd h List.not_mem_nil⟩⟩⟩⟩⟩⟩⟩⟩⟩⟩⟩⟩⟩⟩⟩⟩⟩
def t129 : List (Nat × pO) := t129_0
theorem ok129 : ∀ q ∈ t129, p_Z 129 q := ok129_0
theorem d130_0 : decode (pB 130) 0 = .ok (.aload_n 0, 1) := by decide +kernel
theorem d130_1 : decode (pB 130) 1 = .ok (.iconst 0, 1) := by decide +kernel
theorem d130_2 : decode (pB 130) 2 = .ok (.putfield 44, 3) := by decide +kernel
theorem d130_5 : decode (pB 130) 5 = .ok (.aload_n 0, 1) := by decide +kernel
theorem d130_6 : decode (pB 130) 6 = .ok (.iload_n 1, 1) := by decide +kernel
theorem d130_7 : decode (pB 130) 7 = .ok (.invokevirtual 125, 3) := by decide +kernel
theorem d130_10 : decode (pB 130) 10 = .ok (.istore_n 2, 1) := by decide +kernel
theorem d130_11 : decode (pB 130) 11 = .ok (.iload_n 2, 1) := by decide +kernel
theorem d130_12 : decode (pB 130) 12 = .ok (.ifCond .eq 5, 3) := by decide +kernel
theorem d130_15 : decode (pB 130) 15 = .ok (.iload_n 2, 1) := by decide +kernel
theorem d130_16 : decode (pB 130) 16 = .ok (.ireturn, 1) := by decide +kernel
theorem d130_17 : decode (pB 130) 17 = .ok (.aload_n 0, 1) := by decide +kernel
theorem d130_18 : decode (pB 130) 18 = .ok (.invokevirtual 93, 3) := by decide +kernel
theorem d130_21 : decode (pB 130) 21 = .ok (.aload_n 0, 1) := by decide +kernel
theorem d130_22 : decode (pB 130) 22 = .ok (.iload_n 1, 1) := by decide +kernel
theorem d130_23 : decode (pB 130) 23 = .ok (.invokevirtual 134, 3) := by decide +kernel
theorem d130_26 : decode (pB 130) 26 = .ok (.pop, 1) := by decide +kernel
theorem d130_27 : decode (pB 130) 27 = .ok (.aload_n 0, 1) := by decide +kernel
theorem d130_28 : decode (pB 130) 28 = .ok (.iconst (-1), 1) := by decide +kernel
theorem d130_29 : decode (pB 130) 29 = .ok (.invokevirtual 128, 3) := by decide +kernel
theorem d130_32 : decode (pB 130) 32 = .ok (.ireturn, 1) := by decide +kernel
theorem st1_130_2 : p_st1 130 2 = true := by decide +kernel
/-- RX5.press -/
def t130_0 : List (Nat × pO) := [(0, o_aload 0 1), (1, o_push (.int (nI 0)) 2), (2, o_putI 5 0 5), (5, o_aload 0 6), (6, o_iload 1 7), (7, o_invV 5 126 1 10), (10, o_istore 2 11), (11, o_iload 2 12), (12, o_ifeq 17 15), (15, o_iload 2 16), (16, o_iret), (17, o_aload 0 18), (18, o_invV 5 100 0 21), (21, o_aload 0 22), (22, o_iload 1 23), (23, o_invV 5 128 1 26), (26, o_popi 27), (27, o_aload 0 28), (28, o_push (.int (nM 1)) 29), (29, o_invV 5 108 1 32), (32, o_iret)]
theorem ok130_0 : ∀ q ∈ t130_0, p_Z 130 q := List.forall_mem_cons.mpr ⟨⟨s_aload_n d130_0 rfl, tl_aload _ _⟩, List.forall_mem_cons.mpr ⟨⟨s_iconst d130_1 rfl, tl_push _ _⟩, List.forall_mem_cons.mpr ⟨⟨f_putI_5_0 d130_2 wd_616, tl_putI _ _ _⟩, List.forall_mem_cons.mpr ⟨⟨s_aload_n d130_5 rfl, tl_aload _ _⟩, List.forall_mem_cons.mpr ⟨⟨s_iload_n d130_6 rfl, tl_iload _ _⟩, List.forall_mem_cons.mpr ⟨⟨q_invV_126 d130_7 wd_754, tl_invV _ _ _ _⟩, List.forall_mem_cons.mpr ⟨⟨s_istore_n d130_10 rfl st1_130_2, tl_istore _ _⟩, List.forall_mem_cons.mpr ⟨⟨s_iload_n d130_11 rfl, tl_iload _ _⟩, List.forall_mem_cons.mpr ⟨⟨s_ifeq d130_12 rfl, tl_ifeq _ _⟩, List.forall_mem_cons.mpr ⟨⟨s_iload_n d130_15 rfl, tl_iload _ _⟩, List.forall_mem_cons.mpr ⟨⟨s_iret d130_16 rfl, tl_iret⟩, List.forall_mem_cons.mpr ⟨⟨s_aload_n d130_17 rfl, tl_aload _ _⟩, List.forall_mem_cons.mpr ⟨⟨q_invV_100 d130_18 wd_682, tl_invV _ _ _ _⟩, List.forall_mem_cons.mpr ⟨⟨s_aload_n d130_21 rfl, tl_aload _ _⟩, List.forall_mem_cons.mpr ⟨⟨s_iload_n d130_22 rfl, tl_iload _ _⟩, List.forall_mem_cons.mpr ⟨⟨q_invV_128 d130_23 wd_786, tl_invV _ _ _ _⟩, List.forall_mem_cons.mpr ⟨⟨s_popi d130_26, tl_popi _⟩, List.forall_mem_cons.mpr ⟨⟨s_aload_n d130_27 rfl, tl_aload _ _⟩, List.forall_mem_cons.mpr ⟨⟨s_iconst d130_28 rfl, tl_push _ _⟩, List.forall_mem_cons.mpr ⟨⟨q_invV_108 d130_29 wd_770, tl_invV _ _ _ _⟩, List.forall_mem_cons.mpr ⟨⟨s_iret d130_32 rfl, tl_iret⟩, fun _ h => absurd h List.not_mem_nil⟩⟩⟩⟩⟩⟩⟩⟩⟩⟩⟩⟩⟩⟩⟩⟩⟩⟩⟩⟩⟩
def t130 : List (Nat × pO) := t130_0
theorem ok130 : ∀ q ∈ t130, p_Z 130 q := ok130_0
theorem d131_0 : decode (pB 131) 0 = .ok (.aload_n 0, 1) := by decide +kernel
theorem d131_1 : decode (pB 131) 1 = .ok (.getfield 7, 3) := by decide +kernel
theorem d131_4 : decode (pB 131) 4 = .ok (.iconst 4, 1) := by decide +kernel
theorem d131_5 : decode (pB 131) 5 = .ok (.dup2, 1) := by decide +kernel
theorem d131_6 : decode (pB 131) 6 = .ok (.iaload, 1) := by decide +kernel
theorem d131_7 : decode (pB 131) 7 = .ok (.iconst 1, 1) := by decide +kernel
theorem d131_8 : decode (pB 131) 8 = .ok (.isub, 1) := by decide +kernel
theorem d131_9 : decode (pB 131) 9 = .ok (.iastore, 1) := by decide +kernel
theorem d131_10 : decode (pB 131) 10 = .ok (.aload_n 0, 1) := by decide +kernel
theorem d131_11 : decode (pB 131) 11 = .ok (.getfield 7, 3) := by decide +kernel
theorem d131_14 : decode (pB 131) 14 = .ok (.iconst 5, 1) := by decide +kernel
theorem d131_15 : decode (pB 131) 15 = .ok (.aload_n 0, 1) := by decide +kernel
theorem d131_16 : decode (pB 131) 16 = .ok (.getfield 7, 3) := by decide +kernel
theorem d131_19 : decode (pB 131) 19 = .ok (.iconst 4, 1) := by decide +kernel
theorem d131_20 : decode (pB 131) 20 = .ok (.iaload, 1) := by decide +kernel
theorem d131_21 : decode (pB 131) 21 = .ok (.iadd, 1) := by decide +kernel
theorem d131_22 : decode (pB 131) 22 = .ok (.iaload, 1) := by decide +kernel
theorem d131_23 : decode (pB 131) 23 = .ok (.istore_n 1, 1) := by decide +kernel
theorem d131_24 : decode (pB 131) 24 = .ok (.aload_n 0, 1) := by decide +kernel
theorem d131_25 : decode (pB 131) 25 = .ok (.getfield 7, 3) := by decide +kernel
theorem d131_28 : decode (pB 131) 28 = .ok (.iconst 5, 1) := by decide +kernel
theorem d131_29 : decode (pB 131) 29 = .ok (.aload_n 0, 1) := by decide +kernel
theorem d131_30 : decode (pB 131) 30 = .ok (.getfield 7, 3) := by decide +kernel
theorem d131_33 : decode (pB 131) 33 = .ok (.iconst 4, 1) := by decide +kernel
theorem d131_34 : decode (pB 131) 34 = .ok (.iaload, 1) := by decide +kernel
theorem d131_35 : decode (pB 131) 35 = .ok (.iadd, 1) := by decide +kernel
theorem d131_36 : decode (pB 131) 36 = .ok (.iconst 0, 1) := by decide +kernel
theorem d131_37 : decode (pB 131) 37 = .ok (.iastore, 1) := by decide +kernel
theorem d131_38 : decode (pB 131) 38 = .ok (.iload_n 1, 1) := by decide +kernel
theorem d131_39 : decode (pB 131) 39 = .ok (.ireturn, 1) := by decide +kernel
theorem st1_131_1 : p_st1 131 1 = true := by decide +kernel
/-- RX5.unfolds -/
def t131_0 : List (Nat × pO) := [(0, o_aload 0 1), (1, o_getR 5 1 4), (4, o_push (.int (nI 4)) 5), (5, o_dup2i 6), (6, o_iald 7), (7, o_push (.int (nI 1)) 8), (8, o_isub 9), (9, o_iast 10), (10, o_aload 0 11), (11, o_getR 5 1 14), (14, o_push (.int (nI 5)) 15), (15, o_aload 0 16), (16, o_getR 5 1 19), (19, o_push (.int (nI 4)) 20), (20, o_iald 21), (21, o_iadd 22), (22, o_iald 23), (23, o_istore 1 24), (24, o_aload 0 25), (25, o_getR 5 1 28), (28, o_push (.int (nI 5)) 29), (29, o_aload 0 30), (30, o_getR 5 1 33), (33, o_push (.int (nI 4)) 34), (34, o_iald 35), (35, o_iadd 36), (36, o_push (.int (nI 0)) 37), (37, o_iast 38), (38, o_iload 1 39), (39, o_iret)]
theorem ok131_0 : ∀ q ∈ t131_0, p_Z 131 q := List.forall_mem_cons.mpr ⟨⟨s_aload_n d131_0 rfl, tl_aload _ _⟩, List.forall_mem_cons.mpr ⟨⟨f_getR_5_1 d131_1 wd_617, tl_getR _ _ _⟩, List.forall_mem_cons.mpr ⟨⟨s_iconst d131_4 rfl, tl_push _ _⟩, List.forall_mem_cons.mpr ⟨⟨s_dup2i d131_5, tl_dup2i _⟩, List.forall_mem_cons.mpr ⟨⟨s_iald d131_6, tl_iald _⟩, List.forall_mem_cons.mpr ⟨⟨s_iconst d131_7 rfl, tl_push _ _⟩, List.forall_mem_cons.mpr ⟨⟨s_isub d131_8, tl_isub _⟩, List.forall_mem_cons.mpr ⟨⟨s_iast d131_9, tl_iast _⟩, List.forall_mem_cons.mpr ⟨⟨s_aload_n d131_10 rfl, tl_aload _ _⟩, List.forall_mem_cons.mpr ⟨⟨f_getR_5_1 d131_11 wd_617, tl_getR _ _ _⟩, List.forall_mem_cons.mpr ⟨⟨s_iconst d131_14 rfl, tl_push _ _⟩, List.forall_mem_cons.mpr ⟨⟨s_aload_n d131_15 rfl, tl_aload _ _⟩, List.forall_mem_cons.mpr ⟨⟨f_getR_5_1 d131_16 wd_617, tl_getR _ _ _⟩, List.forall_mem_cons.mpr ⟨⟨s_iconst d131_19 rfl, tl_push _ _⟩, List.forall_mem_cons.mpr ⟨⟨s_iald d131_20, tl_iald _⟩, List.forall_mem_cons.mpr ⟨⟨s_iadd d131_21, tl_iadd _⟩, List.forall_mem_cons.mpr ⟨⟨s_iald d131_22, tl_iald _⟩, List.forall_mem_cons.mpr ⟨⟨s_istore_n d131_23 rfl st1_131_1, tl_istore _ _⟩, List.forall_mem_cons.mpr ⟨⟨s_aload_n d131_24 rfl, tl_aload _ _⟩, List.forall_mem_cons.mpr ⟨⟨f_getR_5_1 d131_25 wd_617, tl_getR _ _ _⟩, List.forall_mem_cons.mpr ⟨⟨s_iconst d131_28 rfl, tl_push _ _⟩, List.forall_mem_cons.mpr ⟨⟨s_aload_n d131_29 rfl, tl_aload _ _⟩, List.forall_mem_cons.mpr ⟨⟨f_getR_5_1 d131_30 wd_617, tl_getR _ _ _⟩, List.forall_mem_cons.mpr ⟨⟨s_iconst d131_33 rfl, tl_push _ _⟩, List.forall_mem_cons.mpr ⟨⟨s_iald d131_34, tl_iald _⟩, List.forall_mem_cons.mpr ⟨⟨s_iadd d131_35, tl_iadd _⟩, List.forall_mem_cons.mpr ⟨⟨s_iconst d131_36 rfl, tl_push _ _⟩, List.forall_mem_cons.mpr ⟨⟨s_iast d131_37, tl_iast _⟩, List.forall_mem_cons.mpr ⟨⟨s_iload_n d131_38 rfl, tl_iload _ _⟩, List.forall_mem_cons.mpr ⟨⟨s_iret d131_39 rfl, tl_iret⟩, fun _ h => absurd h List.not_mem_nil⟩⟩⟩⟩⟩⟩⟩⟩⟩⟩⟩⟩⟩⟩⟩⟩⟩⟩⟩⟩⟩⟩⟩⟩⟩⟩⟩⟩⟩⟩
def t131 : List (Nat × pO) := t131_0
theorem ok131 : ∀ q ∈ t131, p_Z 131 q := ok131_0
theorem d132_0 : decode (pB 132) 0 = .ok (.aload_n 0, 1) := by decide +kernel
theorem d132_1 : decode (pB 132) 1 = .ok (.iconst 0, 1) := by decide +kernel
theorem d132_2 : decode (pB 132) 2 = .ok (.putfield 44, 3) := by decide +kernel
theorem d132_5 : decode (pB 132) 5 = .ok (.aload_n 0, 1) := by decide +kernel
theorem d132_6 : decode (pB 132) 6 = .ok (.getfield 7, 3) := by decide +kernel
theorem d132_9 : decode (pB 132) 9 = .ok (.iconst 4, 1) := by decide +kernel
theorem d132_10 : decode (pB 132) 10 = .ok (.iaload, 1) := by decide +kernel
theorem d132_11 : decode (pB 132) 11 = .ok (.ifCond .ne 6, 3) := by decide +kernel
theorem d132_14 : decode (pB 132) 14 = .ok (.bipush (-5), 2) := by decide +kernel
theorem d132_16 : decode (pB 132) 16 = .ok (.ireturn, 1) := by decide +kernel
theorem d132_17 : decode (pB 132) 17 = .ok (.aload_n 0, 1) := by decide +kernel
theorem d132_18 : decode (pB 132) 18 = .ok (.invokevirtual 93, 3) := by decide +kernel
theorem d132_21 : decode (pB 132) 21 = .ok (.aload_n 0, 1) := by decide +kernel
theorem d132_22 : decode (pB 132) 22 = .ok (.invokevirtual 137, 3) := by decide +kernel
theorem d132_25 : decode (pB 132) 25 = .ok (.ireturn, 1) := by decide +kernel
/-- RX5.unfold -/
def t132_0 : List (Nat × pO) := [(0, o_aload 0 1), (1, o_push (.int (nI 0)) 2), (2, o_putI 5 0 5), (5, o_aload 0 6), (6, o_getR 5 1 9), (9, o_push (.int (nI 4)) 10), (10, o_iald 11), (11, o_ifne 17 14), (14, o_push (.int (nM 5)) 16), (16, o_iret), (17, o_aload 0 18), (18, o_invV 5 100 0 21), (21, o_aload 0 22), (22, o_invV 5 131 0 25), (25, o_iret)]
theorem ok132_0 : ∀ q ∈ t132_0, p_Z 132 q := List.forall_mem_cons.mpr ⟨⟨s_aload_n d132_0 rfl, tl_aload _ _⟩, List.forall_mem_cons.mpr ⟨⟨s_iconst d132_1 rfl, tl_push _ _⟩, List.forall_mem_cons.mpr ⟨⟨f_putI_5_0 d132_2 wd_616, tl_putI _ _ _⟩, List.forall_mem_cons.mpr ⟨⟨s_aload_n d132_5 rfl, tl_aload _ _⟩, List.forall_mem_cons.mpr ⟨⟨f_getR_5_1 d132_6 wd_617, tl_getR _ _ _⟩, List.forall_mem_cons.mpr ⟨⟨s_iconst d132_9 rfl, tl_push _ _⟩, List.forall_mem_cons.mpr ⟨⟨s_iald d132_10, tl_iald _⟩, List.forall_mem_cons.mpr ⟨⟨s_ifne d132_11 rfl, tl_ifne _ _⟩, List.forall_mem_cons.mpr ⟨⟨s_bipush d132_14 rfl, tl_push _ _⟩, List.forall_mem_cons.mpr ⟨⟨s_iret d132_16 rfl, tl_iret⟩, List.forall_mem_cons.mpr ⟨⟨s_aload_n d132_17 rfl, tl_aload _ _⟩, List.forall_mem_cons.mpr ⟨⟨q_invV_100 d132_18 wd_682, tl_invV _ _ _ _⟩, List.forall_mem_cons.mpr ⟨⟨s_aload_n d132_21 rfl, tl_aload _ _⟩, List.forall_mem_cons.mpr ⟨⟨q_invV_131 d132_22 wd_798, tl_invV _ _ _ _⟩, List.forall_mem_cons.mpr ⟨⟨s_iret d132_25 rfl, tl_iret⟩, fun _ h => absurd h List.not_mem_nil⟩⟩⟩⟩⟩⟩⟩⟩⟩⟩⟩⟩⟩⟩⟩
def t132 : List (Nat × pO) := t132_0
theorem ok132 : ∀ q ∈ t132, p_Z 132 q := ok132_0
theorem d133_0 : decode (pB 133) 0 = .ok (.aload_n 0, 1) := by decide +kernel
theorem d133_1 : decode (pB 133) 1 = .ok (.getfield 23, 3) := by decide +kernel
theorem d133_4 : decode (pB 133) 4 = .ok (.aload_n 0, 1) := by decide +kernel
theorem d133_5 : decode (pB 133) 5 = .ok (.getfield 140, 3) := by decide +kernel
theorem d133_8 : decode (pB 133) 8 = .ok (.iload_n 1, 1) := by decide +kernel
theorem d133_9 : decode (pB 133) 9 = .ok (.iastore, 1) := by decide +kernel
theorem d133_10 : decode (pB 133) 10 = .ok (.aload_n 0, 1) := by decide +kernel
theorem d133_11 : decode (pB 133) 11 = .ok (.dup, 1) := by decide +kernel
theorem d133_12 : decode (pB 133) 12 = .ok (.getfield 140, 3) := by decide +kernel
theorem d133_15 : decode (pB 133) 15 = .ok (.iconst 1, 1) := by decide +kernel
theorem d133_16 : decode (pB 133) 16 = .ok (.iadd, 1) := by decide +kernel
theorem d133_17 : decode (pB 133) 17 = .ok (.putfield 140, 3) := by decide +kernel
theorem d133_20 : decode (pB 133) 20 = .ok (.return_, 1) := by decide +kernel
/-- RX5.writes -/
def t133_0 : List (Nat × pO) := [(0, o_aload 0 1), (1, o_getR 5 6 4), (4, o_aload 0 5), (5, o_getI 5 7 8), (8, o_iload 1 9), (9, o_iast 10), (10, o_aload 0 11), (11, o_dupr 12), (12, o_getI 5 7 15), (15, o_push (.int (nI 1)) 16), (16, o_iadd 17), (17, o_putI 5 7 20), (20, o_vret)]
theorem ok133_0 : ∀ q ∈ t133_0, p_Z 133 q := List.forall_mem_cons.mpr ⟨⟨s_aload_n d133_0 rfl, tl_aload _ _⟩, List.forall_mem_cons.mpr ⟨⟨f_getR_5_6 d133_1 wd_622, tl_getR _ _ _⟩, List.forall_mem_cons.mpr ⟨⟨s_aload_n d133_4 rfl, tl_aload _ _⟩, List.forall_mem_cons.mpr ⟨⟨f_getI_5_7 d133_5 wd_623, tl_getI _ _ _⟩, List.forall_mem_cons.mpr ⟨⟨s_iload_n d133_8 rfl, tl_iload _ _⟩, List.forall_mem_cons.mpr ⟨⟨s_iast d133_9, tl_iast _⟩, List.forall_mem_cons.mpr ⟨⟨s_aload_n d133_10 rfl, tl_aload _ _⟩, List.forall_mem_cons.mpr ⟨⟨s_dupr d133_11, tl_dupr _⟩, List.forall_mem_cons.mpr ⟨⟨f_getI_5_7 d133_12 wd_623, tl_getI _ _ _⟩, List.forall_mem_cons.mpr ⟨⟨s_iconst d133_15 rfl, tl_push _ _⟩, List.forall_mem_cons.mpr ⟨⟨s_iadd d133_16, tl_iadd _⟩, List.forall_mem_cons.mpr ⟨⟨f_putI_5_7 d133_17 wd_623, tl_putI _ _ _⟩, List.forall_mem_cons.mpr ⟨⟨s_vret d133_20 rfl, tl_vret⟩, fun _ h => absurd h List.not_mem_nil⟩⟩⟩⟩⟩⟩⟩⟩⟩⟩⟩⟩⟩
def t133 : List (Nat × pO) := t133_0
theorem ok133 : ∀ q ∈ t133, p_Z 133 q := ok133_0
theorem d134_0 : decode (pB 134) 0 = .ok (.aload_n 0, 1) := by decide +kernel
theorem d134_1 : decode (pB 134) 1 = .ok (.iconst 0, 1) := by decide +kernel
theorem d134_2 : decode (pB 134) 2 = .ok (.putfield 44, 3) := by decide +kernel
theorem d134_5 : decode (pB 134) 5 = .ok (.aload_n 0, 1) := by decide +kernel
theorem d134_6 : decode (pB 134) 6 = .ok (.invokevirtual 122, 3) := by decide +kernel
theorem d134_9 : decode (pB 134) 9 = .ok (.aload_n 0, 1) := by decide +kernel
theorem d134_10 : decode (pB 134) 10 = .ok (.iconst 0, 1) := by decide +kernel
theorem d134_11 : decode (pB 134) 11 = .ok (.putfield 140, 3) := by decide +kernel
theorem d134_14 : decode (pB 134) 14 = .ok (.iconst 0, 1) := by decide +kernel
theorem d134_15 : decode (pB 134) 15 = .ok (.istore_n 1, 1) := by decide +kernel
theorem d134_16 : decode (pB 134) 16 = .ok (.iload_n 1, 1) := by decide +kernel
theorem d134_17 : decode (pB 134) 17 = .ok (.aload_n 0, 1) := by decide +kernel
theorem d134_18 : decode (pB 134) 18 = .ok (.getfield 55, 3) := by decide +kernel
theorem d134_21 : decode (pB 134) 21 = .ok (.if_icmp .ge 88, 3) := by decide +kernel
theorem d134_24 : decode (pB 134) 24 = .ok (.iconst 0, 1) := by decide +kernel
theorem d134_25 : decode (pB 134) 25 = .ok (.istore_n 2, 1) := by decide +kernel
theorem d134_26 : decode (pB 134) 26 = .ok (.iload_n 2, 1) := by decide +kernel
theorem d134_27 : decode (pB 134) 27 = .ok (.aload_n 0, 1) := by decide +kernel
theorem d134_28 : decode (pB 134) 28 = .ok (.getfield 32, 3) := by decide +kernel
theorem d134_31 : decode (pB 134) 31 = .ok (.iload_n 1, 1) := by decide +kernel
theorem d134_32 : decode (pB 134) 32 = .ok (.iaload, 1) := by decide +kernel
theorem d134_33 : decode (pB 134) 33 = .ok (.if_icmp .ge 70, 3) := by decide +kernel
theorem d134_36 : decode (pB 134) 36 = .ok (.aload_n 0, 1) := by decide +kernel
theorem d134_37 : decode (pB 134) 37 = .ok (.getfield 29, 3) := by decide +kernel
theorem d134_40 : decode (pB 134) 40 = .ok (.bipush 16, 2) := by decide +kernel
theorem d134_42 : decode (pB 134) 42 = .ok (.iload_n 1, 1) := by decide +kernel
theorem d134_43 : decode (pB 134) 43 = .ok (.imul, 1) := by decide +kernel
theorem d134_44 : decode (pB 134) 44 = .ok (.iload_n 2, 1) := by decide +kernel
theorem d134_45 : decode (pB 134) 45 = .ok (.iadd, 1) := by decide +kernel
theorem d134_46 : decode (pB 134) 46 = .ok (.iaload, 1) := by decide +kernel
theorem d134_47 : decode (pB 134) 47 = .ok (.istore_n 3, 1) := by decide +kernel
theorem d134_48 : decode (pB 134) 48 = .ok (.iload_n 1, 1) := by decide +kernel
theorem d134_49 : decode (pB 134) 49 = .ok (.iload_n 2, 1) := by decide +kernel
theorem d134_50 : decode (pB 134) 50 = .ok (.iadd, 1) := by decide +kernel
theorem d134_51 : decode (pB 134) 51 = .ok (.ifCond .le 18, 3) := by decide +kernel
theorem d134_54 : decode (pB 134) 54 = .ok (.aload_n 0, 1) := by decide +kernel
theorem d134_55 : decode (pB 134) 55 = .ok (.iload_n 2, 1) := by decide +kernel
theorem d134_56 : decode (pB 134) 56 = .ok (.ifCond .ne 8, 3) := by decide +kernel
theorem d134_59 : decode (pB 134) 59 = .ok (.bipush 47, 2) := by decide +kernel
theorem d134_61 : decode (pB 134) 61 = .ok (.goto 5, 3) := by decide +kernel
theorem d134_64 : decode (pB 134) 64 = .ok (.bipush 46, 2) := by decide +kernel
theorem d134_66 : decode (pB 134) 66 = .ok (.invokevirtual 143, 3) := by decide +kernel
theorem d134_69 : decode (pB 134) 69 = .ok (.iload_n 3, 1) := by decide +kernel
theorem d134_70 : decode (pB 134) 70 = .ok (.bipush 9, 2) := by decide +kernel
theorem d134_72 : decode (pB 134) 72 = .ok (.if_icmp .le 14, 3) := by decide +kernel
theorem d134_75 : decode (pB 134) 75 = .ok (.aload_n 0, 1) := by decide +kernel
theorem d134_76 : decode (pB 134) 76 = .ok (.bipush 48, 2) := by decide +kernel
theorem d134_78 : decode (pB 134) 78 = .ok (.iload_n 3, 1) := by decide +kernel
theorem d134_79 : decode (pB 134) 79 = .ok (.bipush 10, 2) := by decide +kernel
theorem d134_81 : decode (pB 134) 81 = .ok (.idiv, 1) := by decide +kernel
theorem d134_82 : decode (pB 134) 82 = .ok (.iadd, 1) := by decide +kernel
theorem d134_83 : decode (pB 134) 83 = .ok (.invokevirtual 143, 3) := by decide +kernel
theorem d134_86 : decode (pB 134) 86 = .ok (.aload_n 0, 1) := by decide +kernel
theorem d134_87 : decode (pB 134) 87 = .ok (.bipush 48, 2) := by decide +kernel
theorem d134_89 : decode (pB 134) 89 = .ok (.iload_n 3, 1) := by decide +kernel
theorem d134_90 : decode (pB 134) 90 = .ok (.bipush 10, 2) := by decide +kernel
theorem d134_92 : decode (pB 134) 92 = .ok (.irem, 1) := by decide +kernel
theorem d134_93 : decode (pB 134) 93 = .ok (.iadd, 1) := by decide +kernel
theorem d134_94 : decode (pB 134) 94 = .ok (.invokevirtual 143, 3) := by decide +kernel
theorem d134_97 : decode (pB 134) 97 = .ok (.iinc 2 1, 3) := by decide +kernel
theorem d134_100 : decode (pB 134) 100 = .ok (.goto (-74), 3) := by decide +kernel
theorem d134_103 : decode (pB 134) 103 = .ok (.iinc 1 1, 3) := by decide +kernel
theorem d134_106 : decode (pB 134) 106 = .ok (.goto (-90), 3) := by decide +kernel
theorem d134_109 : decode (pB 134) 109 = .ok (.aload_n 0, 1) := by decide +kernel
theorem d134_110 : decode (pB 134) 110 = .ok (.getfield 140, 3) := by decide +kernel
theorem d134_113 : decode (pB 134) 113 = .ok (.ireturn, 1) := by decide +kernel
theorem st1_134_1 : p_st1 134 1 = true := by decide +kernel
theorem st1_134_2 : p_st1 134 2 = true := by decide +kernel
theorem st1_134_3 : p_st1 134 3 = true := by decide +kernel
/-- RX5.write -/
def t134_0 : List (Nat × pO) := [(0, o_aload 0 1), (1, o_push (.int (nI 0)) 2), (2, o_putI 5 0 5), (5, o_aload 0 6), (6, o_invV 5 103 0 9), (9, o_aload 0 10), (10, o_push (.int (nI 0)) 11), (11, o_putI 5 7 14), (14, o_push (.int (nI 0)) 15), (15, o_istore 1 16), (16, o_iload 1 17), (17, o_aload 0 18), (18, o_getI 5 14 21), (21, o_icge 109 24), (24, o_push (.int (nI 0)) 25), (25, o_istore 2 26), (26, o_iload 2 27), (27, o_aload 0 28), (28, o_getR 5 13 31), (31, o_iload 1 32), (32, o_iald 33), (33, o_icge 103 36), (36, o_aload 0 37), (37, o_getR 5 12 40), (40, o_push (.int (nI 16)) 42), (42, o_iload 1 43), (43, o_imul 44), (44, o_iload 2 45), (45, o_iadd 46), (46, o_iald 47), (47, o_istore 3 48), (48, o_iload 1 49), (49, o_iload 2 50), (50, o_iadd 51), (51, o_ifle 69 54), (54, o_aload 0 55), (55, o_iload 2 56), (56, o_ifne 64 59), (59, o_push (.int (nI 47)) 61), (61, o_goto 66)]
theorem ok134_0 : ∀ q ∈ t134_0, p_Z 134 q := List.forall_mem_cons.mpr ⟨⟨s_aload_n d134_0 rfl, tl_aload _ _⟩, List.forall_mem_cons.mpr ⟨⟨s_iconst d134_1 rfl, tl_push _ _⟩, List.forall_mem_cons.mpr ⟨⟨f_putI_5_0 d134_2 wd_616, tl_putI _ _ _⟩, List.forall_mem_cons.mpr ⟨⟨s_aload_n d134_5 rfl, tl_aload _ _⟩, List.forall_mem_cons.mpr ⟨⟨q_invV_103 d134_6 wd_758, tl_invV _ _ _ _⟩, List.forall_mem_cons.mpr ⟨⟨s_aload_n d134_9 rfl, tl_aload _ _⟩, List.forall_mem_cons.mpr ⟨⟨s_iconst d134_10 rfl, tl_push _ _⟩, List.forall_mem_cons.mpr ⟨⟨f_putI_5_7 d134_11 wd_623, tl_putI _ _ _⟩, List.forall_mem_cons.mpr ⟨⟨s_iconst d134_14 rfl, tl_push _ _⟩, List.forall_mem_cons.mpr ⟨⟨s_istore_n d134_15 rfl st1_134_1, tl_istore _ _⟩, List.forall_mem_cons.mpr ⟨⟨s_iload_n d134_16 rfl, tl_iload _ _⟩, List.forall_mem_cons.mpr ⟨⟨s_aload_n d134_17 rfl, tl_aload _ _⟩, List.forall_mem_cons.mpr ⟨⟨f_getI_5_14 d134_18 wd_630, tl_getI _ _ _⟩, List.forall_mem_cons.mpr ⟨⟨s_icge d134_21 rfl, tl_icge _ _⟩, List.forall_mem_cons.mpr ⟨⟨s_iconst d134_24 rfl, tl_push _ _⟩, List.forall_mem_cons.mpr ⟨⟨s_istore_n d134_25 rfl st1_134_2, tl_istore _ _⟩, List.forall_mem_cons.mpr ⟨⟨s_iload_n d134_26 rfl, tl_iload _ _⟩, List.forall_mem_cons.mpr ⟨⟨s_aload_n d134_27 rfl, tl_aload _ _⟩, List.forall_mem_cons.mpr ⟨⟨f_getR_5_13 d134_28 wd_629, tl_getR _ _ _⟩, List.forall_mem_cons.mpr ⟨⟨s_iload_n d134_31 rfl, tl_iload _ _⟩, List.forall_mem_cons.mpr ⟨⟨s_iald d134_32, tl_iald _⟩, List.forall_mem_cons.mpr ⟨⟨s_icge d134_33 rfl, tl_icge _ _⟩, List.forall_mem_cons.mpr ⟨⟨s_aload_n d134_36 rfl, tl_aload _ _⟩, List.forall_mem_cons.mpr ⟨⟨f_getR_5_12 d134_37 wd_628, tl_getR _ _ _⟩, List.forall_mem_cons.mpr ⟨⟨s_bipush d134_40 rfl, tl_push _ _⟩, List.forall_mem_cons.mpr ⟨⟨s_iload_n d134_42 rfl, tl_iload _ _⟩, List.forall_mem_cons.mpr ⟨⟨s_imul d134_43, tl_imul _⟩, List.forall_mem_cons.mpr ⟨⟨s_iload_n d134_44 rfl, tl_iload _ _⟩, List.forall_mem_cons.mpr ⟨⟨s_iadd d134_45, tl_iadd _⟩, List.forall_mem_cons.mpr ⟨⟨s_iald d134_46, tl_iald _⟩, List.forall_mem_cons.mpr ⟨⟨s_istore_n d134_47 rfl st1_134_3, tl_istore _ _⟩, List.forall_mem_cons.mpr ⟨⟨s_iload_n d134_48 rfl, tl_iload _ _⟩, List.forall_mem_cons.mpr ⟨⟨s_iload_n d134_49 rfl, tl_iload _ _⟩, List.forall_mem_cons.mpr ⟨⟨s_iadd d134_50, tl_iadd _⟩, List.forall_mem_cons.mpr ⟨⟨s_ifle d134_51 rfl, tl_ifle _ _⟩, List.forall_mem_cons.mpr ⟨⟨s_aload_n d134_54 rfl, tl_aload _ _⟩, List.forall_mem_cons.mpr ⟨⟨s_iload_n d134_55 rfl, tl_iload _ _⟩, List.forall_mem_cons.mpr ⟨⟨s_ifne d134_56 rfl, tl_ifne _ _⟩, List.forall_mem_cons.mpr ⟨⟨s_bipush d134_59 rfl, tl_push _ _⟩, List.forall_mem_cons.mpr ⟨⟨s_goto d134_61 rfl, tl_goto _⟩, fun _ h => absurd h List.not_mem_nil⟩⟩⟩⟩⟩⟩⟩⟩⟩⟩⟩⟩⟩⟩⟩⟩⟩⟩⟩⟩⟩⟩⟩⟩⟩⟩⟩⟩⟩⟩⟩⟩⟩⟩⟩⟩⟩⟩⟩⟩
/-- RX5.write -/
def t134_1 : List (Nat × pO) := [(64, o_push (.int (nI 46)) 66), (66, o_invV 5 133 1 69), (69, o_iload 3 70), (70, o_push (.int (nI 9)) 72), (72, o_icle 86 75), (75, o_aload 0 76), (76, o_push (.int (nI 48)) 78), (78, o_iload 3 79), (79, o_push (.int (nI 10)) 81), (81, o_idiv 82), (82, o_iadd 83), (83, o_invV 5 133 1 86), (86, o_aload 0 87), (87, o_push (.int (nI 48)) 89), (89, o_iload 3 90), (90, o_push (.int (nI 10)) 92), (92, o_irem 93), (93, o_iadd 94), (94, o_invV 5 133 1 97), (97, o_iinc 2 (nI 1) 100), (100, o_goto 26), (103, o_iinc 1 (nI 1) 106), (106, o_goto 16), (109, o_aload 0 110), (110, o_getI 5 7 113), (113, o_iret)]
theorem ok134_1 : ∀ q ∈ t134_1, p_Z 134 q := List.forall_mem_cons.mpr ⟨⟨s_bipush d134_64 rfl, tl_push _ _⟩, List.forall_mem_cons.mpr ⟨⟨q_invV_133 d134_66 wd_806, tl_invV _ _ _ _⟩, List.forall_mem_cons.mpr ⟨⟨s_iload_n d134_69 rfl, tl_iload _ _⟩, List.forall_mem_cons.mpr ⟨⟨s_bipush d134_70 rfl, tl_push _ _⟩, List.forall_mem_cons.mpr ⟨⟨s_icle d134_72 rfl, tl_icle _ _⟩, List.forall_mem_cons.mpr ⟨⟨s_aload_n d134_75 rfl, tl_aload _ _⟩, List.forall_mem_cons.mpr ⟨⟨s_bipush d134_76 rfl, tl_push _ _⟩, List.forall_mem_cons.mpr ⟨⟨s_iload_n d134_78 rfl, tl_iload _ _⟩, List.forall_mem_cons.mpr ⟨⟨s_bipush d134_79 rfl, tl_push _ _⟩, List.forall_mem_cons.mpr ⟨⟨s_idiv d134_81, tl_idiv _⟩, List.forall_mem_cons.mpr ⟨⟨s_iadd d134_82, tl_iadd _⟩, List.forall_mem_cons.mpr ⟨⟨q_invV_133 d134_83 wd_806, tl_invV _ _ _ _⟩, List.forall_mem_cons.mpr ⟨⟨s_aload_n d134_86 rfl, tl_aload _ _⟩, List.forall_mem_cons.mpr ⟨⟨s_bipush d134_87 rfl, tl_push _ _⟩, List.forall_mem_cons.mpr ⟨⟨s_iload_n d134_89 rfl, tl_iload _ _⟩, List.forall_mem_cons.mpr ⟨⟨s_bipush d134_90 rfl, tl_push _ _⟩, List.forall_mem_cons.mpr ⟨⟨s_irem d134_92, tl_irem _⟩, List.forall_mem_cons.mpr ⟨⟨s_iadd d134_93, tl_iadd _⟩, List.forall_mem_cons.mpr ⟨⟨q_invV_133 d134_94 wd_806, tl_invV _ _ _ _⟩, List.forall_mem_cons.mpr ⟨⟨s_iinc d134_97 rfl st1_134_2, tl_iinc _ _ _⟩, List.forall_mem_cons.mpr ⟨⟨s_goto d134_100 rfl, tl_goto _⟩, List.forall_mem_cons.mpr ⟨⟨s_iinc d134_103 rfl st1_134_1, tl_iinc _ _ _⟩, List.forall_mem_cons.mpr ⟨⟨s_goto d134_106 rfl, tl_goto _⟩, List.forall_mem_cons.mpr ⟨⟨s_aload_n d134_109 rfl, tl_aload _ _⟩, List.forall_mem_cons.mpr ⟨⟨f_getI_5_7 d134_110 wd_623, tl_getI _ _ _⟩, List.forall_mem_cons.mpr ⟨⟨s_iret d134_113 rfl, tl_iret⟩, fun _ h => absurd h List.not_mem_nil⟩⟩⟩⟩⟩⟩⟩⟩⟩⟩⟩⟩⟩⟩⟩⟩⟩⟩⟩⟩⟩⟩⟩⟩⟩⟩
def t134 : List (Nat × pO) := t134_0 ++ (t134_1)
theorem ok134 : ∀ q ∈ t134, p_Z 134 q := List.forall_mem_append.mpr ⟨ok134_0, ok134_1⟩
theorem d135_0 : decode (pB 135) 0 = .ok (.iconst 0, 1) := by decide +kernel
theorem d135_1 : decode (pB 135) 1 = .ok (.istore_n 3, 1) := by decide +kernel
theorem d135_2 : decode (pB 135) 2 = .ok (.iconst 0, 1) := by decide +kernel
theorem d135_3 : decode (pB 135) 3 = .ok (.istore 4, 2) := by decide +kernel
theorem d135_5 : decode (pB 135) 5 = .ok (.iload 4, 2) := by decide +kernel
theorem d135_7 : decode (pB 135) 7 = .ok (.aload_n 0, 1) := by decide +kernel
theorem d135_8 : decode (pB 135) 8 = .ok (.getfield 7, 3) := by decide +kernel
theorem d135_11 : decode (pB 135) 11 = .ok (.iconst 3, 1) := by decide +kernel
theorem d135_12 : decode (pB 135) 12 = .ok (.iaload, 1) := by decide +kernel
theorem d135_13 : decode (pB 135) 13 = .ok (.if_icmp .ge 31, 3) := by decide +kernel
theorem d135_16 : decode (pB 135) 16 = .ok (.iload_n 3, 1) := by decide +kernel
theorem d135_17 : decode (pB 135) 17 = .ok (.aload_n 0, 1) := by decide +kernel
theorem d135_18 : decode (pB 135) 18 = .ok (.iload_n 1, 1) := by decide +kernel
theorem d135_19 : decode (pB 135) 19 = .ok (.iload 4, 2) := by decide +kernel
theorem d135_21 : decode (pB 135) 21 = .ok (.invokevirtual 80, 3) := by decide +kernel
theorem d135_24 : decode (pB 135) 24 = .ok (.iload_n 2, 1) := by decide +kernel
theorem d135_25 : decode (pB 135) 25 = .ok (.if_icmp .ne 10, 3) := by decide +kernel
theorem d135_28 : decode (pB 135) 28 = .ok (.iconst 1, 1) := by decide +kernel
theorem d135_29 : decode (pB 135) 29 = .ok (.iload 4, 2) := by decide +kernel
theorem d135_31 : decode (pB 135) 31 = .ok (.ishl, 1) := by decide +kernel
theorem d135_32 : decode (pB 135) 32 = .ok (.goto 4, 3) := by decide +kernel
theorem d135_35 : decode (pB 135) 35 = .ok (.iconst 0, 1) := by decide +kernel
theorem d135_36 : decode (pB 135) 36 = .ok (.ior, 1) := by decide +kernel
theorem d135_37 : decode (pB 135) 37 = .ok (.istore_n 3, 1) := by decide +kernel
theorem d135_38 : decode (pB 135) 38 = .ok (.iinc 4 1, 3) := by decide +kernel
theorem d135_41 : decode (pB 135) 41 = .ok (.goto (-36), 3) := by decide +kernel
theorem d135_44 : decode (pB 135) 44 = .ok (.iload_n 3, 1) := by decide +kernel
theorem d135_45 : decode (pB 135) 45 = .ok (.ireturn, 1) := by decide +kernel
theorem st1_135_3 : p_st1 135 3 = true := by decide +kernel
theorem st1_135_4 : p_st1 135 4 = true := by decide +kernel
/-- RX5.relatives -/
def t135_0 : List (Nat × pO) := [(0, o_push (.int (nI 0)) 1), (1, o_istore 3 2), (2, o_push (.int (nI 0)) 3), (3, o_istore 4 5), (5, o_iload 4 7), (7, o_aload 0 8), (8, o_getR 5 1 11), (11, o_push (.int (nI 3)) 12), (12, o_iald 13), (13, o_icge 44 16), (16, o_iload 3 17), (17, o_aload 0 18), (18, o_iload 1 19), (19, o_iload 4 21), (21, o_invV 5 99 2 24), (24, o_iload 2 25), (25, o_icne 35 28), (28, o_push (.int (nI 1)) 29), (29, o_iload 4 31), (31, o_ishl 32), (32, o_goto 36), (35, o_push (.int (nI 0)) 36), (36, o_ior 37), (37, o_istore 3 38), (38, o_iinc 4 (nI 1) 41), (41, o_goto 5), (44, o_iload 3 45), (45, o_iret)]
theorem ok135_0 : ∀ q ∈ t135_0, p_Z 135 q := List.forall_mem_cons.mpr ⟨⟨s_iconst d135_0 rfl, tl_push _ _⟩, List.forall_mem_cons.mpr ⟨⟨s_istore_n d135_1 rfl st1_135_3, tl_istore _ _⟩, List.forall_mem_cons.mpr ⟨⟨s_iconst d135_2 rfl, tl_push _ _⟩, List.forall_mem_cons.mpr ⟨⟨s_istore d135_3 st1_135_4, tl_istore _ _⟩, List.forall_mem_cons.mpr ⟨⟨s_iload d135_5, tl_iload _ _⟩, List.forall_mem_cons.mpr ⟨⟨s_aload_n d135_7 rfl, tl_aload _ _⟩, List.forall_mem_cons.mpr ⟨⟨f_getR_5_1 d135_8 wd_617, tl_getR _ _ _⟩, List.forall_mem_cons.mpr ⟨⟨s_iconst d135_11 rfl, tl_push _ _⟩, List.forall_mem_cons.mpr ⟨⟨s_iald d135_12, tl_iald _⟩, List.forall_mem_cons.mpr ⟨⟨s_icge d135_13 rfl, tl_icge _ _⟩, List.forall_mem_cons.mpr ⟨⟨s_iload_n d135_16 rfl, tl_iload _ _⟩, List.forall_mem_cons.mpr ⟨⟨s_aload_n d135_17 rfl, tl_aload _ _⟩, List.forall_mem_cons.mpr ⟨⟨s_iload_n d135_18 rfl, tl_iload _ _⟩, List.forall_mem_cons.mpr ⟨⟨s_iload d135_19, tl_iload _ _⟩, List.forall_mem_cons.mpr ⟨⟨q_invV_99 d135_21 wd_742, tl_invV _ _ _ _⟩, List.forall_mem_cons.mpr ⟨⟨s_iload_n d135_24 rfl, tl_iload _ _⟩, List.forall_mem_cons.mpr ⟨⟨s_icne d135_25 rfl, tl_icne _ _⟩, List.forall_mem_cons.mpr ⟨⟨s_iconst d135_28 rfl, tl_push _ _⟩, List.forall_mem_cons.mpr ⟨⟨s_iload d135_29, tl_iload _ _⟩, List.forall_mem_cons.mpr ⟨⟨s_ishl d135_31, tl_ishl _⟩, List.forall_mem_cons.mpr ⟨⟨s_goto d135_32 rfl, tl_goto _⟩, List.forall_mem_cons.mpr ⟨⟨s_iconst d135_35 rfl, tl_push _ _⟩, List.forall_mem_cons.mpr ⟨⟨s_ior d135_36, tl_ior _⟩, List.forall_mem_cons.mpr ⟨⟨s_istore_n d135_37 rfl st1_135_3, tl_istore _ _⟩, List.forall_mem_cons.mpr ⟨⟨s_iinc d135_38 rfl st1_135_4, tl_iinc _ _ _⟩, List.forall_mem_cons.mpr ⟨⟨s_goto d135_41 rfl, tl_goto _⟩, List.forall_mem_cons.mpr ⟨⟨s_iload_n d135_44 rfl, tl_iload _ _⟩, List.forall_mem_cons.mpr ⟨⟨s_iret d135_45 rfl, tl_iret⟩, fun _ h => absurd h List.not_mem_nil⟩⟩⟩⟩⟩⟩⟩⟩⟩⟩⟩⟩⟩⟩⟩⟩⟩⟩⟩⟩⟩⟩⟩⟩⟩⟩⟩⟩
def t135 : List (Nat × pO) := t135_0
theorem ok135 : ∀ q ∈ t135, p_Z 135 q := ok135_0
theorem d136_0 : decode (pB 136) 0 = .ok (.iload_n 1, 1) := by decide +kernel
theorem d136_1 : decode (pB 136) 1 = .ok (.bipush (-6), 2) := by decide +kernel
theorem d136_3 : decode (pB 136) 3 = .ok (.if_icmp .ne 7, 3) := by decide +kernel
theorem d136_6 : decode (pB 136) 6 = .ok (.iconst 0, 1) := by decide +kernel
theorem d136_7 : decode (pB 136) 7 = .ok (.goto 6, 3) := by decide +kernel
theorem d136_10 : decode (pB 136) 10 = .ok (.iconst 1, 1) := by decide +kernel
theorem d136_11 : decode (pB 136) 11 = .ok (.iload_n 1, 1) := by decide +kernel
theorem d136_12 : decode (pB 136) 12 = .ok (.ishl, 1) := by decide +kernel
theorem d136_13 : decode (pB 136) 13 = .ok (.ireturn, 1) := by decide +kernel
/-- RX5.bit -/
def t136_0 : List (Nat × pO) := [(0, o_iload 1 1), (1, o_push (.int (nM 6)) 3), (3, o_icne 10 6), (6, o_push (.int (nI 0)) 7), (7, o_goto 13), (10, o_push (.int (nI 1)) 11), (11, o_iload 1 12), (12, o_ishl 13), (13, o_iret)]
theorem ok136_0 : ∀ q ∈ t136_0, p_Z 136 q := List.forall_mem_cons.mpr ⟨⟨s_iload_n d136_0 rfl, tl_iload _ _⟩, List.forall_mem_cons.mpr ⟨⟨s_bipush d136_1 rfl, tl_push _ _⟩, List.forall_mem_cons.mpr ⟨⟨s_icne d136_3 rfl, tl_icne _ _⟩, List.forall_mem_cons.mpr ⟨⟨s_iconst d136_6 rfl, tl_push _ _⟩, List.forall_mem_cons.mpr ⟨⟨s_goto d136_7 rfl, tl_goto _⟩, List.forall_mem_cons.mpr ⟨⟨s_iconst d136_10 rfl, tl_push _ _⟩, List.forall_mem_cons.mpr ⟨⟨s_iload_n d136_11 rfl, tl_iload _ _⟩, List.forall_mem_cons.mpr ⟨⟨s_ishl d136_12, tl_ishl _⟩, List.forall_mem_cons.mpr ⟨⟨s_iret d136_13 rfl, tl_iret⟩, fun _ h => absurd h List.not_mem_nil⟩⟩⟩⟩⟩⟩⟩⟩⟩
def t136 : List (Nat × pO) := t136_0
theorem ok136 : ∀ q ∈ t136, p_Z 136 q := ok136_0
theorem d137_0 : decode (pB 137) 0 = .ok (.aload_n 0, 1) := by decide +kernel
theorem d137_1 : decode (pB 137) 1 = .ok (.getfield 7, 3) := by decide +kernel
theorem d137_4 : decode (pB 137) 4 = .ok (.bipush 10, 2) := by decide +kernel
theorem d137_6 : decode (pB 137) 6 = .ok (.iload_n 1, 1) := by decide +kernel
theorem d137_7 : decode (pB 137) 7 = .ok (.iadd, 1) := by decide +kernel
theorem d137_8 : decode (pB 137) 8 = .ok (.iaload, 1) := by decide +kernel
theorem d137_9 : decode (pB 137) 9 = .ok (.istore_n 3, 1) := by decide +kernel
theorem d137_10 : decode (pB 137) 10 = .ok (.iload_n 3, 1) := by decide +kernel
theorem d137_11 : decode (pB 137) 11 = .ok (.bipush (-6), 2) := by decide +kernel
theorem d137_13 : decode (pB 137) 13 = .ok (.if_icmp .ne 5, 3) := by decide +kernel
theorem d137_16 : decode (pB 137) 16 = .ok (.iconst 0, 1) := by decide +kernel
theorem d137_17 : decode (pB 137) 17 = .ok (.ireturn, 1) := by decide +kernel
theorem d137_18 : decode (pB 137) 18 = .ok (.iload_n 2, 1) := by decide +kernel
theorem d137_19 : decode (pB 137) 19 = .ok (.ifCond .eq 35, 3) := by decide +kernel
theorem d137_22 : decode (pB 137) 22 = .ok (.aload_n 0, 1) := by decide +kernel
theorem d137_23 : decode (pB 137) 23 = .ok (.aload_n 0, 1) := by decide +kernel
theorem d137_24 : decode (pB 137) 24 = .ok (.aload_n 0, 1) := by decide +kernel
theorem d137_25 : decode (pB 137) 25 = .ok (.iload_n 3, 1) := by decide +kernel
theorem d137_26 : decode (pB 137) 26 = .ok (.iconst (-1), 1) := by decide +kernel
theorem d137_27 : decode (pB 137) 27 = .ok (.invokevirtual 73, 3) := by decide +kernel
theorem d137_30 : decode (pB 137) 30 = .ok (.invokevirtual 77, 3) := by decide +kernel
theorem d137_33 : decode (pB 137) 33 = .ok (.invokevirtual 146, 3) := by decide +kernel
theorem d137_36 : decode (pB 137) 36 = .ok (.aload_n 0, 1) := by decide +kernel
theorem d137_37 : decode (pB 137) 37 = .ok (.aload_n 0, 1) := by decide +kernel
theorem d137_38 : decode (pB 137) 38 = .ok (.aload_n 0, 1) := by decide +kernel
theorem d137_39 : decode (pB 137) 39 = .ok (.iload_n 3, 1) := by decide +kernel
theorem d137_40 : decode (pB 137) 40 = .ok (.iconst 1, 1) := by decide +kernel
theorem d137_41 : decode (pB 137) 41 = .ok (.invokevirtual 73, 3) := by decide +kernel
theorem d137_44 : decode (pB 137) 44 = .ok (.invokevirtual 77, 3) := by decide +kernel
theorem d137_47 : decode (pB 137) 47 = .ok (.invokevirtual 146, 3) := by decide +kernel
theorem d137_50 : decode (pB 137) 50 = .ok (.ior, 1) := by decide +kernel
theorem d137_51 : decode (pB 137) 51 = .ok (.goto 26, 3) := by decide +kernel
theorem d137_54 : decode (pB 137) 54 = .ok (.aload_n 0, 1) := by decide +kernel
theorem d137_55 : decode (pB 137) 55 = .ok (.aload_n 0, 1) := by decide +kernel
theorem d137_56 : decode (pB 137) 56 = .ok (.iload_n 3, 1) := by decide +kernel
theorem d137_57 : decode (pB 137) 57 = .ok (.iconst 1, 1) := by decide +kernel
theorem d137_58 : decode (pB 137) 58 = .ok (.isub, 1) := by decide +kernel
theorem d137_59 : decode (pB 137) 59 = .ok (.invokevirtual 77, 3) := by decide +kernel
theorem d137_62 : decode (pB 137) 62 = .ok (.invokevirtual 146, 3) := by decide +kernel
theorem d137_65 : decode (pB 137) 65 = .ok (.aload_n 0, 1) := by decide +kernel
theorem d137_66 : decode (pB 137) 66 = .ok (.aload_n 0, 1) := by decide +kernel
theorem d137_67 : decode (pB 137) 67 = .ok (.iload_n 3, 1) := by decide +kernel
theorem d137_68 : decode (pB 137) 68 = .ok (.iconst 1, 1) := by decide +kernel
theorem d137_69 : decode (pB 137) 69 = .ok (.iadd, 1) := by decide +kernel
theorem d137_70 : decode (pB 137) 70 = .ok (.invokevirtual 77, 3) := by decide +kernel
theorem d137_73 : decode (pB 137) 73 = .ok (.invokevirtual 146, 3) := by decide +kernel
theorem d137_76 : decode (pB 137) 76 = .ok (.ior, 1) := by decide +kernel
theorem d137_77 : decode (pB 137) 77 = .ok (.ireturn, 1) := by decide +kernel
theorem st1_137_3 : p_st1 137 3 = true := by decide +kernel
/-- RX5.around -/
def t137_0 : List (Nat × pO) := [(0, o_aload 0 1), (1, o_getR 5 1 4), (4, o_push (.int (nI 10)) 6), (6, o_iload 1 7), (7, o_iadd 8), (8, o_iald 9), (9, o_istore 3 10), (10, o_iload 3 11), (11, o_push (.int (nM 6)) 13), (13, o_icne 18 16), (16, o_push (.int (nI 0)) 17), (17, o_iret), (18, o_iload 2 19), (19, o_ifeq 54 22), (22, o_aload 0 23), (23, o_aload 0 24), (24, o_aload 0 25), (25, o_iload 3 26), (26, o_push (.int (nM 1)) 27), (27, o_invV 5 106 2 30), (30, o_invV 5 107 1 33), (33, o_invV 5 136 1 36), (36, o_aload 0 37), (37, o_aload 0 38), (38, o_aload 0 39), (39, o_iload 3 40), (40, o_push (.int (nI 1)) 41), (41, o_invV 5 106 2 44), (44, o_invV 5 107 1 47), (47, o_invV 5 136 1 50), (50, o_ior 51), (51, o_goto 77), (54, o_aload 0 55), (55, o_aload 0 56), (56, o_iload 3 57), (57, o_push (.int (nI 1)) 58), (58, o_isub 59), (59, o_invV 5 107 1 62), (62, o_invV 5 136 1 65), (65, o_aload 0 66)]
theorem ok137_0 : ∀ q ∈ t137_0, p_Z 137 q := List.forall_mem_cons.mpr ⟨⟨s_aload_n d137_0 rfl, tl_aload _ _⟩, List.forall_mem_cons.mpr ⟨⟨f_getR_5_1 d137_1 wd_617, tl_getR _ _ _⟩, List.forall_mem_cons.mpr ⟨⟨s_bipush d137_4 rfl, tl_push _ _⟩, List.forall_mem_cons.mpr ⟨⟨s_iload_n d137_6 rfl, tl_iload _ _⟩, List.forall_mem_cons.mpr ⟨⟨s_iadd d137_7, tl_iadd _⟩, List.forall_mem_cons.mpr ⟨⟨s_iald d137_8, tl_iald _⟩, List.forall_mem_cons.mpr ⟨⟨s_istore_n d137_9 rfl st1_137_3, tl_istore _ _⟩, List.forall_mem_cons.mpr ⟨⟨s_iload_n d137_10 rfl, tl_iload _ _⟩, List.forall_mem_cons.mpr ⟨⟨s_bipush d137_11 rfl, tl_push _ _⟩, List.forall_mem_cons.mpr ⟨⟨s_icne d137_13 rfl, tl_icne _ _⟩, List.forall_mem_cons.mpr ⟨⟨s_iconst d137_16 rfl, tl_push _ _⟩, List.forall_mem_cons.mpr ⟨⟨s_iret d137_17 rfl, tl_iret⟩, List.forall_mem_cons.mpr ⟨⟨s_iload_n d137_18 rfl, tl_iload _ _⟩, List.forall_mem_cons.mpr ⟨⟨s_ifeq d137_19 rfl, tl_ifeq _ _⟩, List.forall_mem_cons.mpr ⟨⟨s_aload_n d137_22 rfl, tl_aload _ _⟩, List.forall_mem_cons.mpr ⟨⟨s_aload_n d137_23 rfl, tl_aload _ _⟩, List.forall_mem_cons.mpr ⟨⟨s_aload_n d137_24 rfl, tl_aload _ _⟩, List.forall_mem_cons.mpr ⟨⟨s_iload_n d137_25 rfl, tl_iload _ _⟩, List.forall_mem_cons.mpr ⟨⟨s_iconst d137_26 rfl, tl_push _ _⟩, List.forall_mem_cons.mpr ⟨⟨q_invV_106 d137_27 wd_774, tl_invV _ _ _ _⟩, List.forall_mem_cons.mpr ⟨⟨q_invV_107 d137_30 wd_710, tl_invV _ _ _ _⟩, List.forall_mem_cons.mpr ⟨⟨q_invV_136 d137_33 wd_830, tl_invV _ _ _ _⟩, List.forall_mem_cons.mpr ⟨⟨s_aload_n d137_36 rfl, tl_aload _ _⟩, List.forall_mem_cons.mpr ⟨⟨s_aload_n d137_37 rfl, tl_aload _ _⟩, List.forall_mem_cons.mpr ⟨⟨s_aload_n d137_38 rfl, tl_aload _ _⟩, List.forall_mem_cons.mpr ⟨⟨s_iload_n d137_39 rfl, tl_iload _ _⟩, List.forall_mem_cons.mpr ⟨⟨s_iconst d137_40 rfl, tl_push _ _⟩, List.forall_mem_cons.mpr ⟨⟨q_invV_106 d137_41 wd_774, tl_invV _ _ _ _⟩, List.forall_mem_cons.mpr ⟨⟨q_invV_107 d137_44 wd_710, tl_invV _ _ _ _⟩, List.forall_mem_cons.mpr ⟨⟨q_invV_136 d137_47 wd_830, tl_invV _ _ _ _⟩, List.forall_mem_cons.mpr ⟨⟨s_ior d137_50, tl_ior _⟩, List.forall_mem_cons.mpr ⟨⟨s_goto d137_51 rfl, tl_goto _⟩, List.forall_mem_cons.mpr ⟨⟨s_aload_n d137_54 rfl, tl_aload _ _⟩, List.forall_mem_cons.mpr ⟨⟨s_aload_n d137_55 rfl, tl_aload _ _⟩, List.forall_mem_cons.mpr ⟨⟨s_iload_n d137_56 rfl, tl_iload _ _⟩, List.forall_mem_cons.mpr ⟨⟨s_iconst d137_57 rfl, tl_push _ _⟩, List.forall_mem_cons.mpr ⟨⟨s_isub d137_58, tl_isub _⟩, List.forall_mem_cons.mpr ⟨⟨q_invV_107 d137_59 wd_710, tl_invV _ _ _ _⟩, List.forall_mem_cons.mpr ⟨⟨q_invV_136 d137_62 wd_830, tl_invV _ _ _ _⟩, List.forall_mem_cons.mpr ⟨⟨s_aload_n d137_65 rfl, tl_aload _ _⟩, fun _ h => absurd h List.not_mem_nil⟩⟩⟩⟩⟩⟩⟩⟩⟩⟩⟩⟩⟩⟩⟩⟩⟩⟩⟩⟩⟩⟩⟩⟩⟩⟩⟩⟩⟩⟩⟩⟩⟩⟩⟩⟩⟩⟩⟩⟩
/-- RX5.around -/
def t137_1 : List (Nat × pO) := [(66, o_aload 0 67), (67, o_iload 3 68), (68, o_push (.int (nI 1)) 69), (69, o_iadd 70), (70, o_invV 5 107 1 73), (73, o_invV 5 136 1 76), (76, o_ior 77), (77, o_iret)]
theorem ok137_1 : ∀ q ∈ t137_1, p_Z 137 q := List.forall_mem_cons.mpr ⟨⟨s_aload_n d137_66 rfl, tl_aload _ _⟩, List.forall_mem_cons.mpr ⟨⟨s_iload_n d137_67 rfl, tl_iload _ _⟩, List.forall_mem_cons.mpr ⟨⟨s_iconst d137_68 rfl, tl_push _ _⟩, List.forall_mem_cons.mpr ⟨⟨s_iadd d137_69, tl_iadd _⟩, List.forall_mem_cons.mpr ⟨⟨q_invV_107 d137_70 wd_710, tl_invV _ _ _ _⟩, List.forall_mem_cons.mpr ⟨⟨q_invV_136 d137_73 wd_830, tl_invV _ _ _ _⟩, List.forall_mem_cons.mpr ⟨⟨s_ior d137_76, tl_ior _⟩, List.forall_mem_cons.mpr ⟨⟨s_iret d137_77 rfl, tl_iret⟩, fun _ h => absurd h List.not_mem_nil⟩⟩⟩⟩⟩⟩⟩⟩
def t137 : List (Nat × pO) := t137_0 ++ (t137_1)
theorem ok137 : ∀ q ∈ t137, p_Z 137 q := List.forall_mem_append.mpr ⟨ok137_0, ok137_1⟩
theorem d138_0 : decode (pB 138) 0 = .ok (.aload_n 0, 1) := by decide +kernel
theorem d138_1 : decode (pB 138) 1 = .ok (.iconst 0, 1) := by decide +kernel
theorem d138_2 : decode (pB 138) 2 = .ok (.putfield 44, 3) := by decide +kernel
theorem d138_5 : decode (pB 138) 5 = .ok (.aload_n 0, 1) := by decide +kernel
theorem d138_6 : decode (pB 138) 6 = .ok (.iload_n 1, 1) := by decide +kernel
theorem d138_7 : decode (pB 138) 7 = .ok (.invokevirtual 100, 3) := by decide +kernel
theorem d138_10 : decode (pB 138) 10 = .ok (.ifCond .ne 5, 3) := by decide +kernel
theorem d138_13 : decode (pB 138) 13 = .ok (.iconst (-1), 1) := by decide +kernel
theorem d138_14 : decode (pB 138) 14 = .ok (.ireturn, 1) := by decide +kernel
theorem d138_15 : decode (pB 138) 15 = .ok (.aload_n 0, 1) := by decide +kernel
theorem d138_16 : decode (pB 138) 16 = .ok (.invokevirtual 122, 3) := by decide +kernel
theorem d138_19 : decode (pB 138) 19 = .ok (.iload_n 2, 1) := by decide +kernel
theorem d138_20 : decode (pB 138) 20 = .ok (.tableswitch 84 0 5 #[40, 50, 56, 63, 70, 77], 40) := by decide +kernel
theorem d138_60 : decode (pB 138) 60 = .ok (.aload_n 0, 1) := by decide +kernel
theorem d138_61 : decode (pB 138) 61 = .ok (.getfield 7, 3) := by decide +kernel
theorem d138_64 : decode (pB 138) 64 = .ok (.bipush 10, 2) := by decide +kernel
theorem d138_66 : decode (pB 138) 66 = .ok (.iload_n 1, 1) := by decide +kernel
theorem d138_67 : decode (pB 138) 67 = .ok (.iadd, 1) := by decide +kernel
theorem d138_68 : decode (pB 138) 68 = .ok (.iaload, 1) := by decide +kernel
theorem d138_69 : decode (pB 138) 69 = .ok (.ireturn, 1) := by decide +kernel
theorem d138_70 : decode (pB 138) 70 = .ok (.aload_n 0, 1) := by decide +kernel
theorem d138_71 : decode (pB 138) 71 = .ok (.iload_n 1, 1) := by decide +kernel
theorem d138_72 : decode (pB 138) 72 = .ok (.invokevirtual 86, 3) := by decide +kernel
theorem d138_75 : decode (pB 138) 75 = .ok (.ireturn, 1) := by decide +kernel
theorem d138_76 : decode (pB 138) 76 = .ok (.aload_n 0, 1) := by decide +kernel
theorem d138_77 : decode (pB 138) 77 = .ok (.iload_n 1, 1) := by decide +kernel
theorem d138_78 : decode (pB 138) 78 = .ok (.iconst 1, 1) := by decide +kernel
theorem d138_79 : decode (pB 138) 79 = .ok (.invokevirtual 149, 3) := by decide +kernel
theorem d138_82 : decode (pB 138) 82 = .ok (.ireturn, 1) := by decide +kernel
theorem d138_83 : decode (pB 138) 83 = .ok (.aload_n 0, 1) := by decide +kernel
theorem d138_84 : decode (pB 138) 84 = .ok (.iload_n 1, 1) := by decide +kernel
theorem d138_85 : decode (pB 138) 85 = .ok (.iconst (-1), 1) := by decide +kernel
theorem d138_86 : decode (pB 138) 86 = .ok (.invokevirtual 149, 3) := by decide +kernel
theorem d138_89 : decode (pB 138) 89 = .ok (.ireturn, 1) := by decide +kernel
theorem d138_90 : decode (pB 138) 90 = .ok (.aload_n 0, 1) := by decide +kernel
theorem d138_91 : decode (pB 138) 91 = .ok (.iload_n 1, 1) := by decide +kernel
theorem d138_92 : decode (pB 138) 92 = .ok (.iconst 0, 1) := by decide +kernel
theorem d138_93 : decode (pB 138) 93 = .ok (.invokevirtual 152, 3) := by decide +kernel
theorem d138_96 : decode (pB 138) 96 = .ok (.ireturn, 1) := by decide +kernel
theorem d138_97 : decode (pB 138) 97 = .ok (.aload_n 0, 1) := by decide +kernel
theorem d138_98 : decode (pB 138) 98 = .ok (.iload_n 1, 1) := by decide +kernel
theorem d138_99 : decode (pB 138) 99 = .ok (.iconst 1, 1) := by decide +kernel
theorem d138_100 : decode (pB 138) 100 = .ok (.invokevirtual 152, 3) := by decide +kernel
theorem d138_103 : decode (pB 138) 103 = .ok (.ireturn, 1) := by decide +kernel
theorem d138_104 : decode (pB 138) 104 = .ok (.bipush (-2), 2) := by decide +kernel
theorem d138_106 : decode (pB 138) 106 = .ok (.ireturn, 1) := by decide +kernel
/-- RX5.of -/
def t138_0 : List (Nat × pO) := [(0, o_aload 0 1), (1, o_push (.int (nI 0)) 2), (2, o_putI 5 0 5), (5, o_aload 0 6), (6, o_iload 1 7), (7, o_invV 5 97 1 10), (10, o_ifne 15 13), (13, o_push (.int (nM 1)) 14), (14, o_iret), (15, o_aload 0 16), (16, o_invV 5 103 0 19), (19, o_iload 2 20), (20, o_switch [((nI 0), 60), ((nI 1), 70), ((nI 2), 76), ((nI 3), 83), ((nI 4), 90), ((nI 5), 97)] 104), (60, o_aload 0 61), (61, o_getR 5 1 64), (64, o_push (.int (nI 10)) 66), (66, o_iload 1 67), (67, o_iadd 68), (68, o_iald 69), (69, o_iret), (70, o_aload 0 71), (71, o_iload 1 72), (72, o_invV 5 110 1 75), (75, o_iret), (76, o_aload 0 77), (77, o_iload 1 78), (78, o_push (.int (nI 1)) 79), (79, o_invV 5 135 2 82), (82, o_iret), (83, o_aload 0 84), (84, o_iload 1 85), (85, o_push (.int (nM 1)) 86), (86, o_invV 5 135 2 89), (89, o_iret), (90, o_aload 0 91), (91, o_iload 1 92), (92, o_push (.int (nI 0)) 93), (93, o_invV 5 137 2 96), (96, o_iret), (97, o_aload 0 98)]
theorem ok138_0 : ∀ q ∈ t138_0, p_Z 138 q := List.forall_mem_cons.mpr ⟨⟨s_aload_n d138_0 rfl, tl_aload _ _⟩, List.forall_mem_cons.mpr ⟨⟨s_iconst d138_1 rfl, tl_push _ _⟩, List.forall_mem_cons.mpr ⟨⟨f_putI_5_0 d138_2 wd_616, tl_putI _ _ _⟩, List.forall_mem_cons.mpr ⟨⟨s_aload_n d138_5 rfl, tl_aload _ _⟩, List.forall_mem_cons.mpr ⟨⟨s_iload_n d138_6 rfl, tl_iload _ _⟩, List.forall_mem_cons.mpr ⟨⟨q_invV_97 d138_7 wd_702, tl_invV _ _ _ _⟩, List.forall_mem_cons.mpr ⟨⟨s_ifne d138_10 rfl, tl_ifne _ _⟩, List.forall_mem_cons.mpr ⟨⟨s_iconst d138_13 rfl, tl_push _ _⟩, List.forall_mem_cons.mpr ⟨⟨s_iret d138_14 rfl, tl_iret⟩, List.forall_mem_cons.mpr ⟨⟨s_aload_n d138_15 rfl, tl_aload _ _⟩, List.forall_mem_cons.mpr ⟨⟨q_invV_103 d138_16 wd_758, tl_invV _ _ _ _⟩, List.forall_mem_cons.mpr ⟨⟨s_iload_n d138_19 rfl, tl_iload _ _⟩, List.forall_mem_cons.mpr ⟨⟨s_table d138_20 rfl (by decide +kernel) (by decide +kernel), tl_switch _ _⟩, List.forall_mem_cons.mpr ⟨⟨s_aload_n d138_60 rfl, tl_aload _ _⟩, List.forall_mem_cons.mpr ⟨⟨f_getR_5_1 d138_61 wd_617, tl_getR _ _ _⟩, List.forall_mem_cons.mpr ⟨⟨s_bipush d138_64 rfl, tl_push _ _⟩, List.forall_mem_cons.mpr ⟨⟨s_iload_n d138_66 rfl, tl_iload _ _⟩, List.forall_mem_cons.mpr ⟨⟨s_iadd d138_67, tl_iadd _⟩, List.forall_mem_cons.mpr ⟨⟨s_iald d138_68, tl_iald _⟩, List.forall_mem_cons.mpr ⟨⟨s_iret d138_69 rfl, tl_iret⟩, List.forall_mem_cons.mpr ⟨⟨s_aload_n d138_70 rfl, tl_aload _ _⟩, List.forall_mem_cons.mpr ⟨⟨s_iload_n d138_71 rfl, tl_iload _ _⟩, List.forall_mem_cons.mpr ⟨⟨q_invV_110 d138_72 wd_814, tl_invV _ _ _ _⟩, List.forall_mem_cons.mpr ⟨⟨s_iret d138_75 rfl, tl_iret⟩, List.forall_mem_cons.mpr ⟨⟨s_aload_n d138_76 rfl, tl_aload _ _⟩, List.forall_mem_cons.mpr ⟨⟨s_iload_n d138_77 rfl, tl_iload _ _⟩, List.forall_mem_cons.mpr ⟨⟨s_iconst d138_78 rfl, tl_push _ _⟩, List.forall_mem_cons.mpr ⟨⟨q_invV_135 d138_79 wd_822, tl_invV _ _ _ _⟩, List.forall_mem_cons.mpr ⟨⟨s_iret d138_82 rfl, tl_iret⟩, List.forall_mem_cons.mpr ⟨⟨s_aload_n d138_83 rfl, tl_aload _ _⟩, List.forall_mem_cons.mpr ⟨⟨s_iload_n d138_84 rfl, tl_iload _ _⟩, List.forall_mem_cons.mpr ⟨⟨s_iconst d138_85 rfl, tl_push _ _⟩, List.forall_mem_cons.mpr ⟨⟨q_invV_135 d138_86 wd_822, tl_invV _ _ _ _⟩, List.forall_mem_cons.mpr ⟨⟨s_iret d138_89 rfl, tl_iret⟩, List.forall_mem_cons.mpr ⟨⟨s_aload_n d138_90 rfl, tl_aload _ _⟩, List.forall_mem_cons.mpr ⟨⟨s_iload_n d138_91 rfl, tl_iload _ _⟩, List.forall_mem_cons.mpr ⟨⟨s_iconst d138_92 rfl, tl_push _ _⟩, List.forall_mem_cons.mpr ⟨⟨q_invV_137 d138_93 wd_826, tl_invV _ _ _ _⟩, List.forall_mem_cons.mpr ⟨⟨s_iret d138_96 rfl, tl_iret⟩, List.forall_mem_cons.mpr ⟨⟨s_aload_n d138_97 rfl, tl_aload _ _⟩, fun _ h => absurd h List.not_mem_nil⟩⟩⟩⟩⟩⟩⟩⟩⟩⟩⟩⟩⟩⟩⟩⟩⟩⟩⟩⟩⟩⟩⟩⟩⟩⟩⟩⟩⟩⟩⟩⟩⟩⟩⟩⟩⟩⟩⟩⟩
/-- RX5.of -/
def t138_1 : List (Nat × pO) := [(98, o_iload 1 99), (99, o_push (.int (nI 1)) 100), (100, o_invV 5 137 2 103), (103, o_iret), (104, o_push (.int (nM 2)) 106), (106, o_iret)]
theorem ok138_1 : ∀ q ∈ t138_1, p_Z 138 q := List.forall_mem_cons.mpr ⟨⟨s_iload_n d138_98 rfl, tl_iload _ _⟩, List.forall_mem_cons.mpr ⟨⟨s_iconst d138_99 rfl, tl_push _ _⟩, List.forall_mem_cons.mpr ⟨⟨q_invV_137 d138_100 wd_826, tl_invV _ _ _ _⟩, List.forall_mem_cons.mpr ⟨⟨s_iret d138_103 rfl, tl_iret⟩, List.forall_mem_cons.mpr ⟨⟨s_bipush d138_104 rfl, tl_push _ _⟩, List.forall_mem_cons.mpr ⟨⟨s_iret d138_106 rfl, tl_iret⟩, fun _ h => absurd h List.not_mem_nil⟩⟩⟩⟩⟩⟩
def t138 : List (Nat × pO) := t138_0 ++ (t138_1)
theorem ok138 : ∀ q ∈ t138, p_Z 138 q := List.forall_mem_append.mpr ⟨ok138_0, ok138_1⟩
theorem d139_0 : decode (pB 139) 0 = .ok (.aload_n 0, 1) := by decide +kernel
theorem d139_1 : decode (pB 139) 1 = .ok (.iconst 0, 1) := by decide +kernel
theorem d139_2 : decode (pB 139) 2 = .ok (.putfield 44, 3) := by decide +kernel
theorem d139_5 : decode (pB 139) 5 = .ok (.aload_n 0, 1) := by decide +kernel
theorem d139_6 : decode (pB 139) 6 = .ok (.iload_n 1, 1) := by decide +kernel
theorem d139_7 : decode (pB 139) 7 = .ok (.invokevirtual 103, 3) := by decide +kernel
theorem d139_10 : decode (pB 139) 10 = .ok (.ifCond .ne 5, 3) := by decide +kernel
theorem d139_13 : decode (pB 139) 13 = .ok (.iconst (-1), 1) := by decide +kernel
theorem d139_14 : decode (pB 139) 14 = .ok (.ireturn, 1) := by decide +kernel
theorem d139_15 : decode (pB 139) 15 = .ok (.aload_n 0, 1) := by decide +kernel
theorem d139_16 : decode (pB 139) 16 = .ok (.invokevirtual 122, 3) := by decide +kernel
theorem d139_19 : decode (pB 139) 19 = .ok (.iload_n 2, 1) := by decide +kernel
theorem d139_20 : decode (pB 139) 20 = .ok (.tableswitch 68 0 4 #[36, 42, 48, 54, 61], 36) := by decide +kernel
theorem d139_56 : decode (pB 139) 56 = .ok (.aload_n 0, 1) := by decide +kernel
theorem d139_57 : decode (pB 139) 57 = .ok (.iload_n 1, 1) := by decide +kernel
theorem d139_58 : decode (pB 139) 58 = .ok (.invokevirtual 77, 3) := by decide +kernel
theorem d139_61 : decode (pB 139) 61 = .ok (.ireturn, 1) := by decide +kernel
theorem d139_62 : decode (pB 139) 62 = .ok (.aload_n 0, 1) := by decide +kernel
theorem d139_63 : decode (pB 139) 63 = .ok (.iload_n 1, 1) := by decide +kernel
theorem d139_64 : decode (pB 139) 64 = .ok (.invokevirtual 66, 3) := by decide +kernel
theorem d139_67 : decode (pB 139) 67 = .ok (.ireturn, 1) := by decide +kernel
theorem d139_68 : decode (pB 139) 68 = .ok (.aload_n 0, 1) := by decide +kernel
theorem d139_69 : decode (pB 139) 69 = .ok (.iload_n 1, 1) := by decide +kernel
theorem d139_70 : decode (pB 139) 70 = .ok (.invokevirtual 70, 3) := by decide +kernel
theorem d139_73 : decode (pB 139) 73 = .ok (.ireturn, 1) := by decide +kernel
theorem d139_74 : decode (pB 139) 74 = .ok (.aload_n 0, 1) := by decide +kernel
theorem d139_75 : decode (pB 139) 75 = .ok (.iload_n 1, 1) := by decide +kernel
theorem d139_76 : decode (pB 139) 76 = .ok (.iconst (-1), 1) := by decide +kernel
theorem d139_77 : decode (pB 139) 77 = .ok (.invokevirtual 73, 3) := by decide +kernel
theorem d139_80 : decode (pB 139) 80 = .ok (.ireturn, 1) := by decide +kernel
theorem d139_81 : decode (pB 139) 81 = .ok (.aload_n 0, 1) := by decide +kernel
theorem d139_82 : decode (pB 139) 82 = .ok (.iload_n 1, 1) := by decide +kernel
theorem d139_83 : decode (pB 139) 83 = .ok (.iconst 1, 1) := by decide +kernel
theorem d139_84 : decode (pB 139) 84 = .ok (.invokevirtual 73, 3) := by decide +kernel
theorem d139_87 : decode (pB 139) 87 = .ok (.ireturn, 1) := by decide +kernel
theorem d139_88 : decode (pB 139) 88 = .ok (.bipush (-2), 2) := by decide +kernel
theorem d139_90 : decode (pB 139) 90 = .ok (.ireturn, 1) := by decide +kernel
/-- RX5.ofSeat -/
def t139_0 : List (Nat × pO) := [(0, o_aload 0 1), (1, o_push (.int (nI 0)) 2), (2, o_putI 5 0 5), (5, o_aload 0 6), (6, o_iload 1 7), (7, o_invV 5 98 1 10), (10, o_ifne 15 13), (13, o_push (.int (nM 1)) 14), (14, o_iret), (15, o_aload 0 16), (16, o_invV 5 103 0 19), (19, o_iload 2 20), (20, o_switch [((nI 0), 56), ((nI 1), 62), ((nI 2), 68), ((nI 3), 74), ((nI 4), 81)] 88), (56, o_aload 0 57), (57, o_iload 1 58), (58, o_invV 5 107 1 61), (61, o_iret), (62, o_aload 0 63), (63, o_iload 1 64), (64, o_invV 5 104 1 67), (67, o_iret), (68, o_aload 0 69), (69, o_iload 1 70), (70, o_invV 5 105 1 73), (73, o_iret), (74, o_aload 0 75), (75, o_iload 1 76), (76, o_push (.int (nM 1)) 77), (77, o_invV 5 106 2 80), (80, o_iret), (81, o_aload 0 82), (82, o_iload 1 83), (83, o_push (.int (nI 1)) 84), (84, o_invV 5 106 2 87), (87, o_iret), (88, o_push (.int (nM 2)) 90), (90, o_iret)]
theorem ok139_0 : ∀ q ∈ t139_0, p_Z 139 q := List.forall_mem_cons.mpr ⟨⟨s_aload_n d139_0 rfl, tl_aload _ _⟩, List.forall_mem_cons.mpr ⟨⟨s_iconst d139_1 rfl, tl_push _ _⟩, List.forall_mem_cons.mpr ⟨⟨f_putI_5_0 d139_2 wd_616, tl_putI _ _ _⟩, List.forall_mem_cons.mpr ⟨⟨s_aload_n d139_5 rfl, tl_aload _ _⟩, List.forall_mem_cons.mpr ⟨⟨s_iload_n d139_6 rfl, tl_iload _ _⟩, List.forall_mem_cons.mpr ⟨⟨q_invV_98 d139_7 wd_706, tl_invV _ _ _ _⟩, List.forall_mem_cons.mpr ⟨⟨s_ifne d139_10 rfl, tl_ifne _ _⟩, List.forall_mem_cons.mpr ⟨⟨s_iconst d139_13 rfl, tl_push _ _⟩, List.forall_mem_cons.mpr ⟨⟨s_iret d139_14 rfl, tl_iret⟩, List.forall_mem_cons.mpr ⟨⟨s_aload_n d139_15 rfl, tl_aload _ _⟩, List.forall_mem_cons.mpr ⟨⟨q_invV_103 d139_16 wd_758, tl_invV _ _ _ _⟩, List.forall_mem_cons.mpr ⟨⟨s_iload_n d139_19 rfl, tl_iload _ _⟩, List.forall_mem_cons.mpr ⟨⟨s_table d139_20 rfl (by decide +kernel) (by decide +kernel), tl_switch _ _⟩, List.forall_mem_cons.mpr ⟨⟨s_aload_n d139_56 rfl, tl_aload _ _⟩, List.forall_mem_cons.mpr ⟨⟨s_iload_n d139_57 rfl, tl_iload _ _⟩, List.forall_mem_cons.mpr ⟨⟨q_invV_107 d139_58 wd_710, tl_invV _ _ _ _⟩, List.forall_mem_cons.mpr ⟨⟨s_iret d139_61 rfl, tl_iret⟩, List.forall_mem_cons.mpr ⟨⟨s_aload_n d139_62 rfl, tl_aload _ _⟩, List.forall_mem_cons.mpr ⟨⟨s_iload_n d139_63 rfl, tl_iload _ _⟩, List.forall_mem_cons.mpr ⟨⟨q_invV_104 d139_64 wd_778, tl_invV _ _ _ _⟩, List.forall_mem_cons.mpr ⟨⟨s_iret d139_67 rfl, tl_iret⟩, List.forall_mem_cons.mpr ⟨⟨s_aload_n d139_68 rfl, tl_aload _ _⟩, List.forall_mem_cons.mpr ⟨⟨s_iload_n d139_69 rfl, tl_iload _ _⟩, List.forall_mem_cons.mpr ⟨⟨q_invV_105 d139_70 wd_782, tl_invV _ _ _ _⟩, List.forall_mem_cons.mpr ⟨⟨s_iret d139_73 rfl, tl_iret⟩, List.forall_mem_cons.mpr ⟨⟨s_aload_n d139_74 rfl, tl_aload _ _⟩, List.forall_mem_cons.mpr ⟨⟨s_iload_n d139_75 rfl, tl_iload _ _⟩, List.forall_mem_cons.mpr ⟨⟨s_iconst d139_76 rfl, tl_push _ _⟩, List.forall_mem_cons.mpr ⟨⟨q_invV_106 d139_77 wd_774, tl_invV _ _ _ _⟩, List.forall_mem_cons.mpr ⟨⟨s_iret d139_80 rfl, tl_iret⟩, List.forall_mem_cons.mpr ⟨⟨s_aload_n d139_81 rfl, tl_aload _ _⟩, List.forall_mem_cons.mpr ⟨⟨s_iload_n d139_82 rfl, tl_iload _ _⟩, List.forall_mem_cons.mpr ⟨⟨s_iconst d139_83 rfl, tl_push _ _⟩, List.forall_mem_cons.mpr ⟨⟨q_invV_106 d139_84 wd_774, tl_invV _ _ _ _⟩, List.forall_mem_cons.mpr ⟨⟨s_iret d139_87 rfl, tl_iret⟩, List.forall_mem_cons.mpr ⟨⟨s_bipush d139_88 rfl, tl_push _ _⟩, List.forall_mem_cons.mpr ⟨⟨s_iret d139_90 rfl, tl_iret⟩, fun _ h => absurd h List.not_mem_nil⟩⟩⟩⟩⟩⟩⟩⟩⟩⟩⟩⟩⟩⟩⟩⟩⟩⟩⟩⟩⟩⟩⟩⟩⟩⟩⟩⟩⟩⟩⟩⟩⟩⟩⟩⟩⟩
def t139 : List (Nat × pO) := t139_0
theorem ok139 : ∀ q ∈ t139, p_Z 139 q := ok139_0
theorem d140_0 : decode (pB 140) 0 = .ok (.aload_n 0, 1) := by decide +kernel
theorem d140_1 : decode (pB 140) 1 = .ok (.iconst 0, 1) := by decide +kernel
theorem d140_2 : decode (pB 140) 2 = .ok (.putfield 44, 3) := by decide +kernel
theorem d140_5 : decode (pB 140) 5 = .ok (.aload_n 0, 1) := by decide +kernel
theorem d140_6 : decode (pB 140) 6 = .ok (.invokevirtual 122, 3) := by decide +kernel
theorem d140_9 : decode (pB 140) 9 = .ok (.iload_n 1, 1) := by decide +kernel
theorem d140_10 : decode (pB 140) 10 = .ok (.iconst 0, 1) := by decide +kernel
theorem d140_11 : decode (pB 140) 11 = .ok (.aload_n 0, 1) := by decide +kernel
theorem d140_12 : decode (pB 140) 12 = .ok (.getfield 55, 3) := by decide +kernel
theorem d140_15 : decode (pB 140) 15 = .ok (.iconst 1, 1) := by decide +kernel
theorem d140_16 : decode (pB 140) 16 = .ok (.isub, 1) := by decide +kernel
theorem d140_17 : decode (pB 140) 17 = .ok (.invokestatic 48, 3) := by decide +kernel
theorem d140_20 : decode (pB 140) 20 = .ok (.ifCond .eq 21, 3) := by decide +kernel
theorem d140_23 : decode (pB 140) 23 = .ok (.iload_n 2, 1) := by decide +kernel
theorem d140_24 : decode (pB 140) 24 = .ok (.ifCond .lt 17, 3) := by decide +kernel
theorem d140_27 : decode (pB 140) 27 = .ok (.iload_n 2, 1) := by decide +kernel
theorem d140_28 : decode (pB 140) 28 = .ok (.aload_n 0, 1) := by decide +kernel
theorem d140_29 : decode (pB 140) 29 = .ok (.getfield 32, 3) := by decide +kernel
theorem d140_32 : decode (pB 140) 32 = .ok (.iload_n 1, 1) := by decide +kernel
theorem d140_33 : decode (pB 140) 33 = .ok (.iaload, 1) := by decide +kernel
theorem d140_34 : decode (pB 140) 34 = .ok (.if_icmp .ge 7, 3) := by decide +kernel
theorem d140_37 : decode (pB 140) 37 = .ok (.iconst 1, 1) := by decide +kernel
theorem d140_38 : decode (pB 140) 38 = .ok (.goto 4, 3) := by decide +kernel
theorem d140_41 : decode (pB 140) 41 = .ok (.iconst 0, 1) := by decide +kernel
theorem d140_42 : decode (pB 140) 42 = .ok (.istore_n 3, 1) := by decide +kernel
theorem d140_43 : decode (pB 140) 43 = .ok (.iload_n 3, 1) := by decide +kernel
theorem d140_44 : decode (pB 140) 44 = .ok (.ifCond .eq 17, 3) := by decide +kernel
theorem d140_47 : decode (pB 140) 47 = .ok (.aload_n 0, 1) := by decide +kernel
theorem d140_48 : decode (pB 140) 48 = .ok (.getfield 29, 3) := by decide +kernel
theorem d140_51 : decode (pB 140) 51 = .ok (.bipush 16, 2) := by decide +kernel
theorem d140_53 : decode (pB 140) 53 = .ok (.iload_n 1, 1) := by decide +kernel
theorem d140_54 : decode (pB 140) 54 = .ok (.imul, 1) := by decide +kernel
theorem d140_55 : decode (pB 140) 55 = .ok (.iload_n 2, 1) := by decide +kernel
theorem d140_56 : decode (pB 140) 56 = .ok (.iadd, 1) := by decide +kernel
theorem d140_57 : decode (pB 140) 57 = .ok (.iaload, 1) := by decide +kernel
theorem d140_58 : decode (pB 140) 58 = .ok (.goto 4, 3) := by decide +kernel
theorem d140_61 : decode (pB 140) 61 = .ok (.iconst (-1), 1) := by decide +kernel
theorem d140_62 : decode (pB 140) 62 = .ok (.ireturn, 1) := by decide +kernel
theorem st1_140_3 : p_st1 140 3 = true := by decide +kernel
/-- RX5.column -/
def t140_0 : List (Nat × pO) := [(0, o_aload 0 1), (1, o_push (.int (nI 0)) 2), (2, o_putI 5 0 5), (5, o_aload 0 6), (6, o_invV 5 103 0 9), (9, o_iload 1 10), (10, o_push (.int (nI 0)) 11), (11, o_aload 0 12), (12, o_getI 5 14 15), (15, o_push (.int (nI 1)) 16), (16, o_isub 17), (17, o_invS 96 3 20), (20, o_ifeq 41 23), (23, o_iload 2 24), (24, o_iflt 41 27), (27, o_iload 2 28), (28, o_aload 0 29), (29, o_getR 5 13 32), (32, o_iload 1 33), (33, o_iald 34), (34, o_icge 41 37), (37, o_push (.int (nI 1)) 38), (38, o_goto 42), (41, o_push (.int (nI 0)) 42), (42, o_istore 3 43), (43, o_iload 3 44), (44, o_ifeq 61 47), (47, o_aload 0 48), (48, o_getR 5 12 51), (51, o_push (.int (nI 16)) 53), (53, o_iload 1 54), (54, o_imul 55), (55, o_iload 2 56), (56, o_iadd 57), (57, o_iald 58), (58, o_goto 62), (61, o_push (.int (nM 1)) 62), (62, o_iret)]
theorem ok140_0 : ∀ q ∈ t140_0, p_Z 140 q := List.forall_mem_cons.mpr ⟨⟨s_aload_n d140_0 rfl, tl_aload _ _⟩, List.forall_mem_cons.mpr ⟨⟨s_iconst d140_1 rfl, tl_push _ _⟩, List.forall_mem_cons.mpr ⟨⟨f_putI_5_0 d140_2 wd_616, tl_putI _ _ _⟩, List.forall_mem_cons.mpr ⟨⟨s_aload_n d140_5 rfl, tl_aload _ _⟩, List.forall_mem_cons.mpr ⟨⟨q_invV_103 d140_6 wd_758, tl_invV _ _ _ _⟩, List.forall_mem_cons.mpr ⟨⟨s_iload_n d140_9 rfl, tl_iload _ _⟩, List.forall_mem_cons.mpr ⟨⟨s_iconst d140_10 rfl, tl_push _ _⟩, List.forall_mem_cons.mpr ⟨⟨s_aload_n d140_11 rfl, tl_aload _ _⟩, List.forall_mem_cons.mpr ⟨⟨f_getI_5_14 d140_12 wd_630, tl_getI _ _ _⟩, List.forall_mem_cons.mpr ⟨⟨s_iconst d140_15 rfl, tl_push _ _⟩, List.forall_mem_cons.mpr ⟨⟨s_isub d140_16, tl_isub _⟩, List.forall_mem_cons.mpr ⟨⟨q_invS_96 d140_17 wd_675, tl_invS _ _ _⟩, List.forall_mem_cons.mpr ⟨⟨s_ifeq d140_20 rfl, tl_ifeq _ _⟩, List.forall_mem_cons.mpr ⟨⟨s_iload_n d140_23 rfl, tl_iload _ _⟩, List.forall_mem_cons.mpr ⟨⟨s_iflt d140_24 rfl, tl_iflt _ _⟩, List.forall_mem_cons.mpr ⟨⟨s_iload_n d140_27 rfl, tl_iload _ _⟩, List.forall_mem_cons.mpr ⟨⟨s_aload_n d140_28 rfl, tl_aload _ _⟩, List.forall_mem_cons.mpr ⟨⟨f_getR_5_13 d140_29 wd_629, tl_getR _ _ _⟩, List.forall_mem_cons.mpr ⟨⟨s_iload_n d140_32 rfl, tl_iload _ _⟩, List.forall_mem_cons.mpr ⟨⟨s_iald d140_33, tl_iald _⟩, List.forall_mem_cons.mpr ⟨⟨s_icge d140_34 rfl, tl_icge _ _⟩, List.forall_mem_cons.mpr ⟨⟨s_iconst d140_37 rfl, tl_push _ _⟩, List.forall_mem_cons.mpr ⟨⟨s_goto d140_38 rfl, tl_goto _⟩, List.forall_mem_cons.mpr ⟨⟨s_iconst d140_41 rfl, tl_push _ _⟩, List.forall_mem_cons.mpr ⟨⟨s_istore_n d140_42 rfl st1_140_3, tl_istore _ _⟩, List.forall_mem_cons.mpr ⟨⟨s_iload_n d140_43 rfl, tl_iload _ _⟩, List.forall_mem_cons.mpr ⟨⟨s_ifeq d140_44 rfl, tl_ifeq _ _⟩, List.forall_mem_cons.mpr ⟨⟨s_aload_n d140_47 rfl, tl_aload _ _⟩, List.forall_mem_cons.mpr ⟨⟨f_getR_5_12 d140_48 wd_628, tl_getR _ _ _⟩, List.forall_mem_cons.mpr ⟨⟨s_bipush d140_51 rfl, tl_push _ _⟩, List.forall_mem_cons.mpr ⟨⟨s_iload_n d140_53 rfl, tl_iload _ _⟩, List.forall_mem_cons.mpr ⟨⟨s_imul d140_54, tl_imul _⟩, List.forall_mem_cons.mpr ⟨⟨s_iload_n d140_55 rfl, tl_iload _ _⟩, List.forall_mem_cons.mpr ⟨⟨s_iadd d140_56, tl_iadd _⟩, List.forall_mem_cons.mpr ⟨⟨s_iald d140_57, tl_iald _⟩, List.forall_mem_cons.mpr ⟨⟨s_goto d140_58 rfl, tl_goto _⟩, List.forall_mem_cons.mpr ⟨⟨s_iconst d140_61 rfl, tl_push _ _⟩, List.forall_mem_cons.mpr ⟨⟨s_iret d140_62 rfl, tl_iret⟩, fun _ h => absurd h List.not_mem_nil⟩⟩⟩⟩⟩⟩⟩⟩⟩⟩⟩⟩⟩⟩⟩⟩⟩⟩⟩⟩⟩⟩⟩⟩⟩⟩⟩⟩⟩⟩⟩⟩⟩⟩⟩⟩⟩⟩
def t140 : List (Nat × pO) := t140_0
theorem ok140 : ∀ q ∈ t140, p_Z 140 q := ok140_0
theorem d141_0 : decode (pB 141) 0 = .ok (.aload_n 0, 1) := by decide +kernel
theorem d141_1 : decode (pB 141) 1 = .ok (.iconst 0, 1) := by decide +kernel
theorem d141_2 : decode (pB 141) 2 = .ok (.putfield 44, 3) := by decide +kernel
theorem d141_5 : decode (pB 141) 5 = .ok (.iload_n 1, 1) := by decide +kernel
theorem d141_6 : decode (pB 141) 6 = .ok (.iconst 0, 1) := by decide +kernel
theorem d141_7 : decode (pB 141) 7 = .ok (.aload_n 0, 1) := by decide +kernel
theorem d141_8 : decode (pB 141) 8 = .ok (.getfield 140, 3) := by decide +kernel
theorem d141_11 : decode (pB 141) 11 = .ok (.iconst 1, 1) := by decide +kernel
theorem d141_12 : decode (pB 141) 12 = .ok (.isub, 1) := by decide +kernel
theorem d141_13 : decode (pB 141) 13 = .ok (.invokestatic 48, 3) := by decide +kernel
theorem d141_16 : decode (pB 141) 16 = .ok (.ifCond .eq 12, 3) := by decide +kernel
theorem d141_19 : decode (pB 141) 19 = .ok (.aload_n 0, 1) := by decide +kernel
theorem d141_20 : decode (pB 141) 20 = .ok (.getfield 23, 3) := by decide +kernel
theorem d141_23 : decode (pB 141) 23 = .ok (.iload_n 1, 1) := by decide +kernel
theorem d141_24 : decode (pB 141) 24 = .ok (.iaload, 1) := by decide +kernel
theorem d141_25 : decode (pB 141) 25 = .ok (.goto 4, 3) := by decide +kernel
theorem d141_28 : decode (pB 141) 28 = .ok (.iconst (-1), 1) := by decide +kernel
theorem d141_29 : decode (pB 141) 29 = .ok (.ireturn, 1) := by decide +kernel
/-- RX5.sign -/
def t141_0 : List (Nat × pO) := [(0, o_aload 0 1), (1, o_push (.int (nI 0)) 2), (2, o_putI 5 0 5), (5, o_iload 1 6), (6, o_push (.int (nI 0)) 7), (7, o_aload 0 8), (8, o_getI 5 7 11), (11, o_push (.int (nI 1)) 12), (12, o_isub 13), (13, o_invS 96 3 16), (16, o_ifeq 28 19), (19, o_aload 0 20), (20, o_getR 5 6 23), (23, o_iload 1 24), (24, o_iald 25), (25, o_goto 29), (28, o_push (.int (nM 1)) 29), (29, o_iret)]
theorem ok141_0 : ∀ q ∈ t141_0, p_Z 141 q := List.forall_mem_cons.mpr ⟨⟨s_aload_n d141_0 rfl, tl_aload _ _⟩, List.forall_mem_cons.mpr ⟨⟨s_iconst d141_1 rfl, tl_push _ _⟩, List.forall_mem_cons.mpr ⟨⟨f_putI_5_0 d141_2 wd_616, tl_putI _ _ _⟩, List.forall_mem_cons.mpr ⟨⟨s_iload_n d141_5 rfl, tl_iload _ _⟩, List.forall_mem_cons.mpr ⟨⟨s_iconst d141_6 rfl, tl_push _ _⟩, List.forall_mem_cons.mpr ⟨⟨s_aload_n d141_7 rfl, tl_aload _ _⟩, List.forall_mem_cons.mpr ⟨⟨f_getI_5_7 d141_8 wd_623, tl_getI _ _ _⟩, List.forall_mem_cons.mpr ⟨⟨s_iconst d141_11 rfl, tl_push _ _⟩, List.forall_mem_cons.mpr ⟨⟨s_isub d141_12, tl_isub _⟩, List.forall_mem_cons.mpr ⟨⟨q_invS_96 d141_13 wd_675, tl_invS _ _ _⟩, List.forall_mem_cons.mpr ⟨⟨s_ifeq d141_16 rfl, tl_ifeq _ _⟩, List.forall_mem_cons.mpr ⟨⟨s_aload_n d141_19 rfl, tl_aload _ _⟩, List.forall_mem_cons.mpr ⟨⟨f_getR_5_6 d141_20 wd_622, tl_getR _ _ _⟩, List.forall_mem_cons.mpr ⟨⟨s_iload_n d141_23 rfl, tl_iload _ _⟩, List.forall_mem_cons.mpr ⟨⟨s_iald d141_24, tl_iald _⟩, List.forall_mem_cons.mpr ⟨⟨s_goto d141_25 rfl, tl_goto _⟩, List.forall_mem_cons.mpr ⟨⟨s_iconst d141_28 rfl, tl_push _ _⟩, List.forall_mem_cons.mpr ⟨⟨s_iret d141_29 rfl, tl_iret⟩, fun _ h => absurd h List.not_mem_nil⟩⟩⟩⟩⟩⟩⟩⟩⟩⟩⟩⟩⟩⟩⟩⟩⟩⟩
def t141 : List (Nat × pO) := t141_0
theorem ok141 : ∀ q ∈ t141, p_Z 141 q := ok141_0
theorem d142_0 : decode (pB 142) 0 = .ok (.iconst 0, 1) := by decide +kernel
theorem d142_1 : decode (pB 142) 1 = .ok (.istore_n 1, 1) := by decide +kernel
theorem d142_2 : decode (pB 142) 2 = .ok (.iconst 0, 1) := by decide +kernel
theorem d142_3 : decode (pB 142) 3 = .ok (.istore_n 2, 1) := by decide +kernel
theorem d142_4 : decode (pB 142) 4 = .ok (.iload_n 2, 1) := by decide +kernel
theorem d142_5 : decode (pB 142) 5 = .ok (.aload_n 0, 1) := by decide +kernel
theorem d142_6 : decode (pB 142) 6 = .ok (.getfield 7, 3) := by decide +kernel
theorem d142_9 : decode (pB 142) 9 = .ok (.iconst 3, 1) := by decide +kernel
theorem d142_10 : decode (pB 142) 10 = .ok (.iaload, 1) := by decide +kernel
theorem d142_11 : decode (pB 142) 11 = .ok (.if_icmp .ge 33, 3) := by decide +kernel
theorem d142_14 : decode (pB 142) 14 = .ok (.iload_n 1, 1) := by decide +kernel
theorem d142_15 : decode (pB 142) 15 = .ok (.aload_n 0, 1) := by decide +kernel
theorem d142_16 : decode (pB 142) 16 = .ok (.getfield 7, 3) := by decide +kernel
theorem d142_19 : decode (pB 142) 19 = .ok (.bipush 10, 2) := by decide +kernel
theorem d142_21 : decode (pB 142) 21 = .ok (.iload_n 2, 1) := by decide +kernel
theorem d142_22 : decode (pB 142) 22 = .ok (.iadd, 1) := by decide +kernel
theorem d142_23 : decode (pB 142) 23 = .ok (.iaload, 1) := by decide +kernel
theorem d142_24 : decode (pB 142) 24 = .ok (.bipush (-6), 2) := by decide +kernel
theorem d142_26 : decode (pB 142) 26 = .ok (.if_icmp .ne 7, 3) := by decide +kernel
theorem d142_29 : decode (pB 142) 29 = .ok (.iconst 0, 1) := by decide +kernel
theorem d142_30 : decode (pB 142) 30 = .ok (.goto 6, 3) := by decide +kernel
theorem d142_33 : decode (pB 142) 33 = .ok (.iconst 1, 1) := by decide +kernel
theorem d142_34 : decode (pB 142) 34 = .ok (.iload_n 2, 1) := by decide +kernel
theorem d142_35 : decode (pB 142) 35 = .ok (.ishl, 1) := by decide +kernel
theorem d142_36 : decode (pB 142) 36 = .ok (.ior, 1) := by decide +kernel
theorem d142_37 : decode (pB 142) 37 = .ok (.istore_n 1, 1) := by decide +kernel
theorem d142_38 : decode (pB 142) 38 = .ok (.iinc 2 1, 3) := by decide +kernel
theorem d142_41 : decode (pB 142) 41 = .ok (.goto (-37), 3) := by decide +kernel
theorem d142_44 : decode (pB 142) 44 = .ok (.iload_n 1, 1) := by decide +kernel
theorem d142_45 : decode (pB 142) 45 = .ok (.ireturn, 1) := by decide +kernel
theorem st1_142_1 : p_st1 142 1 = true := by decide +kernel
theorem st1_142_2 : p_st1 142 2 = true := by decide +kernel
/-- RX5.sitting -/
def t142_0 : List (Nat × pO) := [(0, o_push (.int (nI 0)) 1), (1, o_istore 1 2), (2, o_push (.int (nI 0)) 3), (3, o_istore 2 4), (4, o_iload 2 5), (5, o_aload 0 6), (6, o_getR 5 1 9), (9, o_push (.int (nI 3)) 10), (10, o_iald 11), (11, o_icge 44 14), (14, o_iload 1 15), (15, o_aload 0 16), (16, o_getR 5 1 19), (19, o_push (.int (nI 10)) 21), (21, o_iload 2 22), (22, o_iadd 23), (23, o_iald 24), (24, o_push (.int (nM 6)) 26), (26, o_icne 33 29), (29, o_push (.int (nI 0)) 30), (30, o_goto 36), (33, o_push (.int (nI 1)) 34), (34, o_iload 2 35), (35, o_ishl 36), (36, o_ior 37), (37, o_istore 1 38), (38, o_iinc 2 (nI 1) 41), (41, o_goto 4), (44, o_iload 1 45), (45, o_iret)]
theorem ok142_0 : ∀ q ∈ t142_0, p_Z 142 q := List.forall_mem_cons.mpr ⟨⟨s_iconst d142_0 rfl, tl_push _ _⟩, List.forall_mem_cons.mpr ⟨⟨s_istore_n d142_1 rfl st1_142_1, tl_istore _ _⟩, List.forall_mem_cons.mpr ⟨⟨s_iconst d142_2 rfl, tl_push _ _⟩, List.forall_mem_cons.mpr ⟨⟨s_istore_n d142_3 rfl st1_142_2, tl_istore _ _⟩, List.forall_mem_cons.mpr ⟨⟨s_iload_n d142_4 rfl, tl_iload _ _⟩, List.forall_mem_cons.mpr ⟨⟨s_aload_n d142_5 rfl, tl_aload _ _⟩, List.forall_mem_cons.mpr ⟨⟨f_getR_5_1 d142_6 wd_617, tl_getR _ _ _⟩, List.forall_mem_cons.mpr ⟨⟨s_iconst d142_9 rfl, tl_push _ _⟩, List.forall_mem_cons.mpr ⟨⟨s_iald d142_10, tl_iald _⟩, List.forall_mem_cons.mpr ⟨⟨s_icge d142_11 rfl, tl_icge _ _⟩, List.forall_mem_cons.mpr ⟨⟨s_iload_n d142_14 rfl, tl_iload _ _⟩, List.forall_mem_cons.mpr ⟨⟨s_aload_n d142_15 rfl, tl_aload _ _⟩, List.forall_mem_cons.mpr ⟨⟨f_getR_5_1 d142_16 wd_617, tl_getR _ _ _⟩, List.forall_mem_cons.mpr ⟨⟨s_bipush d142_19 rfl, tl_push _ _⟩, List.forall_mem_cons.mpr ⟨⟨s_iload_n d142_21 rfl, tl_iload _ _⟩, List.forall_mem_cons.mpr ⟨⟨s_iadd d142_22, tl_iadd _⟩, List.forall_mem_cons.mpr ⟨⟨s_iald d142_23, tl_iald _⟩, List.forall_mem_cons.mpr ⟨⟨s_bipush d142_24 rfl, tl_push _ _⟩, List.forall_mem_cons.mpr ⟨⟨s_icne d142_26 rfl, tl_icne _ _⟩, List.forall_mem_cons.mpr ⟨⟨s_iconst d142_29 rfl, tl_push _ _⟩, List.forall_mem_cons.mpr ⟨⟨s_goto d142_30 rfl, tl_goto _⟩, List.forall_mem_cons.mpr ⟨⟨s_iconst d142_33 rfl, tl_push _ _⟩, List.forall_mem_cons.mpr ⟨⟨s_iload_n d142_34 rfl, tl_iload _ _⟩, List.forall_mem_cons.mpr ⟨⟨s_ishl d142_35, tl_ishl _⟩, List.forall_mem_cons.mpr ⟨⟨s_ior d142_36, tl_ior _⟩, List.forall_mem_cons.mpr ⟨⟨s_istore_n d142_37 rfl st1_142_1, tl_istore _ _⟩, List.forall_mem_cons.mpr ⟨⟨s_iinc d142_38 rfl st1_142_2, tl_iinc _ _ _⟩, List.forall_mem_cons.mpr ⟨⟨s_goto d142_41 rfl, tl_goto _⟩, List.forall_mem_cons.mpr ⟨⟨s_iload_n d142_44 rfl, tl_iload _ _⟩, List.forall_mem_cons.mpr ⟨⟨s_iret d142_45 rfl, tl_iret⟩, fun _ h => absurd h List.not_mem_nil⟩⟩⟩⟩⟩⟩⟩⟩⟩⟩⟩⟩⟩⟩⟩⟩⟩⟩⟩⟩⟩⟩⟩⟩⟩⟩⟩⟩⟩⟩
def t142 : List (Nat × pO) := t142_0
theorem ok142 : ∀ q ∈ t142, p_Z 142 q := ok142_0
theorem d143_0 : decode (pB 143) 0 = .ok (.aload_n 0, 1) := by decide +kernel
theorem d143_1 : decode (pB 143) 1 = .ok (.iconst 0, 1) := by decide +kernel
theorem d143_2 : decode (pB 143) 2 = .ok (.putfield 44, 3) := by decide +kernel
theorem d143_5 : decode (pB 143) 5 = .ok (.aload_n 0, 1) := by decide +kernel
theorem d143_6 : decode (pB 143) 6 = .ok (.invokevirtual 122, 3) := by decide +kernel
theorem d143_9 : decode (pB 143) 9 = .ok (.iload_n 1, 1) := by decide +kernel
theorem d143_10 : decode (pB 143) 10 = .ok (.tableswitch 132 0 12 #[66, 73, 78, 83, 90, 96, 102, 107, 112, 112, 112, 122, 127], 66) := by decide +kernel
theorem d143_76 : decode (pB 143) 76 = .ok (.aload_n 0, 1) := by decide +kernel
theorem d143_77 : decode (pB 143) 77 = .ok (.getfield 7, 3) := by decide +kernel
theorem d143_80 : decode (pB 143) 80 = .ok (.iconst 3, 1) := by decide +kernel
theorem d143_81 : decode (pB 143) 81 = .ok (.iaload, 1) := by decide +kernel
theorem d143_82 : decode (pB 143) 82 = .ok (.ireturn, 1) := by decide +kernel
theorem d143_83 : decode (pB 143) 83 = .ok (.aload_n 0, 1) := by decide +kernel
theorem d143_84 : decode (pB 143) 84 = .ok (.invokevirtual 156, 3) := by decide +kernel
theorem d143_87 : decode (pB 143) 87 = .ok (.ireturn, 1) := by decide +kernel
theorem d143_88 : decode (pB 143) 88 = .ok (.aload_n 0, 1) := by decide +kernel
theorem d143_89 : decode (pB 143) 89 = .ok (.getfield 55, 3) := by decide +kernel
theorem d143_92 : decode (pB 143) 92 = .ok (.ireturn, 1) := by decide +kernel
theorem d143_93 : decode (pB 143) 93 = .ok (.aload_n 0, 1) := by decide +kernel
theorem d143_94 : decode (pB 143) 94 = .ok (.getfield 7, 3) := by decide +kernel
theorem d143_97 : decode (pB 143) 97 = .ok (.iconst 4, 1) := by decide +kernel
theorem d143_98 : decode (pB 143) 98 = .ok (.iaload, 1) := by decide +kernel
theorem d143_99 : decode (pB 143) 99 = .ok (.ireturn, 1) := by decide +kernel
theorem d143_100 : decode (pB 143) 100 = .ok (.aload_n 0, 1) := by decide +kernel
theorem d143_101 : decode (pB 143) 101 = .ok (.iconst (-1), 1) := by decide +kernel
theorem d143_102 : decode (pB 143) 102 = .ok (.invokevirtual 128, 3) := by decide +kernel
theorem d143_105 : decode (pB 143) 105 = .ok (.ireturn, 1) := by decide +kernel
theorem d143_106 : decode (pB 143) 106 = .ok (.aload_n 0, 1) := by decide +kernel
theorem d143_107 : decode (pB 143) 107 = .ok (.iconst 1, 1) := by decide +kernel
theorem d143_108 : decode (pB 143) 108 = .ok (.invokevirtual 128, 3) := by decide +kernel
theorem d143_111 : decode (pB 143) 111 = .ok (.ireturn, 1) := by decide +kernel
theorem d143_112 : decode (pB 143) 112 = .ok (.aload_n 0, 1) := by decide +kernel
theorem d143_113 : decode (pB 143) 113 = .ok (.invokevirtual 159, 3) := by decide +kernel
theorem d143_116 : decode (pB 143) 116 = .ok (.ireturn, 1) := by decide +kernel
theorem d143_117 : decode (pB 143) 117 = .ok (.aload_n 0, 1) := by decide +kernel
theorem d143_118 : decode (pB 143) 118 = .ok (.invokevirtual 162, 3) := by decide +kernel
theorem d143_121 : decode (pB 143) 121 = .ok (.ireturn, 1) := by decide +kernel
theorem d143_122 : decode (pB 143) 122 = .ok (.aload_n 0, 1) := by decide +kernel
theorem d143_123 : decode (pB 143) 123 = .ok (.getfield 7, 3) := by decide +kernel
theorem d143_126 : decode (pB 143) 126 = .ok (.iload_n 1, 1) := by decide +kernel
theorem d143_127 : decode (pB 143) 127 = .ok (.bipush 8, 2) := by decide +kernel
theorem d143_129 : decode (pB 143) 129 = .ok (.isub, 1) := by decide +kernel
theorem d143_130 : decode (pB 143) 130 = .ok (.iaload, 1) := by decide +kernel
theorem d143_131 : decode (pB 143) 131 = .ok (.ireturn, 1) := by decide +kernel
theorem d143_132 : decode (pB 143) 132 = .ok (.aload_n 0, 1) := by decide +kernel
theorem d143_133 : decode (pB 143) 133 = .ok (.getfield 140, 3) := by decide +kernel
theorem d143_136 : decode (pB 143) 136 = .ok (.ireturn, 1) := by decide +kernel
theorem d143_137 : decode (pB 143) 137 = .ok (.aload_n 0, 1) := by decide +kernel
theorem d143_138 : decode (pB 143) 138 = .ok (.getfield 52, 3) := by decide +kernel
theorem d143_141 : decode (pB 143) 141 = .ok (.ireturn, 1) := by decide +kernel
theorem d143_142 : decode (pB 143) 142 = .ok (.bipush (-2), 2) := by decide +kernel
theorem d143_144 : decode (pB 143) 144 = .ok (.ireturn, 1) := by decide +kernel
/-- RX5.count -/
def t143_0 : List (Nat × pO) := [(0, o_aload 0 1), (1, o_push (.int (nI 0)) 2), (2, o_putI 5 0 5), (5, o_aload 0 6), (6, o_invV 5 103 0 9), (9, o_iload 1 10), (10, o_switch [((nI 0), 76), ((nI 1), 83), ((nI 2), 88), ((nI 3), 93), ((nI 4), 100), ((nI 5), 106), ((nI 6), 112), ((nI 7), 117), ((nI 8), 122), ((nI 9), 122), ((nI 10), 122), ((nI 11), 132), ((nI 12), 137)] 142), (76, o_aload 0 77), (77, o_getR 5 1 80), (80, o_push (.int (nI 3)) 81), (81, o_iald 82), (82, o_iret), (83, o_aload 0 84), (84, o_invV 5 142 0 87), (87, o_iret), (88, o_aload 0 89), (89, o_getI 5 14 92), (92, o_iret), (93, o_aload 0 94), (94, o_getR 5 1 97), (97, o_push (.int (nI 4)) 98), (98, o_iald 99), (99, o_iret), (100, o_aload 0 101), (101, o_push (.int (nM 1)) 102), (102, o_invV 5 108 1 105), (105, o_iret), (106, o_aload 0 107), (107, o_push (.int (nI 1)) 108), (108, o_invV 5 108 1 111), (111, o_iret), (112, o_aload 0 113), (113, o_invV 5 111 0 116), (116, o_iret), (117, o_aload 0 118), (118, o_invV 5 112 0 121), (121, o_iret), (122, o_aload 0 123), (123, o_getR 5 1 126), (126, o_iload 1 127)]
theorem ok143_0 : ∀ q ∈ t143_0, p_Z 143 q := List.forall_mem_cons.mpr ⟨⟨s_aload_n d143_0 rfl, tl_aload _ _⟩, List.forall_mem_cons.mpr ⟨⟨s_iconst d143_1 rfl, tl_push _ _⟩, List.forall_mem_cons.mpr ⟨⟨f_putI_5_0 d143_2 wd_616, tl_putI _ _ _⟩, List.forall_mem_cons.mpr ⟨⟨s_aload_n d143_5 rfl, tl_aload _ _⟩, List.forall_mem_cons.mpr ⟨⟨q_invV_103 d143_6 wd_758, tl_invV _ _ _ _⟩, List.forall_mem_cons.mpr ⟨⟨s_iload_n d143_9 rfl, tl_iload _ _⟩, List.forall_mem_cons.mpr ⟨⟨s_table d143_10 rfl (by decide +kernel) (by decide +kernel), tl_switch _ _⟩, List.forall_mem_cons.mpr ⟨⟨s_aload_n d143_76 rfl, tl_aload _ _⟩, List.forall_mem_cons.mpr ⟨⟨f_getR_5_1 d143_77 wd_617, tl_getR _ _ _⟩, List.forall_mem_cons.mpr ⟨⟨s_iconst d143_80 rfl, tl_push _ _⟩, List.forall_mem_cons.mpr ⟨⟨s_iald d143_81, tl_iald _⟩, List.forall_mem_cons.mpr ⟨⟨s_iret d143_82 rfl, tl_iret⟩, List.forall_mem_cons.mpr ⟨⟨s_aload_n d143_83 rfl, tl_aload _ _⟩, List.forall_mem_cons.mpr ⟨⟨q_invV_142 d143_84 wd_850, tl_invV _ _ _ _⟩, List.forall_mem_cons.mpr ⟨⟨s_iret d143_87 rfl, tl_iret⟩, List.forall_mem_cons.mpr ⟨⟨s_aload_n d143_88 rfl, tl_aload _ _⟩, List.forall_mem_cons.mpr ⟨⟨f_getI_5_14 d143_89 wd_630, tl_getI _ _ _⟩, List.forall_mem_cons.mpr ⟨⟨s_iret d143_92 rfl, tl_iret⟩, List.forall_mem_cons.mpr ⟨⟨s_aload_n d143_93 rfl, tl_aload _ _⟩, List.forall_mem_cons.mpr ⟨⟨f_getR_5_1 d143_94 wd_617, tl_getR _ _ _⟩, List.forall_mem_cons.mpr ⟨⟨s_iconst d143_97 rfl, tl_push _ _⟩, List.forall_mem_cons.mpr ⟨⟨s_iald d143_98, tl_iald _⟩, List.forall_mem_cons.mpr ⟨⟨s_iret d143_99 rfl, tl_iret⟩, List.forall_mem_cons.mpr ⟨⟨s_aload_n d143_100 rfl, tl_aload _ _⟩, List.forall_mem_cons.mpr ⟨⟨s_iconst d143_101 rfl, tl_push _ _⟩, List.forall_mem_cons.mpr ⟨⟨q_invV_108 d143_102 wd_770, tl_invV _ _ _ _⟩, List.forall_mem_cons.mpr ⟨⟨s_iret d143_105 rfl, tl_iret⟩, List.forall_mem_cons.mpr ⟨⟨s_aload_n d143_106 rfl, tl_aload _ _⟩, List.forall_mem_cons.mpr ⟨⟨s_iconst d143_107 rfl, tl_push _ _⟩, List.forall_mem_cons.mpr ⟨⟨q_invV_108 d143_108 wd_770, tl_invV _ _ _ _⟩, List.forall_mem_cons.mpr ⟨⟨s_iret d143_111 rfl, tl_iret⟩, List.forall_mem_cons.mpr ⟨⟨s_aload_n d143_112 rfl, tl_aload _ _⟩, List.forall_mem_cons.mpr ⟨⟨q_invV_111 d143_113 wd_854, tl_invV _ _ _ _⟩, List.forall_mem_cons.mpr ⟨⟨s_iret d143_116 rfl, tl_iret⟩, List.forall_mem_cons.mpr ⟨⟨s_aload_n d143_117 rfl, tl_aload _ _⟩, List.forall_mem_cons.mpr ⟨⟨q_invV_112 d143_118 wd_858, tl_invV _ _ _ _⟩, List.forall_mem_cons.mpr ⟨⟨s_iret d143_121 rfl, tl_iret⟩, List.forall_mem_cons.mpr ⟨⟨s_aload_n d143_122 rfl, tl_aload _ _⟩, List.forall_mem_cons.mpr ⟨⟨f_getR_5_1 d143_123 wd_617, tl_getR _ _ _⟩, List.forall_mem_cons.mpr ⟨⟨s_iload_n d143_126 rfl, tl_iload _ _⟩, fun _ h => absurd h List.not_mem_nil⟩⟩⟩⟩⟩⟩⟩⟩⟩⟩⟩⟩⟩⟩⟩⟩⟩⟩⟩⟩⟩⟩⟩⟩⟩⟩⟩⟩⟩⟩⟩⟩⟩⟩⟩⟩⟩⟩⟩⟩
/-- RX5.count -/
def t143_1 : List (Nat × pO) := [(127, o_push (.int (nI 8)) 129), (129, o_isub 130), (130, o_iald 131), (131, o_iret), (132, o_aload 0 133), (133, o_getI 5 7 136), (136, o_iret), (137, o_aload 0 138), (138, o_getI 5 3 141), (141, o_iret), (142, o_push (.int (nM 2)) 144), (144, o_iret)]
theorem ok143_1 : ∀ q ∈ t143_1, p_Z 143 q := List.forall_mem_cons.mpr ⟨⟨s_bipush d143_127 rfl, tl_push _ _⟩, List.forall_mem_cons.mpr ⟨⟨s_isub d143_129, tl_isub _⟩, List.forall_mem_cons.mpr ⟨⟨s_iald d143_130, tl_iald _⟩, List.forall_mem_cons.mpr ⟨⟨s_iret d143_131 rfl, tl_iret⟩, List.forall_mem_cons.mpr ⟨⟨s_aload_n d143_132 rfl, tl_aload _ _⟩, List.forall_mem_cons.mpr ⟨⟨f_getI_5_7 d143_133 wd_623, tl_getI _ _ _⟩, List.forall_mem_cons.mpr ⟨⟨s_iret d143_136 rfl, tl_iret⟩, List.forall_mem_cons.mpr ⟨⟨s_aload_n d143_137 rfl, tl_aload _ _⟩, List.forall_mem_cons.mpr ⟨⟨f_getI_5_3 d143_138 wd_619, tl_getI _ _ _⟩, List.forall_mem_cons.mpr ⟨⟨s_iret d143_141 rfl, tl_iret⟩, List.forall_mem_cons.mpr ⟨⟨s_bipush d143_142 rfl, tl_push _ _⟩, List.forall_mem_cons.mpr ⟨⟨s_iret d143_144 rfl, tl_iret⟩, fun _ h => absurd h List.not_mem_nil⟩⟩⟩⟩⟩⟩⟩⟩⟩⟩⟩⟩
def t143 : List (Nat × pO) := t143_0 ++ (t143_1)
theorem ok143 : ∀ q ∈ t143, p_Z 143 q := List.forall_mem_append.mpr ⟨ok143_0, ok143_1⟩
theorem d144_0 : decode (pB 144) 0 = .ok (.aload_n 0, 1) := by decide +kernel
theorem d144_1 : decode (pB 144) 1 = .ok (.iconst 0, 1) := by decide +kernel
theorem d144_2 : decode (pB 144) 2 = .ok (.putfield 44, 3) := by decide +kernel
theorem d144_5 : decode (pB 144) 5 = .ok (.aload_n 0, 1) := by decide +kernel
theorem d144_6 : decode (pB 144) 6 = .ok (.iload_n 1, 1) := by decide +kernel
theorem d144_7 : decode (pB 144) 7 = .ok (.invokevirtual 125, 3) := by decide +kernel
theorem d144_10 : decode (pB 144) 10 = .ok (.istore_n 3, 1) := by decide +kernel
theorem d144_11 : decode (pB 144) 11 = .ok (.iload_n 3, 1) := by decide +kernel
theorem d144_12 : decode (pB 144) 12 = .ok (.bipush (-2), 2) := by decide +kernel
theorem d144_14 : decode (pB 144) 14 = .ok (.if_icmp .eq 12, 3) := by decide +kernel
theorem d144_17 : decode (pB 144) 17 = .ok (.iload_n 2, 1) := by decide +kernel
theorem d144_18 : decode (pB 144) 18 = .ok (.iconst 0, 1) := by decide +kernel
theorem d144_19 : decode (pB 144) 19 = .ok (.iconst 4, 1) := by decide +kernel
theorem d144_20 : decode (pB 144) 20 = .ok (.invokestatic 48, 3) := by decide +kernel
theorem d144_23 : decode (pB 144) 23 = .ok (.ifCond .ne 6, 3) := by decide +kernel
theorem d144_26 : decode (pB 144) 26 = .ok (.bipush (-2), 2) := by decide +kernel
theorem d144_28 : decode (pB 144) 28 = .ok (.ireturn, 1) := by decide +kernel
theorem d144_29 : decode (pB 144) 29 = .ok (.iload_n 3, 1) := by decide +kernel
theorem d144_30 : decode (pB 144) 30 = .ok (.ifCond .eq 5, 3) := by decide +kernel
theorem d144_33 : decode (pB 144) 33 = .ok (.iload_n 3, 1) := by decide +kernel
theorem d144_34 : decode (pB 144) 34 = .ok (.ireturn, 1) := by decide +kernel
theorem d144_35 : decode (pB 144) 35 = .ok (.aload_n 0, 1) := by decide +kernel
theorem d144_36 : decode (pB 144) 36 = .ok (.iload_n 1, 1) := by decide +kernel
theorem d144_37 : decode (pB 144) 37 = .ok (.invokevirtual 62, 3) := by decide +kernel
theorem d144_40 : decode (pB 144) 40 = .ok (.iload_n 2, 1) := by decide +kernel
theorem d144_41 : decode (pB 144) 41 = .ok (.tableswitch 53 0 3 #[31, 37, 43, 48], 31) := by decide +kernel
theorem d144_72 : decode (pB 144) 72 = .ok (.aload_n 0, 1) := by decide +kernel
theorem d144_73 : decode (pB 144) 73 = .ok (.iconst (-1), 1) := by decide +kernel
theorem d144_74 : decode (pB 144) 74 = .ok (.invokevirtual 128, 3) := by decide +kernel
theorem d144_77 : decode (pB 144) 77 = .ok (.ireturn, 1) := by decide +kernel
theorem d144_78 : decode (pB 144) 78 = .ok (.aload_n 0, 1) := by decide +kernel
theorem d144_79 : decode (pB 144) 79 = .ok (.iconst 1, 1) := by decide +kernel
theorem d144_80 : decode (pB 144) 80 = .ok (.invokevirtual 128, 3) := by decide +kernel
theorem d144_83 : decode (pB 144) 83 = .ok (.ireturn, 1) := by decide +kernel
theorem d144_84 : decode (pB 144) 84 = .ok (.aload_n 0, 1) := by decide +kernel
theorem d144_85 : decode (pB 144) 85 = .ok (.invokevirtual 159, 3) := by decide +kernel
theorem d144_88 : decode (pB 144) 88 = .ok (.ireturn, 1) := by decide +kernel
theorem d144_89 : decode (pB 144) 89 = .ok (.aload_n 0, 1) := by decide +kernel
theorem d144_90 : decode (pB 144) 90 = .ok (.getfield 55, 3) := by decide +kernel
theorem d144_93 : decode (pB 144) 93 = .ok (.ireturn, 1) := by decide +kernel
theorem d144_94 : decode (pB 144) 94 = .ok (.aload_n 0, 1) := by decide +kernel
theorem d144_95 : decode (pB 144) 95 = .ok (.invokevirtual 162, 3) := by decide +kernel
theorem d144_98 : decode (pB 144) 98 = .ok (.ireturn, 1) := by decide +kernel
theorem st1_144_3 : p_st1 144 3 = true := by decide +kernel
/-- RX5.ifFolded -/
def t144_0 : List (Nat × pO) := [(0, o_aload 0 1), (1, o_push (.int (nI 0)) 2), (2, o_putI 5 0 5), (5, o_aload 0 6), (6, o_iload 1 7), (7, o_invV 5 126 1 10), (10, o_istore 3 11), (11, o_iload 3 12), (12, o_push (.int (nM 2)) 14), (14, o_iceq 26 17), (17, o_iload 2 18), (18, o_push (.int (nI 0)) 19), (19, o_push (.int (nI 4)) 20), (20, o_invS 96 3 23), (23, o_ifne 29 26), (26, o_push (.int (nM 2)) 28), (28, o_iret), (29, o_iload 3 30), (30, o_ifeq 35 33), (33, o_iload 3 34), (34, o_iret), (35, o_aload 0 36), (36, o_iload 1 37), (37, o_invV 5 102 1 40), (40, o_iload 2 41), (41, o_switch [((nI 0), 72), ((nI 1), 78), ((nI 2), 84), ((nI 3), 89)] 94), (72, o_aload 0 73), (73, o_push (.int (nM 1)) 74), (74, o_invV 5 108 1 77), (77, o_iret), (78, o_aload 0 79), (79, o_push (.int (nI 1)) 80), (80, o_invV 5 108 1 83), (83, o_iret), (84, o_aload 0 85), (85, o_invV 5 111 0 88), (88, o_iret), (89, o_aload 0 90), (90, o_getI 5 14 93), (93, o_iret)]
theorem ok144_0 : ∀ q ∈ t144_0, p_Z 144 q := List.forall_mem_cons.mpr ⟨⟨s_aload_n d144_0 rfl, tl_aload _ _⟩, List.forall_mem_cons.mpr ⟨⟨s_iconst d144_1 rfl, tl_push _ _⟩, List.forall_mem_cons.mpr ⟨⟨f_putI_5_0 d144_2 wd_616, tl_putI _ _ _⟩, List.forall_mem_cons.mpr ⟨⟨s_aload_n d144_5 rfl, tl_aload _ _⟩, List.forall_mem_cons.mpr ⟨⟨s_iload_n d144_6 rfl, tl_iload _ _⟩, List.forall_mem_cons.mpr ⟨⟨q_invV_126 d144_7 wd_754, tl_invV _ _ _ _⟩, List.forall_mem_cons.mpr ⟨⟨s_istore_n d144_10 rfl st1_144_3, tl_istore _ _⟩, List.forall_mem_cons.mpr ⟨⟨s_iload_n d144_11 rfl, tl_iload _ _⟩, List.forall_mem_cons.mpr ⟨⟨s_bipush d144_12 rfl, tl_push _ _⟩, List.forall_mem_cons.mpr ⟨⟨s_iceq d144_14 rfl, tl_iceq _ _⟩, List.forall_mem_cons.mpr ⟨⟨s_iload_n d144_17 rfl, tl_iload _ _⟩, List.forall_mem_cons.mpr ⟨⟨s_iconst d144_18 rfl, tl_push _ _⟩, List.forall_mem_cons.mpr ⟨⟨s_iconst d144_19 rfl, tl_push _ _⟩, List.forall_mem_cons.mpr ⟨⟨q_invS_96 d144_20 wd_675, tl_invS _ _ _⟩, List.forall_mem_cons.mpr ⟨⟨s_ifne d144_23 rfl, tl_ifne _ _⟩, List.forall_mem_cons.mpr ⟨⟨s_bipush d144_26 rfl, tl_push _ _⟩, List.forall_mem_cons.mpr ⟨⟨s_iret d144_28 rfl, tl_iret⟩, List.forall_mem_cons.mpr ⟨⟨s_iload_n d144_29 rfl, tl_iload _ _⟩, List.forall_mem_cons.mpr ⟨⟨s_ifeq d144_30 rfl, tl_ifeq _ _⟩, List.forall_mem_cons.mpr ⟨⟨s_iload_n d144_33 rfl, tl_iload _ _⟩, List.forall_mem_cons.mpr ⟨⟨s_iret d144_34 rfl, tl_iret⟩, List.forall_mem_cons.mpr ⟨⟨s_aload_n d144_35 rfl, tl_aload _ _⟩, List.forall_mem_cons.mpr ⟨⟨s_iload_n d144_36 rfl, tl_iload _ _⟩, List.forall_mem_cons.mpr ⟨⟨q_invV_102 d144_37 wd_762, tl_invV _ _ _ _⟩, List.forall_mem_cons.mpr ⟨⟨s_iload_n d144_40 rfl, tl_iload _ _⟩, List.forall_mem_cons.mpr ⟨⟨s_table d144_41 rfl (by decide +kernel) (by decide +kernel), tl_switch _ _⟩, List.forall_mem_cons.mpr ⟨⟨s_aload_n d144_72 rfl, tl_aload _ _⟩, List.forall_mem_cons.mpr ⟨⟨s_iconst d144_73 rfl, tl_push _ _⟩, List.forall_mem_cons.mpr ⟨⟨q_invV_108 d144_74 wd_770, tl_invV _ _ _ _⟩, List.forall_mem_cons.mpr ⟨⟨s_iret d144_77 rfl, tl_iret⟩, List.forall_mem_cons.mpr ⟨⟨s_aload_n d144_78 rfl, tl_aload _ _⟩, List.forall_mem_cons.mpr ⟨⟨s_iconst d144_79 rfl, tl_push _ _⟩, List.forall_mem_cons.mpr ⟨⟨q_invV_108 d144_80 wd_770, tl_invV _ _ _ _⟩, List.forall_mem_cons.mpr ⟨⟨s_iret d144_83 rfl, tl_iret⟩, List.forall_mem_cons.mpr ⟨⟨s_aload_n d144_84 rfl, tl_aload _ _⟩, List.forall_mem_cons.mpr ⟨⟨q_invV_111 d144_85 wd_854, tl_invV _ _ _ _⟩, List.forall_mem_cons.mpr ⟨⟨s_iret d144_88 rfl, tl_iret⟩, List.forall_mem_cons.mpr ⟨⟨s_aload_n d144_89 rfl, tl_aload _ _⟩, List.forall_mem_cons.mpr ⟨⟨f_getI_5_14 d144_90 wd_630, tl_getI _ _ _⟩, List.forall_mem_cons.mpr ⟨⟨s_iret d144_93 rfl, tl_iret⟩, fun _ h => absurd h List.not_mem_nil⟩⟩⟩⟩⟩⟩⟩⟩⟩⟩⟩⟩⟩⟩⟩⟩⟩⟩⟩⟩⟩⟩⟩⟩⟩⟩⟩⟩⟩⟩⟩⟩⟩⟩⟩⟩⟩⟩⟩⟩
/-- RX5.ifFolded -/
def t144_1 : List (Nat × pO) := [(94, o_aload 0 95), (95, o_invV 5 112 0 98), (98, o_iret)]
theorem ok144_1 : ∀ q ∈ t144_1, p_Z 144 q := List.forall_mem_cons.mpr ⟨⟨s_aload_n d144_94 rfl, tl_aload _ _⟩, List.forall_mem_cons.mpr ⟨⟨q_invV_112 d144_95 wd_858, tl_invV _ _ _ _⟩, List.forall_mem_cons.mpr ⟨⟨s_iret d144_98 rfl, tl_iret⟩, fun _ h => absurd h List.not_mem_nil⟩⟩⟩
def t144 : List (Nat × pO) := t144_0 ++ (t144_1)
theorem ok144 : ∀ q ∈ t144, p_Z 144 q := List.forall_mem_append.mpr ⟨ok144_0, ok144_1⟩
theorem d145_0 : decode (pB 145) 0 = .ok (.aload_n 0, 1) := by decide +kernel
theorem d145_1 : decode (pB 145) 1 = .ok (.iconst 0, 1) := by decide +kernel
theorem d145_2 : decode (pB 145) 2 = .ok (.putfield 44, 3) := by decide +kernel
theorem d145_5 : decode (pB 145) 5 = .ok (.aload_n 0, 1) := by decide +kernel
theorem d145_6 : decode (pB 145) 6 = .ok (.invokevirtual 122, 3) := by decide +kernel
theorem d145_9 : decode (pB 145) 9 = .ok (.aload_n 0, 1) := by decide +kernel
theorem d145_10 : decode (pB 145) 10 = .ok (.getfield 55, 3) := by decide +kernel
theorem d145_13 : decode (pB 145) 13 = .ok (.istore_n 1, 1) := by decide +kernel
theorem d145_14 : decode (pB 145) 14 = .ok (.bipush (-6), 2) := by decide +kernel
theorem d145_16 : decode (pB 145) 16 = .ok (.istore_n 2, 1) := by decide +kernel
theorem d145_17 : decode (pB 145) 17 = .ok (.bipush (-6), 2) := by decide +kernel
theorem d145_19 : decode (pB 145) 19 = .ok (.istore_n 3, 1) := by decide +kernel
theorem d145_20 : decode (pB 145) 20 = .ok (.iconst 1, 1) := by decide +kernel
theorem d145_21 : decode (pB 145) 21 = .ok (.istore 4, 2) := by decide +kernel
theorem d145_23 : decode (pB 145) 23 = .ok (.iload 4, 2) := by decide +kernel
theorem d145_25 : decode (pB 145) 25 = .ok (.iload_n 1, 1) := by decide +kernel
theorem d145_26 : decode (pB 145) 26 = .ok (.if_icmp .ge 74, 3) := by decide +kernel
theorem d145_29 : decode (pB 145) 29 = .ok (.aload_n 0, 1) := by decide +kernel
theorem d145_30 : decode (pB 145) 30 = .ok (.getfield 7, 3) := by decide +kernel
theorem d145_33 : decode (pB 145) 33 = .ok (.iconst 4, 1) := by decide +kernel
theorem d145_34 : decode (pB 145) 34 = .ok (.iaload, 1) := by decide +kernel
theorem d145_35 : decode (pB 145) 35 = .ok (.iconst 5, 1) := by decide +kernel
theorem d145_36 : decode (pB 145) 36 = .ok (.if_icmp .ge 64, 3) := by decide +kernel
theorem d145_39 : decode (pB 145) 39 = .ok (.aload_n 0, 1) := by decide +kernel
theorem d145_40 : decode (pB 145) 40 = .ok (.invokevirtual 122, 3) := by decide +kernel
theorem d145_43 : decode (pB 145) 43 = .ok (.aload_n 0, 1) := by decide +kernel
theorem d145_44 : decode (pB 145) 44 = .ok (.iload 4, 2) := by decide +kernel
theorem d145_46 : decode (pB 145) 46 = .ok (.invokevirtual 62, 3) := by decide +kernel
theorem d145_49 : decode (pB 145) 49 = .ok (.aload_n 0, 1) := by decide +kernel
theorem d145_50 : decode (pB 145) 50 = .ok (.iconst (-1), 1) := by decide +kernel
theorem d145_51 : decode (pB 145) 51 = .ok (.invokevirtual 128, 3) := by decide +kernel
theorem d145_54 : decode (pB 145) 54 = .ok (.ifCond .le 8, 3) := by decide +kernel
theorem d145_57 : decode (pB 145) 57 = .ok (.bipush (-6), 2) := by decide +kernel
theorem d145_59 : decode (pB 145) 59 = .ok (.goto 7, 3) := by decide +kernel
theorem d145_62 : decode (pB 145) 62 = .ok (.aload_n 0, 1) := by decide +kernel
theorem d145_63 : decode (pB 145) 63 = .ok (.invokevirtual 159, 3) := by decide +kernel
theorem d145_66 : decode (pB 145) 66 = .ok (.istore 5, 2) := by decide +kernel
theorem d145_68 : decode (pB 145) 68 = .ok (.iload 5, 2) := by decide +kernel
theorem d145_70 : decode (pB 145) 70 = .ok (.iload_n 3, 1) := by decide +kernel
theorem d145_71 : decode (pB 145) 71 = .ok (.if_icmp .le 8, 3) := by decide +kernel
theorem d145_74 : decode (pB 145) 74 = .ok (.iload 4, 2) := by decide +kernel
theorem d145_76 : decode (pB 145) 76 = .ok (.goto 4, 3) := by decide +kernel
theorem d145_79 : decode (pB 145) 79 = .ok (.iload_n 2, 1) := by decide +kernel
theorem d145_80 : decode (pB 145) 80 = .ok (.istore_n 2, 1) := by decide +kernel
theorem d145_81 : decode (pB 145) 81 = .ok (.iload 5, 2) := by decide +kernel
theorem d145_83 : decode (pB 145) 83 = .ok (.iload_n 3, 1) := by decide +kernel
theorem d145_84 : decode (pB 145) 84 = .ok (.if_icmp .le 8, 3) := by decide +kernel
theorem d145_87 : decode (pB 145) 87 = .ok (.iload 5, 2) := by decide +kernel
theorem d145_89 : decode (pB 145) 89 = .ok (.goto 4, 3) := by decide +kernel
theorem d145_92 : decode (pB 145) 92 = .ok (.iload_n 3, 1) := by decide +kernel
theorem d145_93 : decode (pB 145) 93 = .ok (.istore_n 3, 1) := by decide +kernel
theorem d145_94 : decode (pB 145) 94 = .ok (.iinc 4 1, 3) := by decide +kernel
theorem d145_97 : decode (pB 145) 97 = .ok (.goto (-74), 3) := by decide +kernel
theorem d145_100 : decode (pB 145) 100 = .ok (.iload_n 2, 1) := by decide +kernel
theorem d145_101 : decode (pB 145) 101 = .ok (.ireturn, 1) := by decide +kernel
theorem st1_145_1 : p_st1 145 1 = true := by decide +kernel
theorem st1_145_2 : p_st1 145 2 = true := by decide +kernel
theorem st1_145_3 : p_st1 145 3 = true := by decide +kernel
theorem st1_145_4 : p_st1 145 4 = true := by decide +kernel
theorem st1_145_5 : p_st1 145 5 = true := by decide +kernel
/-- RX5.bestFold -/
def t145_0 : List (Nat × pO) := [(0, o_aload 0 1), (1, o_push (.int (nI 0)) 2), (2, o_putI 5 0 5), (5, o_aload 0 6), (6, o_invV 5 103 0 9), (9, o_aload 0 10), (10, o_getI 5 14 13), (13, o_istore 1 14), (14, o_push (.int (nM 6)) 16), (16, o_istore 2 17), (17, o_push (.int (nM 6)) 19), (19, o_istore 3 20), (20, o_push (.int (nI 1)) 21), (21, o_istore 4 23), (23, o_iload 4 25), (25, o_iload 1 26), (26, o_icge 100 29), (29, o_aload 0 30), (30, o_getR 5 1 33), (33, o_push (.int (nI 4)) 34), (34, o_iald 35), (35, o_push (.int (nI 5)) 36), (36, o_icge 100 39), (39, o_aload 0 40), (40, o_invV 5 103 0 43), (43, o_aload 0 44), (44, o_iload 4 46), (46, o_invV 5 102 1 49), (49, o_aload 0 50), (50, o_push (.int (nM 1)) 51), (51, o_invV 5 108 1 54), (54, o_ifle 62 57), (57, o_push (.int (nM 6)) 59), (59, o_goto 66), (62, o_aload 0 63), (63, o_invV 5 111 0 66), (66, o_istore 5 68), (68, o_iload 5 70), (70, o_iload 3 71), (71, o_icle 79 74)]
theorem ok145_0 : ∀ q ∈ t145_0, p_Z 145 q := List.forall_mem_cons.mpr ⟨⟨s_aload_n d145_0 rfl, tl_aload _ _⟩, List.forall_mem_cons.mpr ⟨⟨s_iconst d145_1 rfl, tl_push _ _⟩, List.forall_mem_cons.mpr ⟨⟨f_putI_5_0 d145_2 wd_616, tl_putI _ _ _⟩, List.forall_mem_cons.mpr ⟨⟨s_aload_n d145_5 rfl, tl_aload _ _⟩, List.forall_mem_cons.mpr ⟨⟨q_invV_103 d145_6 wd_758, tl_invV _ _ _ _⟩, List.forall_mem_cons.mpr ⟨⟨s_aload_n d145_9 rfl, tl_aload _ _⟩, List.forall_mem_cons.mpr ⟨⟨f_getI_5_14 d145_10 wd_630, tl_getI _ _ _⟩, List.forall_mem_cons.mpr ⟨⟨s_istore_n d145_13 rfl st1_145_1, tl_istore _ _⟩, List.forall_mem_cons.mpr ⟨⟨s_bipush d145_14 rfl, tl_push _ _⟩, List.forall_mem_cons.mpr ⟨⟨s_istore_n d145_16 rfl st1_145_2, tl_istore _ _⟩, List.forall_mem_cons.mpr ⟨⟨s_bipush d145_17 rfl, tl_push _ _⟩, List.forall_mem_cons.mpr ⟨⟨s_istore_n d145_19 rfl st1_145_3, tl_istore _ _⟩, List.forall_mem_cons.mpr ⟨⟨s_iconst d145_20 rfl, tl_push _ _⟩, List.forall_mem_cons.mpr ⟨⟨s_istore d145_21 st1_145_4, tl_istore _ _⟩, List.forall_mem_cons.mpr ⟨⟨s_iload d145_23, tl_iload _ _⟩, List.forall_mem_cons.mpr ⟨⟨s_iload_n d145_25 rfl, tl_iload _ _⟩, List.forall_mem_cons.mpr ⟨⟨s_icge d145_26 rfl, tl_icge _ _⟩, List.forall_mem_cons.mpr ⟨⟨s_aload_n d145_29 rfl, tl_aload _ _⟩, List.forall_mem_cons.mpr ⟨⟨f_getR_5_1 d145_30 wd_617, tl_getR _ _ _⟩, List.forall_mem_cons.mpr ⟨⟨s_iconst d145_33 rfl, tl_push _ _⟩, List.forall_mem_cons.mpr ⟨⟨s_iald d145_34, tl_iald _⟩, List.forall_mem_cons.mpr ⟨⟨s_iconst d145_35 rfl, tl_push _ _⟩, List.forall_mem_cons.mpr ⟨⟨s_icge d145_36 rfl, tl_icge _ _⟩, List.forall_mem_cons.mpr ⟨⟨s_aload_n d145_39 rfl, tl_aload _ _⟩, List.forall_mem_cons.mpr ⟨⟨q_invV_103 d145_40 wd_758, tl_invV _ _ _ _⟩, List.forall_mem_cons.mpr ⟨⟨s_aload_n d145_43 rfl, tl_aload _ _⟩, List.forall_mem_cons.mpr ⟨⟨s_iload d145_44, tl_iload _ _⟩, List.forall_mem_cons.mpr ⟨⟨q_invV_102 d145_46 wd_762, tl_invV _ _ _ _⟩, List.forall_mem_cons.mpr ⟨⟨s_aload_n d145_49 rfl, tl_aload _ _⟩, List.forall_mem_cons.mpr ⟨⟨s_iconst d145_50 rfl, tl_push _ _⟩, List.forall_mem_cons.mpr ⟨⟨q_invV_108 d145_51 wd_770, tl_invV _ _ _ _⟩, List.forall_mem_cons.mpr ⟨⟨s_ifle d145_54 rfl, tl_ifle _ _⟩, List.forall_mem_cons.mpr ⟨⟨s_bipush d145_57 rfl, tl_push _ _⟩, List.forall_mem_cons.mpr ⟨⟨s_goto d145_59 rfl, tl_goto _⟩, List.forall_mem_cons.mpr ⟨⟨s_aload_n d145_62 rfl, tl_aload _ _⟩, List.forall_mem_cons.mpr ⟨⟨q_invV_111 d145_63 wd_854, tl_invV _ _ _ _⟩, List.forall_mem_cons.mpr ⟨⟨s_istore d145_66 st1_145_5, tl_istore _ _⟩, List.forall_mem_cons.mpr ⟨⟨s_iload d145_68, tl_iload _ _⟩, List.forall_mem_cons.mpr ⟨⟨s_iload_n d145_70 rfl, tl_iload _ _⟩, List.forall_mem_cons.mpr ⟨⟨s_icle d145_71 rfl, tl_icle _ _⟩, fun _ h => absurd h List.not_mem_nil⟩⟩⟩⟩⟩⟩⟩⟩⟩⟩⟩⟩⟩⟩⟩⟩⟩⟩⟩⟩⟩⟩⟩⟩⟩⟩⟩⟩⟩⟩⟩⟩⟩⟩⟩⟩⟩⟩⟩⟩
/-- RX5.bestFold -/
def t145_1 : List (Nat × pO) := [(74, o_iload 4 76), (76, o_goto 80), (79, o_iload 2 80), (80, o_istore 2 81), (81, o_iload 5 83), (83, o_iload 3 84), (84, o_icle 92 87), (87, o_iload 5 89), (89, o_goto 93), (92, o_iload 3 93), (93, o_istore 3 94), (94, o_iinc 4 (nI 1) 97), (97, o_goto 23), (100, o_iload 2 101), (101, o_iret)]
theorem ok145_1 : ∀ q ∈ t145_1, p_Z 145 q := List.forall_mem_cons.mpr ⟨⟨s_iload d145_74, tl_iload _ _⟩, List.forall_mem_cons.mpr ⟨⟨s_goto d145_76 rfl, tl_goto _⟩, List.forall_mem_cons.mpr ⟨⟨s_iload_n d145_79 rfl, tl_iload _ _⟩, List.forall_mem_cons.mpr ⟨⟨s_istore_n d145_80 rfl st1_145_2, tl_istore _ _⟩, List.forall_mem_cons.mpr ⟨⟨s_iload d145_81, tl_iload _ _⟩, List.forall_mem_cons.mpr ⟨⟨s_iload_n d145_83 rfl, tl_iload _ _⟩, List.forall_mem_cons.mpr ⟨⟨s_icle d145_84 rfl, tl_icle _ _⟩, List.forall_mem_cons.mpr ⟨⟨s_iload d145_87, tl_iload _ _⟩, List.forall_mem_cons.mpr ⟨⟨s_goto d145_89 rfl, tl_goto _⟩, List.forall_mem_cons.mpr ⟨⟨s_iload_n d145_92 rfl, tl_iload _ _⟩, List.forall_mem_cons.mpr ⟨⟨s_istore_n d145_93 rfl st1_145_3, tl_istore _ _⟩, List.forall_mem_cons.mpr ⟨⟨s_iinc d145_94 rfl st1_145_4, tl_iinc _ _ _⟩, List.forall_mem_cons.mpr ⟨⟨s_goto d145_97 rfl, tl_goto _⟩, List.forall_mem_cons.mpr ⟨⟨s_iload_n d145_100 rfl, tl_iload _ _⟩, List.forall_mem_cons.mpr ⟨⟨s_iret d145_101 rfl, tl_iret⟩, fun _ h => absurd h List.not_mem_nil⟩⟩⟩⟩⟩⟩⟩⟩⟩⟩⟩⟩⟩⟩⟩
def t145 : List (Nat × pO) := t145_0 ++ (t145_1)
theorem ok145 : ∀ q ∈ t145, p_Z 145 q := List.forall_mem_append.mpr ⟨ok145_0, ok145_1⟩
theorem d146_0 : decode (pB 146) 0 = .ok (.aload_n 0, 1) := by decide +kernel
theorem d146_1 : decode (pB 146) 1 = .ok (.iconst 0, 1) := by decide +kernel
theorem d146_2 : decode (pB 146) 2 = .ok (.putfield 44, 3) := by decide +kernel
theorem d146_5 : decode (pB 146) 5 = .ok (.iload_n 1, 1) := by decide +kernel
theorem d146_6 : decode (pB 146) 6 = .ok (.iconst 0, 1) := by decide +kernel
theorem d146_7 : decode (pB 146) 7 = .ok (.iconst 2, 1) := by decide +kernel
theorem d146_8 : decode (pB 146) 8 = .ok (.invokestatic 48, 3) := by decide +kernel
theorem d146_11 : decode (pB 146) 11 = .ok (.ifCond .ne 6, 3) := by decide +kernel
theorem d146_14 : decode (pB 146) 14 = .ok (.bipush (-2), 2) := by decide +kernel
theorem d146_16 : decode (pB 146) 16 = .ok (.ireturn, 1) := by decide +kernel
theorem d146_17 : decode (pB 146) 17 = .ok (.aload_n 0, 1) := by decide +kernel
theorem d146_18 : decode (pB 146) 18 = .ok (.invokevirtual 122, 3) := by decide +kernel
theorem d146_21 : decode (pB 146) 21 = .ok (.bipush (-6), 2) := by decide +kernel
theorem d146_23 : decode (pB 146) 23 = .ok (.istore_n 2, 1) := by decide +kernel
theorem d146_24 : decode (pB 146) 24 = .ok (.bipush (-6), 2) := by decide +kernel
theorem d146_26 : decode (pB 146) 26 = .ok (.istore_n 3, 1) := by decide +kernel
theorem d146_27 : decode (pB 146) 27 = .ok (.iconst 0, 1) := by decide +kernel
theorem d146_28 : decode (pB 146) 28 = .ok (.istore 4, 2) := by decide +kernel
theorem d146_30 : decode (pB 146) 30 = .ok (.iload 4, 2) := by decide +kernel
theorem d146_32 : decode (pB 146) 32 = .ok (.sipush 256, 3) := by decide +kernel
theorem d146_35 : decode (pB 146) 35 = .ok (.if_icmp .ge 109, 3) := by decide +kernel
theorem d146_38 : decode (pB 146) 38 = .ok (.iload 4, 2) := by decide +kernel
theorem d146_40 : decode (pB 146) 40 = .ok (.bipush 16, 2) := by decide +kernel
theorem d146_42 : decode (pB 146) 42 = .ok (.idiv, 1) := by decide +kernel
theorem d146_43 : decode (pB 146) 43 = .ok (.istore 5, 2) := by decide +kernel
theorem d146_45 : decode (pB 146) 45 = .ok (.iload 4, 2) := by decide +kernel
theorem d146_47 : decode (pB 146) 47 = .ok (.bipush 16, 2) := by decide +kernel
theorem d146_49 : decode (pB 146) 49 = .ok (.irem, 1) := by decide +kernel
theorem d146_50 : decode (pB 146) 50 = .ok (.istore 6, 2) := by decide +kernel
theorem d146_52 : decode (pB 146) 52 = .ok (.iload 5, 2) := by decide +kernel
theorem d146_54 : decode (pB 146) 54 = .ok (.iload 6, 2) := by decide +kernel
theorem d146_56 : decode (pB 146) 56 = .ok (.if_icmp .ge 82, 3) := by decide +kernel
theorem d146_59 : decode (pB 146) 59 = .ok (.iload 6, 2) := by decide +kernel
theorem d146_61 : decode (pB 146) 61 = .ok (.aload_n 0, 1) := by decide +kernel
theorem d146_62 : decode (pB 146) 62 = .ok (.getfield 7, 3) := by decide +kernel
theorem d146_65 : decode (pB 146) 65 = .ok (.iconst 0, 1) := by decide +kernel
theorem d146_66 : decode (pB 146) 66 = .ok (.iaload, 1) := by decide +kernel
theorem d146_67 : decode (pB 146) 67 = .ok (.if_icmp .ge 71, 3) := by decide +kernel
theorem d146_70 : decode (pB 146) 70 = .ok (.aload_n 0, 1) := by decide +kernel
theorem d146_71 : decode (pB 146) 71 = .ok (.iload 5, 2) := by decide +kernel
theorem d146_73 : decode (pB 146) 73 = .ok (.iload 6, 2) := by decide +kernel
theorem d146_75 : decode (pB 146) 75 = .ok (.invokevirtual 112, 3) := by decide +kernel
theorem d146_78 : decode (pB 146) 78 = .ok (.pop, 1) := by decide +kernel
theorem d146_79 : decode (pB 146) 79 = .ok (.aload_n 0, 1) := by decide +kernel
theorem d146_80 : decode (pB 146) 80 = .ok (.iconst (-1), 1) := by decide +kernel
theorem d146_81 : decode (pB 146) 81 = .ok (.invokevirtual 128, 3) := by decide +kernel
theorem d146_84 : decode (pB 146) 84 = .ok (.istore 7, 2) := by decide +kernel
theorem d146_86 : decode (pB 146) 86 = .ok (.aload_n 0, 1) := by decide +kernel
theorem d146_87 : decode (pB 146) 87 = .ok (.iload 5, 2) := by decide +kernel
theorem d146_89 : decode (pB 146) 89 = .ok (.iload 6, 2) := by decide +kernel
theorem d146_91 : decode (pB 146) 91 = .ok (.invokevirtual 112, 3) := by decide +kernel
theorem d146_94 : decode (pB 146) 94 = .ok (.pop, 1) := by decide +kernel
theorem d146_95 : decode (pB 146) 95 = .ok (.iload_n 2, 1) := by decide +kernel
theorem d146_96 : decode (pB 146) 96 = .ok (.bipush (-6), 2) := by decide +kernel
theorem d146_98 : decode (pB 146) 98 = .ok (.if_icmp .eq 9, 3) := by decide +kernel
theorem d146_101 : decode (pB 146) 101 = .ok (.iload 7, 2) := by decide +kernel
theorem d146_103 : decode (pB 146) 103 = .ok (.iload_n 3, 1) := by decide +kernel
theorem d146_104 : decode (pB 146) 104 = .ok (.if_icmp .ge 7, 3) := by decide +kernel
theorem d146_107 : decode (pB 146) 107 = .ok (.iconst 1, 1) := by decide +kernel
theorem d146_108 : decode (pB 146) 108 = .ok (.goto 4, 3) := by decide +kernel
theorem d146_111 : decode (pB 146) 111 = .ok (.iconst 0, 1) := by decide +kernel
theorem d146_112 : decode (pB 146) 112 = .ok (.istore 8, 2) := by decide +kernel
theorem d146_114 : decode (pB 146) 114 = .ok (.iload 8, 2) := by decide +kernel
theorem d146_116 : decode (pB 146) 116 = .ok (.ifCond .eq 8, 3) := by decide +kernel
theorem d146_119 : decode (pB 146) 119 = .ok (.iload 4, 2) := by decide +kernel
theorem d146_121 : decode (pB 146) 121 = .ok (.goto 4, 3) := by decide +kernel
theorem d146_124 : decode (pB 146) 124 = .ok (.iload_n 2, 1) := by decide +kernel
theorem d146_125 : decode (pB 146) 125 = .ok (.istore_n 2, 1) := by decide +kernel
theorem d146_126 : decode (pB 146) 126 = .ok (.iload 8, 2) := by decide +kernel
theorem d146_128 : decode (pB 146) 128 = .ok (.ifCond .eq 8, 3) := by decide +kernel
theorem d146_131 : decode (pB 146) 131 = .ok (.iload 7, 2) := by decide +kernel
theorem d146_133 : decode (pB 146) 133 = .ok (.goto 4, 3) := by decide +kernel
theorem d146_136 : decode (pB 146) 136 = .ok (.iload_n 3, 1) := by decide +kernel
theorem d146_137 : decode (pB 146) 137 = .ok (.istore_n 3, 1) := by decide +kernel
theorem d146_138 : decode (pB 146) 138 = .ok (.iinc 4 1, 3) := by decide +kernel
theorem d146_141 : decode (pB 146) 141 = .ok (.goto (-111), 3) := by decide +kernel
theorem d146_144 : decode (pB 146) 144 = .ok (.iload_n 1, 1) := by decide +kernel
theorem d146_145 : decode (pB 146) 145 = .ok (.ifCond .ne 10, 3) := by decide +kernel
theorem d146_148 : decode (pB 146) 148 = .ok (.iload_n 2, 1) := by decide +kernel
theorem d146_149 : decode (pB 146) 149 = .ok (.bipush 16, 2) := by decide +kernel
theorem d146_151 : decode (pB 146) 151 = .ok (.idiv, 1) := by decide +kernel
theorem d146_152 : decode (pB 146) 152 = .ok (.goto 16, 3) := by decide +kernel
theorem d146_155 : decode (pB 146) 155 = .ok (.iload_n 1, 1) := by decide +kernel
theorem d146_156 : decode (pB 146) 156 = .ok (.iconst 1, 1) := by decide +kernel
theorem d146_157 : decode (pB 146) 157 = .ok (.if_icmp .ne 10, 3) := by decide +kernel
theorem d146_160 : decode (pB 146) 160 = .ok (.iload_n 2, 1) := by decide +kernel
theorem d146_161 : decode (pB 146) 161 = .ok (.bipush 16, 2) := by decide +kernel
theorem d146_163 : decode (pB 146) 163 = .ok (.irem, 1) := by decide +kernel
theorem d146_164 : decode (pB 146) 164 = .ok (.goto 4, 3) := by decide +kernel
theorem d146_167 : decode (pB 146) 167 = .ok (.iload_n 3, 1) := by decide +kernel
theorem d146_168 : decode (pB 146) 168 = .ok (.ireturn, 1) := by decide +kernel
theorem st1_146_2 : p_st1 146 2 = true := by decide +kernel
theorem st1_146_3 : p_st1 146 3 = true := by decide +kernel
theorem st1_146_4 : p_st1 146 4 = true := by decide +kernel
theorem st1_146_5 : p_st1 146 5 = true := by decide +kernel
theorem st1_146_6 : p_st1 146 6 = true := by decide +kernel
theorem st1_146_7 : p_st1 146 7 = true := by decide +kernel
theorem st1_146_8 : p_st1 146 8 = true := by decide +kernel
/-- RX5.bestSwap -/
def t146_0 : List (Nat × pO) := [(0, o_aload 0 1), (1, o_push (.int (nI 0)) 2), (2, o_putI 5 0 5), (5, o_iload 1 6), (6, o_push (.int (nI 0)) 7), (7, o_push (.int (nI 2)) 8), (8, o_invS 96 3 11), (11, o_ifne 17 14), (14, o_push (.int (nM 2)) 16), (16, o_iret), (17, o_aload 0 18), (18, o_invV 5 103 0 21), (21, o_push (.int (nM 6)) 23), (23, o_istore 2 24), (24, o_push (.int (nM 6)) 26), (26, o_istore 3 27), (27, o_push (.int (nI 0)) 28), (28, o_istore 4 30), (30, o_iload 4 32), (32, o_push (.int (nI 256)) 35), (35, o_icge 144 38), (38, o_iload 4 40), (40, o_push (.int (nI 16)) 42), (42, o_idiv 43), (43, o_istore 5 45), (45, o_iload 4 47), (47, o_push (.int (nI 16)) 49), (49, o_irem 50), (50, o_istore 6 52), (52, o_iload 5 54), (54, o_iload 6 56), (56, o_icge 138 59), (59, o_iload 6 61), (61, o_aload 0 62), (62, o_getR 5 1 65), (65, o_push (.int (nI 0)) 66), (66, o_iald 67), (67, o_icge 138 70), (70, o_aload 0 71), (71, o_iload 5 73)]
theorem ok146_0 : ∀ q ∈ t146_0, p_Z 146 q := List.forall_mem_cons.mpr ⟨⟨s_aload_n d146_0 rfl, tl_aload _ _⟩, List.forall_mem_cons.mpr ⟨⟨s_iconst d146_1 rfl, tl_push _ _⟩, List.forall_mem_cons.mpr ⟨⟨f_putI_5_0 d146_2 wd_616, tl_putI _ _ _⟩, List.forall_mem_cons.mpr ⟨⟨s_iload_n d146_5 rfl, tl_iload _ _⟩, List.forall_mem_cons.mpr ⟨⟨s_iconst d146_6 rfl, tl_push _ _⟩, List.forall_mem_cons.mpr ⟨⟨s_iconst d146_7 rfl, tl_push _ _⟩, List.forall_mem_cons.mpr ⟨⟨q_invS_96 d146_8 wd_675, tl_invS _ _ _⟩, List.forall_mem_cons.mpr ⟨⟨s_ifne d146_11 rfl, tl_ifne _ _⟩, List.forall_mem_cons.mpr ⟨⟨s_bipush d146_14 rfl, tl_push _ _⟩, List.forall_mem_cons.mpr ⟨⟨s_iret d146_16 rfl, tl_iret⟩, List.forall_mem_cons.mpr ⟨⟨s_aload_n d146_17 rfl, tl_aload _ _⟩, List.forall_mem_cons.mpr ⟨⟨q_invV_103 d146_18 wd_758, tl_invV _ _ _ _⟩, List.forall_mem_cons.mpr ⟨⟨s_bipush d146_21 rfl, tl_push _ _⟩, List.forall_mem_cons.mpr ⟨⟨s_istore_n d146_23 rfl st1_146_2, tl_istore _ _⟩, List.forall_mem_cons.mpr ⟨⟨s_bipush d146_24 rfl, tl_push _ _⟩, List.forall_mem_cons.mpr ⟨⟨s_istore_n d146_26 rfl st1_146_3, tl_istore _ _⟩, List.forall_mem_cons.mpr ⟨⟨s_iconst d146_27 rfl, tl_push _ _⟩, List.forall_mem_cons.mpr ⟨⟨s_istore d146_28 st1_146_4, tl_istore _ _⟩, List.forall_mem_cons.mpr ⟨⟨s_iload d146_30, tl_iload _ _⟩, List.forall_mem_cons.mpr ⟨⟨s_sipush d146_32 rfl, tl_push _ _⟩, List.forall_mem_cons.mpr ⟨⟨s_icge d146_35 rfl, tl_icge _ _⟩, List.forall_mem_cons.mpr ⟨⟨s_iload d146_38, tl_iload _ _⟩, List.forall_mem_cons.mpr ⟨⟨s_bipush d146_40 rfl, tl_push _ _⟩, List.forall_mem_cons.mpr ⟨⟨s_idiv d146_42, tl_idiv _⟩, List.forall_mem_cons.mpr ⟨⟨s_istore d146_43 st1_146_5, tl_istore _ _⟩, List.forall_mem_cons.mpr ⟨⟨s_iload d146_45, tl_iload _ _⟩, List.forall_mem_cons.mpr ⟨⟨s_bipush d146_47 rfl, tl_push _ _⟩, List.forall_mem_cons.mpr ⟨⟨s_irem d146_49, tl_irem _⟩, List.forall_mem_cons.mpr ⟨⟨s_istore d146_50 st1_146_6, tl_istore _ _⟩, List.forall_mem_cons.mpr ⟨⟨s_iload d146_52, tl_iload _ _⟩, List.forall_mem_cons.mpr ⟨⟨s_iload d146_54, tl_iload _ _⟩, List.forall_mem_cons.mpr ⟨⟨s_icge d146_56 rfl, tl_icge _ _⟩, List.forall_mem_cons.mpr ⟨⟨s_iload d146_59, tl_iload _ _⟩, List.forall_mem_cons.mpr ⟨⟨s_aload_n d146_61 rfl, tl_aload _ _⟩, List.forall_mem_cons.mpr ⟨⟨f_getR_5_1 d146_62 wd_617, tl_getR _ _ _⟩, List.forall_mem_cons.mpr ⟨⟨s_iconst d146_65 rfl, tl_push _ _⟩, List.forall_mem_cons.mpr ⟨⟨s_iald d146_66, tl_iald _⟩, List.forall_mem_cons.mpr ⟨⟨s_icge d146_67 rfl, tl_icge _ _⟩, List.forall_mem_cons.mpr ⟨⟨s_aload_n d146_70 rfl, tl_aload _ _⟩, List.forall_mem_cons.mpr ⟨⟨s_iload d146_71, tl_iload _ _⟩, fun _ h => absurd h List.not_mem_nil⟩⟩⟩⟩⟩⟩⟩⟩⟩⟩⟩⟩⟩⟩⟩⟩⟩⟩⟩⟩⟩⟩⟩⟩⟩⟩⟩⟩⟩⟩⟩⟩⟩⟩⟩⟩⟩⟩⟩⟩
/-- RX5.bestSwap -/
def t146_1 : List (Nat × pO) := [(73, o_iload 6 75), (75, o_invV 5 121 2 78), (78, o_popi 79), (79, o_aload 0 80), (80, o_push (.int (nM 1)) 81), (81, o_invV 5 108 1 84), (84, o_istore 7 86), (86, o_aload 0 87), (87, o_iload 5 89), (89, o_iload 6 91), (91, o_invV 5 121 2 94), (94, o_popi 95), (95, o_iload 2 96), (96, o_push (.int (nM 6)) 98), (98, o_iceq 107 101), (101, o_iload 7 103), (103, o_iload 3 104), (104, o_icge 111 107), (107, o_push (.int (nI 1)) 108), (108, o_goto 112), (111, o_push (.int (nI 0)) 112), (112, o_istore 8 114), (114, o_iload 8 116), (116, o_ifeq 124 119), (119, o_iload 4 121), (121, o_goto 125), (124, o_iload 2 125), (125, o_istore 2 126), (126, o_iload 8 128), (128, o_ifeq 136 131), (131, o_iload 7 133), (133, o_goto 137), (136, o_iload 3 137), (137, o_istore 3 138), (138, o_iinc 4 (nI 1) 141), (141, o_goto 30), (144, o_iload 1 145), (145, o_ifne 155 148), (148, o_iload 2 149), (149, o_push (.int (nI 16)) 151)]
theorem ok146_1 : ∀ q ∈ t146_1, p_Z 146 q := List.forall_mem_cons.mpr ⟨⟨s_iload d146_73, tl_iload _ _⟩, List.forall_mem_cons.mpr ⟨⟨q_invV_121 d146_75 wd_726, tl_invV _ _ _ _⟩, List.forall_mem_cons.mpr ⟨⟨s_popi d146_78, tl_popi _⟩, List.forall_mem_cons.mpr ⟨⟨s_aload_n d146_79 rfl, tl_aload _ _⟩, List.forall_mem_cons.mpr ⟨⟨s_iconst d146_80 rfl, tl_push _ _⟩, List.forall_mem_cons.mpr ⟨⟨q_invV_108 d146_81 wd_770, tl_invV _ _ _ _⟩, List.forall_mem_cons.mpr ⟨⟨s_istore d146_84 st1_146_7, tl_istore _ _⟩, List.forall_mem_cons.mpr ⟨⟨s_aload_n d146_86 rfl, tl_aload _ _⟩, List.forall_mem_cons.mpr ⟨⟨s_iload d146_87, tl_iload _ _⟩, List.forall_mem_cons.mpr ⟨⟨s_iload d146_89, tl_iload _ _⟩, List.forall_mem_cons.mpr ⟨⟨q_invV_121 d146_91 wd_726, tl_invV _ _ _ _⟩, List.forall_mem_cons.mpr ⟨⟨s_popi d146_94, tl_popi _⟩, List.forall_mem_cons.mpr ⟨⟨s_iload_n d146_95 rfl, tl_iload _ _⟩, List.forall_mem_cons.mpr ⟨⟨s_bipush d146_96 rfl, tl_push _ _⟩, List.forall_mem_cons.mpr ⟨⟨s_iceq d146_98 rfl, tl_iceq _ _⟩, List.forall_mem_cons.mpr ⟨⟨s_iload d146_101, tl_iload _ _⟩, List.forall_mem_cons.mpr ⟨⟨s_iload_n d146_103 rfl, tl_iload _ _⟩, List.forall_mem_cons.mpr ⟨⟨s_icge d146_104 rfl, tl_icge _ _⟩, List.forall_mem_cons.mpr ⟨⟨s_iconst d146_107 rfl, tl_push _ _⟩, List.forall_mem_cons.mpr ⟨⟨s_goto d146_108 rfl, tl_goto _⟩, List.forall_mem_cons.mpr ⟨⟨s_iconst d146_111 rfl, tl_push _ _⟩, List.forall_mem_cons.mpr ⟨⟨s_istore d146_112 st1_146_8, tl_istore _ _⟩, List.forall_mem_cons.mpr ⟨⟨s_iload d146_114, tl_iload _ _⟩, List.forall_mem_cons.mpr ⟨⟨s_ifeq d146_116 rfl, tl_ifeq _ _⟩, List.forall_mem_cons.mpr ⟨⟨s_iload d146_119, tl_iload _ _⟩, List.forall_mem_cons.mpr ⟨⟨s_goto d146_121 rfl, tl_goto _⟩, List.forall_mem_cons.mpr ⟨⟨s_iload_n d146_124 rfl, tl_iload _ _⟩, List.forall_mem_cons.mpr ⟨⟨s_istore_n d146_125 rfl st1_146_2, tl_istore _ _⟩, List.forall_mem_cons.mpr ⟨⟨s_iload d146_126, tl_iload _ _⟩, List.forall_mem_cons.mpr ⟨⟨s_ifeq d146_128 rfl, tl_ifeq _ _⟩, List.forall_mem_cons.mpr ⟨⟨s_iload d146_131, tl_iload _ _⟩, List.forall_mem_cons.mpr ⟨⟨s_goto d146_133 rfl, tl_goto _⟩, List.forall_mem_cons.mpr ⟨⟨s_iload_n d146_136 rfl, tl_iload _ _⟩, List.forall_mem_cons.mpr ⟨⟨s_istore_n d146_137 rfl st1_146_3, tl_istore _ _⟩, List.forall_mem_cons.mpr ⟨⟨s_iinc d146_138 rfl st1_146_4, tl_iinc _ _ _⟩, List.forall_mem_cons.mpr ⟨⟨s_goto d146_141 rfl, tl_goto _⟩, List.forall_mem_cons.mpr ⟨⟨s_iload_n d146_144 rfl, tl_iload _ _⟩, List.forall_mem_cons.mpr ⟨⟨s_ifne d146_145 rfl, tl_ifne _ _⟩, List.forall_mem_cons.mpr ⟨⟨s_iload_n d146_148 rfl, tl_iload _ _⟩, List.forall_mem_cons.mpr ⟨⟨s_bipush d146_149 rfl, tl_push _ _⟩, fun _ h => absurd h List.not_mem_nil⟩⟩⟩⟩⟩⟩⟩⟩⟩⟩⟩⟩⟩⟩⟩⟩⟩⟩⟩⟩⟩⟩⟩⟩⟩⟩⟩⟩⟩⟩⟩⟩⟩⟩⟩⟩⟩⟩⟩⟩
/-- RX5.bestSwap -/
def t146_2 : List (Nat × pO) := [(151, o_idiv 152), (152, o_goto 168), (155, o_iload 1 156), (156, o_push (.int (nI 1)) 157), (157, o_icne 167 160), (160, o_iload 2 161), (161, o_push (.int (nI 16)) 163), (163, o_irem 164), (164, o_goto 168), (167, o_iload 3 168), (168, o_iret)]
theorem ok146_2 : ∀ q ∈ t146_2, p_Z 146 q := List.forall_mem_cons.mpr ⟨⟨s_idiv d146_151, tl_idiv _⟩, List.forall_mem_cons.mpr ⟨⟨s_goto d146_152 rfl, tl_goto _⟩, List.forall_mem_cons.mpr ⟨⟨s_iload_n d146_155 rfl, tl_iload _ _⟩, List.forall_mem_cons.mpr ⟨⟨s_iconst d146_156 rfl, tl_push _ _⟩, List.forall_mem_cons.mpr ⟨⟨s_icne d146_157 rfl, tl_icne _ _⟩, List.forall_mem_cons.mpr ⟨⟨s_iload_n d146_160 rfl, tl_iload _ _⟩, List.forall_mem_cons.mpr ⟨⟨s_bipush d146_161 rfl, tl_push _ _⟩, List.forall_mem_cons.mpr ⟨⟨s_irem d146_163, tl_irem _⟩, List.forall_mem_cons.mpr ⟨⟨s_goto d146_164 rfl, tl_goto _⟩, List.forall_mem_cons.mpr ⟨⟨s_iload_n d146_167 rfl, tl_iload _ _⟩, List.forall_mem_cons.mpr ⟨⟨s_iret d146_168 rfl, tl_iret⟩, fun _ h => absurd h List.not_mem_nil⟩⟩⟩⟩⟩⟩⟩⟩⟩⟩⟩
def t146 : List (Nat × pO) := t146_0 ++ (t146_1 ++ (t146_2))
theorem ok146 : ∀ q ∈ t146, p_Z 146 q := List.forall_mem_append.mpr ⟨ok146_0, List.forall_mem_append.mpr ⟨ok146_1, ok146_2⟩⟩
theorem d147_0 : decode (pB 147) 0 = .ok (.aload_n 0, 1) := by decide +kernel
theorem d147_1 : decode (pB 147) 1 = .ok (.invokevirtual 122, 3) := by decide +kernel
theorem d147_4 : decode (pB 147) 4 = .ok (.iconst 1, 1) := by decide +kernel
theorem d147_5 : decode (pB 147) 5 = .ok (.istore_n 3, 1) := by decide +kernel
theorem d147_6 : decode (pB 147) 6 = .ok (.iconst 0, 1) := by decide +kernel
theorem d147_7 : decode (pB 147) 7 = .ok (.istore 4, 2) := by decide +kernel
theorem d147_9 : decode (pB 147) 9 = .ok (.iload 4, 2) := by decide +kernel
theorem d147_11 : decode (pB 147) 11 = .ok (.iload_n 1, 1) := by decide +kernel
theorem d147_12 : decode (pB 147) 12 = .ok (.if_icmp .ge 62, 3) := by decide +kernel
theorem d147_15 : decode (pB 147) 15 = .ok (.iload_n 3, 1) := by decide +kernel
theorem d147_16 : decode (pB 147) 16 = .ok (.ifCond .eq 58, 3) := by decide +kernel
theorem d147_19 : decode (pB 147) 19 = .ok (.aload_n 0, 1) := by decide +kernel
theorem d147_20 : decode (pB 147) 20 = .ok (.getfield 41, 3) := by decide +kernel
theorem d147_23 : decode (pB 147) 23 = .ok (.iload 4, 2) := by decide +kernel
theorem d147_25 : decode (pB 147) 25 = .ok (.iaload, 1) := by decide +kernel
theorem d147_26 : decode (pB 147) 26 = .ok (.aload_n 0, 1) := by decide +kernel
theorem d147_27 : decode (pB 147) 27 = .ok (.getfield 55, 3) := by decide +kernel
theorem d147_30 : decode (pB 147) 30 = .ok (.if_icmp .ge 7, 3) := by decide +kernel
theorem d147_33 : decode (pB 147) 33 = .ok (.iconst 1, 1) := by decide +kernel
theorem d147_34 : decode (pB 147) 34 = .ok (.goto 4, 3) := by decide +kernel
theorem d147_37 : decode (pB 147) 37 = .ok (.iconst 0, 1) := by decide +kernel
theorem d147_38 : decode (pB 147) 38 = .ok (.istore_n 3, 1) := by decide +kernel
theorem d147_39 : decode (pB 147) 39 = .ok (.iload_n 3, 1) := by decide +kernel
theorem d147_40 : decode (pB 147) 40 = .ok (.ifCond .eq 28, 3) := by decide +kernel
theorem d147_43 : decode (pB 147) 43 = .ok (.aload_n 0, 1) := by decide +kernel
theorem d147_44 : decode (pB 147) 44 = .ok (.aload_n 0, 1) := by decide +kernel
theorem d147_45 : decode (pB 147) 45 = .ok (.getfield 41, 3) := by decide +kernel
theorem d147_48 : decode (pB 147) 48 = .ok (.iload 4, 2) := by decide +kernel
theorem d147_50 : decode (pB 147) 50 = .ok (.iaload, 1) := by decide +kernel
theorem d147_51 : decode (pB 147) 51 = .ok (.invokevirtual 62, 3) := by decide +kernel
theorem d147_54 : decode (pB 147) 54 = .ok (.aload_n 0, 1) := by decide +kernel
theorem d147_55 : decode (pB 147) 55 = .ok (.iconst (-1), 1) := by decide +kernel
theorem d147_56 : decode (pB 147) 56 = .ok (.invokevirtual 128, 3) := by decide +kernel
theorem d147_59 : decode (pB 147) 59 = .ok (.ifCond .ne 7, 3) := by decide +kernel
theorem d147_62 : decode (pB 147) 62 = .ok (.iconst 1, 1) := by decide +kernel
theorem d147_63 : decode (pB 147) 63 = .ok (.goto 4, 3) := by decide +kernel
theorem d147_66 : decode (pB 147) 66 = .ok (.iconst 0, 1) := by decide +kernel
theorem d147_67 : decode (pB 147) 67 = .ok (.istore_n 3, 1) := by decide +kernel
theorem d147_68 : decode (pB 147) 68 = .ok (.iinc 4 1, 3) := by decide +kernel
theorem d147_71 : decode (pB 147) 71 = .ok (.goto (-62), 3) := by decide +kernel
theorem d147_74 : decode (pB 147) 74 = .ok (.iload_n 3, 1) := by decide +kernel
theorem d147_75 : decode (pB 147) 75 = .ok (.ifCond .eq 19, 3) := by decide +kernel
theorem d147_78 : decode (pB 147) 78 = .ok (.aload_n 0, 1) := by decide +kernel
theorem d147_79 : decode (pB 147) 79 = .ok (.getfield 55, 3) := by decide +kernel
theorem d147_82 : decode (pB 147) 82 = .ok (.iconst 1, 1) := by decide +kernel
theorem d147_83 : decode (pB 147) 83 = .ok (.iload_n 2, 1) := by decide +kernel
theorem d147_84 : decode (pB 147) 84 = .ok (.iload_n 1, 1) := by decide +kernel
theorem d147_85 : decode (pB 147) 85 = .ok (.isub, 1) := by decide +kernel
theorem d147_86 : decode (pB 147) 86 = .ok (.ishl, 1) := by decide +kernel
theorem d147_87 : decode (pB 147) 87 = .ok (.if_icmp .gt 7, 3) := by decide +kernel
theorem d147_90 : decode (pB 147) 90 = .ok (.iconst 1, 1) := by decide +kernel
theorem d147_91 : decode (pB 147) 91 = .ok (.goto 4, 3) := by decide +kernel
theorem d147_94 : decode (pB 147) 94 = .ok (.iconst 0, 1) := by decide +kernel
theorem d147_95 : decode (pB 147) 95 = .ok (.ireturn, 1) := by decide +kernel
theorem st1_147_3 : p_st1 147 3 = true := by decide +kernel
theorem st1_147_4 : p_st1 147 4 = true := by decide +kernel
/-- RX5.goes -/
def t147_0 : List (Nat × pO) := [(0, o_aload 0 1), (1, o_invV 5 103 0 4), (4, o_push (.int (nI 1)) 5), (5, o_istore 3 6), (6, o_push (.int (nI 0)) 7), (7, o_istore 4 9), (9, o_iload 4 11), (11, o_iload 1 12), (12, o_icge 74 15), (15, o_iload 3 16), (16, o_ifeq 74 19), (19, o_aload 0 20), (20, o_getR 5 17 23), (23, o_iload 4 25), (25, o_iald 26), (26, o_aload 0 27), (27, o_getI 5 14 30), (30, o_icge 37 33), (33, o_push (.int (nI 1)) 34), (34, o_goto 38), (37, o_push (.int (nI 0)) 38), (38, o_istore 3 39), (39, o_iload 3 40), (40, o_ifeq 68 43), (43, o_aload 0 44), (44, o_aload 0 45), (45, o_getR 5 17 48), (48, o_iload 4 50), (50, o_iald 51), (51, o_invV 5 102 1 54), (54, o_aload 0 55), (55, o_push (.int (nM 1)) 56), (56, o_invV 5 108 1 59), (59, o_ifne 66 62), (62, o_push (.int (nI 1)) 63), (63, o_goto 67), (66, o_push (.int (nI 0)) 67), (67, o_istore 3 68), (68, o_iinc 4 (nI 1) 71), (71, o_goto 9)]
theorem ok147_0 : ∀ q ∈ t147_0, p_Z 147 q := List.forall_mem_cons.mpr ⟨⟨s_aload_n d147_0 rfl, tl_aload _ _⟩, List.forall_mem_cons.mpr ⟨⟨q_invV_103 d147_1 wd_758, tl_invV _ _ _ _⟩, List.forall_mem_cons.mpr ⟨⟨s_iconst d147_4 rfl, tl_push _ _⟩, List.forall_mem_cons.mpr ⟨⟨s_istore_n d147_5 rfl st1_147_3, tl_istore _ _⟩, List.forall_mem_cons.mpr ⟨⟨s_iconst d147_6 rfl, tl_push _ _⟩, List.forall_mem_cons.mpr ⟨⟨s_istore d147_7 st1_147_4, tl_istore _ _⟩, List.forall_mem_cons.mpr ⟨⟨s_iload d147_9, tl_iload _ _⟩, List.forall_mem_cons.mpr ⟨⟨s_iload_n d147_11 rfl, tl_iload _ _⟩, List.forall_mem_cons.mpr ⟨⟨s_icge d147_12 rfl, tl_icge _ _⟩, List.forall_mem_cons.mpr ⟨⟨s_iload_n d147_15 rfl, tl_iload _ _⟩, List.forall_mem_cons.mpr ⟨⟨s_ifeq d147_16 rfl, tl_ifeq _ _⟩, List.forall_mem_cons.mpr ⟨⟨s_aload_n d147_19 rfl, tl_aload _ _⟩, List.forall_mem_cons.mpr ⟨⟨f_getR_5_17 d147_20 wd_633, tl_getR _ _ _⟩, List.forall_mem_cons.mpr ⟨⟨s_iload d147_23, tl_iload _ _⟩, List.forall_mem_cons.mpr ⟨⟨s_iald d147_25, tl_iald _⟩, List.forall_mem_cons.mpr ⟨⟨s_aload_n d147_26 rfl, tl_aload _ _⟩, List.forall_mem_cons.mpr ⟨⟨f_getI_5_14 d147_27 wd_630, tl_getI _ _ _⟩, List.forall_mem_cons.mpr ⟨⟨s_icge d147_30 rfl, tl_icge _ _⟩, List.forall_mem_cons.mpr ⟨⟨s_iconst d147_33 rfl, tl_push _ _⟩, List.forall_mem_cons.mpr ⟨⟨s_goto d147_34 rfl, tl_goto _⟩, List.forall_mem_cons.mpr ⟨⟨s_iconst d147_37 rfl, tl_push _ _⟩, List.forall_mem_cons.mpr ⟨⟨s_istore_n d147_38 rfl st1_147_3, tl_istore _ _⟩, List.forall_mem_cons.mpr ⟨⟨s_iload_n d147_39 rfl, tl_iload _ _⟩, List.forall_mem_cons.mpr ⟨⟨s_ifeq d147_40 rfl, tl_ifeq _ _⟩, List.forall_mem_cons.mpr ⟨⟨s_aload_n d147_43 rfl, tl_aload _ _⟩, List.forall_mem_cons.mpr ⟨⟨s_aload_n d147_44 rfl, tl_aload _ _⟩, List.forall_mem_cons.mpr ⟨⟨f_getR_5_17 d147_45 wd_633, tl_getR _ _ _⟩, List.forall_mem_cons.mpr ⟨⟨s_iload d147_48, tl_iload _ _⟩, List.forall_mem_cons.mpr ⟨⟨s_iald d147_50, tl_iald _⟩, List.forall_mem_cons.mpr ⟨⟨q_invV_102 d147_51 wd_762, tl_invV _ _ _ _⟩, List.forall_mem_cons.mpr ⟨⟨s_aload_n d147_54 rfl, tl_aload _ _⟩, List.forall_mem_cons.mpr ⟨⟨s_iconst d147_55 rfl, tl_push _ _⟩, List.forall_mem_cons.mpr ⟨⟨q_invV_108 d147_56 wd_770, tl_invV _ _ _ _⟩, List.forall_mem_cons.mpr ⟨⟨s_ifne d147_59 rfl, tl_ifne _ _⟩, List.forall_mem_cons.mpr ⟨⟨s_iconst d147_62 rfl, tl_push _ _⟩, List.forall_mem_cons.mpr ⟨⟨s_goto d147_63 rfl, tl_goto _⟩, List.forall_mem_cons.mpr ⟨⟨s_iconst d147_66 rfl, tl_push _ _⟩, List.forall_mem_cons.mpr ⟨⟨s_istore_n d147_67 rfl st1_147_3, tl_istore _ _⟩, List.forall_mem_cons.mpr ⟨⟨s_iinc d147_68 rfl st1_147_4, tl_iinc _ _ _⟩, List.forall_mem_cons.mpr ⟨⟨s_goto d147_71 rfl, tl_goto _⟩, fun _ h => absurd h List.not_mem_nil⟩⟩⟩⟩⟩⟩⟩⟩⟩⟩⟩⟩⟩⟩⟩⟩⟩⟩⟩⟩⟩⟩⟩⟩⟩⟩⟩⟩⟩⟩⟩⟩⟩⟩⟩⟩⟩⟩⟩⟩
/-- RX5.goes -/
def t147_1 : List (Nat × pO) := [(74, o_iload 3 75), (75, o_ifeq 94 78), (78, o_aload 0 79), (79, o_getI 5 14 82), (82, o_push (.int (nI 1)) 83), (83, o_iload 2 84), (84, o_iload 1 85), (85, o_isub 86), (86, o_ishl 87), (87, o_icgt 94 90), (90, o_push (.int (nI 1)) 91), (91, o_goto 95), (94, o_push (.int (nI 0)) 95), (95, o_zret)]
theorem ok147_1 : ∀ q ∈ t147_1, p_Z 147 q := List.forall_mem_cons.mpr ⟨⟨s_iload_n d147_74 rfl, tl_iload _ _⟩, List.forall_mem_cons.mpr ⟨⟨s_ifeq d147_75 rfl, tl_ifeq _ _⟩, List.forall_mem_cons.mpr ⟨⟨s_aload_n d147_78 rfl, tl_aload _ _⟩, List.forall_mem_cons.mpr ⟨⟨f_getI_5_14 d147_79 wd_630, tl_getI _ _ _⟩, List.forall_mem_cons.mpr ⟨⟨s_iconst d147_82 rfl, tl_push _ _⟩, List.forall_mem_cons.mpr ⟨⟨s_iload_n d147_83 rfl, tl_iload _ _⟩, List.forall_mem_cons.mpr ⟨⟨s_iload_n d147_84 rfl, tl_iload _ _⟩, List.forall_mem_cons.mpr ⟨⟨s_isub d147_85, tl_isub _⟩, List.forall_mem_cons.mpr ⟨⟨s_ishl d147_86, tl_ishl _⟩, List.forall_mem_cons.mpr ⟨⟨s_icgt d147_87 rfl, tl_icgt _ _⟩, List.forall_mem_cons.mpr ⟨⟨s_iconst d147_90 rfl, tl_push _ _⟩, List.forall_mem_cons.mpr ⟨⟨s_goto d147_91 rfl, tl_goto _⟩, List.forall_mem_cons.mpr ⟨⟨s_iconst d147_94 rfl, tl_push _ _⟩, List.forall_mem_cons.mpr ⟨⟨s_zret d147_95 rfl, tl_zret⟩, fun _ h => absurd h List.not_mem_nil⟩⟩⟩⟩⟩⟩⟩⟩⟩⟩⟩⟩⟩⟩
def t147 : List (Nat × pO) := t147_0 ++ (t147_1)
theorem ok147 : ∀ q ∈ t147, p_Z 147 q := List.forall_mem_append.mpr ⟨ok147_0, ok147_1⟩
theorem d148_0 : decode (pB 148) 0 = .ok (.iconst 0, 1) := by decide +kernel
theorem d148_1 : decode (pB 148) 1 = .ok (.istore_n 2, 1) := by decide +kernel
theorem d148_2 : decode (pB 148) 2 = .ok (.aload_n 0, 1) := by decide +kernel
theorem d148_3 : decode (pB 148) 3 = .ok (.iconst 0, 1) := by decide +kernel
theorem d148_4 : decode (pB 148) 4 = .ok (.iload_n 1, 1) := by decide +kernel
theorem d148_5 : decode (pB 148) 5 = .ok (.invokevirtual 165, 3) := by decide +kernel
theorem d148_8 : decode (pB 148) 8 = .ok (.istore_n 3, 1) := by decide +kernel
theorem d148_9 : decode (pB 148) 9 = .ok (.iload_n 3, 1) := by decide +kernel
theorem d148_10 : decode (pB 148) 10 = .ok (.ifCond .eq 108, 3) := by decide +kernel
theorem d148_13 : decode (pB 148) 13 = .ok (.iload_n 2, 1) := by decide +kernel
theorem d148_14 : decode (pB 148) 14 = .ok (.iload_n 1, 1) := by decide +kernel
theorem d148_15 : decode (pB 148) 15 = .ok (.if_icmp .ne 5, 3) := by decide +kernel
theorem d148_18 : decode (pB 148) 18 = .ok (.iconst 1, 1) := by decide +kernel
theorem d148_19 : decode (pB 148) 19 = .ok (.ireturn, 1) := by decide +kernel
theorem d148_20 : decode (pB 148) 20 = .ok (.aload_n 0, 1) := by decide +kernel
theorem d148_21 : decode (pB 148) 21 = .ok (.getfield 41, 3) := by decide +kernel
theorem d148_24 : decode (pB 148) 24 = .ok (.iload_n 2, 1) := by decide +kernel
theorem d148_25 : decode (pB 148) 25 = .ok (.iconst 0, 1) := by decide +kernel
theorem d148_26 : decode (pB 148) 26 = .ok (.iastore, 1) := by decide +kernel
theorem d148_27 : decode (pB 148) 27 = .ok (.iinc 2 1, 3) := by decide +kernel
theorem d148_30 : decode (pB 148) 30 = .ok (.iconst 0, 1) := by decide +kernel
theorem d148_31 : decode (pB 148) 31 = .ok (.istore 4, 2) := by decide +kernel
theorem d148_33 : decode (pB 148) 33 = .ok (.iload 4, 2) := by decide +kernel
theorem d148_35 : decode (pB 148) 35 = .ok (.ifCond .ne 77, 3) := by decide +kernel
theorem d148_38 : decode (pB 148) 38 = .ok (.iload_n 2, 1) := by decide +kernel
theorem d148_39 : decode (pB 148) 39 = .ok (.ifCond .le 73, 3) := by decide +kernel
theorem d148_42 : decode (pB 148) 42 = .ok (.aload_n 0, 1) := by decide +kernel
theorem d148_43 : decode (pB 148) 43 = .ok (.getfield 41, 3) := by decide +kernel
theorem d148_46 : decode (pB 148) 46 = .ok (.iload_n 2, 1) := by decide +kernel
theorem d148_47 : decode (pB 148) 47 = .ok (.iconst 1, 1) := by decide +kernel
theorem d148_48 : decode (pB 148) 48 = .ok (.isub, 1) := by decide +kernel
theorem d148_49 : decode (pB 148) 49 = .ok (.dup2, 1) := by decide +kernel
theorem d148_50 : decode (pB 148) 50 = .ok (.iaload, 1) := by decide +kernel
theorem d148_51 : decode (pB 148) 51 = .ok (.iconst 1, 1) := by decide +kernel
theorem d148_52 : decode (pB 148) 52 = .ok (.iadd, 1) := by decide +kernel
theorem d148_53 : decode (pB 148) 53 = .ok (.iastore, 1) := by decide +kernel
theorem d148_54 : decode (pB 148) 54 = .ok (.aload_n 0, 1) := by decide +kernel
theorem d148_55 : decode (pB 148) 55 = .ok (.getfield 41, 3) := by decide +kernel
theorem d148_58 : decode (pB 148) 58 = .ok (.iload_n 2, 1) := by decide +kernel
theorem d148_59 : decode (pB 148) 59 = .ok (.iconst 1, 1) := by decide +kernel
theorem d148_60 : decode (pB 148) 60 = .ok (.isub, 1) := by decide +kernel
theorem d148_61 : decode (pB 148) 61 = .ok (.iaload, 1) := by decide +kernel
theorem d148_62 : decode (pB 148) 62 = .ok (.bipush 16, 2) := by decide +kernel
theorem d148_64 : decode (pB 148) 64 = .ok (.if_icmp .ge 16, 3) := by decide +kernel
theorem d148_67 : decode (pB 148) 67 = .ok (.aload_n 0, 1) := by decide +kernel
theorem d148_68 : decode (pB 148) 68 = .ok (.iload_n 2, 1) := by decide +kernel
theorem d148_69 : decode (pB 148) 69 = .ok (.iload_n 1, 1) := by decide +kernel
theorem d148_70 : decode (pB 148) 70 = .ok (.invokevirtual 165, 3) := by decide +kernel
theorem d148_73 : decode (pB 148) 73 = .ok (.ifCond .eq 7, 3) := by decide +kernel
theorem d148_76 : decode (pB 148) 76 = .ok (.iconst 1, 1) := by decide +kernel
theorem d148_77 : decode (pB 148) 77 = .ok (.goto 4, 3) := by decide +kernel
theorem d148_80 : decode (pB 148) 80 = .ok (.iconst 0, 1) := by decide +kernel
theorem d148_81 : decode (pB 148) 81 = .ok (.istore 4, 2) := by decide +kernel
theorem d148_83 : decode (pB 148) 83 = .ok (.iload_n 2, 1) := by decide +kernel
theorem d148_84 : decode (pB 148) 84 = .ok (.iload 4, 2) := by decide +kernel
theorem d148_86 : decode (pB 148) 86 = .ok (.ifCond .ne 20, 3) := by decide +kernel
theorem d148_89 : decode (pB 148) 89 = .ok (.aload_n 0, 1) := by decide +kernel
theorem d148_90 : decode (pB 148) 90 = .ok (.getfield 41, 3) := by decide +kernel
theorem d148_93 : decode (pB 148) 93 = .ok (.iload_n 2, 1) := by decide +kernel
theorem d148_94 : decode (pB 148) 94 = .ok (.iconst 1, 1) := by decide +kernel
theorem d148_95 : decode (pB 148) 95 = .ok (.isub, 1) := by decide +kernel
theorem d148_96 : decode (pB 148) 96 = .ok (.iaload, 1) := by decide +kernel
theorem d148_97 : decode (pB 148) 97 = .ok (.bipush 16, 2) := by decide +kernel
theorem d148_99 : decode (pB 148) 99 = .ok (.if_icmp .lt 7, 3) := by decide +kernel
theorem d148_102 : decode (pB 148) 102 = .ok (.iconst 1, 1) := by decide +kernel
theorem d148_103 : decode (pB 148) 103 = .ok (.goto 4, 3) := by decide +kernel
theorem d148_106 : decode (pB 148) 106 = .ok (.iconst 0, 1) := by decide +kernel
theorem d148_107 : decode (pB 148) 107 = .ok (.isub, 1) := by decide +kernel
theorem d148_108 : decode (pB 148) 108 = .ok (.istore_n 2, 1) := by decide +kernel
theorem d148_109 : decode (pB 148) 109 = .ok (.goto (-76), 3) := by decide +kernel
theorem d148_112 : decode (pB 148) 112 = .ok (.iload 4, 2) := by decide +kernel
theorem d148_114 : decode (pB 148) 114 = .ok (.istore_n 3, 1) := by decide +kernel
theorem d148_115 : decode (pB 148) 115 = .ok (.goto (-106), 3) := by decide +kernel
theorem d148_118 : decode (pB 148) 118 = .ok (.iconst 0, 1) := by decide +kernel
theorem d148_119 : decode (pB 148) 119 = .ok (.ireturn, 1) := by decide +kernel
theorem st1_148_2 : p_st1 148 2 = true := by decide +kernel
theorem st1_148_3 : p_st1 148 3 = true := by decide +kernel
theorem st1_148_4 : p_st1 148 4 = true := by decide +kernel
/-- RX5.canBeOne -/
def t148_0 : List (Nat × pO) := [(0, o_push (.int (nI 0)) 1), (1, o_istore 2 2), (2, o_aload 0 3), (3, o_push (.int (nI 0)) 4), (4, o_iload 1 5), (5, o_invV 5 147 2 8), (8, o_istore 3 9), (9, o_iload 3 10), (10, o_ifeq 118 13), (13, o_iload 2 14), (14, o_iload 1 15), (15, o_icne 20 18), (18, o_push (.int (nI 1)) 19), (19, o_zret), (20, o_aload 0 21), (21, o_getR 5 17 24), (24, o_iload 2 25), (25, o_push (.int (nI 0)) 26), (26, o_iast 27), (27, o_iinc 2 (nI 1) 30), (30, o_push (.int (nI 0)) 31), (31, o_istore 4 33), (33, o_iload 4 35), (35, o_ifne 112 38), (38, o_iload 2 39), (39, o_ifle 112 42), (42, o_aload 0 43), (43, o_getR 5 17 46), (46, o_iload 2 47), (47, o_push (.int (nI 1)) 48), (48, o_isub 49), (49, o_dup2i 50), (50, o_iald 51), (51, o_push (.int (nI 1)) 52), (52, o_iadd 53), (53, o_iast 54), (54, o_aload 0 55), (55, o_getR 5 17 58), (58, o_iload 2 59), (59, o_push (.int (nI 1)) 60)]
theorem ok148_0 : ∀ q ∈ t148_0, p_Z 148 q := List.forall_mem_cons.mpr ⟨⟨s_iconst d148_0 rfl, tl_push _ _⟩, List.forall_mem_cons.mpr ⟨⟨s_istore_n d148_1 rfl st1_148_2, tl_istore _ _⟩, List.forall_mem_cons.mpr ⟨⟨s_aload_n d148_2 rfl, tl_aload _ _⟩, List.forall_mem_cons.mpr ⟨⟨s_iconst d148_3 rfl, tl_push _ _⟩, List.forall_mem_cons.mpr ⟨⟨s_iload_n d148_4 rfl, tl_iload _ _⟩, List.forall_mem_cons.mpr ⟨⟨q_invV_147 d148_5 wd_882, tl_invV _ _ _ _⟩, List.forall_mem_cons.mpr ⟨⟨s_istore_n d148_8 rfl st1_148_3, tl_istore _ _⟩, List.forall_mem_cons.mpr ⟨⟨s_iload_n d148_9 rfl, tl_iload _ _⟩, List.forall_mem_cons.mpr ⟨⟨s_ifeq d148_10 rfl, tl_ifeq _ _⟩, List.forall_mem_cons.mpr ⟨⟨s_iload_n d148_13 rfl, tl_iload _ _⟩, List.forall_mem_cons.mpr ⟨⟨s_iload_n d148_14 rfl, tl_iload _ _⟩, List.forall_mem_cons.mpr ⟨⟨s_icne d148_15 rfl, tl_icne _ _⟩, List.forall_mem_cons.mpr ⟨⟨s_iconst d148_18 rfl, tl_push _ _⟩, List.forall_mem_cons.mpr ⟨⟨s_zret d148_19 rfl, tl_zret⟩, List.forall_mem_cons.mpr ⟨⟨s_aload_n d148_20 rfl, tl_aload _ _⟩, List.forall_mem_cons.mpr ⟨⟨f_getR_5_17 d148_21 wd_633, tl_getR _ _ _⟩, List.forall_mem_cons.mpr ⟨⟨s_iload_n d148_24 rfl, tl_iload _ _⟩, List.forall_mem_cons.mpr ⟨⟨s_iconst d148_25 rfl, tl_push _ _⟩, List.forall_mem_cons.mpr ⟨⟨s_iast d148_26, tl_iast _⟩, List.forall_mem_cons.mpr ⟨⟨s_iinc d148_27 rfl st1_148_2, tl_iinc _ _ _⟩, List.forall_mem_cons.mpr ⟨⟨s_iconst d148_30 rfl, tl_push _ _⟩, List.forall_mem_cons.mpr ⟨⟨s_istore d148_31 st1_148_4, tl_istore _ _⟩, List.forall_mem_cons.mpr ⟨⟨s_iload d148_33, tl_iload _ _⟩, List.forall_mem_cons.mpr ⟨⟨s_ifne d148_35 rfl, tl_ifne _ _⟩, List.forall_mem_cons.mpr ⟨⟨s_iload_n d148_38 rfl, tl_iload _ _⟩, List.forall_mem_cons.mpr ⟨⟨s_ifle d148_39 rfl, tl_ifle _ _⟩, List.forall_mem_cons.mpr ⟨⟨s_aload_n d148_42 rfl, tl_aload _ _⟩, List.forall_mem_cons.mpr ⟨⟨f_getR_5_17 d148_43 wd_633, tl_getR _ _ _⟩, List.forall_mem_cons.mpr ⟨⟨s_iload_n d148_46 rfl, tl_iload _ _⟩, List.forall_mem_cons.mpr ⟨⟨s_iconst d148_47 rfl, tl_push _ _⟩, List.forall_mem_cons.mpr ⟨⟨s_isub d148_48, tl_isub _⟩, List.forall_mem_cons.mpr ⟨⟨s_dup2i d148_49, tl_dup2i _⟩, List.forall_mem_cons.mpr ⟨⟨s_iald d148_50, tl_iald _⟩, List.forall_mem_cons.mpr ⟨⟨s_iconst d148_51 rfl, tl_push _ _⟩, List.forall_mem_cons.mpr ⟨⟨s_iadd d148_52, tl_iadd _⟩, List.forall_mem_cons.mpr ⟨⟨s_iast d148_53, tl_iast _⟩, List.forall_mem_cons.mpr ⟨⟨s_aload_n d148_54 rfl, tl_aload _ _⟩, List.forall_mem_cons.mpr ⟨⟨f_getR_5_17 d148_55 wd_633, tl_getR _ _ _⟩, List.forall_mem_cons.mpr ⟨⟨s_iload_n d148_58 rfl, tl_iload _ _⟩, List.forall_mem_cons.mpr ⟨⟨s_iconst d148_59 rfl, tl_push _ _⟩, fun _ h => absurd h List.not_mem_nil⟩⟩⟩⟩⟩⟩⟩⟩⟩⟩⟩⟩⟩⟩⟩⟩⟩⟩⟩⟩⟩⟩⟩⟩⟩⟩⟩⟩⟩⟩⟩⟩⟩⟩⟩⟩⟩⟩⟩⟩
/-- RX5.canBeOne -/
def t148_1 : List (Nat × pO) := [(60, o_isub 61), (61, o_iald 62), (62, o_push (.int (nI 16)) 64), (64, o_icge 80 67), (67, o_aload 0 68), (68, o_iload 2 69), (69, o_iload 1 70), (70, o_invV 5 147 2 73), (73, o_ifeq 80 76), (76, o_push (.int (nI 1)) 77), (77, o_goto 81), (80, o_push (.int (nI 0)) 81), (81, o_istore 4 83), (83, o_iload 2 84), (84, o_iload 4 86), (86, o_ifne 106 89), (89, o_aload 0 90), (90, o_getR 5 17 93), (93, o_iload 2 94), (94, o_push (.int (nI 1)) 95), (95, o_isub 96), (96, o_iald 97), (97, o_push (.int (nI 16)) 99), (99, o_iclt 106 102), (102, o_push (.int (nI 1)) 103), (103, o_goto 107), (106, o_push (.int (nI 0)) 107), (107, o_isub 108), (108, o_istore 2 109), (109, o_goto 33), (112, o_iload 4 114), (114, o_istore 3 115), (115, o_goto 9), (118, o_push (.int (nI 0)) 119), (119, o_zret)]
theorem ok148_1 : ∀ q ∈ t148_1, p_Z 148 q := List.forall_mem_cons.mpr ⟨⟨s_isub d148_60, tl_isub _⟩, List.forall_mem_cons.mpr ⟨⟨s_iald d148_61, tl_iald _⟩, List.forall_mem_cons.mpr ⟨⟨s_bipush d148_62 rfl, tl_push _ _⟩, List.forall_mem_cons.mpr ⟨⟨s_icge d148_64 rfl, tl_icge _ _⟩, List.forall_mem_cons.mpr ⟨⟨s_aload_n d148_67 rfl, tl_aload _ _⟩, List.forall_mem_cons.mpr ⟨⟨s_iload_n d148_68 rfl, tl_iload _ _⟩, List.forall_mem_cons.mpr ⟨⟨s_iload_n d148_69 rfl, tl_iload _ _⟩, List.forall_mem_cons.mpr ⟨⟨q_invV_147 d148_70 wd_882, tl_invV _ _ _ _⟩, List.forall_mem_cons.mpr ⟨⟨s_ifeq d148_73 rfl, tl_ifeq _ _⟩, List.forall_mem_cons.mpr ⟨⟨s_iconst d148_76 rfl, tl_push _ _⟩, List.forall_mem_cons.mpr ⟨⟨s_goto d148_77 rfl, tl_goto _⟩, List.forall_mem_cons.mpr ⟨⟨s_iconst d148_80 rfl, tl_push _ _⟩, List.forall_mem_cons.mpr ⟨⟨s_istore d148_81 st1_148_4, tl_istore _ _⟩, List.forall_mem_cons.mpr ⟨⟨s_iload_n d148_83 rfl, tl_iload _ _⟩, List.forall_mem_cons.mpr ⟨⟨s_iload d148_84, tl_iload _ _⟩, List.forall_mem_cons.mpr ⟨⟨s_ifne d148_86 rfl, tl_ifne _ _⟩, List.forall_mem_cons.mpr ⟨⟨s_aload_n d148_89 rfl, tl_aload _ _⟩, List.forall_mem_cons.mpr ⟨⟨f_getR_5_17 d148_90 wd_633, tl_getR _ _ _⟩, List.forall_mem_cons.mpr ⟨⟨s_iload_n d148_93 rfl, tl_iload _ _⟩, List.forall_mem_cons.mpr ⟨⟨s_iconst d148_94 rfl, tl_push _ _⟩, List.forall_mem_cons.mpr ⟨⟨s_isub d148_95, tl_isub _⟩, List.forall_mem_cons.mpr ⟨⟨s_iald d148_96, tl_iald _⟩, List.forall_mem_cons.mpr ⟨⟨s_bipush d148_97 rfl, tl_push _ _⟩, List.forall_mem_cons.mpr ⟨⟨s_iclt d148_99 rfl, tl_iclt _ _⟩, List.forall_mem_cons.mpr ⟨⟨s_iconst d148_102 rfl, tl_push _ _⟩, List.forall_mem_cons.mpr ⟨⟨s_goto d148_103 rfl, tl_goto _⟩, List.forall_mem_cons.mpr ⟨⟨s_iconst d148_106 rfl, tl_push _ _⟩, List.forall_mem_cons.mpr ⟨⟨s_isub d148_107, tl_isub _⟩, List.forall_mem_cons.mpr ⟨⟨s_istore_n d148_108 rfl st1_148_2, tl_istore _ _⟩, List.forall_mem_cons.mpr ⟨⟨s_goto d148_109 rfl, tl_goto _⟩, List.forall_mem_cons.mpr ⟨⟨s_iload d148_112, tl_iload _ _⟩, List.forall_mem_cons.mpr ⟨⟨s_istore_n d148_114 rfl st1_148_3, tl_istore _ _⟩, List.forall_mem_cons.mpr ⟨⟨s_goto d148_115 rfl, tl_goto _⟩, List.forall_mem_cons.mpr ⟨⟨s_iconst d148_118 rfl, tl_push _ _⟩, List.forall_mem_cons.mpr ⟨⟨s_zret d148_119 rfl, tl_zret⟩, fun _ h => absurd h List.not_mem_nil⟩⟩⟩⟩⟩⟩⟩⟩⟩⟩⟩⟩⟩⟩⟩⟩⟩⟩⟩⟩⟩⟩⟩⟩⟩⟩⟩⟩⟩⟩⟩⟩⟩⟩⟩
def t148 : List (Nat × pO) := t148_0 ++ (t148_1)
theorem ok148 : ∀ q ∈ t148, p_Z 148 q := List.forall_mem_append.mpr ⟨ok148_0, ok148_1⟩
theorem d149_0 : decode (pB 149) 0 = .ok (.aload_n 0, 1) := by decide +kernel
theorem d149_1 : decode (pB 149) 1 = .ok (.iconst 0, 1) := by decide +kernel
theorem d149_2 : decode (pB 149) 2 = .ok (.putfield 44, 3) := by decide +kernel
theorem d149_5 : decode (pB 149) 5 = .ok (.iconst 0, 1) := by decide +kernel
theorem d149_6 : decode (pB 149) 6 = .ok (.istore_n 1, 1) := by decide +kernel
theorem d149_7 : decode (pB 149) 7 = .ok (.iload_n 1, 1) := by decide +kernel
theorem d149_8 : decode (pB 149) 8 = .ok (.iconst 5, 1) := by decide +kernel
theorem d149_9 : decode (pB 149) 9 = .ok (.aload_n 0, 1) := by decide +kernel
theorem d149_10 : decode (pB 149) 10 = .ok (.getfield 7, 3) := by decide +kernel
theorem d149_13 : decode (pB 149) 13 = .ok (.iconst 4, 1) := by decide +kernel
theorem d149_14 : decode (pB 149) 14 = .ok (.iaload, 1) := by decide +kernel
theorem d149_15 : decode (pB 149) 15 = .ok (.isub, 1) := by decide +kernel
theorem d149_16 : decode (pB 149) 16 = .ok (.if_icmp .gt 19, 3) := by decide +kernel
theorem d149_19 : decode (pB 149) 19 = .ok (.aload_n 0, 1) := by decide +kernel
theorem d149_20 : decode (pB 149) 20 = .ok (.iload_n 1, 1) := by decide +kernel
theorem d149_21 : decode (pB 149) 21 = .ok (.invokevirtual 169, 3) := by decide +kernel
theorem d149_24 : decode (pB 149) 24 = .ok (.ifCond .eq 5, 3) := by decide +kernel
theorem d149_27 : decode (pB 149) 27 = .ok (.iload_n 1, 1) := by decide +kernel
theorem d149_28 : decode (pB 149) 28 = .ok (.ireturn, 1) := by decide +kernel
theorem d149_29 : decode (pB 149) 29 = .ok (.iinc 1 1, 3) := by decide +kernel
theorem d149_32 : decode (pB 149) 32 = .ok (.goto (-25), 3) := by decide +kernel
theorem d149_35 : decode (pB 149) 35 = .ok (.bipush (-6), 2) := by decide +kernel
theorem d149_37 : decode (pB 149) 37 = .ok (.ireturn, 1) := by decide +kernel
theorem st1_149_1 : p_st1 149 1 = true := by decide +kernel
/-- RX5.fewestFolds -/
def t149_0 : List (Nat × pO) := [(0, o_aload 0 1), (1, o_push (.int (nI 0)) 2), (2, o_putI 5 0 5), (5, o_push (.int (nI 0)) 6), (6, o_istore 1 7), (7, o_iload 1 8), (8, o_push (.int (nI 5)) 9), (9, o_aload 0 10), (10, o_getR 5 1 13), (13, o_push (.int (nI 4)) 14), (14, o_iald 15), (15, o_isub 16), (16, o_icgt 35 19), (19, o_aload 0 20), (20, o_iload 1 21), (21, o_invV 5 148 1 24), (24, o_ifeq 29 27), (27, o_iload 1 28), (28, o_iret), (29, o_iinc 1 (nI 1) 32), (32, o_goto 7), (35, o_push (.int (nM 6)) 37), (37, o_iret)]
theorem ok149_0 : ∀ q ∈ t149_0, p_Z 149 q := List.forall_mem_cons.mpr ⟨⟨s_aload_n d149_0 rfl, tl_aload _ _⟩, List.forall_mem_cons.mpr ⟨⟨s_iconst d149_1 rfl, tl_push _ _⟩, List.forall_mem_cons.mpr ⟨⟨f_putI_5_0 d149_2 wd_616, tl_putI _ _ _⟩, List.forall_mem_cons.mpr ⟨⟨s_iconst d149_5 rfl, tl_push _ _⟩, List.forall_mem_cons.mpr ⟨⟨s_istore_n d149_6 rfl st1_149_1, tl_istore _ _⟩, List.forall_mem_cons.mpr ⟨⟨s_iload_n d149_7 rfl, tl_iload _ _⟩, List.forall_mem_cons.mpr ⟨⟨s_iconst d149_8 rfl, tl_push _ _⟩, List.forall_mem_cons.mpr ⟨⟨s_aload_n d149_9 rfl, tl_aload _ _⟩, List.forall_mem_cons.mpr ⟨⟨f_getR_5_1 d149_10 wd_617, tl_getR _ _ _⟩, List.forall_mem_cons.mpr ⟨⟨s_iconst d149_13 rfl, tl_push _ _⟩, List.forall_mem_cons.mpr ⟨⟨s_iald d149_14, tl_iald _⟩, List.forall_mem_cons.mpr ⟨⟨s_isub d149_15, tl_isub _⟩, List.forall_mem_cons.mpr ⟨⟨s_icgt d149_16 rfl, tl_icgt _ _⟩, List.forall_mem_cons.mpr ⟨⟨s_aload_n d149_19 rfl, tl_aload _ _⟩, List.forall_mem_cons.mpr ⟨⟨s_iload_n d149_20 rfl, tl_iload _ _⟩, List.forall_mem_cons.mpr ⟨⟨q_invV_148 d149_21 wd_878, tl_invV _ _ _ _⟩, List.forall_mem_cons.mpr ⟨⟨s_ifeq d149_24 rfl, tl_ifeq _ _⟩, List.forall_mem_cons.mpr ⟨⟨s_iload_n d149_27 rfl, tl_iload _ _⟩, List.forall_mem_cons.mpr ⟨⟨s_iret d149_28 rfl, tl_iret⟩, List.forall_mem_cons.mpr ⟨⟨s_iinc d149_29 rfl st1_149_1, tl_iinc _ _ _⟩, List.forall_mem_cons.mpr ⟨⟨s_goto d149_32 rfl, tl_goto _⟩, List.forall_mem_cons.mpr ⟨⟨s_bipush d149_35 rfl, tl_push _ _⟩, List.forall_mem_cons.mpr ⟨⟨s_iret d149_37 rfl, tl_iret⟩, fun _ h => absurd h List.not_mem_nil⟩⟩⟩⟩⟩⟩⟩⟩⟩⟩⟩⟩⟩⟩⟩⟩⟩⟩⟩⟩⟩⟩⟩
def t149 : List (Nat × pO) := t149_0
theorem ok149 : ∀ q ∈ t149, p_Z 149 q := ok149_0
theorem d150_0 : decode (pB 150) 0 = .ok (.aload_n 0, 1) := by decide +kernel
theorem d150_1 : decode (pB 150) 1 = .ok (.iconst 0, 1) := by decide +kernel
theorem d150_2 : decode (pB 150) 2 = .ok (.putfield 44, 3) := by decide +kernel
theorem d150_5 : decode (pB 150) 5 = .ok (.iconst 0, 1) := by decide +kernel
theorem d150_6 : decode (pB 150) 6 = .ok (.istore_n 3, 1) := by decide +kernel
theorem d150_7 : decode (pB 150) 7 = .ok (.lload_n 1, 1) := by decide +kernel
theorem d150_8 : decode (pB 150) 8 = .ok (.lstore 4, 2) := by decide +kernel
theorem d150_10 : decode (pB 150) 10 = .ok (.iconst 1, 1) := by decide +kernel
theorem d150_11 : decode (pB 150) 11 = .ok (.istore 6, 2) := by decide +kernel
theorem d150_13 : decode (pB 150) 13 = .ok (.iload_n 3, 1) := by decide +kernel
theorem d150_14 : decode (pB 150) 14 = .ok (.bipush 8, 2) := by decide +kernel
theorem d150_16 : decode (pB 150) 16 = .ok (.if_icmp .ge 56, 3) := by decide +kernel
theorem d150_19 : decode (pB 150) 19 = .ok (.lload 4, 2) := by decide +kernel
theorem d150_21 : decode (pB 150) 21 = .ok (.ldc2_w 172, 3) := by decide +kernel
theorem d150_24 : decode (pB 150) 24 = .ok (.land, 1) := by decide +kernel
theorem d150_25 : decode (pB 150) 25 = .ok (.lconst 0, 1) := by decide +kernel
theorem d150_26 : decode (pB 150) 26 = .ok (.lcmp, 1) := by decide +kernel
theorem d150_27 : decode (pB 150) 27 = .ok (.ifCond .eq 45, 3) := by decide +kernel
theorem d150_30 : decode (pB 150) 30 = .ok (.iload 6, 2) := by decide +kernel
theorem d150_32 : decode (pB 150) 32 = .ok (.ifCond .eq 24, 3) := by decide +kernel
theorem d150_35 : decode (pB 150) 35 = .ok (.lload 4, 2) := by decide +kernel
theorem d150_37 : decode (pB 150) 37 = .ok (.ldc2_w 172, 3) := by decide +kernel
theorem d150_40 : decode (pB 150) 40 = .ok (.land, 1) := by decide +kernel
theorem d150_41 : decode (pB 150) 41 = .ok (.l2i, 1) := by decide +kernel
theorem d150_42 : decode (pB 150) 42 = .ok (.bipush 33, 2) := by decide +kernel
theorem d150_44 : decode (pB 150) 44 = .ok (.bipush 126, 2) := by decide +kernel
theorem d150_46 : decode (pB 150) 46 = .ok (.invokestatic 48, 3) := by decide +kernel
theorem d150_49 : decode (pB 150) 49 = .ok (.ifCond .eq 7, 3) := by decide +kernel
theorem d150_52 : decode (pB 150) 52 = .ok (.iconst 1, 1) := by decide +kernel
theorem d150_53 : decode (pB 150) 53 = .ok (.goto 4, 3) := by decide +kernel
theorem d150_56 : decode (pB 150) 56 = .ok (.iconst 0, 1) := by decide +kernel
theorem d150_57 : decode (pB 150) 57 = .ok (.istore 6, 2) := by decide +kernel
theorem d150_59 : decode (pB 150) 59 = .ok (.lload 4, 2) := by decide +kernel
theorem d150_61 : decode (pB 150) 61 = .ok (.bipush 8, 2) := by decide +kernel
theorem d150_63 : decode (pB 150) 63 = .ok (.lushr, 1) := by decide +kernel
theorem d150_64 : decode (pB 150) 64 = .ok (.lstore 4, 2) := by decide +kernel
theorem d150_66 : decode (pB 150) 66 = .ok (.iinc 3 1, 3) := by decide +kernel
theorem d150_69 : decode (pB 150) 69 = .ok (.goto (-56), 3) := by decide +kernel
theorem d150_72 : decode (pB 150) 72 = .ok (.iload_n 3, 1) := by decide +kernel
theorem d150_73 : decode (pB 150) 73 = .ok (.ifCond .eq 15, 3) := by decide +kernel
theorem d150_76 : decode (pB 150) 76 = .ok (.iload 6, 2) := by decide +kernel
theorem d150_78 : decode (pB 150) 78 = .ok (.ifCond .eq 10, 3) := by decide +kernel
theorem d150_81 : decode (pB 150) 81 = .ok (.lload 4, 2) := by decide +kernel
theorem d150_83 : decode (pB 150) 83 = .ok (.lconst 0, 1) := by decide +kernel
theorem d150_84 : decode (pB 150) 84 = .ok (.lcmp, 1) := by decide +kernel
theorem d150_85 : decode (pB 150) 85 = .ok (.ifCond .eq 6, 3) := by decide +kernel
theorem d150_88 : decode (pB 150) 88 = .ok (.bipush (-2), 2) := by decide +kernel
theorem d150_90 : decode (pB 150) 90 = .ok (.ireturn, 1) := by decide +kernel
theorem d150_91 : decode (pB 150) 91 = .ok (.aload_n 0, 1) := by decide +kernel
theorem d150_92 : decode (pB 150) 92 = .ok (.getfield 140, 3) := by decide +kernel
theorem d150_95 : decode (pB 150) 95 = .ok (.iload_n 3, 1) := by decide +kernel
theorem d150_96 : decode (pB 150) 96 = .ok (.iadd, 1) := by decide +kernel
theorem d150_97 : decode (pB 150) 97 = .ok (.bipush 80, 2) := by decide +kernel
theorem d150_99 : decode (pB 150) 99 = .ok (.if_icmp .le 6, 3) := by decide +kernel
theorem d150_102 : decode (pB 150) 102 = .ok (.bipush (-4), 2) := by decide +kernel
theorem d150_104 : decode (pB 150) 104 = .ok (.ireturn, 1) := by decide +kernel
theorem d150_105 : decode (pB 150) 105 = .ok (.iconst 0, 1) := by decide +kernel
theorem d150_106 : decode (pB 150) 106 = .ok (.istore 7, 2) := by decide +kernel
theorem d150_108 : decode (pB 150) 108 = .ok (.iload 7, 2) := by decide +kernel
theorem d150_110 : decode (pB 150) 110 = .ok (.iload_n 3, 1) := by decide +kernel
theorem d150_111 : decode (pB 150) 111 = .ok (.if_icmp .ge 37, 3) := by decide +kernel
theorem d150_114 : decode (pB 150) 114 = .ok (.aload_n 0, 1) := by decide +kernel
theorem d150_115 : decode (pB 150) 115 = .ok (.getfield 23, 3) := by decide +kernel
theorem d150_118 : decode (pB 150) 118 = .ok (.aload_n 0, 1) := by decide +kernel
theorem d150_119 : decode (pB 150) 119 = .ok (.getfield 140, 3) := by decide +kernel
theorem d150_122 : decode (pB 150) 122 = .ok (.iload 7, 2) := by decide +kernel
theorem d150_124 : decode (pB 150) 124 = .ok (.iadd, 1) := by decide +kernel
theorem d150_125 : decode (pB 150) 125 = .ok (.lload_n 1, 1) := by decide +kernel
theorem d150_126 : decode (pB 150) 126 = .ok (.bipush 8, 2) := by decide +kernel
theorem d150_128 : decode (pB 150) 128 = .ok (.iload_n 3, 1) := by decide +kernel
theorem d150_129 : decode (pB 150) 129 = .ok (.iconst 1, 1) := by decide +kernel
theorem d150_130 : decode (pB 150) 130 = .ok (.isub, 1) := by decide +kernel
theorem d150_131 : decode (pB 150) 131 = .ok (.iload 7, 2) := by decide +kernel
theorem d150_133 : decode (pB 150) 133 = .ok (.isub, 1) := by decide +kernel
theorem d150_134 : decode (pB 150) 134 = .ok (.imul, 1) := by decide +kernel
theorem d150_135 : decode (pB 150) 135 = .ok (.lushr, 1) := by decide +kernel
theorem d150_136 : decode (pB 150) 136 = .ok (.ldc2_w 172, 3) := by decide +kernel
theorem d150_139 : decode (pB 150) 139 = .ok (.land, 1) := by decide +kernel
theorem d150_140 : decode (pB 150) 140 = .ok (.l2i, 1) := by decide +kernel
theorem d150_141 : decode (pB 150) 141 = .ok (.iastore, 1) := by decide +kernel
theorem d150_142 : decode (pB 150) 142 = .ok (.iinc 7 1, 3) := by decide +kernel
theorem d150_145 : decode (pB 150) 145 = .ok (.goto (-37), 3) := by decide +kernel
theorem d150_148 : decode (pB 150) 148 = .ok (.aload_n 0, 1) := by decide +kernel
theorem d150_149 : decode (pB 150) 149 = .ok (.dup, 1) := by decide +kernel
theorem d150_150 : decode (pB 150) 150 = .ok (.getfield 140, 3) := by decide +kernel
theorem d150_153 : decode (pB 150) 153 = .ok (.iload_n 3, 1) := by decide +kernel
theorem d150_154 : decode (pB 150) 154 = .ok (.iadd, 1) := by decide +kernel
theorem d150_155 : decode (pB 150) 155 = .ok (.putfield 140, 3) := by decide +kernel
theorem d150_158 : decode (pB 150) 158 = .ok (.aload_n 0, 1) := by decide +kernel
theorem d150_159 : decode (pB 150) 159 = .ok (.getfield 140, 3) := by decide +kernel
theorem d150_162 : decode (pB 150) 162 = .ok (.ireturn, 1) := by decide +kernel
theorem st1_150_3 : p_st1 150 3 = true := by decide +kernel
theorem st1_150_6 : p_st1 150 6 = true := by decide +kernel
theorem st1_150_7 : p_st1 150 7 = true := by decide +kernel
theorem st2_150_4 : p_st2 150 4 = true := by decide +kernel
/-- RX5.put -/
def t150_0 : List (Nat × pO) := [(0, o_aload 0 1), (1, o_push (.int (nI 0)) 2), (2, o_putI 5 0 5), (5, o_push (.int (nI 0)) 6), (6, o_istore 3 7), (7, o_lload 1 8), (8, o_lstore 4 10), (10, o_push (.int (nI 1)) 11), (11, o_istore 6 13), (13, o_iload 3 14), (14, o_push (.int (nI 8)) 16), (16, o_icge 72 19), (19, o_lload 4 21), (21, o_push (.long (255 : Int64)) 24), (24, o_land 25), (25, o_push (.long 0) 26), (26, o_lcmp 27), (27, o_ifeq 72 30), (30, o_iload 6 32), (32, o_ifeq 56 35), (35, o_lload 4 37), (37, o_push (.long (255 : Int64)) 40), (40, o_land 41), (41, o_l2i 42), (42, o_push (.int (nI 33)) 44), (44, o_push (.int (nI 126)) 46), (46, o_invS 96 3 49), (49, o_ifeq 56 52), (52, o_push (.int (nI 1)) 53), (53, o_goto 57), (56, o_push (.int (nI 0)) 57), (57, o_istore 6 59), (59, o_lload 4 61), (61, o_push (.int (nI 8)) 63), (63, o_lushr 64), (64, o_lstore 4 66), (66, o_iinc 3 (nI 1) 69), (69, o_goto 13), (72, o_iload 3 73), (73, o_ifeq 88 76)]
theorem ok150_0 : ∀ q ∈ t150_0, p_Z 150 q := List.forall_mem_cons.mpr ⟨⟨s_aload_n d150_0 rfl, tl_aload _ _⟩, List.forall_mem_cons.mpr ⟨⟨s_iconst d150_1 rfl, tl_push _ _⟩, List.forall_mem_cons.mpr ⟨⟨f_putI_5_0 d150_2 wd_616, tl_putI _ _ _⟩, List.forall_mem_cons.mpr ⟨⟨s_iconst d150_5 rfl, tl_push _ _⟩, List.forall_mem_cons.mpr ⟨⟨s_istore_n d150_6 rfl st1_150_3, tl_istore _ _⟩, List.forall_mem_cons.mpr ⟨⟨s_lload_n d150_7 rfl, tl_lload _ _⟩, List.forall_mem_cons.mpr ⟨⟨s_lstore d150_8 st2_150_4, tl_lstore _ _⟩, List.forall_mem_cons.mpr ⟨⟨s_iconst d150_10 rfl, tl_push _ _⟩, List.forall_mem_cons.mpr ⟨⟨s_istore d150_11 st1_150_6, tl_istore _ _⟩, List.forall_mem_cons.mpr ⟨⟨s_iload_n d150_13 rfl, tl_iload _ _⟩, List.forall_mem_cons.mpr ⟨⟨s_bipush d150_14 rfl, tl_push _ _⟩, List.forall_mem_cons.mpr ⟨⟨s_icge d150_16 rfl, tl_icge _ _⟩, List.forall_mem_cons.mpr ⟨⟨s_lload d150_19, tl_lload _ _⟩, List.forall_mem_cons.mpr ⟨⟨s_ldc2 wd_890 d150_21, tl_push _ _⟩, List.forall_mem_cons.mpr ⟨⟨s_land d150_24, tl_land _⟩, List.forall_mem_cons.mpr ⟨⟨s_lconst d150_25 rfl, tl_push _ _⟩, List.forall_mem_cons.mpr ⟨⟨s_lcmp d150_26, tl_lcmp _⟩, List.forall_mem_cons.mpr ⟨⟨s_ifeq d150_27 rfl, tl_ifeq _ _⟩, List.forall_mem_cons.mpr ⟨⟨s_iload d150_30, tl_iload _ _⟩, List.forall_mem_cons.mpr ⟨⟨s_ifeq d150_32 rfl, tl_ifeq _ _⟩, List.forall_mem_cons.mpr ⟨⟨s_lload d150_35, tl_lload _ _⟩, List.forall_mem_cons.mpr ⟨⟨s_ldc2 wd_890 d150_37, tl_push _ _⟩, List.forall_mem_cons.mpr ⟨⟨s_land d150_40, tl_land _⟩, List.forall_mem_cons.mpr ⟨⟨s_l2i d150_41, tl_l2i _⟩, List.forall_mem_cons.mpr ⟨⟨s_bipush d150_42 rfl, tl_push _ _⟩, List.forall_mem_cons.mpr ⟨⟨s_bipush d150_44 rfl, tl_push _ _⟩, List.forall_mem_cons.mpr ⟨⟨q_invS_96 d150_46 wd_675, tl_invS _ _ _⟩, List.forall_mem_cons.mpr ⟨⟨s_ifeq d150_49 rfl, tl_ifeq _ _⟩, List.forall_mem_cons.mpr ⟨⟨s_iconst d150_52 rfl, tl_push _ _⟩, List.forall_mem_cons.mpr ⟨⟨s_goto d150_53 rfl, tl_goto _⟩, List.forall_mem_cons.mpr ⟨⟨s_iconst d150_56 rfl, tl_push _ _⟩, List.forall_mem_cons.mpr ⟨⟨s_istore d150_57 st1_150_6, tl_istore _ _⟩, List.forall_mem_cons.mpr ⟨⟨s_lload d150_59, tl_lload _ _⟩, List.forall_mem_cons.mpr ⟨⟨s_bipush d150_61 rfl, tl_push _ _⟩, List.forall_mem_cons.mpr ⟨⟨s_lushr d150_63, tl_lushr _⟩, List.forall_mem_cons.mpr ⟨⟨s_lstore d150_64 st2_150_4, tl_lstore _ _⟩, List.forall_mem_cons.mpr ⟨⟨s_iinc d150_66 rfl st1_150_3, tl_iinc _ _ _⟩, List.forall_mem_cons.mpr ⟨⟨s_goto d150_69 rfl, tl_goto _⟩, List.forall_mem_cons.mpr ⟨⟨s_iload_n d150_72 rfl, tl_iload _ _⟩, List.forall_mem_cons.mpr ⟨⟨s_ifeq d150_73 rfl, tl_ifeq _ _⟩, fun _ h => absurd h List.not_mem_nil⟩⟩⟩⟩⟩⟩⟩⟩⟩⟩⟩⟩⟩⟩⟩⟩⟩⟩⟩⟩⟩⟩⟩⟩⟩⟩⟩⟩⟩⟩⟩⟩⟩⟩⟩⟩⟩⟩⟩⟩
/-- RX5.put -/
def t150_1 : List (Nat × pO) := [(76, o_iload 6 78), (78, o_ifeq 88 81), (81, o_lload 4 83), (83, o_push (.long 0) 84), (84, o_lcmp 85), (85, o_ifeq 91 88), (88, o_push (.int (nM 2)) 90), (90, o_iret), (91, o_aload 0 92), (92, o_getI 5 7 95), (95, o_iload 3 96), (96, o_iadd 97), (97, o_push (.int (nI 80)) 99), (99, o_icle 105 102), (102, o_push (.int (nM 4)) 104), (104, o_iret), (105, o_push (.int (nI 0)) 106), (106, o_istore 7 108), (108, o_iload 7 110), (110, o_iload 3 111), (111, o_icge 148 114), (114, o_aload 0 115), (115, o_getR 5 6 118), (118, o_aload 0 119), (119, o_getI 5 7 122), (122, o_iload 7 124), (124, o_iadd 125), (125, o_lload 1 126), (126, o_push (.int (nI 8)) 128), (128, o_iload 3 129), (129, o_push (.int (nI 1)) 130), (130, o_isub 131), (131, o_iload 7 133), (133, o_isub 134), (134, o_imul 135), (135, o_lushr 136), (136, o_push (.long (255 : Int64)) 139), (139, o_land 140), (140, o_l2i 141), (141, o_iast 142)]
theorem ok150_1 : ∀ q ∈ t150_1, p_Z 150 q := List.forall_mem_cons.mpr ⟨⟨s_iload d150_76, tl_iload _ _⟩, List.forall_mem_cons.mpr ⟨⟨s_ifeq d150_78 rfl, tl_ifeq _ _⟩, List.forall_mem_cons.mpr ⟨⟨s_lload d150_81, tl_lload _ _⟩, List.forall_mem_cons.mpr ⟨⟨s_lconst d150_83 rfl, tl_push _ _⟩, List.forall_mem_cons.mpr ⟨⟨s_lcmp d150_84, tl_lcmp _⟩, List.forall_mem_cons.mpr ⟨⟨s_ifeq d150_85 rfl, tl_ifeq _ _⟩, List.forall_mem_cons.mpr ⟨⟨s_bipush d150_88 rfl, tl_push _ _⟩, List.forall_mem_cons.mpr ⟨⟨s_iret d150_90 rfl, tl_iret⟩, List.forall_mem_cons.mpr ⟨⟨s_aload_n d150_91 rfl, tl_aload _ _⟩, List.forall_mem_cons.mpr ⟨⟨f_getI_5_7 d150_92 wd_623, tl_getI _ _ _⟩, List.forall_mem_cons.mpr ⟨⟨s_iload_n d150_95 rfl, tl_iload _ _⟩, List.forall_mem_cons.mpr ⟨⟨s_iadd d150_96, tl_iadd _⟩, List.forall_mem_cons.mpr ⟨⟨s_bipush d150_97 rfl, tl_push _ _⟩, List.forall_mem_cons.mpr ⟨⟨s_icle d150_99 rfl, tl_icle _ _⟩, List.forall_mem_cons.mpr ⟨⟨s_bipush d150_102 rfl, tl_push _ _⟩, List.forall_mem_cons.mpr ⟨⟨s_iret d150_104 rfl, tl_iret⟩, List.forall_mem_cons.mpr ⟨⟨s_iconst d150_105 rfl, tl_push _ _⟩, List.forall_mem_cons.mpr ⟨⟨s_istore d150_106 st1_150_7, tl_istore _ _⟩, List.forall_mem_cons.mpr ⟨⟨s_iload d150_108, tl_iload _ _⟩, List.forall_mem_cons.mpr ⟨⟨s_iload_n d150_110 rfl, tl_iload _ _⟩, List.forall_mem_cons.mpr ⟨⟨s_icge d150_111 rfl, tl_icge _ _⟩, List.forall_mem_cons.mpr ⟨⟨s_aload_n d150_114 rfl, tl_aload _ _⟩, List.forall_mem_cons.mpr ⟨⟨f_getR_5_6 d150_115 wd_622, tl_getR _ _ _⟩, List.forall_mem_cons.mpr ⟨⟨s_aload_n d150_118 rfl, tl_aload _ _⟩, List.forall_mem_cons.mpr ⟨⟨f_getI_5_7 d150_119 wd_623, tl_getI _ _ _⟩, List.forall_mem_cons.mpr ⟨⟨s_iload d150_122, tl_iload _ _⟩, List.forall_mem_cons.mpr ⟨⟨s_iadd d150_124, tl_iadd _⟩, List.forall_mem_cons.mpr ⟨⟨s_lload_n d150_125 rfl, tl_lload _ _⟩, List.forall_mem_cons.mpr ⟨⟨s_bipush d150_126 rfl, tl_push _ _⟩, List.forall_mem_cons.mpr ⟨⟨s_iload_n d150_128 rfl, tl_iload _ _⟩, List.forall_mem_cons.mpr ⟨⟨s_iconst d150_129 rfl, tl_push _ _⟩, List.forall_mem_cons.mpr ⟨⟨s_isub d150_130, tl_isub _⟩, List.forall_mem_cons.mpr ⟨⟨s_iload d150_131, tl_iload _ _⟩, List.forall_mem_cons.mpr ⟨⟨s_isub d150_133, tl_isub _⟩, List.forall_mem_cons.mpr ⟨⟨s_imul d150_134, tl_imul _⟩, List.forall_mem_cons.mpr ⟨⟨s_lushr d150_135, tl_lushr _⟩, List.forall_mem_cons.mpr ⟨⟨s_ldc2 wd_890 d150_136, tl_push _ _⟩, List.forall_mem_cons.mpr ⟨⟨s_land d150_139, tl_land _⟩, List.forall_mem_cons.mpr ⟨⟨s_l2i d150_140, tl_l2i _⟩, List.forall_mem_cons.mpr ⟨⟨s_iast d150_141, tl_iast _⟩, fun _ h => absurd h List.not_mem_nil⟩⟩⟩⟩⟩⟩⟩⟩⟩⟩⟩⟩⟩⟩⟩⟩⟩⟩⟩⟩⟩⟩⟩⟩⟩⟩⟩⟩⟩⟩⟩⟩⟩⟩⟩⟩⟩⟩⟩⟩
/-- RX5.put -/
def t150_2 : List (Nat × pO) := [(142, o_iinc 7 (nI 1) 145), (145, o_goto 108), (148, o_aload 0 149), (149, o_dupr 150), (150, o_getI 5 7 153), (153, o_iload 3 154), (154, o_iadd 155), (155, o_putI 5 7 158), (158, o_aload 0 159), (159, o_getI 5 7 162), (162, o_iret)]
theorem ok150_2 : ∀ q ∈ t150_2, p_Z 150 q := List.forall_mem_cons.mpr ⟨⟨s_iinc d150_142 rfl st1_150_7, tl_iinc _ _ _⟩, List.forall_mem_cons.mpr ⟨⟨s_goto d150_145 rfl, tl_goto _⟩, List.forall_mem_cons.mpr ⟨⟨s_aload_n d150_148 rfl, tl_aload _ _⟩, List.forall_mem_cons.mpr ⟨⟨s_dupr d150_149, tl_dupr _⟩, List.forall_mem_cons.mpr ⟨⟨f_getI_5_7 d150_150 wd_623, tl_getI _ _ _⟩, List.forall_mem_cons.mpr ⟨⟨s_iload_n d150_153 rfl, tl_iload _ _⟩, List.forall_mem_cons.mpr ⟨⟨s_iadd d150_154, tl_iadd _⟩, List.forall_mem_cons.mpr ⟨⟨f_putI_5_7 d150_155 wd_623, tl_putI _ _ _⟩, List.forall_mem_cons.mpr ⟨⟨s_aload_n d150_158 rfl, tl_aload _ _⟩, List.forall_mem_cons.mpr ⟨⟨f_getI_5_7 d150_159 wd_623, tl_getI _ _ _⟩, List.forall_mem_cons.mpr ⟨⟨s_iret d150_162 rfl, tl_iret⟩, fun _ h => absurd h List.not_mem_nil⟩⟩⟩⟩⟩⟩⟩⟩⟩⟩⟩
def t150 : List (Nat × pO) := t150_0 ++ (t150_1 ++ (t150_2))
theorem ok150 : ∀ q ∈ t150, p_Z 150 q := List.forall_mem_append.mpr ⟨ok150_0, List.forall_mem_append.mpr ⟨ok150_1, ok150_2⟩⟩
theorem d151_0 : decode (pB 151) 0 = .ok (.aload_n 0, 1) := by decide +kernel
theorem d151_1 : decode (pB 151) 1 = .ok (.iconst 0, 1) := by decide +kernel
theorem d151_2 : decode (pB 151) 2 = .ok (.putfield 44, 3) := by decide +kernel
theorem d151_5 : decode (pB 151) 5 = .ok (.aload_n 0, 1) := by decide +kernel
theorem d151_6 : decode (pB 151) 6 = .ok (.getfield 140, 3) := by decide +kernel
theorem d151_9 : decode (pB 151) 9 = .ok (.istore_n 1, 1) := by decide +kernel
theorem d151_10 : decode (pB 151) 10 = .ok (.aload_n 0, 1) := by decide +kernel
theorem d151_11 : decode (pB 151) 11 = .ok (.iconst 0, 1) := by decide +kernel
theorem d151_12 : decode (pB 151) 12 = .ok (.putfield 140, 3) := by decide +kernel
theorem d151_15 : decode (pB 151) 15 = .ok (.iload_n 1, 1) := by decide +kernel
theorem d151_16 : decode (pB 151) 16 = .ok (.ireturn, 1) := by decide +kernel
theorem st1_151_1 : p_st1 151 1 = true := by decide +kernel
/-- RX5.wipe -/
def t151_0 : List (Nat × pO) := [(0, o_aload 0 1), (1, o_push (.int (nI 0)) 2), (2, o_putI 5 0 5), (5, o_aload 0 6), (6, o_getI 5 7 9), (9, o_istore 1 10), (10, o_aload 0 11), (11, o_push (.int (nI 0)) 12), (12, o_putI 5 7 15), (15, o_iload 1 16), (16, o_iret)]
theorem ok151_0 : ∀ q ∈ t151_0, p_Z 151 q := List.forall_mem_cons.mpr ⟨⟨s_aload_n d151_0 rfl, tl_aload _ _⟩, List.forall_mem_cons.mpr ⟨⟨s_iconst d151_1 rfl, tl_push _ _⟩, List.forall_mem_cons.mpr ⟨⟨f_putI_5_0 d151_2 wd_616, tl_putI _ _ _⟩, List.forall_mem_cons.mpr ⟨⟨s_aload_n d151_5 rfl, tl_aload _ _⟩, List.forall_mem_cons.mpr ⟨⟨f_getI_5_7 d151_6 wd_623, tl_getI _ _ _⟩, List.forall_mem_cons.mpr ⟨⟨s_istore_n d151_9 rfl st1_151_1, tl_istore _ _⟩, List.forall_mem_cons.mpr ⟨⟨s_aload_n d151_10 rfl, tl_aload _ _⟩, List.forall_mem_cons.mpr ⟨⟨s_iconst d151_11 rfl, tl_push _ _⟩, List.forall_mem_cons.mpr ⟨⟨f_putI_5_7 d151_12 wd_623, tl_putI _ _ _⟩, List.forall_mem_cons.mpr ⟨⟨s_iload_n d151_15 rfl, tl_iload _ _⟩, List.forall_mem_cons.mpr ⟨⟨s_iret d151_16 rfl, tl_iret⟩, fun _ h => absurd h List.not_mem_nil⟩⟩⟩⟩⟩⟩⟩⟩⟩⟩⟩
def t151 : List (Nat × pO) := t151_0
theorem ok151 : ∀ q ∈ t151, p_Z 151 q := ok151_0
theorem d152_0 : decode (pB 152) 0 = .ok (.aload_n 0, 1) := by decide +kernel
theorem d152_1 : decode (pB 152) 1 = .ok (.getfield 174, 3) := by decide +kernel
theorem d152_4 : decode (pB 152) 4 = .ok (.aload_n 0, 1) := by decide +kernel
theorem d152_5 : decode (pB 152) 5 = .ok (.getfield 140, 3) := by decide +kernel
theorem d152_8 : decode (pB 152) 8 = .ok (.if_icmp .ge 15, 3) := by decide +kernel
theorem d152_11 : decode (pB 152) 11 = .ok (.aload_n 0, 1) := by decide +kernel
theorem d152_12 : decode (pB 152) 12 = .ok (.getfield 23, 3) := by decide +kernel
theorem d152_15 : decode (pB 152) 15 = .ok (.aload_n 0, 1) := by decide +kernel
theorem d152_16 : decode (pB 152) 16 = .ok (.getfield 174, 3) := by decide +kernel
theorem d152_19 : decode (pB 152) 19 = .ok (.iaload, 1) := by decide +kernel
theorem d152_20 : decode (pB 152) 20 = .ok (.goto 4, 3) := by decide +kernel
theorem d152_23 : decode (pB 152) 23 = .ok (.iconst 0, 1) := by decide +kernel
theorem d152_24 : decode (pB 152) 24 = .ok (.ireturn, 1) := by decide +kernel
/-- RX5.letter -/
def t152_0 : List (Nat × pO) := [(0, o_aload 0 1), (1, o_getI 5 8 4), (4, o_aload 0 5), (5, o_getI 5 7 8), (8, o_icge 23 11), (11, o_aload 0 12), (12, o_getR 5 6 15), (15, o_aload 0 16), (16, o_getI 5 8 19), (19, o_iald 20), (20, o_goto 24), (23, o_push (.int (nI 0)) 24), (24, o_iret)]
theorem ok152_0 : ∀ q ∈ t152_0, p_Z 152 q := List.forall_mem_cons.mpr ⟨⟨s_aload_n d152_0 rfl, tl_aload _ _⟩, List.forall_mem_cons.mpr ⟨⟨f_getI_5_8 d152_1 wd_624, tl_getI _ _ _⟩, List.forall_mem_cons.mpr ⟨⟨s_aload_n d152_4 rfl, tl_aload _ _⟩, List.forall_mem_cons.mpr ⟨⟨f_getI_5_7 d152_5 wd_623, tl_getI _ _ _⟩, List.forall_mem_cons.mpr ⟨⟨s_icge d152_8 rfl, tl_icge _ _⟩, List.forall_mem_cons.mpr ⟨⟨s_aload_n d152_11 rfl, tl_aload _ _⟩, List.forall_mem_cons.mpr ⟨⟨f_getR_5_6 d152_12 wd_622, tl_getR _ _ _⟩, List.forall_mem_cons.mpr ⟨⟨s_aload_n d152_15 rfl, tl_aload _ _⟩, List.forall_mem_cons.mpr ⟨⟨f_getI_5_8 d152_16 wd_624, tl_getI _ _ _⟩, List.forall_mem_cons.mpr ⟨⟨s_iald d152_19, tl_iald _⟩, List.forall_mem_cons.mpr ⟨⟨s_goto d152_20 rfl, tl_goto _⟩, List.forall_mem_cons.mpr ⟨⟨s_iconst d152_23 rfl, tl_push _ _⟩, List.forall_mem_cons.mpr ⟨⟨s_iret d152_24 rfl, tl_iret⟩, fun _ h => absurd h List.not_mem_nil⟩⟩⟩⟩⟩⟩⟩⟩⟩⟩⟩⟩⟩
def t152 : List (Nat × pO) := t152_0
theorem ok152 : ∀ q ∈ t152, p_Z 152 q := ok152_0
theorem d153_0 : decode (pB 153) 0 = .ok (.aload_n 0, 1) := by decide +kernel
theorem d153_1 : decode (pB 153) 1 = .ok (.aload_n 0, 1) := by decide +kernel
theorem d153_2 : decode (pB 153) 2 = .ok (.getfield 177, 3) := by decide +kernel
theorem d153_5 : decode (pB 153) 5 = .ok (.ifCond .eq 15, 3) := by decide +kernel
theorem d153_8 : decode (pB 153) 8 = .ok (.aload_n 0, 1) := by decide +kernel
theorem d153_9 : decode (pB 153) 9 = .ok (.invokevirtual 181, 3) := by decide +kernel
theorem d153_12 : decode (pB 153) 12 = .ok (.iload_n 1, 1) := by decide +kernel
theorem d153_13 : decode (pB 153) 13 = .ok (.if_icmp .ne 7, 3) := by decide +kernel
theorem d153_16 : decode (pB 153) 16 = .ok (.iconst 1, 1) := by decide +kernel
theorem d153_17 : decode (pB 153) 17 = .ok (.goto 4, 3) := by decide +kernel
theorem d153_20 : decode (pB 153) 20 = .ok (.iconst 0, 1) := by decide +kernel
theorem d153_21 : decode (pB 153) 21 = .ok (.putfield 177, 3) := by decide +kernel
theorem d153_24 : decode (pB 153) 24 = .ok (.aload_n 0, 1) := by decide +kernel
theorem d153_25 : decode (pB 153) 25 = .ok (.dup, 1) := by decide +kernel
theorem d153_26 : decode (pB 153) 26 = .ok (.getfield 174, 3) := by decide +kernel
theorem d153_29 : decode (pB 153) 29 = .ok (.aload_n 0, 1) := by decide +kernel
theorem d153_30 : decode (pB 153) 30 = .ok (.getfield 177, 3) := by decide +kernel
theorem d153_33 : decode (pB 153) 33 = .ok (.ifCond .eq 7, 3) := by decide +kernel
theorem d153_36 : decode (pB 153) 36 = .ok (.iconst 1, 1) := by decide +kernel
theorem d153_37 : decode (pB 153) 37 = .ok (.goto 4, 3) := by decide +kernel
theorem d153_40 : decode (pB 153) 40 = .ok (.iconst 0, 1) := by decide +kernel
theorem d153_41 : decode (pB 153) 41 = .ok (.iadd, 1) := by decide +kernel
theorem d153_42 : decode (pB 153) 42 = .ok (.putfield 174, 3) := by decide +kernel
theorem d153_45 : decode (pB 153) 45 = .ok (.return_, 1) := by decide +kernel
/-- RX5.wants -/
def t153_0 : List (Nat × pO) := [(0, o_aload 0 1), (1, o_aload 0 2), (2, o_getI 5 9 5), (5, o_ifeq 20 8), (8, o_aload 0 9), (9, o_invV 5 152 0 12), (12, o_iload 1 13), (13, o_icne 20 16), (16, o_push (.int (nI 1)) 17), (17, o_goto 21), (20, o_push (.int (nI 0)) 21), (21, o_putZ 5 9 24), (24, o_aload 0 25), (25, o_dupr 26), (26, o_getI 5 8 29), (29, o_aload 0 30), (30, o_getI 5 9 33), (33, o_ifeq 40 36), (36, o_push (.int (nI 1)) 37), (37, o_goto 41), (40, o_push (.int (nI 0)) 41), (41, o_iadd 42), (42, o_putI 5 8 45), (45, o_vret)]
theorem ok153_0 : ∀ q ∈ t153_0, p_Z 153 q := List.forall_mem_cons.mpr ⟨⟨s_aload_n d153_0 rfl, tl_aload _ _⟩, List.forall_mem_cons.mpr ⟨⟨s_aload_n d153_1 rfl, tl_aload _ _⟩, List.forall_mem_cons.mpr ⟨⟨f_getI_5_9 d153_2 wd_625, tl_getI _ _ _⟩, List.forall_mem_cons.mpr ⟨⟨s_ifeq d153_5 rfl, tl_ifeq _ _⟩, List.forall_mem_cons.mpr ⟨⟨s_aload_n d153_8 rfl, tl_aload _ _⟩, List.forall_mem_cons.mpr ⟨⟨q_invV_152 d153_9 wd_907, tl_invV _ _ _ _⟩, List.forall_mem_cons.mpr ⟨⟨s_iload_n d153_12 rfl, tl_iload _ _⟩, List.forall_mem_cons.mpr ⟨⟨s_icne d153_13 rfl, tl_icne _ _⟩, List.forall_mem_cons.mpr ⟨⟨s_iconst d153_16 rfl, tl_push _ _⟩, List.forall_mem_cons.mpr ⟨⟨s_goto d153_17 rfl, tl_goto _⟩, List.forall_mem_cons.mpr ⟨⟨s_iconst d153_20 rfl, tl_push _ _⟩, List.forall_mem_cons.mpr ⟨⟨f_putZ_5_9 d153_21 wd_625, tl_putZ _ _ _⟩, List.forall_mem_cons.mpr ⟨⟨s_aload_n d153_24 rfl, tl_aload _ _⟩, List.forall_mem_cons.mpr ⟨⟨s_dupr d153_25, tl_dupr _⟩, List.forall_mem_cons.mpr ⟨⟨f_getI_5_8 d153_26 wd_624, tl_getI _ _ _⟩, List.forall_mem_cons.mpr ⟨⟨s_aload_n d153_29 rfl, tl_aload _ _⟩, List.forall_mem_cons.mpr ⟨⟨f_getI_5_9 d153_30 wd_625, tl_getI _ _ _⟩, List.forall_mem_cons.mpr ⟨⟨s_ifeq d153_33 rfl, tl_ifeq _ _⟩, List.forall_mem_cons.mpr ⟨⟨s_iconst d153_36 rfl, tl_push _ _⟩, List.forall_mem_cons.mpr ⟨⟨s_goto d153_37 rfl, tl_goto _⟩, List.forall_mem_cons.mpr ⟨⟨s_iconst d153_40 rfl, tl_push _ _⟩, List.forall_mem_cons.mpr ⟨⟨s_iadd d153_41, tl_iadd _⟩, List.forall_mem_cons.mpr ⟨⟨f_putI_5_8 d153_42 wd_624, tl_putI _ _ _⟩, List.forall_mem_cons.mpr ⟨⟨s_vret d153_45 rfl, tl_vret⟩, fun _ h => absurd h List.not_mem_nil⟩⟩⟩⟩⟩⟩⟩⟩⟩⟩⟩⟩⟩⟩⟩⟩⟩⟩⟩⟩⟩⟩⟩⟩
def t153 : List (Nat × pO) := t153_0
theorem ok153 : ∀ q ∈ t153, p_Z 153 q := ok153_0
theorem d154_0 : decode (pB 154) 0 = .ok (.aload_n 0, 1) := by decide +kernel
theorem d154_1 : decode (pB 154) 1 = .ok (.aload_n 0, 1) := by decide +kernel
theorem d154_2 : decode (pB 154) 2 = .ok (.getfield 177, 3) := by decide +kernel
theorem d154_5 : decode (pB 154) 5 = .ok (.ifCond .eq 21, 3) := by decide +kernel
theorem d154_8 : decode (pB 154) 8 = .ok (.aload_n 0, 1) := by decide +kernel
theorem d154_9 : decode (pB 154) 9 = .ok (.invokevirtual 181, 3) := by decide +kernel
theorem d154_12 : decode (pB 154) 12 = .ok (.bipush 48, 2) := by decide +kernel
theorem d154_14 : decode (pB 154) 14 = .ok (.bipush 57, 2) := by decide +kernel
theorem d154_16 : decode (pB 154) 16 = .ok (.invokestatic 48, 3) := by decide +kernel
theorem d154_19 : decode (pB 154) 19 = .ok (.ifCond .eq 7, 3) := by decide +kernel
theorem d154_22 : decode (pB 154) 22 = .ok (.iconst 1, 1) := by decide +kernel
theorem d154_23 : decode (pB 154) 23 = .ok (.goto 4, 3) := by decide +kernel
theorem d154_26 : decode (pB 154) 26 = .ok (.iconst 0, 1) := by decide +kernel
theorem d154_27 : decode (pB 154) 27 = .ok (.putfield 177, 3) := by decide +kernel
theorem d154_30 : decode (pB 154) 30 = .ok (.aload_n 0, 1) := by decide +kernel
theorem d154_31 : decode (pB 154) 31 = .ok (.invokevirtual 181, 3) := by decide +kernel
theorem d154_34 : decode (pB 154) 34 = .ok (.bipush 48, 2) := by decide +kernel
theorem d154_36 : decode (pB 154) 36 = .ok (.isub, 1) := by decide +kernel
theorem d154_37 : decode (pB 154) 37 = .ok (.istore_n 1, 1) := by decide +kernel
theorem d154_38 : decode (pB 154) 38 = .ok (.aload_n 0, 1) := by decide +kernel
theorem d154_39 : decode (pB 154) 39 = .ok (.dup, 1) := by decide +kernel
theorem d154_40 : decode (pB 154) 40 = .ok (.getfield 174, 3) := by decide +kernel
theorem d154_43 : decode (pB 154) 43 = .ok (.aload_n 0, 1) := by decide +kernel
theorem d154_44 : decode (pB 154) 44 = .ok (.getfield 177, 3) := by decide +kernel
theorem d154_47 : decode (pB 154) 47 = .ok (.ifCond .eq 7, 3) := by decide +kernel
theorem d154_50 : decode (pB 154) 50 = .ok (.iconst 1, 1) := by decide +kernel
theorem d154_51 : decode (pB 154) 51 = .ok (.goto 4, 3) := by decide +kernel
theorem d154_54 : decode (pB 154) 54 = .ok (.iconst 0, 1) := by decide +kernel
theorem d154_55 : decode (pB 154) 55 = .ok (.iadd, 1) := by decide +kernel
theorem d154_56 : decode (pB 154) 56 = .ok (.putfield 174, 3) := by decide +kernel
theorem d154_59 : decode (pB 154) 59 = .ok (.aload_n 0, 1) := by decide +kernel
theorem d154_60 : decode (pB 154) 60 = .ok (.getfield 177, 3) := by decide +kernel
theorem d154_63 : decode (pB 154) 63 = .ok (.ifCond .eq 44, 3) := by decide +kernel
theorem d154_66 : decode (pB 154) 66 = .ok (.iload_n 1, 1) := by decide +kernel
theorem d154_67 : decode (pB 154) 67 = .ok (.ifCond .le 40, 3) := by decide +kernel
theorem d154_70 : decode (pB 154) 70 = .ok (.aload_n 0, 1) := by decide +kernel
theorem d154_71 : decode (pB 154) 71 = .ok (.invokevirtual 181, 3) := by decide +kernel
theorem d154_74 : decode (pB 154) 74 = .ok (.bipush 48, 2) := by decide +kernel
theorem d154_76 : decode (pB 154) 76 = .ok (.bipush 57, 2) := by decide +kernel
theorem d154_78 : decode (pB 154) 78 = .ok (.invokestatic 48, 3) := by decide +kernel
theorem d154_81 : decode (pB 154) 81 = .ok (.ifCond .eq 26, 3) := by decide +kernel
theorem d154_84 : decode (pB 154) 84 = .ok (.bipush 10, 2) := by decide +kernel
theorem d154_86 : decode (pB 154) 86 = .ok (.iload_n 1, 1) := by decide +kernel
theorem d154_87 : decode (pB 154) 87 = .ok (.imul, 1) := by decide +kernel
theorem d154_88 : decode (pB 154) 88 = .ok (.aload_n 0, 1) := by decide +kernel
theorem d154_89 : decode (pB 154) 89 = .ok (.invokevirtual 181, 3) := by decide +kernel
theorem d154_92 : decode (pB 154) 92 = .ok (.iadd, 1) := by decide +kernel
theorem d154_93 : decode (pB 154) 93 = .ok (.bipush 48, 2) := by decide +kernel
theorem d154_95 : decode (pB 154) 95 = .ok (.isub, 1) := by decide +kernel
theorem d154_96 : decode (pB 154) 96 = .ok (.istore_n 1, 1) := by decide +kernel
theorem d154_97 : decode (pB 154) 97 = .ok (.aload_n 0, 1) := by decide +kernel
theorem d154_98 : decode (pB 154) 98 = .ok (.dup, 1) := by decide +kernel
theorem d154_99 : decode (pB 154) 99 = .ok (.getfield 174, 3) := by decide +kernel
theorem d154_102 : decode (pB 154) 102 = .ok (.iconst 1, 1) := by decide +kernel
theorem d154_103 : decode (pB 154) 103 = .ok (.iadd, 1) := by decide +kernel
theorem d154_104 : decode (pB 154) 104 = .ok (.putfield 174, 3) := by decide +kernel
theorem d154_107 : decode (pB 154) 107 = .ok (.iload_n 1, 1) := by decide +kernel
theorem d154_108 : decode (pB 154) 108 = .ok (.ireturn, 1) := by decide +kernel
theorem st1_154_1 : p_st1 154 1 = true := by decide +kernel
/-- RX5.number -/
def t154_0 : List (Nat × pO) := [(0, o_aload 0 1), (1, o_aload 0 2), (2, o_getI 5 9 5), (5, o_ifeq 26 8), (8, o_aload 0 9), (9, o_invV 5 152 0 12), (12, o_push (.int (nI 48)) 14), (14, o_push (.int (nI 57)) 16), (16, o_invS 96 3 19), (19, o_ifeq 26 22), (22, o_push (.int (nI 1)) 23), (23, o_goto 27), (26, o_push (.int (nI 0)) 27), (27, o_putZ 5 9 30), (30, o_aload 0 31), (31, o_invV 5 152 0 34), (34, o_push (.int (nI 48)) 36), (36, o_isub 37), (37, o_istore 1 38), (38, o_aload 0 39), (39, o_dupr 40), (40, o_getI 5 8 43), (43, o_aload 0 44), (44, o_getI 5 9 47), (47, o_ifeq 54 50), (50, o_push (.int (nI 1)) 51), (51, o_goto 55), (54, o_push (.int (nI 0)) 55), (55, o_iadd 56), (56, o_putI 5 8 59), (59, o_aload 0 60), (60, o_getI 5 9 63), (63, o_ifeq 107 66), (66, o_iload 1 67), (67, o_ifle 107 70), (70, o_aload 0 71), (71, o_invV 5 152 0 74), (74, o_push (.int (nI 48)) 76), (76, o_push (.int (nI 57)) 78), (78, o_invS 96 3 81)]
theorem ok154_0 : ∀ q ∈ t154_0, p_Z 154 q := List.forall_mem_cons.mpr ⟨⟨s_aload_n d154_0 rfl, tl_aload _ _⟩, List.forall_mem_cons.mpr ⟨⟨s_aload_n d154_1 rfl, tl_aload _ _⟩, List.forall_mem_cons.mpr ⟨⟨f_getI_5_9 d154_2 wd_625, tl_getI _ _ _⟩, List.forall_mem_cons.mpr ⟨⟨s_ifeq d154_5 rfl, tl_ifeq _ _⟩, List.forall_mem_cons.mpr ⟨⟨s_aload_n d154_8 rfl, tl_aload _ _⟩, List.forall_mem_cons.mpr ⟨⟨q_invV_152 d154_9 wd_907, tl_invV _ _ _ _⟩, List.forall_mem_cons.mpr ⟨⟨s_bipush d154_12 rfl, tl_push _ _⟩, List.forall_mem_cons.mpr ⟨⟨s_bipush d154_14 rfl, tl_push _ _⟩, List.forall_mem_cons.mpr ⟨⟨q_invS_96 d154_16 wd_675, tl_invS _ _ _⟩, List.forall_mem_cons.mpr ⟨⟨s_ifeq d154_19 rfl, tl_ifeq _ _⟩, List.forall_mem_cons.mpr ⟨⟨s_iconst d154_22 rfl, tl_push _ _⟩, List.forall_mem_cons.mpr ⟨⟨s_goto d154_23 rfl, tl_goto _⟩, List.forall_mem_cons.mpr ⟨⟨s_iconst d154_26 rfl, tl_push _ _⟩, List.forall_mem_cons.mpr ⟨⟨f_putZ_5_9 d154_27 wd_625, tl_putZ _ _ _⟩, List.forall_mem_cons.mpr ⟨⟨s_aload_n d154_30 rfl, tl_aload _ _⟩, List.forall_mem_cons.mpr ⟨⟨q_invV_152 d154_31 wd_907, tl_invV _ _ _ _⟩, List.forall_mem_cons.mpr ⟨⟨s_bipush d154_34 rfl, tl_push _ _⟩, List.forall_mem_cons.mpr ⟨⟨s_isub d154_36, tl_isub _⟩, List.forall_mem_cons.mpr ⟨⟨s_istore_n d154_37 rfl st1_154_1, tl_istore _ _⟩, List.forall_mem_cons.mpr ⟨⟨s_aload_n d154_38 rfl, tl_aload _ _⟩, List.forall_mem_cons.mpr ⟨⟨s_dupr d154_39, tl_dupr _⟩, List.forall_mem_cons.mpr ⟨⟨f_getI_5_8 d154_40 wd_624, tl_getI _ _ _⟩, List.forall_mem_cons.mpr ⟨⟨s_aload_n d154_43 rfl, tl_aload _ _⟩, List.forall_mem_cons.mpr ⟨⟨f_getI_5_9 d154_44 wd_625, tl_getI _ _ _⟩, List.forall_mem_cons.mpr ⟨⟨s_ifeq d154_47 rfl, tl_ifeq _ _⟩, List.forall_mem_cons.mpr ⟨⟨s_iconst d154_50 rfl, tl_push _ _⟩, List.forall_mem_cons.mpr ⟨⟨s_goto d154_51 rfl, tl_goto _⟩, List.forall_mem_cons.mpr ⟨⟨s_iconst d154_54 rfl, tl_push _ _⟩, List.forall_mem_cons.mpr ⟨⟨s_iadd d154_55, tl_iadd _⟩, List.forall_mem_cons.mpr ⟨⟨f_putI_5_8 d154_56 wd_624, tl_putI _ _ _⟩, List.forall_mem_cons.mpr ⟨⟨s_aload_n d154_59 rfl, tl_aload _ _⟩, List.forall_mem_cons.mpr ⟨⟨f_getI_5_9 d154_60 wd_625, tl_getI _ _ _⟩, List.forall_mem_cons.mpr ⟨⟨s_ifeq d154_63 rfl, tl_ifeq _ _⟩, List.forall_mem_cons.mpr ⟨⟨s_iload_n d154_66 rfl, tl_iload _ _⟩, List.forall_mem_cons.mpr ⟨⟨s_ifle d154_67 rfl, tl_ifle _ _⟩, List.forall_mem_cons.mpr ⟨⟨s_aload_n d154_70 rfl, tl_aload _ _⟩, List.forall_mem_cons.mpr ⟨⟨q_invV_152 d154_71 wd_907, tl_invV _ _ _ _⟩, List.forall_mem_cons.mpr ⟨⟨s_bipush d154_74 rfl, tl_push _ _⟩, List.forall_mem_cons.mpr ⟨⟨s_bipush d154_76 rfl, tl_push _ _⟩, List.forall_mem_cons.mpr ⟨⟨q_invS_96 d154_78 wd_675, tl_invS _ _ _⟩, fun _ h => absurd h List.not_mem_nil⟩⟩⟩⟩⟩⟩⟩⟩⟩⟩⟩⟩⟩⟩⟩⟩⟩⟩⟩⟩⟩⟩⟩⟩⟩⟩⟩⟩⟩⟩⟩⟩⟩⟩⟩⟩⟩⟩⟩⟩
/-- RX5.number -/
def t154_1 : List (Nat × pO) := [(81, o_ifeq 107 84), (84, o_push (.int (nI 10)) 86), (86, o_iload 1 87), (87, o_imul 88), (88, o_aload 0 89), (89, o_invV 5 152 0 92), (92, o_iadd 93), (93, o_push (.int (nI 48)) 95), (95, o_isub 96), (96, o_istore 1 97), (97, o_aload 0 98), (98, o_dupr 99), (99, o_getI 5 8 102), (102, o_push (.int (nI 1)) 103), (103, o_iadd 104), (104, o_putI 5 8 107), (107, o_iload 1 108), (108, o_iret)]
theorem ok154_1 : ∀ q ∈ t154_1, p_Z 154 q := List.forall_mem_cons.mpr ⟨⟨s_ifeq d154_81 rfl, tl_ifeq _ _⟩, List.forall_mem_cons.mpr ⟨⟨s_bipush d154_84 rfl, tl_push _ _⟩, List.forall_mem_cons.mpr ⟨⟨s_iload_n d154_86 rfl, tl_iload _ _⟩, List.forall_mem_cons.mpr ⟨⟨s_imul d154_87, tl_imul _⟩, List.forall_mem_cons.mpr ⟨⟨s_aload_n d154_88 rfl, tl_aload _ _⟩, List.forall_mem_cons.mpr ⟨⟨q_invV_152 d154_89 wd_907, tl_invV _ _ _ _⟩, List.forall_mem_cons.mpr ⟨⟨s_iadd d154_92, tl_iadd _⟩, List.forall_mem_cons.mpr ⟨⟨s_bipush d154_93 rfl, tl_push _ _⟩, List.forall_mem_cons.mpr ⟨⟨s_isub d154_95, tl_isub _⟩, List.forall_mem_cons.mpr ⟨⟨s_istore_n d154_96 rfl st1_154_1, tl_istore _ _⟩, List.forall_mem_cons.mpr ⟨⟨s_aload_n d154_97 rfl, tl_aload _ _⟩, List.forall_mem_cons.mpr ⟨⟨s_dupr d154_98, tl_dupr _⟩, List.forall_mem_cons.mpr ⟨⟨f_getI_5_8 d154_99 wd_624, tl_getI _ _ _⟩, List.forall_mem_cons.mpr ⟨⟨s_iconst d154_102 rfl, tl_push _ _⟩, List.forall_mem_cons.mpr ⟨⟨s_iadd d154_103, tl_iadd _⟩, List.forall_mem_cons.mpr ⟨⟨f_putI_5_8 d154_104 wd_624, tl_putI _ _ _⟩, List.forall_mem_cons.mpr ⟨⟨s_iload_n d154_107 rfl, tl_iload _ _⟩, List.forall_mem_cons.mpr ⟨⟨s_iret d154_108 rfl, tl_iret⟩, fun _ h => absurd h List.not_mem_nil⟩⟩⟩⟩⟩⟩⟩⟩⟩⟩⟩⟩⟩⟩⟩⟩⟩⟩
def t154 : List (Nat × pO) := t154_0 ++ (t154_1)
theorem ok154 : ∀ q ∈ t154, p_Z 154 q := List.forall_mem_append.mpr ⟨ok154_0, ok154_1⟩
theorem d155_0 : decode (pB 155) 0 = .ok (.iconst 4, 1) := by decide +kernel
theorem d155_1 : decode (pB 155) 1 = .ok (.aload_n 0, 1) := by decide +kernel
theorem d155_2 : decode (pB 155) 2 = .ok (.getfield 184, 3) := by decide +kernel
theorem d155_5 : decode (pB 155) 5 = .ok (.imul, 1) := by decide +kernel
theorem d155_6 : decode (pB 155) 6 = .ok (.istore_n 1, 1) := by decide +kernel
theorem d155_7 : decode (pB 155) 7 = .ok (.aload_n 0, 1) := by decide +kernel
theorem d155_8 : decode (pB 155) 8 = .ok (.invokevirtual 181, 3) := by decide +kernel
theorem d155_11 : decode (pB 155) 11 = .ok (.istore_n 2, 1) := by decide +kernel
theorem d155_12 : decode (pB 155) 12 = .ok (.aload_n 0, 1) := by decide +kernel
theorem d155_13 : decode (pB 155) 13 = .ok (.iload_n 2, 1) := by decide +kernel
theorem d155_14 : decode (pB 155) 14 = .ok (.bipush 99, 2) := by decide +kernel
theorem d155_16 : decode (pB 155) 16 = .ok (.if_icmp .eq 33, 3) := by decide +kernel
theorem d155_19 : decode (pB 155) 19 = .ok (.iload_n 2, 1) := by decide +kernel
theorem d155_20 : decode (pB 155) 20 = .ok (.bipush 115, 2) := by decide +kernel
theorem d155_22 : decode (pB 155) 22 = .ok (.if_icmp .eq 27, 3) := by decide +kernel
theorem d155_25 : decode (pB 155) 25 = .ok (.iload_n 2, 1) := by decide +kernel
theorem d155_26 : decode (pB 155) 26 = .ok (.bipush 117, 2) := by decide +kernel
theorem d155_28 : decode (pB 155) 28 = .ok (.if_icmp .eq 21, 3) := by decide +kernel
theorem d155_31 : decode (pB 155) 31 = .ok (.iload_n 2, 1) := by decide +kernel
theorem d155_32 : decode (pB 155) 32 = .ok (.bipush 120, 2) := by decide +kernel
theorem d155_34 : decode (pB 155) 34 = .ok (.if_icmp .eq 15, 3) := by decide +kernel
theorem d155_37 : decode (pB 155) 37 = .ok (.iload_n 2, 1) := by decide +kernel
theorem d155_38 : decode (pB 155) 38 = .ok (.bipush 102, 2) := by decide +kernel
theorem d155_40 : decode (pB 155) 40 = .ok (.if_icmp .eq 9, 3) := by decide +kernel
theorem d155_43 : decode (pB 155) 43 = .ok (.iload_n 2, 1) := by decide +kernel
theorem d155_44 : decode (pB 155) 44 = .ok (.bipush 111, 2) := by decide +kernel
theorem d155_46 : decode (pB 155) 46 = .ok (.if_icmp .ne 7, 3) := by decide +kernel
theorem d155_49 : decode (pB 155) 49 = .ok (.iconst 1, 1) := by decide +kernel
theorem d155_50 : decode (pB 155) 50 = .ok (.goto 4, 3) := by decide +kernel
theorem d155_53 : decode (pB 155) 53 = .ok (.iconst 0, 1) := by decide +kernel
theorem d155_54 : decode (pB 155) 54 = .ok (.putfield 177, 3) := by decide +kernel
theorem d155_57 : decode (pB 155) 57 = .ok (.aload_n 0, 1) := by decide +kernel
theorem d155_58 : decode (pB 155) 58 = .ok (.dup, 1) := by decide +kernel
theorem d155_59 : decode (pB 155) 59 = .ok (.getfield 174, 3) := by decide +kernel
theorem d155_62 : decode (pB 155) 62 = .ok (.aload_n 0, 1) := by decide +kernel
theorem d155_63 : decode (pB 155) 63 = .ok (.getfield 177, 3) := by decide +kernel
theorem d155_66 : decode (pB 155) 66 = .ok (.ifCond .eq 7, 3) := by decide +kernel
theorem d155_69 : decode (pB 155) 69 = .ok (.iconst 1, 1) := by decide +kernel
theorem d155_70 : decode (pB 155) 70 = .ok (.goto 4, 3) := by decide +kernel
theorem d155_73 : decode (pB 155) 73 = .ok (.iconst 0, 1) := by decide +kernel
theorem d155_74 : decode (pB 155) 74 = .ok (.iadd, 1) := by decide +kernel
theorem d155_75 : decode (pB 155) 75 = .ok (.putfield 174, 3) := by decide +kernel
theorem d155_78 : decode (pB 155) 78 = .ok (.aload_n 0, 1) := by decide +kernel
theorem d155_79 : decode (pB 155) 79 = .ok (.getfield 26, 3) := by decide +kernel
theorem d155_82 : decode (pB 155) 82 = .ok (.iload_n 1, 1) := by decide +kernel
theorem d155_83 : decode (pB 155) 83 = .ok (.iload_n 2, 1) := by decide +kernel
theorem d155_84 : decode (pB 155) 84 = .ok (.iastore, 1) := by decide +kernel
theorem d155_85 : decode (pB 155) 85 = .ok (.aload_n 0, 1) := by decide +kernel
theorem d155_86 : decode (pB 155) 86 = .ok (.getfield 26, 3) := by decide +kernel
theorem d155_89 : decode (pB 155) 89 = .ok (.iload_n 1, 1) := by decide +kernel
theorem d155_90 : decode (pB 155) 90 = .ok (.iconst 1, 1) := by decide +kernel
theorem d155_91 : decode (pB 155) 91 = .ok (.iadd, 1) := by decide +kernel
theorem d155_92 : decode (pB 155) 92 = .ok (.iload_n 2, 1) := by decide +kernel
theorem d155_93 : decode (pB 155) 93 = .ok (.bipush 99, 2) := by decide +kernel
theorem d155_95 : decode (pB 155) 95 = .ok (.if_icmp .eq 9, 3) := by decide +kernel
theorem d155_98 : decode (pB 155) 98 = .ok (.iload_n 2, 1) := by decide +kernel
theorem d155_99 : decode (pB 155) 99 = .ok (.bipush 111, 2) := by decide +kernel
theorem d155_101 : decode (pB 155) 101 = .ok (.if_icmp .ne 7, 3) := by decide +kernel
theorem d155_104 : decode (pB 155) 104 = .ok (.iconst 0, 1) := by decide +kernel
theorem d155_105 : decode (pB 155) 105 = .ok (.goto 7, 3) := by decide +kernel
theorem d155_108 : decode (pB 155) 108 = .ok (.aload_n 0, 1) := by decide +kernel
theorem d155_109 : decode (pB 155) 109 = .ok (.invokevirtual 187, 3) := by decide +kernel
theorem d155_112 : decode (pB 155) 112 = .ok (.iastore, 1) := by decide +kernel
theorem d155_113 : decode (pB 155) 113 = .ok (.aload_n 0, 1) := by decide +kernel
theorem d155_114 : decode (pB 155) 114 = .ok (.getfield 26, 3) := by decide +kernel
theorem d155_117 : decode (pB 155) 117 = .ok (.iload_n 1, 1) := by decide +kernel
theorem d155_118 : decode (pB 155) 118 = .ok (.iconst 2, 1) := by decide +kernel
theorem d155_119 : decode (pB 155) 119 = .ok (.iadd, 1) := by decide +kernel
theorem d155_120 : decode (pB 155) 120 = .ok (.iconst 0, 1) := by decide +kernel
theorem d155_121 : decode (pB 155) 121 = .ok (.iastore, 1) := by decide +kernel
theorem d155_122 : decode (pB 155) 122 = .ok (.aload_n 0, 1) := by decide +kernel
theorem d155_123 : decode (pB 155) 123 = .ok (.getfield 26, 3) := by decide +kernel
theorem d155_126 : decode (pB 155) 126 = .ok (.iload_n 1, 1) := by decide +kernel
theorem d155_127 : decode (pB 155) 127 = .ok (.iconst 3, 1) := by decide +kernel
theorem d155_128 : decode (pB 155) 128 = .ok (.iadd, 1) := by decide +kernel
theorem d155_129 : decode (pB 155) 129 = .ok (.iconst 0, 1) := by decide +kernel
theorem d155_130 : decode (pB 155) 130 = .ok (.iastore, 1) := by decide +kernel
theorem d155_131 : decode (pB 155) 131 = .ok (.iload_n 2, 1) := by decide +kernel
theorem d155_132 : decode (pB 155) 132 = .ok (.bipush 115, 2) := by decide +kernel
theorem d155_134 : decode (pB 155) 134 = .ok (.if_icmp .eq 9, 3) := by decide +kernel
theorem d155_137 : decode (pB 155) 137 = .ok (.iload_n 2, 1) := by decide +kernel
theorem d155_138 : decode (pB 155) 138 = .ok (.bipush 120, 2) := by decide +kernel
theorem d155_140 : decode (pB 155) 140 = .ok (.if_icmp .ne 32, 3) := by decide +kernel
theorem d155_143 : decode (pB 155) 143 = .ok (.aload_n 0, 1) := by decide +kernel
theorem d155_144 : decode (pB 155) 144 = .ok (.iload_n 2, 1) := by decide +kernel
theorem d155_145 : decode (pB 155) 145 = .ok (.bipush 115, 2) := by decide +kernel
theorem d155_147 : decode (pB 155) 147 = .ok (.if_icmp .ne 8, 3) := by decide +kernel
theorem d155_150 : decode (pB 155) 150 = .ok (.bipush 64, 2) := by decide +kernel
theorem d155_152 : decode (pB 155) 152 = .ok (.goto 5, 3) := by decide +kernel
theorem d155_155 : decode (pB 155) 155 = .ok (.bipush 126, 2) := by decide +kernel
theorem d155_157 : decode (pB 155) 157 = .ok (.invokevirtual 190, 3) := by decide +kernel
theorem d155_160 : decode (pB 155) 160 = .ok (.aload_n 0, 1) := by decide +kernel
theorem d155_161 : decode (pB 155) 161 = .ok (.getfield 26, 3) := by decide +kernel
theorem d155_164 : decode (pB 155) 164 = .ok (.iload_n 1, 1) := by decide +kernel
theorem d155_165 : decode (pB 155) 165 = .ok (.iconst 2, 1) := by decide +kernel
theorem d155_166 : decode (pB 155) 166 = .ok (.iadd, 1) := by decide +kernel
theorem d155_167 : decode (pB 155) 167 = .ok (.aload_n 0, 1) := by decide +kernel
theorem d155_168 : decode (pB 155) 168 = .ok (.invokevirtual 187, 3) := by decide +kernel
theorem d155_171 : decode (pB 155) 171 = .ok (.iastore, 1) := by decide +kernel
theorem d155_172 : decode (pB 155) 172 = .ok (.aload_n 0, 1) := by decide +kernel
theorem d155_173 : decode (pB 155) 173 = .ok (.getfield 177, 3) := by decide +kernel
theorem d155_176 : decode (pB 155) 176 = .ok (.ifCond .eq 59, 3) := by decide +kernel
theorem d155_179 : decode (pB 155) 179 = .ok (.iload_n 2, 1) := by decide +kernel
theorem d155_180 : decode (pB 155) 180 = .ok (.bipush 120, 2) := by decide +kernel
theorem d155_182 : decode (pB 155) 182 = .ok (.if_icmp .ne 53, 3) := by decide +kernel
theorem d155_185 : decode (pB 155) 185 = .ok (.aload_n 0, 1) := by decide +kernel
theorem d155_186 : decode (pB 155) 186 = .ok (.invokevirtual 181, 3) := by decide +kernel
theorem d155_189 : decode (pB 155) 189 = .ok (.bipush 43, 2) := by decide +kernel
theorem d155_191 : decode (pB 155) 191 = .ok (.if_icmp .eq 12, 3) := by decide +kernel
theorem d155_194 : decode (pB 155) 194 = .ok (.aload_n 0, 1) := by decide +kernel
theorem d155_195 : decode (pB 155) 195 = .ok (.invokevirtual 181, 3) := by decide +kernel
theorem d155_198 : decode (pB 155) 198 = .ok (.bipush 45, 2) := by decide +kernel
theorem d155_200 : decode (pB 155) 200 = .ok (.if_icmp .ne 35, 3) := by decide +kernel
theorem d155_203 : decode (pB 155) 203 = .ok (.aload_n 0, 1) := by decide +kernel
theorem d155_204 : decode (pB 155) 204 = .ok (.getfield 26, 3) := by decide +kernel
theorem d155_207 : decode (pB 155) 207 = .ok (.iload_n 1, 1) := by decide +kernel
theorem d155_208 : decode (pB 155) 208 = .ok (.iconst 3, 1) := by decide +kernel
theorem d155_209 : decode (pB 155) 209 = .ok (.iadd, 1) := by decide +kernel
theorem d155_210 : decode (pB 155) 210 = .ok (.aload_n 0, 1) := by decide +kernel
theorem d155_211 : decode (pB 155) 211 = .ok (.invokevirtual 181, 3) := by decide +kernel
theorem d155_214 : decode (pB 155) 214 = .ok (.bipush 43, 2) := by decide +kernel
theorem d155_216 : decode (pB 155) 216 = .ok (.if_icmp .ne 7, 3) := by decide +kernel
theorem d155_219 : decode (pB 155) 219 = .ok (.iconst 1, 1) := by decide +kernel
theorem d155_220 : decode (pB 155) 220 = .ok (.goto 4, 3) := by decide +kernel
theorem d155_223 : decode (pB 155) 223 = .ok (.iconst (-1), 1) := by decide +kernel
theorem d155_224 : decode (pB 155) 224 = .ok (.iastore, 1) := by decide +kernel
theorem d155_225 : decode (pB 155) 225 = .ok (.aload_n 0, 1) := by decide +kernel
theorem d155_226 : decode (pB 155) 226 = .ok (.dup, 1) := by decide +kernel
theorem d155_227 : decode (pB 155) 227 = .ok (.getfield 174, 3) := by decide +kernel
theorem d155_230 : decode (pB 155) 230 = .ok (.iconst 1, 1) := by decide +kernel
theorem d155_231 : decode (pB 155) 231 = .ok (.iadd, 1) := by decide +kernel
theorem d155_232 : decode (pB 155) 232 = .ok (.putfield 174, 3) := by decide +kernel
theorem d155_235 : decode (pB 155) 235 = .ok (.aload_n 0, 1) := by decide +kernel
theorem d155_236 : decode (pB 155) 236 = .ok (.dup, 1) := by decide +kernel
theorem d155_237 : decode (pB 155) 237 = .ok (.getfield 184, 3) := by decide +kernel
theorem d155_240 : decode (pB 155) 240 = .ok (.aload_n 0, 1) := by decide +kernel
theorem d155_241 : decode (pB 155) 241 = .ok (.getfield 177, 3) := by decide +kernel
theorem d155_244 : decode (pB 155) 244 = .ok (.ifCond .eq 7, 3) := by decide +kernel
theorem d155_247 : decode (pB 155) 247 = .ok (.iconst 1, 1) := by decide +kernel
theorem d155_248 : decode (pB 155) 248 = .ok (.goto 4, 3) := by decide +kernel
theorem d155_251 : decode (pB 155) 251 = .ok (.iconst 0, 1) := by decide +kernel
theorem d155_252 : decode (pB 155) 252 = .ok (.iadd, 1) := by decide +kernel
theorem d155_253 : decode (pB 155) 253 = .ok (.putfield 184, 3) := by decide +kernel
theorem d155_256 : decode (pB 155) 256 = .ok (.return_, 1) := by decide +kernel
theorem st1_155_1 : p_st1 155 1 = true := by decide +kernel
theorem st1_155_2 : p_st1 155 2 = true := by decide +kernel
/-- RX5.readsOrder -/
def t155_0 : List (Nat × pO) := [(0, o_push (.int (nI 4)) 1), (1, o_aload 0 2), (2, o_getI 5 11 5), (5, o_imul 6), (6, o_istore 1 7), (7, o_aload 0 8), (8, o_invV 5 152 0 11), (11, o_istore 2 12), (12, o_aload 0 13), (13, o_iload 2 14), (14, o_push (.int (nI 99)) 16), (16, o_iceq 49 19), (19, o_iload 2 20), (20, o_push (.int (nI 115)) 22), (22, o_iceq 49 25), (25, o_iload 2 26), (26, o_push (.int (nI 117)) 28), (28, o_iceq 49 31), (31, o_iload 2 32), (32, o_push (.int (nI 120)) 34), (34, o_iceq 49 37), (37, o_iload 2 38), (38, o_push (.int (nI 102)) 40), (40, o_iceq 49 43), (43, o_iload 2 44), (44, o_push (.int (nI 111)) 46), (46, o_icne 53 49), (49, o_push (.int (nI 1)) 50), (50, o_goto 54), (53, o_push (.int (nI 0)) 54), (54, o_putZ 5 9 57), (57, o_aload 0 58), (58, o_dupr 59), (59, o_getI 5 8 62), (62, o_aload 0 63), (63, o_getI 5 9 66), (66, o_ifeq 73 69), (69, o_push (.int (nI 1)) 70), (70, o_goto 74), (73, o_push (.int (nI 0)) 74)]
theorem ok155_0 : ∀ q ∈ t155_0, p_Z 155 q := List.forall_mem_cons.mpr ⟨⟨s_iconst d155_0 rfl, tl_push _ _⟩, List.forall_mem_cons.mpr ⟨⟨s_aload_n d155_1 rfl, tl_aload _ _⟩, List.forall_mem_cons.mpr ⟨⟨f_getI_5_11 d155_2 wd_627, tl_getI _ _ _⟩, List.forall_mem_cons.mpr ⟨⟨s_imul d155_5, tl_imul _⟩, List.forall_mem_cons.mpr ⟨⟨s_istore_n d155_6 rfl st1_155_1, tl_istore _ _⟩, List.forall_mem_cons.mpr ⟨⟨s_aload_n d155_7 rfl, tl_aload _ _⟩, List.forall_mem_cons.mpr ⟨⟨q_invV_152 d155_8 wd_907, tl_invV _ _ _ _⟩, List.forall_mem_cons.mpr ⟨⟨s_istore_n d155_11 rfl st1_155_2, tl_istore _ _⟩, List.forall_mem_cons.mpr ⟨⟨s_aload_n d155_12 rfl, tl_aload _ _⟩, List.forall_mem_cons.mpr ⟨⟨s_iload_n d155_13 rfl, tl_iload _ _⟩, List.forall_mem_cons.mpr ⟨⟨s_bipush d155_14 rfl, tl_push _ _⟩, List.forall_mem_cons.mpr ⟨⟨s_iceq d155_16 rfl, tl_iceq _ _⟩, List.forall_mem_cons.mpr ⟨⟨s_iload_n d155_19 rfl, tl_iload _ _⟩, List.forall_mem_cons.mpr ⟨⟨s_bipush d155_20 rfl, tl_push _ _⟩, List.forall_mem_cons.mpr ⟨⟨s_iceq d155_22 rfl, tl_iceq _ _⟩, List.forall_mem_cons.mpr ⟨⟨s_iload_n d155_25 rfl, tl_iload _ _⟩, List.forall_mem_cons.mpr ⟨⟨s_bipush d155_26 rfl, tl_push _ _⟩, List.forall_mem_cons.mpr ⟨⟨s_iceq d155_28 rfl, tl_iceq _ _⟩, List.forall_mem_cons.mpr ⟨⟨s_iload_n d155_31 rfl, tl_iload _ _⟩, List.forall_mem_cons.mpr ⟨⟨s_bipush d155_32 rfl, tl_push _ _⟩, List.forall_mem_cons.mpr ⟨⟨s_iceq d155_34 rfl, tl_iceq _ _⟩, List.forall_mem_cons.mpr ⟨⟨s_iload_n d155_37 rfl, tl_iload _ _⟩, List.forall_mem_cons.mpr ⟨⟨s_bipush d155_38 rfl, tl_push _ _⟩, List.forall_mem_cons.mpr ⟨⟨s_iceq d155_40 rfl, tl_iceq _ _⟩, List.forall_mem_cons.mpr ⟨⟨s_iload_n d155_43 rfl, tl_iload _ _⟩, List.forall_mem_cons.mpr ⟨⟨s_bipush d155_44 rfl, tl_push _ _⟩, List.forall_mem_cons.mpr ⟨⟨s_icne d155_46 rfl, tl_icne _ _⟩, List.forall_mem_cons.mpr ⟨⟨s_iconst d155_49 rfl, tl_push _ _⟩, List.forall_mem_cons.mpr ⟨⟨s_goto d155_50 rfl, tl_goto _⟩, List.forall_mem_cons.mpr ⟨⟨s_iconst d155_53 rfl, tl_push _ _⟩, List.forall_mem_cons.mpr ⟨⟨f_putZ_5_9 d155_54 wd_625, tl_putZ _ _ _⟩, List.forall_mem_cons.mpr ⟨⟨s_aload_n d155_57 rfl, tl_aload _ _⟩, List.forall_mem_cons.mpr ⟨⟨s_dupr d155_58, tl_dupr _⟩, List.forall_mem_cons.mpr ⟨⟨f_getI_5_8 d155_59 wd_624, tl_getI _ _ _⟩, List.forall_mem_cons.mpr ⟨⟨s_aload_n d155_62 rfl, tl_aload _ _⟩, List.forall_mem_cons.mpr ⟨⟨f_getI_5_9 d155_63 wd_625, tl_getI _ _ _⟩, List.forall_mem_cons.mpr ⟨⟨s_ifeq d155_66 rfl, tl_ifeq _ _⟩, List.forall_mem_cons.mpr ⟨⟨s_iconst d155_69 rfl, tl_push _ _⟩, List.forall_mem_cons.mpr ⟨⟨s_goto d155_70 rfl, tl_goto _⟩, List.forall_mem_cons.mpr ⟨⟨s_iconst d155_73 rfl, tl_push _ _⟩, fun _ h => absurd h List.not_mem_nil⟩⟩⟩⟩⟩⟩⟩⟩⟩⟩⟩⟩⟩⟩⟩⟩⟩⟩⟩⟩⟩⟩⟩⟩⟩⟩⟩⟩⟩⟩⟩⟩⟩⟩⟩⟩⟩⟩⟩⟩
/-- RX5.readsOrder -/
def t155_1 : List (Nat × pO) := [(74, o_iadd 75), (75, o_putI 5 8 78), (78, o_aload 0 79), (79, o_getR 5 10 82), (82, o_iload 1 83), (83, o_iload 2 84), (84, o_iast 85), (85, o_aload 0 86), (86, o_getR 5 10 89), (89, o_iload 1 90), (90, o_push (.int (nI 1)) 91), (91, o_iadd 92), (92, o_iload 2 93), (93, o_push (.int (nI 99)) 95), (95, o_iceq 104 98), (98, o_iload 2 99), (99, o_push (.int (nI 111)) 101), (101, o_icne 108 104), (104, o_push (.int (nI 0)) 105), (105, o_goto 112), (108, o_aload 0 109), (109, o_invV 5 154 0 112), (112, o_iast 113), (113, o_aload 0 114), (114, o_getR 5 10 117), (117, o_iload 1 118), (118, o_push (.int (nI 2)) 119), (119, o_iadd 120), (120, o_push (.int (nI 0)) 121), (121, o_iast 122), (122, o_aload 0 123), (123, o_getR 5 10 126), (126, o_iload 1 127), (127, o_push (.int (nI 3)) 128), (128, o_iadd 129), (129, o_push (.int (nI 0)) 130), (130, o_iast 131), (131, o_iload 2 132), (132, o_push (.int (nI 115)) 134), (134, o_iceq 143 137)]
theorem ok155_1 : ∀ q ∈ t155_1, p_Z 155 q := List.forall_mem_cons.mpr ⟨⟨s_iadd d155_74, tl_iadd _⟩, List.forall_mem_cons.mpr ⟨⟨f_putI_5_8 d155_75 wd_624, tl_putI _ _ _⟩, List.forall_mem_cons.mpr ⟨⟨s_aload_n d155_78 rfl, tl_aload _ _⟩, List.forall_mem_cons.mpr ⟨⟨f_getR_5_10 d155_79 wd_626, tl_getR _ _ _⟩, List.forall_mem_cons.mpr ⟨⟨s_iload_n d155_82 rfl, tl_iload _ _⟩, List.forall_mem_cons.mpr ⟨⟨s_iload_n d155_83 rfl, tl_iload _ _⟩, List.forall_mem_cons.mpr ⟨⟨s_iast d155_84, tl_iast _⟩, List.forall_mem_cons.mpr ⟨⟨s_aload_n d155_85 rfl, tl_aload _ _⟩, List.forall_mem_cons.mpr ⟨⟨f_getR_5_10 d155_86 wd_626, tl_getR _ _ _⟩, List.forall_mem_cons.mpr ⟨⟨s_iload_n d155_89 rfl, tl_iload _ _⟩, List.forall_mem_cons.mpr ⟨⟨s_iconst d155_90 rfl, tl_push _ _⟩, List.forall_mem_cons.mpr ⟨⟨s_iadd d155_91, tl_iadd _⟩, List.forall_mem_cons.mpr ⟨⟨s_iload_n d155_92 rfl, tl_iload _ _⟩, List.forall_mem_cons.mpr ⟨⟨s_bipush d155_93 rfl, tl_push _ _⟩, List.forall_mem_cons.mpr ⟨⟨s_iceq d155_95 rfl, tl_iceq _ _⟩, List.forall_mem_cons.mpr ⟨⟨s_iload_n d155_98 rfl, tl_iload _ _⟩, List.forall_mem_cons.mpr ⟨⟨s_bipush d155_99 rfl, tl_push _ _⟩, List.forall_mem_cons.mpr ⟨⟨s_icne d155_101 rfl, tl_icne _ _⟩, List.forall_mem_cons.mpr ⟨⟨s_iconst d155_104 rfl, tl_push _ _⟩, List.forall_mem_cons.mpr ⟨⟨s_goto d155_105 rfl, tl_goto _⟩, List.forall_mem_cons.mpr ⟨⟨s_aload_n d155_108 rfl, tl_aload _ _⟩, List.forall_mem_cons.mpr ⟨⟨q_invV_154 d155_109 wd_911, tl_invV _ _ _ _⟩, List.forall_mem_cons.mpr ⟨⟨s_iast d155_112, tl_iast _⟩, List.forall_mem_cons.mpr ⟨⟨s_aload_n d155_113 rfl, tl_aload _ _⟩, List.forall_mem_cons.mpr ⟨⟨f_getR_5_10 d155_114 wd_626, tl_getR _ _ _⟩, List.forall_mem_cons.mpr ⟨⟨s_iload_n d155_117 rfl, tl_iload _ _⟩, List.forall_mem_cons.mpr ⟨⟨s_iconst d155_118 rfl, tl_push _ _⟩, List.forall_mem_cons.mpr ⟨⟨s_iadd d155_119, tl_iadd _⟩, List.forall_mem_cons.mpr ⟨⟨s_iconst d155_120 rfl, tl_push _ _⟩, List.forall_mem_cons.mpr ⟨⟨s_iast d155_121, tl_iast _⟩, List.forall_mem_cons.mpr ⟨⟨s_aload_n d155_122 rfl, tl_aload _ _⟩, List.forall_mem_cons.mpr ⟨⟨f_getR_5_10 d155_123 wd_626, tl_getR _ _ _⟩, List.forall_mem_cons.mpr ⟨⟨s_iload_n d155_126 rfl, tl_iload _ _⟩, List.forall_mem_cons.mpr ⟨⟨s_iconst d155_127 rfl, tl_push _ _⟩, List.forall_mem_cons.mpr ⟨⟨s_iadd d155_128, tl_iadd _⟩, List.forall_mem_cons.mpr ⟨⟨s_iconst d155_129 rfl, tl_push _ _⟩, List.forall_mem_cons.mpr ⟨⟨s_iast d155_130, tl_iast _⟩, List.forall_mem_cons.mpr ⟨⟨s_iload_n d155_131 rfl, tl_iload _ _⟩, List.forall_mem_cons.mpr ⟨⟨s_bipush d155_132 rfl, tl_push _ _⟩, List.forall_mem_cons.mpr ⟨⟨s_iceq d155_134 rfl, tl_iceq _ _⟩, fun _ h => absurd h List.not_mem_nil⟩⟩⟩⟩⟩⟩⟩⟩⟩⟩⟩⟩⟩⟩⟩⟩⟩⟩⟩⟩⟩⟩⟩⟩⟩⟩⟩⟩⟩⟩⟩⟩⟩⟩⟩⟩⟩⟩⟩⟩
/-- RX5.readsOrder -/
def t155_2 : List (Nat × pO) := [(137, o_iload 2 138), (138, o_push (.int (nI 120)) 140), (140, o_icne 172 143), (143, o_aload 0 144), (144, o_iload 2 145), (145, o_push (.int (nI 115)) 147), (147, o_icne 155 150), (150, o_push (.int (nI 64)) 152), (152, o_goto 157), (155, o_push (.int (nI 126)) 157), (157, o_invV 5 153 1 160), (160, o_aload 0 161), (161, o_getR 5 10 164), (164, o_iload 1 165), (165, o_push (.int (nI 2)) 166), (166, o_iadd 167), (167, o_aload 0 168), (168, o_invV 5 154 0 171), (171, o_iast 172), (172, o_aload 0 173), (173, o_getI 5 9 176), (176, o_ifeq 235 179), (179, o_iload 2 180), (180, o_push (.int (nI 120)) 182), (182, o_icne 235 185), (185, o_aload 0 186), (186, o_invV 5 152 0 189), (189, o_push (.int (nI 43)) 191), (191, o_iceq 203 194), (194, o_aload 0 195), (195, o_invV 5 152 0 198), (198, o_push (.int (nI 45)) 200), (200, o_icne 235 203), (203, o_aload 0 204), (204, o_getR 5 10 207), (207, o_iload 1 208), (208, o_push (.int (nI 3)) 209), (209, o_iadd 210), (210, o_aload 0 211), (211, o_invV 5 152 0 214)]
theorem ok155_2 : ∀ q ∈ t155_2, p_Z 155 q := List.forall_mem_cons.mpr ⟨⟨s_iload_n d155_137 rfl, tl_iload _ _⟩, List.forall_mem_cons.mpr ⟨⟨s_bipush d155_138 rfl, tl_push _ _⟩, List.forall_mem_cons.mpr ⟨⟨s_icne d155_140 rfl, tl_icne _ _⟩, List.forall_mem_cons.mpr ⟨⟨s_aload_n d155_143 rfl, tl_aload _ _⟩, List.forall_mem_cons.mpr ⟨⟨s_iload_n d155_144 rfl, tl_iload _ _⟩, List.forall_mem_cons.mpr ⟨⟨s_bipush d155_145 rfl, tl_push _ _⟩, List.forall_mem_cons.mpr ⟨⟨s_icne d155_147 rfl, tl_icne _ _⟩, List.forall_mem_cons.mpr ⟨⟨s_bipush d155_150 rfl, tl_push _ _⟩, List.forall_mem_cons.mpr ⟨⟨s_goto d155_152 rfl, tl_goto _⟩, List.forall_mem_cons.mpr ⟨⟨s_bipush d155_155 rfl, tl_push _ _⟩, List.forall_mem_cons.mpr ⟨⟨q_invV_153 d155_157 wd_915, tl_invV _ _ _ _⟩, List.forall_mem_cons.mpr ⟨⟨s_aload_n d155_160 rfl, tl_aload _ _⟩, List.forall_mem_cons.mpr ⟨⟨f_getR_5_10 d155_161 wd_626, tl_getR _ _ _⟩, List.forall_mem_cons.mpr ⟨⟨s_iload_n d155_164 rfl, tl_iload _ _⟩, List.forall_mem_cons.mpr ⟨⟨s_iconst d155_165 rfl, tl_push _ _⟩, List.forall_mem_cons.mpr ⟨⟨s_iadd d155_166, tl_iadd _⟩, List.forall_mem_cons.mpr ⟨⟨s_aload_n d155_167 rfl, tl_aload _ _⟩, List.forall_mem_cons.mpr ⟨⟨q_invV_154 d155_168 wd_911, tl_invV _ _ _ _⟩, List.forall_mem_cons.mpr ⟨⟨s_iast d155_171, tl_iast _⟩, List.forall_mem_cons.mpr ⟨⟨s_aload_n d155_172 rfl, tl_aload _ _⟩, List.forall_mem_cons.mpr ⟨⟨f_getI_5_9 d155_173 wd_625, tl_getI _ _ _⟩, List.forall_mem_cons.mpr ⟨⟨s_ifeq d155_176 rfl, tl_ifeq _ _⟩, List.forall_mem_cons.mpr ⟨⟨s_iload_n d155_179 rfl, tl_iload _ _⟩, List.forall_mem_cons.mpr ⟨⟨s_bipush d155_180 rfl, tl_push _ _⟩, List.forall_mem_cons.mpr ⟨⟨s_icne d155_182 rfl, tl_icne _ _⟩, List.forall_mem_cons.mpr ⟨⟨s_aload_n d155_185 rfl, tl_aload _ _⟩, List.forall_mem_cons.mpr ⟨⟨q_invV_152 d155_186 wd_907, tl_invV _ _ _ _⟩, List.forall_mem_cons.mpr ⟨⟨s_bipush d155_189 rfl, tl_push _ _⟩, List.forall_mem_cons.mpr ⟨⟨s_iceq d155_191 rfl, tl_iceq _ _⟩, List.forall_mem_cons.mpr ⟨⟨s_aload_n d155_194 rfl, tl_aload _ _⟩, List.forall_mem_cons.mpr ⟨⟨q_invV_152 d155_195 wd_907, tl_invV _ _ _ _⟩, List.forall_mem_cons.mpr ⟨⟨s_bipush d155_198 rfl, tl_push _ _⟩, List.forall_mem_cons.mpr ⟨⟨s_icne d155_200 rfl, tl_icne _ _⟩, List.forall_mem_cons.mpr ⟨⟨s_aload_n d155_203 rfl, tl_aload _ _⟩, List.forall_mem_cons.mpr ⟨⟨f_getR_5_10 d155_204 wd_626, tl_getR _ _ _⟩, List.forall_mem_cons.mpr ⟨⟨s_iload_n d155_207 rfl, tl_iload _ _⟩, List.forall_mem_cons.mpr ⟨⟨s_iconst d155_208 rfl, tl_push _ _⟩, List.forall_mem_cons.mpr ⟨⟨s_iadd d155_209, tl_iadd _⟩, List.forall_mem_cons.mpr ⟨⟨s_aload_n d155_210 rfl, tl_aload _ _⟩, List.forall_mem_cons.mpr ⟨⟨q_invV_152 d155_211 wd_907, tl_invV _ _ _ _⟩, fun _ h => absurd h List.not_mem_nil⟩⟩⟩⟩⟩⟩⟩⟩⟩⟩⟩⟩⟩⟩⟩⟩⟩⟩⟩⟩⟩⟩⟩⟩⟩⟩⟩⟩⟩⟩⟩⟩⟩⟩⟩⟩⟩⟩⟩⟩
/-- RX5.readsOrder -/
def t155_3 : List (Nat × pO) := [(214, o_push (.int (nI 43)) 216), (216, o_icne 223 219), (219, o_push (.int (nI 1)) 220), (220, o_goto 224), (223, o_push (.int (nM 1)) 224), (224, o_iast 225), (225, o_aload 0 226), (226, o_dupr 227), (227, o_getI 5 8 230), (230, o_push (.int (nI 1)) 231), (231, o_iadd 232), (232, o_putI 5 8 235), (235, o_aload 0 236), (236, o_dupr 237), (237, o_getI 5 11 240), (240, o_aload 0 241), (241, o_getI 5 9 244), (244, o_ifeq 251 247), (247, o_push (.int (nI 1)) 248), (248, o_goto 252), (251, o_push (.int (nI 0)) 252), (252, o_iadd 253), (253, o_putI 5 11 256), (256, o_vret)]
theorem ok155_3 : ∀ q ∈ t155_3, p_Z 155 q := List.forall_mem_cons.mpr ⟨⟨s_bipush d155_214 rfl, tl_push _ _⟩, List.forall_mem_cons.mpr ⟨⟨s_icne d155_216 rfl, tl_icne _ _⟩, List.forall_mem_cons.mpr ⟨⟨s_iconst d155_219 rfl, tl_push _ _⟩, List.forall_mem_cons.mpr ⟨⟨s_goto d155_220 rfl, tl_goto _⟩, List.forall_mem_cons.mpr ⟨⟨s_iconst d155_223 rfl, tl_push _ _⟩, List.forall_mem_cons.mpr ⟨⟨s_iast d155_224, tl_iast _⟩, List.forall_mem_cons.mpr ⟨⟨s_aload_n d155_225 rfl, tl_aload _ _⟩, List.forall_mem_cons.mpr ⟨⟨s_dupr d155_226, tl_dupr _⟩, List.forall_mem_cons.mpr ⟨⟨f_getI_5_8 d155_227 wd_624, tl_getI _ _ _⟩, List.forall_mem_cons.mpr ⟨⟨s_iconst d155_230 rfl, tl_push _ _⟩, List.forall_mem_cons.mpr ⟨⟨s_iadd d155_231, tl_iadd _⟩, List.forall_mem_cons.mpr ⟨⟨f_putI_5_8 d155_232 wd_624, tl_putI _ _ _⟩, List.forall_mem_cons.mpr ⟨⟨s_aload_n d155_235 rfl, tl_aload _ _⟩, List.forall_mem_cons.mpr ⟨⟨s_dupr d155_236, tl_dupr _⟩, List.forall_mem_cons.mpr ⟨⟨f_getI_5_11 d155_237 wd_627, tl_getI _ _ _⟩, List.forall_mem_cons.mpr ⟨⟨s_aload_n d155_240 rfl, tl_aload _ _⟩, List.forall_mem_cons.mpr ⟨⟨f_getI_5_9 d155_241 wd_625, tl_getI _ _ _⟩, List.forall_mem_cons.mpr ⟨⟨s_ifeq d155_244 rfl, tl_ifeq _ _⟩, List.forall_mem_cons.mpr ⟨⟨s_iconst d155_247 rfl, tl_push _ _⟩, List.forall_mem_cons.mpr ⟨⟨s_goto d155_248 rfl, tl_goto _⟩, List.forall_mem_cons.mpr ⟨⟨s_iconst d155_251 rfl, tl_push _ _⟩, List.forall_mem_cons.mpr ⟨⟨s_iadd d155_252, tl_iadd _⟩, List.forall_mem_cons.mpr ⟨⟨f_putI_5_11 d155_253 wd_627, tl_putI _ _ _⟩, List.forall_mem_cons.mpr ⟨⟨s_vret d155_256 rfl, tl_vret⟩, fun _ h => absurd h List.not_mem_nil⟩⟩⟩⟩⟩⟩⟩⟩⟩⟩⟩⟩⟩⟩⟩⟩⟩⟩⟩⟩⟩⟩⟩⟩
def t155 : List (Nat × pO) := t155_0 ++ (t155_1 ++ (t155_2 ++ (t155_3)))
theorem ok155 : ∀ q ∈ t155, p_Z 155 q := List.forall_mem_append.mpr ⟨ok155_0, List.forall_mem_append.mpr ⟨ok155_1, List.forall_mem_append.mpr ⟨ok155_2, ok155_3⟩⟩⟩
theorem d156_0 : decode (pB 156) 0 = .ok (.aload_n 0, 1) := by decide +kernel
theorem d156_1 : decode (pB 156) 1 = .ok (.iconst 0, 1) := by decide +kernel
theorem d156_2 : decode (pB 156) 2 = .ok (.putfield 174, 3) := by decide +kernel
theorem d156_5 : decode (pB 156) 5 = .ok (.aload_n 0, 1) := by decide +kernel
theorem d156_6 : decode (pB 156) 6 = .ok (.iconst 0, 1) := by decide +kernel
theorem d156_7 : decode (pB 156) 7 = .ok (.putfield 184, 3) := by decide +kernel
theorem d156_10 : decode (pB 156) 10 = .ok (.aload_n 0, 1) := by decide +kernel
theorem d156_11 : decode (pB 156) 11 = .ok (.invokevirtual 193, 3) := by decide +kernel
theorem d156_14 : decode (pB 156) 14 = .ok (.aload_n 0, 1) := by decide +kernel
theorem d156_15 : decode (pB 156) 15 = .ok (.getfield 177, 3) := by decide +kernel
theorem d156_18 : decode (pB 156) 18 = .ok (.ifCond .eq 34, 3) := by decide +kernel
theorem d156_21 : decode (pB 156) 21 = .ok (.aload_n 0, 1) := by decide +kernel
theorem d156_22 : decode (pB 156) 22 = .ok (.getfield 174, 3) := by decide +kernel
theorem d156_25 : decode (pB 156) 25 = .ok (.aload_n 0, 1) := by decide +kernel
theorem d156_26 : decode (pB 156) 26 = .ok (.getfield 140, 3) := by decide +kernel
theorem d156_29 : decode (pB 156) 29 = .ok (.if_icmp .ge 23, 3) := by decide +kernel
theorem d156_32 : decode (pB 156) 32 = .ok (.aload_n 0, 1) := by decide +kernel
theorem d156_33 : decode (pB 156) 33 = .ok (.bipush 59, 2) := by decide +kernel
theorem d156_35 : decode (pB 156) 35 = .ok (.invokevirtual 190, 3) := by decide +kernel
theorem d156_38 : decode (pB 156) 38 = .ok (.aload_n 0, 1) := by decide +kernel
theorem d156_39 : decode (pB 156) 39 = .ok (.getfield 177, 3) := by decide +kernel
theorem d156_42 : decode (pB 156) 42 = .ok (.ifCond .eq (-28), 3) := by decide +kernel
theorem d156_45 : decode (pB 156) 45 = .ok (.aload_n 0, 1) := by decide +kernel
theorem d156_46 : decode (pB 156) 46 = .ok (.invokevirtual 193, 3) := by decide +kernel
theorem d156_49 : decode (pB 156) 49 = .ok (.goto (-35), 3) := by decide +kernel
theorem d156_52 : decode (pB 156) 52 = .ok (.aload_n 0, 1) := by decide +kernel
theorem d156_53 : decode (pB 156) 53 = .ok (.getfield 177, 3) := by decide +kernel
theorem d156_56 : decode (pB 156) 56 = .ok (.ifCond .eq 8, 3) := by decide +kernel
theorem d156_59 : decode (pB 156) 59 = .ok (.bipush (-6), 2) := by decide +kernel
theorem d156_61 : decode (pB 156) 61 = .ok (.goto 7, 3) := by decide +kernel
theorem d156_64 : decode (pB 156) 64 = .ok (.aload_n 0, 1) := by decide +kernel
theorem d156_65 : decode (pB 156) 65 = .ok (.getfield 174, 3) := by decide +kernel
theorem d156_68 : decode (pB 156) 68 = .ok (.ireturn, 1) := by decide +kernel
/-- RX5.reads -/
def t156_0 : List (Nat × pO) := [(0, o_aload 0 1), (1, o_push (.int (nI 0)) 2), (2, o_putI 5 8 5), (5, o_aload 0 6), (6, o_push (.int (nI 0)) 7), (7, o_putI 5 11 10), (10, o_aload 0 11), (11, o_invV 5 155 0 14), (14, o_aload 0 15), (15, o_getI 5 9 18), (18, o_ifeq 52 21), (21, o_aload 0 22), (22, o_getI 5 8 25), (25, o_aload 0 26), (26, o_getI 5 7 29), (29, o_icge 52 32), (32, o_aload 0 33), (33, o_push (.int (nI 59)) 35), (35, o_invV 5 153 1 38), (38, o_aload 0 39), (39, o_getI 5 9 42), (42, o_ifeq 14 45), (45, o_aload 0 46), (46, o_invV 5 155 0 49), (49, o_goto 14), (52, o_aload 0 53), (53, o_getI 5 9 56), (56, o_ifeq 64 59), (59, o_push (.int (nM 6)) 61), (61, o_goto 68), (64, o_aload 0 65), (65, o_getI 5 8 68), (68, o_iret)]
theorem ok156_0 : ∀ q ∈ t156_0, p_Z 156 q := List.forall_mem_cons.mpr ⟨⟨s_aload_n d156_0 rfl, tl_aload _ _⟩, List.forall_mem_cons.mpr ⟨⟨s_iconst d156_1 rfl, tl_push _ _⟩, List.forall_mem_cons.mpr ⟨⟨f_putI_5_8 d156_2 wd_624, tl_putI _ _ _⟩, List.forall_mem_cons.mpr ⟨⟨s_aload_n d156_5 rfl, tl_aload _ _⟩, List.forall_mem_cons.mpr ⟨⟨s_iconst d156_6 rfl, tl_push _ _⟩, List.forall_mem_cons.mpr ⟨⟨f_putI_5_11 d156_7 wd_627, tl_putI _ _ _⟩, List.forall_mem_cons.mpr ⟨⟨s_aload_n d156_10 rfl, tl_aload _ _⟩, List.forall_mem_cons.mpr ⟨⟨q_invV_155 d156_11 wd_903, tl_invV _ _ _ _⟩, List.forall_mem_cons.mpr ⟨⟨s_aload_n d156_14 rfl, tl_aload _ _⟩, List.forall_mem_cons.mpr ⟨⟨f_getI_5_9 d156_15 wd_625, tl_getI _ _ _⟩, List.forall_mem_cons.mpr ⟨⟨s_ifeq d156_18 rfl, tl_ifeq _ _⟩, List.forall_mem_cons.mpr ⟨⟨s_aload_n d156_21 rfl, tl_aload _ _⟩, List.forall_mem_cons.mpr ⟨⟨f_getI_5_8 d156_22 wd_624, tl_getI _ _ _⟩, List.forall_mem_cons.mpr ⟨⟨s_aload_n d156_25 rfl, tl_aload _ _⟩, List.forall_mem_cons.mpr ⟨⟨f_getI_5_7 d156_26 wd_623, tl_getI _ _ _⟩, List.forall_mem_cons.mpr ⟨⟨s_icge d156_29 rfl, tl_icge _ _⟩, List.forall_mem_cons.mpr ⟨⟨s_aload_n d156_32 rfl, tl_aload _ _⟩, List.forall_mem_cons.mpr ⟨⟨s_bipush d156_33 rfl, tl_push _ _⟩, List.forall_mem_cons.mpr ⟨⟨q_invV_153 d156_35 wd_915, tl_invV _ _ _ _⟩, List.forall_mem_cons.mpr ⟨⟨s_aload_n d156_38 rfl, tl_aload _ _⟩, List.forall_mem_cons.mpr ⟨⟨f_getI_5_9 d156_39 wd_625, tl_getI _ _ _⟩, List.forall_mem_cons.mpr ⟨⟨s_ifeq d156_42 rfl, tl_ifeq _ _⟩, List.forall_mem_cons.mpr ⟨⟨s_aload_n d156_45 rfl, tl_aload _ _⟩, List.forall_mem_cons.mpr ⟨⟨q_invV_155 d156_46 wd_903, tl_invV _ _ _ _⟩, List.forall_mem_cons.mpr ⟨⟨s_goto d156_49 rfl, tl_goto _⟩, List.forall_mem_cons.mpr ⟨⟨s_aload_n d156_52 rfl, tl_aload _ _⟩, List.forall_mem_cons.mpr ⟨⟨f_getI_5_9 d156_53 wd_625, tl_getI _ _ _⟩, List.forall_mem_cons.mpr ⟨⟨s_ifeq d156_56 rfl, tl_ifeq _ _⟩, List.forall_mem_cons.mpr ⟨⟨s_bipush d156_59 rfl, tl_push _ _⟩, List.forall_mem_cons.mpr ⟨⟨s_goto d156_61 rfl, tl_goto _⟩, List.forall_mem_cons.mpr ⟨⟨s_aload_n d156_64 rfl, tl_aload _ _⟩, List.forall_mem_cons.mpr ⟨⟨f_getI_5_8 d156_65 wd_624, tl_getI _ _ _⟩, List.forall_mem_cons.mpr ⟨⟨s_iret d156_68 rfl, tl_iret⟩, fun _ h => absurd h List.not_mem_nil⟩⟩⟩⟩⟩⟩⟩⟩⟩⟩⟩⟩⟩⟩⟩⟩⟩⟩⟩⟩⟩⟩⟩⟩⟩⟩⟩⟩⟩⟩⟩⟩⟩
def t156 : List (Nat × pO) := t156_0
theorem ok156 : ∀ q ∈ t156, p_Z 156 q := ok156_0
theorem d157_0 : decode (pB 157) 0 = .ok (.aload_n 0, 1) := by decide +kernel
theorem d157_1 : decode (pB 157) 1 = .ok (.iconst 0, 1) := by decide +kernel
theorem d157_2 : decode (pB 157) 2 = .ok (.putfield 44, 3) := by decide +kernel
theorem d157_5 : decode (pB 157) 5 = .ok (.aload_n 0, 1) := by decide +kernel
theorem d157_6 : decode (pB 157) 6 = .ok (.invokevirtual 196, 3) := by decide +kernel
theorem d157_9 : decode (pB 157) 9 = .ok (.ireturn, 1) := by decide +kernel
/-- RX5.fault -/
def t157_0 : List (Nat × pO) := [(0, o_aload 0 1), (1, o_push (.int (nI 0)) 2), (2, o_putI 5 0 5), (5, o_aload 0 6), (6, o_invV 5 156 0 9), (9, o_iret)]
theorem ok157_0 : ∀ q ∈ t157_0, p_Z 157 q := List.forall_mem_cons.mpr ⟨⟨s_aload_n d157_0 rfl, tl_aload _ _⟩, List.forall_mem_cons.mpr ⟨⟨s_iconst d157_1 rfl, tl_push _ _⟩, List.forall_mem_cons.mpr ⟨⟨f_putI_5_0 d157_2 wd_616, tl_putI _ _ _⟩, List.forall_mem_cons.mpr ⟨⟨s_aload_n d157_5 rfl, tl_aload _ _⟩, List.forall_mem_cons.mpr ⟨⟨q_invV_156 d157_6 wd_899, tl_invV _ _ _ _⟩, List.forall_mem_cons.mpr ⟨⟨s_iret d157_9 rfl, tl_iret⟩, fun _ h => absurd h List.not_mem_nil⟩⟩⟩⟩⟩⟩
def t157 : List (Nat × pO) := t157_0
theorem ok157 : ∀ q ∈ t157, p_Z 157 q := ok157_0
theorem d158_0 : decode (pB 158) 0 = .ok (.iload_n 1, 1) := by decide +kernel
theorem d158_1 : decode (pB 158) 1 = .ok (.lookupswitch 95 #[(99, 51), (102, 89), (115, 69), (117, 76), (120, 82)], 51) := by decide +kernel
theorem d158_52 : decode (pB 158) 52 = .ok (.aload_n 0, 1) := by decide +kernel
theorem d158_53 : decode (pB 158) 53 = .ok (.getfield 7, 3) := by decide +kernel
theorem d158_56 : decode (pB 158) 56 = .ok (.iconst 3, 1) := by decide +kernel
theorem d158_57 : decode (pB 158) 57 = .ok (.iaload, 1) := by decide +kernel
theorem d158_58 : decode (pB 158) 58 = .ok (.bipush 12, 2) := by decide +kernel
theorem d158_60 : decode (pB 158) 60 = .ok (.if_icmp .ne 8, 3) := by decide +kernel
theorem d158_63 : decode (pB 158) 63 = .ok (.bipush (-4), 2) := by decide +kernel
theorem d158_65 : decode (pB 158) 65 = .ok (.goto 4, 3) := by decide +kernel
theorem d158_68 : decode (pB 158) 68 = .ok (.iconst 0, 1) := by decide +kernel
theorem d158_69 : decode (pB 158) 69 = .ok (.ireturn, 1) := by decide +kernel
theorem d158_70 : decode (pB 158) 70 = .ok (.aload_n 0, 1) := by decide +kernel
theorem d158_71 : decode (pB 158) 71 = .ok (.iload_n 2, 1) := by decide +kernel
theorem d158_72 : decode (pB 158) 72 = .ok (.iload_n 3, 1) := by decide +kernel
theorem d158_73 : decode (pB 158) 73 = .ok (.invokevirtual 106, 3) := by decide +kernel
theorem d158_76 : decode (pB 158) 76 = .ok (.ireturn, 1) := by decide +kernel
theorem d158_77 : decode (pB 158) 77 = .ok (.aload_n 0, 1) := by decide +kernel
theorem d158_78 : decode (pB 158) 78 = .ok (.iload_n 2, 1) := by decide +kernel
theorem d158_79 : decode (pB 158) 79 = .ok (.invokevirtual 109, 3) := by decide +kernel
theorem d158_82 : decode (pB 158) 82 = .ok (.ireturn, 1) := by decide +kernel
theorem d158_83 : decode (pB 158) 83 = .ok (.aload_n 0, 1) := by decide +kernel
theorem d158_84 : decode (pB 158) 84 = .ok (.iload_n 2, 1) := by decide +kernel
theorem d158_85 : decode (pB 158) 85 = .ok (.iload_n 3, 1) := by decide +kernel
theorem d158_86 : decode (pB 158) 86 = .ok (.invokevirtual 115, 3) := by decide +kernel
theorem d158_89 : decode (pB 158) 89 = .ok (.ireturn, 1) := by decide +kernel
theorem d158_90 : decode (pB 158) 90 = .ok (.aload_n 0, 1) := by decide +kernel
theorem d158_91 : decode (pB 158) 91 = .ok (.iload_n 2, 1) := by decide +kernel
theorem d158_92 : decode (pB 158) 92 = .ok (.invokevirtual 131, 3) := by decide +kernel
theorem d158_95 : decode (pB 158) 95 = .ok (.ireturn, 1) := by decide +kernel
theorem d158_96 : decode (pB 158) 96 = .ok (.aload_n 0, 1) := by decide +kernel
theorem d158_97 : decode (pB 158) 97 = .ok (.getfield 7, 3) := by decide +kernel
theorem d158_100 : decode (pB 158) 100 = .ok (.iconst 4, 1) := by decide +kernel
theorem d158_101 : decode (pB 158) 101 = .ok (.iaload, 1) := by decide +kernel
theorem d158_102 : decode (pB 158) 102 = .ok (.ifCond .ne 8, 3) := by decide +kernel
theorem d158_105 : decode (pB 158) 105 = .ok (.bipush (-5), 2) := by decide +kernel
theorem d158_107 : decode (pB 158) 107 = .ok (.goto 4, 3) := by decide +kernel
theorem d158_110 : decode (pB 158) 110 = .ok (.iconst 0, 1) := by decide +kernel
theorem d158_111 : decode (pB 158) 111 = .ok (.ireturn, 1) := by decide +kernel
/-- RX5.refuses -/
def t158_0 : List (Nat × pO) := [(0, o_iload 1 1), (1, o_switch [((nI 99), 52), ((nI 102), 90), ((nI 115), 70), ((nI 117), 77), ((nI 120), 83)] 96), (52, o_aload 0 53), (53, o_getR 5 1 56), (56, o_push (.int (nI 3)) 57), (57, o_iald 58), (58, o_push (.int (nI 12)) 60), (60, o_icne 68 63), (63, o_push (.int (nM 4)) 65), (65, o_goto 69), (68, o_push (.int (nI 0)) 69), (69, o_iret), (70, o_aload 0 71), (71, o_iload 2 72), (72, o_iload 3 73), (73, o_invV 5 117 2 76), (76, o_iret), (77, o_aload 0 78), (78, o_iload 2 79), (79, o_invV 5 119 1 82), (82, o_iret), (83, o_aload 0 84), (84, o_iload 2 85), (85, o_iload 3 86), (86, o_invV 5 123 2 89), (89, o_iret), (90, o_aload 0 91), (91, o_iload 2 92), (92, o_invV 5 127 1 95), (95, o_iret), (96, o_aload 0 97), (97, o_getR 5 1 100), (100, o_push (.int (nI 4)) 101), (101, o_iald 102), (102, o_ifne 110 105), (105, o_push (.int (nM 5)) 107), (107, o_goto 111), (110, o_push (.int (nI 0)) 111), (111, o_iret)]
theorem ok158_0 : ∀ q ∈ t158_0, p_Z 158 q := List.forall_mem_cons.mpr ⟨⟨s_iload_n d158_0 rfl, tl_iload _ _⟩, List.forall_mem_cons.mpr ⟨⟨s_lookup d158_1 (by decide +kernel) rfl (by decide +kernel) (fun x hx => p_look (by decide +kernel) hx), tl_switch _ _⟩, List.forall_mem_cons.mpr ⟨⟨s_aload_n d158_52 rfl, tl_aload _ _⟩, List.forall_mem_cons.mpr ⟨⟨f_getR_5_1 d158_53 wd_617, tl_getR _ _ _⟩, List.forall_mem_cons.mpr ⟨⟨s_iconst d158_56 rfl, tl_push _ _⟩, List.forall_mem_cons.mpr ⟨⟨s_iald d158_57, tl_iald _⟩, List.forall_mem_cons.mpr ⟨⟨s_bipush d158_58 rfl, tl_push _ _⟩, List.forall_mem_cons.mpr ⟨⟨s_icne d158_60 rfl, tl_icne _ _⟩, List.forall_mem_cons.mpr ⟨⟨s_bipush d158_63 rfl, tl_push _ _⟩, List.forall_mem_cons.mpr ⟨⟨s_goto d158_65 rfl, tl_goto _⟩, List.forall_mem_cons.mpr ⟨⟨s_iconst d158_68 rfl, tl_push _ _⟩, List.forall_mem_cons.mpr ⟨⟨s_iret d158_69 rfl, tl_iret⟩, List.forall_mem_cons.mpr ⟨⟨s_aload_n d158_70 rfl, tl_aload _ _⟩, List.forall_mem_cons.mpr ⟨⟨s_iload_n d158_71 rfl, tl_iload _ _⟩, List.forall_mem_cons.mpr ⟨⟨s_iload_n d158_72 rfl, tl_iload _ _⟩, List.forall_mem_cons.mpr ⟨⟨q_invV_117 d158_73 wd_698, tl_invV _ _ _ _⟩, List.forall_mem_cons.mpr ⟨⟨s_iret d158_76 rfl, tl_iret⟩, List.forall_mem_cons.mpr ⟨⟨s_aload_n d158_77 rfl, tl_aload _ _⟩, List.forall_mem_cons.mpr ⟨⟨s_iload_n d158_78 rfl, tl_iload _ _⟩, List.forall_mem_cons.mpr ⟨⟨q_invV_119 d158_79 wd_718, tl_invV _ _ _ _⟩, List.forall_mem_cons.mpr ⟨⟨s_iret d158_82 rfl, tl_iret⟩, List.forall_mem_cons.mpr ⟨⟨s_aload_n d158_83 rfl, tl_aload _ _⟩, List.forall_mem_cons.mpr ⟨⟨s_iload_n d158_84 rfl, tl_iload _ _⟩, List.forall_mem_cons.mpr ⟨⟨s_iload_n d158_85 rfl, tl_iload _ _⟩, List.forall_mem_cons.mpr ⟨⟨q_invV_123 d158_86 wd_734, tl_invV _ _ _ _⟩, List.forall_mem_cons.mpr ⟨⟨s_iret d158_89 rfl, tl_iret⟩, List.forall_mem_cons.mpr ⟨⟨s_aload_n d158_90 rfl, tl_aload _ _⟩, List.forall_mem_cons.mpr ⟨⟨s_iload_n d158_91 rfl, tl_iload _ _⟩, List.forall_mem_cons.mpr ⟨⟨q_invV_127 d158_92 wd_750, tl_invV _ _ _ _⟩, List.forall_mem_cons.mpr ⟨⟨s_iret d158_95 rfl, tl_iret⟩, List.forall_mem_cons.mpr ⟨⟨s_aload_n d158_96 rfl, tl_aload _ _⟩, List.forall_mem_cons.mpr ⟨⟨f_getR_5_1 d158_97 wd_617, tl_getR _ _ _⟩, List.forall_mem_cons.mpr ⟨⟨s_iconst d158_100 rfl, tl_push _ _⟩, List.forall_mem_cons.mpr ⟨⟨s_iald d158_101, tl_iald _⟩, List.forall_mem_cons.mpr ⟨⟨s_ifne d158_102 rfl, tl_ifne _ _⟩, List.forall_mem_cons.mpr ⟨⟨s_bipush d158_105 rfl, tl_push _ _⟩, List.forall_mem_cons.mpr ⟨⟨s_goto d158_107 rfl, tl_goto _⟩, List.forall_mem_cons.mpr ⟨⟨s_iconst d158_110 rfl, tl_push _ _⟩, List.forall_mem_cons.mpr ⟨⟨s_iret d158_111 rfl, tl_iret⟩, fun _ h => absurd h List.not_mem_nil⟩⟩⟩⟩⟩⟩⟩⟩⟩⟩⟩⟩⟩⟩⟩⟩⟩⟩⟩⟩⟩⟩⟩⟩⟩⟩⟩⟩⟩⟩⟩⟩⟩⟩⟩⟩⟩⟩⟩
def t158 : List (Nat × pO) := t158_0
theorem ok158 : ∀ q ∈ t158, p_Z 158 q := ok158_0
theorem d159_0 : decode (pB 159) 0 = .ok (.iload_n 1, 1) := by decide +kernel
theorem d159_1 : decode (pB 159) 1 = .ok (.lookupswitch 107 #[(99, 51), (102, 98), (115, 59), (117, 72), (120, 86)], 51) := by decide +kernel
theorem d159_52 : decode (pB 159) 52 = .ok (.aload_n 0, 1) := by decide +kernel
theorem d159_53 : decode (pB 159) 53 = .ok (.invokevirtual 96, 3) := by decide +kernel
theorem d159_56 : decode (pB 159) 56 = .ok (.pop, 1) := by decide +kernel
theorem d159_57 : decode (pB 159) 57 = .ok (.goto 56, 3) := by decide +kernel
theorem d159_60 : decode (pB 159) 60 = .ok (.aload_n 0, 1) := by decide +kernel
theorem d159_61 : decode (pB 159) 61 = .ok (.getfield 7, 3) := by decide +kernel
theorem d159_64 : decode (pB 159) 64 = .ok (.bipush 10, 2) := by decide +kernel
theorem d159_66 : decode (pB 159) 66 = .ok (.iload_n 2, 1) := by decide +kernel
theorem d159_67 : decode (pB 159) 67 = .ok (.iadd, 1) := by decide +kernel
theorem d159_68 : decode (pB 159) 68 = .ok (.iload_n 3, 1) := by decide +kernel
theorem d159_69 : decode (pB 159) 69 = .ok (.iastore, 1) := by decide +kernel
theorem d159_70 : decode (pB 159) 70 = .ok (.goto 43, 3) := by decide +kernel
theorem d159_73 : decode (pB 159) 73 = .ok (.aload_n 0, 1) := by decide +kernel
theorem d159_74 : decode (pB 159) 74 = .ok (.getfield 7, 3) := by decide +kernel
theorem d159_77 : decode (pB 159) 77 = .ok (.bipush 10, 2) := by decide +kernel
theorem d159_79 : decode (pB 159) 79 = .ok (.iload_n 2, 1) := by decide +kernel
theorem d159_80 : decode (pB 159) 80 = .ok (.iadd, 1) := by decide +kernel
theorem d159_81 : decode (pB 159) 81 = .ok (.bipush (-6), 2) := by decide +kernel
theorem d159_83 : decode (pB 159) 83 = .ok (.iastore, 1) := by decide +kernel
theorem d159_84 : decode (pB 159) 84 = .ok (.goto 29, 3) := by decide +kernel
theorem d159_87 : decode (pB 159) 87 = .ok (.aload_n 0, 1) := by decide +kernel
theorem d159_88 : decode (pB 159) 88 = .ok (.iload_n 2, 1) := by decide +kernel
theorem d159_89 : decode (pB 159) 89 = .ok (.iload_n 3, 1) := by decide +kernel
theorem d159_90 : decode (pB 159) 90 = .ok (.iload 4, 2) := by decide +kernel
theorem d159_92 : decode (pB 159) 92 = .ok (.invokevirtual 118, 3) := by decide +kernel
theorem d159_95 : decode (pB 159) 95 = .ok (.pop, 1) := by decide +kernel
theorem d159_96 : decode (pB 159) 96 = .ok (.goto 17, 3) := by decide +kernel
theorem d159_99 : decode (pB 159) 99 = .ok (.aload_n 0, 1) := by decide +kernel
theorem d159_100 : decode (pB 159) 100 = .ok (.iload_n 2, 1) := by decide +kernel
theorem d159_101 : decode (pB 159) 101 = .ok (.invokevirtual 134, 3) := by decide +kernel
theorem d159_104 : decode (pB 159) 104 = .ok (.pop, 1) := by decide +kernel
theorem d159_105 : decode (pB 159) 105 = .ok (.goto 8, 3) := by decide +kernel
theorem d159_108 : decode (pB 159) 108 = .ok (.aload_n 0, 1) := by decide +kernel
theorem d159_109 : decode (pB 159) 109 = .ok (.invokevirtual 137, 3) := by decide +kernel
theorem d159_112 : decode (pB 159) 112 = .ok (.pop, 1) := by decide +kernel
theorem d159_113 : decode (pB 159) 113 = .ok (.return_, 1) := by decide +kernel
/-- RX5.does -/
def t159_0 : List (Nat × pO) := [(0, o_iload 1 1), (1, o_switch [((nI 99), 52), ((nI 102), 99), ((nI 115), 60), ((nI 117), 73), ((nI 120), 87)] 108), (52, o_aload 0 53), (53, o_invV 5 115 0 56), (56, o_popi 57), (57, o_goto 113), (60, o_aload 0 61), (61, o_getR 5 1 64), (64, o_push (.int (nI 10)) 66), (66, o_iload 2 67), (67, o_iadd 68), (68, o_iload 3 69), (69, o_iast 70), (70, o_goto 113), (73, o_aload 0 74), (74, o_getR 5 1 77), (77, o_push (.int (nI 10)) 79), (79, o_iload 2 80), (80, o_iadd 81), (81, o_push (.int (nM 6)) 83), (83, o_iast 84), (84, o_goto 113), (87, o_aload 0 88), (88, o_iload 2 89), (89, o_iload 3 90), (90, o_iload 4 92), (92, o_invV 5 124 3 95), (95, o_popi 96), (96, o_goto 113), (99, o_aload 0 100), (100, o_iload 2 101), (101, o_invV 5 128 1 104), (104, o_popi 105), (105, o_goto 113), (108, o_aload 0 109), (109, o_invV 5 131 0 112), (112, o_popi 113), (113, o_vret)]
theorem ok159_0 : ∀ q ∈ t159_0, p_Z 159 q := List.forall_mem_cons.mpr ⟨⟨s_iload_n d159_0 rfl, tl_iload _ _⟩, List.forall_mem_cons.mpr ⟨⟨s_lookup d159_1 (by decide +kernel) rfl (by decide +kernel) (fun x hx => p_look (by decide +kernel) hx), tl_switch _ _⟩, List.forall_mem_cons.mpr ⟨⟨s_aload_n d159_52 rfl, tl_aload _ _⟩, List.forall_mem_cons.mpr ⟨⟨q_invV_115 d159_53 wd_690, tl_invV _ _ _ _⟩, List.forall_mem_cons.mpr ⟨⟨s_popi d159_56, tl_popi _⟩, List.forall_mem_cons.mpr ⟨⟨s_goto d159_57 rfl, tl_goto _⟩, List.forall_mem_cons.mpr ⟨⟨s_aload_n d159_60 rfl, tl_aload _ _⟩, List.forall_mem_cons.mpr ⟨⟨f_getR_5_1 d159_61 wd_617, tl_getR _ _ _⟩, List.forall_mem_cons.mpr ⟨⟨s_bipush d159_64 rfl, tl_push _ _⟩, List.forall_mem_cons.mpr ⟨⟨s_iload_n d159_66 rfl, tl_iload _ _⟩, List.forall_mem_cons.mpr ⟨⟨s_iadd d159_67, tl_iadd _⟩, List.forall_mem_cons.mpr ⟨⟨s_iload_n d159_68 rfl, tl_iload _ _⟩, List.forall_mem_cons.mpr ⟨⟨s_iast d159_69, tl_iast _⟩, List.forall_mem_cons.mpr ⟨⟨s_goto d159_70 rfl, tl_goto _⟩, List.forall_mem_cons.mpr ⟨⟨s_aload_n d159_73 rfl, tl_aload _ _⟩, List.forall_mem_cons.mpr ⟨⟨f_getR_5_1 d159_74 wd_617, tl_getR _ _ _⟩, List.forall_mem_cons.mpr ⟨⟨s_bipush d159_77 rfl, tl_push _ _⟩, List.forall_mem_cons.mpr ⟨⟨s_iload_n d159_79 rfl, tl_iload _ _⟩, List.forall_mem_cons.mpr ⟨⟨s_iadd d159_80, tl_iadd _⟩, List.forall_mem_cons.mpr ⟨⟨s_bipush d159_81 rfl, tl_push _ _⟩, List.forall_mem_cons.mpr ⟨⟨s_iast d159_83, tl_iast _⟩, List.forall_mem_cons.mpr ⟨⟨s_goto d159_84 rfl, tl_goto _⟩, List.forall_mem_cons.mpr ⟨⟨s_aload_n d159_87 rfl, tl_aload _ _⟩, List.forall_mem_cons.mpr ⟨⟨s_iload_n d159_88 rfl, tl_iload _ _⟩, List.forall_mem_cons.mpr ⟨⟨s_iload_n d159_89 rfl, tl_iload _ _⟩, List.forall_mem_cons.mpr ⟨⟨s_iload d159_90, tl_iload _ _⟩, List.forall_mem_cons.mpr ⟨⟨q_invV_124 d159_92 wd_738, tl_invV _ _ _ _⟩, List.forall_mem_cons.mpr ⟨⟨s_popi d159_95, tl_popi _⟩, List.forall_mem_cons.mpr ⟨⟨s_goto d159_96 rfl, tl_goto _⟩, List.forall_mem_cons.mpr ⟨⟨s_aload_n d159_99 rfl, tl_aload _ _⟩, List.forall_mem_cons.mpr ⟨⟨s_iload_n d159_100 rfl, tl_iload _ _⟩, List.forall_mem_cons.mpr ⟨⟨q_invV_128 d159_101 wd_786, tl_invV _ _ _ _⟩, List.forall_mem_cons.mpr ⟨⟨s_popi d159_104, tl_popi _⟩, List.forall_mem_cons.mpr ⟨⟨s_goto d159_105 rfl, tl_goto _⟩, List.forall_mem_cons.mpr ⟨⟨s_aload_n d159_108 rfl, tl_aload _ _⟩, List.forall_mem_cons.mpr ⟨⟨q_invV_131 d159_109 wd_798, tl_invV _ _ _ _⟩, List.forall_mem_cons.mpr ⟨⟨s_popi d159_112, tl_popi _⟩, List.forall_mem_cons.mpr ⟨⟨s_vret d159_113 rfl, tl_vret⟩, fun _ h => absurd h List.not_mem_nil⟩⟩⟩⟩⟩⟩⟩⟩⟩⟩⟩⟩⟩⟩⟩⟩⟩⟩⟩⟩⟩⟩⟩⟩⟩⟩⟩⟩⟩⟩⟩⟩⟩⟩⟩⟩⟩⟩
def t159 : List (Nat × pO) := t159_0
theorem ok159 : ∀ q ∈ t159, p_Z 159 q := ok159_0
theorem d160_0 : decode (pB 160) 0 = .ok (.aload_n 0, 1) := by decide +kernel
theorem d160_1 : decode (pB 160) 1 = .ok (.iconst 0, 1) := by decide +kernel
theorem d160_2 : decode (pB 160) 2 = .ok (.putfield 44, 3) := by decide +kernel
theorem d160_5 : decode (pB 160) 5 = .ok (.aload_n 0, 1) := by decide +kernel
theorem d160_6 : decode (pB 160) 6 = .ok (.invokevirtual 196, 3) := by decide +kernel
theorem d160_9 : decode (pB 160) 9 = .ok (.bipush (-6), 2) := by decide +kernel
theorem d160_11 : decode (pB 160) 11 = .ok (.if_icmp .eq 6, 3) := by decide +kernel
theorem d160_14 : decode (pB 160) 14 = .ok (.bipush (-3), 2) := by decide +kernel
theorem d160_16 : decode (pB 160) 16 = .ok (.ireturn, 1) := by decide +kernel
theorem d160_17 : decode (pB 160) 17 = .ok (.aload_n 0, 1) := by decide +kernel
theorem d160_18 : decode (pB 160) 18 = .ok (.invokevirtual 93, 3) := by decide +kernel
theorem d160_21 : decode (pB 160) 21 = .ok (.aload_n 0, 1) := by decide +kernel
theorem d160_22 : decode (pB 160) 22 = .ok (.iconst 0, 1) := by decide +kernel
theorem d160_23 : decode (pB 160) 23 = .ok (.putfield 140, 3) := by decide +kernel
theorem d160_26 : decode (pB 160) 26 = .ok (.iconst 0, 1) := by decide +kernel
theorem d160_27 : decode (pB 160) 27 = .ok (.istore_n 1, 1) := by decide +kernel
theorem d160_28 : decode (pB 160) 28 = .ok (.iload_n 1, 1) := by decide +kernel
theorem d160_29 : decode (pB 160) 29 = .ok (.aload_n 0, 1) := by decide +kernel
theorem d160_30 : decode (pB 160) 30 = .ok (.getfield 184, 3) := by decide +kernel
theorem d160_33 : decode (pB 160) 33 = .ok (.if_icmp .ge 86, 3) := by decide +kernel
theorem d160_36 : decode (pB 160) 36 = .ok (.aload_n 0, 1) := by decide +kernel
theorem d160_37 : decode (pB 160) 37 = .ok (.aload_n 0, 1) := by decide +kernel
theorem d160_38 : decode (pB 160) 38 = .ok (.getfield 26, 3) := by decide +kernel
theorem d160_41 : decode (pB 160) 41 = .ok (.iconst 4, 1) := by decide +kernel
theorem d160_42 : decode (pB 160) 42 = .ok (.iload_n 1, 1) := by decide +kernel
theorem d160_43 : decode (pB 160) 43 = .ok (.imul, 1) := by decide +kernel
theorem d160_44 : decode (pB 160) 44 = .ok (.iaload, 1) := by decide +kernel
theorem d160_45 : decode (pB 160) 45 = .ok (.aload_n 0, 1) := by decide +kernel
theorem d160_46 : decode (pB 160) 46 = .ok (.getfield 26, 3) := by decide +kernel
theorem d160_49 : decode (pB 160) 49 = .ok (.iconst 4, 1) := by decide +kernel
theorem d160_50 : decode (pB 160) 50 = .ok (.iload_n 1, 1) := by decide +kernel
theorem d160_51 : decode (pB 160) 51 = .ok (.imul, 1) := by decide +kernel
theorem d160_52 : decode (pB 160) 52 = .ok (.iconst 1, 1) := by decide +kernel
theorem d160_53 : decode (pB 160) 53 = .ok (.iadd, 1) := by decide +kernel
theorem d160_54 : decode (pB 160) 54 = .ok (.iaload, 1) := by decide +kernel
theorem d160_55 : decode (pB 160) 55 = .ok (.aload_n 0, 1) := by decide +kernel
theorem d160_56 : decode (pB 160) 56 = .ok (.getfield 26, 3) := by decide +kernel
theorem d160_59 : decode (pB 160) 59 = .ok (.iconst 4, 1) := by decide +kernel
theorem d160_60 : decode (pB 160) 60 = .ok (.iload_n 1, 1) := by decide +kernel
theorem d160_61 : decode (pB 160) 61 = .ok (.imul, 1) := by decide +kernel
theorem d160_62 : decode (pB 160) 62 = .ok (.iconst 2, 1) := by decide +kernel
theorem d160_63 : decode (pB 160) 63 = .ok (.iadd, 1) := by decide +kernel
theorem d160_64 : decode (pB 160) 64 = .ok (.iaload, 1) := by decide +kernel
theorem d160_65 : decode (pB 160) 65 = .ok (.invokevirtual 199, 3) := by decide +kernel
theorem d160_68 : decode (pB 160) 68 = .ok (.ifCond .ne 51, 3) := by decide +kernel
theorem d160_71 : decode (pB 160) 71 = .ok (.aload_n 0, 1) := by decide +kernel
theorem d160_72 : decode (pB 160) 72 = .ok (.aload_n 0, 1) := by decide +kernel
theorem d160_73 : decode (pB 160) 73 = .ok (.getfield 26, 3) := by decide +kernel
theorem d160_76 : decode (pB 160) 76 = .ok (.iconst 4, 1) := by decide +kernel
theorem d160_77 : decode (pB 160) 77 = .ok (.iload_n 1, 1) := by decide +kernel
theorem d160_78 : decode (pB 160) 78 = .ok (.imul, 1) := by decide +kernel
theorem d160_79 : decode (pB 160) 79 = .ok (.iaload, 1) := by decide +kernel
theorem d160_80 : decode (pB 160) 80 = .ok (.aload_n 0, 1) := by decide +kernel
theorem d160_81 : decode (pB 160) 81 = .ok (.getfield 26, 3) := by decide +kernel
theorem d160_84 : decode (pB 160) 84 = .ok (.iconst 4, 1) := by decide +kernel
theorem d160_85 : decode (pB 160) 85 = .ok (.iload_n 1, 1) := by decide +kernel
theorem d160_86 : decode (pB 160) 86 = .ok (.imul, 1) := by decide +kernel
theorem d160_87 : decode (pB 160) 87 = .ok (.iconst 1, 1) := by decide +kernel
theorem d160_88 : decode (pB 160) 88 = .ok (.iadd, 1) := by decide +kernel
theorem d160_89 : decode (pB 160) 89 = .ok (.iaload, 1) := by decide +kernel
theorem d160_90 : decode (pB 160) 90 = .ok (.aload_n 0, 1) := by decide +kernel
theorem d160_91 : decode (pB 160) 91 = .ok (.getfield 26, 3) := by decide +kernel
theorem d160_94 : decode (pB 160) 94 = .ok (.iconst 4, 1) := by decide +kernel
theorem d160_95 : decode (pB 160) 95 = .ok (.iload_n 1, 1) := by decide +kernel
theorem d160_96 : decode (pB 160) 96 = .ok (.imul, 1) := by decide +kernel
theorem d160_97 : decode (pB 160) 97 = .ok (.iconst 2, 1) := by decide +kernel
theorem d160_98 : decode (pB 160) 98 = .ok (.iadd, 1) := by decide +kernel
theorem d160_99 : decode (pB 160) 99 = .ok (.iaload, 1) := by decide +kernel
theorem d160_100 : decode (pB 160) 100 = .ok (.aload_n 0, 1) := by decide +kernel
theorem d160_101 : decode (pB 160) 101 = .ok (.getfield 26, 3) := by decide +kernel
theorem d160_104 : decode (pB 160) 104 = .ok (.iconst 4, 1) := by decide +kernel
theorem d160_105 : decode (pB 160) 105 = .ok (.iload_n 1, 1) := by decide +kernel
theorem d160_106 : decode (pB 160) 106 = .ok (.imul, 1) := by decide +kernel
theorem d160_107 : decode (pB 160) 107 = .ok (.iconst 3, 1) := by decide +kernel
theorem d160_108 : decode (pB 160) 108 = .ok (.iadd, 1) := by decide +kernel
theorem d160_109 : decode (pB 160) 109 = .ok (.iaload, 1) := by decide +kernel
theorem d160_110 : decode (pB 160) 110 = .ok (.invokevirtual 202, 3) := by decide +kernel
theorem d160_113 : decode (pB 160) 113 = .ok (.iinc 1 1, 3) := by decide +kernel
theorem d160_116 : decode (pB 160) 116 = .ok (.goto (-88), 3) := by decide +kernel
theorem d160_119 : decode (pB 160) 119 = .ok (.iload_n 1, 1) := by decide +kernel
theorem d160_120 : decode (pB 160) 120 = .ok (.ireturn, 1) := by decide +kernel
theorem st1_160_1 : p_st1 160 1 = true := by decide +kernel
/-- RX5.carryOut -/
def t160_0 : List (Nat × pO) := [(0, o_aload 0 1), (1, o_push (.int (nI 0)) 2), (2, o_putI 5 0 5), (5, o_aload 0 6), (6, o_invV 5 156 0 9), (9, o_push (.int (nM 6)) 11), (11, o_iceq 17 14), (14, o_push (.int (nM 3)) 16), (16, o_iret), (17, o_aload 0 18), (18, o_invV 5 100 0 21), (21, o_aload 0 22), (22, o_push (.int (nI 0)) 23), (23, o_putI 5 7 26), (26, o_push (.int (nI 0)) 27), (27, o_istore 1 28), (28, o_iload 1 29), (29, o_aload 0 30), (30, o_getI 5 11 33), (33, o_icge 119 36), (36, o_aload 0 37), (37, o_aload 0 38), (38, o_getR 5 10 41), (41, o_push (.int (nI 4)) 42), (42, o_iload 1 43), (43, o_imul 44), (44, o_iald 45), (45, o_aload 0 46), (46, o_getR 5 10 49), (49, o_push (.int (nI 4)) 50), (50, o_iload 1 51), (51, o_imul 52), (52, o_push (.int (nI 1)) 53), (53, o_iadd 54), (54, o_iald 55), (55, o_aload 0 56), (56, o_getR 5 10 59), (59, o_push (.int (nI 4)) 60), (60, o_iload 1 61), (61, o_imul 62)]
theorem ok160_0 : ∀ q ∈ t160_0, p_Z 160 q := List.forall_mem_cons.mpr ⟨⟨s_aload_n d160_0 rfl, tl_aload _ _⟩, List.forall_mem_cons.mpr ⟨⟨s_iconst d160_1 rfl, tl_push _ _⟩, List.forall_mem_cons.mpr ⟨⟨f_putI_5_0 d160_2 wd_616, tl_putI _ _ _⟩, List.forall_mem_cons.mpr ⟨⟨s_aload_n d160_5 rfl, tl_aload _ _⟩, List.forall_mem_cons.mpr ⟨⟨q_invV_156 d160_6 wd_899, tl_invV _ _ _ _⟩, List.forall_mem_cons.mpr ⟨⟨s_bipush d160_9 rfl, tl_push _ _⟩, List.forall_mem_cons.mpr ⟨⟨s_iceq d160_11 rfl, tl_iceq _ _⟩, List.forall_mem_cons.mpr ⟨⟨s_bipush d160_14 rfl, tl_push _ _⟩, List.forall_mem_cons.mpr ⟨⟨s_iret d160_16 rfl, tl_iret⟩, List.forall_mem_cons.mpr ⟨⟨s_aload_n d160_17 rfl, tl_aload _ _⟩, List.forall_mem_cons.mpr ⟨⟨q_invV_100 d160_18 wd_682, tl_invV _ _ _ _⟩, List.forall_mem_cons.mpr ⟨⟨s_aload_n d160_21 rfl, tl_aload _ _⟩, List.forall_mem_cons.mpr ⟨⟨s_iconst d160_22 rfl, tl_push _ _⟩, List.forall_mem_cons.mpr ⟨⟨f_putI_5_7 d160_23 wd_623, tl_putI _ _ _⟩, List.forall_mem_cons.mpr ⟨⟨s_iconst d160_26 rfl, tl_push _ _⟩, List.forall_mem_cons.mpr ⟨⟨s_istore_n d160_27 rfl st1_160_1, tl_istore _ _⟩, List.forall_mem_cons.mpr ⟨⟨s_iload_n d160_28 rfl, tl_iload _ _⟩, List.forall_mem_cons.mpr ⟨⟨s_aload_n d160_29 rfl, tl_aload _ _⟩, List.forall_mem_cons.mpr ⟨⟨f_getI_5_11 d160_30 wd_627, tl_getI _ _ _⟩, List.forall_mem_cons.mpr ⟨⟨s_icge d160_33 rfl, tl_icge _ _⟩, List.forall_mem_cons.mpr ⟨⟨s_aload_n d160_36 rfl, tl_aload _ _⟩, List.forall_mem_cons.mpr ⟨⟨s_aload_n d160_37 rfl, tl_aload _ _⟩, List.forall_mem_cons.mpr ⟨⟨f_getR_5_10 d160_38 wd_626, tl_getR _ _ _⟩, List.forall_mem_cons.mpr ⟨⟨s_iconst d160_41 rfl, tl_push _ _⟩, List.forall_mem_cons.mpr ⟨⟨s_iload_n d160_42 rfl, tl_iload _ _⟩, List.forall_mem_cons.mpr ⟨⟨s_imul d160_43, tl_imul _⟩, List.forall_mem_cons.mpr ⟨⟨s_iald d160_44, tl_iald _⟩, List.forall_mem_cons.mpr ⟨⟨s_aload_n d160_45 rfl, tl_aload _ _⟩, List.forall_mem_cons.mpr ⟨⟨f_getR_5_10 d160_46 wd_626, tl_getR _ _ _⟩, List.forall_mem_cons.mpr ⟨⟨s_iconst d160_49 rfl, tl_push _ _⟩, List.forall_mem_cons.mpr ⟨⟨s_iload_n d160_50 rfl, tl_iload _ _⟩, List.forall_mem_cons.mpr ⟨⟨s_imul d160_51, tl_imul _⟩, List.forall_mem_cons.mpr ⟨⟨s_iconst d160_52 rfl, tl_push _ _⟩, List.forall_mem_cons.mpr ⟨⟨s_iadd d160_53, tl_iadd _⟩, List.forall_mem_cons.mpr ⟨⟨s_iald d160_54, tl_iald _⟩, List.forall_mem_cons.mpr ⟨⟨s_aload_n d160_55 rfl, tl_aload _ _⟩, List.forall_mem_cons.mpr ⟨⟨f_getR_5_10 d160_56 wd_626, tl_getR _ _ _⟩, List.forall_mem_cons.mpr ⟨⟨s_iconst d160_59 rfl, tl_push _ _⟩, List.forall_mem_cons.mpr ⟨⟨s_iload_n d160_60 rfl, tl_iload _ _⟩, List.forall_mem_cons.mpr ⟨⟨s_imul d160_61, tl_imul _⟩, fun _ h => absurd h List.not_mem_nil⟩⟩⟩⟩⟩⟩⟩⟩⟩⟩⟩⟩⟩⟩⟩⟩⟩⟩⟩⟩⟩⟩⟩⟩⟩⟩⟩⟩⟩⟩⟩⟩⟩⟩⟩⟩⟩⟩⟩⟩
/-- RX5.carryOut -/
def t160_1 : List (Nat × pO) := [(62, o_push (.int (nI 2)) 63), (63, o_iadd 64), (64, o_iald 65), (65, o_invV 5 158 3 68), (68, o_ifne 119 71), (71, o_aload 0 72), (72, o_aload 0 73), (73, o_getR 5 10 76), (76, o_push (.int (nI 4)) 77), (77, o_iload 1 78), (78, o_imul 79), (79, o_iald 80), (80, o_aload 0 81), (81, o_getR 5 10 84), (84, o_push (.int (nI 4)) 85), (85, o_iload 1 86), (86, o_imul 87), (87, o_push (.int (nI 1)) 88), (88, o_iadd 89), (89, o_iald 90), (90, o_aload 0 91), (91, o_getR 5 10 94), (94, o_push (.int (nI 4)) 95), (95, o_iload 1 96), (96, o_imul 97), (97, o_push (.int (nI 2)) 98), (98, o_iadd 99), (99, o_iald 100), (100, o_aload 0 101), (101, o_getR 5 10 104), (104, o_push (.int (nI 4)) 105), (105, o_iload 1 106), (106, o_imul 107), (107, o_push (.int (nI 3)) 108), (108, o_iadd 109), (109, o_iald 110), (110, o_invV 5 159 4 113), (113, o_iinc 1 (nI 1) 116), (116, o_goto 28), (119, o_iload 1 120)]
theorem ok160_1 : ∀ q ∈ t160_1, p_Z 160 q := List.forall_mem_cons.mpr ⟨⟨s_iconst d160_62 rfl, tl_push _ _⟩, List.forall_mem_cons.mpr ⟨⟨s_iadd d160_63, tl_iadd _⟩, List.forall_mem_cons.mpr ⟨⟨s_iald d160_64, tl_iald _⟩, List.forall_mem_cons.mpr ⟨⟨q_invV_158 d160_65 wd_923, tl_invV _ _ _ _⟩, List.forall_mem_cons.mpr ⟨⟨s_ifne d160_68 rfl, tl_ifne _ _⟩, List.forall_mem_cons.mpr ⟨⟨s_aload_n d160_71 rfl, tl_aload _ _⟩, List.forall_mem_cons.mpr ⟨⟨s_aload_n d160_72 rfl, tl_aload _ _⟩, List.forall_mem_cons.mpr ⟨⟨f_getR_5_10 d160_73 wd_626, tl_getR _ _ _⟩, List.forall_mem_cons.mpr ⟨⟨s_iconst d160_76 rfl, tl_push _ _⟩, List.forall_mem_cons.mpr ⟨⟨s_iload_n d160_77 rfl, tl_iload _ _⟩, List.forall_mem_cons.mpr ⟨⟨s_imul d160_78, tl_imul _⟩, List.forall_mem_cons.mpr ⟨⟨s_iald d160_79, tl_iald _⟩, List.forall_mem_cons.mpr ⟨⟨s_aload_n d160_80 rfl, tl_aload _ _⟩, List.forall_mem_cons.mpr ⟨⟨f_getR_5_10 d160_81 wd_626, tl_getR _ _ _⟩, List.forall_mem_cons.mpr ⟨⟨s_iconst d160_84 rfl, tl_push _ _⟩, List.forall_mem_cons.mpr ⟨⟨s_iload_n d160_85 rfl, tl_iload _ _⟩, List.forall_mem_cons.mpr ⟨⟨s_imul d160_86, tl_imul _⟩, List.forall_mem_cons.mpr ⟨⟨s_iconst d160_87 rfl, tl_push _ _⟩, List.forall_mem_cons.mpr ⟨⟨s_iadd d160_88, tl_iadd _⟩, List.forall_mem_cons.mpr ⟨⟨s_iald d160_89, tl_iald _⟩, List.forall_mem_cons.mpr ⟨⟨s_aload_n d160_90 rfl, tl_aload _ _⟩, List.forall_mem_cons.mpr ⟨⟨f_getR_5_10 d160_91 wd_626, tl_getR _ _ _⟩, List.forall_mem_cons.mpr ⟨⟨s_iconst d160_94 rfl, tl_push _ _⟩, List.forall_mem_cons.mpr ⟨⟨s_iload_n d160_95 rfl, tl_iload _ _⟩, List.forall_mem_cons.mpr ⟨⟨s_imul d160_96, tl_imul _⟩, List.forall_mem_cons.mpr ⟨⟨s_iconst d160_97 rfl, tl_push _ _⟩, List.forall_mem_cons.mpr ⟨⟨s_iadd d160_98, tl_iadd _⟩, List.forall_mem_cons.mpr ⟨⟨s_iald d160_99, tl_iald _⟩, List.forall_mem_cons.mpr ⟨⟨s_aload_n d160_100 rfl, tl_aload _ _⟩, List.forall_mem_cons.mpr ⟨⟨f_getR_5_10 d160_101 wd_626, tl_getR _ _ _⟩, List.forall_mem_cons.mpr ⟨⟨s_iconst d160_104 rfl, tl_push _ _⟩, List.forall_mem_cons.mpr ⟨⟨s_iload_n d160_105 rfl, tl_iload _ _⟩, List.forall_mem_cons.mpr ⟨⟨s_imul d160_106, tl_imul _⟩, List.forall_mem_cons.mpr ⟨⟨s_iconst d160_107 rfl, tl_push _ _⟩, List.forall_mem_cons.mpr ⟨⟨s_iadd d160_108, tl_iadd _⟩, List.forall_mem_cons.mpr ⟨⟨s_iald d160_109, tl_iald _⟩, List.forall_mem_cons.mpr ⟨⟨q_invV_159 d160_110 wd_927, tl_invV _ _ _ _⟩, List.forall_mem_cons.mpr ⟨⟨s_iinc d160_113 rfl st1_160_1, tl_iinc _ _ _⟩, List.forall_mem_cons.mpr ⟨⟨s_goto d160_116 rfl, tl_goto _⟩, List.forall_mem_cons.mpr ⟨⟨s_iload_n d160_119 rfl, tl_iload _ _⟩, fun _ h => absurd h List.not_mem_nil⟩⟩⟩⟩⟩⟩⟩⟩⟩⟩⟩⟩⟩⟩⟩⟩⟩⟩⟩⟩⟩⟩⟩⟩⟩⟩⟩⟩⟩⟩⟩⟩⟩⟩⟩⟩⟩⟩⟩⟩
/-- RX5.carryOut -/
def t160_2 : List (Nat × pO) := [(120, o_iret)]
theorem ok160_2 : ∀ q ∈ t160_2, p_Z 160 q := List.forall_mem_cons.mpr ⟨⟨s_iret d160_120 rfl, tl_iret⟩, fun _ h => absurd h List.not_mem_nil⟩
def t160 : List (Nat × pO) := t160_0 ++ (t160_1 ++ (t160_2))
theorem ok160 : ∀ q ∈ t160, p_Z 160 q := List.forall_mem_append.mpr ⟨ok160_0, List.forall_mem_append.mpr ⟨ok160_1, ok160_2⟩⟩
theorem d161_0 : decode (pB 161) 0 = .ok (.aload_n 0, 1) := by decide +kernel
theorem d161_1 : decode (pB 161) 1 = .ok (.iconst 0, 1) := by decide +kernel
theorem d161_2 : decode (pB 161) 2 = .ok (.putfield 44, 3) := by decide +kernel
theorem d161_5 : decode (pB 161) 5 = .ok (.aload_n 0, 1) := by decide +kernel
theorem d161_6 : decode (pB 161) 6 = .ok (.getfield 52, 3) := by decide +kernel
theorem d161_9 : decode (pB 161) 9 = .ok (.ifCond .ne 6, 3) := by decide +kernel
theorem d161_12 : decode (pB 161) 12 = .ok (.bipush (-5), 2) := by decide +kernel
theorem d161_14 : decode (pB 161) 14 = .ok (.ireturn, 1) := by decide +kernel
theorem d161_15 : decode (pB 161) 15 = .ok (.aload_n 0, 1) := by decide +kernel
theorem d161_16 : decode (pB 161) 16 = .ok (.dup, 1) := by decide +kernel
theorem d161_17 : decode (pB 161) 17 = .ok (.getfield 52, 3) := by decide +kernel
theorem d161_20 : decode (pB 161) 20 = .ok (.iconst 1, 1) := by decide +kernel
theorem d161_21 : decode (pB 161) 21 = .ok (.isub, 1) := by decide +kernel
theorem d161_22 : decode (pB 161) 22 = .ok (.putfield 52, 3) := by decide +kernel
theorem d161_25 : decode (pB 161) 25 = .ok (.iconst 0, 1) := by decide +kernel
theorem d161_26 : decode (pB 161) 26 = .ok (.istore_n 1, 1) := by decide +kernel
theorem d161_27 : decode (pB 161) 27 = .ok (.iload_n 1, 1) := by decide +kernel
theorem d161_28 : decode (pB 161) 28 = .ok (.sipush 166, 3) := by decide +kernel
theorem d161_31 : decode (pB 161) 31 = .ok (.if_icmp .ge 30, 3) := by decide +kernel
theorem d161_34 : decode (pB 161) 34 = .ok (.aload_n 0, 1) := by decide +kernel
theorem d161_35 : decode (pB 161) 35 = .ok (.getfield 7, 3) := by decide +kernel
theorem d161_38 : decode (pB 161) 38 = .ok (.iload_n 1, 1) := by decide +kernel
theorem d161_39 : decode (pB 161) 39 = .ok (.aload_n 0, 1) := by decide +kernel
theorem d161_40 : decode (pB 161) 40 = .ok (.getfield 13, 3) := by decide +kernel
theorem d161_43 : decode (pB 161) 43 = .ok (.sipush 166, 3) := by decide +kernel
theorem d161_46 : decode (pB 161) 46 = .ok (.aload_n 0, 1) := by decide +kernel
theorem d161_47 : decode (pB 161) 47 = .ok (.getfield 52, 3) := by decide +kernel
theorem d161_50 : decode (pB 161) 50 = .ok (.imul, 1) := by decide +kernel
theorem d161_51 : decode (pB 161) 51 = .ok (.iload_n 1, 1) := by decide +kernel
theorem d161_52 : decode (pB 161) 52 = .ok (.iadd, 1) := by decide +kernel
theorem d161_53 : decode (pB 161) 53 = .ok (.iaload, 1) := by decide +kernel
theorem d161_54 : decode (pB 161) 54 = .ok (.iastore, 1) := by decide +kernel
theorem d161_55 : decode (pB 161) 55 = .ok (.iinc 1 1, 3) := by decide +kernel
theorem d161_58 : decode (pB 161) 58 = .ok (.goto (-31), 3) := by decide +kernel
theorem d161_61 : decode (pB 161) 61 = .ok (.aload_n 0, 1) := by decide +kernel
theorem d161_62 : decode (pB 161) 62 = .ok (.getfield 52, 3) := by decide +kernel
theorem d161_65 : decode (pB 161) 65 = .ok (.ireturn, 1) := by decide +kernel
theorem st1_161_1 : p_st1 161 1 = true := by decide +kernel
/-- RX5.undo -/
def t161_0 : List (Nat × pO) := [(0, o_aload 0 1), (1, o_push (.int (nI 0)) 2), (2, o_putI 5 0 5), (5, o_aload 0 6), (6, o_getI 5 3 9), (9, o_ifne 15 12), (12, o_push (.int (nM 5)) 14), (14, o_iret), (15, o_aload 0 16), (16, o_dupr 17), (17, o_getI 5 3 20), (20, o_push (.int (nI 1)) 21), (21, o_isub 22), (22, o_putI 5 3 25), (25, o_push (.int (nI 0)) 26), (26, o_istore 1 27), (27, o_iload 1 28), (28, o_push (.int (nI 166)) 31), (31, o_icge 61 34), (34, o_aload 0 35), (35, o_getR 5 1 38), (38, o_iload 1 39), (39, o_aload 0 40), (40, o_getR 5 2 43), (43, o_push (.int (nI 166)) 46), (46, o_aload 0 47), (47, o_getI 5 3 50), (50, o_imul 51), (51, o_iload 1 52), (52, o_iadd 53), (53, o_iald 54), (54, o_iast 55), (55, o_iinc 1 (nI 1) 58), (58, o_goto 27), (61, o_aload 0 62), (62, o_getI 5 3 65), (65, o_iret)]
theorem ok161_0 : ∀ q ∈ t161_0, p_Z 161 q := List.forall_mem_cons.mpr ⟨⟨s_aload_n d161_0 rfl, tl_aload _ _⟩, List.forall_mem_cons.mpr ⟨⟨s_iconst d161_1 rfl, tl_push _ _⟩, List.forall_mem_cons.mpr ⟨⟨f_putI_5_0 d161_2 wd_616, tl_putI _ _ _⟩, List.forall_mem_cons.mpr ⟨⟨s_aload_n d161_5 rfl, tl_aload _ _⟩, List.forall_mem_cons.mpr ⟨⟨f_getI_5_3 d161_6 wd_619, tl_getI _ _ _⟩, List.forall_mem_cons.mpr ⟨⟨s_ifne d161_9 rfl, tl_ifne _ _⟩, List.forall_mem_cons.mpr ⟨⟨s_bipush d161_12 rfl, tl_push _ _⟩, List.forall_mem_cons.mpr ⟨⟨s_iret d161_14 rfl, tl_iret⟩, List.forall_mem_cons.mpr ⟨⟨s_aload_n d161_15 rfl, tl_aload _ _⟩, List.forall_mem_cons.mpr ⟨⟨s_dupr d161_16, tl_dupr _⟩, List.forall_mem_cons.mpr ⟨⟨f_getI_5_3 d161_17 wd_619, tl_getI _ _ _⟩, List.forall_mem_cons.mpr ⟨⟨s_iconst d161_20 rfl, tl_push _ _⟩, List.forall_mem_cons.mpr ⟨⟨s_isub d161_21, tl_isub _⟩, List.forall_mem_cons.mpr ⟨⟨f_putI_5_3 d161_22 wd_619, tl_putI _ _ _⟩, List.forall_mem_cons.mpr ⟨⟨s_iconst d161_25 rfl, tl_push _ _⟩, List.forall_mem_cons.mpr ⟨⟨s_istore_n d161_26 rfl st1_161_1, tl_istore _ _⟩, List.forall_mem_cons.mpr ⟨⟨s_iload_n d161_27 rfl, tl_iload _ _⟩, List.forall_mem_cons.mpr ⟨⟨s_sipush d161_28 rfl, tl_push _ _⟩, List.forall_mem_cons.mpr ⟨⟨s_icge d161_31 rfl, tl_icge _ _⟩, List.forall_mem_cons.mpr ⟨⟨s_aload_n d161_34 rfl, tl_aload _ _⟩, List.forall_mem_cons.mpr ⟨⟨f_getR_5_1 d161_35 wd_617, tl_getR _ _ _⟩, List.forall_mem_cons.mpr ⟨⟨s_iload_n d161_38 rfl, tl_iload _ _⟩, List.forall_mem_cons.mpr ⟨⟨s_aload_n d161_39 rfl, tl_aload _ _⟩, List.forall_mem_cons.mpr ⟨⟨f_getR_5_2 d161_40 wd_618, tl_getR _ _ _⟩, List.forall_mem_cons.mpr ⟨⟨s_sipush d161_43 rfl, tl_push _ _⟩, List.forall_mem_cons.mpr ⟨⟨s_aload_n d161_46 rfl, tl_aload _ _⟩, List.forall_mem_cons.mpr ⟨⟨f_getI_5_3 d161_47 wd_619, tl_getI _ _ _⟩, List.forall_mem_cons.mpr ⟨⟨s_imul d161_50, tl_imul _⟩, List.forall_mem_cons.mpr ⟨⟨s_iload_n d161_51 rfl, tl_iload _ _⟩, List.forall_mem_cons.mpr ⟨⟨s_iadd d161_52, tl_iadd _⟩, List.forall_mem_cons.mpr ⟨⟨s_iald d161_53, tl_iald _⟩, List.forall_mem_cons.mpr ⟨⟨s_iast d161_54, tl_iast _⟩, List.forall_mem_cons.mpr ⟨⟨s_iinc d161_55 rfl st1_161_1, tl_iinc _ _ _⟩, List.forall_mem_cons.mpr ⟨⟨s_goto d161_58 rfl, tl_goto _⟩, List.forall_mem_cons.mpr ⟨⟨s_aload_n d161_61 rfl, tl_aload _ _⟩, List.forall_mem_cons.mpr ⟨⟨f_getI_5_3 d161_62 wd_619, tl_getI _ _ _⟩, List.forall_mem_cons.mpr ⟨⟨s_iret d161_65 rfl, tl_iret⟩, fun _ h => absurd h List.not_mem_nil⟩⟩⟩⟩⟩⟩⟩⟩⟩⟩⟩⟩⟩⟩⟩⟩⟩⟩⟩⟩⟩⟩⟩⟩⟩⟩⟩⟩⟩⟩⟩⟩⟩⟩⟩⟩⟩
def t161 : List (Nat × pO) := t161_0
theorem ok161 : ∀ q ∈ t161, p_Z 161 q := ok161_0
theorem d162_0 : decode (pB 162) 0 = .ok (.aload_n 0, 1) := by decide +kernel
theorem d162_1 : decode (pB 162) 1 = .ok (.iconst 0, 1) := by decide +kernel
theorem d162_2 : decode (pB 162) 2 = .ok (.putfield 44, 3) := by decide +kernel
theorem d162_5 : decode (pB 162) 5 = .ok (.iload_n 1, 1) := by decide +kernel
theorem d162_6 : decode (pB 162) 6 = .ok (.iconst 0, 1) := by decide +kernel
theorem d162_7 : decode (pB 162) 7 = .ok (.iconst 1, 1) := by decide +kernel
theorem d162_8 : decode (pB 162) 8 = .ok (.invokestatic 48, 3) := by decide +kernel
theorem d162_11 : decode (pB 162) 11 = .ok (.ifCond .ne 6, 3) := by decide +kernel
theorem d162_14 : decode (pB 162) 14 = .ok (.bipush (-2), 2) := by decide +kernel
theorem d162_16 : decode (pB 162) 16 = .ok (.ireturn, 1) := by decide +kernel
theorem d162_17 : decode (pB 162) 17 = .ok (.iconst 0, 1) := by decide +kernel
theorem d162_18 : decode (pB 162) 18 = .ok (.istore_n 2, 1) := by decide +kernel
theorem d162_19 : decode (pB 162) 19 = .ok (.iload_n 2, 1) := by decide +kernel
theorem d162_20 : decode (pB 162) 20 = .ok (.sipush 166, 3) := by decide +kernel
theorem d162_23 : decode (pB 162) 23 = .ok (.if_icmp .ge 27, 3) := by decide +kernel
theorem d162_26 : decode (pB 162) 26 = .ok (.aload_n 0, 1) := by decide +kernel
theorem d162_27 : decode (pB 162) 27 = .ok (.getfield 16, 3) := by decide +kernel
theorem d162_30 : decode (pB 162) 30 = .ok (.sipush 166, 3) := by decide +kernel
theorem d162_33 : decode (pB 162) 33 = .ok (.iload_n 1, 1) := by decide +kernel
theorem d162_34 : decode (pB 162) 34 = .ok (.imul, 1) := by decide +kernel
theorem d162_35 : decode (pB 162) 35 = .ok (.iload_n 2, 1) := by decide +kernel
theorem d162_36 : decode (pB 162) 36 = .ok (.iadd, 1) := by decide +kernel
theorem d162_37 : decode (pB 162) 37 = .ok (.aload_n 0, 1) := by decide +kernel
theorem d162_38 : decode (pB 162) 38 = .ok (.getfield 7, 3) := by decide +kernel
theorem d162_41 : decode (pB 162) 41 = .ok (.iload_n 2, 1) := by decide +kernel
theorem d162_42 : decode (pB 162) 42 = .ok (.iaload, 1) := by decide +kernel
theorem d162_43 : decode (pB 162) 43 = .ok (.iastore, 1) := by decide +kernel
theorem d162_44 : decode (pB 162) 44 = .ok (.iinc 2 1, 3) := by decide +kernel
theorem d162_47 : decode (pB 162) 47 = .ok (.goto (-28), 3) := by decide +kernel
theorem d162_50 : decode (pB 162) 50 = .ok (.aload_n 0, 1) := by decide +kernel
theorem d162_51 : decode (pB 162) 51 = .ok (.getfield 19, 3) := by decide +kernel
theorem d162_54 : decode (pB 162) 54 = .ok (.iload_n 1, 1) := by decide +kernel
theorem d162_55 : decode (pB 162) 55 = .ok (.iconst 1, 1) := by decide +kernel
theorem d162_56 : decode (pB 162) 56 = .ok (.bastore, 1) := by decide +kernel
theorem d162_57 : decode (pB 162) 57 = .ok (.aload_n 0, 1) := by decide +kernel
theorem d162_58 : decode (pB 162) 58 = .ok (.getfield 7, 3) := by decide +kernel
theorem d162_61 : decode (pB 162) 61 = .ok (.iconst 3, 1) := by decide +kernel
theorem d162_62 : decode (pB 162) 62 = .ok (.iaload, 1) := by decide +kernel
theorem d162_63 : decode (pB 162) 63 = .ok (.ireturn, 1) := by decide +kernel
theorem st1_162_2 : p_st1 162 2 = true := by decide +kernel
/-- RX5.save -/
def t162_0 : List (Nat × pO) := [(0, o_aload 0 1), (1, o_push (.int (nI 0)) 2), (2, o_putI 5 0 5), (5, o_iload 1 6), (6, o_push (.int (nI 0)) 7), (7, o_push (.int (nI 1)) 8), (8, o_invS 96 3 11), (11, o_ifne 17 14), (14, o_push (.int (nM 2)) 16), (16, o_iret), (17, o_push (.int (nI 0)) 18), (18, o_istore 2 19), (19, o_iload 2 20), (20, o_push (.int (nI 166)) 23), (23, o_icge 50 26), (26, o_aload 0 27), (27, o_getR 5 4 30), (30, o_push (.int (nI 166)) 33), (33, o_iload 1 34), (34, o_imul 35), (35, o_iload 2 36), (36, o_iadd 37), (37, o_aload 0 38), (38, o_getR 5 1 41), (41, o_iload 2 42), (42, o_iald 43), (43, o_iast 44), (44, o_iinc 2 (nI 1) 47), (47, o_goto 19), (50, o_aload 0 51), (51, o_getR 5 5 54), (54, o_iload 1 55), (55, o_push (.int (nI 1)) 56), (56, o_zast 57), (57, o_aload 0 58), (58, o_getR 5 1 61), (61, o_push (.int (nI 3)) 62), (62, o_iald 63), (63, o_iret)]
theorem ok162_0 : ∀ q ∈ t162_0, p_Z 162 q := List.forall_mem_cons.mpr ⟨⟨s_aload_n d162_0 rfl, tl_aload _ _⟩, List.forall_mem_cons.mpr ⟨⟨s_iconst d162_1 rfl, tl_push _ _⟩, List.forall_mem_cons.mpr ⟨⟨f_putI_5_0 d162_2 wd_616, tl_putI _ _ _⟩, List.forall_mem_cons.mpr ⟨⟨s_iload_n d162_5 rfl, tl_iload _ _⟩, List.forall_mem_cons.mpr ⟨⟨s_iconst d162_6 rfl, tl_push _ _⟩, List.forall_mem_cons.mpr ⟨⟨s_iconst d162_7 rfl, tl_push _ _⟩, List.forall_mem_cons.mpr ⟨⟨q_invS_96 d162_8 wd_675, tl_invS _ _ _⟩, List.forall_mem_cons.mpr ⟨⟨s_ifne d162_11 rfl, tl_ifne _ _⟩, List.forall_mem_cons.mpr ⟨⟨s_bipush d162_14 rfl, tl_push _ _⟩, List.forall_mem_cons.mpr ⟨⟨s_iret d162_16 rfl, tl_iret⟩, List.forall_mem_cons.mpr ⟨⟨s_iconst d162_17 rfl, tl_push _ _⟩, List.forall_mem_cons.mpr ⟨⟨s_istore_n d162_18 rfl st1_162_2, tl_istore _ _⟩, List.forall_mem_cons.mpr ⟨⟨s_iload_n d162_19 rfl, tl_iload _ _⟩, List.forall_mem_cons.mpr ⟨⟨s_sipush d162_20 rfl, tl_push _ _⟩, List.forall_mem_cons.mpr ⟨⟨s_icge d162_23 rfl, tl_icge _ _⟩, List.forall_mem_cons.mpr ⟨⟨s_aload_n d162_26 rfl, tl_aload _ _⟩, List.forall_mem_cons.mpr ⟨⟨f_getR_5_4 d162_27 wd_620, tl_getR _ _ _⟩, List.forall_mem_cons.mpr ⟨⟨s_sipush d162_30 rfl, tl_push _ _⟩, List.forall_mem_cons.mpr ⟨⟨s_iload_n d162_33 rfl, tl_iload _ _⟩, List.forall_mem_cons.mpr ⟨⟨s_imul d162_34, tl_imul _⟩, List.forall_mem_cons.mpr ⟨⟨s_iload_n d162_35 rfl, tl_iload _ _⟩, List.forall_mem_cons.mpr ⟨⟨s_iadd d162_36, tl_iadd _⟩, List.forall_mem_cons.mpr ⟨⟨s_aload_n d162_37 rfl, tl_aload _ _⟩, List.forall_mem_cons.mpr ⟨⟨f_getR_5_1 d162_38 wd_617, tl_getR _ _ _⟩, List.forall_mem_cons.mpr ⟨⟨s_iload_n d162_41 rfl, tl_iload _ _⟩, List.forall_mem_cons.mpr ⟨⟨s_iald d162_42, tl_iald _⟩, List.forall_mem_cons.mpr ⟨⟨s_iast d162_43, tl_iast _⟩, List.forall_mem_cons.mpr ⟨⟨s_iinc d162_44 rfl st1_162_2, tl_iinc _ _ _⟩, List.forall_mem_cons.mpr ⟨⟨s_goto d162_47 rfl, tl_goto _⟩, List.forall_mem_cons.mpr ⟨⟨s_aload_n d162_50 rfl, tl_aload _ _⟩, List.forall_mem_cons.mpr ⟨⟨f_getR_5_5 d162_51 wd_621, tl_getR _ _ _⟩, List.forall_mem_cons.mpr ⟨⟨s_iload_n d162_54 rfl, tl_iload _ _⟩, List.forall_mem_cons.mpr ⟨⟨s_iconst d162_55 rfl, tl_push _ _⟩, List.forall_mem_cons.mpr ⟨⟨s_zast d162_56, tl_zast _⟩, List.forall_mem_cons.mpr ⟨⟨s_aload_n d162_57 rfl, tl_aload _ _⟩, List.forall_mem_cons.mpr ⟨⟨f_getR_5_1 d162_58 wd_617, tl_getR _ _ _⟩, List.forall_mem_cons.mpr ⟨⟨s_iconst d162_61 rfl, tl_push _ _⟩, List.forall_mem_cons.mpr ⟨⟨s_iald d162_62, tl_iald _⟩, List.forall_mem_cons.mpr ⟨⟨s_iret d162_63 rfl, tl_iret⟩, fun _ h => absurd h List.not_mem_nil⟩⟩⟩⟩⟩⟩⟩⟩⟩⟩⟩⟩⟩⟩⟩⟩⟩⟩⟩⟩⟩⟩⟩⟩⟩⟩⟩⟩⟩⟩⟩⟩⟩⟩⟩⟩⟩⟩⟩
def t162 : List (Nat × pO) := t162_0
theorem ok162 : ∀ q ∈ t162, p_Z 162 q := ok162_0
theorem d163_0 : decode (pB 163) 0 = .ok (.aload_n 0, 1) := by decide +kernel
theorem d163_1 : decode (pB 163) 1 = .ok (.iconst 0, 1) := by decide +kernel
theorem d163_2 : decode (pB 163) 2 = .ok (.putfield 44, 3) := by decide +kernel
theorem d163_5 : decode (pB 163) 5 = .ok (.iload_n 1, 1) := by decide +kernel
theorem d163_6 : decode (pB 163) 6 = .ok (.iconst 0, 1) := by decide +kernel
theorem d163_7 : decode (pB 163) 7 = .ok (.iconst 1, 1) := by decide +kernel
theorem d163_8 : decode (pB 163) 8 = .ok (.invokestatic 48, 3) := by decide +kernel
theorem d163_11 : decode (pB 163) 11 = .ok (.ifCond .ne 6, 3) := by decide +kernel
theorem d163_14 : decode (pB 163) 14 = .ok (.bipush (-2), 2) := by decide +kernel
theorem d163_16 : decode (pB 163) 16 = .ok (.ireturn, 1) := by decide +kernel
theorem d163_17 : decode (pB 163) 17 = .ok (.aload_n 0, 1) := by decide +kernel
theorem d163_18 : decode (pB 163) 18 = .ok (.getfield 19, 3) := by decide +kernel
theorem d163_21 : decode (pB 163) 21 = .ok (.iload_n 1, 1) := by decide +kernel
theorem d163_22 : decode (pB 163) 22 = .ok (.baload, 1) := by decide +kernel
theorem d163_23 : decode (pB 163) 23 = .ok (.ifCond .ne 6, 3) := by decide +kernel
theorem d163_26 : decode (pB 163) 26 = .ok (.bipush (-5), 2) := by decide +kernel
theorem d163_28 : decode (pB 163) 28 = .ok (.ireturn, 1) := by decide +kernel
theorem d163_29 : decode (pB 163) 29 = .ok (.aload_n 0, 1) := by decide +kernel
theorem d163_30 : decode (pB 163) 30 = .ok (.invokevirtual 93, 3) := by decide +kernel
theorem d163_33 : decode (pB 163) 33 = .ok (.iconst 0, 1) := by decide +kernel
theorem d163_34 : decode (pB 163) 34 = .ok (.istore_n 2, 1) := by decide +kernel
theorem d163_35 : decode (pB 163) 35 = .ok (.iload_n 2, 1) := by decide +kernel
theorem d163_36 : decode (pB 163) 36 = .ok (.sipush 166, 3) := by decide +kernel
theorem d163_39 : decode (pB 163) 39 = .ok (.if_icmp .ge 27, 3) := by decide +kernel
theorem d163_42 : decode (pB 163) 42 = .ok (.aload_n 0, 1) := by decide +kernel
theorem d163_43 : decode (pB 163) 43 = .ok (.getfield 7, 3) := by decide +kernel
theorem d163_46 : decode (pB 163) 46 = .ok (.iload_n 2, 1) := by decide +kernel
theorem d163_47 : decode (pB 163) 47 = .ok (.aload_n 0, 1) := by decide +kernel
theorem d163_48 : decode (pB 163) 48 = .ok (.getfield 16, 3) := by decide +kernel
theorem d163_51 : decode (pB 163) 51 = .ok (.sipush 166, 3) := by decide +kernel
theorem d163_54 : decode (pB 163) 54 = .ok (.iload_n 1, 1) := by decide +kernel
theorem d163_55 : decode (pB 163) 55 = .ok (.imul, 1) := by decide +kernel
theorem d163_56 : decode (pB 163) 56 = .ok (.iload_n 2, 1) := by decide +kernel
theorem d163_57 : decode (pB 163) 57 = .ok (.iadd, 1) := by decide +kernel
theorem d163_58 : decode (pB 163) 58 = .ok (.iaload, 1) := by decide +kernel
theorem d163_59 : decode (pB 163) 59 = .ok (.iastore, 1) := by decide +kernel
theorem d163_60 : decode (pB 163) 60 = .ok (.iinc 2 1, 3) := by decide +kernel
theorem d163_63 : decode (pB 163) 63 = .ok (.goto (-28), 3) := by decide +kernel
theorem d163_66 : decode (pB 163) 66 = .ok (.aload_n 0, 1) := by decide +kernel
theorem d163_67 : decode (pB 163) 67 = .ok (.getfield 7, 3) := by decide +kernel
theorem d163_70 : decode (pB 163) 70 = .ok (.iconst 3, 1) := by decide +kernel
theorem d163_71 : decode (pB 163) 71 = .ok (.iaload, 1) := by decide +kernel
theorem d163_72 : decode (pB 163) 72 = .ok (.ireturn, 1) := by decide +kernel
theorem st1_163_2 : p_st1 163 2 = true := by decide +kernel
/-- RX5.restore -/
def t163_0 : List (Nat × pO) := [(0, o_aload 0 1), (1, o_push (.int (nI 0)) 2), (2, o_putI 5 0 5), (5, o_iload 1 6), (6, o_push (.int (nI 0)) 7), (7, o_push (.int (nI 1)) 8), (8, o_invS 96 3 11), (11, o_ifne 17 14), (14, o_push (.int (nM 2)) 16), (16, o_iret), (17, o_aload 0 18), (18, o_getR 5 5 21), (21, o_iload 1 22), (22, o_zald 23), (23, o_ifne 29 26), (26, o_push (.int (nM 5)) 28), (28, o_iret), (29, o_aload 0 30), (30, o_invV 5 100 0 33), (33, o_push (.int (nI 0)) 34), (34, o_istore 2 35), (35, o_iload 2 36), (36, o_push (.int (nI 166)) 39), (39, o_icge 66 42), (42, o_aload 0 43), (43, o_getR 5 1 46), (46, o_iload 2 47), (47, o_aload 0 48), (48, o_getR 5 4 51), (51, o_push (.int (nI 166)) 54), (54, o_iload 1 55), (55, o_imul 56), (56, o_iload 2 57), (57, o_iadd 58), (58, o_iald 59), (59, o_iast 60), (60, o_iinc 2 (nI 1) 63), (63, o_goto 35), (66, o_aload 0 67), (67, o_getR 5 1 70)]
theorem ok163_0 : ∀ q ∈ t163_0, p_Z 163 q := List.forall_mem_cons.mpr ⟨⟨s_aload_n d163_0 rfl, tl_aload _ _⟩, List.forall_mem_cons.mpr ⟨⟨s_iconst d163_1 rfl, tl_push _ _⟩, List.forall_mem_cons.mpr ⟨⟨f_putI_5_0 d163_2 wd_616, tl_putI _ _ _⟩, List.forall_mem_cons.mpr ⟨⟨s_iload_n d163_5 rfl, tl_iload _ _⟩, List.forall_mem_cons.mpr ⟨⟨s_iconst d163_6 rfl, tl_push _ _⟩, List.forall_mem_cons.mpr ⟨⟨s_iconst d163_7 rfl, tl_push _ _⟩, List.forall_mem_cons.mpr ⟨⟨q_invS_96 d163_8 wd_675, tl_invS _ _ _⟩, List.forall_mem_cons.mpr ⟨⟨s_ifne d163_11 rfl, tl_ifne _ _⟩, List.forall_mem_cons.mpr ⟨⟨s_bipush d163_14 rfl, tl_push _ _⟩, List.forall_mem_cons.mpr ⟨⟨s_iret d163_16 rfl, tl_iret⟩, List.forall_mem_cons.mpr ⟨⟨s_aload_n d163_17 rfl, tl_aload _ _⟩, List.forall_mem_cons.mpr ⟨⟨f_getR_5_5 d163_18 wd_621, tl_getR _ _ _⟩, List.forall_mem_cons.mpr ⟨⟨s_iload_n d163_21 rfl, tl_iload _ _⟩, List.forall_mem_cons.mpr ⟨⟨s_zald d163_22, tl_zald _⟩, List.forall_mem_cons.mpr ⟨⟨s_ifne d163_23 rfl, tl_ifne _ _⟩, List.forall_mem_cons.mpr ⟨⟨s_bipush d163_26 rfl, tl_push _ _⟩, List.forall_mem_cons.mpr ⟨⟨s_iret d163_28 rfl, tl_iret⟩, List.forall_mem_cons.mpr ⟨⟨s_aload_n d163_29 rfl, tl_aload _ _⟩, List.forall_mem_cons.mpr ⟨⟨q_invV_100 d163_30 wd_682, tl_invV _ _ _ _⟩, List.forall_mem_cons.mpr ⟨⟨s_iconst d163_33 rfl, tl_push _ _⟩, List.forall_mem_cons.mpr ⟨⟨s_istore_n d163_34 rfl st1_163_2, tl_istore _ _⟩, List.forall_mem_cons.mpr ⟨⟨s_iload_n d163_35 rfl, tl_iload _ _⟩, List.forall_mem_cons.mpr ⟨⟨s_sipush d163_36 rfl, tl_push _ _⟩, List.forall_mem_cons.mpr ⟨⟨s_icge d163_39 rfl, tl_icge _ _⟩, List.forall_mem_cons.mpr ⟨⟨s_aload_n d163_42 rfl, tl_aload _ _⟩, List.forall_mem_cons.mpr ⟨⟨f_getR_5_1 d163_43 wd_617, tl_getR _ _ _⟩, List.forall_mem_cons.mpr ⟨⟨s_iload_n d163_46 rfl, tl_iload _ _⟩, List.forall_mem_cons.mpr ⟨⟨s_aload_n d163_47 rfl, tl_aload _ _⟩, List.forall_mem_cons.mpr ⟨⟨f_getR_5_4 d163_48 wd_620, tl_getR _ _ _⟩, List.forall_mem_cons.mpr ⟨⟨s_sipush d163_51 rfl, tl_push _ _⟩, List.forall_mem_cons.mpr ⟨⟨s_iload_n d163_54 rfl, tl_iload _ _⟩, List.forall_mem_cons.mpr ⟨⟨s_imul d163_55, tl_imul _⟩, List.forall_mem_cons.mpr ⟨⟨s_iload_n d163_56 rfl, tl_iload _ _⟩, List.forall_mem_cons.mpr ⟨⟨s_iadd d163_57, tl_iadd _⟩, List.forall_mem_cons.mpr ⟨⟨s_iald d163_58, tl_iald _⟩, List.forall_mem_cons.mpr ⟨⟨s_iast d163_59, tl_iast _⟩, List.forall_mem_cons.mpr ⟨⟨s_iinc d163_60 rfl st1_163_2, tl_iinc _ _ _⟩, List.forall_mem_cons.mpr ⟨⟨s_goto d163_63 rfl, tl_goto _⟩, List.forall_mem_cons.mpr ⟨⟨s_aload_n d163_66 rfl, tl_aload _ _⟩, List.forall_mem_cons.mpr ⟨⟨f_getR_5_1 d163_67 wd_617, tl_getR _ _ _⟩, fun _ h => absurd h List.not_mem_nil⟩⟩⟩⟩⟩⟩⟩⟩⟩⟩⟩⟩⟩⟩⟩⟩⟩⟩⟩⟩⟩⟩⟩⟩⟩⟩⟩⟩⟩⟩⟩⟩⟩⟩⟩⟩⟩⟩⟩⟩
/-- RX5.restore -/
def t163_1 : List (Nat × pO) := [(70, o_push (.int (nI 3)) 71), (71, o_iald 72), (72, o_iret)]
theorem ok163_1 : ∀ q ∈ t163_1, p_Z 163 q := List.forall_mem_cons.mpr ⟨⟨s_iconst d163_70 rfl, tl_push _ _⟩, List.forall_mem_cons.mpr ⟨⟨s_iald d163_71, tl_iald _⟩, List.forall_mem_cons.mpr ⟨⟨s_iret d163_72 rfl, tl_iret⟩, fun _ h => absurd h List.not_mem_nil⟩⟩⟩
def t163 : List (Nat × pO) := t163_0 ++ (t163_1)
theorem ok163 : ∀ q ∈ t163, p_Z 163 q := List.forall_mem_append.mpr ⟨ok163_0, ok163_1⟩
