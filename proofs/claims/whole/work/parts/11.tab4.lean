/-! ops of each method, and that each is sound -/
theorem d47_0 : decode (pB 47) 0 = .ok (.aload_n 0, 1) := by decide +kernel
theorem d47_1 : decode (pB 47) 1 = .ok (.invokespecial 1, 3) := by decide +kernel
theorem d47_4 : decode (pB 47) 4 = .ok (.aload_n 0, 1) := by decide +kernel
theorem d47_5 : decode (pB 47) 5 = .ok (.new 7, 3) := by decide +kernel
theorem d47_8 : decode (pB 47) 8 = .ok (.dup, 1) := by decide +kernel
theorem d47_9 : decode (pB 47) 9 = .ok (.invokespecial 9, 3) := by decide +kernel
theorem d47_12 : decode (pB 47) 12 = .ok (.putfield 10, 3) := by decide +kernel
theorem d47_15 : decode (pB 47) 15 = .ok (.aload_n 0, 1) := by decide +kernel
theorem d47_16 : decode (pB 47) 16 = .ok (.bipush 7, 2) := by decide +kernel
theorem d47_18 : decode (pB 47) 18 = .ok (.anewarray 7, 3) := by decide +kernel
theorem d47_21 : decode (pB 47) 21 = .ok (.putfield 16, 3) := by decide +kernel
theorem d47_24 : decode (pB 47) 24 = .ok (.aload_n 0, 1) := by decide +kernel
theorem d47_25 : decode (pB 47) 25 = .ok (.iconst 0, 1) := by decide +kernel
theorem d47_26 : decode (pB 47) 26 = .ok (.putfield 20, 3) := by decide +kernel
theorem d47_29 : decode (pB 47) 29 = .ok (.aload_n 0, 1) := by decide +kernel
theorem d47_30 : decode (pB 47) 30 = .ok (.iconst 2, 1) := by decide +kernel
theorem d47_31 : decode (pB 47) 31 = .ok (.anewarray 7, 3) := by decide +kernel
theorem d47_34 : decode (pB 47) 34 = .ok (.putfield 24, 3) := by decide +kernel
theorem d47_37 : decode (pB 47) 37 = .ok (.aload_n 0, 1) := by decide +kernel
theorem d47_38 : decode (pB 47) 38 = .ok (.iconst 2, 1) := by decide +kernel
theorem d47_39 : decode (pB 47) 39 = .ok (.newarray .boolean, 2) := by decide +kernel
theorem d47_41 : decode (pB 47) 41 = .ok (.putfield 27, 3) := by decide +kernel
theorem d47_44 : decode (pB 47) 44 = .ok (.aload_n 0, 1) := by decide +kernel
theorem d47_45 : decode (pB 47) 45 = .ok (.bipush 6, 2) := by decide +kernel
theorem d47_47 : decode (pB 47) 47 = .ok (.anewarray 31, 3) := by decide +kernel
theorem d47_50 : decode (pB 47) 50 = .ok (.putfield 33, 3) := by decide +kernel
theorem d47_53 : decode (pB 47) 53 = .ok (.aload_n 0, 1) := by decide +kernel
theorem d47_54 : decode (pB 47) 54 = .ok (.new 37, 3) := by decide +kernel
theorem d47_57 : decode (pB 47) 57 = .ok (.dup, 1) := by decide +kernel
theorem d47_58 : decode (pB 47) 58 = .ok (.invokespecial 39, 3) := by decide +kernel
theorem d47_61 : decode (pB 47) 61 = .ok (.putfield 40, 3) := by decide +kernel
theorem d47_64 : decode (pB 47) 64 = .ok (.aload_n 0, 1) := by decide +kernel
theorem d47_65 : decode (pB 47) 65 = .ok (.aload_n 0, 1) := by decide +kernel
theorem d47_66 : decode (pB 47) 66 = .ok (.getfield 40, 3) := by decide +kernel
theorem d47_69 : decode (pB 47) 69 = .ok (.getfield 44, 3) := by decide +kernel
theorem d47_72 : decode (pB 47) 72 = .ok (.putfield 48, 3) := by decide +kernel
theorem d47_75 : decode (pB 47) 75 = .ok (.iconst 0, 1) := by decide +kernel
theorem d47_76 : decode (pB 47) 76 = .ok (.istore_n 1, 1) := by decide +kernel
theorem d47_77 : decode (pB 47) 77 = .ok (.iload_n 1, 1) := by decide +kernel
theorem d47_78 : decode (pB 47) 78 = .ok (.aload_n 0, 1) := by decide +kernel
theorem d47_79 : decode (pB 47) 79 = .ok (.getfield 16, 3) := by decide +kernel
theorem d47_82 : decode (pB 47) 82 = .ok (.arraylength, 1) := by decide +kernel
theorem d47_83 : decode (pB 47) 83 = .ok (.if_icmp .ge 22, 3) := by decide +kernel
theorem d47_86 : decode (pB 47) 86 = .ok (.aload_n 0, 1) := by decide +kernel
theorem d47_87 : decode (pB 47) 87 = .ok (.getfield 16, 3) := by decide +kernel
theorem d47_90 : decode (pB 47) 90 = .ok (.iload_n 1, 1) := by decide +kernel
theorem d47_91 : decode (pB 47) 91 = .ok (.new 7, 3) := by decide +kernel
theorem d47_94 : decode (pB 47) 94 = .ok (.dup, 1) := by decide +kernel
theorem d47_95 : decode (pB 47) 95 = .ok (.invokespecial 9, 3) := by decide +kernel
theorem d47_98 : decode (pB 47) 98 = .ok (.aastore, 1) := by decide +kernel
theorem d47_99 : decode (pB 47) 99 = .ok (.iinc 1 1, 3) := by decide +kernel
theorem d47_102 : decode (pB 47) 102 = .ok (.goto (-25), 3) := by decide +kernel
theorem d47_105 : decode (pB 47) 105 = .ok (.iconst 0, 1) := by decide +kernel
theorem d47_106 : decode (pB 47) 106 = .ok (.istore_n 1, 1) := by decide +kernel
theorem d47_107 : decode (pB 47) 107 = .ok (.iload_n 1, 1) := by decide +kernel
theorem d47_108 : decode (pB 47) 108 = .ok (.aload_n 0, 1) := by decide +kernel
theorem d47_109 : decode (pB 47) 109 = .ok (.getfield 24, 3) := by decide +kernel
theorem d47_112 : decode (pB 47) 112 = .ok (.arraylength, 1) := by decide +kernel
theorem d47_113 : decode (pB 47) 113 = .ok (.if_icmp .ge 22, 3) := by decide +kernel
theorem d47_116 : decode (pB 47) 116 = .ok (.aload_n 0, 1) := by decide +kernel
theorem d47_117 : decode (pB 47) 117 = .ok (.getfield 24, 3) := by decide +kernel
theorem d47_120 : decode (pB 47) 120 = .ok (.iload_n 1, 1) := by decide +kernel
theorem d47_121 : decode (pB 47) 121 = .ok (.new 7, 3) := by decide +kernel
theorem d47_124 : decode (pB 47) 124 = .ok (.dup, 1) := by decide +kernel
theorem d47_125 : decode (pB 47) 125 = .ok (.invokespecial 9, 3) := by decide +kernel
theorem d47_128 : decode (pB 47) 128 = .ok (.aastore, 1) := by decide +kernel
theorem d47_129 : decode (pB 47) 129 = .ok (.iinc 1 1, 3) := by decide +kernel
theorem d47_132 : decode (pB 47) 132 = .ok (.goto (-25), 3) := by decide +kernel
theorem d47_135 : decode (pB 47) 135 = .ok (.iconst 0, 1) := by decide +kernel
theorem d47_136 : decode (pB 47) 136 = .ok (.istore_n 1, 1) := by decide +kernel
theorem d47_137 : decode (pB 47) 137 = .ok (.iload_n 1, 1) := by decide +kernel
theorem d47_138 : decode (pB 47) 138 = .ok (.aload_n 0, 1) := by decide +kernel
theorem d47_139 : decode (pB 47) 139 = .ok (.getfield 33, 3) := by decide +kernel
theorem d47_142 : decode (pB 47) 142 = .ok (.arraylength, 1) := by decide +kernel
theorem d47_143 : decode (pB 47) 143 = .ok (.if_icmp .ge 22, 3) := by decide +kernel
theorem d47_146 : decode (pB 47) 146 = .ok (.aload_n 0, 1) := by decide +kernel
theorem d47_147 : decode (pB 47) 147 = .ok (.getfield 33, 3) := by decide +kernel
theorem d47_150 : decode (pB 47) 150 = .ok (.iload_n 1, 1) := by decide +kernel
theorem d47_151 : decode (pB 47) 151 = .ok (.new 31, 3) := by decide +kernel
theorem d47_154 : decode (pB 47) 154 = .ok (.dup, 1) := by decide +kernel
theorem d47_155 : decode (pB 47) 155 = .ok (.invokespecial 49, 3) := by decide +kernel
theorem d47_158 : decode (pB 47) 158 = .ok (.aastore, 1) := by decide +kernel
theorem d47_159 : decode (pB 47) 159 = .ok (.iinc 1 1, 3) := by decide +kernel
theorem d47_162 : decode (pB 47) 162 = .ok (.goto (-25), 3) := by decide +kernel
theorem d47_165 : decode (pB 47) 165 = .ok (.aload_n 0, 1) := by decide +kernel
theorem d47_166 : decode (pB 47) 166 = .ok (.getfield 33, 3) := by decide +kernel
theorem d47_169 : decode (pB 47) 169 = .ok (.iconst 0, 1) := by decide +kernel
theorem d47_170 : decode (pB 47) 170 = .ok (.aaload, 1) := by decide +kernel
theorem d47_171 : decode (pB 47) 171 = .ok (.getstatic 50, 3) := by decide +kernel
theorem d47_174 : decode (pB 47) 174 = .ok (.iconst 0, 1) := by decide +kernel
theorem d47_175 : decode (pB 47) 175 = .ok (.iaload, 1) := by decide +kernel
theorem d47_176 : decode (pB 47) 176 = .ok (.invokevirtual 54, 3) := by decide +kernel
theorem d47_179 : decode (pB 47) 179 = .ok (.return_, 1) := by decide +kernel
theorem st1_47_1 : p_st1 47 1 = true := by decide +kernel
/-- RX4.<init> -/
def t47_0 : List (Nat × pO) := [(0, o_aload 0 1), (1, o_oinit 4), (4, o_aload 0 5), (5, o_new 3 [.null, .null, .null, .null, .null, .int 0, .int 0] 8), (8, o_dupr 9), (9, o_invI 28 0 12), (12, o_putR 4 0 15), (15, o_aload 0 16), (16, o_push (.int (nI 7)) 18), (18, o_newq 3 21), (21, o_putR 4 1 24), (24, o_aload 0 25), (25, o_push (.int (nI 0)) 26), (26, o_putI 4 2 29), (29, o_aload 0 30), (30, o_push (.int (nI 2)) 31), (31, o_newq 3 34), (34, o_putR 4 3 37), (37, o_aload 0 38), (38, o_push (.int (nI 2)) 39), (39, o_newa 1 41), (41, o_putR 4 4 44), (44, o_aload 0 45), (45, o_push (.int (nI 6)) 47), (47, o_newq 2 50), (50, o_putR 4 5 53), (53, o_aload 0 54), (54, o_new 1 [.null, .int 0, .int 0, .int 0, .int 0, .int 0] 57), (57, o_dupr 58), (58, o_invI 14 0 61), (61, o_putR 4 6 64), (64, o_aload 0 65), (65, o_aload 0 66), (66, o_getR 4 6 69), (69, o_getR 1 0 72), (72, o_putR 4 7 75), (75, o_push (.int (nI 0)) 76), (76, o_istore 1 77), (77, o_iload 1 78), (78, o_aload 0 79)]
theorem ok47_0 : ∀ q ∈ t47_0, p_Z 47 q := List.forall_mem_cons.mpr ⟨⟨s_aload_n d47_0 rfl, tl_aload _ _⟩, List.forall_mem_cons.mpr ⟨⟨s_oinit d47_1 wd_74 wd_75 wd_76, tl_oinit _⟩, List.forall_mem_cons.mpr ⟨⟨s_aload_n d47_4 rfl, tl_aload _ _⟩, List.forall_mem_cons.mpr ⟨⟨s_new d47_5 rfl inp3 tyX3_ok rfl ⟨rfl, by simp⟩ wd_77 wd_78 wd_61, tl_new _ _ _⟩, List.forall_mem_cons.mpr ⟨⟨s_dupr d47_8, tl_dupr _⟩, List.forall_mem_cons.mpr ⟨⟨q_invI_28 d47_9 wd_79, tl_invI _ _ _⟩, List.forall_mem_cons.mpr ⟨⟨f_putR_4_0 d47_12 wd_212, tl_putR _ _ _⟩, List.forall_mem_cons.mpr ⟨⟨s_aload_n d47_15 rfl, tl_aload _ _⟩, List.forall_mem_cons.mpr ⟨⟨s_bipush d47_16 rfl, tl_push _ _⟩, List.forall_mem_cons.mpr ⟨⟨s_newq d47_18 wd_77 (by decide +kernel), tl_newq _ _⟩, List.forall_mem_cons.mpr ⟨⟨f_putR_4_1 d47_21 wd_213, tl_putR _ _ _⟩, List.forall_mem_cons.mpr ⟨⟨s_aload_n d47_24 rfl, tl_aload _ _⟩, List.forall_mem_cons.mpr ⟨⟨s_iconst d47_25 rfl, tl_push _ _⟩, List.forall_mem_cons.mpr ⟨⟨f_putI_4_2 d47_26 wd_214, tl_putI _ _ _⟩, List.forall_mem_cons.mpr ⟨⟨s_aload_n d47_29 rfl, tl_aload _ _⟩, List.forall_mem_cons.mpr ⟨⟨s_iconst d47_30 rfl, tl_push _ _⟩, List.forall_mem_cons.mpr ⟨⟨s_newq d47_31 wd_77 (by decide +kernel), tl_newq _ _⟩, List.forall_mem_cons.mpr ⟨⟨f_putR_4_3 d47_34 wd_215, tl_putR _ _ _⟩, List.forall_mem_cons.mpr ⟨⟨s_aload_n d47_37 rfl, tl_aload _ _⟩, List.forall_mem_cons.mpr ⟨⟨s_iconst d47_38 rfl, tl_push _ _⟩, List.forall_mem_cons.mpr ⟨⟨s_newaz d47_39 wd_141, tl_newa _ _⟩, List.forall_mem_cons.mpr ⟨⟨f_putR_4_4 d47_41 wd_216, tl_putR _ _ _⟩, List.forall_mem_cons.mpr ⟨⟨s_aload_n d47_44 rfl, tl_aload _ _⟩, List.forall_mem_cons.mpr ⟨⟨s_bipush d47_45 rfl, tl_push _ _⟩, List.forall_mem_cons.mpr ⟨⟨s_newq d47_47 wd_116 (by decide +kernel), tl_newq _ _⟩, List.forall_mem_cons.mpr ⟨⟨f_putR_4_5 d47_50 wd_217, tl_putR _ _ _⟩, List.forall_mem_cons.mpr ⟨⟨s_aload_n d47_53 rfl, tl_aload _ _⟩, List.forall_mem_cons.mpr ⟨⟨s_new d47_54 rfl inp1 tyX1_ok rfl ⟨rfl, by simp⟩ wd_118 wd_119 wd_62, tl_new _ _ _⟩, List.forall_mem_cons.mpr ⟨⟨s_dupr d47_57, tl_dupr _⟩, List.forall_mem_cons.mpr ⟨⟨q_invN_14 (host := "FoldedBench") d47_58 (by decide +kernel), tl_invI _ _ _⟩, List.forall_mem_cons.mpr ⟨⟨f_putR_4_6 d47_61 wd_218, tl_putR _ _ _⟩, List.forall_mem_cons.mpr ⟨⟨s_aload_n d47_64 rfl, tl_aload _ _⟩, List.forall_mem_cons.mpr ⟨⟨s_aload_n d47_65 rfl, tl_aload _ _⟩, List.forall_mem_cons.mpr ⟨⟨f_getR_4_6 d47_66 wd_218, tl_getR _ _ _⟩, List.forall_mem_cons.mpr ⟨⟨f_getR_1_0 d47_69 wd_143, tl_getR _ _ _⟩, List.forall_mem_cons.mpr ⟨⟨f_putR_4_7 d47_72 wd_219, tl_putR _ _ _⟩, List.forall_mem_cons.mpr ⟨⟨s_iconst d47_75 rfl, tl_push _ _⟩, List.forall_mem_cons.mpr ⟨⟨s_istore_n d47_76 rfl st1_47_1, tl_istore _ _⟩, List.forall_mem_cons.mpr ⟨⟨s_iload_n d47_77 rfl, tl_iload _ _⟩, List.forall_mem_cons.mpr ⟨⟨s_aload_n d47_78 rfl, tl_aload _ _⟩, fun _ h => absurd h List.not_mem_nil⟩⟩⟩⟩⟩⟩⟩⟩⟩⟩⟩⟩⟩⟩⟩⟩⟩⟩⟩⟩⟩⟩⟩⟩⟩⟩⟩⟩⟩⟩⟩⟩⟩⟩⟩⟩⟩⟩⟩⟩
/-- RX4.<init> -/
def t47_1 : List (Nat × pO) := [(79, o_getR 4 1 82), (82, o_alen 83), (83, o_icge 105 86), (86, o_aload 0 87), (87, o_getR 4 1 90), (90, o_iload 1 91), (91, o_new 3 [.null, .null, .null, .null, .null, .int 0, .int 0] 94), (94, o_dupr 95), (95, o_invI 28 0 98), (98, o_aast 99), (99, o_iinc 1 (nI 1) 102), (102, o_goto 77), (105, o_push (.int (nI 0)) 106), (106, o_istore 1 107), (107, o_iload 1 108), (108, o_aload 0 109), (109, o_getR 4 3 112), (112, o_alen 113), (113, o_icge 135 116), (116, o_aload 0 117), (117, o_getR 4 3 120), (120, o_iload 1 121), (121, o_new 3 [.null, .null, .null, .null, .null, .int 0, .int 0] 124), (124, o_dupr 125), (125, o_invI 28 0 128), (128, o_aast 129), (129, o_iinc 1 (nI 1) 132), (132, o_goto 107), (135, o_push (.int (nI 0)) 136), (136, o_istore 1 137), (137, o_iload 1 138), (138, o_aload 0 139), (139, o_getR 4 5 142), (142, o_alen 143), (143, o_icge 165 146), (146, o_aload 0 147), (147, o_getR 4 5 150), (150, o_iload 1 151), (151, o_new 0 [.int 0, .int 0, .null, .null, .null, .null] 154), (154, o_dupr 155)]
theorem ok47_1 : ∀ q ∈ t47_1, p_Z 47 q := List.forall_mem_cons.mpr ⟨⟨f_getR_4_1 d47_79 wd_213, tl_getR _ _ _⟩, List.forall_mem_cons.mpr ⟨⟨s_alen d47_82, tl_alen _⟩, List.forall_mem_cons.mpr ⟨⟨s_icge d47_83 rfl, tl_icge _ _⟩, List.forall_mem_cons.mpr ⟨⟨s_aload_n d47_86 rfl, tl_aload _ _⟩, List.forall_mem_cons.mpr ⟨⟨f_getR_4_1 d47_87 wd_213, tl_getR _ _ _⟩, List.forall_mem_cons.mpr ⟨⟨s_iload_n d47_90 rfl, tl_iload _ _⟩, List.forall_mem_cons.mpr ⟨⟨s_new d47_91 rfl inp3 tyX3_ok rfl ⟨rfl, by simp⟩ wd_77 wd_78 wd_61, tl_new _ _ _⟩, List.forall_mem_cons.mpr ⟨⟨s_dupr d47_94, tl_dupr _⟩, List.forall_mem_cons.mpr ⟨⟨q_invI_28 d47_95 wd_79, tl_invI _ _ _⟩, List.forall_mem_cons.mpr ⟨⟨s_aast d47_98, tl_aast _⟩, List.forall_mem_cons.mpr ⟨⟨s_iinc d47_99 rfl st1_47_1, tl_iinc _ _ _⟩, List.forall_mem_cons.mpr ⟨⟨s_goto d47_102 rfl, tl_goto _⟩, List.forall_mem_cons.mpr ⟨⟨s_iconst d47_105 rfl, tl_push _ _⟩, List.forall_mem_cons.mpr ⟨⟨s_istore_n d47_106 rfl st1_47_1, tl_istore _ _⟩, List.forall_mem_cons.mpr ⟨⟨s_iload_n d47_107 rfl, tl_iload _ _⟩, List.forall_mem_cons.mpr ⟨⟨s_aload_n d47_108 rfl, tl_aload _ _⟩, List.forall_mem_cons.mpr ⟨⟨f_getR_4_3 d47_109 wd_215, tl_getR _ _ _⟩, List.forall_mem_cons.mpr ⟨⟨s_alen d47_112, tl_alen _⟩, List.forall_mem_cons.mpr ⟨⟨s_icge d47_113 rfl, tl_icge _ _⟩, List.forall_mem_cons.mpr ⟨⟨s_aload_n d47_116 rfl, tl_aload _ _⟩, List.forall_mem_cons.mpr ⟨⟨f_getR_4_3 d47_117 wd_215, tl_getR _ _ _⟩, List.forall_mem_cons.mpr ⟨⟨s_iload_n d47_120 rfl, tl_iload _ _⟩, List.forall_mem_cons.mpr ⟨⟨s_new d47_121 rfl inp3 tyX3_ok rfl ⟨rfl, by simp⟩ wd_77 wd_78 wd_61, tl_new _ _ _⟩, List.forall_mem_cons.mpr ⟨⟨s_dupr d47_124, tl_dupr _⟩, List.forall_mem_cons.mpr ⟨⟨q_invI_28 d47_125 wd_79, tl_invI _ _ _⟩, List.forall_mem_cons.mpr ⟨⟨s_aast d47_128, tl_aast _⟩, List.forall_mem_cons.mpr ⟨⟨s_iinc d47_129 rfl st1_47_1, tl_iinc _ _ _⟩, List.forall_mem_cons.mpr ⟨⟨s_goto d47_132 rfl, tl_goto _⟩, List.forall_mem_cons.mpr ⟨⟨s_iconst d47_135 rfl, tl_push _ _⟩, List.forall_mem_cons.mpr ⟨⟨s_istore_n d47_136 rfl st1_47_1, tl_istore _ _⟩, List.forall_mem_cons.mpr ⟨⟨s_iload_n d47_137 rfl, tl_iload _ _⟩, List.forall_mem_cons.mpr ⟨⟨s_aload_n d47_138 rfl, tl_aload _ _⟩, List.forall_mem_cons.mpr ⟨⟨f_getR_4_5 d47_139 wd_217, tl_getR _ _ _⟩, List.forall_mem_cons.mpr ⟨⟨s_alen d47_142, tl_alen _⟩, List.forall_mem_cons.mpr ⟨⟨s_icge d47_143 rfl, tl_icge _ _⟩, List.forall_mem_cons.mpr ⟨⟨s_aload_n d47_146 rfl, tl_aload _ _⟩, List.forall_mem_cons.mpr ⟨⟨f_getR_4_5 d47_147 wd_217, tl_getR _ _ _⟩, List.forall_mem_cons.mpr ⟨⟨s_iload_n d47_150 rfl, tl_iload _ _⟩, List.forall_mem_cons.mpr ⟨⟨s_new d47_151 rfl inp0 tyX0_ok rfl ⟨rfl, by simp⟩ wd_116 wd_166 wd_64, tl_new _ _ _⟩, List.forall_mem_cons.mpr ⟨⟨s_dupr d47_154, tl_dupr _⟩, fun _ h => absurd h List.not_mem_nil⟩⟩⟩⟩⟩⟩⟩⟩⟩⟩⟩⟩⟩⟩⟩⟩⟩⟩⟩⟩⟩⟩⟩⟩⟩⟩⟩⟩⟩⟩⟩⟩⟩⟩⟩⟩⟩⟩⟩⟩
/-- RX4.<init> -/
def t47_2 : List (Nat × pO) := [(155, o_invI 0 0 158), (158, o_aast 159), (159, o_iinc 1 (nI 1) 162), (162, o_goto 137), (165, o_aload 0 166), (166, o_getR 4 5 169), (169, o_push (.int (nI 0)) 170), (170, o_aald 171), (171, o_gets 2 174), (174, o_push (.int (nI 0)) 175), (175, o_iald 176), (176, o_invV 0 1 1 179), (179, o_vret)]
theorem ok47_2 : ∀ q ∈ t47_2, p_Z 47 q := List.forall_mem_cons.mpr ⟨⟨q_invN_0 (host := "FoldedBench") d47_155 (by decide +kernel), tl_invI _ _ _⟩, List.forall_mem_cons.mpr ⟨⟨s_aast d47_158, tl_aast _⟩, List.forall_mem_cons.mpr ⟨⟨s_iinc d47_159 rfl st1_47_1, tl_iinc _ _ _⟩, List.forall_mem_cons.mpr ⟨⟨s_goto d47_162 rfl, tl_goto _⟩, List.forall_mem_cons.mpr ⟨⟨s_aload_n d47_165 rfl, tl_aload _ _⟩, List.forall_mem_cons.mpr ⟨⟨f_getR_4_5 d47_166 wd_217, tl_getR _ _ _⟩, List.forall_mem_cons.mpr ⟨⟨s_iconst d47_169 rfl, tl_push _ _⟩, List.forall_mem_cons.mpr ⟨⟨s_aald d47_170, tl_aald _⟩, List.forall_mem_cons.mpr ⟨⟨s_gets (n := "AT_FIRST") d47_171 (by decide +kernel) wd_195, tl_gets _ _⟩, List.forall_mem_cons.mpr ⟨⟨s_iconst d47_174 rfl, tl_push _ _⟩, List.forall_mem_cons.mpr ⟨⟨s_iald d47_175, tl_iald _⟩, List.forall_mem_cons.mpr ⟨⟨q_invV_1 d47_176 wd_196, tl_invV _ _ _ _⟩, List.forall_mem_cons.mpr ⟨⟨s_vret d47_179 rfl, tl_vret⟩, fun _ h => absurd h List.not_mem_nil⟩⟩⟩⟩⟩⟩⟩⟩⟩⟩⟩⟩⟩
def t47 : List (Nat × pO) := t47_0 ++ (t47_1 ++ (t47_2))
theorem ok47 : ∀ q ∈ t47, p_Z 47 q := List.forall_mem_append.mpr ⟨ok47_0, List.forall_mem_append.mpr ⟨ok47_1, ok47_2⟩⟩
theorem d48_0 : decode (pB 48) 0 = .ok (.aload_n 0, 1) := by decide +kernel
theorem d48_1 : decode (pB 48) 1 = .ok (.invokevirtual 58, 3) := by decide +kernel
theorem d48_4 : decode (pB 48) 4 = .ok (.aload_n 0, 1) := by decide +kernel
theorem d48_5 : decode (pB 48) 5 = .ok (.aload_n 0, 1) := by decide +kernel
theorem d48_6 : decode (pB 48) 6 = .ok (.iload_n 1, 1) := by decide +kernel
theorem d48_7 : decode (pB 48) 7 = .ok (.iload_n 2, 1) := by decide +kernel
theorem d48_8 : decode (pB 48) 8 = .ok (.invokevirtual 61, 3) := by decide +kernel
theorem d48_11 : decode (pB 48) 11 = .ok (.invokevirtual 65, 3) := by decide +kernel
theorem d48_14 : decode (pB 48) 14 = .ok (.ireturn, 1) := by decide +kernel
/-- RX4.set -/
def t48_0 : List (Nat × pO) := [(0, o_aload 0 1), (1, o_invV 4 92 0 4), (4, o_aload 0 5), (5, o_aload 0 6), (6, o_iload 1 7), (7, o_iload 2 8), (8, o_invV 4 74 2 11), (11, o_invV 4 93 1 14), (14, o_iret)]
theorem ok48_0 : ∀ q ∈ t48_0, p_Z 48 q := List.forall_mem_cons.mpr ⟨⟨s_aload_n d48_0 rfl, tl_aload _ _⟩, List.forall_mem_cons.mpr ⟨⟨q_invV_92 d48_1 wd_241, tl_invV _ _ _ _⟩, List.forall_mem_cons.mpr ⟨⟨s_aload_n d48_4 rfl, tl_aload _ _⟩, List.forall_mem_cons.mpr ⟨⟨s_aload_n d48_5 rfl, tl_aload _ _⟩, List.forall_mem_cons.mpr ⟨⟨s_iload_n d48_6 rfl, tl_iload _ _⟩, List.forall_mem_cons.mpr ⟨⟨s_iload_n d48_7 rfl, tl_iload _ _⟩, List.forall_mem_cons.mpr ⟨⟨q_invV_74 d48_8 wd_252, tl_invV _ _ _ _⟩, List.forall_mem_cons.mpr ⟨⟨q_invV_93 d48_11 wd_283, tl_invV _ _ _ _⟩, List.forall_mem_cons.mpr ⟨⟨s_iret d48_14 rfl, tl_iret⟩, fun _ h => absurd h List.not_mem_nil⟩⟩⟩⟩⟩⟩⟩⟩⟩
def t48 : List (Nat × pO) := t48_0
theorem ok48 : ∀ q ∈ t48, p_Z 48 q := ok48_0
theorem d49_0 : decode (pB 49) 0 = .ok (.aload_n 0, 1) := by decide +kernel
theorem d49_1 : decode (pB 49) 1 = .ok (.invokevirtual 58, 3) := by decide +kernel
theorem d49_4 : decode (pB 49) 4 = .ok (.aload_n 0, 1) := by decide +kernel
theorem d49_5 : decode (pB 49) 5 = .ok (.aload_n 0, 1) := by decide +kernel
theorem d49_6 : decode (pB 49) 6 = .ok (.invokevirtual 69, 3) := by decide +kernel
theorem d49_9 : decode (pB 49) 9 = .ok (.invokevirtual 65, 3) := by decide +kernel
theorem d49_12 : decode (pB 49) 12 = .ok (.ireturn, 1) := by decide +kernel
/-- RX4.cousin -/
def t49_0 : List (Nat × pO) := [(0, o_aload 0 1), (1, o_invV 4 92 0 4), (4, o_aload 0 5), (5, o_aload 0 6), (6, o_invV 4 75 0 9), (9, o_invV 4 93 1 12), (12, o_iret)]
theorem ok49_0 : ∀ q ∈ t49_0, p_Z 49 q := List.forall_mem_cons.mpr ⟨⟨s_aload_n d49_0 rfl, tl_aload _ _⟩, List.forall_mem_cons.mpr ⟨⟨q_invV_92 d49_1 wd_241, tl_invV _ _ _ _⟩, List.forall_mem_cons.mpr ⟨⟨s_aload_n d49_4 rfl, tl_aload _ _⟩, List.forall_mem_cons.mpr ⟨⟨s_aload_n d49_5 rfl, tl_aload _ _⟩, List.forall_mem_cons.mpr ⟨⟨q_invV_75 d49_6 wd_298, tl_invV _ _ _ _⟩, List.forall_mem_cons.mpr ⟨⟨q_invV_93 d49_9 wd_283, tl_invV _ _ _ _⟩, List.forall_mem_cons.mpr ⟨⟨s_iret d49_12 rfl, tl_iret⟩, fun _ h => absurd h List.not_mem_nil⟩⟩⟩⟩⟩⟩⟩
def t49 : List (Nat × pO) := t49_0
theorem ok49 : ∀ q ∈ t49, p_Z 49 q := ok49_0
theorem d50_0 : decode (pB 50) 0 = .ok (.aload_n 0, 1) := by decide +kernel
theorem d50_1 : decode (pB 50) 1 = .ok (.invokevirtual 58, 3) := by decide +kernel
theorem d50_4 : decode (pB 50) 4 = .ok (.aload_n 0, 1) := by decide +kernel
theorem d50_5 : decode (pB 50) 5 = .ok (.aload_n 0, 1) := by decide +kernel
theorem d50_6 : decode (pB 50) 6 = .ok (.iload_n 1, 1) := by decide +kernel
theorem d50_7 : decode (pB 50) 7 = .ok (.iload_n 2, 1) := by decide +kernel
theorem d50_8 : decode (pB 50) 8 = .ok (.invokevirtual 73, 3) := by decide +kernel
theorem d50_11 : decode (pB 50) 11 = .ok (.invokevirtual 65, 3) := by decide +kernel
theorem d50_14 : decode (pB 50) 14 = .ok (.ireturn, 1) := by decide +kernel
/-- RX4.sit -/
def t50_0 : List (Nat × pO) := [(0, o_aload 0 1), (1, o_invV 4 92 0 4), (4, o_aload 0 5), (5, o_aload 0 6), (6, o_iload 1 7), (7, o_iload 2 8), (8, o_invV 4 76 2 11), (11, o_invV 4 93 1 14), (14, o_iret)]
theorem ok50_0 : ∀ q ∈ t50_0, p_Z 50 q := List.forall_mem_cons.mpr ⟨⟨s_aload_n d50_0 rfl, tl_aload _ _⟩, List.forall_mem_cons.mpr ⟨⟨q_invV_92 d50_1 wd_241, tl_invV _ _ _ _⟩, List.forall_mem_cons.mpr ⟨⟨s_aload_n d50_4 rfl, tl_aload _ _⟩, List.forall_mem_cons.mpr ⟨⟨s_aload_n d50_5 rfl, tl_aload _ _⟩, List.forall_mem_cons.mpr ⟨⟨s_iload_n d50_6 rfl, tl_iload _ _⟩, List.forall_mem_cons.mpr ⟨⟨s_iload_n d50_7 rfl, tl_iload _ _⟩, List.forall_mem_cons.mpr ⟨⟨q_invV_76 d50_8 wd_306, tl_invV _ _ _ _⟩, List.forall_mem_cons.mpr ⟨⟨q_invV_93 d50_11 wd_283, tl_invV _ _ _ _⟩, List.forall_mem_cons.mpr ⟨⟨s_iret d50_14 rfl, tl_iret⟩, fun _ h => absurd h List.not_mem_nil⟩⟩⟩⟩⟩⟩⟩⟩⟩
def t50 : List (Nat × pO) := t50_0
theorem ok50 : ∀ q ∈ t50, p_Z 50 q := ok50_0
theorem d51_0 : decode (pB 51) 0 = .ok (.aload_n 0, 1) := by decide +kernel
theorem d51_1 : decode (pB 51) 1 = .ok (.invokevirtual 58, 3) := by decide +kernel
theorem d51_4 : decode (pB 51) 4 = .ok (.aload_n 0, 1) := by decide +kernel
theorem d51_5 : decode (pB 51) 5 = .ok (.aload_n 0, 1) := by decide +kernel
theorem d51_6 : decode (pB 51) 6 = .ok (.iload_n 1, 1) := by decide +kernel
theorem d51_7 : decode (pB 51) 7 = .ok (.invokevirtual 76, 3) := by decide +kernel
theorem d51_10 : decode (pB 51) 10 = .ok (.invokevirtual 65, 3) := by decide +kernel
theorem d51_13 : decode (pB 51) 13 = .ok (.ireturn, 1) := by decide +kernel
/-- RX4.stand -/
def t51_0 : List (Nat × pO) := [(0, o_aload 0 1), (1, o_invV 4 92 0 4), (4, o_aload 0 5), (5, o_aload 0 6), (6, o_iload 1 7), (7, o_invV 4 77 1 10), (10, o_invV 4 93 1 13), (13, o_iret)]
theorem ok51_0 : ∀ q ∈ t51_0, p_Z 51 q := List.forall_mem_cons.mpr ⟨⟨s_aload_n d51_0 rfl, tl_aload _ _⟩, List.forall_mem_cons.mpr ⟨⟨q_invV_92 d51_1 wd_241, tl_invV _ _ _ _⟩, List.forall_mem_cons.mpr ⟨⟨s_aload_n d51_4 rfl, tl_aload _ _⟩, List.forall_mem_cons.mpr ⟨⟨s_aload_n d51_5 rfl, tl_aload _ _⟩, List.forall_mem_cons.mpr ⟨⟨s_iload_n d51_6 rfl, tl_iload _ _⟩, List.forall_mem_cons.mpr ⟨⟨q_invV_77 d51_7 wd_326, tl_invV _ _ _ _⟩, List.forall_mem_cons.mpr ⟨⟨q_invV_93 d51_10 wd_283, tl_invV _ _ _ _⟩, List.forall_mem_cons.mpr ⟨⟨s_iret d51_13 rfl, tl_iret⟩, fun _ h => absurd h List.not_mem_nil⟩⟩⟩⟩⟩⟩⟩⟩
def t51 : List (Nat × pO) := t51_0
theorem ok51 : ∀ q ∈ t51, p_Z 51 q := ok51_0
theorem d52_0 : decode (pB 52) 0 = .ok (.aload_n 0, 1) := by decide +kernel
theorem d52_1 : decode (pB 52) 1 = .ok (.invokevirtual 58, 3) := by decide +kernel
theorem d52_4 : decode (pB 52) 4 = .ok (.aload_n 0, 1) := by decide +kernel
theorem d52_5 : decode (pB 52) 5 = .ok (.aload_n 0, 1) := by decide +kernel
theorem d52_6 : decode (pB 52) 6 = .ok (.iload_n 1, 1) := by decide +kernel
theorem d52_7 : decode (pB 52) 7 = .ok (.iload_n 2, 1) := by decide +kernel
theorem d52_8 : decode (pB 52) 8 = .ok (.invokevirtual 79, 3) := by decide +kernel
theorem d52_11 : decode (pB 52) 11 = .ok (.invokevirtual 65, 3) := by decide +kernel
theorem d52_14 : decode (pB 52) 14 = .ok (.ireturn, 1) := by decide +kernel
/-- RX4.swap -/
def t52_0 : List (Nat × pO) := [(0, o_aload 0 1), (1, o_invV 4 92 0 4), (4, o_aload 0 5), (5, o_aload 0 6), (6, o_iload 1 7), (7, o_iload 2 8), (8, o_invV 4 78 2 11), (11, o_invV 4 93 1 14), (14, o_iret)]
theorem ok52_0 : ∀ q ∈ t52_0, p_Z 52 q := List.forall_mem_cons.mpr ⟨⟨s_aload_n d52_0 rfl, tl_aload _ _⟩, List.forall_mem_cons.mpr ⟨⟨q_invV_92 d52_1 wd_241, tl_invV _ _ _ _⟩, List.forall_mem_cons.mpr ⟨⟨s_aload_n d52_4 rfl, tl_aload _ _⟩, List.forall_mem_cons.mpr ⟨⟨s_aload_n d52_5 rfl, tl_aload _ _⟩, List.forall_mem_cons.mpr ⟨⟨s_iload_n d52_6 rfl, tl_iload _ _⟩, List.forall_mem_cons.mpr ⟨⟨s_iload_n d52_7 rfl, tl_iload _ _⟩, List.forall_mem_cons.mpr ⟨⟨q_invV_78 d52_8 wd_334, tl_invV _ _ _ _⟩, List.forall_mem_cons.mpr ⟨⟨q_invV_93 d52_11 wd_283, tl_invV _ _ _ _⟩, List.forall_mem_cons.mpr ⟨⟨s_iret d52_14 rfl, tl_iret⟩, fun _ h => absurd h List.not_mem_nil⟩⟩⟩⟩⟩⟩⟩⟩⟩
def t52 : List (Nat × pO) := t52_0
theorem ok52 : ∀ q ∈ t52, p_Z 52 q := ok52_0
theorem d53_0 : decode (pB 53) 0 = .ok (.aload_n 0, 1) := by decide +kernel
theorem d53_1 : decode (pB 53) 1 = .ok (.invokevirtual 58, 3) := by decide +kernel
theorem d53_4 : decode (pB 53) 4 = .ok (.aload_n 0, 1) := by decide +kernel
theorem d53_5 : decode (pB 53) 5 = .ok (.aload_n 0, 1) := by decide +kernel
theorem d53_6 : decode (pB 53) 6 = .ok (.iload_n 1, 1) := by decide +kernel
theorem d53_7 : decode (pB 53) 7 = .ok (.iload_n 2, 1) := by decide +kernel
theorem d53_8 : decode (pB 53) 8 = .ok (.iload_n 3, 1) := by decide +kernel
theorem d53_9 : decode (pB 53) 9 = .ok (.invokevirtual 82, 3) := by decide +kernel
theorem d53_12 : decode (pB 53) 12 = .ok (.invokevirtual 65, 3) := by decide +kernel
theorem d53_15 : decode (pB 53) 15 = .ok (.ireturn, 1) := by decide +kernel
/-- RX4.relate -/
def t53_0 : List (Nat × pO) := [(0, o_aload 0 1), (1, o_invV 4 92 0 4), (4, o_aload 0 5), (5, o_aload 0 6), (6, o_iload 1 7), (7, o_iload 2 8), (8, o_iload 3 9), (9, o_invV 4 79 3 12), (12, o_invV 4 93 1 15), (15, o_iret)]
theorem ok53_0 : ∀ q ∈ t53_0, p_Z 53 q := List.forall_mem_cons.mpr ⟨⟨s_aload_n d53_0 rfl, tl_aload _ _⟩, List.forall_mem_cons.mpr ⟨⟨q_invV_92 d53_1 wd_241, tl_invV _ _ _ _⟩, List.forall_mem_cons.mpr ⟨⟨s_aload_n d53_4 rfl, tl_aload _ _⟩, List.forall_mem_cons.mpr ⟨⟨s_aload_n d53_5 rfl, tl_aload _ _⟩, List.forall_mem_cons.mpr ⟨⟨s_iload_n d53_6 rfl, tl_iload _ _⟩, List.forall_mem_cons.mpr ⟨⟨s_iload_n d53_7 rfl, tl_iload _ _⟩, List.forall_mem_cons.mpr ⟨⟨s_iload_n d53_8 rfl, tl_iload _ _⟩, List.forall_mem_cons.mpr ⟨⟨q_invV_79 d53_9 wd_365, tl_invV _ _ _ _⟩, List.forall_mem_cons.mpr ⟨⟨q_invV_93 d53_12 wd_283, tl_invV _ _ _ _⟩, List.forall_mem_cons.mpr ⟨⟨s_iret d53_15 rfl, tl_iret⟩, fun _ h => absurd h List.not_mem_nil⟩⟩⟩⟩⟩⟩⟩⟩⟩⟩
def t53 : List (Nat × pO) := t53_0
theorem ok53 : ∀ q ∈ t53, p_Z 53 q := ok53_0
theorem d54_0 : decode (pB 54) 0 = .ok (.aload_n 0, 1) := by decide +kernel
theorem d54_1 : decode (pB 54) 1 = .ok (.invokevirtual 58, 3) := by decide +kernel
theorem d54_4 : decode (pB 54) 4 = .ok (.aload_n 0, 1) := by decide +kernel
theorem d54_5 : decode (pB 54) 5 = .ok (.aload_n 0, 1) := by decide +kernel
theorem d54_6 : decode (pB 54) 6 = .ok (.iload_n 1, 1) := by decide +kernel
theorem d54_7 : decode (pB 54) 7 = .ok (.invokevirtual 86, 3) := by decide +kernel
theorem d54_10 : decode (pB 54) 10 = .ok (.invokevirtual 65, 3) := by decide +kernel
theorem d54_13 : decode (pB 54) 13 = .ok (.ireturn, 1) := by decide +kernel
/-- RX4.fold -/
def t54_0 : List (Nat × pO) := [(0, o_aload 0 1), (1, o_invV 4 92 0 4), (4, o_aload 0 5), (5, o_aload 0 6), (6, o_iload 1 7), (7, o_invV 4 80 1 10), (10, o_invV 4 93 1 13), (13, o_iret)]
theorem ok54_0 : ∀ q ∈ t54_0, p_Z 54 q := List.forall_mem_cons.mpr ⟨⟨s_aload_n d54_0 rfl, tl_aload _ _⟩, List.forall_mem_cons.mpr ⟨⟨q_invV_92 d54_1 wd_241, tl_invV _ _ _ _⟩, List.forall_mem_cons.mpr ⟨⟨s_aload_n d54_4 rfl, tl_aload _ _⟩, List.forall_mem_cons.mpr ⟨⟨s_aload_n d54_5 rfl, tl_aload _ _⟩, List.forall_mem_cons.mpr ⟨⟨s_iload_n d54_6 rfl, tl_iload _ _⟩, List.forall_mem_cons.mpr ⟨⟨q_invV_80 d54_7 wd_381, tl_invV _ _ _ _⟩, List.forall_mem_cons.mpr ⟨⟨q_invV_93 d54_10 wd_283, tl_invV _ _ _ _⟩, List.forall_mem_cons.mpr ⟨⟨s_iret d54_13 rfl, tl_iret⟩, fun _ h => absurd h List.not_mem_nil⟩⟩⟩⟩⟩⟩⟩⟩
def t54 : List (Nat × pO) := t54_0
theorem ok54 : ∀ q ∈ t54, p_Z 54 q := ok54_0
theorem d55_0 : decode (pB 55) 0 = .ok (.aload_n 0, 1) := by decide +kernel
theorem d55_1 : decode (pB 55) 1 = .ok (.invokevirtual 58, 3) := by decide +kernel
theorem d55_4 : decode (pB 55) 4 = .ok (.aload_n 0, 1) := by decide +kernel
theorem d55_5 : decode (pB 55) 5 = .ok (.aload_n 0, 1) := by decide +kernel
theorem d55_6 : decode (pB 55) 6 = .ok (.iload_n 1, 1) := by decide +kernel
theorem d55_7 : decode (pB 55) 7 = .ok (.invokevirtual 89, 3) := by decide +kernel
theorem d55_10 : decode (pB 55) 10 = .ok (.invokevirtual 65, 3) := by decide +kernel
theorem d55_13 : decode (pB 55) 13 = .ok (.ireturn, 1) := by decide +kernel
/-- RX4.press -/
def t55_0 : List (Nat × pO) := [(0, o_aload 0 1), (1, o_invV 4 92 0 4), (4, o_aload 0 5), (5, o_aload 0 6), (6, o_iload 1 7), (7, o_invV 4 81 1 10), (10, o_invV 4 93 1 13), (13, o_iret)]
theorem ok55_0 : ∀ q ∈ t55_0, p_Z 55 q := List.forall_mem_cons.mpr ⟨⟨s_aload_n d55_0 rfl, tl_aload _ _⟩, List.forall_mem_cons.mpr ⟨⟨q_invV_92 d55_1 wd_241, tl_invV _ _ _ _⟩, List.forall_mem_cons.mpr ⟨⟨s_aload_n d55_4 rfl, tl_aload _ _⟩, List.forall_mem_cons.mpr ⟨⟨s_aload_n d55_5 rfl, tl_aload _ _⟩, List.forall_mem_cons.mpr ⟨⟨s_iload_n d55_6 rfl, tl_iload _ _⟩, List.forall_mem_cons.mpr ⟨⟨q_invV_81 d55_7 wd_426, tl_invV _ _ _ _⟩, List.forall_mem_cons.mpr ⟨⟨q_invV_93 d55_10 wd_283, tl_invV _ _ _ _⟩, List.forall_mem_cons.mpr ⟨⟨s_iret d55_13 rfl, tl_iret⟩, fun _ h => absurd h List.not_mem_nil⟩⟩⟩⟩⟩⟩⟩⟩
def t55 : List (Nat × pO) := t55_0
theorem ok55 : ∀ q ∈ t55, p_Z 55 q := ok55_0
theorem d56_0 : decode (pB 56) 0 = .ok (.aload_n 0, 1) := by decide +kernel
theorem d56_1 : decode (pB 56) 1 = .ok (.invokevirtual 58, 3) := by decide +kernel
theorem d56_4 : decode (pB 56) 4 = .ok (.aload_n 0, 1) := by decide +kernel
theorem d56_5 : decode (pB 56) 5 = .ok (.aload_n 0, 1) := by decide +kernel
theorem d56_6 : decode (pB 56) 6 = .ok (.invokevirtual 92, 3) := by decide +kernel
theorem d56_9 : decode (pB 56) 9 = .ok (.invokevirtual 65, 3) := by decide +kernel
theorem d56_12 : decode (pB 56) 12 = .ok (.ireturn, 1) := by decide +kernel
/-- RX4.unfold -/
def t56_0 : List (Nat × pO) := [(0, o_aload 0 1), (1, o_invV 4 92 0 4), (4, o_aload 0 5), (5, o_aload 0 6), (6, o_invV 4 82 0 9), (9, o_invV 4 93 1 12), (12, o_iret)]
theorem ok56_0 : ∀ q ∈ t56_0, p_Z 56 q := List.forall_mem_cons.mpr ⟨⟨s_aload_n d56_0 rfl, tl_aload _ _⟩, List.forall_mem_cons.mpr ⟨⟨q_invV_92 d56_1 wd_241, tl_invV _ _ _ _⟩, List.forall_mem_cons.mpr ⟨⟨s_aload_n d56_4 rfl, tl_aload _ _⟩, List.forall_mem_cons.mpr ⟨⟨s_aload_n d56_5 rfl, tl_aload _ _⟩, List.forall_mem_cons.mpr ⟨⟨q_invV_82 d56_6 wd_434, tl_invV _ _ _ _⟩, List.forall_mem_cons.mpr ⟨⟨q_invV_93 d56_9 wd_283, tl_invV _ _ _ _⟩, List.forall_mem_cons.mpr ⟨⟨s_iret d56_12 rfl, tl_iret⟩, fun _ h => absurd h List.not_mem_nil⟩⟩⟩⟩⟩⟩⟩
def t56 : List (Nat × pO) := t56_0
theorem ok56 : ∀ q ∈ t56, p_Z 56 q := ok56_0
theorem d57_0 : decode (pB 57) 0 = .ok (.aload_n 0, 1) := by decide +kernel
theorem d57_1 : decode (pB 57) 1 = .ok (.invokevirtual 95, 3) := by decide +kernel
theorem d57_4 : decode (pB 57) 4 = .ok (.astore_n 1, 1) := by decide +kernel
theorem d57_5 : decode (pB 57) 5 = .ok (.aload_n 0, 1) := by decide +kernel
theorem d57_6 : decode (pB 57) 6 = .ok (.getfield 48, 3) := by decide +kernel
theorem d57_9 : decode (pB 57) 9 = .ok (.invokevirtual 99, 3) := by decide +kernel
theorem d57_12 : decode (pB 57) 12 = .ok (.iconst 0, 1) := by decide +kernel
theorem d57_13 : decode (pB 57) 13 = .ok (.istore_n 2, 1) := by decide +kernel
theorem d57_14 : decode (pB 57) 14 = .ok (.iload_n 2, 1) := by decide +kernel
theorem d57_15 : decode (pB 57) 15 = .ok (.aload_n 1, 1) := by decide +kernel
theorem d57_16 : decode (pB 57) 16 = .ok (.getfield 104, 3) := by decide +kernel
theorem d57_19 : decode (pB 57) 19 = .ok (.if_icmp .ge 79, 3) := by decide +kernel
theorem d57_22 : decode (pB 57) 22 = .ok (.iload_n 2, 1) := by decide +kernel
theorem d57_23 : decode (pB 57) 23 = .ok (.ifCond .le 12, 3) := by decide +kernel
theorem d57_26 : decode (pB 57) 26 = .ok (.aload_n 0, 1) := by decide +kernel
theorem d57_27 : decode (pB 57) 27 = .ok (.getfield 48, 3) := by decide +kernel
theorem d57_30 : decode (pB 57) 30 = .ok (.bipush 47, 2) := by decide +kernel
theorem d57_32 : decode (pB 57) 32 = .ok (.invokevirtual 107, 3) := by decide +kernel
theorem d57_35 : decode (pB 57) 35 = .ok (.aload_n 1, 1) := by decide +kernel
theorem d57_36 : decode (pB 57) 36 = .ok (.getfield 110, 3) := by decide +kernel
theorem d57_39 : decode (pB 57) 39 = .ok (.iload_n 2, 1) := by decide +kernel
theorem d57_40 : decode (pB 57) 40 = .ok (.iaload, 1) := by decide +kernel
theorem d57_41 : decode (pB 57) 41 = .ok (.istore_n 3, 1) := by decide +kernel
theorem d57_42 : decode (pB 57) 42 = .ok (.iload_n 3, 1) := by decide +kernel
theorem d57_43 : decode (pB 57) 43 = .ok (.aload_n 1, 1) := by decide +kernel
theorem d57_44 : decode (pB 57) 44 = .ok (.getfield 110, 3) := by decide +kernel
theorem d57_47 : decode (pB 57) 47 = .ok (.iload_n 2, 1) := by decide +kernel
theorem d57_48 : decode (pB 57) 48 = .ok (.iconst 1, 1) := by decide +kernel
theorem d57_49 : decode (pB 57) 49 = .ok (.iadd, 1) := by decide +kernel
theorem d57_50 : decode (pB 57) 50 = .ok (.iaload, 1) := by decide +kernel
theorem d57_51 : decode (pB 57) 51 = .ok (.if_icmp .ge 41, 3) := by decide +kernel
theorem d57_54 : decode (pB 57) 54 = .ok (.iload_n 3, 1) := by decide +kernel
theorem d57_55 : decode (pB 57) 55 = .ok (.aload_n 1, 1) := by decide +kernel
theorem d57_56 : decode (pB 57) 56 = .ok (.getfield 110, 3) := by decide +kernel
theorem d57_59 : decode (pB 57) 59 = .ok (.iload_n 2, 1) := by decide +kernel
theorem d57_60 : decode (pB 57) 60 = .ok (.iaload, 1) := by decide +kernel
theorem d57_61 : decode (pB 57) 61 = .ok (.if_icmp .le 12, 3) := by decide +kernel
theorem d57_64 : decode (pB 57) 64 = .ok (.aload_n 0, 1) := by decide +kernel
theorem d57_65 : decode (pB 57) 65 = .ok (.getfield 48, 3) := by decide +kernel
theorem d57_68 : decode (pB 57) 68 = .ok (.bipush 46, 2) := by decide +kernel
theorem d57_70 : decode (pB 57) 70 = .ok (.invokevirtual 107, 3) := by decide +kernel
theorem d57_73 : decode (pB 57) 73 = .ok (.aload_n 0, 1) := by decide +kernel
theorem d57_74 : decode (pB 57) 74 = .ok (.getfield 48, 3) := by decide +kernel
theorem d57_77 : decode (pB 57) 77 = .ok (.aload_n 1, 1) := by decide +kernel
theorem d57_78 : decode (pB 57) 78 = .ok (.getfield 113, 3) := by decide +kernel
theorem d57_81 : decode (pB 57) 81 = .ok (.iload_n 3, 1) := by decide +kernel
theorem d57_82 : decode (pB 57) 82 = .ok (.iaload, 1) := by decide +kernel
theorem d57_83 : decode (pB 57) 83 = .ok (.invokevirtual 116, 3) := by decide +kernel
theorem d57_86 : decode (pB 57) 86 = .ok (.iinc 3 1, 3) := by decide +kernel
theorem d57_89 : decode (pB 57) 89 = .ok (.goto (-47), 3) := by decide +kernel
theorem d57_92 : decode (pB 57) 92 = .ok (.iinc 2 1, 3) := by decide +kernel
theorem d57_95 : decode (pB 57) 95 = .ok (.goto (-81), 3) := by decide +kernel
theorem d57_98 : decode (pB 57) 98 = .ok (.aload_n 0, 1) := by decide +kernel
theorem d57_99 : decode (pB 57) 99 = .ok (.getfield 48, 3) := by decide +kernel
theorem d57_102 : decode (pB 57) 102 = .ok (.getfield 119, 3) := by decide +kernel
theorem d57_105 : decode (pB 57) 105 = .ok (.ireturn, 1) := by decide +kernel
theorem st1_57_1 : p_st1 57 1 = true := by decide +kernel
theorem st1_57_2 : p_st1 57 2 = true := by decide +kernel
theorem st1_57_3 : p_st1 57 3 = true := by decide +kernel
/-- RX4.write -/
def t57_0 : List (Nat × pO) := [(0, o_aload 0 1), (1, o_invV 4 83 0 4), (4, o_astore 1 5), (5, o_aload 0 6), (6, o_getR 4 7 9), (9, o_invV 2 25 0 12), (12, o_push (.int (nI 0)) 13), (13, o_istore 2 14), (14, o_iload 2 15), (15, o_aload 1 16), (16, o_getI 0 0 19), (19, o_icge 98 22), (22, o_iload 2 23), (23, o_ifle 35 26), (26, o_aload 0 27), (27, o_getR 4 7 30), (30, o_push (.int (nI 47)) 32), (32, o_invV 2 26 1 35), (35, o_aload 1 36), (36, o_getR 0 3 39), (39, o_iload 2 40), (40, o_iald 41), (41, o_istore 3 42), (42, o_iload 3 43), (43, o_aload 1 44), (44, o_getR 0 3 47), (47, o_iload 2 48), (48, o_push (.int (nI 1)) 49), (49, o_iadd 50), (50, o_iald 51), (51, o_icge 92 54), (54, o_iload 3 55), (55, o_aload 1 56), (56, o_getR 0 3 59), (59, o_iload 2 60), (60, o_iald 61), (61, o_icle 73 64), (64, o_aload 0 65), (65, o_getR 4 7 68), (68, o_push (.int (nI 46)) 70)]
theorem ok57_0 : ∀ q ∈ t57_0, p_Z 57 q := List.forall_mem_cons.mpr ⟨⟨s_aload_n d57_0 rfl, tl_aload _ _⟩, List.forall_mem_cons.mpr ⟨⟨q_invV_83 d57_1 wd_389, tl_invV _ _ _ _⟩, List.forall_mem_cons.mpr ⟨⟨s_astore_n d57_4 rfl st1_57_1, tl_astore _ _⟩, List.forall_mem_cons.mpr ⟨⟨s_aload_n d57_5 rfl, tl_aload _ _⟩, List.forall_mem_cons.mpr ⟨⟨f_getR_4_7 d57_6 wd_219, tl_getR _ _ _⟩, List.forall_mem_cons.mpr ⟨⟨q_invV_25 d57_9 wd_442, tl_invV _ _ _ _⟩, List.forall_mem_cons.mpr ⟨⟨s_iconst d57_12 rfl, tl_push _ _⟩, List.forall_mem_cons.mpr ⟨⟨s_istore_n d57_13 rfl st1_57_2, tl_istore _ _⟩, List.forall_mem_cons.mpr ⟨⟨s_iload_n d57_14 rfl, tl_iload _ _⟩, List.forall_mem_cons.mpr ⟨⟨s_aload_n d57_15 rfl, tl_aload _ _⟩, List.forall_mem_cons.mpr ⟨⟨f_getI_0_0 d57_16 wd_172, tl_getI _ _ _⟩, List.forall_mem_cons.mpr ⟨⟨s_icge d57_19 rfl, tl_icge _ _⟩, List.forall_mem_cons.mpr ⟨⟨s_iload_n d57_22 rfl, tl_iload _ _⟩, List.forall_mem_cons.mpr ⟨⟨s_ifle d57_23 rfl, tl_ifle _ _⟩, List.forall_mem_cons.mpr ⟨⟨s_aload_n d57_26 rfl, tl_aload _ _⟩, List.forall_mem_cons.mpr ⟨⟨f_getR_4_7 d57_27 wd_219, tl_getR _ _ _⟩, List.forall_mem_cons.mpr ⟨⟨s_bipush d57_30 rfl, tl_push _ _⟩, List.forall_mem_cons.mpr ⟨⟨q_invV_26 d57_32 wd_446, tl_invV _ _ _ _⟩, List.forall_mem_cons.mpr ⟨⟨s_aload_n d57_35 rfl, tl_aload _ _⟩, List.forall_mem_cons.mpr ⟨⟨f_getR_0_3 d57_36 wd_178, tl_getR _ _ _⟩, List.forall_mem_cons.mpr ⟨⟨s_iload_n d57_39 rfl, tl_iload _ _⟩, List.forall_mem_cons.mpr ⟨⟨s_iald d57_40, tl_iald _⟩, List.forall_mem_cons.mpr ⟨⟨s_istore_n d57_41 rfl st1_57_3, tl_istore _ _⟩, List.forall_mem_cons.mpr ⟨⟨s_iload_n d57_42 rfl, tl_iload _ _⟩, List.forall_mem_cons.mpr ⟨⟨s_aload_n d57_43 rfl, tl_aload _ _⟩, List.forall_mem_cons.mpr ⟨⟨f_getR_0_3 d57_44 wd_178, tl_getR _ _ _⟩, List.forall_mem_cons.mpr ⟨⟨s_iload_n d57_47 rfl, tl_iload _ _⟩, List.forall_mem_cons.mpr ⟨⟨s_iconst d57_48 rfl, tl_push _ _⟩, List.forall_mem_cons.mpr ⟨⟨s_iadd d57_49, tl_iadd _⟩, List.forall_mem_cons.mpr ⟨⟨s_iald d57_50, tl_iald _⟩, List.forall_mem_cons.mpr ⟨⟨s_icge d57_51 rfl, tl_icge _ _⟩, List.forall_mem_cons.mpr ⟨⟨s_iload_n d57_54 rfl, tl_iload _ _⟩, List.forall_mem_cons.mpr ⟨⟨s_aload_n d57_55 rfl, tl_aload _ _⟩, List.forall_mem_cons.mpr ⟨⟨f_getR_0_3 d57_56 wd_178, tl_getR _ _ _⟩, List.forall_mem_cons.mpr ⟨⟨s_iload_n d57_59 rfl, tl_iload _ _⟩, List.forall_mem_cons.mpr ⟨⟨s_iald d57_60, tl_iald _⟩, List.forall_mem_cons.mpr ⟨⟨s_icle d57_61 rfl, tl_icle _ _⟩, List.forall_mem_cons.mpr ⟨⟨s_aload_n d57_64 rfl, tl_aload _ _⟩, List.forall_mem_cons.mpr ⟨⟨f_getR_4_7 d57_65 wd_219, tl_getR _ _ _⟩, List.forall_mem_cons.mpr ⟨⟨s_bipush d57_68 rfl, tl_push _ _⟩, fun _ h => absurd h List.not_mem_nil⟩⟩⟩⟩⟩⟩⟩⟩⟩⟩⟩⟩⟩⟩⟩⟩⟩⟩⟩⟩⟩⟩⟩⟩⟩⟩⟩⟩⟩⟩⟩⟩⟩⟩⟩⟩⟩⟩⟩⟩
/-- RX4.write -/
def t57_1 : List (Nat × pO) := [(70, o_invV 2 26 1 73), (73, o_aload 0 74), (74, o_getR 4 7 77), (77, o_aload 1 78), (78, o_getR 0 2 81), (81, o_iload 3 82), (82, o_iald 83), (83, o_invV 2 27 1 86), (86, o_iinc 3 (nI 1) 89), (89, o_goto 42), (92, o_iinc 2 (nI 1) 95), (95, o_goto 14), (98, o_aload 0 99), (99, o_getR 4 7 102), (102, o_getI 2 1 105), (105, o_iret)]
theorem ok57_1 : ∀ q ∈ t57_1, p_Z 57 q := List.forall_mem_cons.mpr ⟨⟨q_invV_26 d57_70 wd_446, tl_invV _ _ _ _⟩, List.forall_mem_cons.mpr ⟨⟨s_aload_n d57_73 rfl, tl_aload _ _⟩, List.forall_mem_cons.mpr ⟨⟨f_getR_4_7 d57_74 wd_219, tl_getR _ _ _⟩, List.forall_mem_cons.mpr ⟨⟨s_aload_n d57_77 rfl, tl_aload _ _⟩, List.forall_mem_cons.mpr ⟨⟨f_getR_0_2 d57_78 wd_176, tl_getR _ _ _⟩, List.forall_mem_cons.mpr ⟨⟨s_iload_n d57_81 rfl, tl_iload _ _⟩, List.forall_mem_cons.mpr ⟨⟨s_iald d57_82, tl_iald _⟩, List.forall_mem_cons.mpr ⟨⟨q_invV_27 d57_83 wd_450, tl_invV _ _ _ _⟩, List.forall_mem_cons.mpr ⟨⟨s_iinc d57_86 rfl st1_57_3, tl_iinc _ _ _⟩, List.forall_mem_cons.mpr ⟨⟨s_goto d57_89 rfl, tl_goto _⟩, List.forall_mem_cons.mpr ⟨⟨s_iinc d57_92 rfl st1_57_2, tl_iinc _ _ _⟩, List.forall_mem_cons.mpr ⟨⟨s_goto d57_95 rfl, tl_goto _⟩, List.forall_mem_cons.mpr ⟨⟨s_aload_n d57_98 rfl, tl_aload _ _⟩, List.forall_mem_cons.mpr ⟨⟨f_getR_4_7 d57_99 wd_219, tl_getR _ _ _⟩, List.forall_mem_cons.mpr ⟨⟨f_getI_2_1 d57_102 wd_135, tl_getI _ _ _⟩, List.forall_mem_cons.mpr ⟨⟨s_iret d57_105 rfl, tl_iret⟩, fun _ h => absurd h List.not_mem_nil⟩⟩⟩⟩⟩⟩⟩⟩⟩⟩⟩⟩⟩⟩⟩⟩
def t57 : List (Nat × pO) := t57_0 ++ (t57_1)
theorem ok57 : ∀ q ∈ t57, p_Z 57 q := List.forall_mem_append.mpr ⟨ok57_0, ok57_1⟩
theorem d58_0 : decode (pB 58) 0 = .ok (.aload_n 0, 1) := by decide +kernel
theorem d58_1 : decode (pB 58) 1 = .ok (.getfield 10, 3) := by decide +kernel
theorem d58_4 : decode (pB 58) 4 = .ok (.iload_n 1, 1) := by decide +kernel
theorem d58_5 : decode (pB 58) 5 = .ok (.invokevirtual 122, 3) := by decide +kernel
theorem d58_8 : decode (pB 58) 8 = .ok (.ifCond .ne 5, 3) := by decide +kernel
theorem d58_11 : decode (pB 58) 11 = .ok (.iconst (-1), 1) := by decide +kernel
theorem d58_12 : decode (pB 58) 12 = .ok (.ireturn, 1) := by decide +kernel
theorem d58_13 : decode (pB 58) 13 = .ok (.aload_n 0, 1) := by decide +kernel
theorem d58_14 : decode (pB 58) 14 = .ok (.getfield 10, 3) := by decide +kernel
theorem d58_17 : decode (pB 58) 17 = .ok (.iload_n 1, 1) := by decide +kernel
theorem d58_18 : decode (pB 58) 18 = .ok (.invokevirtual 126, 3) := by decide +kernel
theorem d58_21 : decode (pB 58) 21 = .ok (.istore_n 3, 1) := by decide +kernel
theorem d58_22 : decode (pB 58) 22 = .ok (.iload_n 2, 1) := by decide +kernel
theorem d58_23 : decode (pB 58) 23 = .ok (.tableswitch 141 0 5 #[37, 39, 63, 73, 83, 107], 37) := by decide +kernel
theorem d58_60 : decode (pB 58) 60 = .ok (.iload_n 3, 1) := by decide +kernel
theorem d58_61 : decode (pB 58) 61 = .ok (.ireturn, 1) := by decide +kernel
theorem d58_62 : decode (pB 58) 62 = .ok (.iload_n 3, 1) := by decide +kernel
theorem d58_63 : decode (pB 58) 63 = .ok (.bipush (-6), 2) := by decide +kernel
theorem d58_65 : decode (pB 58) 65 = .ok (.if_icmp .ne 8, 3) := by decide +kernel
theorem d58_68 : decode (pB 58) 68 = .ok (.bipush (-6), 2) := by decide +kernel
theorem d58_70 : decode (pB 58) 70 = .ok (.goto 15, 3) := by decide +kernel
theorem d58_73 : decode (pB 58) 73 = .ok (.aload_n 0, 1) := by decide +kernel
theorem d58_74 : decode (pB 58) 74 = .ok (.getfield 10, 3) := by decide +kernel
theorem d58_77 : decode (pB 58) 77 = .ok (.iload_n 3, 1) := by decide +kernel
theorem d58_78 : decode (pB 58) 78 = .ok (.aload_n 0, 1) := by decide +kernel
theorem d58_79 : decode (pB 58) 79 = .ok (.invokevirtual 95, 3) := by decide +kernel
theorem d58_82 : decode (pB 58) 82 = .ok (.invokevirtual 129, 3) := by decide +kernel
theorem d58_85 : decode (pB 58) 85 = .ok (.ireturn, 1) := by decide +kernel
theorem d58_86 : decode (pB 58) 86 = .ok (.aload_n 0, 1) := by decide +kernel
theorem d58_87 : decode (pB 58) 87 = .ok (.getfield 10, 3) := by decide +kernel
theorem d58_90 : decode (pB 58) 90 = .ok (.getfield 133, 3) := by decide +kernel
theorem d58_93 : decode (pB 58) 93 = .ok (.iload_n 1, 1) := by decide +kernel
theorem d58_94 : decode (pB 58) 94 = .ok (.iaload, 1) := by decide +kernel
theorem d58_95 : decode (pB 58) 95 = .ok (.ireturn, 1) := by decide +kernel
theorem d58_96 : decode (pB 58) 96 = .ok (.aload_n 0, 1) := by decide +kernel
theorem d58_97 : decode (pB 58) 97 = .ok (.getfield 10, 3) := by decide +kernel
theorem d58_100 : decode (pB 58) 100 = .ok (.getfield 136, 3) := by decide +kernel
theorem d58_103 : decode (pB 58) 103 = .ok (.iload_n 1, 1) := by decide +kernel
theorem d58_104 : decode (pB 58) 104 = .ok (.iaload, 1) := by decide +kernel
theorem d58_105 : decode (pB 58) 105 = .ok (.ireturn, 1) := by decide +kernel
theorem d58_106 : decode (pB 58) 106 = .ok (.iload_n 3, 1) := by decide +kernel
theorem d58_107 : decode (pB 58) 107 = .ok (.bipush (-6), 2) := by decide +kernel
theorem d58_109 : decode (pB 58) 109 = .ok (.if_icmp .ne 7, 3) := by decide +kernel
theorem d58_112 : decode (pB 58) 112 = .ok (.iconst 0, 1) := by decide +kernel
theorem d58_113 : decode (pB 58) 113 = .ok (.goto 16, 3) := by decide +kernel
theorem d58_116 : decode (pB 58) 116 = .ok (.aload_n 0, 1) := by decide +kernel
theorem d58_117 : decode (pB 58) 117 = .ok (.getfield 10, 3) := by decide +kernel
theorem d58_120 : decode (pB 58) 120 = .ok (.iload_n 3, 1) := by decide +kernel
theorem d58_121 : decode (pB 58) 121 = .ok (.iconst 1, 1) := by decide +kernel
theorem d58_122 : decode (pB 58) 122 = .ok (.isub, 1) := by decide +kernel
theorem d58_123 : decode (pB 58) 123 = .ok (.iload_n 3, 1) := by decide +kernel
theorem d58_124 : decode (pB 58) 124 = .ok (.iconst 1, 1) := by decide +kernel
theorem d58_125 : decode (pB 58) 125 = .ok (.iadd, 1) := by decide +kernel
theorem d58_126 : decode (pB 58) 126 = .ok (.invokevirtual 139, 3) := by decide +kernel
theorem d58_129 : decode (pB 58) 129 = .ok (.ireturn, 1) := by decide +kernel
theorem d58_130 : decode (pB 58) 130 = .ok (.iload_n 3, 1) := by decide +kernel
theorem d58_131 : decode (pB 58) 131 = .ok (.bipush (-6), 2) := by decide +kernel
theorem d58_133 : decode (pB 58) 133 = .ok (.if_icmp .ne 7, 3) := by decide +kernel
theorem d58_136 : decode (pB 58) 136 = .ok (.iconst 0, 1) := by decide +kernel
theorem d58_137 : decode (pB 58) 137 = .ok (.goto 26, 3) := by decide +kernel
theorem d58_140 : decode (pB 58) 140 = .ok (.aload_n 0, 1) := by decide +kernel
theorem d58_141 : decode (pB 58) 141 = .ok (.getfield 10, 3) := by decide +kernel
theorem d58_144 : decode (pB 58) 144 = .ok (.aload_n 0, 1) := by decide +kernel
theorem d58_145 : decode (pB 58) 145 = .ok (.invokevirtual 95, 3) := by decide +kernel
theorem d58_148 : decode (pB 58) 148 = .ok (.iload_n 3, 1) := by decide +kernel
theorem d58_149 : decode (pB 58) 149 = .ok (.invokevirtual 142, 3) := by decide +kernel
theorem d58_152 : decode (pB 58) 152 = .ok (.aload_n 0, 1) := by decide +kernel
theorem d58_153 : decode (pB 58) 153 = .ok (.invokevirtual 95, 3) := by decide +kernel
theorem d58_156 : decode (pB 58) 156 = .ok (.iload_n 3, 1) := by decide +kernel
theorem d58_157 : decode (pB 58) 157 = .ok (.invokevirtual 145, 3) := by decide +kernel
theorem d58_160 : decode (pB 58) 160 = .ok (.invokevirtual 139, 3) := by decide +kernel
theorem d58_163 : decode (pB 58) 163 = .ok (.ireturn, 1) := by decide +kernel
theorem d58_164 : decode (pB 58) 164 = .ok (.bipush (-2), 2) := by decide +kernel
theorem d58_166 : decode (pB 58) 166 = .ok (.ireturn, 1) := by decide +kernel
theorem st1_58_3 : p_st1 58 3 = true := by decide +kernel
/-- RX4.of -/
def t58_0 : List (Nat × pO) := [(0, o_aload 0 1), (1, o_getR 4 0 4), (4, o_iload 1 5), (5, o_invV 3 30 1 8), (8, o_ifne 13 11), (11, o_push (.int (nM 1)) 12), (12, o_iret), (13, o_aload 0 14), (14, o_getR 4 0 17), (17, o_iload 1 18), (18, o_invV 3 32 1 21), (21, o_istore 3 22), (22, o_iload 2 23), (23, o_switch [((nI 0), 60), ((nI 1), 62), ((nI 2), 86), ((nI 3), 96), ((nI 4), 106), ((nI 5), 130)] 164), (60, o_iload 3 61), (61, o_iret), (62, o_iload 3 63), (63, o_push (.int (nM 6)) 65), (65, o_icne 73 68), (68, o_push (.int (nM 6)) 70), (70, o_goto 85), (73, o_aload 0 74), (74, o_getR 4 0 77), (77, o_iload 3 78), (78, o_aload 0 79), (79, o_invV 4 83 0 82), (82, o_invV 3 44 2 85), (85, o_iret), (86, o_aload 0 87), (87, o_getR 4 0 90), (90, o_getR 3 2 93), (93, o_iload 1 94), (94, o_iald 95), (95, o_iret), (96, o_aload 0 97), (97, o_getR 4 0 100), (100, o_getR 3 3 103), (103, o_iload 1 104), (104, o_iald 105), (105, o_iret)]
theorem ok58_0 : ∀ q ∈ t58_0, p_Z 58 q := List.forall_mem_cons.mpr ⟨⟨s_aload_n d58_0 rfl, tl_aload _ _⟩, List.forall_mem_cons.mpr ⟨⟨f_getR_4_0 d58_1 wd_212, tl_getR _ _ _⟩, List.forall_mem_cons.mpr ⟨⟨s_iload_n d58_4 rfl, tl_iload _ _⟩, List.forall_mem_cons.mpr ⟨⟨q_invV_30 d58_5 wd_310, tl_invV _ _ _ _⟩, List.forall_mem_cons.mpr ⟨⟨s_ifne d58_8 rfl, tl_ifne _ _⟩, List.forall_mem_cons.mpr ⟨⟨s_iconst d58_11 rfl, tl_push _ _⟩, List.forall_mem_cons.mpr ⟨⟨s_iret d58_12 rfl, tl_iret⟩, List.forall_mem_cons.mpr ⟨⟨s_aload_n d58_13 rfl, tl_aload _ _⟩, List.forall_mem_cons.mpr ⟨⟨f_getR_4_0 d58_14 wd_212, tl_getR _ _ _⟩, List.forall_mem_cons.mpr ⟨⟨s_iload_n d58_17 rfl, tl_iload _ _⟩, List.forall_mem_cons.mpr ⟨⟨q_invV_32 d58_18 wd_318, tl_invV _ _ _ _⟩, List.forall_mem_cons.mpr ⟨⟨s_istore_n d58_21 rfl st1_58_3, tl_istore _ _⟩, List.forall_mem_cons.mpr ⟨⟨s_iload_n d58_22 rfl, tl_iload _ _⟩, List.forall_mem_cons.mpr ⟨⟨s_table d58_23 rfl (by decide +kernel) (by decide +kernel), tl_switch _ _⟩, List.forall_mem_cons.mpr ⟨⟨s_iload_n d58_60 rfl, tl_iload _ _⟩, List.forall_mem_cons.mpr ⟨⟨s_iret d58_61 rfl, tl_iret⟩, List.forall_mem_cons.mpr ⟨⟨s_iload_n d58_62 rfl, tl_iload _ _⟩, List.forall_mem_cons.mpr ⟨⟨s_bipush d58_63 rfl, tl_push _ _⟩, List.forall_mem_cons.mpr ⟨⟨s_icne d58_65 rfl, tl_icne _ _⟩, List.forall_mem_cons.mpr ⟨⟨s_bipush d58_68 rfl, tl_push _ _⟩, List.forall_mem_cons.mpr ⟨⟨s_goto d58_70 rfl, tl_goto _⟩, List.forall_mem_cons.mpr ⟨⟨s_aload_n d58_73 rfl, tl_aload _ _⟩, List.forall_mem_cons.mpr ⟨⟨f_getR_4_0 d58_74 wd_212, tl_getR _ _ _⟩, List.forall_mem_cons.mpr ⟨⟨s_iload_n d58_77 rfl, tl_iload _ _⟩, List.forall_mem_cons.mpr ⟨⟨s_aload_n d58_78 rfl, tl_aload _ _⟩, List.forall_mem_cons.mpr ⟨⟨q_invV_83 d58_79 wd_389, tl_invV _ _ _ _⟩, List.forall_mem_cons.mpr ⟨⟨q_invV_44 d58_82 wd_459, tl_invV _ _ _ _⟩, List.forall_mem_cons.mpr ⟨⟨s_iret d58_85 rfl, tl_iret⟩, List.forall_mem_cons.mpr ⟨⟨s_aload_n d58_86 rfl, tl_aload _ _⟩, List.forall_mem_cons.mpr ⟨⟨f_getR_4_0 d58_87 wd_212, tl_getR _ _ _⟩, List.forall_mem_cons.mpr ⟨⟨f_getR_3_2 d58_90 wd_90, tl_getR _ _ _⟩, List.forall_mem_cons.mpr ⟨⟨s_iload_n d58_93 rfl, tl_iload _ _⟩, List.forall_mem_cons.mpr ⟨⟨s_iald d58_94, tl_iald _⟩, List.forall_mem_cons.mpr ⟨⟨s_iret d58_95 rfl, tl_iret⟩, List.forall_mem_cons.mpr ⟨⟨s_aload_n d58_96 rfl, tl_aload _ _⟩, List.forall_mem_cons.mpr ⟨⟨f_getR_4_0 d58_97 wd_212, tl_getR _ _ _⟩, List.forall_mem_cons.mpr ⟨⟨f_getR_3_3 d58_100 wd_92, tl_getR _ _ _⟩, List.forall_mem_cons.mpr ⟨⟨s_iload_n d58_103 rfl, tl_iload _ _⟩, List.forall_mem_cons.mpr ⟨⟨s_iald d58_104, tl_iald _⟩, List.forall_mem_cons.mpr ⟨⟨s_iret d58_105 rfl, tl_iret⟩, fun _ h => absurd h List.not_mem_nil⟩⟩⟩⟩⟩⟩⟩⟩⟩⟩⟩⟩⟩⟩⟩⟩⟩⟩⟩⟩⟩⟩⟩⟩⟩⟩⟩⟩⟩⟩⟩⟩⟩⟩⟩⟩⟩⟩⟩⟩
/-- RX4.of -/
def t58_1 : List (Nat × pO) := [(106, o_iload 3 107), (107, o_push (.int (nM 6)) 109), (109, o_icne 116 112), (112, o_push (.int (nI 0)) 113), (113, o_goto 129), (116, o_aload 0 117), (117, o_getR 4 0 120), (120, o_iload 3 121), (121, o_push (.int (nI 1)) 122), (122, o_isub 123), (123, o_iload 3 124), (124, o_push (.int (nI 1)) 125), (125, o_iadd 126), (126, o_invV 3 36 2 129), (129, o_iret), (130, o_iload 3 131), (131, o_push (.int (nM 6)) 133), (133, o_icne 140 136), (136, o_push (.int (nI 0)) 137), (137, o_goto 163), (140, o_aload 0 141), (141, o_getR 4 0 144), (144, o_aload 0 145), (145, o_invV 4 83 0 148), (148, o_iload 3 149), (149, o_invV 0 12 1 152), (152, o_aload 0 153), (153, o_invV 4 83 0 156), (156, o_iload 3 157), (157, o_invV 0 13 1 160), (160, o_invV 3 36 2 163), (163, o_iret), (164, o_push (.int (nM 2)) 166), (166, o_iret)]
theorem ok58_1 : ∀ q ∈ t58_1, p_Z 58 q := List.forall_mem_cons.mpr ⟨⟨s_iload_n d58_106 rfl, tl_iload _ _⟩, List.forall_mem_cons.mpr ⟨⟨s_bipush d58_107 rfl, tl_push _ _⟩, List.forall_mem_cons.mpr ⟨⟨s_icne d58_109 rfl, tl_icne _ _⟩, List.forall_mem_cons.mpr ⟨⟨s_iconst d58_112 rfl, tl_push _ _⟩, List.forall_mem_cons.mpr ⟨⟨s_goto d58_113 rfl, tl_goto _⟩, List.forall_mem_cons.mpr ⟨⟨s_aload_n d58_116 rfl, tl_aload _ _⟩, List.forall_mem_cons.mpr ⟨⟨f_getR_4_0 d58_117 wd_212, tl_getR _ _ _⟩, List.forall_mem_cons.mpr ⟨⟨s_iload_n d58_120 rfl, tl_iload _ _⟩, List.forall_mem_cons.mpr ⟨⟨s_iconst d58_121 rfl, tl_push _ _⟩, List.forall_mem_cons.mpr ⟨⟨s_isub d58_122, tl_isub _⟩, List.forall_mem_cons.mpr ⟨⟨s_iload_n d58_123 rfl, tl_iload _ _⟩, List.forall_mem_cons.mpr ⟨⟨s_iconst d58_124 rfl, tl_push _ _⟩, List.forall_mem_cons.mpr ⟨⟨s_iadd d58_125, tl_iadd _⟩, List.forall_mem_cons.mpr ⟨⟨q_invV_36 d58_126 wd_342, tl_invV _ _ _ _⟩, List.forall_mem_cons.mpr ⟨⟨s_iret d58_129 rfl, tl_iret⟩, List.forall_mem_cons.mpr ⟨⟨s_iload_n d58_130 rfl, tl_iload _ _⟩, List.forall_mem_cons.mpr ⟨⟨s_bipush d58_131 rfl, tl_push _ _⟩, List.forall_mem_cons.mpr ⟨⟨s_icne d58_133 rfl, tl_icne _ _⟩, List.forall_mem_cons.mpr ⟨⟨s_iconst d58_136 rfl, tl_push _ _⟩, List.forall_mem_cons.mpr ⟨⟨s_goto d58_137 rfl, tl_goto _⟩, List.forall_mem_cons.mpr ⟨⟨s_aload_n d58_140 rfl, tl_aload _ _⟩, List.forall_mem_cons.mpr ⟨⟨f_getR_4_0 d58_141 wd_212, tl_getR _ _ _⟩, List.forall_mem_cons.mpr ⟨⟨s_aload_n d58_144 rfl, tl_aload _ _⟩, List.forall_mem_cons.mpr ⟨⟨q_invV_83 d58_145 wd_389, tl_invV _ _ _ _⟩, List.forall_mem_cons.mpr ⟨⟨s_iload_n d58_148 rfl, tl_iload _ _⟩, List.forall_mem_cons.mpr ⟨⟨q_invV_12 d58_149 wd_471, tl_invV _ _ _ _⟩, List.forall_mem_cons.mpr ⟨⟨s_aload_n d58_152 rfl, tl_aload _ _⟩, List.forall_mem_cons.mpr ⟨⟨q_invV_83 d58_153 wd_389, tl_invV _ _ _ _⟩, List.forall_mem_cons.mpr ⟨⟨s_iload_n d58_156 rfl, tl_iload _ _⟩, List.forall_mem_cons.mpr ⟨⟨q_invV_13 d58_157 wd_472, tl_invV _ _ _ _⟩, List.forall_mem_cons.mpr ⟨⟨q_invV_36 d58_160 wd_342, tl_invV _ _ _ _⟩, List.forall_mem_cons.mpr ⟨⟨s_iret d58_163 rfl, tl_iret⟩, List.forall_mem_cons.mpr ⟨⟨s_bipush d58_164 rfl, tl_push _ _⟩, List.forall_mem_cons.mpr ⟨⟨s_iret d58_166 rfl, tl_iret⟩, fun _ h => absurd h List.not_mem_nil⟩⟩⟩⟩⟩⟩⟩⟩⟩⟩⟩⟩⟩⟩⟩⟩⟩⟩⟩⟩⟩⟩⟩⟩⟩⟩⟩⟩⟩⟩⟩⟩⟩⟩
def t58 : List (Nat × pO) := t58_0 ++ (t58_1)
theorem ok58 : ∀ q ∈ t58, p_Z 58 q := List.forall_mem_append.mpr ⟨ok58_0, ok58_1⟩
theorem d59_0 : decode (pB 59) 0 = .ok (.aload_n 0, 1) := by decide +kernel
theorem d59_1 : decode (pB 59) 1 = .ok (.getfield 10, 3) := by decide +kernel
theorem d59_4 : decode (pB 59) 4 = .ok (.iload_n 1, 1) := by decide +kernel
theorem d59_5 : decode (pB 59) 5 = .ok (.invokevirtual 148, 3) := by decide +kernel
theorem d59_8 : decode (pB 59) 8 = .ok (.ifCond .ne 5, 3) := by decide +kernel
theorem d59_11 : decode (pB 59) 11 = .ok (.iconst (-1), 1) := by decide +kernel
theorem d59_12 : decode (pB 59) 12 = .ok (.ireturn, 1) := by decide +kernel
theorem d59_13 : decode (pB 59) 13 = .ok (.aload_n 0, 1) := by decide +kernel
theorem d59_14 : decode (pB 59) 14 = .ok (.invokevirtual 95, 3) := by decide +kernel
theorem d59_17 : decode (pB 59) 17 = .ok (.astore_n 3, 1) := by decide +kernel
theorem d59_18 : decode (pB 59) 18 = .ok (.iload_n 2, 1) := by decide +kernel
theorem d59_19 : decode (pB 59) 19 = .ok (.tableswitch 68 0 4 #[33, 43, 50, 56, 62], 33) := by decide +kernel
theorem d59_52 : decode (pB 59) 52 = .ok (.aload_n 0, 1) := by decide +kernel
theorem d59_53 : decode (pB 59) 53 = .ok (.getfield 10, 3) := by decide +kernel
theorem d59_56 : decode (pB 59) 56 = .ok (.getfield 151, 3) := by decide +kernel
theorem d59_59 : decode (pB 59) 59 = .ok (.iload_n 1, 1) := by decide +kernel
theorem d59_60 : decode (pB 59) 60 = .ok (.iaload, 1) := by decide +kernel
theorem d59_61 : decode (pB 59) 61 = .ok (.ireturn, 1) := by decide +kernel
theorem d59_62 : decode (pB 59) 62 = .ok (.aload_n 3, 1) := by decide +kernel
theorem d59_63 : decode (pB 59) 63 = .ok (.getfield 154, 3) := by decide +kernel
theorem d59_66 : decode (pB 59) 66 = .ok (.iload_n 1, 1) := by decide +kernel
theorem d59_67 : decode (pB 59) 67 = .ok (.iaload, 1) := by decide +kernel
theorem d59_68 : decode (pB 59) 68 = .ok (.ireturn, 1) := by decide +kernel
theorem d59_69 : decode (pB 59) 69 = .ok (.aload_n 3, 1) := by decide +kernel
theorem d59_70 : decode (pB 59) 70 = .ok (.iload_n 1, 1) := by decide +kernel
theorem d59_71 : decode (pB 59) 71 = .ok (.invokevirtual 157, 3) := by decide +kernel
theorem d59_74 : decode (pB 59) 74 = .ok (.ireturn, 1) := by decide +kernel
theorem d59_75 : decode (pB 59) 75 = .ok (.aload_n 3, 1) := by decide +kernel
theorem d59_76 : decode (pB 59) 76 = .ok (.iload_n 1, 1) := by decide +kernel
theorem d59_77 : decode (pB 59) 77 = .ok (.invokevirtual 142, 3) := by decide +kernel
theorem d59_80 : decode (pB 59) 80 = .ok (.ireturn, 1) := by decide +kernel
theorem d59_81 : decode (pB 59) 81 = .ok (.aload_n 3, 1) := by decide +kernel
theorem d59_82 : decode (pB 59) 82 = .ok (.iload_n 1, 1) := by decide +kernel
theorem d59_83 : decode (pB 59) 83 = .ok (.invokevirtual 145, 3) := by decide +kernel
theorem d59_86 : decode (pB 59) 86 = .ok (.ireturn, 1) := by decide +kernel
theorem d59_87 : decode (pB 59) 87 = .ok (.bipush (-2), 2) := by decide +kernel
theorem d59_89 : decode (pB 59) 89 = .ok (.ireturn, 1) := by decide +kernel
theorem st1_59_3 : p_st1 59 3 = true := by decide +kernel
/-- RX4.ofSeat -/
def t59_0 : List (Nat × pO) := [(0, o_aload 0 1), (1, o_getR 4 0 4), (4, o_iload 1 5), (5, o_invV 3 31 1 8), (8, o_ifne 13 11), (11, o_push (.int (nM 1)) 12), (12, o_iret), (13, o_aload 0 14), (14, o_invV 4 83 0 17), (17, o_astore 3 18), (18, o_iload 2 19), (19, o_switch [((nI 0), 52), ((nI 1), 62), ((nI 2), 69), ((nI 3), 75), ((nI 4), 81)] 87), (52, o_aload 0 53), (53, o_getR 4 0 56), (56, o_getR 3 1 59), (59, o_iload 1 60), (60, o_iald 61), (61, o_iret), (62, o_aload 3 63), (63, o_getR 0 4 66), (66, o_iload 1 67), (67, o_iald 68), (68, o_iret), (69, o_aload 3 70), (70, o_iload 1 71), (71, o_invV 0 11 1 74), (74, o_iret), (75, o_aload 3 76), (76, o_iload 1 77), (77, o_invV 0 12 1 80), (80, o_iret), (81, o_aload 3 82), (82, o_iload 1 83), (83, o_invV 0 13 1 86), (86, o_iret), (87, o_push (.int (nM 2)) 89), (89, o_iret)]
theorem ok59_0 : ∀ q ∈ t59_0, p_Z 59 q := List.forall_mem_cons.mpr ⟨⟨s_aload_n d59_0 rfl, tl_aload _ _⟩, List.forall_mem_cons.mpr ⟨⟨f_getR_4_0 d59_1 wd_212, tl_getR _ _ _⟩, List.forall_mem_cons.mpr ⟨⟨s_iload_n d59_4 rfl, tl_iload _ _⟩, List.forall_mem_cons.mpr ⟨⟨q_invV_31 d59_5 wd_314, tl_invV _ _ _ _⟩, List.forall_mem_cons.mpr ⟨⟨s_ifne d59_8 rfl, tl_ifne _ _⟩, List.forall_mem_cons.mpr ⟨⟨s_iconst d59_11 rfl, tl_push _ _⟩, List.forall_mem_cons.mpr ⟨⟨s_iret d59_12 rfl, tl_iret⟩, List.forall_mem_cons.mpr ⟨⟨s_aload_n d59_13 rfl, tl_aload _ _⟩, List.forall_mem_cons.mpr ⟨⟨q_invV_83 d59_14 wd_389, tl_invV _ _ _ _⟩, List.forall_mem_cons.mpr ⟨⟨s_astore_n d59_17 rfl st1_59_3, tl_astore _ _⟩, List.forall_mem_cons.mpr ⟨⟨s_iload_n d59_18 rfl, tl_iload _ _⟩, List.forall_mem_cons.mpr ⟨⟨s_table d59_19 rfl (by decide +kernel) (by decide +kernel), tl_switch _ _⟩, List.forall_mem_cons.mpr ⟨⟨s_aload_n d59_52 rfl, tl_aload _ _⟩, List.forall_mem_cons.mpr ⟨⟨f_getR_4_0 d59_53 wd_212, tl_getR _ _ _⟩, List.forall_mem_cons.mpr ⟨⟨f_getR_3_1 d59_56 wd_88, tl_getR _ _ _⟩, List.forall_mem_cons.mpr ⟨⟨s_iload_n d59_59 rfl, tl_iload _ _⟩, List.forall_mem_cons.mpr ⟨⟨s_iald d59_60, tl_iald _⟩, List.forall_mem_cons.mpr ⟨⟨s_iret d59_61 rfl, tl_iret⟩, List.forall_mem_cons.mpr ⟨⟨s_aload_n d59_62 rfl, tl_aload _ _⟩, List.forall_mem_cons.mpr ⟨⟨f_getR_0_4 d59_63 wd_180, tl_getR _ _ _⟩, List.forall_mem_cons.mpr ⟨⟨s_iload_n d59_66 rfl, tl_iload _ _⟩, List.forall_mem_cons.mpr ⟨⟨s_iald d59_67, tl_iald _⟩, List.forall_mem_cons.mpr ⟨⟨s_iret d59_68 rfl, tl_iret⟩, List.forall_mem_cons.mpr ⟨⟨s_aload_n d59_69 rfl, tl_aload _ _⟩, List.forall_mem_cons.mpr ⟨⟨s_iload_n d59_70 rfl, tl_iload _ _⟩, List.forall_mem_cons.mpr ⟨⟨q_invV_11 d59_71 wd_477, tl_invV _ _ _ _⟩, List.forall_mem_cons.mpr ⟨⟨s_iret d59_74 rfl, tl_iret⟩, List.forall_mem_cons.mpr ⟨⟨s_aload_n d59_75 rfl, tl_aload _ _⟩, List.forall_mem_cons.mpr ⟨⟨s_iload_n d59_76 rfl, tl_iload _ _⟩, List.forall_mem_cons.mpr ⟨⟨q_invV_12 d59_77 wd_471, tl_invV _ _ _ _⟩, List.forall_mem_cons.mpr ⟨⟨s_iret d59_80 rfl, tl_iret⟩, List.forall_mem_cons.mpr ⟨⟨s_aload_n d59_81 rfl, tl_aload _ _⟩, List.forall_mem_cons.mpr ⟨⟨s_iload_n d59_82 rfl, tl_iload _ _⟩, List.forall_mem_cons.mpr ⟨⟨q_invV_13 d59_83 wd_472, tl_invV _ _ _ _⟩, List.forall_mem_cons.mpr ⟨⟨s_iret d59_86 rfl, tl_iret⟩, List.forall_mem_cons.mpr ⟨⟨s_bipush d59_87 rfl, tl_push _ _⟩, List.forall_mem_cons.mpr ⟨⟨s_iret d59_89 rfl, tl_iret⟩, fun _ h => absurd h List.not_mem_nil⟩⟩⟩⟩⟩⟩⟩⟩⟩⟩⟩⟩⟩⟩⟩⟩⟩⟩⟩⟩⟩⟩⟩⟩⟩⟩⟩⟩⟩⟩⟩⟩⟩⟩⟩⟩⟩
def t59 : List (Nat × pO) := t59_0
theorem ok59 : ∀ q ∈ t59, p_Z 59 q := ok59_0
theorem d60_0 : decode (pB 60) 0 = .ok (.aload_n 0, 1) := by decide +kernel
theorem d60_1 : decode (pB 60) 1 = .ok (.invokevirtual 95, 3) := by decide +kernel
theorem d60_4 : decode (pB 60) 4 = .ok (.astore_n 3, 1) := by decide +kernel
theorem d60_5 : decode (pB 60) 5 = .ok (.iload_n 1, 1) := by decide +kernel
theorem d60_6 : decode (pB 60) 6 = .ok (.ifCond .lt 11, 3) := by decide +kernel
theorem d60_9 : decode (pB 60) 9 = .ok (.iload_n 1, 1) := by decide +kernel
theorem d60_10 : decode (pB 60) 10 = .ok (.aload_n 3, 1) := by decide +kernel
theorem d60_11 : decode (pB 60) 11 = .ok (.getfield 104, 3) := by decide +kernel
theorem d60_14 : decode (pB 60) 14 = .ok (.if_icmp .lt 5, 3) := by decide +kernel
theorem d60_17 : decode (pB 60) 17 = .ok (.iconst (-1), 1) := by decide +kernel
theorem d60_18 : decode (pB 60) 18 = .ok (.ireturn, 1) := by decide +kernel
theorem d60_19 : decode (pB 60) 19 = .ok (.iload_n 2, 1) := by decide +kernel
theorem d60_20 : decode (pB 60) 20 = .ok (.ifCond .lt 12, 3) := by decide +kernel
theorem d60_23 : decode (pB 60) 23 = .ok (.iload_n 2, 1) := by decide +kernel
theorem d60_24 : decode (pB 60) 24 = .ok (.aload_n 3, 1) := by decide +kernel
theorem d60_25 : decode (pB 60) 25 = .ok (.iload_n 1, 1) := by decide +kernel
theorem d60_26 : decode (pB 60) 26 = .ok (.invokevirtual 160, 3) := by decide +kernel
theorem d60_29 : decode (pB 60) 29 = .ok (.if_icmp .lt 5, 3) := by decide +kernel
theorem d60_32 : decode (pB 60) 32 = .ok (.iconst (-1), 1) := by decide +kernel
theorem d60_33 : decode (pB 60) 33 = .ok (.ireturn, 1) := by decide +kernel
theorem d60_34 : decode (pB 60) 34 = .ok (.aload_n 3, 1) := by decide +kernel
theorem d60_35 : decode (pB 60) 35 = .ok (.getfield 113, 3) := by decide +kernel
theorem d60_38 : decode (pB 60) 38 = .ok (.aload_n 3, 1) := by decide +kernel
theorem d60_39 : decode (pB 60) 39 = .ok (.getfield 110, 3) := by decide +kernel
theorem d60_42 : decode (pB 60) 42 = .ok (.iload_n 1, 1) := by decide +kernel
theorem d60_43 : decode (pB 60) 43 = .ok (.iaload, 1) := by decide +kernel
theorem d60_44 : decode (pB 60) 44 = .ok (.iload_n 2, 1) := by decide +kernel
theorem d60_45 : decode (pB 60) 45 = .ok (.iadd, 1) := by decide +kernel
theorem d60_46 : decode (pB 60) 46 = .ok (.iaload, 1) := by decide +kernel
theorem d60_47 : decode (pB 60) 47 = .ok (.ireturn, 1) := by decide +kernel
theorem st1_60_3 : p_st1 60 3 = true := by decide +kernel
/-- RX4.column -/
def t60_0 : List (Nat × pO) := [(0, o_aload 0 1), (1, o_invV 4 83 0 4), (4, o_astore 3 5), (5, o_iload 1 6), (6, o_iflt 17 9), (9, o_iload 1 10), (10, o_aload 3 11), (11, o_getI 0 0 14), (14, o_iclt 19 17), (17, o_push (.int (nM 1)) 18), (18, o_iret), (19, o_iload 2 20), (20, o_iflt 32 23), (23, o_iload 2 24), (24, o_aload 3 25), (25, o_iload 1 26), (26, o_invV 0 8 1 29), (29, o_iclt 34 32), (32, o_push (.int (nM 1)) 33), (33, o_iret), (34, o_aload 3 35), (35, o_getR 0 2 38), (38, o_aload 3 39), (39, o_getR 0 3 42), (42, o_iload 1 43), (43, o_iald 44), (44, o_iload 2 45), (45, o_iadd 46), (46, o_iald 47), (47, o_iret)]
theorem ok60_0 : ∀ q ∈ t60_0, p_Z 60 q := List.forall_mem_cons.mpr ⟨⟨s_aload_n d60_0 rfl, tl_aload _ _⟩, List.forall_mem_cons.mpr ⟨⟨q_invV_83 d60_1 wd_389, tl_invV _ _ _ _⟩, List.forall_mem_cons.mpr ⟨⟨s_astore_n d60_4 rfl st1_60_3, tl_astore _ _⟩, List.forall_mem_cons.mpr ⟨⟨s_iload_n d60_5 rfl, tl_iload _ _⟩, List.forall_mem_cons.mpr ⟨⟨s_iflt d60_6 rfl, tl_iflt _ _⟩, List.forall_mem_cons.mpr ⟨⟨s_iload_n d60_9 rfl, tl_iload _ _⟩, List.forall_mem_cons.mpr ⟨⟨s_aload_n d60_10 rfl, tl_aload _ _⟩, List.forall_mem_cons.mpr ⟨⟨f_getI_0_0 d60_11 wd_172, tl_getI _ _ _⟩, List.forall_mem_cons.mpr ⟨⟨s_iclt d60_14 rfl, tl_iclt _ _⟩, List.forall_mem_cons.mpr ⟨⟨s_iconst d60_17 rfl, tl_push _ _⟩, List.forall_mem_cons.mpr ⟨⟨s_iret d60_18 rfl, tl_iret⟩, List.forall_mem_cons.mpr ⟨⟨s_iload_n d60_19 rfl, tl_iload _ _⟩, List.forall_mem_cons.mpr ⟨⟨s_iflt d60_20 rfl, tl_iflt _ _⟩, List.forall_mem_cons.mpr ⟨⟨s_iload_n d60_23 rfl, tl_iload _ _⟩, List.forall_mem_cons.mpr ⟨⟨s_aload_n d60_24 rfl, tl_aload _ _⟩, List.forall_mem_cons.mpr ⟨⟨s_iload_n d60_25 rfl, tl_iload _ _⟩, List.forall_mem_cons.mpr ⟨⟨q_invV_8 d60_26 wd_482, tl_invV _ _ _ _⟩, List.forall_mem_cons.mpr ⟨⟨s_iclt d60_29 rfl, tl_iclt _ _⟩, List.forall_mem_cons.mpr ⟨⟨s_iconst d60_32 rfl, tl_push _ _⟩, List.forall_mem_cons.mpr ⟨⟨s_iret d60_33 rfl, tl_iret⟩, List.forall_mem_cons.mpr ⟨⟨s_aload_n d60_34 rfl, tl_aload _ _⟩, List.forall_mem_cons.mpr ⟨⟨f_getR_0_2 d60_35 wd_176, tl_getR _ _ _⟩, List.forall_mem_cons.mpr ⟨⟨s_aload_n d60_38 rfl, tl_aload _ _⟩, List.forall_mem_cons.mpr ⟨⟨f_getR_0_3 d60_39 wd_178, tl_getR _ _ _⟩, List.forall_mem_cons.mpr ⟨⟨s_iload_n d60_42 rfl, tl_iload _ _⟩, List.forall_mem_cons.mpr ⟨⟨s_iald d60_43, tl_iald _⟩, List.forall_mem_cons.mpr ⟨⟨s_iload_n d60_44 rfl, tl_iload _ _⟩, List.forall_mem_cons.mpr ⟨⟨s_iadd d60_45, tl_iadd _⟩, List.forall_mem_cons.mpr ⟨⟨s_iald d60_46, tl_iald _⟩, List.forall_mem_cons.mpr ⟨⟨s_iret d60_47 rfl, tl_iret⟩, fun _ h => absurd h List.not_mem_nil⟩⟩⟩⟩⟩⟩⟩⟩⟩⟩⟩⟩⟩⟩⟩⟩⟩⟩⟩⟩⟩⟩⟩⟩⟩⟩⟩⟩⟩⟩
def t60 : List (Nat × pO) := t60_0
theorem ok60 : ∀ q ∈ t60, p_Z 60 q := ok60_0
theorem d61_0 : decode (pB 61) 0 = .ok (.iload_n 1, 1) := by decide +kernel
theorem d61_1 : decode (pB 61) 1 = .ok (.ifCond .lt 14, 3) := by decide +kernel
theorem d61_4 : decode (pB 61) 4 = .ok (.iload_n 1, 1) := by decide +kernel
theorem d61_5 : decode (pB 61) 5 = .ok (.aload_n 0, 1) := by decide +kernel
theorem d61_6 : decode (pB 61) 6 = .ok (.getfield 48, 3) := by decide +kernel
theorem d61_9 : decode (pB 61) 9 = .ok (.getfield 119, 3) := by decide +kernel
theorem d61_12 : decode (pB 61) 12 = .ok (.if_icmp .lt 7, 3) := by decide +kernel
theorem d61_15 : decode (pB 61) 15 = .ok (.iconst (-1), 1) := by decide +kernel
theorem d61_16 : decode (pB 61) 16 = .ok (.goto 12, 3) := by decide +kernel
theorem d61_19 : decode (pB 61) 19 = .ok (.aload_n 0, 1) := by decide +kernel
theorem d61_20 : decode (pB 61) 20 = .ok (.getfield 48, 3) := by decide +kernel
theorem d61_23 : decode (pB 61) 23 = .ok (.getfield 163, 3) := by decide +kernel
theorem d61_26 : decode (pB 61) 26 = .ok (.iload_n 1, 1) := by decide +kernel
theorem d61_27 : decode (pB 61) 27 = .ok (.iaload, 1) := by decide +kernel
theorem d61_28 : decode (pB 61) 28 = .ok (.ireturn, 1) := by decide +kernel
/-- RX4.sign -/
def t61_0 : List (Nat × pO) := [(0, o_iload 1 1), (1, o_iflt 15 4), (4, o_iload 1 5), (5, o_aload 0 6), (6, o_getR 4 7 9), (9, o_getI 2 1 12), (12, o_iclt 19 15), (15, o_push (.int (nM 1)) 16), (16, o_goto 28), (19, o_aload 0 20), (20, o_getR 4 7 23), (23, o_getR 2 0 26), (26, o_iload 1 27), (27, o_iald 28), (28, o_iret)]
theorem ok61_0 : ∀ q ∈ t61_0, p_Z 61 q := List.forall_mem_cons.mpr ⟨⟨s_iload_n d61_0 rfl, tl_iload _ _⟩, List.forall_mem_cons.mpr ⟨⟨s_iflt d61_1 rfl, tl_iflt _ _⟩, List.forall_mem_cons.mpr ⟨⟨s_iload_n d61_4 rfl, tl_iload _ _⟩, List.forall_mem_cons.mpr ⟨⟨s_aload_n d61_5 rfl, tl_aload _ _⟩, List.forall_mem_cons.mpr ⟨⟨f_getR_4_7 d61_6 wd_219, tl_getR _ _ _⟩, List.forall_mem_cons.mpr ⟨⟨f_getI_2_1 d61_9 wd_135, tl_getI _ _ _⟩, List.forall_mem_cons.mpr ⟨⟨s_iclt d61_12 rfl, tl_iclt _ _⟩, List.forall_mem_cons.mpr ⟨⟨s_iconst d61_15 rfl, tl_push _ _⟩, List.forall_mem_cons.mpr ⟨⟨s_goto d61_16 rfl, tl_goto _⟩, List.forall_mem_cons.mpr ⟨⟨s_aload_n d61_19 rfl, tl_aload _ _⟩, List.forall_mem_cons.mpr ⟨⟨f_getR_4_7 d61_20 wd_219, tl_getR _ _ _⟩, List.forall_mem_cons.mpr ⟨⟨f_getR_2_0 d61_23 wd_132, tl_getR _ _ _⟩, List.forall_mem_cons.mpr ⟨⟨s_iload_n d61_26 rfl, tl_iload _ _⟩, List.forall_mem_cons.mpr ⟨⟨s_iald d61_27, tl_iald _⟩, List.forall_mem_cons.mpr ⟨⟨s_iret d61_28 rfl, tl_iret⟩, fun _ h => absurd h List.not_mem_nil⟩⟩⟩⟩⟩⟩⟩⟩⟩⟩⟩⟩⟩⟩⟩
def t61 : List (Nat × pO) := t61_0
theorem ok61 : ∀ q ∈ t61, p_Z 61 q := ok61_0
theorem d62_0 : decode (pB 62) 0 = .ok (.iload_n 1, 1) := by decide +kernel
theorem d62_1 : decode (pB 62) 1 = .ok (.tableswitch 188 0 12 #[67, 75, 83, 91, 99, 112, 125, 137, 145, 155, 165, 175, 183], 67) := by decide +kernel
theorem d62_68 : decode (pB 62) 68 = .ok (.aload_n 0, 1) := by decide +kernel
theorem d62_69 : decode (pB 62) 69 = .ok (.getfield 10, 3) := by decide +kernel
theorem d62_72 : decode (pB 62) 72 = .ok (.getfield 166, 3) := by decide +kernel
theorem d62_75 : decode (pB 62) 75 = .ok (.ireturn, 1) := by decide +kernel
theorem d62_76 : decode (pB 62) 76 = .ok (.aload_n 0, 1) := by decide +kernel
theorem d62_77 : decode (pB 62) 77 = .ok (.getfield 10, 3) := by decide +kernel
theorem d62_80 : decode (pB 62) 80 = .ok (.invokevirtual 169, 3) := by decide +kernel
theorem d62_83 : decode (pB 62) 83 = .ok (.ireturn, 1) := by decide +kernel
theorem d62_84 : decode (pB 62) 84 = .ok (.aload_n 0, 1) := by decide +kernel
theorem d62_85 : decode (pB 62) 85 = .ok (.invokevirtual 95, 3) := by decide +kernel
theorem d62_88 : decode (pB 62) 88 = .ok (.getfield 104, 3) := by decide +kernel
theorem d62_91 : decode (pB 62) 91 = .ok (.ireturn, 1) := by decide +kernel
theorem d62_92 : decode (pB 62) 92 = .ok (.aload_n 0, 1) := by decide +kernel
theorem d62_93 : decode (pB 62) 93 = .ok (.getfield 10, 3) := by decide +kernel
theorem d62_96 : decode (pB 62) 96 = .ok (.getfield 172, 3) := by decide +kernel
theorem d62_99 : decode (pB 62) 99 = .ok (.ireturn, 1) := by decide +kernel
theorem d62_100 : decode (pB 62) 100 = .ok (.aload_n 0, 1) := by decide +kernel
theorem d62_101 : decode (pB 62) 101 = .ok (.getfield 10, 3) := by decide +kernel
theorem d62_104 : decode (pB 62) 104 = .ok (.iconst (-1), 1) := by decide +kernel
theorem d62_105 : decode (pB 62) 105 = .ok (.aload_n 0, 1) := by decide +kernel
theorem d62_106 : decode (pB 62) 106 = .ok (.invokevirtual 95, 3) := by decide +kernel
theorem d62_109 : decode (pB 62) 109 = .ok (.invokevirtual 175, 3) := by decide +kernel
theorem d62_112 : decode (pB 62) 112 = .ok (.ireturn, 1) := by decide +kernel
theorem d62_113 : decode (pB 62) 113 = .ok (.aload_n 0, 1) := by decide +kernel
theorem d62_114 : decode (pB 62) 114 = .ok (.getfield 10, 3) := by decide +kernel
theorem d62_117 : decode (pB 62) 117 = .ok (.iconst 1, 1) := by decide +kernel
theorem d62_118 : decode (pB 62) 118 = .ok (.aload_n 0, 1) := by decide +kernel
theorem d62_119 : decode (pB 62) 119 = .ok (.invokevirtual 95, 3) := by decide +kernel
theorem d62_122 : decode (pB 62) 122 = .ok (.invokevirtual 175, 3) := by decide +kernel
theorem d62_125 : decode (pB 62) 125 = .ok (.ireturn, 1) := by decide +kernel
theorem d62_126 : decode (pB 62) 126 = .ok (.aload_n 0, 1) := by decide +kernel
theorem d62_127 : decode (pB 62) 127 = .ok (.getfield 10, 3) := by decide +kernel
theorem d62_130 : decode (pB 62) 130 = .ok (.aload_n 0, 1) := by decide +kernel
theorem d62_131 : decode (pB 62) 131 = .ok (.invokevirtual 95, 3) := by decide +kernel
theorem d62_134 : decode (pB 62) 134 = .ok (.invokevirtual 178, 3) := by decide +kernel
theorem d62_137 : decode (pB 62) 137 = .ok (.ireturn, 1) := by decide +kernel
theorem d62_138 : decode (pB 62) 138 = .ok (.aload_n 0, 1) := by decide +kernel
theorem d62_139 : decode (pB 62) 139 = .ok (.invokevirtual 95, 3) := by decide +kernel
theorem d62_142 : decode (pB 62) 142 = .ok (.invokevirtual 182, 3) := by decide +kernel
theorem d62_145 : decode (pB 62) 145 = .ok (.ireturn, 1) := by decide +kernel
theorem d62_146 : decode (pB 62) 146 = .ok (.aload_n 0, 1) := by decide +kernel
theorem d62_147 : decode (pB 62) 147 = .ok (.getfield 10, 3) := by decide +kernel
theorem d62_150 : decode (pB 62) 150 = .ok (.getfield 185, 3) := by decide +kernel
theorem d62_153 : decode (pB 62) 153 = .ok (.iconst 0, 1) := by decide +kernel
theorem d62_154 : decode (pB 62) 154 = .ok (.iaload, 1) := by decide +kernel
theorem d62_155 : decode (pB 62) 155 = .ok (.ireturn, 1) := by decide +kernel
theorem d62_156 : decode (pB 62) 156 = .ok (.aload_n 0, 1) := by decide +kernel
theorem d62_157 : decode (pB 62) 157 = .ok (.getfield 10, 3) := by decide +kernel
theorem d62_160 : decode (pB 62) 160 = .ok (.getfield 185, 3) := by decide +kernel
theorem d62_163 : decode (pB 62) 163 = .ok (.iconst 1, 1) := by decide +kernel
theorem d62_164 : decode (pB 62) 164 = .ok (.iaload, 1) := by decide +kernel
theorem d62_165 : decode (pB 62) 165 = .ok (.ireturn, 1) := by decide +kernel
theorem d62_166 : decode (pB 62) 166 = .ok (.aload_n 0, 1) := by decide +kernel
theorem d62_167 : decode (pB 62) 167 = .ok (.getfield 10, 3) := by decide +kernel
theorem d62_170 : decode (pB 62) 170 = .ok (.getfield 185, 3) := by decide +kernel
theorem d62_173 : decode (pB 62) 173 = .ok (.iconst 2, 1) := by decide +kernel
theorem d62_174 : decode (pB 62) 174 = .ok (.iaload, 1) := by decide +kernel
theorem d62_175 : decode (pB 62) 175 = .ok (.ireturn, 1) := by decide +kernel
theorem d62_176 : decode (pB 62) 176 = .ok (.aload_n 0, 1) := by decide +kernel
theorem d62_177 : decode (pB 62) 177 = .ok (.getfield 48, 3) := by decide +kernel
theorem d62_180 : decode (pB 62) 180 = .ok (.getfield 119, 3) := by decide +kernel
theorem d62_183 : decode (pB 62) 183 = .ok (.ireturn, 1) := by decide +kernel
theorem d62_184 : decode (pB 62) 184 = .ok (.aload_n 0, 1) := by decide +kernel
theorem d62_185 : decode (pB 62) 185 = .ok (.getfield 20, 3) := by decide +kernel
theorem d62_188 : decode (pB 62) 188 = .ok (.ireturn, 1) := by decide +kernel
theorem d62_189 : decode (pB 62) 189 = .ok (.bipush (-2), 2) := by decide +kernel
theorem d62_191 : decode (pB 62) 191 = .ok (.ireturn, 1) := by decide +kernel
/-- RX4.count -/
def t62_0 : List (Nat × pO) := [(0, o_iload 1 1), (1, o_switch [((nI 0), 68), ((nI 1), 76), ((nI 2), 84), ((nI 3), 92), ((nI 4), 100), ((nI 5), 113), ((nI 6), 126), ((nI 7), 138), ((nI 8), 146), ((nI 9), 156), ((nI 10), 166), ((nI 11), 176), ((nI 12), 184)] 189), (68, o_aload 0 69), (69, o_getR 4 0 72), (72, o_getI 3 5 75), (75, o_iret), (76, o_aload 0 77), (77, o_getR 4 0 80), (80, o_invV 3 37 0 83), (83, o_iret), (84, o_aload 0 85), (85, o_invV 4 83 0 88), (88, o_getI 0 0 91), (91, o_iret), (92, o_aload 0 93), (93, o_getR 4 0 96), (96, o_getI 3 6 99), (99, o_iret), (100, o_aload 0 101), (101, o_getR 4 0 104), (104, o_push (.int (nM 1)) 105), (105, o_aload 0 106), (106, o_invV 4 83 0 109), (109, o_invV 3 42 2 112), (112, o_iret), (113, o_aload 0 114), (114, o_getR 4 0 117), (117, o_push (.int (nI 1)) 118), (118, o_aload 0 119), (119, o_invV 4 83 0 122), (122, o_invV 3 42 2 125), (125, o_iret), (126, o_aload 0 127), (127, o_getR 4 0 130), (130, o_aload 0 131), (131, o_invV 4 83 0 134), (134, o_invV 3 45 1 137), (137, o_iret), (138, o_aload 0 139), (139, o_invV 4 83 0 142)]
theorem ok62_0 : ∀ q ∈ t62_0, p_Z 62 q := List.forall_mem_cons.mpr ⟨⟨s_iload_n d62_0 rfl, tl_iload _ _⟩, List.forall_mem_cons.mpr ⟨⟨s_table d62_1 rfl (by decide +kernel) (by decide +kernel), tl_switch _ _⟩, List.forall_mem_cons.mpr ⟨⟨s_aload_n d62_68 rfl, tl_aload _ _⟩, List.forall_mem_cons.mpr ⟨⟨f_getR_4_0 d62_69 wd_212, tl_getR _ _ _⟩, List.forall_mem_cons.mpr ⟨⟨f_getI_3_5 d62_72 wd_96, tl_getI _ _ _⟩, List.forall_mem_cons.mpr ⟨⟨s_iret d62_75 rfl, tl_iret⟩, List.forall_mem_cons.mpr ⟨⟨s_aload_n d62_76 rfl, tl_aload _ _⟩, List.forall_mem_cons.mpr ⟨⟨f_getR_4_0 d62_77 wd_212, tl_getR _ _ _⟩, List.forall_mem_cons.mpr ⟨⟨q_invV_37 d62_80 wd_491, tl_invV _ _ _ _⟩, List.forall_mem_cons.mpr ⟨⟨s_iret d62_83 rfl, tl_iret⟩, List.forall_mem_cons.mpr ⟨⟨s_aload_n d62_84 rfl, tl_aload _ _⟩, List.forall_mem_cons.mpr ⟨⟨q_invV_83 d62_85 wd_389, tl_invV _ _ _ _⟩, List.forall_mem_cons.mpr ⟨⟨f_getI_0_0 d62_88 wd_172, tl_getI _ _ _⟩, List.forall_mem_cons.mpr ⟨⟨s_iret d62_91 rfl, tl_iret⟩, List.forall_mem_cons.mpr ⟨⟨s_aload_n d62_92 rfl, tl_aload _ _⟩, List.forall_mem_cons.mpr ⟨⟨f_getR_4_0 d62_93 wd_212, tl_getR _ _ _⟩, List.forall_mem_cons.mpr ⟨⟨f_getI_3_6 d62_96 wd_98, tl_getI _ _ _⟩, List.forall_mem_cons.mpr ⟨⟨s_iret d62_99 rfl, tl_iret⟩, List.forall_mem_cons.mpr ⟨⟨s_aload_n d62_100 rfl, tl_aload _ _⟩, List.forall_mem_cons.mpr ⟨⟨f_getR_4_0 d62_101 wd_212, tl_getR _ _ _⟩, List.forall_mem_cons.mpr ⟨⟨s_iconst d62_104 rfl, tl_push _ _⟩, List.forall_mem_cons.mpr ⟨⟨s_aload_n d62_105 rfl, tl_aload _ _⟩, List.forall_mem_cons.mpr ⟨⟨q_invV_83 d62_106 wd_389, tl_invV _ _ _ _⟩, List.forall_mem_cons.mpr ⟨⟨q_invV_42 d62_109 wd_397, tl_invV _ _ _ _⟩, List.forall_mem_cons.mpr ⟨⟨s_iret d62_112 rfl, tl_iret⟩, List.forall_mem_cons.mpr ⟨⟨s_aload_n d62_113 rfl, tl_aload _ _⟩, List.forall_mem_cons.mpr ⟨⟨f_getR_4_0 d62_114 wd_212, tl_getR _ _ _⟩, List.forall_mem_cons.mpr ⟨⟨s_iconst d62_117 rfl, tl_push _ _⟩, List.forall_mem_cons.mpr ⟨⟨s_aload_n d62_118 rfl, tl_aload _ _⟩, List.forall_mem_cons.mpr ⟨⟨q_invV_83 d62_119 wd_389, tl_invV _ _ _ _⟩, List.forall_mem_cons.mpr ⟨⟨q_invV_42 d62_122 wd_397, tl_invV _ _ _ _⟩, List.forall_mem_cons.mpr ⟨⟨s_iret d62_125 rfl, tl_iret⟩, List.forall_mem_cons.mpr ⟨⟨s_aload_n d62_126 rfl, tl_aload _ _⟩, List.forall_mem_cons.mpr ⟨⟨f_getR_4_0 d62_127 wd_212, tl_getR _ _ _⟩, List.forall_mem_cons.mpr ⟨⟨s_aload_n d62_130 rfl, tl_aload _ _⟩, List.forall_mem_cons.mpr ⟨⟨q_invV_83 d62_131 wd_389, tl_invV _ _ _ _⟩, List.forall_mem_cons.mpr ⟨⟨q_invV_45 d62_134 wd_495, tl_invV _ _ _ _⟩, List.forall_mem_cons.mpr ⟨⟨s_iret d62_137 rfl, tl_iret⟩, List.forall_mem_cons.mpr ⟨⟨s_aload_n d62_138 rfl, tl_aload _ _⟩, List.forall_mem_cons.mpr ⟨⟨q_invV_83 d62_139 wd_389, tl_invV _ _ _ _⟩, fun _ h => absurd h List.not_mem_nil⟩⟩⟩⟩⟩⟩⟩⟩⟩⟩⟩⟩⟩⟩⟩⟩⟩⟩⟩⟩⟩⟩⟩⟩⟩⟩⟩⟩⟩⟩⟩⟩⟩⟩⟩⟩⟩⟩⟩⟩
/-- RX4.count -/
def t62_1 : List (Nat × pO) := [(142, o_invV 0 10 0 145), (145, o_iret), (146, o_aload 0 147), (147, o_getR 4 0 150), (150, o_getR 3 0 153), (153, o_push (.int (nI 0)) 154), (154, o_iald 155), (155, o_iret), (156, o_aload 0 157), (157, o_getR 4 0 160), (160, o_getR 3 0 163), (163, o_push (.int (nI 1)) 164), (164, o_iald 165), (165, o_iret), (166, o_aload 0 167), (167, o_getR 4 0 170), (170, o_getR 3 0 173), (173, o_push (.int (nI 2)) 174), (174, o_iald 175), (175, o_iret), (176, o_aload 0 177), (177, o_getR 4 7 180), (180, o_getI 2 1 183), (183, o_iret), (184, o_aload 0 185), (185, o_getI 4 2 188), (188, o_iret), (189, o_push (.int (nM 2)) 191), (191, o_iret)]
theorem ok62_1 : ∀ q ∈ t62_1, p_Z 62 q := List.forall_mem_cons.mpr ⟨⟨q_invV_10 d62_142 wd_500, tl_invV _ _ _ _⟩, List.forall_mem_cons.mpr ⟨⟨s_iret d62_145 rfl, tl_iret⟩, List.forall_mem_cons.mpr ⟨⟨s_aload_n d62_146 rfl, tl_aload _ _⟩, List.forall_mem_cons.mpr ⟨⟨f_getR_4_0 d62_147 wd_212, tl_getR _ _ _⟩, List.forall_mem_cons.mpr ⟨⟨f_getR_3_0 d62_150 wd_86, tl_getR _ _ _⟩, List.forall_mem_cons.mpr ⟨⟨s_iconst d62_153 rfl, tl_push _ _⟩, List.forall_mem_cons.mpr ⟨⟨s_iald d62_154, tl_iald _⟩, List.forall_mem_cons.mpr ⟨⟨s_iret d62_155 rfl, tl_iret⟩, List.forall_mem_cons.mpr ⟨⟨s_aload_n d62_156 rfl, tl_aload _ _⟩, List.forall_mem_cons.mpr ⟨⟨f_getR_4_0 d62_157 wd_212, tl_getR _ _ _⟩, List.forall_mem_cons.mpr ⟨⟨f_getR_3_0 d62_160 wd_86, tl_getR _ _ _⟩, List.forall_mem_cons.mpr ⟨⟨s_iconst d62_163 rfl, tl_push _ _⟩, List.forall_mem_cons.mpr ⟨⟨s_iald d62_164, tl_iald _⟩, List.forall_mem_cons.mpr ⟨⟨s_iret d62_165 rfl, tl_iret⟩, List.forall_mem_cons.mpr ⟨⟨s_aload_n d62_166 rfl, tl_aload _ _⟩, List.forall_mem_cons.mpr ⟨⟨f_getR_4_0 d62_167 wd_212, tl_getR _ _ _⟩, List.forall_mem_cons.mpr ⟨⟨f_getR_3_0 d62_170 wd_86, tl_getR _ _ _⟩, List.forall_mem_cons.mpr ⟨⟨s_iconst d62_173 rfl, tl_push _ _⟩, List.forall_mem_cons.mpr ⟨⟨s_iald d62_174, tl_iald _⟩, List.forall_mem_cons.mpr ⟨⟨s_iret d62_175 rfl, tl_iret⟩, List.forall_mem_cons.mpr ⟨⟨s_aload_n d62_176 rfl, tl_aload _ _⟩, List.forall_mem_cons.mpr ⟨⟨f_getR_4_7 d62_177 wd_219, tl_getR _ _ _⟩, List.forall_mem_cons.mpr ⟨⟨f_getI_2_1 d62_180 wd_135, tl_getI _ _ _⟩, List.forall_mem_cons.mpr ⟨⟨s_iret d62_183 rfl, tl_iret⟩, List.forall_mem_cons.mpr ⟨⟨s_aload_n d62_184 rfl, tl_aload _ _⟩, List.forall_mem_cons.mpr ⟨⟨f_getI_4_2 d62_185 wd_214, tl_getI _ _ _⟩, List.forall_mem_cons.mpr ⟨⟨s_iret d62_188 rfl, tl_iret⟩, List.forall_mem_cons.mpr ⟨⟨s_bipush d62_189 rfl, tl_push _ _⟩, List.forall_mem_cons.mpr ⟨⟨s_iret d62_191 rfl, tl_iret⟩, fun _ h => absurd h List.not_mem_nil⟩⟩⟩⟩⟩⟩⟩⟩⟩⟩⟩⟩⟩⟩⟩⟩⟩⟩⟩⟩⟩⟩⟩⟩⟩⟩⟩⟩⟩
def t62 : List (Nat × pO) := t62_0 ++ (t62_1)
theorem ok62 : ∀ q ∈ t62, p_Z 62 q := List.forall_mem_append.mpr ⟨ok62_0, ok62_1⟩
theorem d63_0 : decode (pB 63) 0 = .ok (.aload_n 0, 1) := by decide +kernel
theorem d63_1 : decode (pB 63) 1 = .ok (.iload_n 1, 1) := by decide +kernel
theorem d63_2 : decode (pB 63) 2 = .ok (.invokevirtual 188, 3) := by decide +kernel
theorem d63_5 : decode (pB 63) 5 = .ok (.ifCond .eq 12, 3) := by decide +kernel
theorem d63_8 : decode (pB 63) 8 = .ok (.iload_n 2, 1) := by decide +kernel
theorem d63_9 : decode (pB 63) 9 = .ok (.ifCond .lt 8, 3) := by decide +kernel
theorem d63_12 : decode (pB 63) 12 = .ok (.iload_n 2, 1) := by decide +kernel
theorem d63_13 : decode (pB 63) 13 = .ok (.iconst 4, 1) := by decide +kernel
theorem d63_14 : decode (pB 63) 14 = .ok (.if_icmp .le 6, 3) := by decide +kernel
theorem d63_17 : decode (pB 63) 17 = .ok (.bipush (-2), 2) := by decide +kernel
theorem d63_19 : decode (pB 63) 19 = .ok (.ireturn, 1) := by decide +kernel
theorem d63_20 : decode (pB 63) 20 = .ok (.aload_n 0, 1) := by decide +kernel
theorem d63_21 : decode (pB 63) 21 = .ok (.getfield 10, 3) := by decide +kernel
theorem d63_24 : decode (pB 63) 24 = .ok (.getfield 172, 3) := by decide +kernel
theorem d63_27 : decode (pB 63) 27 = .ok (.iconst 5, 1) := by decide +kernel
theorem d63_28 : decode (pB 63) 28 = .ok (.if_icmp .lt 6, 3) := by decide +kernel
theorem d63_31 : decode (pB 63) 31 = .ok (.bipush (-4), 2) := by decide +kernel
theorem d63_33 : decode (pB 63) 33 = .ok (.ireturn, 1) := by decide +kernel
theorem d63_34 : decode (pB 63) 34 = .ok (.aload_n 0, 1) := by decide +kernel
theorem d63_35 : decode (pB 63) 35 = .ok (.iload_n 1, 1) := by decide +kernel
theorem d63_36 : decode (pB 63) 36 = .ok (.invokevirtual 191, 3) := by decide +kernel
theorem d63_39 : decode (pB 63) 39 = .ok (.astore_n 3, 1) := by decide +kernel
theorem d63_40 : decode (pB 63) 40 = .ok (.iload_n 2, 1) := by decide +kernel
theorem d63_41 : decode (pB 63) 41 = .ok (.tableswitch 65 0 3 #[31, 41, 51, 60], 31) := by decide +kernel
theorem d63_72 : decode (pB 63) 72 = .ok (.aload_n 0, 1) := by decide +kernel
theorem d63_73 : decode (pB 63) 73 = .ok (.getfield 10, 3) := by decide +kernel
theorem d63_76 : decode (pB 63) 76 = .ok (.iconst (-1), 1) := by decide +kernel
theorem d63_77 : decode (pB 63) 77 = .ok (.aload_n 3, 1) := by decide +kernel
theorem d63_78 : decode (pB 63) 78 = .ok (.invokevirtual 175, 3) := by decide +kernel
theorem d63_81 : decode (pB 63) 81 = .ok (.ireturn, 1) := by decide +kernel
theorem d63_82 : decode (pB 63) 82 = .ok (.aload_n 0, 1) := by decide +kernel
theorem d63_83 : decode (pB 63) 83 = .ok (.getfield 10, 3) := by decide +kernel
theorem d63_86 : decode (pB 63) 86 = .ok (.iconst 1, 1) := by decide +kernel
theorem d63_87 : decode (pB 63) 87 = .ok (.aload_n 3, 1) := by decide +kernel
theorem d63_88 : decode (pB 63) 88 = .ok (.invokevirtual 175, 3) := by decide +kernel
theorem d63_91 : decode (pB 63) 91 = .ok (.ireturn, 1) := by decide +kernel
theorem d63_92 : decode (pB 63) 92 = .ok (.aload_n 0, 1) := by decide +kernel
theorem d63_93 : decode (pB 63) 93 = .ok (.getfield 10, 3) := by decide +kernel
theorem d63_96 : decode (pB 63) 96 = .ok (.aload_n 3, 1) := by decide +kernel
theorem d63_97 : decode (pB 63) 97 = .ok (.invokevirtual 178, 3) := by decide +kernel
theorem d63_100 : decode (pB 63) 100 = .ok (.ireturn, 1) := by decide +kernel
theorem d63_101 : decode (pB 63) 101 = .ok (.aload_n 3, 1) := by decide +kernel
theorem d63_102 : decode (pB 63) 102 = .ok (.getfield 104, 3) := by decide +kernel
theorem d63_105 : decode (pB 63) 105 = .ok (.ireturn, 1) := by decide +kernel
theorem d63_106 : decode (pB 63) 106 = .ok (.aload_n 3, 1) := by decide +kernel
theorem d63_107 : decode (pB 63) 107 = .ok (.invokevirtual 182, 3) := by decide +kernel
theorem d63_110 : decode (pB 63) 110 = .ok (.ireturn, 1) := by decide +kernel
theorem st1_63_3 : p_st1 63 3 = true := by decide +kernel
/-- RX4.ifFolded -/
def t63_0 : List (Nat × pO) := [(0, o_aload 0 1), (1, o_iload 1 2), (2, o_invV 4 84 1 5), (5, o_ifeq 17 8), (8, o_iload 2 9), (9, o_iflt 17 12), (12, o_iload 2 13), (13, o_push (.int (nI 4)) 14), (14, o_icle 20 17), (17, o_push (.int (nM 2)) 19), (19, o_iret), (20, o_aload 0 21), (21, o_getR 4 0 24), (24, o_getI 3 6 27), (27, o_push (.int (nI 5)) 28), (28, o_iclt 34 31), (31, o_push (.int (nM 4)) 33), (33, o_iret), (34, o_aload 0 35), (35, o_iload 1 36), (36, o_invV 4 85 1 39), (39, o_astore 3 40), (40, o_iload 2 41), (41, o_switch [((nI 0), 72), ((nI 1), 82), ((nI 2), 92), ((nI 3), 101)] 106), (72, o_aload 0 73), (73, o_getR 4 0 76), (76, o_push (.int (nM 1)) 77), (77, o_aload 3 78), (78, o_invV 3 42 2 81), (81, o_iret), (82, o_aload 0 83), (83, o_getR 4 0 86), (86, o_push (.int (nI 1)) 87), (87, o_aload 3 88), (88, o_invV 3 42 2 91), (91, o_iret), (92, o_aload 0 93), (93, o_getR 4 0 96), (96, o_aload 3 97), (97, o_invV 3 45 1 100)]
theorem ok63_0 : ∀ q ∈ t63_0, p_Z 63 q := List.forall_mem_cons.mpr ⟨⟨s_aload_n d63_0 rfl, tl_aload _ _⟩, List.forall_mem_cons.mpr ⟨⟨s_iload_n d63_1 rfl, tl_iload _ _⟩, List.forall_mem_cons.mpr ⟨⟨q_invV_84 d63_2 wd_385, tl_invV _ _ _ _⟩, List.forall_mem_cons.mpr ⟨⟨s_ifeq d63_5 rfl, tl_ifeq _ _⟩, List.forall_mem_cons.mpr ⟨⟨s_iload_n d63_8 rfl, tl_iload _ _⟩, List.forall_mem_cons.mpr ⟨⟨s_iflt d63_9 rfl, tl_iflt _ _⟩, List.forall_mem_cons.mpr ⟨⟨s_iload_n d63_12 rfl, tl_iload _ _⟩, List.forall_mem_cons.mpr ⟨⟨s_iconst d63_13 rfl, tl_push _ _⟩, List.forall_mem_cons.mpr ⟨⟨s_icle d63_14 rfl, tl_icle _ _⟩, List.forall_mem_cons.mpr ⟨⟨s_bipush d63_17 rfl, tl_push _ _⟩, List.forall_mem_cons.mpr ⟨⟨s_iret d63_19 rfl, tl_iret⟩, List.forall_mem_cons.mpr ⟨⟨s_aload_n d63_20 rfl, tl_aload _ _⟩, List.forall_mem_cons.mpr ⟨⟨f_getR_4_0 d63_21 wd_212, tl_getR _ _ _⟩, List.forall_mem_cons.mpr ⟨⟨f_getI_3_6 d63_24 wd_98, tl_getI _ _ _⟩, List.forall_mem_cons.mpr ⟨⟨s_iconst d63_27 rfl, tl_push _ _⟩, List.forall_mem_cons.mpr ⟨⟨s_iclt d63_28 rfl, tl_iclt _ _⟩, List.forall_mem_cons.mpr ⟨⟨s_bipush d63_31 rfl, tl_push _ _⟩, List.forall_mem_cons.mpr ⟨⟨s_iret d63_33 rfl, tl_iret⟩, List.forall_mem_cons.mpr ⟨⟨s_aload_n d63_34 rfl, tl_aload _ _⟩, List.forall_mem_cons.mpr ⟨⟨s_iload_n d63_35 rfl, tl_iload _ _⟩, List.forall_mem_cons.mpr ⟨⟨q_invV_85 d63_36 wd_393, tl_invV _ _ _ _⟩, List.forall_mem_cons.mpr ⟨⟨s_astore_n d63_39 rfl st1_63_3, tl_astore _ _⟩, List.forall_mem_cons.mpr ⟨⟨s_iload_n d63_40 rfl, tl_iload _ _⟩, List.forall_mem_cons.mpr ⟨⟨s_table d63_41 rfl (by decide +kernel) (by decide +kernel), tl_switch _ _⟩, List.forall_mem_cons.mpr ⟨⟨s_aload_n d63_72 rfl, tl_aload _ _⟩, List.forall_mem_cons.mpr ⟨⟨f_getR_4_0 d63_73 wd_212, tl_getR _ _ _⟩, List.forall_mem_cons.mpr ⟨⟨s_iconst d63_76 rfl, tl_push _ _⟩, List.forall_mem_cons.mpr ⟨⟨s_aload_n d63_77 rfl, tl_aload _ _⟩, List.forall_mem_cons.mpr ⟨⟨q_invV_42 d63_78 wd_397, tl_invV _ _ _ _⟩, List.forall_mem_cons.mpr ⟨⟨s_iret d63_81 rfl, tl_iret⟩, List.forall_mem_cons.mpr ⟨⟨s_aload_n d63_82 rfl, tl_aload _ _⟩, List.forall_mem_cons.mpr ⟨⟨f_getR_4_0 d63_83 wd_212, tl_getR _ _ _⟩, List.forall_mem_cons.mpr ⟨⟨s_iconst d63_86 rfl, tl_push _ _⟩, List.forall_mem_cons.mpr ⟨⟨s_aload_n d63_87 rfl, tl_aload _ _⟩, List.forall_mem_cons.mpr ⟨⟨q_invV_42 d63_88 wd_397, tl_invV _ _ _ _⟩, List.forall_mem_cons.mpr ⟨⟨s_iret d63_91 rfl, tl_iret⟩, List.forall_mem_cons.mpr ⟨⟨s_aload_n d63_92 rfl, tl_aload _ _⟩, List.forall_mem_cons.mpr ⟨⟨f_getR_4_0 d63_93 wd_212, tl_getR _ _ _⟩, List.forall_mem_cons.mpr ⟨⟨s_aload_n d63_96 rfl, tl_aload _ _⟩, List.forall_mem_cons.mpr ⟨⟨q_invV_45 d63_97 wd_495, tl_invV _ _ _ _⟩, fun _ h => absurd h List.not_mem_nil⟩⟩⟩⟩⟩⟩⟩⟩⟩⟩⟩⟩⟩⟩⟩⟩⟩⟩⟩⟩⟩⟩⟩⟩⟩⟩⟩⟩⟩⟩⟩⟩⟩⟩⟩⟩⟩⟩⟩⟩
/-- RX4.ifFolded -/
def t63_1 : List (Nat × pO) := [(100, o_iret), (101, o_aload 3 102), (102, o_getI 0 0 105), (105, o_iret), (106, o_aload 3 107), (107, o_invV 0 10 0 110), (110, o_iret)]
theorem ok63_1 : ∀ q ∈ t63_1, p_Z 63 q := List.forall_mem_cons.mpr ⟨⟨s_iret d63_100 rfl, tl_iret⟩, List.forall_mem_cons.mpr ⟨⟨s_aload_n d63_101 rfl, tl_aload _ _⟩, List.forall_mem_cons.mpr ⟨⟨f_getI_0_0 d63_102 wd_172, tl_getI _ _ _⟩, List.forall_mem_cons.mpr ⟨⟨s_iret d63_105 rfl, tl_iret⟩, List.forall_mem_cons.mpr ⟨⟨s_aload_n d63_106 rfl, tl_aload _ _⟩, List.forall_mem_cons.mpr ⟨⟨q_invV_10 d63_107 wd_500, tl_invV _ _ _ _⟩, List.forall_mem_cons.mpr ⟨⟨s_iret d63_110 rfl, tl_iret⟩, fun _ h => absurd h List.not_mem_nil⟩⟩⟩⟩⟩⟩⟩
def t63 : List (Nat × pO) := t63_0 ++ (t63_1)
theorem ok63 : ∀ q ∈ t63, p_Z 63 q := List.forall_mem_append.mpr ⟨ok63_0, ok63_1⟩
theorem d64_0 : decode (pB 64) 0 = .ok (.aload_n 0, 1) := by decide +kernel
theorem d64_1 : decode (pB 64) 1 = .ok (.getfield 10, 3) := by decide +kernel
theorem d64_4 : decode (pB 64) 4 = .ok (.getfield 172, 3) := by decide +kernel
theorem d64_7 : decode (pB 64) 7 = .ok (.iconst 5, 1) := by decide +kernel
theorem d64_8 : decode (pB 64) 8 = .ok (.if_icmp .lt 6, 3) := by decide +kernel
theorem d64_11 : decode (pB 64) 11 = .ok (.bipush (-6), 2) := by decide +kernel
theorem d64_13 : decode (pB 64) 13 = .ok (.ireturn, 1) := by decide +kernel
theorem d64_14 : decode (pB 64) 14 = .ok (.bipush (-6), 2) := by decide +kernel
theorem d64_16 : decode (pB 64) 16 = .ok (.istore_n 1, 1) := by decide +kernel
theorem d64_17 : decode (pB 64) 17 = .ok (.iconst (-1), 1) := by decide +kernel
theorem d64_18 : decode (pB 64) 18 = .ok (.istore_n 2, 1) := by decide +kernel
theorem d64_19 : decode (pB 64) 19 = .ok (.iconst 1, 1) := by decide +kernel
theorem d64_20 : decode (pB 64) 20 = .ok (.istore_n 3, 1) := by decide +kernel
theorem d64_21 : decode (pB 64) 21 = .ok (.iload_n 3, 1) := by decide +kernel
theorem d64_22 : decode (pB 64) 22 = .ok (.aload_n 0, 1) := by decide +kernel
theorem d64_23 : decode (pB 64) 23 = .ok (.invokevirtual 95, 3) := by decide +kernel
theorem d64_26 : decode (pB 64) 26 = .ok (.getfield 104, 3) := by decide +kernel
theorem d64_29 : decode (pB 64) 29 = .ok (.if_icmp .ge 54, 3) := by decide +kernel
theorem d64_32 : decode (pB 64) 32 = .ok (.aload_n 0, 1) := by decide +kernel
theorem d64_33 : decode (pB 64) 33 = .ok (.iload_n 3, 1) := by decide +kernel
theorem d64_34 : decode (pB 64) 34 = .ok (.invokevirtual 191, 3) := by decide +kernel
theorem d64_37 : decode (pB 64) 37 = .ok (.astore 4, 2) := by decide +kernel
theorem d64_39 : decode (pB 64) 39 = .ok (.aload_n 0, 1) := by decide +kernel
theorem d64_40 : decode (pB 64) 40 = .ok (.getfield 10, 3) := by decide +kernel
theorem d64_43 : decode (pB 64) 43 = .ok (.iconst (-1), 1) := by decide +kernel
theorem d64_44 : decode (pB 64) 44 = .ok (.aload 4, 2) := by decide +kernel
theorem d64_46 : decode (pB 64) 46 = .ok (.invokevirtual 175, 3) := by decide +kernel
theorem d64_49 : decode (pB 64) 49 = .ok (.ifCond .le 6, 3) := by decide +kernel
theorem d64_52 : decode (pB 64) 52 = .ok (.goto 25, 3) := by decide +kernel
theorem d64_55 : decode (pB 64) 55 = .ok (.aload_n 0, 1) := by decide +kernel
theorem d64_56 : decode (pB 64) 56 = .ok (.getfield 10, 3) := by decide +kernel
theorem d64_59 : decode (pB 64) 59 = .ok (.aload 4, 2) := by decide +kernel
theorem d64_61 : decode (pB 64) 61 = .ok (.invokevirtual 178, 3) := by decide +kernel
theorem d64_64 : decode (pB 64) 64 = .ok (.istore 5, 2) := by decide +kernel
theorem d64_66 : decode (pB 64) 66 = .ok (.iload 5, 2) := by decide +kernel
theorem d64_68 : decode (pB 64) 68 = .ok (.iload_n 2, 1) := by decide +kernel
theorem d64_69 : decode (pB 64) 69 = .ok (.if_icmp .le 8, 3) := by decide +kernel
theorem d64_72 : decode (pB 64) 72 = .ok (.iload_n 3, 1) := by decide +kernel
theorem d64_73 : decode (pB 64) 73 = .ok (.istore_n 1, 1) := by decide +kernel
theorem d64_74 : decode (pB 64) 74 = .ok (.iload 5, 2) := by decide +kernel
theorem d64_76 : decode (pB 64) 76 = .ok (.istore_n 2, 1) := by decide +kernel
theorem d64_77 : decode (pB 64) 77 = .ok (.iinc 3 1, 3) := by decide +kernel
theorem d64_80 : decode (pB 64) 80 = .ok (.goto (-59), 3) := by decide +kernel
theorem d64_83 : decode (pB 64) 83 = .ok (.iload_n 1, 1) := by decide +kernel
theorem d64_84 : decode (pB 64) 84 = .ok (.ireturn, 1) := by decide +kernel
theorem st1_64_1 : p_st1 64 1 = true := by decide +kernel
theorem st1_64_2 : p_st1 64 2 = true := by decide +kernel
theorem st1_64_3 : p_st1 64 3 = true := by decide +kernel
theorem st1_64_4 : p_st1 64 4 = true := by decide +kernel
theorem st1_64_5 : p_st1 64 5 = true := by decide +kernel
/-- RX4.bestFold -/
def t64_0 : List (Nat × pO) := [(0, o_aload 0 1), (1, o_getR 4 0 4), (4, o_getI 3 6 7), (7, o_push (.int (nI 5)) 8), (8, o_iclt 14 11), (11, o_push (.int (nM 6)) 13), (13, o_iret), (14, o_push (.int (nM 6)) 16), (16, o_istore 1 17), (17, o_push (.int (nM 1)) 18), (18, o_istore 2 19), (19, o_push (.int (nI 1)) 20), (20, o_istore 3 21), (21, o_iload 3 22), (22, o_aload 0 23), (23, o_invV 4 83 0 26), (26, o_getI 0 0 29), (29, o_icge 83 32), (32, o_aload 0 33), (33, o_iload 3 34), (34, o_invV 4 85 1 37), (37, o_astore 4 39), (39, o_aload 0 40), (40, o_getR 4 0 43), (43, o_push (.int (nM 1)) 44), (44, o_aload 4 46), (46, o_invV 3 42 2 49), (49, o_ifle 55 52), (52, o_goto 77), (55, o_aload 0 56), (56, o_getR 4 0 59), (59, o_aload 4 61), (61, o_invV 3 45 1 64), (64, o_istore 5 66), (66, o_iload 5 68), (68, o_iload 2 69), (69, o_icle 77 72), (72, o_iload 3 73), (73, o_istore 1 74), (74, o_iload 5 76)]
theorem ok64_0 : ∀ q ∈ t64_0, p_Z 64 q := List.forall_mem_cons.mpr ⟨⟨s_aload_n d64_0 rfl, tl_aload _ _⟩, List.forall_mem_cons.mpr ⟨⟨f_getR_4_0 d64_1 wd_212, tl_getR _ _ _⟩, List.forall_mem_cons.mpr ⟨⟨f_getI_3_6 d64_4 wd_98, tl_getI _ _ _⟩, List.forall_mem_cons.mpr ⟨⟨s_iconst d64_7 rfl, tl_push _ _⟩, List.forall_mem_cons.mpr ⟨⟨s_iclt d64_8 rfl, tl_iclt _ _⟩, List.forall_mem_cons.mpr ⟨⟨s_bipush d64_11 rfl, tl_push _ _⟩, List.forall_mem_cons.mpr ⟨⟨s_iret d64_13 rfl, tl_iret⟩, List.forall_mem_cons.mpr ⟨⟨s_bipush d64_14 rfl, tl_push _ _⟩, List.forall_mem_cons.mpr ⟨⟨s_istore_n d64_16 rfl st1_64_1, tl_istore _ _⟩, List.forall_mem_cons.mpr ⟨⟨s_iconst d64_17 rfl, tl_push _ _⟩, List.forall_mem_cons.mpr ⟨⟨s_istore_n d64_18 rfl st1_64_2, tl_istore _ _⟩, List.forall_mem_cons.mpr ⟨⟨s_iconst d64_19 rfl, tl_push _ _⟩, List.forall_mem_cons.mpr ⟨⟨s_istore_n d64_20 rfl st1_64_3, tl_istore _ _⟩, List.forall_mem_cons.mpr ⟨⟨s_iload_n d64_21 rfl, tl_iload _ _⟩, List.forall_mem_cons.mpr ⟨⟨s_aload_n d64_22 rfl, tl_aload _ _⟩, List.forall_mem_cons.mpr ⟨⟨q_invV_83 d64_23 wd_389, tl_invV _ _ _ _⟩, List.forall_mem_cons.mpr ⟨⟨f_getI_0_0 d64_26 wd_172, tl_getI _ _ _⟩, List.forall_mem_cons.mpr ⟨⟨s_icge d64_29 rfl, tl_icge _ _⟩, List.forall_mem_cons.mpr ⟨⟨s_aload_n d64_32 rfl, tl_aload _ _⟩, List.forall_mem_cons.mpr ⟨⟨s_iload_n d64_33 rfl, tl_iload _ _⟩, List.forall_mem_cons.mpr ⟨⟨q_invV_85 d64_34 wd_393, tl_invV _ _ _ _⟩, List.forall_mem_cons.mpr ⟨⟨s_astore d64_37 st1_64_4, tl_astore _ _⟩, List.forall_mem_cons.mpr ⟨⟨s_aload_n d64_39 rfl, tl_aload _ _⟩, List.forall_mem_cons.mpr ⟨⟨f_getR_4_0 d64_40 wd_212, tl_getR _ _ _⟩, List.forall_mem_cons.mpr ⟨⟨s_iconst d64_43 rfl, tl_push _ _⟩, List.forall_mem_cons.mpr ⟨⟨s_aload d64_44, tl_aload _ _⟩, List.forall_mem_cons.mpr ⟨⟨q_invV_42 d64_46 wd_397, tl_invV _ _ _ _⟩, List.forall_mem_cons.mpr ⟨⟨s_ifle d64_49 rfl, tl_ifle _ _⟩, List.forall_mem_cons.mpr ⟨⟨s_goto d64_52 rfl, tl_goto _⟩, List.forall_mem_cons.mpr ⟨⟨s_aload_n d64_55 rfl, tl_aload _ _⟩, List.forall_mem_cons.mpr ⟨⟨f_getR_4_0 d64_56 wd_212, tl_getR _ _ _⟩, List.forall_mem_cons.mpr ⟨⟨s_aload d64_59, tl_aload _ _⟩, List.forall_mem_cons.mpr ⟨⟨q_invV_45 d64_61 wd_495, tl_invV _ _ _ _⟩, List.forall_mem_cons.mpr ⟨⟨s_istore d64_64 st1_64_5, tl_istore _ _⟩, List.forall_mem_cons.mpr ⟨⟨s_iload d64_66, tl_iload _ _⟩, List.forall_mem_cons.mpr ⟨⟨s_iload_n d64_68 rfl, tl_iload _ _⟩, List.forall_mem_cons.mpr ⟨⟨s_icle d64_69 rfl, tl_icle _ _⟩, List.forall_mem_cons.mpr ⟨⟨s_iload_n d64_72 rfl, tl_iload _ _⟩, List.forall_mem_cons.mpr ⟨⟨s_istore_n d64_73 rfl st1_64_1, tl_istore _ _⟩, List.forall_mem_cons.mpr ⟨⟨s_iload d64_74, tl_iload _ _⟩, fun _ h => absurd h List.not_mem_nil⟩⟩⟩⟩⟩⟩⟩⟩⟩⟩⟩⟩⟩⟩⟩⟩⟩⟩⟩⟩⟩⟩⟩⟩⟩⟩⟩⟩⟩⟩⟩⟩⟩⟩⟩⟩⟩⟩⟩⟩
/-- RX4.bestFold -/
def t64_1 : List (Nat × pO) := [(76, o_istore 2 77), (77, o_iinc 3 (nI 1) 80), (80, o_goto 21), (83, o_iload 1 84), (84, o_iret)]
theorem ok64_1 : ∀ q ∈ t64_1, p_Z 64 q := List.forall_mem_cons.mpr ⟨⟨s_istore_n d64_76 rfl st1_64_2, tl_istore _ _⟩, List.forall_mem_cons.mpr ⟨⟨s_iinc d64_77 rfl st1_64_3, tl_iinc _ _ _⟩, List.forall_mem_cons.mpr ⟨⟨s_goto d64_80 rfl, tl_goto _⟩, List.forall_mem_cons.mpr ⟨⟨s_iload_n d64_83 rfl, tl_iload _ _⟩, List.forall_mem_cons.mpr ⟨⟨s_iret d64_84 rfl, tl_iret⟩, fun _ h => absurd h List.not_mem_nil⟩⟩⟩⟩⟩
def t64 : List (Nat × pO) := t64_0 ++ (t64_1)
theorem ok64 : ∀ q ∈ t64, p_Z 64 q := List.forall_mem_append.mpr ⟨ok64_0, ok64_1⟩
theorem d65_0 : decode (pB 65) 0 = .ok (.iload_n 1, 1) := by decide +kernel
theorem d65_1 : decode (pB 65) 1 = .ok (.ifCond .lt 8, 3) := by decide +kernel
theorem d65_4 : decode (pB 65) 4 = .ok (.iload_n 1, 1) := by decide +kernel
theorem d65_5 : decode (pB 65) 5 = .ok (.iconst 2, 1) := by decide +kernel
theorem d65_6 : decode (pB 65) 6 = .ok (.if_icmp .le 6, 3) := by decide +kernel
theorem d65_9 : decode (pB 65) 9 = .ok (.bipush (-2), 2) := by decide +kernel
theorem d65_11 : decode (pB 65) 11 = .ok (.ireturn, 1) := by decide +kernel
theorem d65_12 : decode (pB 65) 12 = .ok (.iconst 0, 1) := by decide +kernel
theorem d65_13 : decode (pB 65) 13 = .ok (.istore_n 2, 1) := by decide +kernel
theorem d65_14 : decode (pB 65) 14 = .ok (.iconst 1, 1) := by decide +kernel
theorem d65_15 : decode (pB 65) 15 = .ok (.istore_n 3, 1) := by decide +kernel
theorem d65_16 : decode (pB 65) 16 = .ok (.bipush 16, 2) := by decide +kernel
theorem d65_18 : decode (pB 65) 18 = .ok (.istore 4, 2) := by decide +kernel
theorem d65_20 : decode (pB 65) 20 = .ok (.iconst 0, 1) := by decide +kernel
theorem d65_21 : decode (pB 65) 21 = .ok (.istore 5, 2) := by decide +kernel
theorem d65_23 : decode (pB 65) 23 = .ok (.iload 5, 2) := by decide +kernel
theorem d65_25 : decode (pB 65) 25 = .ok (.aload_n 0, 1) := by decide +kernel
theorem d65_26 : decode (pB 65) 26 = .ok (.getfield 10, 3) := by decide +kernel
theorem d65_29 : decode (pB 65) 29 = .ok (.getfield 185, 3) := by decide +kernel
theorem d65_32 : decode (pB 65) 32 = .ok (.iconst 0, 1) := by decide +kernel
theorem d65_33 : decode (pB 65) 33 = .ok (.iaload, 1) := by decide +kernel
theorem d65_34 : decode (pB 65) 34 = .ok (.if_icmp .ge 62, 3) := by decide +kernel
theorem d65_37 : decode (pB 65) 37 = .ok (.iload 5, 2) := by decide +kernel
theorem d65_39 : decode (pB 65) 39 = .ok (.iconst 1, 1) := by decide +kernel
theorem d65_40 : decode (pB 65) 40 = .ok (.iadd, 1) := by decide +kernel
theorem d65_41 : decode (pB 65) 41 = .ok (.istore 6, 2) := by decide +kernel
theorem d65_43 : decode (pB 65) 43 = .ok (.iload 6, 2) := by decide +kernel
theorem d65_45 : decode (pB 65) 45 = .ok (.aload_n 0, 1) := by decide +kernel
theorem d65_46 : decode (pB 65) 46 = .ok (.getfield 10, 3) := by decide +kernel
theorem d65_49 : decode (pB 65) 49 = .ok (.getfield 185, 3) := by decide +kernel
theorem d65_52 : decode (pB 65) 52 = .ok (.iconst 0, 1) := by decide +kernel
theorem d65_53 : decode (pB 65) 53 = .ok (.iaload, 1) := by decide +kernel
theorem d65_54 : decode (pB 65) 54 = .ok (.if_icmp .ge 36, 3) := by decide +kernel
theorem d65_57 : decode (pB 65) 57 = .ok (.aload_n 0, 1) := by decide +kernel
theorem d65_58 : decode (pB 65) 58 = .ok (.iload 5, 2) := by decide +kernel
theorem d65_60 : decode (pB 65) 60 = .ok (.iload 6, 2) := by decide +kernel
theorem d65_62 : decode (pB 65) 62 = .ok (.invokevirtual 195, 3) := by decide +kernel
theorem d65_65 : decode (pB 65) 65 = .ok (.istore 7, 2) := by decide +kernel
theorem d65_67 : decode (pB 65) 67 = .ok (.iload 7, 2) := by decide +kernel
theorem d65_69 : decode (pB 65) 69 = .ok (.iload 4, 2) := by decide +kernel
theorem d65_71 : decode (pB 65) 71 = .ok (.if_icmp .ge 13, 3) := by decide +kernel
theorem d65_74 : decode (pB 65) 74 = .ok (.iload 7, 2) := by decide +kernel
theorem d65_76 : decode (pB 65) 76 = .ok (.istore 4, 2) := by decide +kernel
theorem d65_78 : decode (pB 65) 78 = .ok (.iload 5, 2) := by decide +kernel
theorem d65_80 : decode (pB 65) 80 = .ok (.istore_n 2, 1) := by decide +kernel
theorem d65_81 : decode (pB 65) 81 = .ok (.iload 6, 2) := by decide +kernel
theorem d65_83 : decode (pB 65) 83 = .ok (.istore_n 3, 1) := by decide +kernel
theorem d65_84 : decode (pB 65) 84 = .ok (.iinc 6 1, 3) := by decide +kernel
theorem d65_87 : decode (pB 65) 87 = .ok (.goto (-44), 3) := by decide +kernel
theorem d65_90 : decode (pB 65) 90 = .ok (.iinc 5 1, 3) := by decide +kernel
theorem d65_93 : decode (pB 65) 93 = .ok (.goto (-70), 3) := by decide +kernel
theorem d65_96 : decode (pB 65) 96 = .ok (.iload_n 1, 1) := by decide +kernel
theorem d65_97 : decode (pB 65) 97 = .ok (.lookupswitch 31 #[(0, 27), (1, 29)], 27) := by decide +kernel
theorem d65_124 : decode (pB 65) 124 = .ok (.iload_n 2, 1) := by decide +kernel
theorem d65_125 : decode (pB 65) 125 = .ok (.ireturn, 1) := by decide +kernel
theorem d65_126 : decode (pB 65) 126 = .ok (.iload_n 3, 1) := by decide +kernel
theorem d65_127 : decode (pB 65) 127 = .ok (.ireturn, 1) := by decide +kernel
theorem d65_128 : decode (pB 65) 128 = .ok (.iload 4, 2) := by decide +kernel
theorem d65_130 : decode (pB 65) 130 = .ok (.ireturn, 1) := by decide +kernel
theorem st1_65_2 : p_st1 65 2 = true := by decide +kernel
theorem st1_65_3 : p_st1 65 3 = true := by decide +kernel
theorem st1_65_4 : p_st1 65 4 = true := by decide +kernel
theorem st1_65_5 : p_st1 65 5 = true := by decide +kernel
theorem st1_65_6 : p_st1 65 6 = true := by decide +kernel
theorem st1_65_7 : p_st1 65 7 = true := by decide +kernel
/-- RX4.bestSwap -/
def t65_0 : List (Nat × pO) := [(0, o_iload 1 1), (1, o_iflt 9 4), (4, o_iload 1 5), (5, o_push (.int (nI 2)) 6), (6, o_icle 12 9), (9, o_push (.int (nM 2)) 11), (11, o_iret), (12, o_push (.int (nI 0)) 13), (13, o_istore 2 14), (14, o_push (.int (nI 1)) 15), (15, o_istore 3 16), (16, o_push (.int (nI 16)) 18), (18, o_istore 4 20), (20, o_push (.int (nI 0)) 21), (21, o_istore 5 23), (23, o_iload 5 25), (25, o_aload 0 26), (26, o_getR 4 0 29), (29, o_getR 3 0 32), (32, o_push (.int (nI 0)) 33), (33, o_iald 34), (34, o_icge 96 37), (37, o_iload 5 39), (39, o_push (.int (nI 1)) 40), (40, o_iadd 41), (41, o_istore 6 43), (43, o_iload 6 45), (45, o_aload 0 46), (46, o_getR 4 0 49), (49, o_getR 3 0 52), (52, o_push (.int (nI 0)) 53), (53, o_iald 54), (54, o_icge 90 57), (57, o_aload 0 58), (58, o_iload 5 60), (60, o_iload 6 62), (62, o_invV 4 87 2 65), (65, o_istore 7 67), (67, o_iload 7 69), (69, o_iload 4 71)]
theorem ok65_0 : ∀ q ∈ t65_0, p_Z 65 q := List.forall_mem_cons.mpr ⟨⟨s_iload_n d65_0 rfl, tl_iload _ _⟩, List.forall_mem_cons.mpr ⟨⟨s_iflt d65_1 rfl, tl_iflt _ _⟩, List.forall_mem_cons.mpr ⟨⟨s_iload_n d65_4 rfl, tl_iload _ _⟩, List.forall_mem_cons.mpr ⟨⟨s_iconst d65_5 rfl, tl_push _ _⟩, List.forall_mem_cons.mpr ⟨⟨s_icle d65_6 rfl, tl_icle _ _⟩, List.forall_mem_cons.mpr ⟨⟨s_bipush d65_9 rfl, tl_push _ _⟩, List.forall_mem_cons.mpr ⟨⟨s_iret d65_11 rfl, tl_iret⟩, List.forall_mem_cons.mpr ⟨⟨s_iconst d65_12 rfl, tl_push _ _⟩, List.forall_mem_cons.mpr ⟨⟨s_istore_n d65_13 rfl st1_65_2, tl_istore _ _⟩, List.forall_mem_cons.mpr ⟨⟨s_iconst d65_14 rfl, tl_push _ _⟩, List.forall_mem_cons.mpr ⟨⟨s_istore_n d65_15 rfl st1_65_3, tl_istore _ _⟩, List.forall_mem_cons.mpr ⟨⟨s_bipush d65_16 rfl, tl_push _ _⟩, List.forall_mem_cons.mpr ⟨⟨s_istore d65_18 st1_65_4, tl_istore _ _⟩, List.forall_mem_cons.mpr ⟨⟨s_iconst d65_20 rfl, tl_push _ _⟩, List.forall_mem_cons.mpr ⟨⟨s_istore d65_21 st1_65_5, tl_istore _ _⟩, List.forall_mem_cons.mpr ⟨⟨s_iload d65_23, tl_iload _ _⟩, List.forall_mem_cons.mpr ⟨⟨s_aload_n d65_25 rfl, tl_aload _ _⟩, List.forall_mem_cons.mpr ⟨⟨f_getR_4_0 d65_26 wd_212, tl_getR _ _ _⟩, List.forall_mem_cons.mpr ⟨⟨f_getR_3_0 d65_29 wd_86, tl_getR _ _ _⟩, List.forall_mem_cons.mpr ⟨⟨s_iconst d65_32 rfl, tl_push _ _⟩, List.forall_mem_cons.mpr ⟨⟨s_iald d65_33, tl_iald _⟩, List.forall_mem_cons.mpr ⟨⟨s_icge d65_34 rfl, tl_icge _ _⟩, List.forall_mem_cons.mpr ⟨⟨s_iload d65_37, tl_iload _ _⟩, List.forall_mem_cons.mpr ⟨⟨s_iconst d65_39 rfl, tl_push _ _⟩, List.forall_mem_cons.mpr ⟨⟨s_iadd d65_40, tl_iadd _⟩, List.forall_mem_cons.mpr ⟨⟨s_istore d65_41 st1_65_6, tl_istore _ _⟩, List.forall_mem_cons.mpr ⟨⟨s_iload d65_43, tl_iload _ _⟩, List.forall_mem_cons.mpr ⟨⟨s_aload_n d65_45 rfl, tl_aload _ _⟩, List.forall_mem_cons.mpr ⟨⟨f_getR_4_0 d65_46 wd_212, tl_getR _ _ _⟩, List.forall_mem_cons.mpr ⟨⟨f_getR_3_0 d65_49 wd_86, tl_getR _ _ _⟩, List.forall_mem_cons.mpr ⟨⟨s_iconst d65_52 rfl, tl_push _ _⟩, List.forall_mem_cons.mpr ⟨⟨s_iald d65_53, tl_iald _⟩, List.forall_mem_cons.mpr ⟨⟨s_icge d65_54 rfl, tl_icge _ _⟩, List.forall_mem_cons.mpr ⟨⟨s_aload_n d65_57 rfl, tl_aload _ _⟩, List.forall_mem_cons.mpr ⟨⟨s_iload d65_58, tl_iload _ _⟩, List.forall_mem_cons.mpr ⟨⟨s_iload d65_60, tl_iload _ _⟩, List.forall_mem_cons.mpr ⟨⟨q_invV_87 d65_62 wd_516, tl_invV _ _ _ _⟩, List.forall_mem_cons.mpr ⟨⟨s_istore d65_65 st1_65_7, tl_istore _ _⟩, List.forall_mem_cons.mpr ⟨⟨s_iload d65_67, tl_iload _ _⟩, List.forall_mem_cons.mpr ⟨⟨s_iload d65_69, tl_iload _ _⟩, fun _ h => absurd h List.not_mem_nil⟩⟩⟩⟩⟩⟩⟩⟩⟩⟩⟩⟩⟩⟩⟩⟩⟩⟩⟩⟩⟩⟩⟩⟩⟩⟩⟩⟩⟩⟩⟩⟩⟩⟩⟩⟩⟩⟩⟩⟩
/-- RX4.bestSwap -/
def t65_1 : List (Nat × pO) := [(71, o_icge 84 74), (74, o_iload 7 76), (76, o_istore 4 78), (78, o_iload 5 80), (80, o_istore 2 81), (81, o_iload 6 83), (83, o_istore 3 84), (84, o_iinc 6 (nI 1) 87), (87, o_goto 43), (90, o_iinc 5 (nI 1) 93), (93, o_goto 23), (96, o_iload 1 97), (97, o_switch [((nI 0), 124), ((nI 1), 126)] 128), (124, o_iload 2 125), (125, o_iret), (126, o_iload 3 127), (127, o_iret), (128, o_iload 4 130), (130, o_iret)]
theorem ok65_1 : ∀ q ∈ t65_1, p_Z 65 q := List.forall_mem_cons.mpr ⟨⟨s_icge d65_71 rfl, tl_icge _ _⟩, List.forall_mem_cons.mpr ⟨⟨s_iload d65_74, tl_iload _ _⟩, List.forall_mem_cons.mpr ⟨⟨s_istore d65_76 st1_65_4, tl_istore _ _⟩, List.forall_mem_cons.mpr ⟨⟨s_iload d65_78, tl_iload _ _⟩, List.forall_mem_cons.mpr ⟨⟨s_istore_n d65_80 rfl st1_65_2, tl_istore _ _⟩, List.forall_mem_cons.mpr ⟨⟨s_iload d65_81, tl_iload _ _⟩, List.forall_mem_cons.mpr ⟨⟨s_istore_n d65_83 rfl st1_65_3, tl_istore _ _⟩, List.forall_mem_cons.mpr ⟨⟨s_iinc d65_84 rfl st1_65_6, tl_iinc _ _ _⟩, List.forall_mem_cons.mpr ⟨⟨s_goto d65_87 rfl, tl_goto _⟩, List.forall_mem_cons.mpr ⟨⟨s_iinc d65_90 rfl st1_65_5, tl_iinc _ _ _⟩, List.forall_mem_cons.mpr ⟨⟨s_goto d65_93 rfl, tl_goto _⟩, List.forall_mem_cons.mpr ⟨⟨s_iload_n d65_96 rfl, tl_iload _ _⟩, List.forall_mem_cons.mpr ⟨⟨s_lookup d65_97 (by decide +kernel) rfl (by decide +kernel) (fun x hx => p_look (by decide +kernel) hx), tl_switch _ _⟩, List.forall_mem_cons.mpr ⟨⟨s_iload_n d65_124 rfl, tl_iload _ _⟩, List.forall_mem_cons.mpr ⟨⟨s_iret d65_125 rfl, tl_iret⟩, List.forall_mem_cons.mpr ⟨⟨s_iload_n d65_126 rfl, tl_iload _ _⟩, List.forall_mem_cons.mpr ⟨⟨s_iret d65_127 rfl, tl_iret⟩, List.forall_mem_cons.mpr ⟨⟨s_iload d65_128, tl_iload _ _⟩, List.forall_mem_cons.mpr ⟨⟨s_iret d65_130 rfl, tl_iret⟩, fun _ h => absurd h List.not_mem_nil⟩⟩⟩⟩⟩⟩⟩⟩⟩⟩⟩⟩⟩⟩⟩⟩⟩⟩⟩
def t65 : List (Nat × pO) := t65_0 ++ (t65_1)
theorem ok65 : ∀ q ∈ t65, p_Z 65 q := List.forall_mem_append.mpr ⟨ok65_0, ok65_1⟩
theorem d66_0 : decode (pB 66) 0 = .ok (.aload_n 0, 1) := by decide +kernel
theorem d66_1 : decode (pB 66) 1 = .ok (.invokevirtual 95, 3) := by decide +kernel
theorem d66_4 : decode (pB 66) 4 = .ok (.getfield 104, 3) := by decide +kernel
theorem d66_7 : decode (pB 66) 7 = .ok (.iconst 1, 1) := by decide +kernel
theorem d66_8 : decode (pB 66) 8 = .ok (.if_icmp .ne 5, 3) := by decide +kernel
theorem d66_11 : decode (pB 66) 11 = .ok (.iconst 0, 1) := by decide +kernel
theorem d66_12 : decode (pB 66) 12 = .ok (.ireturn, 1) := by decide +kernel
theorem d66_13 : decode (pB 66) 13 = .ok (.aload_n 0, 1) := by decide +kernel
theorem d66_14 : decode (pB 66) 14 = .ok (.getfield 10, 3) := by decide +kernel
theorem d66_17 : decode (pB 66) 17 = .ok (.iconst (-1), 1) := by decide +kernel
theorem d66_18 : decode (pB 66) 18 = .ok (.aload_n 0, 1) := by decide +kernel
theorem d66_19 : decode (pB 66) 19 = .ok (.invokevirtual 95, 3) := by decide +kernel
theorem d66_22 : decode (pB 66) 22 = .ok (.invokevirtual 175, 3) := by decide +kernel
theorem d66_25 : decode (pB 66) 25 = .ok (.ifCond .le 6, 3) := by decide +kernel
theorem d66_28 : decode (pB 66) 28 = .ok (.bipush (-6), 2) := by decide +kernel
theorem d66_30 : decode (pB 66) 30 = .ok (.ireturn, 1) := by decide +kernel
theorem d66_31 : decode (pB 66) 31 = .ok (.aload_n 0, 1) := by decide +kernel
theorem d66_32 : decode (pB 66) 32 = .ok (.getfield 10, 3) := by decide +kernel
theorem d66_35 : decode (pB 66) 35 = .ok (.getfield 172, 3) := by decide +kernel
theorem d66_38 : decode (pB 66) 38 = .ok (.iconst 1, 1) := by decide +kernel
theorem d66_39 : decode (pB 66) 39 = .ok (.iadd, 1) := by decide +kernel
theorem d66_40 : decode (pB 66) 40 = .ok (.istore_n 1, 1) := by decide +kernel
theorem d66_41 : decode (pB 66) 41 = .ok (.iload_n 1, 1) := by decide +kernel
theorem d66_42 : decode (pB 66) 42 = .ok (.iconst 5, 1) := by decide +kernel
theorem d66_43 : decode (pB 66) 43 = .ok (.if_icmp .gt 41, 3) := by decide +kernel
theorem d66_46 : decode (pB 66) 46 = .ok (.aload_n 0, 1) := by decide +kernel
theorem d66_47 : decode (pB 66) 47 = .ok (.getfield 10, 3) := by decide +kernel
theorem d66_50 : decode (pB 66) 50 = .ok (.aload_n 0, 1) := by decide +kernel
theorem d66_51 : decode (pB 66) 51 = .ok (.getfield 33, 3) := by decide +kernel
theorem d66_54 : decode (pB 66) 54 = .ok (.aload_n 0, 1) := by decide +kernel
theorem d66_55 : decode (pB 66) 55 = .ok (.getfield 10, 3) := by decide +kernel
theorem d66_58 : decode (pB 66) 58 = .ok (.getfield 172, 3) := by decide +kernel
theorem d66_61 : decode (pB 66) 61 = .ok (.iload_n 1, 1) := by decide +kernel
theorem d66_62 : decode (pB 66) 62 = .ok (.invokestatic 198, 3) := by decide +kernel
theorem d66_65 : decode (pB 66) 65 = .ok (.ifCond .eq 13, 3) := by decide +kernel
theorem d66_68 : decode (pB 66) 68 = .ok (.iload_n 1, 1) := by decide +kernel
theorem d66_69 : decode (pB 66) 69 = .ok (.aload_n 0, 1) := by decide +kernel
theorem d66_70 : decode (pB 66) 70 = .ok (.getfield 10, 3) := by decide +kernel
theorem d66_73 : decode (pB 66) 73 = .ok (.getfield 172, 3) := by decide +kernel
theorem d66_76 : decode (pB 66) 76 = .ok (.isub, 1) := by decide +kernel
theorem d66_77 : decode (pB 66) 77 = .ok (.ireturn, 1) := by decide +kernel
theorem d66_78 : decode (pB 66) 78 = .ok (.iinc 1 1, 3) := by decide +kernel
theorem d66_81 : decode (pB 66) 81 = .ok (.goto (-40), 3) := by decide +kernel
theorem d66_84 : decode (pB 66) 84 = .ok (.bipush (-6), 2) := by decide +kernel
theorem d66_86 : decode (pB 66) 86 = .ok (.ireturn, 1) := by decide +kernel
theorem st1_66_1 : p_st1 66 1 = true := by decide +kernel
/-- RX4.fewestFolds -/
def t66_0 : List (Nat × pO) := [(0, o_aload 0 1), (1, o_invV 4 83 0 4), (4, o_getI 0 0 7), (7, o_push (.int (nI 1)) 8), (8, o_icne 13 11), (11, o_push (.int (nI 0)) 12), (12, o_iret), (13, o_aload 0 14), (14, o_getR 4 0 17), (17, o_push (.int (nM 1)) 18), (18, o_aload 0 19), (19, o_invV 4 83 0 22), (22, o_invV 3 42 2 25), (25, o_ifle 31 28), (28, o_push (.int (nM 6)) 30), (30, o_iret), (31, o_aload 0 32), (32, o_getR 4 0 35), (35, o_getI 3 6 38), (38, o_push (.int (nI 1)) 39), (39, o_iadd 40), (40, o_istore 1 41), (41, o_iload 1 42), (42, o_push (.int (nI 5)) 43), (43, o_icgt 84 46), (46, o_aload 0 47), (47, o_getR 4 0 50), (50, o_aload 0 51), (51, o_getR 4 5 54), (54, o_aload 0 55), (55, o_getR 4 0 58), (58, o_getI 3 6 61), (61, o_iload 1 62), (62, o_invS 88 4 65), (65, o_ifeq 78 68), (68, o_iload 1 69), (69, o_aload 0 70), (70, o_getR 4 0 73), (73, o_getI 3 6 76), (76, o_isub 77)]
theorem ok66_0 : ∀ q ∈ t66_0, p_Z 66 q := List.forall_mem_cons.mpr ⟨⟨s_aload_n d66_0 rfl, tl_aload _ _⟩, List.forall_mem_cons.mpr ⟨⟨q_invV_83 d66_1 wd_389, tl_invV _ _ _ _⟩, List.forall_mem_cons.mpr ⟨⟨f_getI_0_0 d66_4 wd_172, tl_getI _ _ _⟩, List.forall_mem_cons.mpr ⟨⟨s_iconst d66_7 rfl, tl_push _ _⟩, List.forall_mem_cons.mpr ⟨⟨s_icne d66_8 rfl, tl_icne _ _⟩, List.forall_mem_cons.mpr ⟨⟨s_iconst d66_11 rfl, tl_push _ _⟩, List.forall_mem_cons.mpr ⟨⟨s_iret d66_12 rfl, tl_iret⟩, List.forall_mem_cons.mpr ⟨⟨s_aload_n d66_13 rfl, tl_aload _ _⟩, List.forall_mem_cons.mpr ⟨⟨f_getR_4_0 d66_14 wd_212, tl_getR _ _ _⟩, List.forall_mem_cons.mpr ⟨⟨s_iconst d66_17 rfl, tl_push _ _⟩, List.forall_mem_cons.mpr ⟨⟨s_aload_n d66_18 rfl, tl_aload _ _⟩, List.forall_mem_cons.mpr ⟨⟨q_invV_83 d66_19 wd_389, tl_invV _ _ _ _⟩, List.forall_mem_cons.mpr ⟨⟨q_invV_42 d66_22 wd_397, tl_invV _ _ _ _⟩, List.forall_mem_cons.mpr ⟨⟨s_ifle d66_25 rfl, tl_ifle _ _⟩, List.forall_mem_cons.mpr ⟨⟨s_bipush d66_28 rfl, tl_push _ _⟩, List.forall_mem_cons.mpr ⟨⟨s_iret d66_30 rfl, tl_iret⟩, List.forall_mem_cons.mpr ⟨⟨s_aload_n d66_31 rfl, tl_aload _ _⟩, List.forall_mem_cons.mpr ⟨⟨f_getR_4_0 d66_32 wd_212, tl_getR _ _ _⟩, List.forall_mem_cons.mpr ⟨⟨f_getI_3_6 d66_35 wd_98, tl_getI _ _ _⟩, List.forall_mem_cons.mpr ⟨⟨s_iconst d66_38 rfl, tl_push _ _⟩, List.forall_mem_cons.mpr ⟨⟨s_iadd d66_39, tl_iadd _⟩, List.forall_mem_cons.mpr ⟨⟨s_istore_n d66_40 rfl st1_66_1, tl_istore _ _⟩, List.forall_mem_cons.mpr ⟨⟨s_iload_n d66_41 rfl, tl_iload _ _⟩, List.forall_mem_cons.mpr ⟨⟨s_iconst d66_42 rfl, tl_push _ _⟩, List.forall_mem_cons.mpr ⟨⟨s_icgt d66_43 rfl, tl_icgt _ _⟩, List.forall_mem_cons.mpr ⟨⟨s_aload_n d66_46 rfl, tl_aload _ _⟩, List.forall_mem_cons.mpr ⟨⟨f_getR_4_0 d66_47 wd_212, tl_getR _ _ _⟩, List.forall_mem_cons.mpr ⟨⟨s_aload_n d66_50 rfl, tl_aload _ _⟩, List.forall_mem_cons.mpr ⟨⟨f_getR_4_5 d66_51 wd_217, tl_getR _ _ _⟩, List.forall_mem_cons.mpr ⟨⟨s_aload_n d66_54 rfl, tl_aload _ _⟩, List.forall_mem_cons.mpr ⟨⟨f_getR_4_0 d66_55 wd_212, tl_getR _ _ _⟩, List.forall_mem_cons.mpr ⟨⟨f_getI_3_6 d66_58 wd_98, tl_getI _ _ _⟩, List.forall_mem_cons.mpr ⟨⟨s_iload_n d66_61 rfl, tl_iload _ _⟩, List.forall_mem_cons.mpr ⟨⟨q_invS_88 d66_62 wd_524, tl_invS _ _ _⟩, List.forall_mem_cons.mpr ⟨⟨s_ifeq d66_65 rfl, tl_ifeq _ _⟩, List.forall_mem_cons.mpr ⟨⟨s_iload_n d66_68 rfl, tl_iload _ _⟩, List.forall_mem_cons.mpr ⟨⟨s_aload_n d66_69 rfl, tl_aload _ _⟩, List.forall_mem_cons.mpr ⟨⟨f_getR_4_0 d66_70 wd_212, tl_getR _ _ _⟩, List.forall_mem_cons.mpr ⟨⟨f_getI_3_6 d66_73 wd_98, tl_getI _ _ _⟩, List.forall_mem_cons.mpr ⟨⟨s_isub d66_76, tl_isub _⟩, fun _ h => absurd h List.not_mem_nil⟩⟩⟩⟩⟩⟩⟩⟩⟩⟩⟩⟩⟩⟩⟩⟩⟩⟩⟩⟩⟩⟩⟩⟩⟩⟩⟩⟩⟩⟩⟩⟩⟩⟩⟩⟩⟩⟩⟩⟩
/-- RX4.fewestFolds -/
def t66_1 : List (Nat × pO) := [(77, o_iret), (78, o_iinc 1 (nI 1) 81), (81, o_goto 41), (84, o_push (.int (nM 6)) 86), (86, o_iret)]
theorem ok66_1 : ∀ q ∈ t66_1, p_Z 66 q := List.forall_mem_cons.mpr ⟨⟨s_iret d66_77 rfl, tl_iret⟩, List.forall_mem_cons.mpr ⟨⟨s_iinc d66_78 rfl st1_66_1, tl_iinc _ _ _⟩, List.forall_mem_cons.mpr ⟨⟨s_goto d66_81 rfl, tl_goto _⟩, List.forall_mem_cons.mpr ⟨⟨s_bipush d66_84 rfl, tl_push _ _⟩, List.forall_mem_cons.mpr ⟨⟨s_iret d66_86 rfl, tl_iret⟩, fun _ h => absurd h List.not_mem_nil⟩⟩⟩⟩⟩
def t66 : List (Nat × pO) := t66_0 ++ (t66_1)
theorem ok66 : ∀ q ∈ t66, p_Z 66 q := List.forall_mem_append.mpr ⟨ok66_0, ok66_1⟩
theorem d67_0 : decode (pB 67) 0 = .ok (.lload_n 1, 1) := by decide +kernel
theorem d67_1 : decode (pB 67) 1 = .ok (.invokestatic 202, 3) := by decide +kernel
theorem d67_4 : decode (pB 67) 4 = .ok (.istore_n 3, 1) := by decide +kernel
theorem d67_5 : decode (pB 67) 5 = .ok (.iload_n 3, 1) := by decide +kernel
theorem d67_6 : decode (pB 67) 6 = .ok (.ifCond .ne 6, 3) := by decide +kernel
theorem d67_9 : decode (pB 67) 9 = .ok (.bipush (-2), 2) := by decide +kernel
theorem d67_11 : decode (pB 67) 11 = .ok (.ireturn, 1) := by decide +kernel
theorem d67_12 : decode (pB 67) 12 = .ok (.aload_n 0, 1) := by decide +kernel
theorem d67_13 : decode (pB 67) 13 = .ok (.getfield 48, 3) := by decide +kernel
theorem d67_16 : decode (pB 67) 16 = .ok (.getfield 119, 3) := by decide +kernel
theorem d67_19 : decode (pB 67) 19 = .ok (.iload_n 3, 1) := by decide +kernel
theorem d67_20 : decode (pB 67) 20 = .ok (.iadd, 1) := by decide +kernel
theorem d67_21 : decode (pB 67) 21 = .ok (.bipush 80, 2) := by decide +kernel
theorem d67_23 : decode (pB 67) 23 = .ok (.if_icmp .le 6, 3) := by decide +kernel
theorem d67_26 : decode (pB 67) 26 = .ok (.bipush (-4), 2) := by decide +kernel
theorem d67_28 : decode (pB 67) 28 = .ok (.ireturn, 1) := by decide +kernel
theorem d67_29 : decode (pB 67) 29 = .ok (.iload_n 3, 1) := by decide +kernel
theorem d67_30 : decode (pB 67) 30 = .ok (.iconst 1, 1) := by decide +kernel
theorem d67_31 : decode (pB 67) 31 = .ok (.isub, 1) := by decide +kernel
theorem d67_32 : decode (pB 67) 32 = .ok (.istore 4, 2) := by decide +kernel
theorem d67_34 : decode (pB 67) 34 = .ok (.iload 4, 2) := by decide +kernel
theorem d67_36 : decode (pB 67) 36 = .ok (.ifCond .lt 28, 3) := by decide +kernel
theorem d67_39 : decode (pB 67) 39 = .ok (.aload_n 0, 1) := by decide +kernel
theorem d67_40 : decode (pB 67) 40 = .ok (.getfield 48, 3) := by decide +kernel
theorem d67_43 : decode (pB 67) 43 = .ok (.lload_n 1, 1) := by decide +kernel
theorem d67_44 : decode (pB 67) 44 = .ok (.bipush 8, 2) := by decide +kernel
theorem d67_46 : decode (pB 67) 46 = .ok (.iload 4, 2) := by decide +kernel
theorem d67_48 : decode (pB 67) 48 = .ok (.imul, 1) := by decide +kernel
theorem d67_49 : decode (pB 67) 49 = .ok (.lushr, 1) := by decide +kernel
theorem d67_50 : decode (pB 67) 50 = .ok (.l2i, 1) := by decide +kernel
theorem d67_51 : decode (pB 67) 51 = .ok (.sipush 255, 3) := by decide +kernel
theorem d67_54 : decode (pB 67) 54 = .ok (.iand, 1) := by decide +kernel
theorem d67_55 : decode (pB 67) 55 = .ok (.invokevirtual 107, 3) := by decide +kernel
theorem d67_58 : decode (pB 67) 58 = .ok (.iinc 4 (-1), 3) := by decide +kernel
theorem d67_61 : decode (pB 67) 61 = .ok (.goto (-27), 3) := by decide +kernel
theorem d67_64 : decode (pB 67) 64 = .ok (.aload_n 0, 1) := by decide +kernel
theorem d67_65 : decode (pB 67) 65 = .ok (.getfield 48, 3) := by decide +kernel
theorem d67_68 : decode (pB 67) 68 = .ok (.getfield 119, 3) := by decide +kernel
theorem d67_71 : decode (pB 67) 71 = .ok (.ireturn, 1) := by decide +kernel
theorem st1_67_3 : p_st1 67 3 = true := by decide +kernel
theorem st1_67_4 : p_st1 67 4 = true := by decide +kernel
/-- RX4.put -/
def t67_0 : List (Nat × pO) := [(0, o_lload 1 1), (1, o_invS 89 1 4), (4, o_istore 3 5), (5, o_iload 3 6), (6, o_ifne 12 9), (9, o_push (.int (nM 2)) 11), (11, o_iret), (12, o_aload 0 13), (13, o_getR 4 7 16), (16, o_getI 2 1 19), (19, o_iload 3 20), (20, o_iadd 21), (21, o_push (.int (nI 80)) 23), (23, o_icle 29 26), (26, o_push (.int (nM 4)) 28), (28, o_iret), (29, o_iload 3 30), (30, o_push (.int (nI 1)) 31), (31, o_isub 32), (32, o_istore 4 34), (34, o_iload 4 36), (36, o_iflt 64 39), (39, o_aload 0 40), (40, o_getR 4 7 43), (43, o_lload 1 44), (44, o_push (.int (nI 8)) 46), (46, o_iload 4 48), (48, o_imul 49), (49, o_lushr 50), (50, o_l2i 51), (51, o_push (.int (nI 255)) 54), (54, o_iand 55), (55, o_invV 2 26 1 58), (58, o_iinc 4 (nM 1) 61), (61, o_goto 34), (64, o_aload 0 65), (65, o_getR 4 7 68), (68, o_getI 2 1 71), (71, o_iret)]
theorem ok67_0 : ∀ q ∈ t67_0, p_Z 67 q := List.forall_mem_cons.mpr ⟨⟨s_lload_n d67_0 rfl, tl_lload _ _⟩, List.forall_mem_cons.mpr ⟨⟨q_invS_89 d67_1 wd_539, tl_invS _ _ _⟩, List.forall_mem_cons.mpr ⟨⟨s_istore_n d67_4 rfl st1_67_3, tl_istore _ _⟩, List.forall_mem_cons.mpr ⟨⟨s_iload_n d67_5 rfl, tl_iload _ _⟩, List.forall_mem_cons.mpr ⟨⟨s_ifne d67_6 rfl, tl_ifne _ _⟩, List.forall_mem_cons.mpr ⟨⟨s_bipush d67_9 rfl, tl_push _ _⟩, List.forall_mem_cons.mpr ⟨⟨s_iret d67_11 rfl, tl_iret⟩, List.forall_mem_cons.mpr ⟨⟨s_aload_n d67_12 rfl, tl_aload _ _⟩, List.forall_mem_cons.mpr ⟨⟨f_getR_4_7 d67_13 wd_219, tl_getR _ _ _⟩, List.forall_mem_cons.mpr ⟨⟨f_getI_2_1 d67_16 wd_135, tl_getI _ _ _⟩, List.forall_mem_cons.mpr ⟨⟨s_iload_n d67_19 rfl, tl_iload _ _⟩, List.forall_mem_cons.mpr ⟨⟨s_iadd d67_20, tl_iadd _⟩, List.forall_mem_cons.mpr ⟨⟨s_bipush d67_21 rfl, tl_push _ _⟩, List.forall_mem_cons.mpr ⟨⟨s_icle d67_23 rfl, tl_icle _ _⟩, List.forall_mem_cons.mpr ⟨⟨s_bipush d67_26 rfl, tl_push _ _⟩, List.forall_mem_cons.mpr ⟨⟨s_iret d67_28 rfl, tl_iret⟩, List.forall_mem_cons.mpr ⟨⟨s_iload_n d67_29 rfl, tl_iload _ _⟩, List.forall_mem_cons.mpr ⟨⟨s_iconst d67_30 rfl, tl_push _ _⟩, List.forall_mem_cons.mpr ⟨⟨s_isub d67_31, tl_isub _⟩, List.forall_mem_cons.mpr ⟨⟨s_istore d67_32 st1_67_4, tl_istore _ _⟩, List.forall_mem_cons.mpr ⟨⟨s_iload d67_34, tl_iload _ _⟩, List.forall_mem_cons.mpr ⟨⟨s_iflt d67_36 rfl, tl_iflt _ _⟩, List.forall_mem_cons.mpr ⟨⟨s_aload_n d67_39 rfl, tl_aload _ _⟩, List.forall_mem_cons.mpr ⟨⟨f_getR_4_7 d67_40 wd_219, tl_getR _ _ _⟩, List.forall_mem_cons.mpr ⟨⟨s_lload_n d67_43 rfl, tl_lload _ _⟩, List.forall_mem_cons.mpr ⟨⟨s_bipush d67_44 rfl, tl_push _ _⟩, List.forall_mem_cons.mpr ⟨⟨s_iload d67_46, tl_iload _ _⟩, List.forall_mem_cons.mpr ⟨⟨s_imul d67_48, tl_imul _⟩, List.forall_mem_cons.mpr ⟨⟨s_lushr d67_49, tl_lushr _⟩, List.forall_mem_cons.mpr ⟨⟨s_l2i d67_50, tl_l2i _⟩, List.forall_mem_cons.mpr ⟨⟨s_sipush d67_51 rfl, tl_push _ _⟩, List.forall_mem_cons.mpr ⟨⟨s_iand d67_54, tl_iand _⟩, List.forall_mem_cons.mpr ⟨⟨q_invV_26 d67_55 wd_446, tl_invV _ _ _ _⟩, List.forall_mem_cons.mpr ⟨⟨s_iinc d67_58 rfl st1_67_4, tl_iinc _ _ _⟩, List.forall_mem_cons.mpr ⟨⟨s_goto d67_61 rfl, tl_goto _⟩, List.forall_mem_cons.mpr ⟨⟨s_aload_n d67_64 rfl, tl_aload _ _⟩, List.forall_mem_cons.mpr ⟨⟨f_getR_4_7 d67_65 wd_219, tl_getR _ _ _⟩, List.forall_mem_cons.mpr ⟨⟨f_getI_2_1 d67_68 wd_135, tl_getI _ _ _⟩, List.forall_mem_cons.mpr ⟨⟨s_iret d67_71 rfl, tl_iret⟩, fun _ h => absurd h List.not_mem_nil⟩⟩⟩⟩⟩⟩⟩⟩⟩⟩⟩⟩⟩⟩⟩⟩⟩⟩⟩⟩⟩⟩⟩⟩⟩⟩⟩⟩⟩⟩⟩⟩⟩⟩⟩⟩⟩⟩⟩
def t67 : List (Nat × pO) := t67_0
theorem ok67 : ∀ q ∈ t67, p_Z 67 q := ok67_0
theorem d68_0 : decode (pB 68) 0 = .ok (.aload_n 0, 1) := by decide +kernel
theorem d68_1 : decode (pB 68) 1 = .ok (.getfield 48, 3) := by decide +kernel
theorem d68_4 : decode (pB 68) 4 = .ok (.getfield 119, 3) := by decide +kernel
theorem d68_7 : decode (pB 68) 7 = .ok (.istore_n 1, 1) := by decide +kernel
theorem d68_8 : decode (pB 68) 8 = .ok (.aload_n 0, 1) := by decide +kernel
theorem d68_9 : decode (pB 68) 9 = .ok (.getfield 48, 3) := by decide +kernel
theorem d68_12 : decode (pB 68) 12 = .ok (.invokevirtual 99, 3) := by decide +kernel
theorem d68_15 : decode (pB 68) 15 = .ok (.iload_n 1, 1) := by decide +kernel
theorem d68_16 : decode (pB 68) 16 = .ok (.ireturn, 1) := by decide +kernel
theorem st1_68_1 : p_st1 68 1 = true := by decide +kernel
/-- RX4.wipe -/
def t68_0 : List (Nat × pO) := [(0, o_aload 0 1), (1, o_getR 4 7 4), (4, o_getI 2 1 7), (7, o_istore 1 8), (8, o_aload 0 9), (9, o_getR 4 7 12), (12, o_invV 2 25 0 15), (15, o_iload 1 16), (16, o_iret)]
theorem ok68_0 : ∀ q ∈ t68_0, p_Z 68 q := List.forall_mem_cons.mpr ⟨⟨s_aload_n d68_0 rfl, tl_aload _ _⟩, List.forall_mem_cons.mpr ⟨⟨f_getR_4_7 d68_1 wd_219, tl_getR _ _ _⟩, List.forall_mem_cons.mpr ⟨⟨f_getI_2_1 d68_4 wd_135, tl_getI _ _ _⟩, List.forall_mem_cons.mpr ⟨⟨s_istore_n d68_7 rfl st1_68_1, tl_istore _ _⟩, List.forall_mem_cons.mpr ⟨⟨s_aload_n d68_8 rfl, tl_aload _ _⟩, List.forall_mem_cons.mpr ⟨⟨f_getR_4_7 d68_9 wd_219, tl_getR _ _ _⟩, List.forall_mem_cons.mpr ⟨⟨q_invV_25 d68_12 wd_442, tl_invV _ _ _ _⟩, List.forall_mem_cons.mpr ⟨⟨s_iload_n d68_15 rfl, tl_iload _ _⟩, List.forall_mem_cons.mpr ⟨⟨s_iret d68_16 rfl, tl_iret⟩, fun _ h => absurd h List.not_mem_nil⟩⟩⟩⟩⟩⟩⟩⟩⟩
def t68 : List (Nat × pO) := t68_0
theorem ok68 : ∀ q ∈ t68, p_Z 68 q := ok68_0
theorem d69_0 : decode (pB 69) 0 = .ok (.aload_n 0, 1) := by decide +kernel
theorem d69_1 : decode (pB 69) 1 = .ok (.getfield 40, 3) := by decide +kernel
theorem d69_4 : decode (pB 69) 4 = .ok (.invokevirtual 206, 3) := by decide +kernel
theorem d69_7 : decode (pB 69) 7 = .ok (.ireturn, 1) := by decide +kernel
/-- RX4.fault -/
def t69_0 : List (Nat × pO) := [(0, o_aload 0 1), (1, o_getR 4 6 4), (4, o_invV 1 16 0 7), (7, o_iret)]
theorem ok69_0 : ∀ q ∈ t69_0, p_Z 69 q := List.forall_mem_cons.mpr ⟨⟨s_aload_n d69_0 rfl, tl_aload _ _⟩, List.forall_mem_cons.mpr ⟨⟨f_getR_4_6 d69_1 wd_218, tl_getR _ _ _⟩, List.forall_mem_cons.mpr ⟨⟨q_invV_16 d69_4 wd_551, tl_invV _ _ _ _⟩, List.forall_mem_cons.mpr ⟨⟨s_iret d69_7 rfl, tl_iret⟩, fun _ h => absurd h List.not_mem_nil⟩⟩⟩⟩
def t69 : List (Nat × pO) := t69_0
theorem ok69 : ∀ q ∈ t69, p_Z 69 q := ok69_0
theorem d70_0 : decode (pB 70) 0 = .ok (.aload_n 0, 1) := by decide +kernel
theorem d70_1 : decode (pB 70) 1 = .ok (.getfield 40, 3) := by decide +kernel
theorem d70_4 : decode (pB 70) 4 = .ok (.invokevirtual 206, 3) := by decide +kernel
theorem d70_7 : decode (pB 70) 7 = .ok (.bipush (-6), 2) := by decide +kernel
theorem d70_9 : decode (pB 70) 9 = .ok (.if_icmp .eq 6, 3) := by decide +kernel
theorem d70_12 : decode (pB 70) 12 = .ok (.bipush (-3), 2) := by decide +kernel
theorem d70_14 : decode (pB 70) 14 = .ok (.ireturn, 1) := by decide +kernel
theorem d70_15 : decode (pB 70) 15 = .ok (.aload_n 0, 1) := by decide +kernel
theorem d70_16 : decode (pB 70) 16 = .ok (.invokevirtual 58, 3) := by decide +kernel
theorem d70_19 : decode (pB 70) 19 = .ok (.iconst 0, 1) := by decide +kernel
theorem d70_20 : decode (pB 70) 20 = .ok (.istore_n 1, 1) := by decide +kernel
theorem d70_21 : decode (pB 70) 21 = .ok (.aload_n 0, 1) := by decide +kernel
theorem d70_22 : decode (pB 70) 22 = .ok (.getfield 40, 3) := by decide +kernel
theorem d70_25 : decode (pB 70) 25 = .ok (.invokevirtual 209, 3) := by decide +kernel
theorem d70_28 : decode (pB 70) 28 = .ok (.iload_n 1, 1) := by decide +kernel
theorem d70_29 : decode (pB 70) 29 = .ok (.bipush 80, 2) := by decide +kernel
theorem d70_31 : decode (pB 70) 31 = .ok (.if_icmp .ge 39, 3) := by decide +kernel
theorem d70_34 : decode (pB 70) 34 = .ok (.aload_n 0, 1) := by decide +kernel
theorem d70_35 : decode (pB 70) 35 = .ok (.getfield 40, 3) := by decide +kernel
theorem d70_38 : decode (pB 70) 38 = .ok (.invokevirtual 212, 3) := by decide +kernel
theorem d70_41 : decode (pB 70) 41 = .ok (.ifCond .eq 29, 3) := by decide +kernel
theorem d70_44 : decode (pB 70) 44 = .ok (.aload_n 0, 1) := by decide +kernel
theorem d70_45 : decode (pB 70) 45 = .ok (.invokevirtual 216, 3) := by decide +kernel
theorem d70_48 : decode (pB 70) 48 = .ok (.invokestatic 219, 3) := by decide +kernel
theorem d70_51 : decode (pB 70) 51 = .ok (.ifCond .ne 19, 3) := by decide +kernel
theorem d70_54 : decode (pB 70) 54 = .ok (.iinc 1 1, 3) := by decide +kernel
theorem d70_57 : decode (pB 70) 57 = .ok (.aload_n 0, 1) := by decide +kernel
theorem d70_58 : decode (pB 70) 58 = .ok (.getfield 40, 3) := by decide +kernel
theorem d70_61 : decode (pB 70) 61 = .ok (.bipush 59, 2) := by decide +kernel
theorem d70_63 : decode (pB 70) 63 = .ok (.invokevirtual 222, 3) := by decide +kernel
theorem d70_66 : decode (pB 70) 66 = .ok (.pop, 1) := by decide +kernel
theorem d70_67 : decode (pB 70) 67 = .ok (.goto (-39), 3) := by decide +kernel
theorem d70_70 : decode (pB 70) 70 = .ok (.aload_n 0, 1) := by decide +kernel
theorem d70_71 : decode (pB 70) 71 = .ok (.getfield 48, 3) := by decide +kernel
theorem d70_74 : decode (pB 70) 74 = .ok (.invokevirtual 99, 3) := by decide +kernel
theorem d70_77 : decode (pB 70) 77 = .ok (.aload_n 0, 1) := by decide +kernel
theorem d70_78 : decode (pB 70) 78 = .ok (.iload_n 1, 1) := by decide +kernel
theorem d70_79 : decode (pB 70) 79 = .ok (.invokevirtual 65, 3) := by decide +kernel
theorem d70_82 : decode (pB 70) 82 = .ok (.ireturn, 1) := by decide +kernel
theorem st1_70_1 : p_st1 70 1 = true := by decide +kernel
/-- RX4.carryOut -/
def t70_0 : List (Nat × pO) := [(0, o_aload 0 1), (1, o_getR 4 6 4), (4, o_invV 1 16 0 7), (7, o_push (.int (nM 6)) 9), (9, o_iceq 15 12), (12, o_push (.int (nM 3)) 14), (14, o_iret), (15, o_aload 0 16), (16, o_invV 4 92 0 19), (19, o_push (.int (nI 0)) 20), (20, o_istore 1 21), (21, o_aload 0 22), (22, o_getR 4 6 25), (25, o_invV 1 15 0 28), (28, o_iload 1 29), (29, o_push (.int (nI 80)) 31), (31, o_icge 70 34), (34, o_aload 0 35), (35, o_getR 4 6 38), (38, o_invV 1 17 0 41), (41, o_ifeq 70 44), (44, o_aload 0 45), (45, o_invV 4 90 0 48), (48, o_invS 91 1 51), (51, o_ifne 70 54), (54, o_iinc 1 (nI 1) 57), (57, o_aload 0 58), (58, o_getR 4 6 61), (61, o_push (.int (nI 59)) 63), (63, o_invV 1 18 1 66), (66, o_popi 67), (67, o_goto 28), (70, o_aload 0 71), (71, o_getR 4 7 74), (74, o_invV 2 25 0 77), (77, o_aload 0 78), (78, o_iload 1 79), (79, o_invV 4 93 1 82), (82, o_iret)]
theorem ok70_0 : ∀ q ∈ t70_0, p_Z 70 q := List.forall_mem_cons.mpr ⟨⟨s_aload_n d70_0 rfl, tl_aload _ _⟩, List.forall_mem_cons.mpr ⟨⟨f_getR_4_6 d70_1 wd_218, tl_getR _ _ _⟩, List.forall_mem_cons.mpr ⟨⟨q_invV_16 d70_4 wd_551, tl_invV _ _ _ _⟩, List.forall_mem_cons.mpr ⟨⟨s_bipush d70_7 rfl, tl_push _ _⟩, List.forall_mem_cons.mpr ⟨⟨s_iceq d70_9 rfl, tl_iceq _ _⟩, List.forall_mem_cons.mpr ⟨⟨s_bipush d70_12 rfl, tl_push _ _⟩, List.forall_mem_cons.mpr ⟨⟨s_iret d70_14 rfl, tl_iret⟩, List.forall_mem_cons.mpr ⟨⟨s_aload_n d70_15 rfl, tl_aload _ _⟩, List.forall_mem_cons.mpr ⟨⟨q_invV_92 d70_16 wd_241, tl_invV _ _ _ _⟩, List.forall_mem_cons.mpr ⟨⟨s_iconst d70_19 rfl, tl_push _ _⟩, List.forall_mem_cons.mpr ⟨⟨s_istore_n d70_20 rfl st1_70_1, tl_istore _ _⟩, List.forall_mem_cons.mpr ⟨⟨s_aload_n d70_21 rfl, tl_aload _ _⟩, List.forall_mem_cons.mpr ⟨⟨f_getR_4_6 d70_22 wd_218, tl_getR _ _ _⟩, List.forall_mem_cons.mpr ⟨⟨q_invV_15 d70_25 wd_591, tl_invV _ _ _ _⟩, List.forall_mem_cons.mpr ⟨⟨s_iload_n d70_28 rfl, tl_iload _ _⟩, List.forall_mem_cons.mpr ⟨⟨s_bipush d70_29 rfl, tl_push _ _⟩, List.forall_mem_cons.mpr ⟨⟨s_icge d70_31 rfl, tl_icge _ _⟩, List.forall_mem_cons.mpr ⟨⟨s_aload_n d70_34 rfl, tl_aload _ _⟩, List.forall_mem_cons.mpr ⟨⟨f_getR_4_6 d70_35 wd_218, tl_getR _ _ _⟩, List.forall_mem_cons.mpr ⟨⟨q_invV_17 d70_38 wd_592, tl_invV _ _ _ _⟩, List.forall_mem_cons.mpr ⟨⟨s_ifeq d70_41 rfl, tl_ifeq _ _⟩, List.forall_mem_cons.mpr ⟨⟨s_aload_n d70_44 rfl, tl_aload _ _⟩, List.forall_mem_cons.mpr ⟨⟨q_invV_90 d70_45 wd_593, tl_invV _ _ _ _⟩, List.forall_mem_cons.mpr ⟨⟨q_invS_91 d70_48 wd_287, tl_invS _ _ _⟩, List.forall_mem_cons.mpr ⟨⟨s_ifne d70_51 rfl, tl_ifne _ _⟩, List.forall_mem_cons.mpr ⟨⟨s_iinc d70_54 rfl st1_70_1, tl_iinc _ _ _⟩, List.forall_mem_cons.mpr ⟨⟨s_aload_n d70_57 rfl, tl_aload _ _⟩, List.forall_mem_cons.mpr ⟨⟨f_getR_4_6 d70_58 wd_218, tl_getR _ _ _⟩, List.forall_mem_cons.mpr ⟨⟨s_bipush d70_61 rfl, tl_push _ _⟩, List.forall_mem_cons.mpr ⟨⟨q_invV_18 d70_63 wd_597, tl_invV _ _ _ _⟩, List.forall_mem_cons.mpr ⟨⟨s_popi d70_66, tl_popi _⟩, List.forall_mem_cons.mpr ⟨⟨s_goto d70_67 rfl, tl_goto _⟩, List.forall_mem_cons.mpr ⟨⟨s_aload_n d70_70 rfl, tl_aload _ _⟩, List.forall_mem_cons.mpr ⟨⟨f_getR_4_7 d70_71 wd_219, tl_getR _ _ _⟩, List.forall_mem_cons.mpr ⟨⟨q_invV_25 d70_74 wd_442, tl_invV _ _ _ _⟩, List.forall_mem_cons.mpr ⟨⟨s_aload_n d70_77 rfl, tl_aload _ _⟩, List.forall_mem_cons.mpr ⟨⟨s_iload_n d70_78 rfl, tl_iload _ _⟩, List.forall_mem_cons.mpr ⟨⟨q_invV_93 d70_79 wd_283, tl_invV _ _ _ _⟩, List.forall_mem_cons.mpr ⟨⟨s_iret d70_82 rfl, tl_iret⟩, fun _ h => absurd h List.not_mem_nil⟩⟩⟩⟩⟩⟩⟩⟩⟩⟩⟩⟩⟩⟩⟩⟩⟩⟩⟩⟩⟩⟩⟩⟩⟩⟩⟩⟩⟩⟩⟩⟩⟩⟩⟩⟩⟩⟩⟩
def t70 : List (Nat × pO) := t70_0
theorem ok70 : ∀ q ∈ t70, p_Z 70 q := ok70_0
theorem d71_0 : decode (pB 71) 0 = .ok (.aload_n 0, 1) := by decide +kernel
theorem d71_1 : decode (pB 71) 1 = .ok (.getfield 20, 3) := by decide +kernel
theorem d71_4 : decode (pB 71) 4 = .ok (.ifCond .ne 6, 3) := by decide +kernel
theorem d71_7 : decode (pB 71) 7 = .ok (.bipush (-5), 2) := by decide +kernel
theorem d71_9 : decode (pB 71) 9 = .ok (.ireturn, 1) := by decide +kernel
theorem d71_10 : decode (pB 71) 10 = .ok (.aload_n 0, 1) := by decide +kernel
theorem d71_11 : decode (pB 71) 11 = .ok (.dup, 1) := by decide +kernel
theorem d71_12 : decode (pB 71) 12 = .ok (.getfield 20, 3) := by decide +kernel
theorem d71_15 : decode (pB 71) 15 = .ok (.iconst 1, 1) := by decide +kernel
theorem d71_16 : decode (pB 71) 16 = .ok (.isub, 1) := by decide +kernel
theorem d71_17 : decode (pB 71) 17 = .ok (.putfield 20, 3) := by decide +kernel
theorem d71_20 : decode (pB 71) 20 = .ok (.aload_n 0, 1) := by decide +kernel
theorem d71_21 : decode (pB 71) 21 = .ok (.getfield 10, 3) := by decide +kernel
theorem d71_24 : decode (pB 71) 24 = .ok (.aload_n 0, 1) := by decide +kernel
theorem d71_25 : decode (pB 71) 25 = .ok (.getfield 16, 3) := by decide +kernel
theorem d71_28 : decode (pB 71) 28 = .ok (.aload_n 0, 1) := by decide +kernel
theorem d71_29 : decode (pB 71) 29 = .ok (.getfield 20, 3) := by decide +kernel
theorem d71_32 : decode (pB 71) 32 = .ok (.aaload, 1) := by decide +kernel
theorem d71_33 : decode (pB 71) 33 = .ok (.invokevirtual 225, 3) := by decide +kernel
theorem d71_36 : decode (pB 71) 36 = .ok (.aload_n 0, 1) := by decide +kernel
theorem d71_37 : decode (pB 71) 37 = .ok (.invokevirtual 229, 3) := by decide +kernel
theorem d71_40 : decode (pB 71) 40 = .ok (.aload_n 0, 1) := by decide +kernel
theorem d71_41 : decode (pB 71) 41 = .ok (.getfield 20, 3) := by decide +kernel
theorem d71_44 : decode (pB 71) 44 = .ok (.ireturn, 1) := by decide +kernel
/-- RX4.undo -/
def t71_0 : List (Nat × pO) := [(0, o_aload 0 1), (1, o_getI 4 2 4), (4, o_ifne 10 7), (7, o_push (.int (nM 5)) 9), (9, o_iret), (10, o_aload 0 11), (11, o_dupr 12), (12, o_getI 4 2 15), (15, o_push (.int (nI 1)) 16), (16, o_isub 17), (17, o_putI 4 2 20), (20, o_aload 0 21), (21, o_getR 4 0 24), (24, o_aload 0 25), (25, o_getR 4 1 28), (28, o_aload 0 29), (29, o_getI 4 2 32), (32, o_aald 33), (33, o_invV 3 29 1 36), (36, o_aload 0 37), (37, o_invV 4 86 0 40), (40, o_aload 0 41), (41, o_getI 4 2 44), (44, o_iret)]
theorem ok71_0 : ∀ q ∈ t71_0, p_Z 71 q := List.forall_mem_cons.mpr ⟨⟨s_aload_n d71_0 rfl, tl_aload _ _⟩, List.forall_mem_cons.mpr ⟨⟨f_getI_4_2 d71_1 wd_214, tl_getI _ _ _⟩, List.forall_mem_cons.mpr ⟨⟨s_ifne d71_4 rfl, tl_ifne _ _⟩, List.forall_mem_cons.mpr ⟨⟨s_bipush d71_7 rfl, tl_push _ _⟩, List.forall_mem_cons.mpr ⟨⟨s_iret d71_9 rfl, tl_iret⟩, List.forall_mem_cons.mpr ⟨⟨s_aload_n d71_10 rfl, tl_aload _ _⟩, List.forall_mem_cons.mpr ⟨⟨s_dupr d71_11, tl_dupr _⟩, List.forall_mem_cons.mpr ⟨⟨f_getI_4_2 d71_12 wd_214, tl_getI _ _ _⟩, List.forall_mem_cons.mpr ⟨⟨s_iconst d71_15 rfl, tl_push _ _⟩, List.forall_mem_cons.mpr ⟨⟨s_isub d71_16, tl_isub _⟩, List.forall_mem_cons.mpr ⟨⟨f_putI_4_2 d71_17 wd_214, tl_putI _ _ _⟩, List.forall_mem_cons.mpr ⟨⟨s_aload_n d71_20 rfl, tl_aload _ _⟩, List.forall_mem_cons.mpr ⟨⟨f_getR_4_0 d71_21 wd_212, tl_getR _ _ _⟩, List.forall_mem_cons.mpr ⟨⟨s_aload_n d71_24 rfl, tl_aload _ _⟩, List.forall_mem_cons.mpr ⟨⟨f_getR_4_1 d71_25 wd_213, tl_getR _ _ _⟩, List.forall_mem_cons.mpr ⟨⟨s_aload_n d71_28 rfl, tl_aload _ _⟩, List.forall_mem_cons.mpr ⟨⟨f_getI_4_2 d71_29 wd_214, tl_getI _ _ _⟩, List.forall_mem_cons.mpr ⟨⟨s_aald d71_32, tl_aald _⟩, List.forall_mem_cons.mpr ⟨⟨q_invV_29 d71_33 wd_245, tl_invV _ _ _ _⟩, List.forall_mem_cons.mpr ⟨⟨s_aload_n d71_36 rfl, tl_aload _ _⟩, List.forall_mem_cons.mpr ⟨⟨q_invV_86 d71_37 wd_264, tl_invV _ _ _ _⟩, List.forall_mem_cons.mpr ⟨⟨s_aload_n d71_40 rfl, tl_aload _ _⟩, List.forall_mem_cons.mpr ⟨⟨f_getI_4_2 d71_41 wd_214, tl_getI _ _ _⟩, List.forall_mem_cons.mpr ⟨⟨s_iret d71_44 rfl, tl_iret⟩, fun _ h => absurd h List.not_mem_nil⟩⟩⟩⟩⟩⟩⟩⟩⟩⟩⟩⟩⟩⟩⟩⟩⟩⟩⟩⟩⟩⟩⟩⟩
def t71 : List (Nat × pO) := t71_0
theorem ok71 : ∀ q ∈ t71, p_Z 71 q := ok71_0
theorem d72_0 : decode (pB 72) 0 = .ok (.iload_n 1, 1) := by decide +kernel
theorem d72_1 : decode (pB 72) 1 = .ok (.ifCond .lt 8, 3) := by decide +kernel
theorem d72_4 : decode (pB 72) 4 = .ok (.iload_n 1, 1) := by decide +kernel
theorem d72_5 : decode (pB 72) 5 = .ok (.iconst 2, 1) := by decide +kernel
theorem d72_6 : decode (pB 72) 6 = .ok (.if_icmp .lt 6, 3) := by decide +kernel
theorem d72_9 : decode (pB 72) 9 = .ok (.bipush (-2), 2) := by decide +kernel
theorem d72_11 : decode (pB 72) 11 = .ok (.ireturn, 1) := by decide +kernel
theorem d72_12 : decode (pB 72) 12 = .ok (.aload_n 0, 1) := by decide +kernel
theorem d72_13 : decode (pB 72) 13 = .ok (.getfield 24, 3) := by decide +kernel
theorem d72_16 : decode (pB 72) 16 = .ok (.iload_n 1, 1) := by decide +kernel
theorem d72_17 : decode (pB 72) 17 = .ok (.aaload, 1) := by decide +kernel
theorem d72_18 : decode (pB 72) 18 = .ok (.aload_n 0, 1) := by decide +kernel
theorem d72_19 : decode (pB 72) 19 = .ok (.getfield 10, 3) := by decide +kernel
theorem d72_22 : decode (pB 72) 22 = .ok (.invokevirtual 225, 3) := by decide +kernel
theorem d72_25 : decode (pB 72) 25 = .ok (.aload_n 0, 1) := by decide +kernel
theorem d72_26 : decode (pB 72) 26 = .ok (.getfield 27, 3) := by decide +kernel
theorem d72_29 : decode (pB 72) 29 = .ok (.iload_n 1, 1) := by decide +kernel
theorem d72_30 : decode (pB 72) 30 = .ok (.iconst 1, 1) := by decide +kernel
theorem d72_31 : decode (pB 72) 31 = .ok (.bastore, 1) := by decide +kernel
theorem d72_32 : decode (pB 72) 32 = .ok (.aload_n 0, 1) := by decide +kernel
theorem d72_33 : decode (pB 72) 33 = .ok (.getfield 10, 3) := by decide +kernel
theorem d72_36 : decode (pB 72) 36 = .ok (.getfield 166, 3) := by decide +kernel
theorem d72_39 : decode (pB 72) 39 = .ok (.ireturn, 1) := by decide +kernel
/-- RX4.save -/
def t72_0 : List (Nat × pO) := [(0, o_iload 1 1), (1, o_iflt 9 4), (4, o_iload 1 5), (5, o_push (.int (nI 2)) 6), (6, o_iclt 12 9), (9, o_push (.int (nM 2)) 11), (11, o_iret), (12, o_aload 0 13), (13, o_getR 4 3 16), (16, o_iload 1 17), (17, o_aald 18), (18, o_aload 0 19), (19, o_getR 4 0 22), (22, o_invV 3 29 1 25), (25, o_aload 0 26), (26, o_getR 4 4 29), (29, o_iload 1 30), (30, o_push (.int (nI 1)) 31), (31, o_zast 32), (32, o_aload 0 33), (33, o_getR 4 0 36), (36, o_getI 3 5 39), (39, o_iret)]
theorem ok72_0 : ∀ q ∈ t72_0, p_Z 72 q := List.forall_mem_cons.mpr ⟨⟨s_iload_n d72_0 rfl, tl_iload _ _⟩, List.forall_mem_cons.mpr ⟨⟨s_iflt d72_1 rfl, tl_iflt _ _⟩, List.forall_mem_cons.mpr ⟨⟨s_iload_n d72_4 rfl, tl_iload _ _⟩, List.forall_mem_cons.mpr ⟨⟨s_iconst d72_5 rfl, tl_push _ _⟩, List.forall_mem_cons.mpr ⟨⟨s_iclt d72_6 rfl, tl_iclt _ _⟩, List.forall_mem_cons.mpr ⟨⟨s_bipush d72_9 rfl, tl_push _ _⟩, List.forall_mem_cons.mpr ⟨⟨s_iret d72_11 rfl, tl_iret⟩, List.forall_mem_cons.mpr ⟨⟨s_aload_n d72_12 rfl, tl_aload _ _⟩, List.forall_mem_cons.mpr ⟨⟨f_getR_4_3 d72_13 wd_215, tl_getR _ _ _⟩, List.forall_mem_cons.mpr ⟨⟨s_iload_n d72_16 rfl, tl_iload _ _⟩, List.forall_mem_cons.mpr ⟨⟨s_aald d72_17, tl_aald _⟩, List.forall_mem_cons.mpr ⟨⟨s_aload_n d72_18 rfl, tl_aload _ _⟩, List.forall_mem_cons.mpr ⟨⟨f_getR_4_0 d72_19 wd_212, tl_getR _ _ _⟩, List.forall_mem_cons.mpr ⟨⟨q_invV_29 d72_22 wd_245, tl_invV _ _ _ _⟩, List.forall_mem_cons.mpr ⟨⟨s_aload_n d72_25 rfl, tl_aload _ _⟩, List.forall_mem_cons.mpr ⟨⟨f_getR_4_4 d72_26 wd_216, tl_getR _ _ _⟩, List.forall_mem_cons.mpr ⟨⟨s_iload_n d72_29 rfl, tl_iload _ _⟩, List.forall_mem_cons.mpr ⟨⟨s_iconst d72_30 rfl, tl_push _ _⟩, List.forall_mem_cons.mpr ⟨⟨s_zast d72_31, tl_zast _⟩, List.forall_mem_cons.mpr ⟨⟨s_aload_n d72_32 rfl, tl_aload _ _⟩, List.forall_mem_cons.mpr ⟨⟨f_getR_4_0 d72_33 wd_212, tl_getR _ _ _⟩, List.forall_mem_cons.mpr ⟨⟨f_getI_3_5 d72_36 wd_96, tl_getI _ _ _⟩, List.forall_mem_cons.mpr ⟨⟨s_iret d72_39 rfl, tl_iret⟩, fun _ h => absurd h List.not_mem_nil⟩⟩⟩⟩⟩⟩⟩⟩⟩⟩⟩⟩⟩⟩⟩⟩⟩⟩⟩⟩⟩⟩⟩
def t72 : List (Nat × pO) := t72_0
theorem ok72 : ∀ q ∈ t72, p_Z 72 q := ok72_0
theorem d73_0 : decode (pB 73) 0 = .ok (.iload_n 1, 1) := by decide +kernel
theorem d73_1 : decode (pB 73) 1 = .ok (.ifCond .lt 8, 3) := by decide +kernel
theorem d73_4 : decode (pB 73) 4 = .ok (.iload_n 1, 1) := by decide +kernel
theorem d73_5 : decode (pB 73) 5 = .ok (.iconst 2, 1) := by decide +kernel
theorem d73_6 : decode (pB 73) 6 = .ok (.if_icmp .lt 6, 3) := by decide +kernel
theorem d73_9 : decode (pB 73) 9 = .ok (.bipush (-2), 2) := by decide +kernel
theorem d73_11 : decode (pB 73) 11 = .ok (.ireturn, 1) := by decide +kernel
theorem d73_12 : decode (pB 73) 12 = .ok (.aload_n 0, 1) := by decide +kernel
theorem d73_13 : decode (pB 73) 13 = .ok (.getfield 27, 3) := by decide +kernel
theorem d73_16 : decode (pB 73) 16 = .ok (.iload_n 1, 1) := by decide +kernel
theorem d73_17 : decode (pB 73) 17 = .ok (.baload, 1) := by decide +kernel
theorem d73_18 : decode (pB 73) 18 = .ok (.ifCond .ne 6, 3) := by decide +kernel
theorem d73_21 : decode (pB 73) 21 = .ok (.bipush (-5), 2) := by decide +kernel
theorem d73_23 : decode (pB 73) 23 = .ok (.ireturn, 1) := by decide +kernel
theorem d73_24 : decode (pB 73) 24 = .ok (.aload_n 0, 1) := by decide +kernel
theorem d73_25 : decode (pB 73) 25 = .ok (.invokevirtual 58, 3) := by decide +kernel
theorem d73_28 : decode (pB 73) 28 = .ok (.aload_n 0, 1) := by decide +kernel
theorem d73_29 : decode (pB 73) 29 = .ok (.getfield 10, 3) := by decide +kernel
theorem d73_32 : decode (pB 73) 32 = .ok (.aload_n 0, 1) := by decide +kernel
theorem d73_33 : decode (pB 73) 33 = .ok (.getfield 24, 3) := by decide +kernel
theorem d73_36 : decode (pB 73) 36 = .ok (.iload_n 1, 1) := by decide +kernel
theorem d73_37 : decode (pB 73) 37 = .ok (.aaload, 1) := by decide +kernel
theorem d73_38 : decode (pB 73) 38 = .ok (.invokevirtual 225, 3) := by decide +kernel
theorem d73_41 : decode (pB 73) 41 = .ok (.aload_n 0, 1) := by decide +kernel
theorem d73_42 : decode (pB 73) 42 = .ok (.invokevirtual 229, 3) := by decide +kernel
theorem d73_45 : decode (pB 73) 45 = .ok (.aload_n 0, 1) := by decide +kernel
theorem d73_46 : decode (pB 73) 46 = .ok (.aload_n 0, 1) := by decide +kernel
theorem d73_47 : decode (pB 73) 47 = .ok (.getfield 10, 3) := by decide +kernel
theorem d73_50 : decode (pB 73) 50 = .ok (.getfield 166, 3) := by decide +kernel
theorem d73_53 : decode (pB 73) 53 = .ok (.invokevirtual 65, 3) := by decide +kernel
theorem d73_56 : decode (pB 73) 56 = .ok (.ireturn, 1) := by decide +kernel
/-- RX4.restore -/
def t73_0 : List (Nat × pO) := [(0, o_iload 1 1), (1, o_iflt 9 4), (4, o_iload 1 5), (5, o_push (.int (nI 2)) 6), (6, o_iclt 12 9), (9, o_push (.int (nM 2)) 11), (11, o_iret), (12, o_aload 0 13), (13, o_getR 4 4 16), (16, o_iload 1 17), (17, o_zald 18), (18, o_ifne 24 21), (21, o_push (.int (nM 5)) 23), (23, o_iret), (24, o_aload 0 25), (25, o_invV 4 92 0 28), (28, o_aload 0 29), (29, o_getR 4 0 32), (32, o_aload 0 33), (33, o_getR 4 3 36), (36, o_iload 1 37), (37, o_aald 38), (38, o_invV 3 29 1 41), (41, o_aload 0 42), (42, o_invV 4 86 0 45), (45, o_aload 0 46), (46, o_aload 0 47), (47, o_getR 4 0 50), (50, o_getI 3 5 53), (53, o_invV 4 93 1 56), (56, o_iret)]
theorem ok73_0 : ∀ q ∈ t73_0, p_Z 73 q := List.forall_mem_cons.mpr ⟨⟨s_iload_n d73_0 rfl, tl_iload _ _⟩, List.forall_mem_cons.mpr ⟨⟨s_iflt d73_1 rfl, tl_iflt _ _⟩, List.forall_mem_cons.mpr ⟨⟨s_iload_n d73_4 rfl, tl_iload _ _⟩, List.forall_mem_cons.mpr ⟨⟨s_iconst d73_5 rfl, tl_push _ _⟩, List.forall_mem_cons.mpr ⟨⟨s_iclt d73_6 rfl, tl_iclt _ _⟩, List.forall_mem_cons.mpr ⟨⟨s_bipush d73_9 rfl, tl_push _ _⟩, List.forall_mem_cons.mpr ⟨⟨s_iret d73_11 rfl, tl_iret⟩, List.forall_mem_cons.mpr ⟨⟨s_aload_n d73_12 rfl, tl_aload _ _⟩, List.forall_mem_cons.mpr ⟨⟨f_getR_4_4 d73_13 wd_216, tl_getR _ _ _⟩, List.forall_mem_cons.mpr ⟨⟨s_iload_n d73_16 rfl, tl_iload _ _⟩, List.forall_mem_cons.mpr ⟨⟨s_zald d73_17, tl_zald _⟩, List.forall_mem_cons.mpr ⟨⟨s_ifne d73_18 rfl, tl_ifne _ _⟩, List.forall_mem_cons.mpr ⟨⟨s_bipush d73_21 rfl, tl_push _ _⟩, List.forall_mem_cons.mpr ⟨⟨s_iret d73_23 rfl, tl_iret⟩, List.forall_mem_cons.mpr ⟨⟨s_aload_n d73_24 rfl, tl_aload _ _⟩, List.forall_mem_cons.mpr ⟨⟨q_invV_92 d73_25 wd_241, tl_invV _ _ _ _⟩, List.forall_mem_cons.mpr ⟨⟨s_aload_n d73_28 rfl, tl_aload _ _⟩, List.forall_mem_cons.mpr ⟨⟨f_getR_4_0 d73_29 wd_212, tl_getR _ _ _⟩, List.forall_mem_cons.mpr ⟨⟨s_aload_n d73_32 rfl, tl_aload _ _⟩, List.forall_mem_cons.mpr ⟨⟨f_getR_4_3 d73_33 wd_215, tl_getR _ _ _⟩, List.forall_mem_cons.mpr ⟨⟨s_iload_n d73_36 rfl, tl_iload _ _⟩, List.forall_mem_cons.mpr ⟨⟨s_aald d73_37, tl_aald _⟩, List.forall_mem_cons.mpr ⟨⟨q_invV_29 d73_38 wd_245, tl_invV _ _ _ _⟩, List.forall_mem_cons.mpr ⟨⟨s_aload_n d73_41 rfl, tl_aload _ _⟩, List.forall_mem_cons.mpr ⟨⟨q_invV_86 d73_42 wd_264, tl_invV _ _ _ _⟩, List.forall_mem_cons.mpr ⟨⟨s_aload_n d73_45 rfl, tl_aload _ _⟩, List.forall_mem_cons.mpr ⟨⟨s_aload_n d73_46 rfl, tl_aload _ _⟩, List.forall_mem_cons.mpr ⟨⟨f_getR_4_0 d73_47 wd_212, tl_getR _ _ _⟩, List.forall_mem_cons.mpr ⟨⟨f_getI_3_5 d73_50 wd_96, tl_getI _ _ _⟩, List.forall_mem_cons.mpr ⟨⟨q_invV_93 d73_53 wd_283, tl_invV _ _ _ _⟩, List.forall_mem_cons.mpr ⟨⟨s_iret d73_56 rfl, tl_iret⟩, fun _ h => absurd h List.not_mem_nil⟩⟩⟩⟩⟩⟩⟩⟩⟩⟩⟩⟩⟩⟩⟩⟩⟩⟩⟩⟩⟩⟩⟩⟩⟩⟩⟩⟩⟩⟩⟩
def t73 : List (Nat × pO) := t73_0
theorem ok73 : ∀ q ∈ t73, p_Z 73 q := ok73_0
theorem d74_0 : decode (pB 74) 0 = .ok (.iload_n 1, 1) := by decide +kernel
theorem d74_1 : decode (pB 74) 1 = .ok (.ifCond .lt 11, 3) := by decide +kernel
theorem d74_4 : decode (pB 74) 4 = .ok (.iload_n 1, 1) := by decide +kernel
theorem d74_5 : decode (pB 74) 5 = .ok (.getstatic 232, 3) := by decide +kernel
theorem d74_8 : decode (pB 74) 8 = .ok (.arraylength, 1) := by decide +kernel
theorem d74_9 : decode (pB 74) 9 = .ok (.if_icmp .lt 6, 3) := by decide +kernel
theorem d74_12 : decode (pB 74) 12 = .ok (.bipush (-2), 2) := by decide +kernel
theorem d74_14 : decode (pB 74) 14 = .ok (.ireturn, 1) := by decide +kernel
theorem d74_15 : decode (pB 74) 15 = .ok (.iload_n 2, 1) := by decide +kernel
theorem d74_16 : decode (pB 74) 16 = .ok (.getstatic 232, 3) := by decide +kernel
theorem d74_19 : decode (pB 74) 19 = .ok (.iload_n 1, 1) := by decide +kernel
theorem d74_20 : decode (pB 74) 20 = .ok (.iaload, 1) := by decide +kernel
theorem d74_21 : decode (pB 74) 21 = .ok (.if_icmp .lt 12, 3) := by decide +kernel
theorem d74_24 : decode (pB 74) 24 = .ok (.iload_n 2, 1) := by decide +kernel
theorem d74_25 : decode (pB 74) 25 = .ok (.getstatic 235, 3) := by decide +kernel
theorem d74_28 : decode (pB 74) 28 = .ok (.iload_n 1, 1) := by decide +kernel
theorem d74_29 : decode (pB 74) 29 = .ok (.iaload, 1) := by decide +kernel
theorem d74_30 : decode (pB 74) 30 = .ok (.if_icmp .le 6, 3) := by decide +kernel
theorem d74_33 : decode (pB 74) 33 = .ok (.bipush (-2), 2) := by decide +kernel
theorem d74_35 : decode (pB 74) 35 = .ok (.ireturn, 1) := by decide +kernel
theorem d74_36 : decode (pB 74) 36 = .ok (.iload_n 1, 1) := by decide +kernel
theorem d74_37 : decode (pB 74) 37 = .ok (.ifCond .ne 27, 3) := by decide +kernel
theorem d74_40 : decode (pB 74) 40 = .ok (.aload_n 0, 1) := by decide +kernel
theorem d74_41 : decode (pB 74) 41 = .ok (.getfield 10, 3) := by decide +kernel
theorem d74_44 : decode (pB 74) 44 = .ok (.getfield 172, 3) := by decide +kernel
theorem d74_47 : decode (pB 74) 47 = .ok (.ifCond .gt 14, 3) := by decide +kernel
theorem d74_50 : decode (pB 74) 50 = .ok (.aload_n 0, 1) := by decide +kernel
theorem d74_51 : decode (pB 74) 51 = .ok (.getfield 10, 3) := by decide +kernel
theorem d74_54 : decode (pB 74) 54 = .ok (.iload_n 2, 1) := by decide +kernel
theorem d74_55 : decode (pB 74) 55 = .ok (.invokevirtual 238, 3) := by decide +kernel
theorem d74_58 : decode (pB 74) 58 = .ok (.ifCond .eq 6, 3) := by decide +kernel
theorem d74_61 : decode (pB 74) 61 = .ok (.bipush (-5), 2) := by decide +kernel
theorem d74_63 : decode (pB 74) 63 = .ok (.ireturn, 1) := by decide +kernel
theorem d74_64 : decode (pB 74) 64 = .ok (.aload_n 0, 1) := by decide +kernel
theorem d74_65 : decode (pB 74) 65 = .ok (.getfield 10, 3) := by decide +kernel
theorem d74_68 : decode (pB 74) 68 = .ok (.getfield 185, 3) := by decide +kernel
theorem d74_71 : decode (pB 74) 71 = .ok (.iload_n 1, 1) := by decide +kernel
theorem d74_72 : decode (pB 74) 72 = .ok (.iaload, 1) := by decide +kernel
theorem d74_73 : decode (pB 74) 73 = .ok (.istore_n 3, 1) := by decide +kernel
theorem d74_74 : decode (pB 74) 74 = .ok (.aload_n 0, 1) := by decide +kernel
theorem d74_75 : decode (pB 74) 75 = .ok (.getfield 10, 3) := by decide +kernel
theorem d74_78 : decode (pB 74) 78 = .ok (.getfield 185, 3) := by decide +kernel
theorem d74_81 : decode (pB 74) 81 = .ok (.iload_n 1, 1) := by decide +kernel
theorem d74_82 : decode (pB 74) 82 = .ok (.iload_n 2, 1) := by decide +kernel
theorem d74_83 : decode (pB 74) 83 = .ok (.iastore, 1) := by decide +kernel
theorem d74_84 : decode (pB 74) 84 = .ok (.iload_n 1, 1) := by decide +kernel
theorem d74_85 : decode (pB 74) 85 = .ok (.ifCond .ne 7, 3) := by decide +kernel
theorem d74_88 : decode (pB 74) 88 = .ok (.aload_n 0, 1) := by decide +kernel
theorem d74_89 : decode (pB 74) 89 = .ok (.invokevirtual 229, 3) := by decide +kernel
theorem d74_92 : decode (pB 74) 92 = .ok (.iload_n 3, 1) := by decide +kernel
theorem d74_93 : decode (pB 74) 93 = .ok (.ireturn, 1) := by decide +kernel
theorem st1_74_3 : p_st1 74 3 = true := by decide +kernel
/-- RX4.changeSetting -/
def t74_0 : List (Nat × pO) := [(0, o_iload 1 1), (1, o_iflt 12 4), (4, o_iload 1 5), (5, o_gets 0 8), (8, o_alen 9), (9, o_iclt 15 12), (12, o_push (.int (nM 2)) 14), (14, o_iret), (15, o_iload 2 16), (16, o_gets 0 19), (19, o_iload 1 20), (20, o_iald 21), (21, o_iclt 33 24), (24, o_iload 2 25), (25, o_gets 1 28), (28, o_iload 1 29), (29, o_iald 30), (30, o_icle 36 33), (33, o_push (.int (nM 2)) 35), (35, o_iret), (36, o_iload 1 37), (37, o_ifne 64 40), (40, o_aload 0 41), (41, o_getR 4 0 44), (44, o_getI 3 6 47), (47, o_ifgt 61 50), (50, o_aload 0 51), (51, o_getR 4 0 54), (54, o_iload 2 55), (55, o_invV 3 34 1 58), (58, o_ifeq 64 61), (61, o_push (.int (nM 5)) 63), (63, o_iret), (64, o_aload 0 65), (65, o_getR 4 0 68), (68, o_getR 3 0 71), (71, o_iload 1 72), (72, o_iald 73), (73, o_istore 3 74), (74, o_aload 0 75)]
theorem ok74_0 : ∀ q ∈ t74_0, p_Z 74 q := List.forall_mem_cons.mpr ⟨⟨s_iload_n d74_0 rfl, tl_iload _ _⟩, List.forall_mem_cons.mpr ⟨⟨s_iflt d74_1 rfl, tl_iflt _ _⟩, List.forall_mem_cons.mpr ⟨⟨s_iload_n d74_4 rfl, tl_iload _ _⟩, List.forall_mem_cons.mpr ⟨⟨s_gets (n := "LOWEST") d74_5 (by decide +kernel) wd_256, tl_gets _ _⟩, List.forall_mem_cons.mpr ⟨⟨s_alen d74_8, tl_alen _⟩, List.forall_mem_cons.mpr ⟨⟨s_iclt d74_9 rfl, tl_iclt _ _⟩, List.forall_mem_cons.mpr ⟨⟨s_bipush d74_12 rfl, tl_push _ _⟩, List.forall_mem_cons.mpr ⟨⟨s_iret d74_14 rfl, tl_iret⟩, List.forall_mem_cons.mpr ⟨⟨s_iload_n d74_15 rfl, tl_iload _ _⟩, List.forall_mem_cons.mpr ⟨⟨s_gets (n := "LOWEST") d74_16 (by decide +kernel) wd_256, tl_gets _ _⟩, List.forall_mem_cons.mpr ⟨⟨s_iload_n d74_19 rfl, tl_iload _ _⟩, List.forall_mem_cons.mpr ⟨⟨s_iald d74_20, tl_iald _⟩, List.forall_mem_cons.mpr ⟨⟨s_iclt d74_21 rfl, tl_iclt _ _⟩, List.forall_mem_cons.mpr ⟨⟨s_iload_n d74_24 rfl, tl_iload _ _⟩, List.forall_mem_cons.mpr ⟨⟨s_gets (n := "HIGHEST") d74_25 (by decide +kernel) wd_258, tl_gets _ _⟩, List.forall_mem_cons.mpr ⟨⟨s_iload_n d74_28 rfl, tl_iload _ _⟩, List.forall_mem_cons.mpr ⟨⟨s_iald d74_29, tl_iald _⟩, List.forall_mem_cons.mpr ⟨⟨s_icle d74_30 rfl, tl_icle _ _⟩, List.forall_mem_cons.mpr ⟨⟨s_bipush d74_33 rfl, tl_push _ _⟩, List.forall_mem_cons.mpr ⟨⟨s_iret d74_35 rfl, tl_iret⟩, List.forall_mem_cons.mpr ⟨⟨s_iload_n d74_36 rfl, tl_iload _ _⟩, List.forall_mem_cons.mpr ⟨⟨s_ifne d74_37 rfl, tl_ifne _ _⟩, List.forall_mem_cons.mpr ⟨⟨s_aload_n d74_40 rfl, tl_aload _ _⟩, List.forall_mem_cons.mpr ⟨⟨f_getR_4_0 d74_41 wd_212, tl_getR _ _ _⟩, List.forall_mem_cons.mpr ⟨⟨f_getI_3_6 d74_44 wd_98, tl_getI _ _ _⟩, List.forall_mem_cons.mpr ⟨⟨s_ifgt d74_47 rfl, tl_ifgt _ _⟩, List.forall_mem_cons.mpr ⟨⟨s_aload_n d74_50 rfl, tl_aload _ _⟩, List.forall_mem_cons.mpr ⟨⟨f_getR_4_0 d74_51 wd_212, tl_getR _ _ _⟩, List.forall_mem_cons.mpr ⟨⟨s_iload_n d74_54 rfl, tl_iload _ _⟩, List.forall_mem_cons.mpr ⟨⟨q_invV_34 d74_55 wd_260, tl_invV _ _ _ _⟩, List.forall_mem_cons.mpr ⟨⟨s_ifeq d74_58 rfl, tl_ifeq _ _⟩, List.forall_mem_cons.mpr ⟨⟨s_bipush d74_61 rfl, tl_push _ _⟩, List.forall_mem_cons.mpr ⟨⟨s_iret d74_63 rfl, tl_iret⟩, List.forall_mem_cons.mpr ⟨⟨s_aload_n d74_64 rfl, tl_aload _ _⟩, List.forall_mem_cons.mpr ⟨⟨f_getR_4_0 d74_65 wd_212, tl_getR _ _ _⟩, List.forall_mem_cons.mpr ⟨⟨f_getR_3_0 d74_68 wd_86, tl_getR _ _ _⟩, List.forall_mem_cons.mpr ⟨⟨s_iload_n d74_71 rfl, tl_iload _ _⟩, List.forall_mem_cons.mpr ⟨⟨s_iald d74_72, tl_iald _⟩, List.forall_mem_cons.mpr ⟨⟨s_istore_n d74_73 rfl st1_74_3, tl_istore _ _⟩, List.forall_mem_cons.mpr ⟨⟨s_aload_n d74_74 rfl, tl_aload _ _⟩, fun _ h => absurd h List.not_mem_nil⟩⟩⟩⟩⟩⟩⟩⟩⟩⟩⟩⟩⟩⟩⟩⟩⟩⟩⟩⟩⟩⟩⟩⟩⟩⟩⟩⟩⟩⟩⟩⟩⟩⟩⟩⟩⟩⟩⟩⟩
/-- RX4.changeSetting -/
def t74_1 : List (Nat × pO) := [(75, o_getR 4 0 78), (78, o_getR 3 0 81), (81, o_iload 1 82), (82, o_iload 2 83), (83, o_iast 84), (84, o_iload 1 85), (85, o_ifne 92 88), (88, o_aload 0 89), (89, o_invV 4 86 0 92), (92, o_iload 3 93), (93, o_iret)]
theorem ok74_1 : ∀ q ∈ t74_1, p_Z 74 q := List.forall_mem_cons.mpr ⟨⟨f_getR_4_0 d74_75 wd_212, tl_getR _ _ _⟩, List.forall_mem_cons.mpr ⟨⟨f_getR_3_0 d74_78 wd_86, tl_getR _ _ _⟩, List.forall_mem_cons.mpr ⟨⟨s_iload_n d74_81 rfl, tl_iload _ _⟩, List.forall_mem_cons.mpr ⟨⟨s_iload_n d74_82 rfl, tl_iload _ _⟩, List.forall_mem_cons.mpr ⟨⟨s_iast d74_83, tl_iast _⟩, List.forall_mem_cons.mpr ⟨⟨s_iload_n d74_84 rfl, tl_iload _ _⟩, List.forall_mem_cons.mpr ⟨⟨s_ifne d74_85 rfl, tl_ifne _ _⟩, List.forall_mem_cons.mpr ⟨⟨s_aload_n d74_88 rfl, tl_aload _ _⟩, List.forall_mem_cons.mpr ⟨⟨q_invV_86 d74_89 wd_264, tl_invV _ _ _ _⟩, List.forall_mem_cons.mpr ⟨⟨s_iload_n d74_92 rfl, tl_iload _ _⟩, List.forall_mem_cons.mpr ⟨⟨s_iret d74_93 rfl, tl_iret⟩, fun _ h => absurd h List.not_mem_nil⟩⟩⟩⟩⟩⟩⟩⟩⟩⟩⟩
def t74 : List (Nat × pO) := t74_0 ++ (t74_1)
theorem ok74 : ∀ q ∈ t74, p_Z 74 q := List.forall_mem_append.mpr ⟨ok74_0, ok74_1⟩
theorem d75_0 : decode (pB 75) 0 = .ok (.aload_n 0, 1) := by decide +kernel
theorem d75_1 : decode (pB 75) 1 = .ok (.getfield 10, 3) := by decide +kernel
theorem d75_4 : decode (pB 75) 4 = .ok (.getfield 166, 3) := by decide +kernel
theorem d75_7 : decode (pB 75) 7 = .ok (.bipush 12, 2) := by decide +kernel
theorem d75_9 : decode (pB 75) 9 = .ok (.if_icmp .lt 6, 3) := by decide +kernel
theorem d75_12 : decode (pB 75) 12 = .ok (.bipush (-4), 2) := by decide +kernel
theorem d75_14 : decode (pB 75) 14 = .ok (.ireturn, 1) := by decide +kernel
theorem d75_15 : decode (pB 75) 15 = .ok (.aload_n 0, 1) := by decide +kernel
theorem d75_16 : decode (pB 75) 16 = .ok (.getfield 10, 3) := by decide +kernel
theorem d75_19 : decode (pB 75) 19 = .ok (.dup, 1) := by decide +kernel
theorem d75_20 : decode (pB 75) 20 = .ok (.getfield 166, 3) := by decide +kernel
theorem d75_23 : decode (pB 75) 23 = .ok (.iconst 1, 1) := by decide +kernel
theorem d75_24 : decode (pB 75) 24 = .ok (.iadd, 1) := by decide +kernel
theorem d75_25 : decode (pB 75) 25 = .ok (.putfield 166, 3) := by decide +kernel
theorem d75_28 : decode (pB 75) 28 = .ok (.aload_n 0, 1) := by decide +kernel
theorem d75_29 : decode (pB 75) 29 = .ok (.getfield 10, 3) := by decide +kernel
theorem d75_32 : decode (pB 75) 32 = .ok (.getfield 166, 3) := by decide +kernel
theorem d75_35 : decode (pB 75) 35 = .ok (.iconst 1, 1) := by decide +kernel
theorem d75_36 : decode (pB 75) 36 = .ok (.isub, 1) := by decide +kernel
theorem d75_37 : decode (pB 75) 37 = .ok (.ireturn, 1) := by decide +kernel
/-- RX4.comeIn -/
def t75_0 : List (Nat × pO) := [(0, o_aload 0 1), (1, o_getR 4 0 4), (4, o_getI 3 5 7), (7, o_push (.int (nI 12)) 9), (9, o_iclt 15 12), (12, o_push (.int (nM 4)) 14), (14, o_iret), (15, o_aload 0 16), (16, o_getR 4 0 19), (19, o_dupr 20), (20, o_getI 3 5 23), (23, o_push (.int (nI 1)) 24), (24, o_iadd 25), (25, o_putI 3 5 28), (28, o_aload 0 29), (29, o_getR 4 0 32), (32, o_getI 3 5 35), (35, o_push (.int (nI 1)) 36), (36, o_isub 37), (37, o_iret)]
theorem ok75_0 : ∀ q ∈ t75_0, p_Z 75 q := List.forall_mem_cons.mpr ⟨⟨s_aload_n d75_0 rfl, tl_aload _ _⟩, List.forall_mem_cons.mpr ⟨⟨f_getR_4_0 d75_1 wd_212, tl_getR _ _ _⟩, List.forall_mem_cons.mpr ⟨⟨f_getI_3_5 d75_4 wd_96, tl_getI _ _ _⟩, List.forall_mem_cons.mpr ⟨⟨s_bipush d75_7 rfl, tl_push _ _⟩, List.forall_mem_cons.mpr ⟨⟨s_iclt d75_9 rfl, tl_iclt _ _⟩, List.forall_mem_cons.mpr ⟨⟨s_bipush d75_12 rfl, tl_push _ _⟩, List.forall_mem_cons.mpr ⟨⟨s_iret d75_14 rfl, tl_iret⟩, List.forall_mem_cons.mpr ⟨⟨s_aload_n d75_15 rfl, tl_aload _ _⟩, List.forall_mem_cons.mpr ⟨⟨f_getR_4_0 d75_16 wd_212, tl_getR _ _ _⟩, List.forall_mem_cons.mpr ⟨⟨s_dupr d75_19, tl_dupr _⟩, List.forall_mem_cons.mpr ⟨⟨f_getI_3_5 d75_20 wd_96, tl_getI _ _ _⟩, List.forall_mem_cons.mpr ⟨⟨s_iconst d75_23 rfl, tl_push _ _⟩, List.forall_mem_cons.mpr ⟨⟨s_iadd d75_24, tl_iadd _⟩, List.forall_mem_cons.mpr ⟨⟨f_putI_3_5 d75_25 wd_96, tl_putI _ _ _⟩, List.forall_mem_cons.mpr ⟨⟨s_aload_n d75_28 rfl, tl_aload _ _⟩, List.forall_mem_cons.mpr ⟨⟨f_getR_4_0 d75_29 wd_212, tl_getR _ _ _⟩, List.forall_mem_cons.mpr ⟨⟨f_getI_3_5 d75_32 wd_96, tl_getI _ _ _⟩, List.forall_mem_cons.mpr ⟨⟨s_iconst d75_35 rfl, tl_push _ _⟩, List.forall_mem_cons.mpr ⟨⟨s_isub d75_36, tl_isub _⟩, List.forall_mem_cons.mpr ⟨⟨s_iret d75_37 rfl, tl_iret⟩, fun _ h => absurd h List.not_mem_nil⟩⟩⟩⟩⟩⟩⟩⟩⟩⟩⟩⟩⟩⟩⟩⟩⟩⟩⟩⟩
def t75 : List (Nat × pO) := t75_0
theorem ok75 : ∀ q ∈ t75, p_Z 75 q := ok75_0
theorem d76_0 : decode (pB 76) 0 = .ok (.aload_n 0, 1) := by decide +kernel
theorem d76_1 : decode (pB 76) 1 = .ok (.getfield 10, 3) := by decide +kernel
theorem d76_4 : decode (pB 76) 4 = .ok (.iload_n 1, 1) := by decide +kernel
theorem d76_5 : decode (pB 76) 5 = .ok (.invokevirtual 122, 3) := by decide +kernel
theorem d76_8 : decode (pB 76) 8 = .ok (.ifCond .eq 14, 3) := by decide +kernel
theorem d76_11 : decode (pB 76) 11 = .ok (.aload_n 0, 1) := by decide +kernel
theorem d76_12 : decode (pB 76) 12 = .ok (.getfield 10, 3) := by decide +kernel
theorem d76_15 : decode (pB 76) 15 = .ok (.iload_n 2, 1) := by decide +kernel
theorem d76_16 : decode (pB 76) 16 = .ok (.invokevirtual 148, 3) := by decide +kernel
theorem d76_19 : decode (pB 76) 19 = .ok (.ifCond .ne 5, 3) := by decide +kernel
theorem d76_22 : decode (pB 76) 22 = .ok (.iconst (-1), 1) := by decide +kernel
theorem d76_23 : decode (pB 76) 23 = .ok (.ireturn, 1) := by decide +kernel
theorem d76_24 : decode (pB 76) 24 = .ok (.aload_n 0, 1) := by decide +kernel
theorem d76_25 : decode (pB 76) 25 = .ok (.getfield 10, 3) := by decide +kernel
theorem d76_28 : decode (pB 76) 28 = .ok (.getfield 172, 3) := by decide +kernel
theorem d76_31 : decode (pB 76) 31 = .ok (.ifCond .gt 17, 3) := by decide +kernel
theorem d76_34 : decode (pB 76) 34 = .ok (.aload_n 0, 1) := by decide +kernel
theorem d76_35 : decode (pB 76) 35 = .ok (.getfield 10, 3) := by decide +kernel
theorem d76_38 : decode (pB 76) 38 = .ok (.getfield 151, 3) := by decide +kernel
theorem d76_41 : decode (pB 76) 41 = .ok (.iload_n 2, 1) := by decide +kernel
theorem d76_42 : decode (pB 76) 42 = .ok (.iaload, 1) := by decide +kernel
theorem d76_43 : decode (pB 76) 43 = .ok (.bipush (-6), 2) := by decide +kernel
theorem d76_45 : decode (pB 76) 45 = .ok (.if_icmp .eq 6, 3) := by decide +kernel
theorem d76_48 : decode (pB 76) 48 = .ok (.bipush (-5), 2) := by decide +kernel
theorem d76_50 : decode (pB 76) 50 = .ok (.ireturn, 1) := by decide +kernel
theorem d76_51 : decode (pB 76) 51 = .ok (.aload_n 0, 1) := by decide +kernel
theorem d76_52 : decode (pB 76) 52 = .ok (.getfield 10, 3) := by decide +kernel
theorem d76_55 : decode (pB 76) 55 = .ok (.iload_n 1, 1) := by decide +kernel
theorem d76_56 : decode (pB 76) 56 = .ok (.invokevirtual 126, 3) := by decide +kernel
theorem d76_59 : decode (pB 76) 59 = .ok (.istore_n 3, 1) := by decide +kernel
theorem d76_60 : decode (pB 76) 60 = .ok (.iload_n 3, 1) := by decide +kernel
theorem d76_61 : decode (pB 76) 61 = .ok (.bipush (-6), 2) := by decide +kernel
theorem d76_63 : decode (pB 76) 63 = .ok (.if_icmp .eq 14, 3) := by decide +kernel
theorem d76_66 : decode (pB 76) 66 = .ok (.aload_n 0, 1) := by decide +kernel
theorem d76_67 : decode (pB 76) 67 = .ok (.getfield 10, 3) := by decide +kernel
theorem d76_70 : decode (pB 76) 70 = .ok (.getfield 151, 3) := by decide +kernel
theorem d76_73 : decode (pB 76) 73 = .ok (.iload_n 3, 1) := by decide +kernel
theorem d76_74 : decode (pB 76) 74 = .ok (.bipush (-6), 2) := by decide +kernel
theorem d76_76 : decode (pB 76) 76 = .ok (.iastore, 1) := by decide +kernel
theorem d76_77 : decode (pB 76) 77 = .ok (.aload_n 0, 1) := by decide +kernel
theorem d76_78 : decode (pB 76) 78 = .ok (.getfield 10, 3) := by decide +kernel
theorem d76_81 : decode (pB 76) 81 = .ok (.getfield 151, 3) := by decide +kernel
theorem d76_84 : decode (pB 76) 84 = .ok (.iload_n 2, 1) := by decide +kernel
theorem d76_85 : decode (pB 76) 85 = .ok (.iload_n 1, 1) := by decide +kernel
theorem d76_86 : decode (pB 76) 86 = .ok (.iastore, 1) := by decide +kernel
theorem d76_87 : decode (pB 76) 87 = .ok (.iload_n 3, 1) := by decide +kernel
theorem d76_88 : decode (pB 76) 88 = .ok (.ireturn, 1) := by decide +kernel
theorem st1_76_3 : p_st1 76 3 = true := by decide +kernel
/-- RX4.takeSeat -/
def t76_0 : List (Nat × pO) := [(0, o_aload 0 1), (1, o_getR 4 0 4), (4, o_iload 1 5), (5, o_invV 3 30 1 8), (8, o_ifeq 22 11), (11, o_aload 0 12), (12, o_getR 4 0 15), (15, o_iload 2 16), (16, o_invV 3 31 1 19), (19, o_ifne 24 22), (22, o_push (.int (nM 1)) 23), (23, o_iret), (24, o_aload 0 25), (25, o_getR 4 0 28), (28, o_getI 3 6 31), (31, o_ifgt 48 34), (34, o_aload 0 35), (35, o_getR 4 0 38), (38, o_getR 3 1 41), (41, o_iload 2 42), (42, o_iald 43), (43, o_push (.int (nM 6)) 45), (45, o_iceq 51 48), (48, o_push (.int (nM 5)) 50), (50, o_iret), (51, o_aload 0 52), (52, o_getR 4 0 55), (55, o_iload 1 56), (56, o_invV 3 32 1 59), (59, o_istore 3 60), (60, o_iload 3 61), (61, o_push (.int (nM 6)) 63), (63, o_iceq 77 66), (66, o_aload 0 67), (67, o_getR 4 0 70), (70, o_getR 3 1 73), (73, o_iload 3 74), (74, o_push (.int (nM 6)) 76), (76, o_iast 77), (77, o_aload 0 78)]
theorem ok76_0 : ∀ q ∈ t76_0, p_Z 76 q := List.forall_mem_cons.mpr ⟨⟨s_aload_n d76_0 rfl, tl_aload _ _⟩, List.forall_mem_cons.mpr ⟨⟨f_getR_4_0 d76_1 wd_212, tl_getR _ _ _⟩, List.forall_mem_cons.mpr ⟨⟨s_iload_n d76_4 rfl, tl_iload _ _⟩, List.forall_mem_cons.mpr ⟨⟨q_invV_30 d76_5 wd_310, tl_invV _ _ _ _⟩, List.forall_mem_cons.mpr ⟨⟨s_ifeq d76_8 rfl, tl_ifeq _ _⟩, List.forall_mem_cons.mpr ⟨⟨s_aload_n d76_11 rfl, tl_aload _ _⟩, List.forall_mem_cons.mpr ⟨⟨f_getR_4_0 d76_12 wd_212, tl_getR _ _ _⟩, List.forall_mem_cons.mpr ⟨⟨s_iload_n d76_15 rfl, tl_iload _ _⟩, List.forall_mem_cons.mpr ⟨⟨q_invV_31 d76_16 wd_314, tl_invV _ _ _ _⟩, List.forall_mem_cons.mpr ⟨⟨s_ifne d76_19 rfl, tl_ifne _ _⟩, List.forall_mem_cons.mpr ⟨⟨s_iconst d76_22 rfl, tl_push _ _⟩, List.forall_mem_cons.mpr ⟨⟨s_iret d76_23 rfl, tl_iret⟩, List.forall_mem_cons.mpr ⟨⟨s_aload_n d76_24 rfl, tl_aload _ _⟩, List.forall_mem_cons.mpr ⟨⟨f_getR_4_0 d76_25 wd_212, tl_getR _ _ _⟩, List.forall_mem_cons.mpr ⟨⟨f_getI_3_6 d76_28 wd_98, tl_getI _ _ _⟩, List.forall_mem_cons.mpr ⟨⟨s_ifgt d76_31 rfl, tl_ifgt _ _⟩, List.forall_mem_cons.mpr ⟨⟨s_aload_n d76_34 rfl, tl_aload _ _⟩, List.forall_mem_cons.mpr ⟨⟨f_getR_4_0 d76_35 wd_212, tl_getR _ _ _⟩, List.forall_mem_cons.mpr ⟨⟨f_getR_3_1 d76_38 wd_88, tl_getR _ _ _⟩, List.forall_mem_cons.mpr ⟨⟨s_iload_n d76_41 rfl, tl_iload _ _⟩, List.forall_mem_cons.mpr ⟨⟨s_iald d76_42, tl_iald _⟩, List.forall_mem_cons.mpr ⟨⟨s_bipush d76_43 rfl, tl_push _ _⟩, List.forall_mem_cons.mpr ⟨⟨s_iceq d76_45 rfl, tl_iceq _ _⟩, List.forall_mem_cons.mpr ⟨⟨s_bipush d76_48 rfl, tl_push _ _⟩, List.forall_mem_cons.mpr ⟨⟨s_iret d76_50 rfl, tl_iret⟩, List.forall_mem_cons.mpr ⟨⟨s_aload_n d76_51 rfl, tl_aload _ _⟩, List.forall_mem_cons.mpr ⟨⟨f_getR_4_0 d76_52 wd_212, tl_getR _ _ _⟩, List.forall_mem_cons.mpr ⟨⟨s_iload_n d76_55 rfl, tl_iload _ _⟩, List.forall_mem_cons.mpr ⟨⟨q_invV_32 d76_56 wd_318, tl_invV _ _ _ _⟩, List.forall_mem_cons.mpr ⟨⟨s_istore_n d76_59 rfl st1_76_3, tl_istore _ _⟩, List.forall_mem_cons.mpr ⟨⟨s_iload_n d76_60 rfl, tl_iload _ _⟩, List.forall_mem_cons.mpr ⟨⟨s_bipush d76_61 rfl, tl_push _ _⟩, List.forall_mem_cons.mpr ⟨⟨s_iceq d76_63 rfl, tl_iceq _ _⟩, List.forall_mem_cons.mpr ⟨⟨s_aload_n d76_66 rfl, tl_aload _ _⟩, List.forall_mem_cons.mpr ⟨⟨f_getR_4_0 d76_67 wd_212, tl_getR _ _ _⟩, List.forall_mem_cons.mpr ⟨⟨f_getR_3_1 d76_70 wd_88, tl_getR _ _ _⟩, List.forall_mem_cons.mpr ⟨⟨s_iload_n d76_73 rfl, tl_iload _ _⟩, List.forall_mem_cons.mpr ⟨⟨s_bipush d76_74 rfl, tl_push _ _⟩, List.forall_mem_cons.mpr ⟨⟨s_iast d76_76, tl_iast _⟩, List.forall_mem_cons.mpr ⟨⟨s_aload_n d76_77 rfl, tl_aload _ _⟩, fun _ h => absurd h List.not_mem_nil⟩⟩⟩⟩⟩⟩⟩⟩⟩⟩⟩⟩⟩⟩⟩⟩⟩⟩⟩⟩⟩⟩⟩⟩⟩⟩⟩⟩⟩⟩⟩⟩⟩⟩⟩⟩⟩⟩⟩⟩
/-- RX4.takeSeat -/
def t76_1 : List (Nat × pO) := [(78, o_getR 4 0 81), (81, o_getR 3 1 84), (84, o_iload 2 85), (85, o_iload 1 86), (86, o_iast 87), (87, o_iload 3 88), (88, o_iret)]
theorem ok76_1 : ∀ q ∈ t76_1, p_Z 76 q := List.forall_mem_cons.mpr ⟨⟨f_getR_4_0 d76_78 wd_212, tl_getR _ _ _⟩, List.forall_mem_cons.mpr ⟨⟨f_getR_3_1 d76_81 wd_88, tl_getR _ _ _⟩, List.forall_mem_cons.mpr ⟨⟨s_iload_n d76_84 rfl, tl_iload _ _⟩, List.forall_mem_cons.mpr ⟨⟨s_iload_n d76_85 rfl, tl_iload _ _⟩, List.forall_mem_cons.mpr ⟨⟨s_iast d76_86, tl_iast _⟩, List.forall_mem_cons.mpr ⟨⟨s_iload_n d76_87 rfl, tl_iload _ _⟩, List.forall_mem_cons.mpr ⟨⟨s_iret d76_88 rfl, tl_iret⟩, fun _ h => absurd h List.not_mem_nil⟩⟩⟩⟩⟩⟩⟩
def t76 : List (Nat × pO) := t76_0 ++ (t76_1)
theorem ok76 : ∀ q ∈ t76, p_Z 76 q := List.forall_mem_append.mpr ⟨ok76_0, ok76_1⟩
theorem d77_0 : decode (pB 77) 0 = .ok (.aload_n 0, 1) := by decide +kernel
theorem d77_1 : decode (pB 77) 1 = .ok (.getfield 10, 3) := by decide +kernel
theorem d77_4 : decode (pB 77) 4 = .ok (.iload_n 1, 1) := by decide +kernel
theorem d77_5 : decode (pB 77) 5 = .ok (.invokevirtual 122, 3) := by decide +kernel
theorem d77_8 : decode (pB 77) 8 = .ok (.ifCond .ne 5, 3) := by decide +kernel
theorem d77_11 : decode (pB 77) 11 = .ok (.iconst (-1), 1) := by decide +kernel
theorem d77_12 : decode (pB 77) 12 = .ok (.ireturn, 1) := by decide +kernel
theorem d77_13 : decode (pB 77) 13 = .ok (.aload_n 0, 1) := by decide +kernel
theorem d77_14 : decode (pB 77) 14 = .ok (.getfield 10, 3) := by decide +kernel
theorem d77_17 : decode (pB 77) 17 = .ok (.iload_n 1, 1) := by decide +kernel
theorem d77_18 : decode (pB 77) 18 = .ok (.invokevirtual 126, 3) := by decide +kernel
theorem d77_21 : decode (pB 77) 21 = .ok (.istore_n 2, 1) := by decide +kernel
theorem d77_22 : decode (pB 77) 22 = .ok (.aload_n 0, 1) := by decide +kernel
theorem d77_23 : decode (pB 77) 23 = .ok (.getfield 10, 3) := by decide +kernel
theorem d77_26 : decode (pB 77) 26 = .ok (.getfield 172, 3) := by decide +kernel
theorem d77_29 : decode (pB 77) 29 = .ok (.ifCond .gt 9, 3) := by decide +kernel
theorem d77_32 : decode (pB 77) 32 = .ok (.iload_n 2, 1) := by decide +kernel
theorem d77_33 : decode (pB 77) 33 = .ok (.bipush (-6), 2) := by decide +kernel
theorem d77_35 : decode (pB 77) 35 = .ok (.if_icmp .ne 6, 3) := by decide +kernel
theorem d77_38 : decode (pB 77) 38 = .ok (.bipush (-5), 2) := by decide +kernel
theorem d77_40 : decode (pB 77) 40 = .ok (.ireturn, 1) := by decide +kernel
theorem d77_41 : decode (pB 77) 41 = .ok (.aload_n 0, 1) := by decide +kernel
theorem d77_42 : decode (pB 77) 42 = .ok (.getfield 10, 3) := by decide +kernel
theorem d77_45 : decode (pB 77) 45 = .ok (.getfield 151, 3) := by decide +kernel
theorem d77_48 : decode (pB 77) 48 = .ok (.iload_n 2, 1) := by decide +kernel
theorem d77_49 : decode (pB 77) 49 = .ok (.bipush (-6), 2) := by decide +kernel
theorem d77_51 : decode (pB 77) 51 = .ok (.iastore, 1) := by decide +kernel
theorem d77_52 : decode (pB 77) 52 = .ok (.iload_n 2, 1) := by decide +kernel
theorem d77_53 : decode (pB 77) 53 = .ok (.ireturn, 1) := by decide +kernel
theorem st1_77_2 : p_st1 77 2 = true := by decide +kernel
/-- RX4.getUp -/
def t77_0 : List (Nat × pO) := [(0, o_aload 0 1), (1, o_getR 4 0 4), (4, o_iload 1 5), (5, o_invV 3 30 1 8), (8, o_ifne 13 11), (11, o_push (.int (nM 1)) 12), (12, o_iret), (13, o_aload 0 14), (14, o_getR 4 0 17), (17, o_iload 1 18), (18, o_invV 3 32 1 21), (21, o_istore 2 22), (22, o_aload 0 23), (23, o_getR 4 0 26), (26, o_getI 3 6 29), (29, o_ifgt 38 32), (32, o_iload 2 33), (33, o_push (.int (nM 6)) 35), (35, o_icne 41 38), (38, o_push (.int (nM 5)) 40), (40, o_iret), (41, o_aload 0 42), (42, o_getR 4 0 45), (45, o_getR 3 1 48), (48, o_iload 2 49), (49, o_push (.int (nM 6)) 51), (51, o_iast 52), (52, o_iload 2 53), (53, o_iret)]
theorem ok77_0 : ∀ q ∈ t77_0, p_Z 77 q := List.forall_mem_cons.mpr ⟨⟨s_aload_n d77_0 rfl, tl_aload _ _⟩, List.forall_mem_cons.mpr ⟨⟨f_getR_4_0 d77_1 wd_212, tl_getR _ _ _⟩, List.forall_mem_cons.mpr ⟨⟨s_iload_n d77_4 rfl, tl_iload _ _⟩, List.forall_mem_cons.mpr ⟨⟨q_invV_30 d77_5 wd_310, tl_invV _ _ _ _⟩, List.forall_mem_cons.mpr ⟨⟨s_ifne d77_8 rfl, tl_ifne _ _⟩, List.forall_mem_cons.mpr ⟨⟨s_iconst d77_11 rfl, tl_push _ _⟩, List.forall_mem_cons.mpr ⟨⟨s_iret d77_12 rfl, tl_iret⟩, List.forall_mem_cons.mpr ⟨⟨s_aload_n d77_13 rfl, tl_aload _ _⟩, List.forall_mem_cons.mpr ⟨⟨f_getR_4_0 d77_14 wd_212, tl_getR _ _ _⟩, List.forall_mem_cons.mpr ⟨⟨s_iload_n d77_17 rfl, tl_iload _ _⟩, List.forall_mem_cons.mpr ⟨⟨q_invV_32 d77_18 wd_318, tl_invV _ _ _ _⟩, List.forall_mem_cons.mpr ⟨⟨s_istore_n d77_21 rfl st1_77_2, tl_istore _ _⟩, List.forall_mem_cons.mpr ⟨⟨s_aload_n d77_22 rfl, tl_aload _ _⟩, List.forall_mem_cons.mpr ⟨⟨f_getR_4_0 d77_23 wd_212, tl_getR _ _ _⟩, List.forall_mem_cons.mpr ⟨⟨f_getI_3_6 d77_26 wd_98, tl_getI _ _ _⟩, List.forall_mem_cons.mpr ⟨⟨s_ifgt d77_29 rfl, tl_ifgt _ _⟩, List.forall_mem_cons.mpr ⟨⟨s_iload_n d77_32 rfl, tl_iload _ _⟩, List.forall_mem_cons.mpr ⟨⟨s_bipush d77_33 rfl, tl_push _ _⟩, List.forall_mem_cons.mpr ⟨⟨s_icne d77_35 rfl, tl_icne _ _⟩, List.forall_mem_cons.mpr ⟨⟨s_bipush d77_38 rfl, tl_push _ _⟩, List.forall_mem_cons.mpr ⟨⟨s_iret d77_40 rfl, tl_iret⟩, List.forall_mem_cons.mpr ⟨⟨s_aload_n d77_41 rfl, tl_aload _ _⟩, List.forall_mem_cons.mpr ⟨⟨f_getR_4_0 d77_42 wd_212, tl_getR _ _ _⟩, List.forall_mem_cons.mpr ⟨⟨f_getR_3_1 d77_45 wd_88, tl_getR _ _ _⟩, List.forall_mem_cons.mpr ⟨⟨s_iload_n d77_48 rfl, tl_iload _ _⟩, List.forall_mem_cons.mpr ⟨⟨s_bipush d77_49 rfl, tl_push _ _⟩, List.forall_mem_cons.mpr ⟨⟨s_iast d77_51, tl_iast _⟩, List.forall_mem_cons.mpr ⟨⟨s_iload_n d77_52 rfl, tl_iload _ _⟩, List.forall_mem_cons.mpr ⟨⟨s_iret d77_53 rfl, tl_iret⟩, fun _ h => absurd h List.not_mem_nil⟩⟩⟩⟩⟩⟩⟩⟩⟩⟩⟩⟩⟩⟩⟩⟩⟩⟩⟩⟩⟩⟩⟩⟩⟩⟩⟩⟩⟩
def t77 : List (Nat × pO) := t77_0
theorem ok77 : ∀ q ∈ t77, p_Z 77 q := ok77_0
theorem d78_0 : decode (pB 78) 0 = .ok (.aload_n 0, 1) := by decide +kernel
theorem d78_1 : decode (pB 78) 1 = .ok (.getfield 10, 3) := by decide +kernel
theorem d78_4 : decode (pB 78) 4 = .ok (.iload_n 1, 1) := by decide +kernel
theorem d78_5 : decode (pB 78) 5 = .ok (.invokevirtual 148, 3) := by decide +kernel
theorem d78_8 : decode (pB 78) 8 = .ok (.ifCond .eq 14, 3) := by decide +kernel
theorem d78_11 : decode (pB 78) 11 = .ok (.aload_n 0, 1) := by decide +kernel
theorem d78_12 : decode (pB 78) 12 = .ok (.getfield 10, 3) := by decide +kernel
theorem d78_15 : decode (pB 78) 15 = .ok (.iload_n 2, 1) := by decide +kernel
theorem d78_16 : decode (pB 78) 16 = .ok (.invokevirtual 148, 3) := by decide +kernel
theorem d78_19 : decode (pB 78) 19 = .ok (.ifCond .ne 5, 3) := by decide +kernel
theorem d78_22 : decode (pB 78) 22 = .ok (.iconst (-1), 1) := by decide +kernel
theorem d78_23 : decode (pB 78) 23 = .ok (.ireturn, 1) := by decide +kernel
theorem d78_24 : decode (pB 78) 24 = .ok (.iload_n 1, 1) := by decide +kernel
theorem d78_25 : decode (pB 78) 25 = .ok (.iload_n 2, 1) := by decide +kernel
theorem d78_26 : decode (pB 78) 26 = .ok (.if_icmp .ne 6, 3) := by decide +kernel
theorem d78_29 : decode (pB 78) 29 = .ok (.bipush (-2), 2) := by decide +kernel
theorem d78_31 : decode (pB 78) 31 = .ok (.ireturn, 1) := by decide +kernel
theorem d78_32 : decode (pB 78) 32 = .ok (.aload_n 0, 1) := by decide +kernel
theorem d78_33 : decode (pB 78) 33 = .ok (.getfield 10, 3) := by decide +kernel
theorem d78_36 : decode (pB 78) 36 = .ok (.getfield 172, 3) := by decide +kernel
theorem d78_39 : decode (pB 78) 39 = .ok (.ifCond .le 6, 3) := by decide +kernel
theorem d78_42 : decode (pB 78) 42 = .ok (.bipush (-5), 2) := by decide +kernel
theorem d78_44 : decode (pB 78) 44 = .ok (.ireturn, 1) := by decide +kernel
theorem d78_45 : decode (pB 78) 45 = .ok (.aload_n 0, 1) := by decide +kernel
theorem d78_46 : decode (pB 78) 46 = .ok (.getfield 10, 3) := by decide +kernel
theorem d78_49 : decode (pB 78) 49 = .ok (.iload_n 1, 1) := by decide +kernel
theorem d78_50 : decode (pB 78) 50 = .ok (.iload_n 2, 1) := by decide +kernel
theorem d78_51 : decode (pB 78) 51 = .ok (.invokevirtual 241, 3) := by decide +kernel
theorem d78_54 : decode (pB 78) 54 = .ok (.aload_n 0, 1) := by decide +kernel
theorem d78_55 : decode (pB 78) 55 = .ok (.getfield 10, 3) := by decide +kernel
theorem d78_58 : decode (pB 78) 58 = .ok (.iload_n 1, 1) := by decide +kernel
theorem d78_59 : decode (pB 78) 59 = .ok (.iload_n 2, 1) := by decide +kernel
theorem d78_60 : decode (pB 78) 60 = .ok (.invokevirtual 139, 3) := by decide +kernel
theorem d78_63 : decode (pB 78) 63 = .ok (.invokestatic 245, 3) := by decide +kernel
theorem d78_66 : decode (pB 78) 66 = .ok (.ireturn, 1) := by decide +kernel
/-- RX4.changePlaces -/
def t78_0 : List (Nat × pO) := [(0, o_aload 0 1), (1, o_getR 4 0 4), (4, o_iload 1 5), (5, o_invV 3 31 1 8), (8, o_ifeq 22 11), (11, o_aload 0 12), (12, o_getR 4 0 15), (15, o_iload 2 16), (16, o_invV 3 31 1 19), (19, o_ifne 24 22), (22, o_push (.int (nM 1)) 23), (23, o_iret), (24, o_iload 1 25), (25, o_iload 2 26), (26, o_icne 32 29), (29, o_push (.int (nM 2)) 31), (31, o_iret), (32, o_aload 0 33), (33, o_getR 4 0 36), (36, o_getI 3 6 39), (39, o_ifle 45 42), (42, o_push (.int (nM 5)) 44), (44, o_iret), (45, o_aload 0 46), (46, o_getR 4 0 49), (49, o_iload 1 50), (50, o_iload 2 51), (51, o_invV 3 38 2 54), (54, o_aload 0 55), (55, o_getR 4 0 58), (58, o_iload 1 59), (59, o_iload 2 60), (60, o_invV 3 36 2 63), (63, o_invS 164 1 66), (66, o_iret)]
theorem ok78_0 : ∀ q ∈ t78_0, p_Z 78 q := List.forall_mem_cons.mpr ⟨⟨s_aload_n d78_0 rfl, tl_aload _ _⟩, List.forall_mem_cons.mpr ⟨⟨f_getR_4_0 d78_1 wd_212, tl_getR _ _ _⟩, List.forall_mem_cons.mpr ⟨⟨s_iload_n d78_4 rfl, tl_iload _ _⟩, List.forall_mem_cons.mpr ⟨⟨q_invV_31 d78_5 wd_314, tl_invV _ _ _ _⟩, List.forall_mem_cons.mpr ⟨⟨s_ifeq d78_8 rfl, tl_ifeq _ _⟩, List.forall_mem_cons.mpr ⟨⟨s_aload_n d78_11 rfl, tl_aload _ _⟩, List.forall_mem_cons.mpr ⟨⟨f_getR_4_0 d78_12 wd_212, tl_getR _ _ _⟩, List.forall_mem_cons.mpr ⟨⟨s_iload_n d78_15 rfl, tl_iload _ _⟩, List.forall_mem_cons.mpr ⟨⟨q_invV_31 d78_16 wd_314, tl_invV _ _ _ _⟩, List.forall_mem_cons.mpr ⟨⟨s_ifne d78_19 rfl, tl_ifne _ _⟩, List.forall_mem_cons.mpr ⟨⟨s_iconst d78_22 rfl, tl_push _ _⟩, List.forall_mem_cons.mpr ⟨⟨s_iret d78_23 rfl, tl_iret⟩, List.forall_mem_cons.mpr ⟨⟨s_iload_n d78_24 rfl, tl_iload _ _⟩, List.forall_mem_cons.mpr ⟨⟨s_iload_n d78_25 rfl, tl_iload _ _⟩, List.forall_mem_cons.mpr ⟨⟨s_icne d78_26 rfl, tl_icne _ _⟩, List.forall_mem_cons.mpr ⟨⟨s_bipush d78_29 rfl, tl_push _ _⟩, List.forall_mem_cons.mpr ⟨⟨s_iret d78_31 rfl, tl_iret⟩, List.forall_mem_cons.mpr ⟨⟨s_aload_n d78_32 rfl, tl_aload _ _⟩, List.forall_mem_cons.mpr ⟨⟨f_getR_4_0 d78_33 wd_212, tl_getR _ _ _⟩, List.forall_mem_cons.mpr ⟨⟨f_getI_3_6 d78_36 wd_98, tl_getI _ _ _⟩, List.forall_mem_cons.mpr ⟨⟨s_ifle d78_39 rfl, tl_ifle _ _⟩, List.forall_mem_cons.mpr ⟨⟨s_bipush d78_42 rfl, tl_push _ _⟩, List.forall_mem_cons.mpr ⟨⟨s_iret d78_44 rfl, tl_iret⟩, List.forall_mem_cons.mpr ⟨⟨s_aload_n d78_45 rfl, tl_aload _ _⟩, List.forall_mem_cons.mpr ⟨⟨f_getR_4_0 d78_46 wd_212, tl_getR _ _ _⟩, List.forall_mem_cons.mpr ⟨⟨s_iload_n d78_49 rfl, tl_iload _ _⟩, List.forall_mem_cons.mpr ⟨⟨s_iload_n d78_50 rfl, tl_iload _ _⟩, List.forall_mem_cons.mpr ⟨⟨q_invV_38 d78_51 wd_338, tl_invV _ _ _ _⟩, List.forall_mem_cons.mpr ⟨⟨s_aload_n d78_54 rfl, tl_aload _ _⟩, List.forall_mem_cons.mpr ⟨⟨f_getR_4_0 d78_55 wd_212, tl_getR _ _ _⟩, List.forall_mem_cons.mpr ⟨⟨s_iload_n d78_58 rfl, tl_iload _ _⟩, List.forall_mem_cons.mpr ⟨⟨s_iload_n d78_59 rfl, tl_iload _ _⟩, List.forall_mem_cons.mpr ⟨⟨q_invV_36 d78_60 wd_342, tl_invV _ _ _ _⟩, List.forall_mem_cons.mpr ⟨⟨q_invS_164 d78_63 wd_355, tl_invS _ _ _⟩, List.forall_mem_cons.mpr ⟨⟨s_iret d78_66 rfl, tl_iret⟩, fun _ h => absurd h List.not_mem_nil⟩⟩⟩⟩⟩⟩⟩⟩⟩⟩⟩⟩⟩⟩⟩⟩⟩⟩⟩⟩⟩⟩⟩⟩⟩⟩⟩⟩⟩⟩⟩⟩⟩⟩⟩
def t78 : List (Nat × pO) := t78_0
theorem ok78 : ∀ q ∈ t78, p_Z 78 q := ok78_0
theorem d79_0 : decode (pB 79) 0 = .ok (.aload_n 0, 1) := by decide +kernel
theorem d79_1 : decode (pB 79) 1 = .ok (.getfield 10, 3) := by decide +kernel
theorem d79_4 : decode (pB 79) 4 = .ok (.iload_n 1, 1) := by decide +kernel
theorem d79_5 : decode (pB 79) 5 = .ok (.invokevirtual 122, 3) := by decide +kernel
theorem d79_8 : decode (pB 79) 8 = .ok (.ifCond .eq 14, 3) := by decide +kernel
theorem d79_11 : decode (pB 79) 11 = .ok (.aload_n 0, 1) := by decide +kernel
theorem d79_12 : decode (pB 79) 12 = .ok (.getfield 10, 3) := by decide +kernel
theorem d79_15 : decode (pB 79) 15 = .ok (.iload_n 2, 1) := by decide +kernel
theorem d79_16 : decode (pB 79) 16 = .ok (.invokevirtual 122, 3) := by decide +kernel
theorem d79_19 : decode (pB 79) 19 = .ok (.ifCond .ne 5, 3) := by decide +kernel
theorem d79_22 : decode (pB 79) 22 = .ok (.iconst (-1), 1) := by decide +kernel
theorem d79_23 : decode (pB 79) 23 = .ok (.ireturn, 1) := by decide +kernel
theorem d79_24 : decode (pB 79) 24 = .ok (.iload_n 1, 1) := by decide +kernel
theorem d79_25 : decode (pB 79) 25 = .ok (.iload_n 2, 1) := by decide +kernel
theorem d79_26 : decode (pB 79) 26 = .ok (.if_icmp .eq 13, 3) := by decide +kernel
theorem d79_29 : decode (pB 79) 29 = .ok (.iload_n 3, 1) := by decide +kernel
theorem d79_30 : decode (pB 79) 30 = .ok (.iconst (-1), 1) := by decide +kernel
theorem d79_31 : decode (pB 79) 31 = .ok (.if_icmp .lt 8, 3) := by decide +kernel
theorem d79_34 : decode (pB 79) 34 = .ok (.iload_n 3, 1) := by decide +kernel
theorem d79_35 : decode (pB 79) 35 = .ok (.iconst 1, 1) := by decide +kernel
theorem d79_36 : decode (pB 79) 36 = .ok (.if_icmp .le 6, 3) := by decide +kernel
theorem d79_39 : decode (pB 79) 39 = .ok (.bipush (-2), 2) := by decide +kernel
theorem d79_41 : decode (pB 79) 41 = .ok (.ireturn, 1) := by decide +kernel
theorem d79_42 : decode (pB 79) 42 = .ok (.aload_n 0, 1) := by decide +kernel
theorem d79_43 : decode (pB 79) 43 = .ok (.getfield 10, 3) := by decide +kernel
theorem d79_46 : decode (pB 79) 46 = .ok (.iload_n 1, 1) := by decide +kernel
theorem d79_47 : decode (pB 79) 47 = .ok (.iload_n 2, 1) := by decide +kernel
theorem d79_48 : decode (pB 79) 48 = .ok (.invokevirtual 250, 3) := by decide +kernel
theorem d79_51 : decode (pB 79) 51 = .ok (.istore 4, 2) := by decide +kernel
theorem d79_53 : decode (pB 79) 53 = .ok (.aload_n 0, 1) := by decide +kernel
theorem d79_54 : decode (pB 79) 54 = .ok (.getfield 10, 3) := by decide +kernel
theorem d79_57 : decode (pB 79) 57 = .ok (.iload_n 1, 1) := by decide +kernel
theorem d79_58 : decode (pB 79) 58 = .ok (.iload_n 2, 1) := by decide +kernel
theorem d79_59 : decode (pB 79) 59 = .ok (.iload_n 3, 1) := by decide +kernel
theorem d79_60 : decode (pB 79) 60 = .ok (.invokevirtual 253, 3) := by decide +kernel
theorem d79_63 : decode (pB 79) 63 = .ok (.aload_n 0, 1) := by decide +kernel
theorem d79_64 : decode (pB 79) 64 = .ok (.getfield 10, 3) := by decide +kernel
theorem d79_67 : decode (pB 79) 67 = .ok (.iload_n 2, 1) := by decide +kernel
theorem d79_68 : decode (pB 79) 68 = .ok (.iload_n 1, 1) := by decide +kernel
theorem d79_69 : decode (pB 79) 69 = .ok (.iload_n 3, 1) := by decide +kernel
theorem d79_70 : decode (pB 79) 70 = .ok (.invokevirtual 253, 3) := by decide +kernel
theorem d79_73 : decode (pB 79) 73 = .ok (.iload 4, 2) := by decide +kernel
theorem d79_75 : decode (pB 79) 75 = .ok (.iconst 1, 1) := by decide +kernel
theorem d79_76 : decode (pB 79) 76 = .ok (.iadd, 1) := by decide +kernel
theorem d79_77 : decode (pB 79) 77 = .ok (.ireturn, 1) := by decide +kernel
theorem st1_79_4 : p_st1 79 4 = true := by decide +kernel
/-- RX4.tellHow -/
def t79_0 : List (Nat × pO) := [(0, o_aload 0 1), (1, o_getR 4 0 4), (4, o_iload 1 5), (5, o_invV 3 30 1 8), (8, o_ifeq 22 11), (11, o_aload 0 12), (12, o_getR 4 0 15), (15, o_iload 2 16), (16, o_invV 3 30 1 19), (19, o_ifne 24 22), (22, o_push (.int (nM 1)) 23), (23, o_iret), (24, o_iload 1 25), (25, o_iload 2 26), (26, o_iceq 39 29), (29, o_iload 3 30), (30, o_push (.int (nM 1)) 31), (31, o_iclt 39 34), (34, o_iload 3 35), (35, o_push (.int (nI 1)) 36), (36, o_icle 42 39), (39, o_push (.int (nM 2)) 41), (41, o_iret), (42, o_aload 0 43), (43, o_getR 4 0 46), (46, o_iload 1 47), (47, o_iload 2 48), (48, o_invV 3 39 2 51), (51, o_istore 4 53), (53, o_aload 0 54), (54, o_getR 4 0 57), (57, o_iload 1 58), (58, o_iload 2 59), (59, o_iload 3 60), (60, o_invV 3 40 3 63), (63, o_aload 0 64), (64, o_getR 4 0 67), (67, o_iload 2 68), (68, o_iload 1 69), (69, o_iload 3 70)]
theorem ok79_0 : ∀ q ∈ t79_0, p_Z 79 q := List.forall_mem_cons.mpr ⟨⟨s_aload_n d79_0 rfl, tl_aload _ _⟩, List.forall_mem_cons.mpr ⟨⟨f_getR_4_0 d79_1 wd_212, tl_getR _ _ _⟩, List.forall_mem_cons.mpr ⟨⟨s_iload_n d79_4 rfl, tl_iload _ _⟩, List.forall_mem_cons.mpr ⟨⟨q_invV_30 d79_5 wd_310, tl_invV _ _ _ _⟩, List.forall_mem_cons.mpr ⟨⟨s_ifeq d79_8 rfl, tl_ifeq _ _⟩, List.forall_mem_cons.mpr ⟨⟨s_aload_n d79_11 rfl, tl_aload _ _⟩, List.forall_mem_cons.mpr ⟨⟨f_getR_4_0 d79_12 wd_212, tl_getR _ _ _⟩, List.forall_mem_cons.mpr ⟨⟨s_iload_n d79_15 rfl, tl_iload _ _⟩, List.forall_mem_cons.mpr ⟨⟨q_invV_30 d79_16 wd_310, tl_invV _ _ _ _⟩, List.forall_mem_cons.mpr ⟨⟨s_ifne d79_19 rfl, tl_ifne _ _⟩, List.forall_mem_cons.mpr ⟨⟨s_iconst d79_22 rfl, tl_push _ _⟩, List.forall_mem_cons.mpr ⟨⟨s_iret d79_23 rfl, tl_iret⟩, List.forall_mem_cons.mpr ⟨⟨s_iload_n d79_24 rfl, tl_iload _ _⟩, List.forall_mem_cons.mpr ⟨⟨s_iload_n d79_25 rfl, tl_iload _ _⟩, List.forall_mem_cons.mpr ⟨⟨s_iceq d79_26 rfl, tl_iceq _ _⟩, List.forall_mem_cons.mpr ⟨⟨s_iload_n d79_29 rfl, tl_iload _ _⟩, List.forall_mem_cons.mpr ⟨⟨s_iconst d79_30 rfl, tl_push _ _⟩, List.forall_mem_cons.mpr ⟨⟨s_iclt d79_31 rfl, tl_iclt _ _⟩, List.forall_mem_cons.mpr ⟨⟨s_iload_n d79_34 rfl, tl_iload _ _⟩, List.forall_mem_cons.mpr ⟨⟨s_iconst d79_35 rfl, tl_push _ _⟩, List.forall_mem_cons.mpr ⟨⟨s_icle d79_36 rfl, tl_icle _ _⟩, List.forall_mem_cons.mpr ⟨⟨s_bipush d79_39 rfl, tl_push _ _⟩, List.forall_mem_cons.mpr ⟨⟨s_iret d79_41 rfl, tl_iret⟩, List.forall_mem_cons.mpr ⟨⟨s_aload_n d79_42 rfl, tl_aload _ _⟩, List.forall_mem_cons.mpr ⟨⟨f_getR_4_0 d79_43 wd_212, tl_getR _ _ _⟩, List.forall_mem_cons.mpr ⟨⟨s_iload_n d79_46 rfl, tl_iload _ _⟩, List.forall_mem_cons.mpr ⟨⟨s_iload_n d79_47 rfl, tl_iload _ _⟩, List.forall_mem_cons.mpr ⟨⟨q_invV_39 d79_48 wd_369, tl_invV _ _ _ _⟩, List.forall_mem_cons.mpr ⟨⟨s_istore d79_51 st1_79_4, tl_istore _ _⟩, List.forall_mem_cons.mpr ⟨⟨s_aload_n d79_53 rfl, tl_aload _ _⟩, List.forall_mem_cons.mpr ⟨⟨f_getR_4_0 d79_54 wd_212, tl_getR _ _ _⟩, List.forall_mem_cons.mpr ⟨⟨s_iload_n d79_57 rfl, tl_iload _ _⟩, List.forall_mem_cons.mpr ⟨⟨s_iload_n d79_58 rfl, tl_iload _ _⟩, List.forall_mem_cons.mpr ⟨⟨s_iload_n d79_59 rfl, tl_iload _ _⟩, List.forall_mem_cons.mpr ⟨⟨q_invV_40 d79_60 wd_373, tl_invV _ _ _ _⟩, List.forall_mem_cons.mpr ⟨⟨s_aload_n d79_63 rfl, tl_aload _ _⟩, List.forall_mem_cons.mpr ⟨⟨f_getR_4_0 d79_64 wd_212, tl_getR _ _ _⟩, List.forall_mem_cons.mpr ⟨⟨s_iload_n d79_67 rfl, tl_iload _ _⟩, List.forall_mem_cons.mpr ⟨⟨s_iload_n d79_68 rfl, tl_iload _ _⟩, List.forall_mem_cons.mpr ⟨⟨s_iload_n d79_69 rfl, tl_iload _ _⟩, fun _ h => absurd h List.not_mem_nil⟩⟩⟩⟩⟩⟩⟩⟩⟩⟩⟩⟩⟩⟩⟩⟩⟩⟩⟩⟩⟩⟩⟩⟩⟩⟩⟩⟩⟩⟩⟩⟩⟩⟩⟩⟩⟩⟩⟩⟩
/-- RX4.tellHow -/
def t79_1 : List (Nat × pO) := [(70, o_invV 3 40 3 73), (73, o_iload 4 75), (75, o_push (.int (nI 1)) 76), (76, o_iadd 77), (77, o_iret)]
theorem ok79_1 : ∀ q ∈ t79_1, p_Z 79 q := List.forall_mem_cons.mpr ⟨⟨q_invV_40 d79_70 wd_373, tl_invV _ _ _ _⟩, List.forall_mem_cons.mpr ⟨⟨s_iload d79_73, tl_iload _ _⟩, List.forall_mem_cons.mpr ⟨⟨s_iconst d79_75 rfl, tl_push _ _⟩, List.forall_mem_cons.mpr ⟨⟨s_iadd d79_76, tl_iadd _⟩, List.forall_mem_cons.mpr ⟨⟨s_iret d79_77 rfl, tl_iret⟩, fun _ h => absurd h List.not_mem_nil⟩⟩⟩⟩⟩
def t79 : List (Nat × pO) := t79_0 ++ (t79_1)
theorem ok79 : ∀ q ∈ t79, p_Z 79 q := List.forall_mem_append.mpr ⟨ok79_0, ok79_1⟩
theorem d80_0 : decode (pB 80) 0 = .ok (.aload_n 0, 1) := by decide +kernel
theorem d80_1 : decode (pB 80) 1 = .ok (.iload_n 1, 1) := by decide +kernel
theorem d80_2 : decode (pB 80) 2 = .ok (.invokevirtual 188, 3) := by decide +kernel
theorem d80_5 : decode (pB 80) 5 = .ok (.ifCond .ne 6, 3) := by decide +kernel
theorem d80_8 : decode (pB 80) 8 = .ok (.bipush (-2), 2) := by decide +kernel
theorem d80_10 : decode (pB 80) 10 = .ok (.ireturn, 1) := by decide +kernel
theorem d80_11 : decode (pB 80) 11 = .ok (.aload_n 0, 1) := by decide +kernel
theorem d80_12 : decode (pB 80) 12 = .ok (.getfield 10, 3) := by decide +kernel
theorem d80_15 : decode (pB 80) 15 = .ok (.getfield 172, 3) := by decide +kernel
theorem d80_18 : decode (pB 80) 18 = .ok (.iconst 5, 1) := by decide +kernel
theorem d80_19 : decode (pB 80) 19 = .ok (.if_icmp .lt 6, 3) := by decide +kernel
theorem d80_22 : decode (pB 80) 22 = .ok (.bipush (-4), 2) := by decide +kernel
theorem d80_24 : decode (pB 80) 24 = .ok (.ireturn, 1) := by decide +kernel
theorem d80_25 : decode (pB 80) 25 = .ok (.aload_n 0, 1) := by decide +kernel
theorem d80_26 : decode (pB 80) 26 = .ok (.iload_n 1, 1) := by decide +kernel
theorem d80_27 : decode (pB 80) 27 = .ok (.invokevirtual 191, 3) := by decide +kernel
theorem d80_30 : decode (pB 80) 30 = .ok (.astore_n 2, 1) := by decide +kernel
theorem d80_31 : decode (pB 80) 31 = .ok (.aload_n 0, 1) := by decide +kernel
theorem d80_32 : decode (pB 80) 32 = .ok (.getfield 10, 3) := by decide +kernel
theorem d80_35 : decode (pB 80) 35 = .ok (.iconst (-1), 1) := by decide +kernel
theorem d80_36 : decode (pB 80) 36 = .ok (.aload_n 2, 1) := by decide +kernel
theorem d80_37 : decode (pB 80) 37 = .ok (.invokevirtual 175, 3) := by decide +kernel
theorem d80_40 : decode (pB 80) 40 = .ok (.ifCond .le 6, 3) := by decide +kernel
theorem d80_43 : decode (pB 80) 43 = .ok (.bipush (-5), 2) := by decide +kernel
theorem d80_45 : decode (pB 80) 45 = .ok (.ireturn, 1) := by decide +kernel
theorem d80_46 : decode (pB 80) 46 = .ok (.aload_n 0, 1) := by decide +kernel
theorem d80_47 : decode (pB 80) 47 = .ok (.getfield 10, 3) := by decide +kernel
theorem d80_50 : decode (pB 80) 50 = .ok (.iload_n 1, 1) := by decide +kernel
theorem d80_51 : decode (pB 80) 51 = .ok (.invokevirtual 257, 3) := by decide +kernel
theorem d80_54 : decode (pB 80) 54 = .ok (.aload_n 2, 1) := by decide +kernel
theorem d80_55 : decode (pB 80) 55 = .ok (.getfield 104, 3) := by decide +kernel
theorem d80_58 : decode (pB 80) 58 = .ok (.ireturn, 1) := by decide +kernel
theorem st1_80_2 : p_st1 80 2 = true := by decide +kernel
/-- RX4.foldGently -/
def t80_0 : List (Nat × pO) := [(0, o_aload 0 1), (1, o_iload 1 2), (2, o_invV 4 84 1 5), (5, o_ifne 11 8), (8, o_push (.int (nM 2)) 10), (10, o_iret), (11, o_aload 0 12), (12, o_getR 4 0 15), (15, o_getI 3 6 18), (18, o_push (.int (nI 5)) 19), (19, o_iclt 25 22), (22, o_push (.int (nM 4)) 24), (24, o_iret), (25, o_aload 0 26), (26, o_iload 1 27), (27, o_invV 4 85 1 30), (30, o_astore 2 31), (31, o_aload 0 32), (32, o_getR 4 0 35), (35, o_push (.int (nM 1)) 36), (36, o_aload 2 37), (37, o_invV 3 42 2 40), (40, o_ifle 46 43), (43, o_push (.int (nM 5)) 45), (45, o_iret), (46, o_aload 0 47), (47, o_getR 4 0 50), (50, o_iload 1 51), (51, o_invV 3 46 1 54), (54, o_aload 2 55), (55, o_getI 0 0 58), (58, o_iret)]
theorem ok80_0 : ∀ q ∈ t80_0, p_Z 80 q := List.forall_mem_cons.mpr ⟨⟨s_aload_n d80_0 rfl, tl_aload _ _⟩, List.forall_mem_cons.mpr ⟨⟨s_iload_n d80_1 rfl, tl_iload _ _⟩, List.forall_mem_cons.mpr ⟨⟨q_invV_84 d80_2 wd_385, tl_invV _ _ _ _⟩, List.forall_mem_cons.mpr ⟨⟨s_ifne d80_5 rfl, tl_ifne _ _⟩, List.forall_mem_cons.mpr ⟨⟨s_bipush d80_8 rfl, tl_push _ _⟩, List.forall_mem_cons.mpr ⟨⟨s_iret d80_10 rfl, tl_iret⟩, List.forall_mem_cons.mpr ⟨⟨s_aload_n d80_11 rfl, tl_aload _ _⟩, List.forall_mem_cons.mpr ⟨⟨f_getR_4_0 d80_12 wd_212, tl_getR _ _ _⟩, List.forall_mem_cons.mpr ⟨⟨f_getI_3_6 d80_15 wd_98, tl_getI _ _ _⟩, List.forall_mem_cons.mpr ⟨⟨s_iconst d80_18 rfl, tl_push _ _⟩, List.forall_mem_cons.mpr ⟨⟨s_iclt d80_19 rfl, tl_iclt _ _⟩, List.forall_mem_cons.mpr ⟨⟨s_bipush d80_22 rfl, tl_push _ _⟩, List.forall_mem_cons.mpr ⟨⟨s_iret d80_24 rfl, tl_iret⟩, List.forall_mem_cons.mpr ⟨⟨s_aload_n d80_25 rfl, tl_aload _ _⟩, List.forall_mem_cons.mpr ⟨⟨s_iload_n d80_26 rfl, tl_iload _ _⟩, List.forall_mem_cons.mpr ⟨⟨q_invV_85 d80_27 wd_393, tl_invV _ _ _ _⟩, List.forall_mem_cons.mpr ⟨⟨s_astore_n d80_30 rfl st1_80_2, tl_astore _ _⟩, List.forall_mem_cons.mpr ⟨⟨s_aload_n d80_31 rfl, tl_aload _ _⟩, List.forall_mem_cons.mpr ⟨⟨f_getR_4_0 d80_32 wd_212, tl_getR _ _ _⟩, List.forall_mem_cons.mpr ⟨⟨s_iconst d80_35 rfl, tl_push _ _⟩, List.forall_mem_cons.mpr ⟨⟨s_aload_n d80_36 rfl, tl_aload _ _⟩, List.forall_mem_cons.mpr ⟨⟨q_invV_42 d80_37 wd_397, tl_invV _ _ _ _⟩, List.forall_mem_cons.mpr ⟨⟨s_ifle d80_40 rfl, tl_ifle _ _⟩, List.forall_mem_cons.mpr ⟨⟨s_bipush d80_43 rfl, tl_push _ _⟩, List.forall_mem_cons.mpr ⟨⟨s_iret d80_45 rfl, tl_iret⟩, List.forall_mem_cons.mpr ⟨⟨s_aload_n d80_46 rfl, tl_aload _ _⟩, List.forall_mem_cons.mpr ⟨⟨f_getR_4_0 d80_47 wd_212, tl_getR _ _ _⟩, List.forall_mem_cons.mpr ⟨⟨s_iload_n d80_50 rfl, tl_iload _ _⟩, List.forall_mem_cons.mpr ⟨⟨q_invV_46 d80_51 wd_418, tl_invV _ _ _ _⟩, List.forall_mem_cons.mpr ⟨⟨s_aload_n d80_54 rfl, tl_aload _ _⟩, List.forall_mem_cons.mpr ⟨⟨f_getI_0_0 d80_55 wd_172, tl_getI _ _ _⟩, List.forall_mem_cons.mpr ⟨⟨s_iret d80_58 rfl, tl_iret⟩, fun _ h => absurd h List.not_mem_nil⟩⟩⟩⟩⟩⟩⟩⟩⟩⟩⟩⟩⟩⟩⟩⟩⟩⟩⟩⟩⟩⟩⟩⟩⟩⟩⟩⟩⟩⟩⟩⟩
def t80 : List (Nat × pO) := t80_0
theorem ok80 : ∀ q ∈ t80, p_Z 80 q := ok80_0
theorem d81_0 : decode (pB 81) 0 = .ok (.aload_n 0, 1) := by decide +kernel
theorem d81_1 : decode (pB 81) 1 = .ok (.iload_n 1, 1) := by decide +kernel
theorem d81_2 : decode (pB 81) 2 = .ok (.invokevirtual 188, 3) := by decide +kernel
theorem d81_5 : decode (pB 81) 5 = .ok (.ifCond .ne 6, 3) := by decide +kernel
theorem d81_8 : decode (pB 81) 8 = .ok (.bipush (-2), 2) := by decide +kernel
theorem d81_10 : decode (pB 81) 10 = .ok (.ireturn, 1) := by decide +kernel
theorem d81_11 : decode (pB 81) 11 = .ok (.aload_n 0, 1) := by decide +kernel
theorem d81_12 : decode (pB 81) 12 = .ok (.getfield 10, 3) := by decide +kernel
theorem d81_15 : decode (pB 81) 15 = .ok (.getfield 172, 3) := by decide +kernel
theorem d81_18 : decode (pB 81) 18 = .ok (.iconst 5, 1) := by decide +kernel
theorem d81_19 : decode (pB 81) 19 = .ok (.if_icmp .lt 6, 3) := by decide +kernel
theorem d81_22 : decode (pB 81) 22 = .ok (.bipush (-4), 2) := by decide +kernel
theorem d81_24 : decode (pB 81) 24 = .ok (.ireturn, 1) := by decide +kernel
theorem d81_25 : decode (pB 81) 25 = .ok (.aload_n 0, 1) := by decide +kernel
theorem d81_26 : decode (pB 81) 26 = .ok (.iload_n 1, 1) := by decide +kernel
theorem d81_27 : decode (pB 81) 27 = .ok (.invokevirtual 191, 3) := by decide +kernel
theorem d81_30 : decode (pB 81) 30 = .ok (.astore_n 2, 1) := by decide +kernel
theorem d81_31 : decode (pB 81) 31 = .ok (.aload_n 0, 1) := by decide +kernel
theorem d81_32 : decode (pB 81) 32 = .ok (.getfield 10, 3) := by decide +kernel
theorem d81_35 : decode (pB 81) 35 = .ok (.iload_n 1, 1) := by decide +kernel
theorem d81_36 : decode (pB 81) 36 = .ok (.invokevirtual 257, 3) := by decide +kernel
theorem d81_39 : decode (pB 81) 39 = .ok (.aload_n 0, 1) := by decide +kernel
theorem d81_40 : decode (pB 81) 40 = .ok (.getfield 10, 3) := by decide +kernel
theorem d81_43 : decode (pB 81) 43 = .ok (.iconst (-1), 1) := by decide +kernel
theorem d81_44 : decode (pB 81) 44 = .ok (.aload_n 2, 1) := by decide +kernel
theorem d81_45 : decode (pB 81) 45 = .ok (.invokevirtual 175, 3) := by decide +kernel
theorem d81_48 : decode (pB 81) 48 = .ok (.ireturn, 1) := by decide +kernel
theorem st1_81_2 : p_st1 81 2 = true := by decide +kernel
/-- RX4.foldByForce -/
def t81_0 : List (Nat × pO) := [(0, o_aload 0 1), (1, o_iload 1 2), (2, o_invV 4 84 1 5), (5, o_ifne 11 8), (8, o_push (.int (nM 2)) 10), (10, o_iret), (11, o_aload 0 12), (12, o_getR 4 0 15), (15, o_getI 3 6 18), (18, o_push (.int (nI 5)) 19), (19, o_iclt 25 22), (22, o_push (.int (nM 4)) 24), (24, o_iret), (25, o_aload 0 26), (26, o_iload 1 27), (27, o_invV 4 85 1 30), (30, o_astore 2 31), (31, o_aload 0 32), (32, o_getR 4 0 35), (35, o_iload 1 36), (36, o_invV 3 46 1 39), (39, o_aload 0 40), (40, o_getR 4 0 43), (43, o_push (.int (nM 1)) 44), (44, o_aload 2 45), (45, o_invV 3 42 2 48), (48, o_iret)]
theorem ok81_0 : ∀ q ∈ t81_0, p_Z 81 q := List.forall_mem_cons.mpr ⟨⟨s_aload_n d81_0 rfl, tl_aload _ _⟩, List.forall_mem_cons.mpr ⟨⟨s_iload_n d81_1 rfl, tl_iload _ _⟩, List.forall_mem_cons.mpr ⟨⟨q_invV_84 d81_2 wd_385, tl_invV _ _ _ _⟩, List.forall_mem_cons.mpr ⟨⟨s_ifne d81_5 rfl, tl_ifne _ _⟩, List.forall_mem_cons.mpr ⟨⟨s_bipush d81_8 rfl, tl_push _ _⟩, List.forall_mem_cons.mpr ⟨⟨s_iret d81_10 rfl, tl_iret⟩, List.forall_mem_cons.mpr ⟨⟨s_aload_n d81_11 rfl, tl_aload _ _⟩, List.forall_mem_cons.mpr ⟨⟨f_getR_4_0 d81_12 wd_212, tl_getR _ _ _⟩, List.forall_mem_cons.mpr ⟨⟨f_getI_3_6 d81_15 wd_98, tl_getI _ _ _⟩, List.forall_mem_cons.mpr ⟨⟨s_iconst d81_18 rfl, tl_push _ _⟩, List.forall_mem_cons.mpr ⟨⟨s_iclt d81_19 rfl, tl_iclt _ _⟩, List.forall_mem_cons.mpr ⟨⟨s_bipush d81_22 rfl, tl_push _ _⟩, List.forall_mem_cons.mpr ⟨⟨s_iret d81_24 rfl, tl_iret⟩, List.forall_mem_cons.mpr ⟨⟨s_aload_n d81_25 rfl, tl_aload _ _⟩, List.forall_mem_cons.mpr ⟨⟨s_iload_n d81_26 rfl, tl_iload _ _⟩, List.forall_mem_cons.mpr ⟨⟨q_invV_85 d81_27 wd_393, tl_invV _ _ _ _⟩, List.forall_mem_cons.mpr ⟨⟨s_astore_n d81_30 rfl st1_81_2, tl_astore _ _⟩, List.forall_mem_cons.mpr ⟨⟨s_aload_n d81_31 rfl, tl_aload _ _⟩, List.forall_mem_cons.mpr ⟨⟨f_getR_4_0 d81_32 wd_212, tl_getR _ _ _⟩, List.forall_mem_cons.mpr ⟨⟨s_iload_n d81_35 rfl, tl_iload _ _⟩, List.forall_mem_cons.mpr ⟨⟨q_invV_46 d81_36 wd_418, tl_invV _ _ _ _⟩, List.forall_mem_cons.mpr ⟨⟨s_aload_n d81_39 rfl, tl_aload _ _⟩, List.forall_mem_cons.mpr ⟨⟨f_getR_4_0 d81_40 wd_212, tl_getR _ _ _⟩, List.forall_mem_cons.mpr ⟨⟨s_iconst d81_43 rfl, tl_push _ _⟩, List.forall_mem_cons.mpr ⟨⟨s_aload_n d81_44 rfl, tl_aload _ _⟩, List.forall_mem_cons.mpr ⟨⟨q_invV_42 d81_45 wd_397, tl_invV _ _ _ _⟩, List.forall_mem_cons.mpr ⟨⟨s_iret d81_48 rfl, tl_iret⟩, fun _ h => absurd h List.not_mem_nil⟩⟩⟩⟩⟩⟩⟩⟩⟩⟩⟩⟩⟩⟩⟩⟩⟩⟩⟩⟩⟩⟩⟩⟩⟩⟩⟩
def t81 : List (Nat × pO) := t81_0
theorem ok81 : ∀ q ∈ t81, p_Z 81 q := ok81_0
theorem d82_0 : decode (pB 82) 0 = .ok (.aload_n 0, 1) := by decide +kernel
theorem d82_1 : decode (pB 82) 1 = .ok (.getfield 10, 3) := by decide +kernel
theorem d82_4 : decode (pB 82) 4 = .ok (.getfield 172, 3) := by decide +kernel
theorem d82_7 : decode (pB 82) 7 = .ok (.ifCond .ne 6, 3) := by decide +kernel
theorem d82_10 : decode (pB 82) 10 = .ok (.bipush (-5), 2) := by decide +kernel
theorem d82_12 : decode (pB 82) 12 = .ok (.ireturn, 1) := by decide +kernel
theorem d82_13 : decode (pB 82) 13 = .ok (.aload_n 0, 1) := by decide +kernel
theorem d82_14 : decode (pB 82) 14 = .ok (.getfield 10, 3) := by decide +kernel
theorem d82_17 : decode (pB 82) 17 = .ok (.dup, 1) := by decide +kernel
theorem d82_18 : decode (pB 82) 18 = .ok (.getfield 172, 3) := by decide +kernel
theorem d82_21 : decode (pB 82) 21 = .ok (.iconst 1, 1) := by decide +kernel
theorem d82_22 : decode (pB 82) 22 = .ok (.isub, 1) := by decide +kernel
theorem d82_23 : decode (pB 82) 23 = .ok (.putfield 172, 3) := by decide +kernel
theorem d82_26 : decode (pB 82) 26 = .ok (.aload_n 0, 1) := by decide +kernel
theorem d82_27 : decode (pB 82) 27 = .ok (.getfield 10, 3) := by decide +kernel
theorem d82_30 : decode (pB 82) 30 = .ok (.getfield 260, 3) := by decide +kernel
theorem d82_33 : decode (pB 82) 33 = .ok (.aload_n 0, 1) := by decide +kernel
theorem d82_34 : decode (pB 82) 34 = .ok (.getfield 10, 3) := by decide +kernel
theorem d82_37 : decode (pB 82) 37 = .ok (.getfield 172, 3) := by decide +kernel
theorem d82_40 : decode (pB 82) 40 = .ok (.iaload, 1) := by decide +kernel
theorem d82_41 : decode (pB 82) 41 = .ok (.ireturn, 1) := by decide +kernel
/-- RX4.takeFoldBack -/
def t82_0 : List (Nat × pO) := [(0, o_aload 0 1), (1, o_getR 4 0 4), (4, o_getI 3 6 7), (7, o_ifne 13 10), (10, o_push (.int (nM 5)) 12), (12, o_iret), (13, o_aload 0 14), (14, o_getR 4 0 17), (17, o_dupr 18), (18, o_getI 3 6 21), (21, o_push (.int (nI 1)) 22), (22, o_isub 23), (23, o_putI 3 6 26), (26, o_aload 0 27), (27, o_getR 4 0 30), (30, o_getR 3 4 33), (33, o_aload 0 34), (34, o_getR 4 0 37), (37, o_getI 3 6 40), (40, o_iald 41), (41, o_iret)]
theorem ok82_0 : ∀ q ∈ t82_0, p_Z 82 q := List.forall_mem_cons.mpr ⟨⟨s_aload_n d82_0 rfl, tl_aload _ _⟩, List.forall_mem_cons.mpr ⟨⟨f_getR_4_0 d82_1 wd_212, tl_getR _ _ _⟩, List.forall_mem_cons.mpr ⟨⟨f_getI_3_6 d82_4 wd_98, tl_getI _ _ _⟩, List.forall_mem_cons.mpr ⟨⟨s_ifne d82_7 rfl, tl_ifne _ _⟩, List.forall_mem_cons.mpr ⟨⟨s_bipush d82_10 rfl, tl_push _ _⟩, List.forall_mem_cons.mpr ⟨⟨s_iret d82_12 rfl, tl_iret⟩, List.forall_mem_cons.mpr ⟨⟨s_aload_n d82_13 rfl, tl_aload _ _⟩, List.forall_mem_cons.mpr ⟨⟨f_getR_4_0 d82_14 wd_212, tl_getR _ _ _⟩, List.forall_mem_cons.mpr ⟨⟨s_dupr d82_17, tl_dupr _⟩, List.forall_mem_cons.mpr ⟨⟨f_getI_3_6 d82_18 wd_98, tl_getI _ _ _⟩, List.forall_mem_cons.mpr ⟨⟨s_iconst d82_21 rfl, tl_push _ _⟩, List.forall_mem_cons.mpr ⟨⟨s_isub d82_22, tl_isub _⟩, List.forall_mem_cons.mpr ⟨⟨f_putI_3_6 d82_23 wd_98, tl_putI _ _ _⟩, List.forall_mem_cons.mpr ⟨⟨s_aload_n d82_26 rfl, tl_aload _ _⟩, List.forall_mem_cons.mpr ⟨⟨f_getR_4_0 d82_27 wd_212, tl_getR _ _ _⟩, List.forall_mem_cons.mpr ⟨⟨f_getR_3_4 d82_30 wd_94, tl_getR _ _ _⟩, List.forall_mem_cons.mpr ⟨⟨s_aload_n d82_33 rfl, tl_aload _ _⟩, List.forall_mem_cons.mpr ⟨⟨f_getR_4_0 d82_34 wd_212, tl_getR _ _ _⟩, List.forall_mem_cons.mpr ⟨⟨f_getI_3_6 d82_37 wd_98, tl_getI _ _ _⟩, List.forall_mem_cons.mpr ⟨⟨s_iald d82_40, tl_iald _⟩, List.forall_mem_cons.mpr ⟨⟨s_iret d82_41 rfl, tl_iret⟩, fun _ h => absurd h List.not_mem_nil⟩⟩⟩⟩⟩⟩⟩⟩⟩⟩⟩⟩⟩⟩⟩⟩⟩⟩⟩⟩⟩
def t82 : List (Nat × pO) := t82_0
theorem ok82 : ∀ q ∈ t82, p_Z 82 q := ok82_0
theorem d83_0 : decode (pB 83) 0 = .ok (.aload_n 0, 1) := by decide +kernel
theorem d83_1 : decode (pB 83) 1 = .ok (.getfield 33, 3) := by decide +kernel
theorem d83_4 : decode (pB 83) 4 = .ok (.aload_n 0, 1) := by decide +kernel
theorem d83_5 : decode (pB 83) 5 = .ok (.getfield 10, 3) := by decide +kernel
theorem d83_8 : decode (pB 83) 8 = .ok (.getfield 172, 3) := by decide +kernel
theorem d83_11 : decode (pB 83) 11 = .ok (.aaload, 1) := by decide +kernel
theorem d83_12 : decode (pB 83) 12 = .ok (.areturn, 1) := by decide +kernel
/-- RX4.lying -/
def t83_0 : List (Nat × pO) := [(0, o_aload 0 1), (1, o_getR 4 5 4), (4, o_aload 0 5), (5, o_getR 4 0 8), (8, o_getI 3 6 11), (11, o_aald 12), (12, o_aret)]
theorem ok83_0 : ∀ q ∈ t83_0, p_Z 83 q := List.forall_mem_cons.mpr ⟨⟨s_aload_n d83_0 rfl, tl_aload _ _⟩, List.forall_mem_cons.mpr ⟨⟨f_getR_4_5 d83_1 wd_217, tl_getR _ _ _⟩, List.forall_mem_cons.mpr ⟨⟨s_aload_n d83_4 rfl, tl_aload _ _⟩, List.forall_mem_cons.mpr ⟨⟨f_getR_4_0 d83_5 wd_212, tl_getR _ _ _⟩, List.forall_mem_cons.mpr ⟨⟨f_getI_3_6 d83_8 wd_98, tl_getI _ _ _⟩, List.forall_mem_cons.mpr ⟨⟨s_aald d83_11, tl_aald _⟩, List.forall_mem_cons.mpr ⟨⟨s_aret d83_12 rfl, tl_aret⟩, fun _ h => absurd h List.not_mem_nil⟩⟩⟩⟩⟩⟩⟩
def t83 : List (Nat × pO) := t83_0
theorem ok83 : ∀ q ∈ t83, p_Z 83 q := ok83_0
theorem d84_0 : decode (pB 84) 0 = .ok (.iload_n 1, 1) := by decide +kernel
theorem d84_1 : decode (pB 84) 1 = .ok (.iconst 1, 1) := by decide +kernel
theorem d84_2 : decode (pB 84) 2 = .ok (.if_icmp .lt 18, 3) := by decide +kernel
theorem d84_5 : decode (pB 84) 5 = .ok (.iload_n 1, 1) := by decide +kernel
theorem d84_6 : decode (pB 84) 6 = .ok (.aload_n 0, 1) := by decide +kernel
theorem d84_7 : decode (pB 84) 7 = .ok (.invokevirtual 95, 3) := by decide +kernel
theorem d84_10 : decode (pB 84) 10 = .ok (.getfield 104, 3) := by decide +kernel
theorem d84_13 : decode (pB 84) 13 = .ok (.if_icmp .ge 7, 3) := by decide +kernel
theorem d84_16 : decode (pB 84) 16 = .ok (.iconst 1, 1) := by decide +kernel
theorem d84_17 : decode (pB 84) 17 = .ok (.goto 4, 3) := by decide +kernel
theorem d84_20 : decode (pB 84) 20 = .ok (.iconst 0, 1) := by decide +kernel
theorem d84_21 : decode (pB 84) 21 = .ok (.ireturn, 1) := by decide +kernel
/-- RX4.isGap -/
def t84_0 : List (Nat × pO) := [(0, o_iload 1 1), (1, o_push (.int (nI 1)) 2), (2, o_iclt 20 5), (5, o_iload 1 6), (6, o_aload 0 7), (7, o_invV 4 83 0 10), (10, o_getI 0 0 13), (13, o_icge 20 16), (16, o_push (.int (nI 1)) 17), (17, o_goto 21), (20, o_push (.int (nI 0)) 21), (21, o_zret)]
theorem ok84_0 : ∀ q ∈ t84_0, p_Z 84 q := List.forall_mem_cons.mpr ⟨⟨s_iload_n d84_0 rfl, tl_iload _ _⟩, List.forall_mem_cons.mpr ⟨⟨s_iconst d84_1 rfl, tl_push _ _⟩, List.forall_mem_cons.mpr ⟨⟨s_iclt d84_2 rfl, tl_iclt _ _⟩, List.forall_mem_cons.mpr ⟨⟨s_iload_n d84_5 rfl, tl_iload _ _⟩, List.forall_mem_cons.mpr ⟨⟨s_aload_n d84_6 rfl, tl_aload _ _⟩, List.forall_mem_cons.mpr ⟨⟨q_invV_83 d84_7 wd_389, tl_invV _ _ _ _⟩, List.forall_mem_cons.mpr ⟨⟨f_getI_0_0 d84_10 wd_172, tl_getI _ _ _⟩, List.forall_mem_cons.mpr ⟨⟨s_icge d84_13 rfl, tl_icge _ _⟩, List.forall_mem_cons.mpr ⟨⟨s_iconst d84_16 rfl, tl_push _ _⟩, List.forall_mem_cons.mpr ⟨⟨s_goto d84_17 rfl, tl_goto _⟩, List.forall_mem_cons.mpr ⟨⟨s_iconst d84_20 rfl, tl_push _ _⟩, List.forall_mem_cons.mpr ⟨⟨s_zret d84_21 rfl, tl_zret⟩, fun _ h => absurd h List.not_mem_nil⟩⟩⟩⟩⟩⟩⟩⟩⟩⟩⟩⟩
def t84 : List (Nat × pO) := t84_0
theorem ok84 : ∀ q ∈ t84, p_Z 84 q := ok84_0
theorem d85_0 : decode (pB 85) 0 = .ok (.aload_n 0, 1) := by decide +kernel
theorem d85_1 : decode (pB 85) 1 = .ok (.getfield 33, 3) := by decide +kernel
theorem d85_4 : decode (pB 85) 4 = .ok (.aload_n 0, 1) := by decide +kernel
theorem d85_5 : decode (pB 85) 5 = .ok (.getfield 10, 3) := by decide +kernel
theorem d85_8 : decode (pB 85) 8 = .ok (.getfield 172, 3) := by decide +kernel
theorem d85_11 : decode (pB 85) 11 = .ok (.iconst 1, 1) := by decide +kernel
theorem d85_12 : decode (pB 85) 12 = .ok (.iadd, 1) := by decide +kernel
theorem d85_13 : decode (pB 85) 13 = .ok (.aaload, 1) := by decide +kernel
theorem d85_14 : decode (pB 85) 14 = .ok (.astore_n 2, 1) := by decide +kernel
theorem d85_15 : decode (pB 85) 15 = .ok (.aload_n 2, 1) := by decide +kernel
theorem d85_16 : decode (pB 85) 16 = .ok (.aload_n 0, 1) := by decide +kernel
theorem d85_17 : decode (pB 85) 17 = .ok (.invokevirtual 95, 3) := by decide +kernel
theorem d85_20 : decode (pB 85) 20 = .ok (.iload_n 1, 1) := by decide +kernel
theorem d85_21 : decode (pB 85) 21 = .ok (.invokevirtual 263, 3) := by decide +kernel
theorem d85_24 : decode (pB 85) 24 = .ok (.aload_n 2, 1) := by decide +kernel
theorem d85_25 : decode (pB 85) 25 = .ok (.areturn, 1) := by decide +kernel
theorem st1_85_2 : p_st1 85 2 = true := by decide +kernel
/-- RX4.tryFold -/
def t85_0 : List (Nat × pO) := [(0, o_aload 0 1), (1, o_getR 4 5 4), (4, o_aload 0 5), (5, o_getR 4 0 8), (8, o_getI 3 6 11), (11, o_push (.int (nI 1)) 12), (12, o_iadd 13), (13, o_aald 14), (14, o_astore 2 15), (15, o_aload 2 16), (16, o_aload 0 17), (17, o_invV 4 83 0 20), (20, o_iload 1 21), (21, o_invV 0 2 2 24), (24, o_aload 2 25), (25, o_aret)]
theorem ok85_0 : ∀ q ∈ t85_0, p_Z 85 q := List.forall_mem_cons.mpr ⟨⟨s_aload_n d85_0 rfl, tl_aload _ _⟩, List.forall_mem_cons.mpr ⟨⟨f_getR_4_5 d85_1 wd_217, tl_getR _ _ _⟩, List.forall_mem_cons.mpr ⟨⟨s_aload_n d85_4 rfl, tl_aload _ _⟩, List.forall_mem_cons.mpr ⟨⟨f_getR_4_0 d85_5 wd_212, tl_getR _ _ _⟩, List.forall_mem_cons.mpr ⟨⟨f_getI_3_6 d85_8 wd_98, tl_getI _ _ _⟩, List.forall_mem_cons.mpr ⟨⟨s_iconst d85_11 rfl, tl_push _ _⟩, List.forall_mem_cons.mpr ⟨⟨s_iadd d85_12, tl_iadd _⟩, List.forall_mem_cons.mpr ⟨⟨s_aald d85_13, tl_aald _⟩, List.forall_mem_cons.mpr ⟨⟨s_astore_n d85_14 rfl st1_85_2, tl_astore _ _⟩, List.forall_mem_cons.mpr ⟨⟨s_aload_n d85_15 rfl, tl_aload _ _⟩, List.forall_mem_cons.mpr ⟨⟨s_aload_n d85_16 rfl, tl_aload _ _⟩, List.forall_mem_cons.mpr ⟨⟨q_invV_83 d85_17 wd_389, tl_invV _ _ _ _⟩, List.forall_mem_cons.mpr ⟨⟨s_iload_n d85_20 rfl, tl_iload _ _⟩, List.forall_mem_cons.mpr ⟨⟨q_invV_2 d85_21 wd_268, tl_invV _ _ _ _⟩, List.forall_mem_cons.mpr ⟨⟨s_aload_n d85_24 rfl, tl_aload _ _⟩, List.forall_mem_cons.mpr ⟨⟨s_aret d85_25 rfl, tl_aret⟩, fun _ h => absurd h List.not_mem_nil⟩⟩⟩⟩⟩⟩⟩⟩⟩⟩⟩⟩⟩⟩⟩⟩
def t85 : List (Nat × pO) := t85_0
theorem ok85 : ∀ q ∈ t85, p_Z 85 q := ok85_0
theorem d86_0 : decode (pB 86) 0 = .ok (.aload_n 0, 1) := by decide +kernel
theorem d86_1 : decode (pB 86) 1 = .ok (.getfield 33, 3) := by decide +kernel
theorem d86_4 : decode (pB 86) 4 = .ok (.iconst 0, 1) := by decide +kernel
theorem d86_5 : decode (pB 86) 5 = .ok (.aaload, 1) := by decide +kernel
theorem d86_6 : decode (pB 86) 6 = .ok (.aload_n 0, 1) := by decide +kernel
theorem d86_7 : decode (pB 86) 7 = .ok (.getfield 10, 3) := by decide +kernel
theorem d86_10 : decode (pB 86) 10 = .ok (.getfield 185, 3) := by decide +kernel
theorem d86_13 : decode (pB 86) 13 = .ok (.iconst 0, 1) := by decide +kernel
theorem d86_14 : decode (pB 86) 14 = .ok (.iaload, 1) := by decide +kernel
theorem d86_15 : decode (pB 86) 15 = .ok (.invokevirtual 54, 3) := by decide +kernel
theorem d86_18 : decode (pB 86) 18 = .ok (.iconst 0, 1) := by decide +kernel
theorem d86_19 : decode (pB 86) 19 = .ok (.istore_n 1, 1) := by decide +kernel
theorem d86_20 : decode (pB 86) 20 = .ok (.iload_n 1, 1) := by decide +kernel
theorem d86_21 : decode (pB 86) 21 = .ok (.aload_n 0, 1) := by decide +kernel
theorem d86_22 : decode (pB 86) 22 = .ok (.getfield 10, 3) := by decide +kernel
theorem d86_25 : decode (pB 86) 25 = .ok (.getfield 172, 3) := by decide +kernel
theorem d86_28 : decode (pB 86) 28 = .ok (.if_icmp .ge 35, 3) := by decide +kernel
theorem d86_31 : decode (pB 86) 31 = .ok (.aload_n 0, 1) := by decide +kernel
theorem d86_32 : decode (pB 86) 32 = .ok (.getfield 33, 3) := by decide +kernel
theorem d86_35 : decode (pB 86) 35 = .ok (.iload_n 1, 1) := by decide +kernel
theorem d86_36 : decode (pB 86) 36 = .ok (.iconst 1, 1) := by decide +kernel
theorem d86_37 : decode (pB 86) 37 = .ok (.iadd, 1) := by decide +kernel
theorem d86_38 : decode (pB 86) 38 = .ok (.aaload, 1) := by decide +kernel
theorem d86_39 : decode (pB 86) 39 = .ok (.aload_n 0, 1) := by decide +kernel
theorem d86_40 : decode (pB 86) 40 = .ok (.getfield 33, 3) := by decide +kernel
theorem d86_43 : decode (pB 86) 43 = .ok (.iload_n 1, 1) := by decide +kernel
theorem d86_44 : decode (pB 86) 44 = .ok (.aaload, 1) := by decide +kernel
theorem d86_45 : decode (pB 86) 45 = .ok (.aload_n 0, 1) := by decide +kernel
theorem d86_46 : decode (pB 86) 46 = .ok (.getfield 10, 3) := by decide +kernel
theorem d86_49 : decode (pB 86) 49 = .ok (.getfield 260, 3) := by decide +kernel
theorem d86_52 : decode (pB 86) 52 = .ok (.iload_n 1, 1) := by decide +kernel
theorem d86_53 : decode (pB 86) 53 = .ok (.iaload, 1) := by decide +kernel
theorem d86_54 : decode (pB 86) 54 = .ok (.invokevirtual 263, 3) := by decide +kernel
theorem d86_57 : decode (pB 86) 57 = .ok (.iinc 1 1, 3) := by decide +kernel
theorem d86_60 : decode (pB 86) 60 = .ok (.goto (-40), 3) := by decide +kernel
theorem d86_63 : decode (pB 86) 63 = .ok (.return_, 1) := by decide +kernel
theorem st1_86_1 : p_st1 86 1 = true := by decide +kernel
/-- RX4.layAgain -/
def t86_0 : List (Nat × pO) := [(0, o_aload 0 1), (1, o_getR 4 5 4), (4, o_push (.int (nI 0)) 5), (5, o_aald 6), (6, o_aload 0 7), (7, o_getR 4 0 10), (10, o_getR 3 0 13), (13, o_push (.int (nI 0)) 14), (14, o_iald 15), (15, o_invV 0 1 1 18), (18, o_push (.int (nI 0)) 19), (19, o_istore 1 20), (20, o_iload 1 21), (21, o_aload 0 22), (22, o_getR 4 0 25), (25, o_getI 3 6 28), (28, o_icge 63 31), (31, o_aload 0 32), (32, o_getR 4 5 35), (35, o_iload 1 36), (36, o_push (.int (nI 1)) 37), (37, o_iadd 38), (38, o_aald 39), (39, o_aload 0 40), (40, o_getR 4 5 43), (43, o_iload 1 44), (44, o_aald 45), (45, o_aload 0 46), (46, o_getR 4 0 49), (49, o_getR 3 4 52), (52, o_iload 1 53), (53, o_iald 54), (54, o_invV 0 2 2 57), (57, o_iinc 1 (nI 1) 60), (60, o_goto 20), (63, o_vret)]
theorem ok86_0 : ∀ q ∈ t86_0, p_Z 86 q := List.forall_mem_cons.mpr ⟨⟨s_aload_n d86_0 rfl, tl_aload _ _⟩, List.forall_mem_cons.mpr ⟨⟨f_getR_4_5 d86_1 wd_217, tl_getR _ _ _⟩, List.forall_mem_cons.mpr ⟨⟨s_iconst d86_4 rfl, tl_push _ _⟩, List.forall_mem_cons.mpr ⟨⟨s_aald d86_5, tl_aald _⟩, List.forall_mem_cons.mpr ⟨⟨s_aload_n d86_6 rfl, tl_aload _ _⟩, List.forall_mem_cons.mpr ⟨⟨f_getR_4_0 d86_7 wd_212, tl_getR _ _ _⟩, List.forall_mem_cons.mpr ⟨⟨f_getR_3_0 d86_10 wd_86, tl_getR _ _ _⟩, List.forall_mem_cons.mpr ⟨⟨s_iconst d86_13 rfl, tl_push _ _⟩, List.forall_mem_cons.mpr ⟨⟨s_iald d86_14, tl_iald _⟩, List.forall_mem_cons.mpr ⟨⟨q_invV_1 d86_15 wd_196, tl_invV _ _ _ _⟩, List.forall_mem_cons.mpr ⟨⟨s_iconst d86_18 rfl, tl_push _ _⟩, List.forall_mem_cons.mpr ⟨⟨s_istore_n d86_19 rfl st1_86_1, tl_istore _ _⟩, List.forall_mem_cons.mpr ⟨⟨s_iload_n d86_20 rfl, tl_iload _ _⟩, List.forall_mem_cons.mpr ⟨⟨s_aload_n d86_21 rfl, tl_aload _ _⟩, List.forall_mem_cons.mpr ⟨⟨f_getR_4_0 d86_22 wd_212, tl_getR _ _ _⟩, List.forall_mem_cons.mpr ⟨⟨f_getI_3_6 d86_25 wd_98, tl_getI _ _ _⟩, List.forall_mem_cons.mpr ⟨⟨s_icge d86_28 rfl, tl_icge _ _⟩, List.forall_mem_cons.mpr ⟨⟨s_aload_n d86_31 rfl, tl_aload _ _⟩, List.forall_mem_cons.mpr ⟨⟨f_getR_4_5 d86_32 wd_217, tl_getR _ _ _⟩, List.forall_mem_cons.mpr ⟨⟨s_iload_n d86_35 rfl, tl_iload _ _⟩, List.forall_mem_cons.mpr ⟨⟨s_iconst d86_36 rfl, tl_push _ _⟩, List.forall_mem_cons.mpr ⟨⟨s_iadd d86_37, tl_iadd _⟩, List.forall_mem_cons.mpr ⟨⟨s_aald d86_38, tl_aald _⟩, List.forall_mem_cons.mpr ⟨⟨s_aload_n d86_39 rfl, tl_aload _ _⟩, List.forall_mem_cons.mpr ⟨⟨f_getR_4_5 d86_40 wd_217, tl_getR _ _ _⟩, List.forall_mem_cons.mpr ⟨⟨s_iload_n d86_43 rfl, tl_iload _ _⟩, List.forall_mem_cons.mpr ⟨⟨s_aald d86_44, tl_aald _⟩, List.forall_mem_cons.mpr ⟨⟨s_aload_n d86_45 rfl, tl_aload _ _⟩, List.forall_mem_cons.mpr ⟨⟨f_getR_4_0 d86_46 wd_212, tl_getR _ _ _⟩, List.forall_mem_cons.mpr ⟨⟨f_getR_3_4 d86_49 wd_94, tl_getR _ _ _⟩, List.forall_mem_cons.mpr ⟨⟨s_iload_n d86_52 rfl, tl_iload _ _⟩, List.forall_mem_cons.mpr ⟨⟨s_iald d86_53, tl_iald _⟩, List.forall_mem_cons.mpr ⟨⟨q_invV_2 d86_54 wd_268, tl_invV _ _ _ _⟩, List.forall_mem_cons.mpr ⟨⟨s_iinc d86_57 rfl st1_86_1, tl_iinc _ _ _⟩, List.forall_mem_cons.mpr ⟨⟨s_goto d86_60 rfl, tl_goto _⟩, List.forall_mem_cons.mpr ⟨⟨s_vret d86_63 rfl, tl_vret⟩, fun _ h => absurd h List.not_mem_nil⟩⟩⟩⟩⟩⟩⟩⟩⟩⟩⟩⟩⟩⟩⟩⟩⟩⟩⟩⟩⟩⟩⟩⟩⟩⟩⟩⟩⟩⟩⟩⟩⟩⟩⟩⟩
def t86 : List (Nat × pO) := t86_0
theorem ok86 : ∀ q ∈ t86, p_Z 86 q := ok86_0
theorem d87_0 : decode (pB 87) 0 = .ok (.aload_n 0, 1) := by decide +kernel
theorem d87_1 : decode (pB 87) 1 = .ok (.getfield 10, 3) := by decide +kernel
theorem d87_4 : decode (pB 87) 4 = .ok (.iload_n 1, 1) := by decide +kernel
theorem d87_5 : decode (pB 87) 5 = .ok (.iload_n 2, 1) := by decide +kernel
theorem d87_6 : decode (pB 87) 6 = .ok (.invokevirtual 241, 3) := by decide +kernel
theorem d87_9 : decode (pB 87) 9 = .ok (.aload_n 0, 1) := by decide +kernel
theorem d87_10 : decode (pB 87) 10 = .ok (.getfield 10, 3) := by decide +kernel
theorem d87_13 : decode (pB 87) 13 = .ok (.iconst (-1), 1) := by decide +kernel
theorem d87_14 : decode (pB 87) 14 = .ok (.aload_n 0, 1) := by decide +kernel
theorem d87_15 : decode (pB 87) 15 = .ok (.invokevirtual 95, 3) := by decide +kernel
theorem d87_18 : decode (pB 87) 18 = .ok (.invokevirtual 175, 3) := by decide +kernel
theorem d87_21 : decode (pB 87) 21 = .ok (.istore_n 3, 1) := by decide +kernel
theorem d87_22 : decode (pB 87) 22 = .ok (.aload_n 0, 1) := by decide +kernel
theorem d87_23 : decode (pB 87) 23 = .ok (.getfield 10, 3) := by decide +kernel
theorem d87_26 : decode (pB 87) 26 = .ok (.iload_n 1, 1) := by decide +kernel
theorem d87_27 : decode (pB 87) 27 = .ok (.iload_n 2, 1) := by decide +kernel
theorem d87_28 : decode (pB 87) 28 = .ok (.invokevirtual 241, 3) := by decide +kernel
theorem d87_31 : decode (pB 87) 31 = .ok (.iload_n 3, 1) := by decide +kernel
theorem d87_32 : decode (pB 87) 32 = .ok (.ireturn, 1) := by decide +kernel
theorem st1_87_3 : p_st1 87 3 = true := by decide +kernel
/-- RX4.foesIfSwapped -/
def t87_0 : List (Nat × pO) := [(0, o_aload 0 1), (1, o_getR 4 0 4), (4, o_iload 1 5), (5, o_iload 2 6), (6, o_invV 3 38 2 9), (9, o_aload 0 10), (10, o_getR 4 0 13), (13, o_push (.int (nM 1)) 14), (14, o_aload 0 15), (15, o_invV 4 83 0 18), (18, o_invV 3 42 2 21), (21, o_istore 3 22), (22, o_aload 0 23), (23, o_getR 4 0 26), (26, o_iload 1 27), (27, o_iload 2 28), (28, o_invV 3 38 2 31), (31, o_iload 3 32), (32, o_iret)]
theorem ok87_0 : ∀ q ∈ t87_0, p_Z 87 q := List.forall_mem_cons.mpr ⟨⟨s_aload_n d87_0 rfl, tl_aload _ _⟩, List.forall_mem_cons.mpr ⟨⟨f_getR_4_0 d87_1 wd_212, tl_getR _ _ _⟩, List.forall_mem_cons.mpr ⟨⟨s_iload_n d87_4 rfl, tl_iload _ _⟩, List.forall_mem_cons.mpr ⟨⟨s_iload_n d87_5 rfl, tl_iload _ _⟩, List.forall_mem_cons.mpr ⟨⟨q_invV_38 d87_6 wd_338, tl_invV _ _ _ _⟩, List.forall_mem_cons.mpr ⟨⟨s_aload_n d87_9 rfl, tl_aload _ _⟩, List.forall_mem_cons.mpr ⟨⟨f_getR_4_0 d87_10 wd_212, tl_getR _ _ _⟩, List.forall_mem_cons.mpr ⟨⟨s_iconst d87_13 rfl, tl_push _ _⟩, List.forall_mem_cons.mpr ⟨⟨s_aload_n d87_14 rfl, tl_aload _ _⟩, List.forall_mem_cons.mpr ⟨⟨q_invV_83 d87_15 wd_389, tl_invV _ _ _ _⟩, List.forall_mem_cons.mpr ⟨⟨q_invV_42 d87_18 wd_397, tl_invV _ _ _ _⟩, List.forall_mem_cons.mpr ⟨⟨s_istore_n d87_21 rfl st1_87_3, tl_istore _ _⟩, List.forall_mem_cons.mpr ⟨⟨s_aload_n d87_22 rfl, tl_aload _ _⟩, List.forall_mem_cons.mpr ⟨⟨f_getR_4_0 d87_23 wd_212, tl_getR _ _ _⟩, List.forall_mem_cons.mpr ⟨⟨s_iload_n d87_26 rfl, tl_iload _ _⟩, List.forall_mem_cons.mpr ⟨⟨s_iload_n d87_27 rfl, tl_iload _ _⟩, List.forall_mem_cons.mpr ⟨⟨q_invV_38 d87_28 wd_338, tl_invV _ _ _ _⟩, List.forall_mem_cons.mpr ⟨⟨s_iload_n d87_31 rfl, tl_iload _ _⟩, List.forall_mem_cons.mpr ⟨⟨s_iret d87_32 rfl, tl_iret⟩, fun _ h => absurd h List.not_mem_nil⟩⟩⟩⟩⟩⟩⟩⟩⟩⟩⟩⟩⟩⟩⟩⟩⟩⟩⟩
def t87 : List (Nat × pO) := t87_0
theorem ok87 : ∀ q ∈ t87, p_Z 87 q := ok87_0
theorem d88_0 : decode (pB 88) 0 = .ok (.aload_n 1, 1) := by decide +kernel
theorem d88_1 : decode (pB 88) 1 = .ok (.iload_n 2, 1) := by decide +kernel
theorem d88_2 : decode (pB 88) 2 = .ok (.aaload, 1) := by decide +kernel
theorem d88_3 : decode (pB 88) 3 = .ok (.astore 4, 2) := by decide +kernel
theorem d88_5 : decode (pB 88) 5 = .ok (.aload 4, 2) := by decide +kernel
theorem d88_7 : decode (pB 88) 7 = .ok (.getfield 104, 3) := by decide +kernel
theorem d88_10 : decode (pB 88) 10 = .ok (.iconst 1, 1) := by decide +kernel
theorem d88_11 : decode (pB 88) 11 = .ok (.if_icmp .ne 5, 3) := by decide +kernel
theorem d88_14 : decode (pB 88) 14 = .ok (.iconst 1, 1) := by decide +kernel
theorem d88_15 : decode (pB 88) 15 = .ok (.ireturn, 1) := by decide +kernel
theorem d88_16 : decode (pB 88) 16 = .ok (.iload_n 2, 1) := by decide +kernel
theorem d88_17 : decode (pB 88) 17 = .ok (.iload_n 3, 1) := by decide +kernel
theorem d88_18 : decode (pB 88) 18 = .ok (.if_icmp .ge 21, 3) := by decide +kernel
theorem d88_21 : decode (pB 88) 21 = .ok (.iload_n 2, 1) := by decide +kernel
theorem d88_22 : decode (pB 88) 22 = .ok (.iconst 5, 1) := by decide +kernel
theorem d88_23 : decode (pB 88) 23 = .ok (.if_icmp .ge 16, 3) := by decide +kernel
theorem d88_26 : decode (pB 88) 26 = .ok (.aload 4, 2) := by decide +kernel
theorem d88_28 : decode (pB 88) 28 = .ok (.getfield 104, 3) := by decide +kernel
theorem d88_31 : decode (pB 88) 31 = .ok (.iconst 1, 1) := by decide +kernel
theorem d88_32 : decode (pB 88) 32 = .ok (.iload_n 3, 1) := by decide +kernel
theorem d88_33 : decode (pB 88) 33 = .ok (.iload_n 2, 1) := by decide +kernel
theorem d88_34 : decode (pB 88) 34 = .ok (.isub, 1) := by decide +kernel
theorem d88_35 : decode (pB 88) 35 = .ok (.ishl, 1) := by decide +kernel
theorem d88_36 : decode (pB 88) 36 = .ok (.if_icmp .le 5, 3) := by decide +kernel
theorem d88_39 : decode (pB 88) 39 = .ok (.iconst 0, 1) := by decide +kernel
theorem d88_40 : decode (pB 88) 40 = .ok (.ireturn, 1) := by decide +kernel
theorem d88_41 : decode (pB 88) 41 = .ok (.iconst 1, 1) := by decide +kernel
theorem d88_42 : decode (pB 88) 42 = .ok (.istore 5, 2) := by decide +kernel
theorem d88_44 : decode (pB 88) 44 = .ok (.iload 5, 2) := by decide +kernel
theorem d88_46 : decode (pB 88) 46 = .ok (.aload 4, 2) := by decide +kernel
theorem d88_48 : decode (pB 88) 48 = .ok (.getfield 104, 3) := by decide +kernel
theorem d88_51 : decode (pB 88) 51 = .ok (.if_icmp .ge 49, 3) := by decide +kernel
theorem d88_54 : decode (pB 88) 54 = .ok (.aload_n 0, 1) := by decide +kernel
theorem d88_55 : decode (pB 88) 55 = .ok (.aload 4, 2) := by decide +kernel
theorem d88_57 : decode (pB 88) 57 = .ok (.iload 5, 2) := by decide +kernel
theorem d88_59 : decode (pB 88) 59 = .ok (.invokevirtual 267, 3) := by decide +kernel
theorem d88_62 : decode (pB 88) 62 = .ok (.ifCond .eq 6, 3) := by decide +kernel
theorem d88_65 : decode (pB 88) 65 = .ok (.goto 29, 3) := by decide +kernel
theorem d88_68 : decode (pB 88) 68 = .ok (.aload_n 1, 1) := by decide +kernel
theorem d88_69 : decode (pB 88) 69 = .ok (.iload_n 2, 1) := by decide +kernel
theorem d88_70 : decode (pB 88) 70 = .ok (.iconst 1, 1) := by decide +kernel
theorem d88_71 : decode (pB 88) 71 = .ok (.iadd, 1) := by decide +kernel
theorem d88_72 : decode (pB 88) 72 = .ok (.aaload, 1) := by decide +kernel
theorem d88_73 : decode (pB 88) 73 = .ok (.aload 4, 2) := by decide +kernel
theorem d88_75 : decode (pB 88) 75 = .ok (.iload 5, 2) := by decide +kernel
theorem d88_77 : decode (pB 88) 77 = .ok (.invokevirtual 263, 3) := by decide +kernel
theorem d88_80 : decode (pB 88) 80 = .ok (.aload_n 0, 1) := by decide +kernel
theorem d88_81 : decode (pB 88) 81 = .ok (.aload_n 1, 1) := by decide +kernel
theorem d88_82 : decode (pB 88) 82 = .ok (.iload_n 2, 1) := by decide +kernel
theorem d88_83 : decode (pB 88) 83 = .ok (.iconst 1, 1) := by decide +kernel
theorem d88_84 : decode (pB 88) 84 = .ok (.iadd, 1) := by decide +kernel
theorem d88_85 : decode (pB 88) 85 = .ok (.iload_n 3, 1) := by decide +kernel
theorem d88_86 : decode (pB 88) 86 = .ok (.invokestatic 198, 3) := by decide +kernel
theorem d88_89 : decode (pB 88) 89 = .ok (.ifCond .eq 5, 3) := by decide +kernel
theorem d88_92 : decode (pB 88) 92 = .ok (.iconst 1, 1) := by decide +kernel
theorem d88_93 : decode (pB 88) 93 = .ok (.ireturn, 1) := by decide +kernel
theorem d88_94 : decode (pB 88) 94 = .ok (.iinc 5 1, 3) := by decide +kernel
theorem d88_97 : decode (pB 88) 97 = .ok (.goto (-53), 3) := by decide +kernel
theorem d88_100 : decode (pB 88) 100 = .ok (.iconst 0, 1) := by decide +kernel
theorem d88_101 : decode (pB 88) 101 = .ok (.ireturn, 1) := by decide +kernel
theorem st1_88_4 : p_st1 88 4 = true := by decide +kernel
theorem st1_88_5 : p_st1 88 5 = true := by decide +kernel
/-- RX4.shrinks -/
def t88_0 : List (Nat × pO) := [(0, o_aload 1 1), (1, o_iload 2 2), (2, o_aald 3), (3, o_astore 4 5), (5, o_aload 4 7), (7, o_getI 0 0 10), (10, o_push (.int (nI 1)) 11), (11, o_icne 16 14), (14, o_push (.int (nI 1)) 15), (15, o_zret), (16, o_iload 2 17), (17, o_iload 3 18), (18, o_icge 39 21), (21, o_iload 2 22), (22, o_push (.int (nI 5)) 23), (23, o_icge 39 26), (26, o_aload 4 28), (28, o_getI 0 0 31), (31, o_push (.int (nI 1)) 32), (32, o_iload 3 33), (33, o_iload 2 34), (34, o_isub 35), (35, o_ishl 36), (36, o_icle 41 39), (39, o_push (.int (nI 0)) 40), (40, o_zret), (41, o_push (.int (nI 1)) 42), (42, o_istore 5 44), (44, o_iload 5 46), (46, o_aload 4 48), (48, o_getI 0 0 51), (51, o_icge 100 54), (54, o_aload 0 55), (55, o_aload 4 57), (57, o_iload 5 59), (59, o_invV 3 43 2 62), (62, o_ifeq 68 65), (65, o_goto 94), (68, o_aload 1 69), (69, o_iload 2 70)]
theorem ok88_0 : ∀ q ∈ t88_0, p_Z 88 q := List.forall_mem_cons.mpr ⟨⟨s_aload_n d88_0 rfl, tl_aload _ _⟩, List.forall_mem_cons.mpr ⟨⟨s_iload_n d88_1 rfl, tl_iload _ _⟩, List.forall_mem_cons.mpr ⟨⟨s_aald d88_2, tl_aald _⟩, List.forall_mem_cons.mpr ⟨⟨s_astore d88_3 st1_88_4, tl_astore _ _⟩, List.forall_mem_cons.mpr ⟨⟨s_aload d88_5, tl_aload _ _⟩, List.forall_mem_cons.mpr ⟨⟨f_getI_0_0 d88_7 wd_172, tl_getI _ _ _⟩, List.forall_mem_cons.mpr ⟨⟨s_iconst d88_10 rfl, tl_push _ _⟩, List.forall_mem_cons.mpr ⟨⟨s_icne d88_11 rfl, tl_icne _ _⟩, List.forall_mem_cons.mpr ⟨⟨s_iconst d88_14 rfl, tl_push _ _⟩, List.forall_mem_cons.mpr ⟨⟨s_zret d88_15 rfl, tl_zret⟩, List.forall_mem_cons.mpr ⟨⟨s_iload_n d88_16 rfl, tl_iload _ _⟩, List.forall_mem_cons.mpr ⟨⟨s_iload_n d88_17 rfl, tl_iload _ _⟩, List.forall_mem_cons.mpr ⟨⟨s_icge d88_18 rfl, tl_icge _ _⟩, List.forall_mem_cons.mpr ⟨⟨s_iload_n d88_21 rfl, tl_iload _ _⟩, List.forall_mem_cons.mpr ⟨⟨s_iconst d88_22 rfl, tl_push _ _⟩, List.forall_mem_cons.mpr ⟨⟨s_icge d88_23 rfl, tl_icge _ _⟩, List.forall_mem_cons.mpr ⟨⟨s_aload d88_26, tl_aload _ _⟩, List.forall_mem_cons.mpr ⟨⟨f_getI_0_0 d88_28 wd_172, tl_getI _ _ _⟩, List.forall_mem_cons.mpr ⟨⟨s_iconst d88_31 rfl, tl_push _ _⟩, List.forall_mem_cons.mpr ⟨⟨s_iload_n d88_32 rfl, tl_iload _ _⟩, List.forall_mem_cons.mpr ⟨⟨s_iload_n d88_33 rfl, tl_iload _ _⟩, List.forall_mem_cons.mpr ⟨⟨s_isub d88_34, tl_isub _⟩, List.forall_mem_cons.mpr ⟨⟨s_ishl d88_35, tl_ishl _⟩, List.forall_mem_cons.mpr ⟨⟨s_icle d88_36 rfl, tl_icle _ _⟩, List.forall_mem_cons.mpr ⟨⟨s_iconst d88_39 rfl, tl_push _ _⟩, List.forall_mem_cons.mpr ⟨⟨s_zret d88_40 rfl, tl_zret⟩, List.forall_mem_cons.mpr ⟨⟨s_iconst d88_41 rfl, tl_push _ _⟩, List.forall_mem_cons.mpr ⟨⟨s_istore d88_42 st1_88_5, tl_istore _ _⟩, List.forall_mem_cons.mpr ⟨⟨s_iload d88_44, tl_iload _ _⟩, List.forall_mem_cons.mpr ⟨⟨s_aload d88_46, tl_aload _ _⟩, List.forall_mem_cons.mpr ⟨⟨f_getI_0_0 d88_48 wd_172, tl_getI _ _ _⟩, List.forall_mem_cons.mpr ⟨⟨s_icge d88_51 rfl, tl_icge _ _⟩, List.forall_mem_cons.mpr ⟨⟨s_aload_n d88_54 rfl, tl_aload _ _⟩, List.forall_mem_cons.mpr ⟨⟨s_aload d88_55, tl_aload _ _⟩, List.forall_mem_cons.mpr ⟨⟨s_iload d88_57, tl_iload _ _⟩, List.forall_mem_cons.mpr ⟨⟨q_invV_43 d88_59 wd_527, tl_invV _ _ _ _⟩, List.forall_mem_cons.mpr ⟨⟨s_ifeq d88_62 rfl, tl_ifeq _ _⟩, List.forall_mem_cons.mpr ⟨⟨s_goto d88_65 rfl, tl_goto _⟩, List.forall_mem_cons.mpr ⟨⟨s_aload_n d88_68 rfl, tl_aload _ _⟩, List.forall_mem_cons.mpr ⟨⟨s_iload_n d88_69 rfl, tl_iload _ _⟩, fun _ h => absurd h List.not_mem_nil⟩⟩⟩⟩⟩⟩⟩⟩⟩⟩⟩⟩⟩⟩⟩⟩⟩⟩⟩⟩⟩⟩⟩⟩⟩⟩⟩⟩⟩⟩⟩⟩⟩⟩⟩⟩⟩⟩⟩⟩
/-- RX4.shrinks -/
def t88_1 : List (Nat × pO) := [(70, o_push (.int (nI 1)) 71), (71, o_iadd 72), (72, o_aald 73), (73, o_aload 4 75), (75, o_iload 5 77), (77, o_invV 0 2 2 80), (80, o_aload 0 81), (81, o_aload 1 82), (82, o_iload 2 83), (83, o_push (.int (nI 1)) 84), (84, o_iadd 85), (85, o_iload 3 86), (86, o_invS 88 4 89), (89, o_ifeq 94 92), (92, o_push (.int (nI 1)) 93), (93, o_zret), (94, o_iinc 5 (nI 1) 97), (97, o_goto 44), (100, o_push (.int (nI 0)) 101), (101, o_zret)]
theorem ok88_1 : ∀ q ∈ t88_1, p_Z 88 q := List.forall_mem_cons.mpr ⟨⟨s_iconst d88_70 rfl, tl_push _ _⟩, List.forall_mem_cons.mpr ⟨⟨s_iadd d88_71, tl_iadd _⟩, List.forall_mem_cons.mpr ⟨⟨s_aald d88_72, tl_aald _⟩, List.forall_mem_cons.mpr ⟨⟨s_aload d88_73, tl_aload _ _⟩, List.forall_mem_cons.mpr ⟨⟨s_iload d88_75, tl_iload _ _⟩, List.forall_mem_cons.mpr ⟨⟨q_invV_2 d88_77 wd_268, tl_invV _ _ _ _⟩, List.forall_mem_cons.mpr ⟨⟨s_aload_n d88_80 rfl, tl_aload _ _⟩, List.forall_mem_cons.mpr ⟨⟨s_aload_n d88_81 rfl, tl_aload _ _⟩, List.forall_mem_cons.mpr ⟨⟨s_iload_n d88_82 rfl, tl_iload _ _⟩, List.forall_mem_cons.mpr ⟨⟨s_iconst d88_83 rfl, tl_push _ _⟩, List.forall_mem_cons.mpr ⟨⟨s_iadd d88_84, tl_iadd _⟩, List.forall_mem_cons.mpr ⟨⟨s_iload_n d88_85 rfl, tl_iload _ _⟩, List.forall_mem_cons.mpr ⟨⟨q_invS_88 d88_86 wd_524, tl_invS _ _ _⟩, List.forall_mem_cons.mpr ⟨⟨s_ifeq d88_89 rfl, tl_ifeq _ _⟩, List.forall_mem_cons.mpr ⟨⟨s_iconst d88_92 rfl, tl_push _ _⟩, List.forall_mem_cons.mpr ⟨⟨s_zret d88_93 rfl, tl_zret⟩, List.forall_mem_cons.mpr ⟨⟨s_iinc d88_94 rfl st1_88_5, tl_iinc _ _ _⟩, List.forall_mem_cons.mpr ⟨⟨s_goto d88_97 rfl, tl_goto _⟩, List.forall_mem_cons.mpr ⟨⟨s_iconst d88_100 rfl, tl_push _ _⟩, List.forall_mem_cons.mpr ⟨⟨s_zret d88_101 rfl, tl_zret⟩, fun _ h => absurd h List.not_mem_nil⟩⟩⟩⟩⟩⟩⟩⟩⟩⟩⟩⟩⟩⟩⟩⟩⟩⟩⟩⟩
def t88 : List (Nat × pO) := t88_0 ++ (t88_1)
theorem ok88 : ∀ q ∈ t88, p_Z 88 q := List.forall_mem_append.mpr ⟨ok88_0, ok88_1⟩
theorem d89_0 : decode (pB 89) 0 = .ok (.iconst 0, 1) := by decide +kernel
theorem d89_1 : decode (pB 89) 1 = .ok (.istore_n 2, 1) := by decide +kernel
theorem d89_2 : decode (pB 89) 2 = .ok (.lload_n 0, 1) := by decide +kernel
theorem d89_3 : decode (pB 89) 3 = .ok (.lstore_n 3, 1) := by decide +kernel
theorem d89_4 : decode (pB 89) 4 = .ok (.iload_n 2, 1) := by decide +kernel
theorem d89_5 : decode (pB 89) 5 = .ok (.bipush 8, 2) := by decide +kernel
theorem d89_7 : decode (pB 89) 7 = .ok (.if_icmp .ge 44, 3) := by decide +kernel
theorem d89_10 : decode (pB 89) 10 = .ok (.lload_n 3, 1) := by decide +kernel
theorem d89_11 : decode (pB 89) 11 = .ok (.lconst 0, 1) := by decide +kernel
theorem d89_12 : decode (pB 89) 12 = .ok (.lcmp, 1) := by decide +kernel
theorem d89_13 : decode (pB 89) 13 = .ok (.ifCond .eq 38, 3) := by decide +kernel
theorem d89_16 : decode (pB 89) 16 = .ok (.lload_n 3, 1) := by decide +kernel
theorem d89_17 : decode (pB 89) 17 = .ok (.ldc2_w 271, 3) := by decide +kernel
theorem d89_20 : decode (pB 89) 20 = .ok (.land, 1) := by decide +kernel
theorem d89_21 : decode (pB 89) 21 = .ok (.l2i, 1) := by decide +kernel
theorem d89_22 : decode (pB 89) 22 = .ok (.istore 5, 2) := by decide +kernel
theorem d89_24 : decode (pB 89) 24 = .ok (.iload 5, 2) := by decide +kernel
theorem d89_26 : decode (pB 89) 26 = .ok (.bipush 33, 2) := by decide +kernel
theorem d89_28 : decode (pB 89) 28 = .ok (.if_icmp .lt 10, 3) := by decide +kernel
theorem d89_31 : decode (pB 89) 31 = .ok (.iload 5, 2) := by decide +kernel
theorem d89_33 : decode (pB 89) 33 = .ok (.bipush 126, 2) := by decide +kernel
theorem d89_35 : decode (pB 89) 35 = .ok (.if_icmp .le 5, 3) := by decide +kernel
theorem d89_38 : decode (pB 89) 38 = .ok (.iconst 0, 1) := by decide +kernel
theorem d89_39 : decode (pB 89) 39 = .ok (.ireturn, 1) := by decide +kernel
theorem d89_40 : decode (pB 89) 40 = .ok (.iinc 2 1, 3) := by decide +kernel
theorem d89_43 : decode (pB 89) 43 = .ok (.lload_n 3, 1) := by decide +kernel
theorem d89_44 : decode (pB 89) 44 = .ok (.bipush 8, 2) := by decide +kernel
theorem d89_46 : decode (pB 89) 46 = .ok (.lushr, 1) := by decide +kernel
theorem d89_47 : decode (pB 89) 47 = .ok (.lstore_n 3, 1) := by decide +kernel
theorem d89_48 : decode (pB 89) 48 = .ok (.goto (-44), 3) := by decide +kernel
theorem d89_51 : decode (pB 89) 51 = .ok (.iload_n 2, 1) := by decide +kernel
theorem d89_52 : decode (pB 89) 52 = .ok (.ireturn, 1) := by decide +kernel
theorem st1_89_2 : p_st1 89 2 = true := by decide +kernel
theorem st1_89_5 : p_st1 89 5 = true := by decide +kernel
theorem st2_89_3 : p_st2 89 3 = true := by decide +kernel
/-- RX4.charactersIn -/
def t89_0 : List (Nat × pO) := [(0, o_push (.int (nI 0)) 1), (1, o_istore 2 2), (2, o_lload 0 3), (3, o_lstore 3 4), (4, o_iload 2 5), (5, o_push (.int (nI 8)) 7), (7, o_icge 51 10), (10, o_lload 3 11), (11, o_push (.long 0) 12), (12, o_lcmp 13), (13, o_ifeq 51 16), (16, o_lload 3 17), (17, o_push (.long (255 : Int64)) 20), (20, o_land 21), (21, o_l2i 22), (22, o_istore 5 24), (24, o_iload 5 26), (26, o_push (.int (nI 33)) 28), (28, o_iclt 38 31), (31, o_iload 5 33), (33, o_push (.int (nI 126)) 35), (35, o_icle 40 38), (38, o_push (.int (nI 0)) 39), (39, o_iret), (40, o_iinc 2 (nI 1) 43), (43, o_lload 3 44), (44, o_push (.int (nI 8)) 46), (46, o_lushr 47), (47, o_lstore 3 48), (48, o_goto 4), (51, o_iload 2 52), (52, o_iret)]
theorem ok89_0 : ∀ q ∈ t89_0, p_Z 89 q := List.forall_mem_cons.mpr ⟨⟨s_iconst d89_0 rfl, tl_push _ _⟩, List.forall_mem_cons.mpr ⟨⟨s_istore_n d89_1 rfl st1_89_2, tl_istore _ _⟩, List.forall_mem_cons.mpr ⟨⟨s_lload_n d89_2 rfl, tl_lload _ _⟩, List.forall_mem_cons.mpr ⟨⟨s_lstore_n d89_3 rfl st2_89_3, tl_lstore _ _⟩, List.forall_mem_cons.mpr ⟨⟨s_iload_n d89_4 rfl, tl_iload _ _⟩, List.forall_mem_cons.mpr ⟨⟨s_bipush d89_5 rfl, tl_push _ _⟩, List.forall_mem_cons.mpr ⟨⟨s_icge d89_7 rfl, tl_icge _ _⟩, List.forall_mem_cons.mpr ⟨⟨s_lload_n d89_10 rfl, tl_lload _ _⟩, List.forall_mem_cons.mpr ⟨⟨s_lconst d89_11 rfl, tl_push _ _⟩, List.forall_mem_cons.mpr ⟨⟨s_lcmp d89_12, tl_lcmp _⟩, List.forall_mem_cons.mpr ⟨⟨s_ifeq d89_13 rfl, tl_ifeq _ _⟩, List.forall_mem_cons.mpr ⟨⟨s_lload_n d89_16 rfl, tl_lload _ _⟩, List.forall_mem_cons.mpr ⟨⟨s_ldc2 wd_542 d89_17, tl_push _ _⟩, List.forall_mem_cons.mpr ⟨⟨s_land d89_20, tl_land _⟩, List.forall_mem_cons.mpr ⟨⟨s_l2i d89_21, tl_l2i _⟩, List.forall_mem_cons.mpr ⟨⟨s_istore d89_22 st1_89_5, tl_istore _ _⟩, List.forall_mem_cons.mpr ⟨⟨s_iload d89_24, tl_iload _ _⟩, List.forall_mem_cons.mpr ⟨⟨s_bipush d89_26 rfl, tl_push _ _⟩, List.forall_mem_cons.mpr ⟨⟨s_iclt d89_28 rfl, tl_iclt _ _⟩, List.forall_mem_cons.mpr ⟨⟨s_iload d89_31, tl_iload _ _⟩, List.forall_mem_cons.mpr ⟨⟨s_bipush d89_33 rfl, tl_push _ _⟩, List.forall_mem_cons.mpr ⟨⟨s_icle d89_35 rfl, tl_icle _ _⟩, List.forall_mem_cons.mpr ⟨⟨s_iconst d89_38 rfl, tl_push _ _⟩, List.forall_mem_cons.mpr ⟨⟨s_iret d89_39 rfl, tl_iret⟩, List.forall_mem_cons.mpr ⟨⟨s_iinc d89_40 rfl st1_89_2, tl_iinc _ _ _⟩, List.forall_mem_cons.mpr ⟨⟨s_lload_n d89_43 rfl, tl_lload _ _⟩, List.forall_mem_cons.mpr ⟨⟨s_bipush d89_44 rfl, tl_push _ _⟩, List.forall_mem_cons.mpr ⟨⟨s_lushr d89_46, tl_lushr _⟩, List.forall_mem_cons.mpr ⟨⟨s_lstore_n d89_47 rfl st2_89_3, tl_lstore _ _⟩, List.forall_mem_cons.mpr ⟨⟨s_goto d89_48 rfl, tl_goto _⟩, List.forall_mem_cons.mpr ⟨⟨s_iload_n d89_51 rfl, tl_iload _ _⟩, List.forall_mem_cons.mpr ⟨⟨s_iret d89_52 rfl, tl_iret⟩, fun _ h => absurd h List.not_mem_nil⟩⟩⟩⟩⟩⟩⟩⟩⟩⟩⟩⟩⟩⟩⟩⟩⟩⟩⟩⟩⟩⟩⟩⟩⟩⟩⟩⟩⟩⟩⟩⟩
def t89 : List (Nat × pO) := t89_0
theorem ok89 : ∀ q ∈ t89, p_Z 89 q := ok89_0
theorem d90_0 : decode (pB 90) 0 = .ok (.aload_n 0, 1) := by decide +kernel
theorem d90_1 : decode (pB 90) 1 = .ok (.getfield 40, 3) := by decide +kernel
theorem d90_4 : decode (pB 90) 4 = .ok (.getfield 273, 3) := by decide +kernel
theorem d90_7 : decode (pB 90) 7 = .ok (.lookupswitch 123 #[(99, 49), (102, 111), (115, 54), (117, 73), (120, 85)], 49) := by decide +kernel
theorem d90_56 : decode (pB 90) 56 = .ok (.aload_n 0, 1) := by decide +kernel
theorem d90_57 : decode (pB 90) 57 = .ok (.invokevirtual 69, 3) := by decide +kernel
theorem d90_60 : decode (pB 90) 60 = .ok (.ireturn, 1) := by decide +kernel
theorem d90_61 : decode (pB 90) 61 = .ok (.aload_n 0, 1) := by decide +kernel
theorem d90_62 : decode (pB 90) 62 = .ok (.aload_n 0, 1) := by decide +kernel
theorem d90_63 : decode (pB 90) 63 = .ok (.getfield 40, 3) := by decide +kernel
theorem d90_66 : decode (pB 90) 66 = .ok (.getfield 276, 3) := by decide +kernel
theorem d90_69 : decode (pB 90) 69 = .ok (.aload_n 0, 1) := by decide +kernel
theorem d90_70 : decode (pB 90) 70 = .ok (.getfield 40, 3) := by decide +kernel
theorem d90_73 : decode (pB 90) 73 = .ok (.getfield 279, 3) := by decide +kernel
theorem d90_76 : decode (pB 90) 76 = .ok (.invokevirtual 73, 3) := by decide +kernel
theorem d90_79 : decode (pB 90) 79 = .ok (.ireturn, 1) := by decide +kernel
theorem d90_80 : decode (pB 90) 80 = .ok (.aload_n 0, 1) := by decide +kernel
theorem d90_81 : decode (pB 90) 81 = .ok (.aload_n 0, 1) := by decide +kernel
theorem d90_82 : decode (pB 90) 82 = .ok (.getfield 40, 3) := by decide +kernel
theorem d90_85 : decode (pB 90) 85 = .ok (.getfield 276, 3) := by decide +kernel
theorem d90_88 : decode (pB 90) 88 = .ok (.invokevirtual 76, 3) := by decide +kernel
theorem d90_91 : decode (pB 90) 91 = .ok (.ireturn, 1) := by decide +kernel
theorem d90_92 : decode (pB 90) 92 = .ok (.aload_n 0, 1) := by decide +kernel
theorem d90_93 : decode (pB 90) 93 = .ok (.aload_n 0, 1) := by decide +kernel
theorem d90_94 : decode (pB 90) 94 = .ok (.getfield 40, 3) := by decide +kernel
theorem d90_97 : decode (pB 90) 97 = .ok (.getfield 276, 3) := by decide +kernel
theorem d90_100 : decode (pB 90) 100 = .ok (.aload_n 0, 1) := by decide +kernel
theorem d90_101 : decode (pB 90) 101 = .ok (.getfield 40, 3) := by decide +kernel
theorem d90_104 : decode (pB 90) 104 = .ok (.getfield 279, 3) := by decide +kernel
theorem d90_107 : decode (pB 90) 107 = .ok (.aload_n 0, 1) := by decide +kernel
theorem d90_108 : decode (pB 90) 108 = .ok (.getfield 40, 3) := by decide +kernel
theorem d90_111 : decode (pB 90) 111 = .ok (.getfield 282, 3) := by decide +kernel
theorem d90_114 : decode (pB 90) 114 = .ok (.invokevirtual 82, 3) := by decide +kernel
theorem d90_117 : decode (pB 90) 117 = .ok (.ireturn, 1) := by decide +kernel
theorem d90_118 : decode (pB 90) 118 = .ok (.aload_n 0, 1) := by decide +kernel
theorem d90_119 : decode (pB 90) 119 = .ok (.aload_n 0, 1) := by decide +kernel
theorem d90_120 : decode (pB 90) 120 = .ok (.getfield 40, 3) := by decide +kernel
theorem d90_123 : decode (pB 90) 123 = .ok (.getfield 276, 3) := by decide +kernel
theorem d90_126 : decode (pB 90) 126 = .ok (.invokevirtual 86, 3) := by decide +kernel
theorem d90_129 : decode (pB 90) 129 = .ok (.ireturn, 1) := by decide +kernel
theorem d90_130 : decode (pB 90) 130 = .ok (.aload_n 0, 1) := by decide +kernel
theorem d90_131 : decode (pB 90) 131 = .ok (.invokevirtual 92, 3) := by decide +kernel
theorem d90_134 : decode (pB 90) 134 = .ok (.ireturn, 1) := by decide +kernel
/-- RX4.carryOne -/
def t90_0 : List (Nat × pO) := [(0, o_aload 0 1), (1, o_getR 4 6 4), (4, o_getI 1 2 7), (7, o_switch [((nI 99), 56), ((nI 102), 118), ((nI 115), 61), ((nI 117), 80), ((nI 120), 92)] 130), (56, o_aload 0 57), (57, o_invV 4 75 0 60), (60, o_iret), (61, o_aload 0 62), (62, o_aload 0 63), (63, o_getR 4 6 66), (66, o_getI 1 3 69), (69, o_aload 0 70), (70, o_getR 4 6 73), (73, o_getI 1 4 76), (76, o_invV 4 76 2 79), (79, o_iret), (80, o_aload 0 81), (81, o_aload 0 82), (82, o_getR 4 6 85), (85, o_getI 1 3 88), (88, o_invV 4 77 1 91), (91, o_iret), (92, o_aload 0 93), (93, o_aload 0 94), (94, o_getR 4 6 97), (97, o_getI 1 3 100), (100, o_aload 0 101), (101, o_getR 4 6 104), (104, o_getI 1 4 107), (107, o_aload 0 108), (108, o_getR 4 6 111), (111, o_getI 1 5 114), (114, o_invV 4 79 3 117), (117, o_iret), (118, o_aload 0 119), (119, o_aload 0 120), (120, o_getR 4 6 123), (123, o_getI 1 3 126), (126, o_invV 4 80 1 129), (129, o_iret)]
theorem ok90_0 : ∀ q ∈ t90_0, p_Z 90 q := List.forall_mem_cons.mpr ⟨⟨s_aload_n d90_0 rfl, tl_aload _ _⟩, List.forall_mem_cons.mpr ⟨⟨f_getR_4_6 d90_1 wd_218, tl_getR _ _ _⟩, List.forall_mem_cons.mpr ⟨⟨f_getI_1_2 d90_4 wd_146, tl_getI _ _ _⟩, List.forall_mem_cons.mpr ⟨⟨s_lookup d90_7 (by decide +kernel) rfl (by decide +kernel) (fun x hx => p_look (by decide +kernel) hx), tl_switch _ _⟩, List.forall_mem_cons.mpr ⟨⟨s_aload_n d90_56 rfl, tl_aload _ _⟩, List.forall_mem_cons.mpr ⟨⟨q_invV_75 d90_57 wd_298, tl_invV _ _ _ _⟩, List.forall_mem_cons.mpr ⟨⟨s_iret d90_60 rfl, tl_iret⟩, List.forall_mem_cons.mpr ⟨⟨s_aload_n d90_61 rfl, tl_aload _ _⟩, List.forall_mem_cons.mpr ⟨⟨s_aload_n d90_62 rfl, tl_aload _ _⟩, List.forall_mem_cons.mpr ⟨⟨f_getR_4_6 d90_63 wd_218, tl_getR _ _ _⟩, List.forall_mem_cons.mpr ⟨⟨f_getI_1_3 d90_66 wd_148, tl_getI _ _ _⟩, List.forall_mem_cons.mpr ⟨⟨s_aload_n d90_69 rfl, tl_aload _ _⟩, List.forall_mem_cons.mpr ⟨⟨f_getR_4_6 d90_70 wd_218, tl_getR _ _ _⟩, List.forall_mem_cons.mpr ⟨⟨f_getI_1_4 d90_73 wd_150, tl_getI _ _ _⟩, List.forall_mem_cons.mpr ⟨⟨q_invV_76 d90_76 wd_306, tl_invV _ _ _ _⟩, List.forall_mem_cons.mpr ⟨⟨s_iret d90_79 rfl, tl_iret⟩, List.forall_mem_cons.mpr ⟨⟨s_aload_n d90_80 rfl, tl_aload _ _⟩, List.forall_mem_cons.mpr ⟨⟨s_aload_n d90_81 rfl, tl_aload _ _⟩, List.forall_mem_cons.mpr ⟨⟨f_getR_4_6 d90_82 wd_218, tl_getR _ _ _⟩, List.forall_mem_cons.mpr ⟨⟨f_getI_1_3 d90_85 wd_148, tl_getI _ _ _⟩, List.forall_mem_cons.mpr ⟨⟨q_invV_77 d90_88 wd_326, tl_invV _ _ _ _⟩, List.forall_mem_cons.mpr ⟨⟨s_iret d90_91 rfl, tl_iret⟩, List.forall_mem_cons.mpr ⟨⟨s_aload_n d90_92 rfl, tl_aload _ _⟩, List.forall_mem_cons.mpr ⟨⟨s_aload_n d90_93 rfl, tl_aload _ _⟩, List.forall_mem_cons.mpr ⟨⟨f_getR_4_6 d90_94 wd_218, tl_getR _ _ _⟩, List.forall_mem_cons.mpr ⟨⟨f_getI_1_3 d90_97 wd_148, tl_getI _ _ _⟩, List.forall_mem_cons.mpr ⟨⟨s_aload_n d90_100 rfl, tl_aload _ _⟩, List.forall_mem_cons.mpr ⟨⟨f_getR_4_6 d90_101 wd_218, tl_getR _ _ _⟩, List.forall_mem_cons.mpr ⟨⟨f_getI_1_4 d90_104 wd_150, tl_getI _ _ _⟩, List.forall_mem_cons.mpr ⟨⟨s_aload_n d90_107 rfl, tl_aload _ _⟩, List.forall_mem_cons.mpr ⟨⟨f_getR_4_6 d90_108 wd_218, tl_getR _ _ _⟩, List.forall_mem_cons.mpr ⟨⟨f_getI_1_5 d90_111 wd_152, tl_getI _ _ _⟩, List.forall_mem_cons.mpr ⟨⟨q_invV_79 d90_114 wd_365, tl_invV _ _ _ _⟩, List.forall_mem_cons.mpr ⟨⟨s_iret d90_117 rfl, tl_iret⟩, List.forall_mem_cons.mpr ⟨⟨s_aload_n d90_118 rfl, tl_aload _ _⟩, List.forall_mem_cons.mpr ⟨⟨s_aload_n d90_119 rfl, tl_aload _ _⟩, List.forall_mem_cons.mpr ⟨⟨f_getR_4_6 d90_120 wd_218, tl_getR _ _ _⟩, List.forall_mem_cons.mpr ⟨⟨f_getI_1_3 d90_123 wd_148, tl_getI _ _ _⟩, List.forall_mem_cons.mpr ⟨⟨q_invV_80 d90_126 wd_381, tl_invV _ _ _ _⟩, List.forall_mem_cons.mpr ⟨⟨s_iret d90_129 rfl, tl_iret⟩, fun _ h => absurd h List.not_mem_nil⟩⟩⟩⟩⟩⟩⟩⟩⟩⟩⟩⟩⟩⟩⟩⟩⟩⟩⟩⟩⟩⟩⟩⟩⟩⟩⟩⟩⟩⟩⟩⟩⟩⟩⟩⟩⟩⟩⟩⟩
/-- RX4.carryOne -/
def t90_1 : List (Nat × pO) := [(130, o_aload 0 131), (131, o_invV 4 82 0 134), (134, o_iret)]
theorem ok90_1 : ∀ q ∈ t90_1, p_Z 90 q := List.forall_mem_cons.mpr ⟨⟨s_aload_n d90_130 rfl, tl_aload _ _⟩, List.forall_mem_cons.mpr ⟨⟨q_invV_82 d90_131 wd_434, tl_invV _ _ _ _⟩, List.forall_mem_cons.mpr ⟨⟨s_iret d90_134 rfl, tl_iret⟩, fun _ h => absurd h List.not_mem_nil⟩⟩⟩
def t90 : List (Nat × pO) := t90_0 ++ (t90_1)
theorem ok90 : ∀ q ∈ t90, p_Z 90 q := List.forall_mem_append.mpr ⟨ok90_0, ok90_1⟩
theorem d91_0 : decode (pB 91) 0 = .ok (.iload_n 0, 1) := by decide +kernel
theorem d91_1 : decode (pB 91) 1 = .ok (.ifCond .ge 13, 3) := by decide +kernel
theorem d91_4 : decode (pB 91) 4 = .ok (.iload_n 0, 1) := by decide +kernel
theorem d91_5 : decode (pB 91) 5 = .ok (.bipush (-6), 2) := by decide +kernel
theorem d91_7 : decode (pB 91) 7 = .ok (.if_icmp .eq 7, 3) := by decide +kernel
theorem d91_10 : decode (pB 91) 10 = .ok (.iconst 1, 1) := by decide +kernel
theorem d91_11 : decode (pB 91) 11 = .ok (.goto 4, 3) := by decide +kernel
theorem d91_14 : decode (pB 91) 14 = .ok (.iconst 0, 1) := by decide +kernel
theorem d91_15 : decode (pB 91) 15 = .ok (.ireturn, 1) := by decide +kernel
/-- RX4.isError -/
def t91_0 : List (Nat × pO) := [(0, o_iload 0 1), (1, o_ifge 14 4), (4, o_iload 0 5), (5, o_push (.int (nM 6)) 7), (7, o_iceq 14 10), (10, o_push (.int (nI 1)) 11), (11, o_goto 15), (14, o_push (.int (nI 0)) 15), (15, o_zret)]
theorem ok91_0 : ∀ q ∈ t91_0, p_Z 91 q := List.forall_mem_cons.mpr ⟨⟨s_iload_n d91_0 rfl, tl_iload _ _⟩, List.forall_mem_cons.mpr ⟨⟨s_ifge d91_1 rfl, tl_ifge _ _⟩, List.forall_mem_cons.mpr ⟨⟨s_iload_n d91_4 rfl, tl_iload _ _⟩, List.forall_mem_cons.mpr ⟨⟨s_bipush d91_5 rfl, tl_push _ _⟩, List.forall_mem_cons.mpr ⟨⟨s_iceq d91_7 rfl, tl_iceq _ _⟩, List.forall_mem_cons.mpr ⟨⟨s_iconst d91_10 rfl, tl_push _ _⟩, List.forall_mem_cons.mpr ⟨⟨s_goto d91_11 rfl, tl_goto _⟩, List.forall_mem_cons.mpr ⟨⟨s_iconst d91_14 rfl, tl_push _ _⟩, List.forall_mem_cons.mpr ⟨⟨s_zret d91_15 rfl, tl_zret⟩, fun _ h => absurd h List.not_mem_nil⟩⟩⟩⟩⟩⟩⟩⟩⟩
def t91 : List (Nat × pO) := t91_0
theorem ok91 : ∀ q ∈ t91, p_Z 91 q := ok91_0
theorem d92_0 : decode (pB 92) 0 = .ok (.aload_n 0, 1) := by decide +kernel
theorem d92_1 : decode (pB 92) 1 = .ok (.getfield 16, 3) := by decide +kernel
theorem d92_4 : decode (pB 92) 4 = .ok (.aload_n 0, 1) := by decide +kernel
theorem d92_5 : decode (pB 92) 5 = .ok (.getfield 20, 3) := by decide +kernel
theorem d92_8 : decode (pB 92) 8 = .ok (.aaload, 1) := by decide +kernel
theorem d92_9 : decode (pB 92) 9 = .ok (.aload_n 0, 1) := by decide +kernel
theorem d92_10 : decode (pB 92) 10 = .ok (.getfield 10, 3) := by decide +kernel
theorem d92_13 : decode (pB 92) 13 = .ok (.invokevirtual 225, 3) := by decide +kernel
theorem d92_16 : decode (pB 92) 16 = .ok (.return_, 1) := by decide +kernel
/-- RX4.keepBefore -/
def t92_0 : List (Nat × pO) := [(0, o_aload 0 1), (1, o_getR 4 1 4), (4, o_aload 0 5), (5, o_getI 4 2 8), (8, o_aald 9), (9, o_aload 0 10), (10, o_getR 4 0 13), (13, o_invV 3 29 1 16), (16, o_vret)]
theorem ok92_0 : ∀ q ∈ t92_0, p_Z 92 q := List.forall_mem_cons.mpr ⟨⟨s_aload_n d92_0 rfl, tl_aload _ _⟩, List.forall_mem_cons.mpr ⟨⟨f_getR_4_1 d92_1 wd_213, tl_getR _ _ _⟩, List.forall_mem_cons.mpr ⟨⟨s_aload_n d92_4 rfl, tl_aload _ _⟩, List.forall_mem_cons.mpr ⟨⟨f_getI_4_2 d92_5 wd_214, tl_getI _ _ _⟩, List.forall_mem_cons.mpr ⟨⟨s_aald d92_8, tl_aald _⟩, List.forall_mem_cons.mpr ⟨⟨s_aload_n d92_9 rfl, tl_aload _ _⟩, List.forall_mem_cons.mpr ⟨⟨f_getR_4_0 d92_10 wd_212, tl_getR _ _ _⟩, List.forall_mem_cons.mpr ⟨⟨q_invV_29 d92_13 wd_245, tl_invV _ _ _ _⟩, List.forall_mem_cons.mpr ⟨⟨s_vret d92_16 rfl, tl_vret⟩, fun _ h => absurd h List.not_mem_nil⟩⟩⟩⟩⟩⟩⟩⟩⟩
def t92 : List (Nat × pO) := t92_0
theorem ok92 : ∀ q ∈ t92, p_Z 92 q := ok92_0
theorem d93_0 : decode (pB 93) 0 = .ok (.iload_n 1, 1) := by decide +kernel
theorem d93_1 : decode (pB 93) 1 = .ok (.invokestatic 219, 3) := by decide +kernel
theorem d93_4 : decode (pB 93) 4 = .ok (.ifCond .eq 5, 3) := by decide +kernel
theorem d93_7 : decode (pB 93) 7 = .ok (.iload_n 1, 1) := by decide +kernel
theorem d93_8 : decode (pB 93) 8 = .ok (.ireturn, 1) := by decide +kernel
theorem d93_9 : decode (pB 93) 9 = .ok (.aload_n 0, 1) := by decide +kernel
theorem d93_10 : decode (pB 93) 10 = .ok (.getfield 20, 3) := by decide +kernel
theorem d93_13 : decode (pB 93) 13 = .ok (.bipush 6, 2) := by decide +kernel
theorem d93_15 : decode (pB 93) 15 = .ok (.if_icmp .ge 16, 3) := by decide +kernel
theorem d93_18 : decode (pB 93) 18 = .ok (.aload_n 0, 1) := by decide +kernel
theorem d93_19 : decode (pB 93) 19 = .ok (.dup, 1) := by decide +kernel
theorem d93_20 : decode (pB 93) 20 = .ok (.getfield 20, 3) := by decide +kernel
theorem d93_23 : decode (pB 93) 23 = .ok (.iconst 1, 1) := by decide +kernel
theorem d93_24 : decode (pB 93) 24 = .ok (.iadd, 1) := by decide +kernel
theorem d93_25 : decode (pB 93) 25 = .ok (.putfield 20, 3) := by decide +kernel
theorem d93_28 : decode (pB 93) 28 = .ok (.goto 7, 3) := by decide +kernel
theorem d93_31 : decode (pB 93) 31 = .ok (.aload_n 0, 1) := by decide +kernel
theorem d93_32 : decode (pB 93) 32 = .ok (.invokevirtual 285, 3) := by decide +kernel
theorem d93_35 : decode (pB 93) 35 = .ok (.iload_n 1, 1) := by decide +kernel
theorem d93_36 : decode (pB 93) 36 = .ok (.ireturn, 1) := by decide +kernel
/-- RX4.recorded -/
def t93_0 : List (Nat × pO) := [(0, o_iload 1 1), (1, o_invS 91 1 4), (4, o_ifeq 9 7), (7, o_iload 1 8), (8, o_iret), (9, o_aload 0 10), (10, o_getI 4 2 13), (13, o_push (.int (nI 6)) 15), (15, o_icge 31 18), (18, o_aload 0 19), (19, o_dupr 20), (20, o_getI 4 2 23), (23, o_push (.int (nI 1)) 24), (24, o_iadd 25), (25, o_putI 4 2 28), (28, o_goto 35), (31, o_aload 0 32), (32, o_invV 4 94 0 35), (35, o_iload 1 36), (36, o_iret)]
theorem ok93_0 : ∀ q ∈ t93_0, p_Z 93 q := List.forall_mem_cons.mpr ⟨⟨s_iload_n d93_0 rfl, tl_iload _ _⟩, List.forall_mem_cons.mpr ⟨⟨q_invS_91 d93_1 wd_287, tl_invS _ _ _⟩, List.forall_mem_cons.mpr ⟨⟨s_ifeq d93_4 rfl, tl_ifeq _ _⟩, List.forall_mem_cons.mpr ⟨⟨s_iload_n d93_7 rfl, tl_iload _ _⟩, List.forall_mem_cons.mpr ⟨⟨s_iret d93_8 rfl, tl_iret⟩, List.forall_mem_cons.mpr ⟨⟨s_aload_n d93_9 rfl, tl_aload _ _⟩, List.forall_mem_cons.mpr ⟨⟨f_getI_4_2 d93_10 wd_214, tl_getI _ _ _⟩, List.forall_mem_cons.mpr ⟨⟨s_bipush d93_13 rfl, tl_push _ _⟩, List.forall_mem_cons.mpr ⟨⟨s_icge d93_15 rfl, tl_icge _ _⟩, List.forall_mem_cons.mpr ⟨⟨s_aload_n d93_18 rfl, tl_aload _ _⟩, List.forall_mem_cons.mpr ⟨⟨s_dupr d93_19, tl_dupr _⟩, List.forall_mem_cons.mpr ⟨⟨f_getI_4_2 d93_20 wd_214, tl_getI _ _ _⟩, List.forall_mem_cons.mpr ⟨⟨s_iconst d93_23 rfl, tl_push _ _⟩, List.forall_mem_cons.mpr ⟨⟨s_iadd d93_24, tl_iadd _⟩, List.forall_mem_cons.mpr ⟨⟨f_putI_4_2 d93_25 wd_214, tl_putI _ _ _⟩, List.forall_mem_cons.mpr ⟨⟨s_goto d93_28 rfl, tl_goto _⟩, List.forall_mem_cons.mpr ⟨⟨s_aload_n d93_31 rfl, tl_aload _ _⟩, List.forall_mem_cons.mpr ⟨⟨q_invV_94 d93_32 wd_290, tl_invV _ _ _ _⟩, List.forall_mem_cons.mpr ⟨⟨s_iload_n d93_35 rfl, tl_iload _ _⟩, List.forall_mem_cons.mpr ⟨⟨s_iret d93_36 rfl, tl_iret⟩, fun _ h => absurd h List.not_mem_nil⟩⟩⟩⟩⟩⟩⟩⟩⟩⟩⟩⟩⟩⟩⟩⟩⟩⟩⟩⟩
def t93 : List (Nat × pO) := t93_0
theorem ok93 : ∀ q ∈ t93, p_Z 93 q := ok93_0
theorem d94_0 : decode (pB 94) 0 = .ok (.aload_n 0, 1) := by decide +kernel
theorem d94_1 : decode (pB 94) 1 = .ok (.getfield 16, 3) := by decide +kernel
theorem d94_4 : decode (pB 94) 4 = .ok (.iconst 0, 1) := by decide +kernel
theorem d94_5 : decode (pB 94) 5 = .ok (.aaload, 1) := by decide +kernel
theorem d94_6 : decode (pB 94) 6 = .ok (.astore_n 1, 1) := by decide +kernel
theorem d94_7 : decode (pB 94) 7 = .ok (.iconst 0, 1) := by decide +kernel
theorem d94_8 : decode (pB 94) 8 = .ok (.istore_n 2, 1) := by decide +kernel
theorem d94_9 : decode (pB 94) 9 = .ok (.iload_n 2, 1) := by decide +kernel
theorem d94_10 : decode (pB 94) 10 = .ok (.bipush 6, 2) := by decide +kernel
theorem d94_12 : decode (pB 94) 12 = .ok (.if_icmp .ge 23, 3) := by decide +kernel
theorem d94_15 : decode (pB 94) 15 = .ok (.aload_n 0, 1) := by decide +kernel
theorem d94_16 : decode (pB 94) 16 = .ok (.getfield 16, 3) := by decide +kernel
theorem d94_19 : decode (pB 94) 19 = .ok (.iload_n 2, 1) := by decide +kernel
theorem d94_20 : decode (pB 94) 20 = .ok (.aload_n 0, 1) := by decide +kernel
theorem d94_21 : decode (pB 94) 21 = .ok (.getfield 16, 3) := by decide +kernel
theorem d94_24 : decode (pB 94) 24 = .ok (.iload_n 2, 1) := by decide +kernel
theorem d94_25 : decode (pB 94) 25 = .ok (.iconst 1, 1) := by decide +kernel
theorem d94_26 : decode (pB 94) 26 = .ok (.iadd, 1) := by decide +kernel
theorem d94_27 : decode (pB 94) 27 = .ok (.aaload, 1) := by decide +kernel
theorem d94_28 : decode (pB 94) 28 = .ok (.aastore, 1) := by decide +kernel
theorem d94_29 : decode (pB 94) 29 = .ok (.iinc 2 1, 3) := by decide +kernel
theorem d94_32 : decode (pB 94) 32 = .ok (.goto (-23), 3) := by decide +kernel
theorem d94_35 : decode (pB 94) 35 = .ok (.aload_n 0, 1) := by decide +kernel
theorem d94_36 : decode (pB 94) 36 = .ok (.getfield 16, 3) := by decide +kernel
theorem d94_39 : decode (pB 94) 39 = .ok (.bipush 6, 2) := by decide +kernel
theorem d94_41 : decode (pB 94) 41 = .ok (.aload_n 1, 1) := by decide +kernel
theorem d94_42 : decode (pB 94) 42 = .ok (.aastore, 1) := by decide +kernel
theorem d94_43 : decode (pB 94) 43 = .ok (.return_, 1) := by decide +kernel
theorem st1_94_1 : p_st1 94 1 = true := by decide +kernel
theorem st1_94_2 : p_st1 94 2 = true := by decide +kernel
/-- RX4.dropOldest -/
def t94_0 : List (Nat × pO) := [(0, o_aload 0 1), (1, o_getR 4 1 4), (4, o_push (.int (nI 0)) 5), (5, o_aald 6), (6, o_astore 1 7), (7, o_push (.int (nI 0)) 8), (8, o_istore 2 9), (9, o_iload 2 10), (10, o_push (.int (nI 6)) 12), (12, o_icge 35 15), (15, o_aload 0 16), (16, o_getR 4 1 19), (19, o_iload 2 20), (20, o_aload 0 21), (21, o_getR 4 1 24), (24, o_iload 2 25), (25, o_push (.int (nI 1)) 26), (26, o_iadd 27), (27, o_aald 28), (28, o_aast 29), (29, o_iinc 2 (nI 1) 32), (32, o_goto 9), (35, o_aload 0 36), (36, o_getR 4 1 39), (39, o_push (.int (nI 6)) 41), (41, o_aload 1 42), (42, o_aast 43), (43, o_vret)]
theorem ok94_0 : ∀ q ∈ t94_0, p_Z 94 q := List.forall_mem_cons.mpr ⟨⟨s_aload_n d94_0 rfl, tl_aload _ _⟩, List.forall_mem_cons.mpr ⟨⟨f_getR_4_1 d94_1 wd_213, tl_getR _ _ _⟩, List.forall_mem_cons.mpr ⟨⟨s_iconst d94_4 rfl, tl_push _ _⟩, List.forall_mem_cons.mpr ⟨⟨s_aald d94_5, tl_aald _⟩, List.forall_mem_cons.mpr ⟨⟨s_astore_n d94_6 rfl st1_94_1, tl_astore _ _⟩, List.forall_mem_cons.mpr ⟨⟨s_iconst d94_7 rfl, tl_push _ _⟩, List.forall_mem_cons.mpr ⟨⟨s_istore_n d94_8 rfl st1_94_2, tl_istore _ _⟩, List.forall_mem_cons.mpr ⟨⟨s_iload_n d94_9 rfl, tl_iload _ _⟩, List.forall_mem_cons.mpr ⟨⟨s_bipush d94_10 rfl, tl_push _ _⟩, List.forall_mem_cons.mpr ⟨⟨s_icge d94_12 rfl, tl_icge _ _⟩, List.forall_mem_cons.mpr ⟨⟨s_aload_n d94_15 rfl, tl_aload _ _⟩, List.forall_mem_cons.mpr ⟨⟨f_getR_4_1 d94_16 wd_213, tl_getR _ _ _⟩, List.forall_mem_cons.mpr ⟨⟨s_iload_n d94_19 rfl, tl_iload _ _⟩, List.forall_mem_cons.mpr ⟨⟨s_aload_n d94_20 rfl, tl_aload _ _⟩, List.forall_mem_cons.mpr ⟨⟨f_getR_4_1 d94_21 wd_213, tl_getR _ _ _⟩, List.forall_mem_cons.mpr ⟨⟨s_iload_n d94_24 rfl, tl_iload _ _⟩, List.forall_mem_cons.mpr ⟨⟨s_iconst d94_25 rfl, tl_push _ _⟩, List.forall_mem_cons.mpr ⟨⟨s_iadd d94_26, tl_iadd _⟩, List.forall_mem_cons.mpr ⟨⟨s_aald d94_27, tl_aald _⟩, List.forall_mem_cons.mpr ⟨⟨s_aast d94_28, tl_aast _⟩, List.forall_mem_cons.mpr ⟨⟨s_iinc d94_29 rfl st1_94_2, tl_iinc _ _ _⟩, List.forall_mem_cons.mpr ⟨⟨s_goto d94_32 rfl, tl_goto _⟩, List.forall_mem_cons.mpr ⟨⟨s_aload_n d94_35 rfl, tl_aload _ _⟩, List.forall_mem_cons.mpr ⟨⟨f_getR_4_1 d94_36 wd_213, tl_getR _ _ _⟩, List.forall_mem_cons.mpr ⟨⟨s_bipush d94_39 rfl, tl_push _ _⟩, List.forall_mem_cons.mpr ⟨⟨s_aload_n d94_41 rfl, tl_aload _ _⟩, List.forall_mem_cons.mpr ⟨⟨s_aast d94_42, tl_aast _⟩, List.forall_mem_cons.mpr ⟨⟨s_vret d94_43 rfl, tl_vret⟩, fun _ h => absurd h List.not_mem_nil⟩⟩⟩⟩⟩⟩⟩⟩⟩⟩⟩⟩⟩⟩⟩⟩⟩⟩⟩⟩⟩⟩⟩⟩⟩⟩⟩⟩
def t94 : List (Nat × pO) := t94_0
theorem ok94 : ∀ q ∈ t94, p_Z 94 q := ok94_0
