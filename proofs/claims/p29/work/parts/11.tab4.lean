/-! ops of each method, and that each is sound -/
theorem d35_0 : decode (pB 35) 0 = .ok (.aload_n 0, 1) := by decide +kernel
theorem d35_1 : decode (pB 35) 1 = .ok (.invokespecial 1, 3) := by decide +kernel
theorem d35_4 : decode (pB 35) 4 = .ok (.aload_n 0, 1) := by decide +kernel
theorem d35_5 : decode (pB 35) 5 = .ok (.new 7, 3) := by decide +kernel
theorem d35_8 : decode (pB 35) 8 = .ok (.dup, 1) := by decide +kernel
theorem d35_9 : decode (pB 35) 9 = .ok (.invokespecial 9, 3) := by decide +kernel
theorem d35_12 : decode (pB 35) 12 = .ok (.putfield 10, 3) := by decide +kernel
theorem d35_15 : decode (pB 35) 15 = .ok (.aload_n 0, 1) := by decide +kernel
theorem d35_16 : decode (pB 35) 16 = .ok (.bipush 7, 2) := by decide +kernel
theorem d35_18 : decode (pB 35) 18 = .ok (.anewarray 7, 3) := by decide +kernel
theorem d35_21 : decode (pB 35) 21 = .ok (.putfield 16, 3) := by decide +kernel
theorem d35_24 : decode (pB 35) 24 = .ok (.aload_n 0, 1) := by decide +kernel
theorem d35_25 : decode (pB 35) 25 = .ok (.iconst 0, 1) := by decide +kernel
theorem d35_26 : decode (pB 35) 26 = .ok (.putfield 20, 3) := by decide +kernel
theorem d35_29 : decode (pB 35) 29 = .ok (.aload_n 0, 1) := by decide +kernel
theorem d35_30 : decode (pB 35) 30 = .ok (.iconst 2, 1) := by decide +kernel
theorem d35_31 : decode (pB 35) 31 = .ok (.anewarray 7, 3) := by decide +kernel
theorem d35_34 : decode (pB 35) 34 = .ok (.putfield 24, 3) := by decide +kernel
theorem d35_37 : decode (pB 35) 37 = .ok (.aload_n 0, 1) := by decide +kernel
theorem d35_38 : decode (pB 35) 38 = .ok (.iconst 2, 1) := by decide +kernel
theorem d35_39 : decode (pB 35) 39 = .ok (.newarray .boolean, 2) := by decide +kernel
theorem d35_41 : decode (pB 35) 41 = .ok (.putfield 27, 3) := by decide +kernel
theorem d35_44 : decode (pB 35) 44 = .ok (.aload_n 0, 1) := by decide +kernel
theorem d35_45 : decode (pB 35) 45 = .ok (.bipush 6, 2) := by decide +kernel
theorem d35_47 : decode (pB 35) 47 = .ok (.anewarray 31, 3) := by decide +kernel
theorem d35_50 : decode (pB 35) 50 = .ok (.putfield 33, 3) := by decide +kernel
theorem d35_53 : decode (pB 35) 53 = .ok (.aload_n 0, 1) := by decide +kernel
theorem d35_54 : decode (pB 35) 54 = .ok (.new 37, 3) := by decide +kernel
theorem d35_57 : decode (pB 35) 57 = .ok (.dup, 1) := by decide +kernel
theorem d35_58 : decode (pB 35) 58 = .ok (.invokespecial 39, 3) := by decide +kernel
theorem d35_61 : decode (pB 35) 61 = .ok (.putfield 40, 3) := by decide +kernel
theorem d35_64 : decode (pB 35) 64 = .ok (.aload_n 0, 1) := by decide +kernel
theorem d35_65 : decode (pB 35) 65 = .ok (.aload_n 0, 1) := by decide +kernel
theorem d35_66 : decode (pB 35) 66 = .ok (.getfield 40, 3) := by decide +kernel
theorem d35_69 : decode (pB 35) 69 = .ok (.getfield 44, 3) := by decide +kernel
theorem d35_72 : decode (pB 35) 72 = .ok (.putfield 48, 3) := by decide +kernel
theorem d35_75 : decode (pB 35) 75 = .ok (.iconst 0, 1) := by decide +kernel
theorem d35_76 : decode (pB 35) 76 = .ok (.istore_n 1, 1) := by decide +kernel
theorem d35_77 : decode (pB 35) 77 = .ok (.iload_n 1, 1) := by decide +kernel
theorem d35_78 : decode (pB 35) 78 = .ok (.aload_n 0, 1) := by decide +kernel
theorem d35_79 : decode (pB 35) 79 = .ok (.getfield 16, 3) := by decide +kernel
theorem d35_82 : decode (pB 35) 82 = .ok (.arraylength, 1) := by decide +kernel
theorem d35_83 : decode (pB 35) 83 = .ok (.if_icmp .ge 22, 3) := by decide +kernel
theorem d35_86 : decode (pB 35) 86 = .ok (.aload_n 0, 1) := by decide +kernel
theorem d35_87 : decode (pB 35) 87 = .ok (.getfield 16, 3) := by decide +kernel
theorem d35_90 : decode (pB 35) 90 = .ok (.iload_n 1, 1) := by decide +kernel
theorem d35_91 : decode (pB 35) 91 = .ok (.new 7, 3) := by decide +kernel
theorem d35_94 : decode (pB 35) 94 = .ok (.dup, 1) := by decide +kernel
theorem d35_95 : decode (pB 35) 95 = .ok (.invokespecial 9, 3) := by decide +kernel
theorem d35_98 : decode (pB 35) 98 = .ok (.aastore, 1) := by decide +kernel
theorem d35_99 : decode (pB 35) 99 = .ok (.iinc 1 1, 3) := by decide +kernel
theorem d35_102 : decode (pB 35) 102 = .ok (.goto (-25), 3) := by decide +kernel
theorem d35_105 : decode (pB 35) 105 = .ok (.iconst 0, 1) := by decide +kernel
theorem d35_106 : decode (pB 35) 106 = .ok (.istore_n 1, 1) := by decide +kernel
theorem d35_107 : decode (pB 35) 107 = .ok (.iload_n 1, 1) := by decide +kernel
theorem d35_108 : decode (pB 35) 108 = .ok (.aload_n 0, 1) := by decide +kernel
theorem d35_109 : decode (pB 35) 109 = .ok (.getfield 24, 3) := by decide +kernel
theorem d35_112 : decode (pB 35) 112 = .ok (.arraylength, 1) := by decide +kernel
theorem d35_113 : decode (pB 35) 113 = .ok (.if_icmp .ge 22, 3) := by decide +kernel
theorem d35_116 : decode (pB 35) 116 = .ok (.aload_n 0, 1) := by decide +kernel
theorem d35_117 : decode (pB 35) 117 = .ok (.getfield 24, 3) := by decide +kernel
theorem d35_120 : decode (pB 35) 120 = .ok (.iload_n 1, 1) := by decide +kernel
theorem d35_121 : decode (pB 35) 121 = .ok (.new 7, 3) := by decide +kernel
theorem d35_124 : decode (pB 35) 124 = .ok (.dup, 1) := by decide +kernel
theorem d35_125 : decode (pB 35) 125 = .ok (.invokespecial 9, 3) := by decide +kernel
theorem d35_128 : decode (pB 35) 128 = .ok (.aastore, 1) := by decide +kernel
theorem d35_129 : decode (pB 35) 129 = .ok (.iinc 1 1, 3) := by decide +kernel
theorem d35_132 : decode (pB 35) 132 = .ok (.goto (-25), 3) := by decide +kernel
theorem d35_135 : decode (pB 35) 135 = .ok (.iconst 0, 1) := by decide +kernel
theorem d35_136 : decode (pB 35) 136 = .ok (.istore_n 1, 1) := by decide +kernel
theorem d35_137 : decode (pB 35) 137 = .ok (.iload_n 1, 1) := by decide +kernel
theorem d35_138 : decode (pB 35) 138 = .ok (.aload_n 0, 1) := by decide +kernel
theorem d35_139 : decode (pB 35) 139 = .ok (.getfield 33, 3) := by decide +kernel
theorem d35_142 : decode (pB 35) 142 = .ok (.arraylength, 1) := by decide +kernel
theorem d35_143 : decode (pB 35) 143 = .ok (.if_icmp .ge 22, 3) := by decide +kernel
theorem d35_146 : decode (pB 35) 146 = .ok (.aload_n 0, 1) := by decide +kernel
theorem d35_147 : decode (pB 35) 147 = .ok (.getfield 33, 3) := by decide +kernel
theorem d35_150 : decode (pB 35) 150 = .ok (.iload_n 1, 1) := by decide +kernel
theorem d35_151 : decode (pB 35) 151 = .ok (.new 31, 3) := by decide +kernel
theorem d35_154 : decode (pB 35) 154 = .ok (.dup, 1) := by decide +kernel
theorem d35_155 : decode (pB 35) 155 = .ok (.invokespecial 49, 3) := by decide +kernel
theorem d35_158 : decode (pB 35) 158 = .ok (.aastore, 1) := by decide +kernel
theorem d35_159 : decode (pB 35) 159 = .ok (.iinc 1 1, 3) := by decide +kernel
theorem d35_162 : decode (pB 35) 162 = .ok (.goto (-25), 3) := by decide +kernel
theorem d35_165 : decode (pB 35) 165 = .ok (.aload_n 0, 1) := by decide +kernel
theorem d35_166 : decode (pB 35) 166 = .ok (.getfield 33, 3) := by decide +kernel
theorem d35_169 : decode (pB 35) 169 = .ok (.iconst 0, 1) := by decide +kernel
theorem d35_170 : decode (pB 35) 170 = .ok (.aaload, 1) := by decide +kernel
theorem d35_171 : decode (pB 35) 171 = .ok (.getstatic 50, 3) := by decide +kernel
theorem d35_174 : decode (pB 35) 174 = .ok (.iconst 0, 1) := by decide +kernel
theorem d35_175 : decode (pB 35) 175 = .ok (.iaload, 1) := by decide +kernel
theorem d35_176 : decode (pB 35) 176 = .ok (.invokevirtual 54, 3) := by decide +kernel
theorem d35_179 : decode (pB 35) 179 = .ok (.return_, 1) := by decide +kernel
theorem st1_35_1 : p_st1 35 1 = true := by decide +kernel
/-- RX4.<init> -/
def t35_0 : List (Nat × pO) := [(0, o_aload 0 1), (1, o_oinit 4), (4, o_aload 0 5), (5, o_new 3 [.null, .null, .null, .null, .null, .int 0, .int 0] 8), (8, o_dupr 9), (9, o_invI 16 0 12), (12, o_putR 4 0 15), (15, o_aload 0 16), (16, o_push (.int (nI 7)) 18), (18, o_newq 3 21), (21, o_putR 4 1 24), (24, o_aload 0 25), (25, o_push (.int (nI 0)) 26), (26, o_putI 4 2 29), (29, o_aload 0 30), (30, o_push (.int (nI 2)) 31), (31, o_newq 3 34), (34, o_putR 4 3 37), (37, o_aload 0 38), (38, o_push (.int (nI 2)) 39), (39, o_newa 1 41), (41, o_putR 4 4 44), (44, o_aload 0 45), (45, o_push (.int (nI 6)) 47), (47, o_newq 2 50), (50, o_putR 4 5 53), (53, o_aload 0 54), (54, o_new 1 [.null, .int 0, .int 0, .int 0, .int 0, .int 0] 57), (57, o_dupr 58), (58, o_invI 14 0 61), (61, o_putR 4 6 64), (64, o_aload 0 65), (65, o_aload 0 66), (66, o_getR 4 6 69), (69, o_getR 1 0 72), (72, o_putR 4 7 75), (75, o_push (.int (nI 0)) 76), (76, o_istore 1 77), (77, o_iload 1 78), (78, o_aload 0 79)]
theorem ok35_0 : ∀ q ∈ t35_0, p_Z 35 q := List.forall_mem_cons.mpr ⟨⟨s_aload_n d35_0 rfl, tl_aload _ _⟩, List.forall_mem_cons.mpr ⟨⟨s_oinit d35_1 wd_30 wd_31 wd_32, tl_oinit _⟩, List.forall_mem_cons.mpr ⟨⟨s_aload_n d35_4 rfl, tl_aload _ _⟩, List.forall_mem_cons.mpr ⟨⟨s_new d35_5 rfl inp3 tyX3_ok rfl ⟨rfl, by simp⟩ wd_33 wd_34 wd_18, tl_new _ _ _⟩, List.forall_mem_cons.mpr ⟨⟨s_dupr d35_8, tl_dupr _⟩, List.forall_mem_cons.mpr ⟨⟨q_invI_16 d35_9 wd_35, tl_invI _ _ _⟩, List.forall_mem_cons.mpr ⟨⟨f_putR_4_0 d35_12 wd_161, tl_putR _ _ _⟩, List.forall_mem_cons.mpr ⟨⟨s_aload_n d35_15 rfl, tl_aload _ _⟩, List.forall_mem_cons.mpr ⟨⟨s_bipush d35_16 rfl, tl_push _ _⟩, List.forall_mem_cons.mpr ⟨⟨s_newq d35_18 wd_33 (by decide +kernel), tl_newq _ _⟩, List.forall_mem_cons.mpr ⟨⟨f_putR_4_1 d35_21 wd_162, tl_putR _ _ _⟩, List.forall_mem_cons.mpr ⟨⟨s_aload_n d35_24 rfl, tl_aload _ _⟩, List.forall_mem_cons.mpr ⟨⟨s_iconst d35_25 rfl, tl_push _ _⟩, List.forall_mem_cons.mpr ⟨⟨f_putI_4_2 d35_26 wd_163, tl_putI _ _ _⟩, List.forall_mem_cons.mpr ⟨⟨s_aload_n d35_29 rfl, tl_aload _ _⟩, List.forall_mem_cons.mpr ⟨⟨s_iconst d35_30 rfl, tl_push _ _⟩, List.forall_mem_cons.mpr ⟨⟨s_newq d35_31 wd_33 (by decide +kernel), tl_newq _ _⟩, List.forall_mem_cons.mpr ⟨⟨f_putR_4_3 d35_34 wd_164, tl_putR _ _ _⟩, List.forall_mem_cons.mpr ⟨⟨s_aload_n d35_37 rfl, tl_aload _ _⟩, List.forall_mem_cons.mpr ⟨⟨s_iconst d35_38 rfl, tl_push _ _⟩, List.forall_mem_cons.mpr ⟨⟨s_newaz d35_39 wd_94, tl_newa _ _⟩, List.forall_mem_cons.mpr ⟨⟨f_putR_4_4 d35_41 wd_165, tl_putR _ _ _⟩, List.forall_mem_cons.mpr ⟨⟨s_aload_n d35_44 rfl, tl_aload _ _⟩, List.forall_mem_cons.mpr ⟨⟨s_bipush d35_45 rfl, tl_push _ _⟩, List.forall_mem_cons.mpr ⟨⟨s_newq d35_47 wd_72 (by decide +kernel), tl_newq _ _⟩, List.forall_mem_cons.mpr ⟨⟨f_putR_4_5 d35_50 wd_166, tl_putR _ _ _⟩, List.forall_mem_cons.mpr ⟨⟨s_aload_n d35_53 rfl, tl_aload _ _⟩, List.forall_mem_cons.mpr ⟨⟨s_new d35_54 rfl inp1 tyX1_ok rfl ⟨rfl, by simp⟩ wd_74 wd_75 wd_19, tl_new _ _ _⟩, List.forall_mem_cons.mpr ⟨⟨s_dupr d35_57, tl_dupr _⟩, List.forall_mem_cons.mpr ⟨⟨q_invN_14 (host := "FoldedBench") d35_58 (by decide +kernel), tl_invI _ _ _⟩, List.forall_mem_cons.mpr ⟨⟨f_putR_4_6 d35_61 wd_167, tl_putR _ _ _⟩, List.forall_mem_cons.mpr ⟨⟨s_aload_n d35_64 rfl, tl_aload _ _⟩, List.forall_mem_cons.mpr ⟨⟨s_aload_n d35_65 rfl, tl_aload _ _⟩, List.forall_mem_cons.mpr ⟨⟨f_getR_4_6 d35_66 wd_167, tl_getR _ _ _⟩, List.forall_mem_cons.mpr ⟨⟨f_getR_1_0 d35_69 wd_96, tl_getR _ _ _⟩, List.forall_mem_cons.mpr ⟨⟨f_putR_4_7 d35_72 wd_168, tl_putR _ _ _⟩, List.forall_mem_cons.mpr ⟨⟨s_iconst d35_75 rfl, tl_push _ _⟩, List.forall_mem_cons.mpr ⟨⟨s_istore_n d35_76 rfl st1_35_1, tl_istore _ _⟩, List.forall_mem_cons.mpr ⟨⟨s_iload_n d35_77 rfl, tl_iload _ _⟩, List.forall_mem_cons.mpr ⟨⟨s_aload_n d35_78 rfl, tl_aload _ _⟩, fun _ h => absurd h List.not_mem_nil⟩⟩⟩⟩⟩⟩⟩⟩⟩⟩⟩⟩⟩⟩⟩⟩⟩⟩⟩⟩⟩⟩⟩⟩⟩⟩⟩⟩⟩⟩⟩⟩⟩⟩⟩⟩⟩⟩⟩⟩
/-- RX4.<init> -/
def t35_1 : List (Nat × pO) := [(79, o_getR 4 1 82), (82, o_alen 83), (83, o_icge 105 86), (86, o_aload 0 87), (87, o_getR 4 1 90), (90, o_iload 1 91), (91, o_new 3 [.null, .null, .null, .null, .null, .int 0, .int 0] 94), (94, o_dupr 95), (95, o_invI 16 0 98), (98, o_aast 99), (99, o_iinc 1 (nI 1) 102), (102, o_goto 77), (105, o_push (.int (nI 0)) 106), (106, o_istore 1 107), (107, o_iload 1 108), (108, o_aload 0 109), (109, o_getR 4 3 112), (112, o_alen 113), (113, o_icge 135 116), (116, o_aload 0 117), (117, o_getR 4 3 120), (120, o_iload 1 121), (121, o_new 3 [.null, .null, .null, .null, .null, .int 0, .int 0] 124), (124, o_dupr 125), (125, o_invI 16 0 128), (128, o_aast 129), (129, o_iinc 1 (nI 1) 132), (132, o_goto 107), (135, o_push (.int (nI 0)) 136), (136, o_istore 1 137), (137, o_iload 1 138), (138, o_aload 0 139), (139, o_getR 4 5 142), (142, o_alen 143), (143, o_icge 165 146), (146, o_aload 0 147), (147, o_getR 4 5 150), (150, o_iload 1 151), (151, o_new 0 [.int 0, .int 0, .null, .null, .null, .null] 154), (154, o_dupr 155)]
theorem ok35_1 : ∀ q ∈ t35_1, p_Z 35 q := List.forall_mem_cons.mpr ⟨⟨f_getR_4_1 d35_79 wd_162, tl_getR _ _ _⟩, List.forall_mem_cons.mpr ⟨⟨s_alen d35_82, tl_alen _⟩, List.forall_mem_cons.mpr ⟨⟨s_icge d35_83 rfl, tl_icge _ _⟩, List.forall_mem_cons.mpr ⟨⟨s_aload_n d35_86 rfl, tl_aload _ _⟩, List.forall_mem_cons.mpr ⟨⟨f_getR_4_1 d35_87 wd_162, tl_getR _ _ _⟩, List.forall_mem_cons.mpr ⟨⟨s_iload_n d35_90 rfl, tl_iload _ _⟩, List.forall_mem_cons.mpr ⟨⟨s_new d35_91 rfl inp3 tyX3_ok rfl ⟨rfl, by simp⟩ wd_33 wd_34 wd_18, tl_new _ _ _⟩, List.forall_mem_cons.mpr ⟨⟨s_dupr d35_94, tl_dupr _⟩, List.forall_mem_cons.mpr ⟨⟨q_invI_16 d35_95 wd_35, tl_invI _ _ _⟩, List.forall_mem_cons.mpr ⟨⟨s_aast d35_98, tl_aast _⟩, List.forall_mem_cons.mpr ⟨⟨s_iinc d35_99 rfl st1_35_1, tl_iinc _ _ _⟩, List.forall_mem_cons.mpr ⟨⟨s_goto d35_102 rfl, tl_goto _⟩, List.forall_mem_cons.mpr ⟨⟨s_iconst d35_105 rfl, tl_push _ _⟩, List.forall_mem_cons.mpr ⟨⟨s_istore_n d35_106 rfl st1_35_1, tl_istore _ _⟩, List.forall_mem_cons.mpr ⟨⟨s_iload_n d35_107 rfl, tl_iload _ _⟩, List.forall_mem_cons.mpr ⟨⟨s_aload_n d35_108 rfl, tl_aload _ _⟩, List.forall_mem_cons.mpr ⟨⟨f_getR_4_3 d35_109 wd_164, tl_getR _ _ _⟩, List.forall_mem_cons.mpr ⟨⟨s_alen d35_112, tl_alen _⟩, List.forall_mem_cons.mpr ⟨⟨s_icge d35_113 rfl, tl_icge _ _⟩, List.forall_mem_cons.mpr ⟨⟨s_aload_n d35_116 rfl, tl_aload _ _⟩, List.forall_mem_cons.mpr ⟨⟨f_getR_4_3 d35_117 wd_164, tl_getR _ _ _⟩, List.forall_mem_cons.mpr ⟨⟨s_iload_n d35_120 rfl, tl_iload _ _⟩, List.forall_mem_cons.mpr ⟨⟨s_new d35_121 rfl inp3 tyX3_ok rfl ⟨rfl, by simp⟩ wd_33 wd_34 wd_18, tl_new _ _ _⟩, List.forall_mem_cons.mpr ⟨⟨s_dupr d35_124, tl_dupr _⟩, List.forall_mem_cons.mpr ⟨⟨q_invI_16 d35_125 wd_35, tl_invI _ _ _⟩, List.forall_mem_cons.mpr ⟨⟨s_aast d35_128, tl_aast _⟩, List.forall_mem_cons.mpr ⟨⟨s_iinc d35_129 rfl st1_35_1, tl_iinc _ _ _⟩, List.forall_mem_cons.mpr ⟨⟨s_goto d35_132 rfl, tl_goto _⟩, List.forall_mem_cons.mpr ⟨⟨s_iconst d35_135 rfl, tl_push _ _⟩, List.forall_mem_cons.mpr ⟨⟨s_istore_n d35_136 rfl st1_35_1, tl_istore _ _⟩, List.forall_mem_cons.mpr ⟨⟨s_iload_n d35_137 rfl, tl_iload _ _⟩, List.forall_mem_cons.mpr ⟨⟨s_aload_n d35_138 rfl, tl_aload _ _⟩, List.forall_mem_cons.mpr ⟨⟨f_getR_4_5 d35_139 wd_166, tl_getR _ _ _⟩, List.forall_mem_cons.mpr ⟨⟨s_alen d35_142, tl_alen _⟩, List.forall_mem_cons.mpr ⟨⟨s_icge d35_143 rfl, tl_icge _ _⟩, List.forall_mem_cons.mpr ⟨⟨s_aload_n d35_146 rfl, tl_aload _ _⟩, List.forall_mem_cons.mpr ⟨⟨f_getR_4_5 d35_147 wd_166, tl_getR _ _ _⟩, List.forall_mem_cons.mpr ⟨⟨s_iload_n d35_150 rfl, tl_iload _ _⟩, List.forall_mem_cons.mpr ⟨⟨s_new d35_151 rfl inp0 tyX0_ok rfl ⟨rfl, by simp⟩ wd_72 wd_115 wd_21, tl_new _ _ _⟩, List.forall_mem_cons.mpr ⟨⟨s_dupr d35_154, tl_dupr _⟩, fun _ h => absurd h List.not_mem_nil⟩⟩⟩⟩⟩⟩⟩⟩⟩⟩⟩⟩⟩⟩⟩⟩⟩⟩⟩⟩⟩⟩⟩⟩⟩⟩⟩⟩⟩⟩⟩⟩⟩⟩⟩⟩⟩⟩⟩⟩
/-- RX4.<init> -/
def t35_2 : List (Nat × pO) := [(155, o_invI 0 0 158), (158, o_aast 159), (159, o_iinc 1 (nI 1) 162), (162, o_goto 137), (165, o_aload 0 166), (166, o_getR 4 5 169), (169, o_push (.int (nI 0)) 170), (170, o_aald 171), (171, o_gets 2 174), (174, o_push (.int (nI 0)) 175), (175, o_iald 176), (176, o_invV 0 1 1 179), (179, o_vret)]
theorem ok35_2 : ∀ q ∈ t35_2, p_Z 35 q := List.forall_mem_cons.mpr ⟨⟨q_invN_0 (host := "FoldedBench") d35_155 (by decide +kernel), tl_invI _ _ _⟩, List.forall_mem_cons.mpr ⟨⟨s_aast d35_158, tl_aast _⟩, List.forall_mem_cons.mpr ⟨⟨s_iinc d35_159 rfl st1_35_1, tl_iinc _ _ _⟩, List.forall_mem_cons.mpr ⟨⟨s_goto d35_162 rfl, tl_goto _⟩, List.forall_mem_cons.mpr ⟨⟨s_aload_n d35_165 rfl, tl_aload _ _⟩, List.forall_mem_cons.mpr ⟨⟨f_getR_4_5 d35_166 wd_166, tl_getR _ _ _⟩, List.forall_mem_cons.mpr ⟨⟨s_iconst d35_169 rfl, tl_push _ _⟩, List.forall_mem_cons.mpr ⟨⟨s_aald d35_170, tl_aald _⟩, List.forall_mem_cons.mpr ⟨⟨s_gets (n := "AT_FIRST") d35_171 (by decide +kernel) wd_144, tl_gets _ _⟩, List.forall_mem_cons.mpr ⟨⟨s_iconst d35_174 rfl, tl_push _ _⟩, List.forall_mem_cons.mpr ⟨⟨s_iald d35_175, tl_iald _⟩, List.forall_mem_cons.mpr ⟨⟨q_invV_1 d35_176 wd_145, tl_invV _ _ _ _⟩, List.forall_mem_cons.mpr ⟨⟨s_vret d35_179 rfl, tl_vret⟩, fun _ h => absurd h List.not_mem_nil⟩⟩⟩⟩⟩⟩⟩⟩⟩⟩⟩⟩⟩
def t35 : List (Nat × pO) := t35_0 ++ (t35_1 ++ (t35_2))
theorem ok35 : ∀ q ∈ t35, p_Z 35 q := List.forall_mem_append.mpr ⟨ok35_0, List.forall_mem_append.mpr ⟨ok35_1, ok35_2⟩⟩
theorem d36_0 : decode (pB 36) 0 = .ok (.aload_n 0, 1) := by decide +kernel
theorem d36_1 : decode (pB 36) 1 = .ok (.invokevirtual 58, 3) := by decide +kernel
theorem d36_4 : decode (pB 36) 4 = .ok (.aload_n 0, 1) := by decide +kernel
theorem d36_5 : decode (pB 36) 5 = .ok (.aload_n 0, 1) := by decide +kernel
theorem d36_6 : decode (pB 36) 6 = .ok (.iload_n 1, 1) := by decide +kernel
theorem d36_7 : decode (pB 36) 7 = .ok (.iload_n 2, 1) := by decide +kernel
theorem d36_8 : decode (pB 36) 8 = .ok (.invokevirtual 61, 3) := by decide +kernel
theorem d36_11 : decode (pB 36) 11 = .ok (.invokevirtual 65, 3) := by decide +kernel
theorem d36_14 : decode (pB 36) 14 = .ok (.ireturn, 1) := by decide +kernel
/-- RX4.set -/
def t36_0 : List (Nat × pO) := [(0, o_aload 0 1), (1, o_invV 4 69 0 4), (4, o_aload 0 5), (5, o_aload 0 6), (6, o_iload 1 7), (7, o_iload 2 8), (8, o_invV 4 54 2 11), (11, o_invV 4 70 1 14), (14, o_iret)]
theorem ok36_0 : ∀ q ∈ t36_0, p_Z 36 q := List.forall_mem_cons.mpr ⟨⟨s_aload_n d36_0 rfl, tl_aload _ _⟩, List.forall_mem_cons.mpr ⟨⟨q_invV_69 d36_1 wd_292, tl_invV _ _ _ _⟩, List.forall_mem_cons.mpr ⟨⟨s_aload_n d36_4 rfl, tl_aload _ _⟩, List.forall_mem_cons.mpr ⟨⟨s_aload_n d36_5 rfl, tl_aload _ _⟩, List.forall_mem_cons.mpr ⟨⟨s_iload_n d36_6 rfl, tl_iload _ _⟩, List.forall_mem_cons.mpr ⟨⟨s_iload_n d36_7 rfl, tl_iload _ _⟩, List.forall_mem_cons.mpr ⟨⟨q_invV_54 d36_8 wd_351, tl_invV _ _ _ _⟩, List.forall_mem_cons.mpr ⟨⟨q_invV_70 d36_11 wd_296, tl_invV _ _ _ _⟩, List.forall_mem_cons.mpr ⟨⟨s_iret d36_14 rfl, tl_iret⟩, fun _ h => absurd h List.not_mem_nil⟩⟩⟩⟩⟩⟩⟩⟩⟩
def t36 : List (Nat × pO) := t36_0
theorem ok36 : ∀ q ∈ t36, p_Z 36 q := ok36_0
theorem d37_0 : decode (pB 37) 0 = .ok (.aload_n 0, 1) := by decide +kernel
theorem d37_1 : decode (pB 37) 1 = .ok (.invokevirtual 58, 3) := by decide +kernel
theorem d37_4 : decode (pB 37) 4 = .ok (.aload_n 0, 1) := by decide +kernel
theorem d37_5 : decode (pB 37) 5 = .ok (.aload_n 0, 1) := by decide +kernel
theorem d37_6 : decode (pB 37) 6 = .ok (.invokevirtual 69, 3) := by decide +kernel
theorem d37_9 : decode (pB 37) 9 = .ok (.invokevirtual 65, 3) := by decide +kernel
theorem d37_12 : decode (pB 37) 12 = .ok (.ireturn, 1) := by decide +kernel
/-- RX4.cousin -/
def t37_0 : List (Nat × pO) := [(0, o_aload 0 1), (1, o_invV 4 69 0 4), (4, o_aload 0 5), (5, o_aload 0 6), (6, o_invV 4 55 0 9), (9, o_invV 4 70 1 12), (12, o_iret)]
theorem ok37_0 : ∀ q ∈ t37_0, p_Z 37 q := List.forall_mem_cons.mpr ⟨⟨s_aload_n d37_0 rfl, tl_aload _ _⟩, List.forall_mem_cons.mpr ⟨⟨q_invV_69 d37_1 wd_292, tl_invV _ _ _ _⟩, List.forall_mem_cons.mpr ⟨⟨s_aload_n d37_4 rfl, tl_aload _ _⟩, List.forall_mem_cons.mpr ⟨⟨s_aload_n d37_5 rfl, tl_aload _ _⟩, List.forall_mem_cons.mpr ⟨⟨q_invV_55 d37_6 wd_367, tl_invV _ _ _ _⟩, List.forall_mem_cons.mpr ⟨⟨q_invV_70 d37_9 wd_296, tl_invV _ _ _ _⟩, List.forall_mem_cons.mpr ⟨⟨s_iret d37_12 rfl, tl_iret⟩, fun _ h => absurd h List.not_mem_nil⟩⟩⟩⟩⟩⟩⟩
def t37 : List (Nat × pO) := t37_0
theorem ok37 : ∀ q ∈ t37, p_Z 37 q := ok37_0
theorem d38_0 : decode (pB 38) 0 = .ok (.aload_n 0, 1) := by decide +kernel
theorem d38_1 : decode (pB 38) 1 = .ok (.invokevirtual 58, 3) := by decide +kernel
theorem d38_4 : decode (pB 38) 4 = .ok (.aload_n 0, 1) := by decide +kernel
theorem d38_5 : decode (pB 38) 5 = .ok (.aload_n 0, 1) := by decide +kernel
theorem d38_6 : decode (pB 38) 6 = .ok (.iload_n 1, 1) := by decide +kernel
theorem d38_7 : decode (pB 38) 7 = .ok (.iload_n 2, 1) := by decide +kernel
theorem d38_8 : decode (pB 38) 8 = .ok (.invokevirtual 73, 3) := by decide +kernel
theorem d38_11 : decode (pB 38) 11 = .ok (.invokevirtual 65, 3) := by decide +kernel
theorem d38_14 : decode (pB 38) 14 = .ok (.ireturn, 1) := by decide +kernel
/-- RX4.sit -/
def t38_0 : List (Nat × pO) := [(0, o_aload 0 1), (1, o_invV 4 69 0 4), (4, o_aload 0 5), (5, o_aload 0 6), (6, o_iload 1 7), (7, o_iload 2 8), (8, o_invV 4 56 2 11), (11, o_invV 4 70 1 14), (14, o_iret)]
theorem ok38_0 : ∀ q ∈ t38_0, p_Z 38 q := List.forall_mem_cons.mpr ⟨⟨s_aload_n d38_0 rfl, tl_aload _ _⟩, List.forall_mem_cons.mpr ⟨⟨q_invV_69 d38_1 wd_292, tl_invV _ _ _ _⟩, List.forall_mem_cons.mpr ⟨⟨s_aload_n d38_4 rfl, tl_aload _ _⟩, List.forall_mem_cons.mpr ⟨⟨s_aload_n d38_5 rfl, tl_aload _ _⟩, List.forall_mem_cons.mpr ⟨⟨s_iload_n d38_6 rfl, tl_iload _ _⟩, List.forall_mem_cons.mpr ⟨⟨s_iload_n d38_7 rfl, tl_iload _ _⟩, List.forall_mem_cons.mpr ⟨⟨q_invV_56 d38_8 wd_375, tl_invV _ _ _ _⟩, List.forall_mem_cons.mpr ⟨⟨q_invV_70 d38_11 wd_296, tl_invV _ _ _ _⟩, List.forall_mem_cons.mpr ⟨⟨s_iret d38_14 rfl, tl_iret⟩, fun _ h => absurd h List.not_mem_nil⟩⟩⟩⟩⟩⟩⟩⟩⟩
def t38 : List (Nat × pO) := t38_0
theorem ok38 : ∀ q ∈ t38, p_Z 38 q := ok38_0
theorem d39_0 : decode (pB 39) 0 = .ok (.aload_n 0, 1) := by decide +kernel
theorem d39_1 : decode (pB 39) 1 = .ok (.invokevirtual 58, 3) := by decide +kernel
theorem d39_4 : decode (pB 39) 4 = .ok (.aload_n 0, 1) := by decide +kernel
theorem d39_5 : decode (pB 39) 5 = .ok (.aload_n 0, 1) := by decide +kernel
theorem d39_6 : decode (pB 39) 6 = .ok (.iload_n 1, 1) := by decide +kernel
theorem d39_7 : decode (pB 39) 7 = .ok (.invokevirtual 76, 3) := by decide +kernel
theorem d39_10 : decode (pB 39) 10 = .ok (.invokevirtual 65, 3) := by decide +kernel
theorem d39_13 : decode (pB 39) 13 = .ok (.ireturn, 1) := by decide +kernel
/-- RX4.stand -/
def t39_0 : List (Nat × pO) := [(0, o_aload 0 1), (1, o_invV 4 69 0 4), (4, o_aload 0 5), (5, o_aload 0 6), (6, o_iload 1 7), (7, o_invV 4 57 1 10), (10, o_invV 4 70 1 13), (13, o_iret)]
theorem ok39_0 : ∀ q ∈ t39_0, p_Z 39 q := List.forall_mem_cons.mpr ⟨⟨s_aload_n d39_0 rfl, tl_aload _ _⟩, List.forall_mem_cons.mpr ⟨⟨q_invV_69 d39_1 wd_292, tl_invV _ _ _ _⟩, List.forall_mem_cons.mpr ⟨⟨s_aload_n d39_4 rfl, tl_aload _ _⟩, List.forall_mem_cons.mpr ⟨⟨s_aload_n d39_5 rfl, tl_aload _ _⟩, List.forall_mem_cons.mpr ⟨⟨s_iload_n d39_6 rfl, tl_iload _ _⟩, List.forall_mem_cons.mpr ⟨⟨q_invV_57 d39_7 wd_383, tl_invV _ _ _ _⟩, List.forall_mem_cons.mpr ⟨⟨q_invV_70 d39_10 wd_296, tl_invV _ _ _ _⟩, List.forall_mem_cons.mpr ⟨⟨s_iret d39_13 rfl, tl_iret⟩, fun _ h => absurd h List.not_mem_nil⟩⟩⟩⟩⟩⟩⟩⟩
def t39 : List (Nat × pO) := t39_0
theorem ok39 : ∀ q ∈ t39, p_Z 39 q := ok39_0
theorem d40_0 : decode (pB 40) 0 = .ok (.aload_n 0, 1) := by decide +kernel
theorem d40_1 : decode (pB 40) 1 = .ok (.invokevirtual 58, 3) := by decide +kernel
theorem d40_4 : decode (pB 40) 4 = .ok (.aload_n 0, 1) := by decide +kernel
theorem d40_5 : decode (pB 40) 5 = .ok (.aload_n 0, 1) := by decide +kernel
theorem d40_6 : decode (pB 40) 6 = .ok (.iload_n 1, 1) := by decide +kernel
theorem d40_7 : decode (pB 40) 7 = .ok (.iload_n 2, 1) := by decide +kernel
theorem d40_8 : decode (pB 40) 8 = .ok (.invokevirtual 79, 3) := by decide +kernel
theorem d40_11 : decode (pB 40) 11 = .ok (.invokevirtual 65, 3) := by decide +kernel
theorem d40_14 : decode (pB 40) 14 = .ok (.ireturn, 1) := by decide +kernel
/-- RX4.swap -/
def t40_0 : List (Nat × pO) := [(0, o_aload 0 1), (1, o_invV 4 69 0 4), (4, o_aload 0 5), (5, o_aload 0 6), (6, o_iload 1 7), (7, o_iload 2 8), (8, o_invV 4 58 2 11), (11, o_invV 4 70 1 14), (14, o_iret)]
theorem ok40_0 : ∀ q ∈ t40_0, p_Z 40 q := List.forall_mem_cons.mpr ⟨⟨s_aload_n d40_0 rfl, tl_aload _ _⟩, List.forall_mem_cons.mpr ⟨⟨q_invV_69 d40_1 wd_292, tl_invV _ _ _ _⟩, List.forall_mem_cons.mpr ⟨⟨s_aload_n d40_4 rfl, tl_aload _ _⟩, List.forall_mem_cons.mpr ⟨⟨s_aload_n d40_5 rfl, tl_aload _ _⟩, List.forall_mem_cons.mpr ⟨⟨s_iload_n d40_6 rfl, tl_iload _ _⟩, List.forall_mem_cons.mpr ⟨⟨s_iload_n d40_7 rfl, tl_iload _ _⟩, List.forall_mem_cons.mpr ⟨⟨q_invV_58 d40_8 wd_391, tl_invV _ _ _ _⟩, List.forall_mem_cons.mpr ⟨⟨q_invV_70 d40_11 wd_296, tl_invV _ _ _ _⟩, List.forall_mem_cons.mpr ⟨⟨s_iret d40_14 rfl, tl_iret⟩, fun _ h => absurd h List.not_mem_nil⟩⟩⟩⟩⟩⟩⟩⟩⟩
def t40 : List (Nat × pO) := t40_0
theorem ok40 : ∀ q ∈ t40, p_Z 40 q := ok40_0
theorem d41_0 : decode (pB 41) 0 = .ok (.aload_n 0, 1) := by decide +kernel
theorem d41_1 : decode (pB 41) 1 = .ok (.invokevirtual 58, 3) := by decide +kernel
theorem d41_4 : decode (pB 41) 4 = .ok (.aload_n 0, 1) := by decide +kernel
theorem d41_5 : decode (pB 41) 5 = .ok (.aload_n 0, 1) := by decide +kernel
theorem d41_6 : decode (pB 41) 6 = .ok (.iload_n 1, 1) := by decide +kernel
theorem d41_7 : decode (pB 41) 7 = .ok (.iload_n 2, 1) := by decide +kernel
theorem d41_8 : decode (pB 41) 8 = .ok (.iload_n 3, 1) := by decide +kernel
theorem d41_9 : decode (pB 41) 9 = .ok (.invokevirtual 82, 3) := by decide +kernel
theorem d41_12 : decode (pB 41) 12 = .ok (.invokevirtual 65, 3) := by decide +kernel
theorem d41_15 : decode (pB 41) 15 = .ok (.ireturn, 1) := by decide +kernel
/-- RX4.relate -/
def t41_0 : List (Nat × pO) := [(0, o_aload 0 1), (1, o_invV 4 69 0 4), (4, o_aload 0 5), (5, o_aload 0 6), (6, o_iload 1 7), (7, o_iload 2 8), (8, o_iload 3 9), (9, o_invV 4 59 3 12), (12, o_invV 4 70 1 15), (15, o_iret)]
theorem ok41_0 : ∀ q ∈ t41_0, p_Z 41 q := List.forall_mem_cons.mpr ⟨⟨s_aload_n d41_0 rfl, tl_aload _ _⟩, List.forall_mem_cons.mpr ⟨⟨q_invV_69 d41_1 wd_292, tl_invV _ _ _ _⟩, List.forall_mem_cons.mpr ⟨⟨s_aload_n d41_4 rfl, tl_aload _ _⟩, List.forall_mem_cons.mpr ⟨⟨s_aload_n d41_5 rfl, tl_aload _ _⟩, List.forall_mem_cons.mpr ⟨⟨s_iload_n d41_6 rfl, tl_iload _ _⟩, List.forall_mem_cons.mpr ⟨⟨s_iload_n d41_7 rfl, tl_iload _ _⟩, List.forall_mem_cons.mpr ⟨⟨s_iload_n d41_8 rfl, tl_iload _ _⟩, List.forall_mem_cons.mpr ⟨⟨q_invV_59 d41_9 wd_409, tl_invV _ _ _ _⟩, List.forall_mem_cons.mpr ⟨⟨q_invV_70 d41_12 wd_296, tl_invV _ _ _ _⟩, List.forall_mem_cons.mpr ⟨⟨s_iret d41_15 rfl, tl_iret⟩, fun _ h => absurd h List.not_mem_nil⟩⟩⟩⟩⟩⟩⟩⟩⟩⟩
def t41 : List (Nat × pO) := t41_0
theorem ok41 : ∀ q ∈ t41, p_Z 41 q := ok41_0
theorem d42_0 : decode (pB 42) 0 = .ok (.aload_n 0, 1) := by decide +kernel
theorem d42_1 : decode (pB 42) 1 = .ok (.invokevirtual 58, 3) := by decide +kernel
theorem d42_4 : decode (pB 42) 4 = .ok (.aload_n 0, 1) := by decide +kernel
theorem d42_5 : decode (pB 42) 5 = .ok (.aload_n 0, 1) := by decide +kernel
theorem d42_6 : decode (pB 42) 6 = .ok (.iload_n 1, 1) := by decide +kernel
theorem d42_7 : decode (pB 42) 7 = .ok (.invokevirtual 86, 3) := by decide +kernel
theorem d42_10 : decode (pB 42) 10 = .ok (.invokevirtual 65, 3) := by decide +kernel
theorem d42_13 : decode (pB 42) 13 = .ok (.ireturn, 1) := by decide +kernel
/-- RX4.fold -/
def t42_0 : List (Nat × pO) := [(0, o_aload 0 1), (1, o_invV 4 69 0 4), (4, o_aload 0 5), (5, o_aload 0 6), (6, o_iload 1 7), (7, o_invV 4 60 1 10), (10, o_invV 4 70 1 13), (13, o_iret)]
theorem ok42_0 : ∀ q ∈ t42_0, p_Z 42 q := List.forall_mem_cons.mpr ⟨⟨s_aload_n d42_0 rfl, tl_aload _ _⟩, List.forall_mem_cons.mpr ⟨⟨q_invV_69 d42_1 wd_292, tl_invV _ _ _ _⟩, List.forall_mem_cons.mpr ⟨⟨s_aload_n d42_4 rfl, tl_aload _ _⟩, List.forall_mem_cons.mpr ⟨⟨s_aload_n d42_5 rfl, tl_aload _ _⟩, List.forall_mem_cons.mpr ⟨⟨s_iload_n d42_6 rfl, tl_iload _ _⟩, List.forall_mem_cons.mpr ⟨⟨q_invV_60 d42_7 wd_450, tl_invV _ _ _ _⟩, List.forall_mem_cons.mpr ⟨⟨q_invV_70 d42_10 wd_296, tl_invV _ _ _ _⟩, List.forall_mem_cons.mpr ⟨⟨s_iret d42_13 rfl, tl_iret⟩, fun _ h => absurd h List.not_mem_nil⟩⟩⟩⟩⟩⟩⟩⟩
def t42 : List (Nat × pO) := t42_0
theorem ok42 : ∀ q ∈ t42, p_Z 42 q := ok42_0
theorem d43_0 : decode (pB 43) 0 = .ok (.aload_n 0, 1) := by decide +kernel
theorem d43_1 : decode (pB 43) 1 = .ok (.invokevirtual 58, 3) := by decide +kernel
theorem d43_4 : decode (pB 43) 4 = .ok (.aload_n 0, 1) := by decide +kernel
theorem d43_5 : decode (pB 43) 5 = .ok (.aload_n 0, 1) := by decide +kernel
theorem d43_6 : decode (pB 43) 6 = .ok (.iload_n 1, 1) := by decide +kernel
theorem d43_7 : decode (pB 43) 7 = .ok (.invokevirtual 89, 3) := by decide +kernel
theorem d43_10 : decode (pB 43) 10 = .ok (.invokevirtual 65, 3) := by decide +kernel
theorem d43_13 : decode (pB 43) 13 = .ok (.ireturn, 1) := by decide +kernel
/-- RX4.press -/
def t43_0 : List (Nat × pO) := [(0, o_aload 0 1), (1, o_invV 4 69 0 4), (4, o_aload 0 5), (5, o_aload 0 6), (6, o_iload 1 7), (7, o_invV 4 61 1 10), (10, o_invV 4 70 1 13), (13, o_iret)]
theorem ok43_0 : ∀ q ∈ t43_0, p_Z 43 q := List.forall_mem_cons.mpr ⟨⟨s_aload_n d43_0 rfl, tl_aload _ _⟩, List.forall_mem_cons.mpr ⟨⟨q_invV_69 d43_1 wd_292, tl_invV _ _ _ _⟩, List.forall_mem_cons.mpr ⟨⟨s_aload_n d43_4 rfl, tl_aload _ _⟩, List.forall_mem_cons.mpr ⟨⟨s_aload_n d43_5 rfl, tl_aload _ _⟩, List.forall_mem_cons.mpr ⟨⟨s_iload_n d43_6 rfl, tl_iload _ _⟩, List.forall_mem_cons.mpr ⟨⟨q_invV_61 d43_7 wd_430, tl_invV _ _ _ _⟩, List.forall_mem_cons.mpr ⟨⟨q_invV_70 d43_10 wd_296, tl_invV _ _ _ _⟩, List.forall_mem_cons.mpr ⟨⟨s_iret d43_13 rfl, tl_iret⟩, fun _ h => absurd h List.not_mem_nil⟩⟩⟩⟩⟩⟩⟩⟩
def t43 : List (Nat × pO) := t43_0
theorem ok43 : ∀ q ∈ t43, p_Z 43 q := ok43_0
theorem d44_0 : decode (pB 44) 0 = .ok (.aload_n 0, 1) := by decide +kernel
theorem d44_1 : decode (pB 44) 1 = .ok (.invokevirtual 58, 3) := by decide +kernel
theorem d44_4 : decode (pB 44) 4 = .ok (.aload_n 0, 1) := by decide +kernel
theorem d44_5 : decode (pB 44) 5 = .ok (.aload_n 0, 1) := by decide +kernel
theorem d44_6 : decode (pB 44) 6 = .ok (.invokevirtual 92, 3) := by decide +kernel
theorem d44_9 : decode (pB 44) 9 = .ok (.invokevirtual 65, 3) := by decide +kernel
theorem d44_12 : decode (pB 44) 12 = .ok (.ireturn, 1) := by decide +kernel
/-- RX4.unfold -/
def t44_0 : List (Nat × pO) := [(0, o_aload 0 1), (1, o_invV 4 69 0 4), (4, o_aload 0 5), (5, o_aload 0 6), (6, o_invV 4 62 0 9), (9, o_invV 4 70 1 12), (12, o_iret)]
theorem ok44_0 : ∀ q ∈ t44_0, p_Z 44 q := List.forall_mem_cons.mpr ⟨⟨s_aload_n d44_0 rfl, tl_aload _ _⟩, List.forall_mem_cons.mpr ⟨⟨q_invV_69 d44_1 wd_292, tl_invV _ _ _ _⟩, List.forall_mem_cons.mpr ⟨⟨s_aload_n d44_4 rfl, tl_aload _ _⟩, List.forall_mem_cons.mpr ⟨⟨s_aload_n d44_5 rfl, tl_aload _ _⟩, List.forall_mem_cons.mpr ⟨⟨q_invV_62 d44_6 wd_422, tl_invV _ _ _ _⟩, List.forall_mem_cons.mpr ⟨⟨q_invV_70 d44_9 wd_296, tl_invV _ _ _ _⟩, List.forall_mem_cons.mpr ⟨⟨s_iret d44_12 rfl, tl_iret⟩, fun _ h => absurd h List.not_mem_nil⟩⟩⟩⟩⟩⟩⟩
def t44 : List (Nat × pO) := t44_0
theorem ok44 : ∀ q ∈ t44, p_Z 44 q := ok44_0
theorem d45_0 : decode (pB 45) 0 = .ok (.aload_n 0, 1) := by decide +kernel
theorem d45_1 : decode (pB 45) 1 = .ok (.getfield 10, 3) := by decide +kernel
theorem d45_4 : decode (pB 45) 4 = .ok (.iload_n 1, 1) := by decide +kernel
theorem d45_5 : decode (pB 45) 5 = .ok (.invokevirtual 122, 3) := by decide +kernel
theorem d45_8 : decode (pB 45) 8 = .ok (.ifCond .ne 5, 3) := by decide +kernel
theorem d45_11 : decode (pB 45) 11 = .ok (.iconst (-1), 1) := by decide +kernel
theorem d45_12 : decode (pB 45) 12 = .ok (.ireturn, 1) := by decide +kernel
theorem d45_13 : decode (pB 45) 13 = .ok (.aload_n 0, 1) := by decide +kernel
theorem d45_14 : decode (pB 45) 14 = .ok (.getfield 10, 3) := by decide +kernel
theorem d45_17 : decode (pB 45) 17 = .ok (.iload_n 1, 1) := by decide +kernel
theorem d45_18 : decode (pB 45) 18 = .ok (.invokevirtual 126, 3) := by decide +kernel
theorem d45_21 : decode (pB 45) 21 = .ok (.istore_n 3, 1) := by decide +kernel
theorem d45_22 : decode (pB 45) 22 = .ok (.iload_n 2, 1) := by decide +kernel
theorem d45_23 : decode (pB 45) 23 = .ok (.tableswitch 141 0 5 #[37, 39, 63, 73, 83, 107], 37) := by decide +kernel
theorem d45_60 : decode (pB 45) 60 = .ok (.iload_n 3, 1) := by decide +kernel
theorem d45_61 : decode (pB 45) 61 = .ok (.ireturn, 1) := by decide +kernel
theorem d45_62 : decode (pB 45) 62 = .ok (.iload_n 3, 1) := by decide +kernel
theorem d45_63 : decode (pB 45) 63 = .ok (.bipush (-6), 2) := by decide +kernel
theorem d45_65 : decode (pB 45) 65 = .ok (.if_icmp .ne 8, 3) := by decide +kernel
theorem d45_68 : decode (pB 45) 68 = .ok (.bipush (-6), 2) := by decide +kernel
theorem d45_70 : decode (pB 45) 70 = .ok (.goto 15, 3) := by decide +kernel
theorem d45_73 : decode (pB 45) 73 = .ok (.aload_n 0, 1) := by decide +kernel
theorem d45_74 : decode (pB 45) 74 = .ok (.getfield 10, 3) := by decide +kernel
theorem d45_77 : decode (pB 45) 77 = .ok (.iload_n 3, 1) := by decide +kernel
theorem d45_78 : decode (pB 45) 78 = .ok (.aload_n 0, 1) := by decide +kernel
theorem d45_79 : decode (pB 45) 79 = .ok (.invokevirtual 95, 3) := by decide +kernel
theorem d45_82 : decode (pB 45) 82 = .ok (.invokevirtual 129, 3) := by decide +kernel
theorem d45_85 : decode (pB 45) 85 = .ok (.ireturn, 1) := by decide +kernel
theorem d45_86 : decode (pB 45) 86 = .ok (.aload_n 0, 1) := by decide +kernel
theorem d45_87 : decode (pB 45) 87 = .ok (.getfield 10, 3) := by decide +kernel
theorem d45_90 : decode (pB 45) 90 = .ok (.getfield 133, 3) := by decide +kernel
theorem d45_93 : decode (pB 45) 93 = .ok (.iload_n 1, 1) := by decide +kernel
theorem d45_94 : decode (pB 45) 94 = .ok (.iaload, 1) := by decide +kernel
theorem d45_95 : decode (pB 45) 95 = .ok (.ireturn, 1) := by decide +kernel
theorem d45_96 : decode (pB 45) 96 = .ok (.aload_n 0, 1) := by decide +kernel
theorem d45_97 : decode (pB 45) 97 = .ok (.getfield 10, 3) := by decide +kernel
theorem d45_100 : decode (pB 45) 100 = .ok (.getfield 136, 3) := by decide +kernel
theorem d45_103 : decode (pB 45) 103 = .ok (.iload_n 1, 1) := by decide +kernel
theorem d45_104 : decode (pB 45) 104 = .ok (.iaload, 1) := by decide +kernel
theorem d45_105 : decode (pB 45) 105 = .ok (.ireturn, 1) := by decide +kernel
theorem d45_106 : decode (pB 45) 106 = .ok (.iload_n 3, 1) := by decide +kernel
theorem d45_107 : decode (pB 45) 107 = .ok (.bipush (-6), 2) := by decide +kernel
theorem d45_109 : decode (pB 45) 109 = .ok (.if_icmp .ne 7, 3) := by decide +kernel
theorem d45_112 : decode (pB 45) 112 = .ok (.iconst 0, 1) := by decide +kernel
theorem d45_113 : decode (pB 45) 113 = .ok (.goto 16, 3) := by decide +kernel
theorem d45_116 : decode (pB 45) 116 = .ok (.aload_n 0, 1) := by decide +kernel
theorem d45_117 : decode (pB 45) 117 = .ok (.getfield 10, 3) := by decide +kernel
theorem d45_120 : decode (pB 45) 120 = .ok (.iload_n 3, 1) := by decide +kernel
theorem d45_121 : decode (pB 45) 121 = .ok (.iconst 1, 1) := by decide +kernel
theorem d45_122 : decode (pB 45) 122 = .ok (.isub, 1) := by decide +kernel
theorem d45_123 : decode (pB 45) 123 = .ok (.iload_n 3, 1) := by decide +kernel
theorem d45_124 : decode (pB 45) 124 = .ok (.iconst 1, 1) := by decide +kernel
theorem d45_125 : decode (pB 45) 125 = .ok (.iadd, 1) := by decide +kernel
theorem d45_126 : decode (pB 45) 126 = .ok (.invokevirtual 139, 3) := by decide +kernel
theorem d45_129 : decode (pB 45) 129 = .ok (.ireturn, 1) := by decide +kernel
theorem d45_130 : decode (pB 45) 130 = .ok (.iload_n 3, 1) := by decide +kernel
theorem d45_131 : decode (pB 45) 131 = .ok (.bipush (-6), 2) := by decide +kernel
theorem d45_133 : decode (pB 45) 133 = .ok (.if_icmp .ne 7, 3) := by decide +kernel
theorem d45_136 : decode (pB 45) 136 = .ok (.iconst 0, 1) := by decide +kernel
theorem d45_137 : decode (pB 45) 137 = .ok (.goto 26, 3) := by decide +kernel
theorem d45_140 : decode (pB 45) 140 = .ok (.aload_n 0, 1) := by decide +kernel
theorem d45_141 : decode (pB 45) 141 = .ok (.getfield 10, 3) := by decide +kernel
theorem d45_144 : decode (pB 45) 144 = .ok (.aload_n 0, 1) := by decide +kernel
theorem d45_145 : decode (pB 45) 145 = .ok (.invokevirtual 95, 3) := by decide +kernel
theorem d45_148 : decode (pB 45) 148 = .ok (.iload_n 3, 1) := by decide +kernel
theorem d45_149 : decode (pB 45) 149 = .ok (.invokevirtual 142, 3) := by decide +kernel
theorem d45_152 : decode (pB 45) 152 = .ok (.aload_n 0, 1) := by decide +kernel
theorem d45_153 : decode (pB 45) 153 = .ok (.invokevirtual 95, 3) := by decide +kernel
theorem d45_156 : decode (pB 45) 156 = .ok (.iload_n 3, 1) := by decide +kernel
theorem d45_157 : decode (pB 45) 157 = .ok (.invokevirtual 145, 3) := by decide +kernel
theorem d45_160 : decode (pB 45) 160 = .ok (.invokevirtual 139, 3) := by decide +kernel
theorem d45_163 : decode (pB 45) 163 = .ok (.ireturn, 1) := by decide +kernel
theorem d45_164 : decode (pB 45) 164 = .ok (.bipush (-2), 2) := by decide +kernel
theorem d45_166 : decode (pB 45) 166 = .ok (.ireturn, 1) := by decide +kernel
theorem st1_45_3 : p_st1 45 3 = true := by decide +kernel
/-- RX4.of -/
def t45_0 : List (Nat × pO) := [(0, o_aload 0 1), (1, o_getR 4 0 4), (4, o_iload 1 5), (5, o_invV 3 18 1 8), (8, o_ifne 13 11), (11, o_push (.int (nM 1)) 12), (12, o_iret), (13, o_aload 0 14), (14, o_getR 4 0 17), (17, o_iload 1 18), (18, o_invV 3 20 1 21), (21, o_istore 3 22), (22, o_iload 2 23), (23, o_switch [((nI 0), 60), ((nI 1), 62), ((nI 2), 86), ((nI 3), 96), ((nI 4), 106), ((nI 5), 130)] 164), (60, o_iload 3 61), (61, o_iret), (62, o_iload 3 63), (63, o_push (.int (nM 6)) 65), (65, o_icne 73 68), (68, o_push (.int (nM 6)) 70), (70, o_goto 85), (73, o_aload 0 74), (74, o_getR 4 0 77), (77, o_iload 3 78), (78, o_aload 0 79), (79, o_invV 4 63 0 82), (82, o_invV 3 32 2 85), (85, o_iret), (86, o_aload 0 87), (87, o_getR 4 0 90), (90, o_getR 3 2 93), (93, o_iload 1 94), (94, o_iald 95), (95, o_iret), (96, o_aload 0 97), (97, o_getR 4 0 100), (100, o_getR 3 3 103), (103, o_iload 1 104), (104, o_iald 105), (105, o_iret)]
theorem ok45_0 : ∀ q ∈ t45_0, p_Z 45 q := List.forall_mem_cons.mpr ⟨⟨s_aload_n d45_0 rfl, tl_aload _ _⟩, List.forall_mem_cons.mpr ⟨⟨f_getR_4_0 d45_1 wd_161, tl_getR _ _ _⟩, List.forall_mem_cons.mpr ⟨⟨s_iload_n d45_4 rfl, tl_iload _ _⟩, List.forall_mem_cons.mpr ⟨⟨q_invV_18 d45_5 wd_323, tl_invV _ _ _ _⟩, List.forall_mem_cons.mpr ⟨⟨s_ifne d45_8 rfl, tl_ifne _ _⟩, List.forall_mem_cons.mpr ⟨⟨s_iconst d45_11 rfl, tl_push _ _⟩, List.forall_mem_cons.mpr ⟨⟨s_iret d45_12 rfl, tl_iret⟩, List.forall_mem_cons.mpr ⟨⟨s_aload_n d45_13 rfl, tl_aload _ _⟩, List.forall_mem_cons.mpr ⟨⟨f_getR_4_0 d45_14 wd_161, tl_getR _ _ _⟩, List.forall_mem_cons.mpr ⟨⟨s_iload_n d45_17 rfl, tl_iload _ _⟩, List.forall_mem_cons.mpr ⟨⟨q_invV_20 d45_18 wd_327, tl_invV _ _ _ _⟩, List.forall_mem_cons.mpr ⟨⟨s_istore_n d45_21 rfl st1_45_3, tl_istore _ _⟩, List.forall_mem_cons.mpr ⟨⟨s_iload_n d45_22 rfl, tl_iload _ _⟩, List.forall_mem_cons.mpr ⟨⟨s_table d45_23 rfl (by decide +kernel) (by decide +kernel), tl_switch _ _⟩, List.forall_mem_cons.mpr ⟨⟨s_iload_n d45_60 rfl, tl_iload _ _⟩, List.forall_mem_cons.mpr ⟨⟨s_iret d45_61 rfl, tl_iret⟩, List.forall_mem_cons.mpr ⟨⟨s_iload_n d45_62 rfl, tl_iload _ _⟩, List.forall_mem_cons.mpr ⟨⟨s_bipush d45_63 rfl, tl_push _ _⟩, List.forall_mem_cons.mpr ⟨⟨s_icne d45_65 rfl, tl_icne _ _⟩, List.forall_mem_cons.mpr ⟨⟨s_bipush d45_68 rfl, tl_push _ _⟩, List.forall_mem_cons.mpr ⟨⟨s_goto d45_70 rfl, tl_goto _⟩, List.forall_mem_cons.mpr ⟨⟨s_aload_n d45_73 rfl, tl_aload _ _⟩, List.forall_mem_cons.mpr ⟨⟨f_getR_4_0 d45_74 wd_161, tl_getR _ _ _⟩, List.forall_mem_cons.mpr ⟨⟨s_iload_n d45_77 rfl, tl_iload _ _⟩, List.forall_mem_cons.mpr ⟨⟨s_aload_n d45_78 rfl, tl_aload _ _⟩, List.forall_mem_cons.mpr ⟨⟨q_invV_63 d45_79 wd_206, tl_invV _ _ _ _⟩, List.forall_mem_cons.mpr ⟨⟨q_invV_32 d45_82 wd_331, tl_invV _ _ _ _⟩, List.forall_mem_cons.mpr ⟨⟨s_iret d45_85 rfl, tl_iret⟩, List.forall_mem_cons.mpr ⟨⟨s_aload_n d45_86 rfl, tl_aload _ _⟩, List.forall_mem_cons.mpr ⟨⟨f_getR_4_0 d45_87 wd_161, tl_getR _ _ _⟩, List.forall_mem_cons.mpr ⟨⟨f_getR_3_2 d45_90 wd_46, tl_getR _ _ _⟩, List.forall_mem_cons.mpr ⟨⟨s_iload_n d45_93 rfl, tl_iload _ _⟩, List.forall_mem_cons.mpr ⟨⟨s_iald d45_94, tl_iald _⟩, List.forall_mem_cons.mpr ⟨⟨s_iret d45_95 rfl, tl_iret⟩, List.forall_mem_cons.mpr ⟨⟨s_aload_n d45_96 rfl, tl_aload _ _⟩, List.forall_mem_cons.mpr ⟨⟨f_getR_4_0 d45_97 wd_161, tl_getR _ _ _⟩, List.forall_mem_cons.mpr ⟨⟨f_getR_3_3 d45_100 wd_48, tl_getR _ _ _⟩, List.forall_mem_cons.mpr ⟨⟨s_iload_n d45_103 rfl, tl_iload _ _⟩, List.forall_mem_cons.mpr ⟨⟨s_iald d45_104, tl_iald _⟩, List.forall_mem_cons.mpr ⟨⟨s_iret d45_105 rfl, tl_iret⟩, fun _ h => absurd h List.not_mem_nil⟩⟩⟩⟩⟩⟩⟩⟩⟩⟩⟩⟩⟩⟩⟩⟩⟩⟩⟩⟩⟩⟩⟩⟩⟩⟩⟩⟩⟩⟩⟩⟩⟩⟩⟩⟩⟩⟩⟩⟩
/-- RX4.of -/
def t45_1 : List (Nat × pO) := [(106, o_iload 3 107), (107, o_push (.int (nM 6)) 109), (109, o_icne 116 112), (112, o_push (.int (nI 0)) 113), (113, o_goto 129), (116, o_aload 0 117), (117, o_getR 4 0 120), (120, o_iload 3 121), (121, o_push (.int (nI 1)) 122), (122, o_isub 123), (123, o_iload 3 124), (124, o_push (.int (nI 1)) 125), (125, o_iadd 126), (126, o_invV 3 24 2 129), (129, o_iret), (130, o_iload 3 131), (131, o_push (.int (nM 6)) 133), (133, o_icne 140 136), (136, o_push (.int (nI 0)) 137), (137, o_goto 163), (140, o_aload 0 141), (141, o_getR 4 0 144), (144, o_aload 0 145), (145, o_invV 4 63 0 148), (148, o_iload 3 149), (149, o_invV 0 12 1 152), (152, o_aload 0 153), (153, o_invV 4 63 0 156), (156, o_iload 3 157), (157, o_invV 0 13 1 160), (160, o_invV 3 24 2 163), (163, o_iret), (164, o_push (.int (nM 2)) 166), (166, o_iret)]
theorem ok45_1 : ∀ q ∈ t45_1, p_Z 45 q := List.forall_mem_cons.mpr ⟨⟨s_iload_n d45_106 rfl, tl_iload _ _⟩, List.forall_mem_cons.mpr ⟨⟨s_bipush d45_107 rfl, tl_push _ _⟩, List.forall_mem_cons.mpr ⟨⟨s_icne d45_109 rfl, tl_icne _ _⟩, List.forall_mem_cons.mpr ⟨⟨s_iconst d45_112 rfl, tl_push _ _⟩, List.forall_mem_cons.mpr ⟨⟨s_goto d45_113 rfl, tl_goto _⟩, List.forall_mem_cons.mpr ⟨⟨s_aload_n d45_116 rfl, tl_aload _ _⟩, List.forall_mem_cons.mpr ⟨⟨f_getR_4_0 d45_117 wd_161, tl_getR _ _ _⟩, List.forall_mem_cons.mpr ⟨⟨s_iload_n d45_120 rfl, tl_iload _ _⟩, List.forall_mem_cons.mpr ⟨⟨s_iconst d45_121 rfl, tl_push _ _⟩, List.forall_mem_cons.mpr ⟨⟨s_isub d45_122, tl_isub _⟩, List.forall_mem_cons.mpr ⟨⟨s_iload_n d45_123 rfl, tl_iload _ _⟩, List.forall_mem_cons.mpr ⟨⟨s_iconst d45_124 rfl, tl_push _ _⟩, List.forall_mem_cons.mpr ⟨⟨s_iadd d45_125, tl_iadd _⟩, List.forall_mem_cons.mpr ⟨⟨q_invV_24 d45_126 wd_332, tl_invV _ _ _ _⟩, List.forall_mem_cons.mpr ⟨⟨s_iret d45_129 rfl, tl_iret⟩, List.forall_mem_cons.mpr ⟨⟨s_iload_n d45_130 rfl, tl_iload _ _⟩, List.forall_mem_cons.mpr ⟨⟨s_bipush d45_131 rfl, tl_push _ _⟩, List.forall_mem_cons.mpr ⟨⟨s_icne d45_133 rfl, tl_icne _ _⟩, List.forall_mem_cons.mpr ⟨⟨s_iconst d45_136 rfl, tl_push _ _⟩, List.forall_mem_cons.mpr ⟨⟨s_goto d45_137 rfl, tl_goto _⟩, List.forall_mem_cons.mpr ⟨⟨s_aload_n d45_140 rfl, tl_aload _ _⟩, List.forall_mem_cons.mpr ⟨⟨f_getR_4_0 d45_141 wd_161, tl_getR _ _ _⟩, List.forall_mem_cons.mpr ⟨⟨s_aload_n d45_144 rfl, tl_aload _ _⟩, List.forall_mem_cons.mpr ⟨⟨q_invV_63 d45_145 wd_206, tl_invV _ _ _ _⟩, List.forall_mem_cons.mpr ⟨⟨s_iload_n d45_148 rfl, tl_iload _ _⟩, List.forall_mem_cons.mpr ⟨⟨q_invV_12 d45_149 wd_336, tl_invV _ _ _ _⟩, List.forall_mem_cons.mpr ⟨⟨s_aload_n d45_152 rfl, tl_aload _ _⟩, List.forall_mem_cons.mpr ⟨⟨q_invV_63 d45_153 wd_206, tl_invV _ _ _ _⟩, List.forall_mem_cons.mpr ⟨⟨s_iload_n d45_156 rfl, tl_iload _ _⟩, List.forall_mem_cons.mpr ⟨⟨q_invV_13 d45_157 wd_337, tl_invV _ _ _ _⟩, List.forall_mem_cons.mpr ⟨⟨q_invV_24 d45_160 wd_332, tl_invV _ _ _ _⟩, List.forall_mem_cons.mpr ⟨⟨s_iret d45_163 rfl, tl_iret⟩, List.forall_mem_cons.mpr ⟨⟨s_bipush d45_164 rfl, tl_push _ _⟩, List.forall_mem_cons.mpr ⟨⟨s_iret d45_166 rfl, tl_iret⟩, fun _ h => absurd h List.not_mem_nil⟩⟩⟩⟩⟩⟩⟩⟩⟩⟩⟩⟩⟩⟩⟩⟩⟩⟩⟩⟩⟩⟩⟩⟩⟩⟩⟩⟩⟩⟩⟩⟩⟩⟩
def t45 : List (Nat × pO) := t45_0 ++ (t45_1)
theorem ok45 : ∀ q ∈ t45, p_Z 45 q := List.forall_mem_append.mpr ⟨ok45_0, ok45_1⟩
theorem d46_0 : decode (pB 46) 0 = .ok (.aload_n 0, 1) := by decide +kernel
theorem d46_1 : decode (pB 46) 1 = .ok (.getfield 10, 3) := by decide +kernel
theorem d46_4 : decode (pB 46) 4 = .ok (.iload_n 1, 1) := by decide +kernel
theorem d46_5 : decode (pB 46) 5 = .ok (.invokevirtual 148, 3) := by decide +kernel
theorem d46_8 : decode (pB 46) 8 = .ok (.ifCond .ne 5, 3) := by decide +kernel
theorem d46_11 : decode (pB 46) 11 = .ok (.iconst (-1), 1) := by decide +kernel
theorem d46_12 : decode (pB 46) 12 = .ok (.ireturn, 1) := by decide +kernel
theorem d46_13 : decode (pB 46) 13 = .ok (.aload_n 0, 1) := by decide +kernel
theorem d46_14 : decode (pB 46) 14 = .ok (.invokevirtual 95, 3) := by decide +kernel
theorem d46_17 : decode (pB 46) 17 = .ok (.astore_n 3, 1) := by decide +kernel
theorem d46_18 : decode (pB 46) 18 = .ok (.iload_n 2, 1) := by decide +kernel
theorem d46_19 : decode (pB 46) 19 = .ok (.tableswitch 68 0 4 #[33, 43, 50, 56, 62], 33) := by decide +kernel
theorem d46_52 : decode (pB 46) 52 = .ok (.aload_n 0, 1) := by decide +kernel
theorem d46_53 : decode (pB 46) 53 = .ok (.getfield 10, 3) := by decide +kernel
theorem d46_56 : decode (pB 46) 56 = .ok (.getfield 151, 3) := by decide +kernel
theorem d46_59 : decode (pB 46) 59 = .ok (.iload_n 1, 1) := by decide +kernel
theorem d46_60 : decode (pB 46) 60 = .ok (.iaload, 1) := by decide +kernel
theorem d46_61 : decode (pB 46) 61 = .ok (.ireturn, 1) := by decide +kernel
theorem d46_62 : decode (pB 46) 62 = .ok (.aload_n 3, 1) := by decide +kernel
theorem d46_63 : decode (pB 46) 63 = .ok (.getfield 154, 3) := by decide +kernel
theorem d46_66 : decode (pB 46) 66 = .ok (.iload_n 1, 1) := by decide +kernel
theorem d46_67 : decode (pB 46) 67 = .ok (.iaload, 1) := by decide +kernel
theorem d46_68 : decode (pB 46) 68 = .ok (.ireturn, 1) := by decide +kernel
theorem d46_69 : decode (pB 46) 69 = .ok (.aload_n 3, 1) := by decide +kernel
theorem d46_70 : decode (pB 46) 70 = .ok (.iload_n 1, 1) := by decide +kernel
theorem d46_71 : decode (pB 46) 71 = .ok (.invokevirtual 157, 3) := by decide +kernel
theorem d46_74 : decode (pB 46) 74 = .ok (.ireturn, 1) := by decide +kernel
theorem d46_75 : decode (pB 46) 75 = .ok (.aload_n 3, 1) := by decide +kernel
theorem d46_76 : decode (pB 46) 76 = .ok (.iload_n 1, 1) := by decide +kernel
theorem d46_77 : decode (pB 46) 77 = .ok (.invokevirtual 142, 3) := by decide +kernel
theorem d46_80 : decode (pB 46) 80 = .ok (.ireturn, 1) := by decide +kernel
theorem d46_81 : decode (pB 46) 81 = .ok (.aload_n 3, 1) := by decide +kernel
theorem d46_82 : decode (pB 46) 82 = .ok (.iload_n 1, 1) := by decide +kernel
theorem d46_83 : decode (pB 46) 83 = .ok (.invokevirtual 145, 3) := by decide +kernel
theorem d46_86 : decode (pB 46) 86 = .ok (.ireturn, 1) := by decide +kernel
theorem d46_87 : decode (pB 46) 87 = .ok (.bipush (-2), 2) := by decide +kernel
theorem d46_89 : decode (pB 46) 89 = .ok (.ireturn, 1) := by decide +kernel
theorem st1_46_3 : p_st1 46 3 = true := by decide +kernel
/-- RX4.ofSeat -/
def t46_0 : List (Nat × pO) := [(0, o_aload 0 1), (1, o_getR 4 0 4), (4, o_iload 1 5), (5, o_invV 3 19 1 8), (8, o_ifne 13 11), (11, o_push (.int (nM 1)) 12), (12, o_iret), (13, o_aload 0 14), (14, o_invV 4 63 0 17), (17, o_astore 3 18), (18, o_iload 2 19), (19, o_switch [((nI 0), 52), ((nI 1), 62), ((nI 2), 69), ((nI 3), 75), ((nI 4), 81)] 87), (52, o_aload 0 53), (53, o_getR 4 0 56), (56, o_getR 3 1 59), (59, o_iload 1 60), (60, o_iald 61), (61, o_iret), (62, o_aload 3 63), (63, o_getR 0 4 66), (66, o_iload 1 67), (67, o_iald 68), (68, o_iret), (69, o_aload 3 70), (70, o_iload 1 71), (71, o_invV 0 11 1 74), (74, o_iret), (75, o_aload 3 76), (76, o_iload 1 77), (77, o_invV 0 12 1 80), (80, o_iret), (81, o_aload 3 82), (82, o_iload 1 83), (83, o_invV 0 13 1 86), (86, o_iret), (87, o_push (.int (nM 2)) 89), (89, o_iret)]
theorem ok46_0 : ∀ q ∈ t46_0, p_Z 46 q := List.forall_mem_cons.mpr ⟨⟨s_aload_n d46_0 rfl, tl_aload _ _⟩, List.forall_mem_cons.mpr ⟨⟨f_getR_4_0 d46_1 wd_161, tl_getR _ _ _⟩, List.forall_mem_cons.mpr ⟨⟨s_iload_n d46_4 rfl, tl_iload _ _⟩, List.forall_mem_cons.mpr ⟨⟨q_invV_19 d46_5 wd_342, tl_invV _ _ _ _⟩, List.forall_mem_cons.mpr ⟨⟨s_ifne d46_8 rfl, tl_ifne _ _⟩, List.forall_mem_cons.mpr ⟨⟨s_iconst d46_11 rfl, tl_push _ _⟩, List.forall_mem_cons.mpr ⟨⟨s_iret d46_12 rfl, tl_iret⟩, List.forall_mem_cons.mpr ⟨⟨s_aload_n d46_13 rfl, tl_aload _ _⟩, List.forall_mem_cons.mpr ⟨⟨q_invV_63 d46_14 wd_206, tl_invV _ _ _ _⟩, List.forall_mem_cons.mpr ⟨⟨s_astore_n d46_17 rfl st1_46_3, tl_astore _ _⟩, List.forall_mem_cons.mpr ⟨⟨s_iload_n d46_18 rfl, tl_iload _ _⟩, List.forall_mem_cons.mpr ⟨⟨s_table d46_19 rfl (by decide +kernel) (by decide +kernel), tl_switch _ _⟩, List.forall_mem_cons.mpr ⟨⟨s_aload_n d46_52 rfl, tl_aload _ _⟩, List.forall_mem_cons.mpr ⟨⟨f_getR_4_0 d46_53 wd_161, tl_getR _ _ _⟩, List.forall_mem_cons.mpr ⟨⟨f_getR_3_1 d46_56 wd_44, tl_getR _ _ _⟩, List.forall_mem_cons.mpr ⟨⟨s_iload_n d46_59 rfl, tl_iload _ _⟩, List.forall_mem_cons.mpr ⟨⟨s_iald d46_60, tl_iald _⟩, List.forall_mem_cons.mpr ⟨⟨s_iret d46_61 rfl, tl_iret⟩, List.forall_mem_cons.mpr ⟨⟨s_aload_n d46_62 rfl, tl_aload _ _⟩, List.forall_mem_cons.mpr ⟨⟨f_getR_0_4 d46_63 wd_129, tl_getR _ _ _⟩, List.forall_mem_cons.mpr ⟨⟨s_iload_n d46_66 rfl, tl_iload _ _⟩, List.forall_mem_cons.mpr ⟨⟨s_iald d46_67, tl_iald _⟩, List.forall_mem_cons.mpr ⟨⟨s_iret d46_68 rfl, tl_iret⟩, List.forall_mem_cons.mpr ⟨⟨s_aload_n d46_69 rfl, tl_aload _ _⟩, List.forall_mem_cons.mpr ⟨⟨s_iload_n d46_70 rfl, tl_iload _ _⟩, List.forall_mem_cons.mpr ⟨⟨q_invV_11 d46_71 wd_343, tl_invV _ _ _ _⟩, List.forall_mem_cons.mpr ⟨⟨s_iret d46_74 rfl, tl_iret⟩, List.forall_mem_cons.mpr ⟨⟨s_aload_n d46_75 rfl, tl_aload _ _⟩, List.forall_mem_cons.mpr ⟨⟨s_iload_n d46_76 rfl, tl_iload _ _⟩, List.forall_mem_cons.mpr ⟨⟨q_invV_12 d46_77 wd_336, tl_invV _ _ _ _⟩, List.forall_mem_cons.mpr ⟨⟨s_iret d46_80 rfl, tl_iret⟩, List.forall_mem_cons.mpr ⟨⟨s_aload_n d46_81 rfl, tl_aload _ _⟩, List.forall_mem_cons.mpr ⟨⟨s_iload_n d46_82 rfl, tl_iload _ _⟩, List.forall_mem_cons.mpr ⟨⟨q_invV_13 d46_83 wd_337, tl_invV _ _ _ _⟩, List.forall_mem_cons.mpr ⟨⟨s_iret d46_86 rfl, tl_iret⟩, List.forall_mem_cons.mpr ⟨⟨s_bipush d46_87 rfl, tl_push _ _⟩, List.forall_mem_cons.mpr ⟨⟨s_iret d46_89 rfl, tl_iret⟩, fun _ h => absurd h List.not_mem_nil⟩⟩⟩⟩⟩⟩⟩⟩⟩⟩⟩⟩⟩⟩⟩⟩⟩⟩⟩⟩⟩⟩⟩⟩⟩⟩⟩⟩⟩⟩⟩⟩⟩⟩⟩⟩⟩
def t46 : List (Nat × pO) := t46_0
theorem ok46 : ∀ q ∈ t46, p_Z 46 q := ok46_0
theorem d47_0 : decode (pB 47) 0 = .ok (.aload_n 0, 1) := by decide +kernel
theorem d47_1 : decode (pB 47) 1 = .ok (.invokevirtual 95, 3) := by decide +kernel
theorem d47_4 : decode (pB 47) 4 = .ok (.astore_n 3, 1) := by decide +kernel
theorem d47_5 : decode (pB 47) 5 = .ok (.iload_n 1, 1) := by decide +kernel
theorem d47_6 : decode (pB 47) 6 = .ok (.ifCond .lt 11, 3) := by decide +kernel
theorem d47_9 : decode (pB 47) 9 = .ok (.iload_n 1, 1) := by decide +kernel
theorem d47_10 : decode (pB 47) 10 = .ok (.aload_n 3, 1) := by decide +kernel
theorem d47_11 : decode (pB 47) 11 = .ok (.getfield 104, 3) := by decide +kernel
theorem d47_14 : decode (pB 47) 14 = .ok (.if_icmp .lt 5, 3) := by decide +kernel
theorem d47_17 : decode (pB 47) 17 = .ok (.iconst (-1), 1) := by decide +kernel
theorem d47_18 : decode (pB 47) 18 = .ok (.ireturn, 1) := by decide +kernel
theorem d47_19 : decode (pB 47) 19 = .ok (.iload_n 2, 1) := by decide +kernel
theorem d47_20 : decode (pB 47) 20 = .ok (.ifCond .lt 12, 3) := by decide +kernel
theorem d47_23 : decode (pB 47) 23 = .ok (.iload_n 2, 1) := by decide +kernel
theorem d47_24 : decode (pB 47) 24 = .ok (.aload_n 3, 1) := by decide +kernel
theorem d47_25 : decode (pB 47) 25 = .ok (.iload_n 1, 1) := by decide +kernel
theorem d47_26 : decode (pB 47) 26 = .ok (.invokevirtual 160, 3) := by decide +kernel
theorem d47_29 : decode (pB 47) 29 = .ok (.if_icmp .lt 5, 3) := by decide +kernel
theorem d47_32 : decode (pB 47) 32 = .ok (.iconst (-1), 1) := by decide +kernel
theorem d47_33 : decode (pB 47) 33 = .ok (.ireturn, 1) := by decide +kernel
theorem d47_34 : decode (pB 47) 34 = .ok (.aload_n 3, 1) := by decide +kernel
theorem d47_35 : decode (pB 47) 35 = .ok (.getfield 113, 3) := by decide +kernel
theorem d47_38 : decode (pB 47) 38 = .ok (.aload_n 3, 1) := by decide +kernel
theorem d47_39 : decode (pB 47) 39 = .ok (.getfield 110, 3) := by decide +kernel
theorem d47_42 : decode (pB 47) 42 = .ok (.iload_n 1, 1) := by decide +kernel
theorem d47_43 : decode (pB 47) 43 = .ok (.iaload, 1) := by decide +kernel
theorem d47_44 : decode (pB 47) 44 = .ok (.iload_n 2, 1) := by decide +kernel
theorem d47_45 : decode (pB 47) 45 = .ok (.iadd, 1) := by decide +kernel
theorem d47_46 : decode (pB 47) 46 = .ok (.iaload, 1) := by decide +kernel
theorem d47_47 : decode (pB 47) 47 = .ok (.ireturn, 1) := by decide +kernel
theorem st1_47_3 : p_st1 47 3 = true := by decide +kernel
/-- RX4.column -/
def t47_0 : List (Nat × pO) := [(0, o_aload 0 1), (1, o_invV 4 63 0 4), (4, o_astore 3 5), (5, o_iload 1 6), (6, o_iflt 17 9), (9, o_iload 1 10), (10, o_aload 3 11), (11, o_getI 0 0 14), (14, o_iclt 19 17), (17, o_push (.int (nM 1)) 18), (18, o_iret), (19, o_iload 2 20), (20, o_iflt 32 23), (23, o_iload 2 24), (24, o_aload 3 25), (25, o_iload 1 26), (26, o_invV 0 8 1 29), (29, o_iclt 34 32), (32, o_push (.int (nM 1)) 33), (33, o_iret), (34, o_aload 3 35), (35, o_getR 0 2 38), (38, o_aload 3 39), (39, o_getR 0 3 42), (42, o_iload 1 43), (43, o_iald 44), (44, o_iload 2 45), (45, o_iadd 46), (46, o_iald 47), (47, o_iret)]
theorem ok47_0 : ∀ q ∈ t47_0, p_Z 47 q := List.forall_mem_cons.mpr ⟨⟨s_aload_n d47_0 rfl, tl_aload _ _⟩, List.forall_mem_cons.mpr ⟨⟨q_invV_63 d47_1 wd_206, tl_invV _ _ _ _⟩, List.forall_mem_cons.mpr ⟨⟨s_astore_n d47_4 rfl st1_47_3, tl_astore _ _⟩, List.forall_mem_cons.mpr ⟨⟨s_iload_n d47_5 rfl, tl_iload _ _⟩, List.forall_mem_cons.mpr ⟨⟨s_iflt d47_6 rfl, tl_iflt _ _⟩, List.forall_mem_cons.mpr ⟨⟨s_iload_n d47_9 rfl, tl_iload _ _⟩, List.forall_mem_cons.mpr ⟨⟨s_aload_n d47_10 rfl, tl_aload _ _⟩, List.forall_mem_cons.mpr ⟨⟨f_getI_0_0 d47_11 wd_121, tl_getI _ _ _⟩, List.forall_mem_cons.mpr ⟨⟨s_iclt d47_14 rfl, tl_iclt _ _⟩, List.forall_mem_cons.mpr ⟨⟨s_iconst d47_17 rfl, tl_push _ _⟩, List.forall_mem_cons.mpr ⟨⟨s_iret d47_18 rfl, tl_iret⟩, List.forall_mem_cons.mpr ⟨⟨s_iload_n d47_19 rfl, tl_iload _ _⟩, List.forall_mem_cons.mpr ⟨⟨s_iflt d47_20 rfl, tl_iflt _ _⟩, List.forall_mem_cons.mpr ⟨⟨s_iload_n d47_23 rfl, tl_iload _ _⟩, List.forall_mem_cons.mpr ⟨⟨s_aload_n d47_24 rfl, tl_aload _ _⟩, List.forall_mem_cons.mpr ⟨⟨s_iload_n d47_25 rfl, tl_iload _ _⟩, List.forall_mem_cons.mpr ⟨⟨q_invV_8 d47_26 wd_461, tl_invV _ _ _ _⟩, List.forall_mem_cons.mpr ⟨⟨s_iclt d47_29 rfl, tl_iclt _ _⟩, List.forall_mem_cons.mpr ⟨⟨s_iconst d47_32 rfl, tl_push _ _⟩, List.forall_mem_cons.mpr ⟨⟨s_iret d47_33 rfl, tl_iret⟩, List.forall_mem_cons.mpr ⟨⟨s_aload_n d47_34 rfl, tl_aload _ _⟩, List.forall_mem_cons.mpr ⟨⟨f_getR_0_2 d47_35 wd_125, tl_getR _ _ _⟩, List.forall_mem_cons.mpr ⟨⟨s_aload_n d47_38 rfl, tl_aload _ _⟩, List.forall_mem_cons.mpr ⟨⟨f_getR_0_3 d47_39 wd_127, tl_getR _ _ _⟩, List.forall_mem_cons.mpr ⟨⟨s_iload_n d47_42 rfl, tl_iload _ _⟩, List.forall_mem_cons.mpr ⟨⟨s_iald d47_43, tl_iald _⟩, List.forall_mem_cons.mpr ⟨⟨s_iload_n d47_44 rfl, tl_iload _ _⟩, List.forall_mem_cons.mpr ⟨⟨s_iadd d47_45, tl_iadd _⟩, List.forall_mem_cons.mpr ⟨⟨s_iald d47_46, tl_iald _⟩, List.forall_mem_cons.mpr ⟨⟨s_iret d47_47 rfl, tl_iret⟩, fun _ h => absurd h List.not_mem_nil⟩⟩⟩⟩⟩⟩⟩⟩⟩⟩⟩⟩⟩⟩⟩⟩⟩⟩⟩⟩⟩⟩⟩⟩⟩⟩⟩⟩⟩⟩
def t47 : List (Nat × pO) := t47_0
theorem ok47 : ∀ q ∈ t47, p_Z 47 q := ok47_0
theorem d48_0 : decode (pB 48) 0 = .ok (.iload_n 1, 1) := by decide +kernel
theorem d48_1 : decode (pB 48) 1 = .ok (.tableswitch 188 0 12 #[67, 75, 83, 91, 99, 112, 125, 137, 145, 155, 165, 175, 183], 67) := by decide +kernel
theorem d48_68 : decode (pB 48) 68 = .ok (.aload_n 0, 1) := by decide +kernel
theorem d48_69 : decode (pB 48) 69 = .ok (.getfield 10, 3) := by decide +kernel
theorem d48_72 : decode (pB 48) 72 = .ok (.getfield 166, 3) := by decide +kernel
theorem d48_75 : decode (pB 48) 75 = .ok (.ireturn, 1) := by decide +kernel
theorem d48_76 : decode (pB 48) 76 = .ok (.aload_n 0, 1) := by decide +kernel
theorem d48_77 : decode (pB 48) 77 = .ok (.getfield 10, 3) := by decide +kernel
theorem d48_80 : decode (pB 48) 80 = .ok (.invokevirtual 169, 3) := by decide +kernel
theorem d48_83 : decode (pB 48) 83 = .ok (.ireturn, 1) := by decide +kernel
theorem d48_84 : decode (pB 48) 84 = .ok (.aload_n 0, 1) := by decide +kernel
theorem d48_85 : decode (pB 48) 85 = .ok (.invokevirtual 95, 3) := by decide +kernel
theorem d48_88 : decode (pB 48) 88 = .ok (.getfield 104, 3) := by decide +kernel
theorem d48_91 : decode (pB 48) 91 = .ok (.ireturn, 1) := by decide +kernel
theorem d48_92 : decode (pB 48) 92 = .ok (.aload_n 0, 1) := by decide +kernel
theorem d48_93 : decode (pB 48) 93 = .ok (.getfield 10, 3) := by decide +kernel
theorem d48_96 : decode (pB 48) 96 = .ok (.getfield 172, 3) := by decide +kernel
theorem d48_99 : decode (pB 48) 99 = .ok (.ireturn, 1) := by decide +kernel
theorem d48_100 : decode (pB 48) 100 = .ok (.aload_n 0, 1) := by decide +kernel
theorem d48_101 : decode (pB 48) 101 = .ok (.getfield 10, 3) := by decide +kernel
theorem d48_104 : decode (pB 48) 104 = .ok (.iconst (-1), 1) := by decide +kernel
theorem d48_105 : decode (pB 48) 105 = .ok (.aload_n 0, 1) := by decide +kernel
theorem d48_106 : decode (pB 48) 106 = .ok (.invokevirtual 95, 3) := by decide +kernel
theorem d48_109 : decode (pB 48) 109 = .ok (.invokevirtual 175, 3) := by decide +kernel
theorem d48_112 : decode (pB 48) 112 = .ok (.ireturn, 1) := by decide +kernel
theorem d48_113 : decode (pB 48) 113 = .ok (.aload_n 0, 1) := by decide +kernel
theorem d48_114 : decode (pB 48) 114 = .ok (.getfield 10, 3) := by decide +kernel
theorem d48_117 : decode (pB 48) 117 = .ok (.iconst 1, 1) := by decide +kernel
theorem d48_118 : decode (pB 48) 118 = .ok (.aload_n 0, 1) := by decide +kernel
theorem d48_119 : decode (pB 48) 119 = .ok (.invokevirtual 95, 3) := by decide +kernel
theorem d48_122 : decode (pB 48) 122 = .ok (.invokevirtual 175, 3) := by decide +kernel
theorem d48_125 : decode (pB 48) 125 = .ok (.ireturn, 1) := by decide +kernel
theorem d48_126 : decode (pB 48) 126 = .ok (.aload_n 0, 1) := by decide +kernel
theorem d48_127 : decode (pB 48) 127 = .ok (.getfield 10, 3) := by decide +kernel
theorem d48_130 : decode (pB 48) 130 = .ok (.aload_n 0, 1) := by decide +kernel
theorem d48_131 : decode (pB 48) 131 = .ok (.invokevirtual 95, 3) := by decide +kernel
theorem d48_134 : decode (pB 48) 134 = .ok (.invokevirtual 178, 3) := by decide +kernel
theorem d48_137 : decode (pB 48) 137 = .ok (.ireturn, 1) := by decide +kernel
theorem d48_138 : decode (pB 48) 138 = .ok (.aload_n 0, 1) := by decide +kernel
theorem d48_139 : decode (pB 48) 139 = .ok (.invokevirtual 95, 3) := by decide +kernel
theorem d48_142 : decode (pB 48) 142 = .ok (.invokevirtual 182, 3) := by decide +kernel
theorem d48_145 : decode (pB 48) 145 = .ok (.ireturn, 1) := by decide +kernel
theorem d48_146 : decode (pB 48) 146 = .ok (.aload_n 0, 1) := by decide +kernel
theorem d48_147 : decode (pB 48) 147 = .ok (.getfield 10, 3) := by decide +kernel
theorem d48_150 : decode (pB 48) 150 = .ok (.getfield 185, 3) := by decide +kernel
theorem d48_153 : decode (pB 48) 153 = .ok (.iconst 0, 1) := by decide +kernel
theorem d48_154 : decode (pB 48) 154 = .ok (.iaload, 1) := by decide +kernel
theorem d48_155 : decode (pB 48) 155 = .ok (.ireturn, 1) := by decide +kernel
theorem d48_156 : decode (pB 48) 156 = .ok (.aload_n 0, 1) := by decide +kernel
theorem d48_157 : decode (pB 48) 157 = .ok (.getfield 10, 3) := by decide +kernel
theorem d48_160 : decode (pB 48) 160 = .ok (.getfield 185, 3) := by decide +kernel
theorem d48_163 : decode (pB 48) 163 = .ok (.iconst 1, 1) := by decide +kernel
theorem d48_164 : decode (pB 48) 164 = .ok (.iaload, 1) := by decide +kernel
theorem d48_165 : decode (pB 48) 165 = .ok (.ireturn, 1) := by decide +kernel
theorem d48_166 : decode (pB 48) 166 = .ok (.aload_n 0, 1) := by decide +kernel
theorem d48_167 : decode (pB 48) 167 = .ok (.getfield 10, 3) := by decide +kernel
theorem d48_170 : decode (pB 48) 170 = .ok (.getfield 185, 3) := by decide +kernel
theorem d48_173 : decode (pB 48) 173 = .ok (.iconst 2, 1) := by decide +kernel
theorem d48_174 : decode (pB 48) 174 = .ok (.iaload, 1) := by decide +kernel
theorem d48_175 : decode (pB 48) 175 = .ok (.ireturn, 1) := by decide +kernel
theorem d48_176 : decode (pB 48) 176 = .ok (.aload_n 0, 1) := by decide +kernel
theorem d48_177 : decode (pB 48) 177 = .ok (.getfield 48, 3) := by decide +kernel
theorem d48_180 : decode (pB 48) 180 = .ok (.getfield 119, 3) := by decide +kernel
theorem d48_183 : decode (pB 48) 183 = .ok (.ireturn, 1) := by decide +kernel
theorem d48_184 : decode (pB 48) 184 = .ok (.aload_n 0, 1) := by decide +kernel
theorem d48_185 : decode (pB 48) 185 = .ok (.getfield 20, 3) := by decide +kernel
theorem d48_188 : decode (pB 48) 188 = .ok (.ireturn, 1) := by decide +kernel
theorem d48_189 : decode (pB 48) 189 = .ok (.bipush (-2), 2) := by decide +kernel
theorem d48_191 : decode (pB 48) 191 = .ok (.ireturn, 1) := by decide +kernel
/-- RX4.count -/
def t48_0 : List (Nat × pO) := [(0, o_iload 1 1), (1, o_switch [((nI 0), 68), ((nI 1), 76), ((nI 2), 84), ((nI 3), 92), ((nI 4), 100), ((nI 5), 113), ((nI 6), 126), ((nI 7), 138), ((nI 8), 146), ((nI 9), 156), ((nI 10), 166), ((nI 11), 176), ((nI 12), 184)] 189), (68, o_aload 0 69), (69, o_getR 4 0 72), (72, o_getI 3 5 75), (75, o_iret), (76, o_aload 0 77), (77, o_getR 4 0 80), (80, o_invV 3 25 0 83), (83, o_iret), (84, o_aload 0 85), (85, o_invV 4 63 0 88), (88, o_getI 0 0 91), (91, o_iret), (92, o_aload 0 93), (93, o_getR 4 0 96), (96, o_getI 3 6 99), (99, o_iret), (100, o_aload 0 101), (101, o_getR 4 0 104), (104, o_push (.int (nM 1)) 105), (105, o_aload 0 106), (106, o_invV 4 63 0 109), (109, o_invV 3 30 2 112), (112, o_iret), (113, o_aload 0 114), (114, o_getR 4 0 117), (117, o_push (.int (nI 1)) 118), (118, o_aload 0 119), (119, o_invV 4 63 0 122), (122, o_invV 3 30 2 125), (125, o_iret), (126, o_aload 0 127), (127, o_getR 4 0 130), (130, o_aload 0 131), (131, o_invV 4 63 0 134), (134, o_invV 3 33 1 137), (137, o_iret), (138, o_aload 0 139), (139, o_invV 4 63 0 142)]
theorem ok48_0 : ∀ q ∈ t48_0, p_Z 48 q := List.forall_mem_cons.mpr ⟨⟨s_iload_n d48_0 rfl, tl_iload _ _⟩, List.forall_mem_cons.mpr ⟨⟨s_table d48_1 rfl (by decide +kernel) (by decide +kernel), tl_switch _ _⟩, List.forall_mem_cons.mpr ⟨⟨s_aload_n d48_68 rfl, tl_aload _ _⟩, List.forall_mem_cons.mpr ⟨⟨f_getR_4_0 d48_69 wd_161, tl_getR _ _ _⟩, List.forall_mem_cons.mpr ⟨⟨f_getI_3_5 d48_72 wd_52, tl_getI _ _ _⟩, List.forall_mem_cons.mpr ⟨⟨s_iret d48_75 rfl, tl_iret⟩, List.forall_mem_cons.mpr ⟨⟨s_aload_n d48_76 rfl, tl_aload _ _⟩, List.forall_mem_cons.mpr ⟨⟨f_getR_4_0 d48_77 wd_161, tl_getR _ _ _⟩, List.forall_mem_cons.mpr ⟨⟨q_invV_25 d48_80 wd_190, tl_invV _ _ _ _⟩, List.forall_mem_cons.mpr ⟨⟨s_iret d48_83 rfl, tl_iret⟩, List.forall_mem_cons.mpr ⟨⟨s_aload_n d48_84 rfl, tl_aload _ _⟩, List.forall_mem_cons.mpr ⟨⟨q_invV_63 d48_85 wd_206, tl_invV _ _ _ _⟩, List.forall_mem_cons.mpr ⟨⟨f_getI_0_0 d48_88 wd_121, tl_getI _ _ _⟩, List.forall_mem_cons.mpr ⟨⟨s_iret d48_91 rfl, tl_iret⟩, List.forall_mem_cons.mpr ⟨⟨s_aload_n d48_92 rfl, tl_aload _ _⟩, List.forall_mem_cons.mpr ⟨⟨f_getR_4_0 d48_93 wd_161, tl_getR _ _ _⟩, List.forall_mem_cons.mpr ⟨⟨f_getI_3_6 d48_96 wd_54, tl_getI _ _ _⟩, List.forall_mem_cons.mpr ⟨⟨s_iret d48_99 rfl, tl_iret⟩, List.forall_mem_cons.mpr ⟨⟨s_aload_n d48_100 rfl, tl_aload _ _⟩, List.forall_mem_cons.mpr ⟨⟨f_getR_4_0 d48_101 wd_161, tl_getR _ _ _⟩, List.forall_mem_cons.mpr ⟨⟨s_iconst d48_104 rfl, tl_push _ _⟩, List.forall_mem_cons.mpr ⟨⟨s_aload_n d48_105 rfl, tl_aload _ _⟩, List.forall_mem_cons.mpr ⟨⟨q_invV_63 d48_106 wd_206, tl_invV _ _ _ _⟩, List.forall_mem_cons.mpr ⟨⟨q_invV_30 d48_109 wd_210, tl_invV _ _ _ _⟩, List.forall_mem_cons.mpr ⟨⟨s_iret d48_112 rfl, tl_iret⟩, List.forall_mem_cons.mpr ⟨⟨s_aload_n d48_113 rfl, tl_aload _ _⟩, List.forall_mem_cons.mpr ⟨⟨f_getR_4_0 d48_114 wd_161, tl_getR _ _ _⟩, List.forall_mem_cons.mpr ⟨⟨s_iconst d48_117 rfl, tl_push _ _⟩, List.forall_mem_cons.mpr ⟨⟨s_aload_n d48_118 rfl, tl_aload _ _⟩, List.forall_mem_cons.mpr ⟨⟨q_invV_63 d48_119 wd_206, tl_invV _ _ _ _⟩, List.forall_mem_cons.mpr ⟨⟨q_invV_30 d48_122 wd_210, tl_invV _ _ _ _⟩, List.forall_mem_cons.mpr ⟨⟨s_iret d48_125 rfl, tl_iret⟩, List.forall_mem_cons.mpr ⟨⟨s_aload_n d48_126 rfl, tl_aload _ _⟩, List.forall_mem_cons.mpr ⟨⟨f_getR_4_0 d48_127 wd_161, tl_getR _ _ _⟩, List.forall_mem_cons.mpr ⟨⟨s_aload_n d48_130 rfl, tl_aload _ _⟩, List.forall_mem_cons.mpr ⟨⟨q_invV_63 d48_131 wd_206, tl_invV _ _ _ _⟩, List.forall_mem_cons.mpr ⟨⟨q_invV_33 d48_134 wd_234, tl_invV _ _ _ _⟩, List.forall_mem_cons.mpr ⟨⟨s_iret d48_137 rfl, tl_iret⟩, List.forall_mem_cons.mpr ⟨⟨s_aload_n d48_138 rfl, tl_aload _ _⟩, List.forall_mem_cons.mpr ⟨⟨q_invV_63 d48_139 wd_206, tl_invV _ _ _ _⟩, fun _ h => absurd h List.not_mem_nil⟩⟩⟩⟩⟩⟩⟩⟩⟩⟩⟩⟩⟩⟩⟩⟩⟩⟩⟩⟩⟩⟩⟩⟩⟩⟩⟩⟩⟩⟩⟩⟩⟩⟩⟩⟩⟩⟩⟩⟩
/-- RX4.count -/
def t48_1 : List (Nat × pO) := [(142, o_invV 0 10 0 145), (145, o_iret), (146, o_aload 0 147), (147, o_getR 4 0 150), (150, o_getR 3 0 153), (153, o_push (.int (nI 0)) 154), (154, o_iald 155), (155, o_iret), (156, o_aload 0 157), (157, o_getR 4 0 160), (160, o_getR 3 0 163), (163, o_push (.int (nI 1)) 164), (164, o_iald 165), (165, o_iret), (166, o_aload 0 167), (167, o_getR 4 0 170), (170, o_getR 3 0 173), (173, o_push (.int (nI 2)) 174), (174, o_iald 175), (175, o_iret), (176, o_aload 0 177), (177, o_getR 4 7 180), (180, o_getI 2 1 183), (183, o_iret), (184, o_aload 0 185), (185, o_getI 4 2 188), (188, o_iret), (189, o_push (.int (nM 2)) 191), (191, o_iret)]
theorem ok48_1 : ∀ q ∈ t48_1, p_Z 48 q := List.forall_mem_cons.mpr ⟨⟨q_invV_10 d48_142 wd_252, tl_invV _ _ _ _⟩, List.forall_mem_cons.mpr ⟨⟨s_iret d48_145 rfl, tl_iret⟩, List.forall_mem_cons.mpr ⟨⟨s_aload_n d48_146 rfl, tl_aload _ _⟩, List.forall_mem_cons.mpr ⟨⟨f_getR_4_0 d48_147 wd_161, tl_getR _ _ _⟩, List.forall_mem_cons.mpr ⟨⟨f_getR_3_0 d48_150 wd_42, tl_getR _ _ _⟩, List.forall_mem_cons.mpr ⟨⟨s_iconst d48_153 rfl, tl_push _ _⟩, List.forall_mem_cons.mpr ⟨⟨s_iald d48_154, tl_iald _⟩, List.forall_mem_cons.mpr ⟨⟨s_iret d48_155 rfl, tl_iret⟩, List.forall_mem_cons.mpr ⟨⟨s_aload_n d48_156 rfl, tl_aload _ _⟩, List.forall_mem_cons.mpr ⟨⟨f_getR_4_0 d48_157 wd_161, tl_getR _ _ _⟩, List.forall_mem_cons.mpr ⟨⟨f_getR_3_0 d48_160 wd_42, tl_getR _ _ _⟩, List.forall_mem_cons.mpr ⟨⟨s_iconst d48_163 rfl, tl_push _ _⟩, List.forall_mem_cons.mpr ⟨⟨s_iald d48_164, tl_iald _⟩, List.forall_mem_cons.mpr ⟨⟨s_iret d48_165 rfl, tl_iret⟩, List.forall_mem_cons.mpr ⟨⟨s_aload_n d48_166 rfl, tl_aload _ _⟩, List.forall_mem_cons.mpr ⟨⟨f_getR_4_0 d48_167 wd_161, tl_getR _ _ _⟩, List.forall_mem_cons.mpr ⟨⟨f_getR_3_0 d48_170 wd_42, tl_getR _ _ _⟩, List.forall_mem_cons.mpr ⟨⟨s_iconst d48_173 rfl, tl_push _ _⟩, List.forall_mem_cons.mpr ⟨⟨s_iald d48_174, tl_iald _⟩, List.forall_mem_cons.mpr ⟨⟨s_iret d48_175 rfl, tl_iret⟩, List.forall_mem_cons.mpr ⟨⟨s_aload_n d48_176 rfl, tl_aload _ _⟩, List.forall_mem_cons.mpr ⟨⟨f_getR_4_7 d48_177 wd_168, tl_getR _ _ _⟩, List.forall_mem_cons.mpr ⟨⟨f_getI_2_1 d48_180 wd_88, tl_getI _ _ _⟩, List.forall_mem_cons.mpr ⟨⟨s_iret d48_183 rfl, tl_iret⟩, List.forall_mem_cons.mpr ⟨⟨s_aload_n d48_184 rfl, tl_aload _ _⟩, List.forall_mem_cons.mpr ⟨⟨f_getI_4_2 d48_185 wd_163, tl_getI _ _ _⟩, List.forall_mem_cons.mpr ⟨⟨s_iret d48_188 rfl, tl_iret⟩, List.forall_mem_cons.mpr ⟨⟨s_bipush d48_189 rfl, tl_push _ _⟩, List.forall_mem_cons.mpr ⟨⟨s_iret d48_191 rfl, tl_iret⟩, fun _ h => absurd h List.not_mem_nil⟩⟩⟩⟩⟩⟩⟩⟩⟩⟩⟩⟩⟩⟩⟩⟩⟩⟩⟩⟩⟩⟩⟩⟩⟩⟩⟩⟩⟩
def t48 : List (Nat × pO) := t48_0 ++ (t48_1)
theorem ok48 : ∀ q ∈ t48, p_Z 48 q := List.forall_mem_append.mpr ⟨ok48_0, ok48_1⟩
theorem d49_0 : decode (pB 49) 0 = .ok (.aload_n 0, 1) := by decide +kernel
theorem d49_1 : decode (pB 49) 1 = .ok (.iload_n 1, 1) := by decide +kernel
theorem d49_2 : decode (pB 49) 2 = .ok (.invokevirtual 188, 3) := by decide +kernel
theorem d49_5 : decode (pB 49) 5 = .ok (.ifCond .eq 12, 3) := by decide +kernel
theorem d49_8 : decode (pB 49) 8 = .ok (.iload_n 2, 1) := by decide +kernel
theorem d49_9 : decode (pB 49) 9 = .ok (.ifCond .lt 8, 3) := by decide +kernel
theorem d49_12 : decode (pB 49) 12 = .ok (.iload_n 2, 1) := by decide +kernel
theorem d49_13 : decode (pB 49) 13 = .ok (.iconst 4, 1) := by decide +kernel
theorem d49_14 : decode (pB 49) 14 = .ok (.if_icmp .le 6, 3) := by decide +kernel
theorem d49_17 : decode (pB 49) 17 = .ok (.bipush (-2), 2) := by decide +kernel
theorem d49_19 : decode (pB 49) 19 = .ok (.ireturn, 1) := by decide +kernel
theorem d49_20 : decode (pB 49) 20 = .ok (.aload_n 0, 1) := by decide +kernel
theorem d49_21 : decode (pB 49) 21 = .ok (.getfield 10, 3) := by decide +kernel
theorem d49_24 : decode (pB 49) 24 = .ok (.getfield 172, 3) := by decide +kernel
theorem d49_27 : decode (pB 49) 27 = .ok (.iconst 5, 1) := by decide +kernel
theorem d49_28 : decode (pB 49) 28 = .ok (.if_icmp .lt 6, 3) := by decide +kernel
theorem d49_31 : decode (pB 49) 31 = .ok (.bipush (-4), 2) := by decide +kernel
theorem d49_33 : decode (pB 49) 33 = .ok (.ireturn, 1) := by decide +kernel
theorem d49_34 : decode (pB 49) 34 = .ok (.aload_n 0, 1) := by decide +kernel
theorem d49_35 : decode (pB 49) 35 = .ok (.iload_n 1, 1) := by decide +kernel
theorem d49_36 : decode (pB 49) 36 = .ok (.invokevirtual 191, 3) := by decide +kernel
theorem d49_39 : decode (pB 49) 39 = .ok (.astore_n 3, 1) := by decide +kernel
theorem d49_40 : decode (pB 49) 40 = .ok (.iload_n 2, 1) := by decide +kernel
theorem d49_41 : decode (pB 49) 41 = .ok (.tableswitch 65 0 3 #[31, 41, 51, 60], 31) := by decide +kernel
theorem d49_72 : decode (pB 49) 72 = .ok (.aload_n 0, 1) := by decide +kernel
theorem d49_73 : decode (pB 49) 73 = .ok (.getfield 10, 3) := by decide +kernel
theorem d49_76 : decode (pB 49) 76 = .ok (.iconst (-1), 1) := by decide +kernel
theorem d49_77 : decode (pB 49) 77 = .ok (.aload_n 3, 1) := by decide +kernel
theorem d49_78 : decode (pB 49) 78 = .ok (.invokevirtual 175, 3) := by decide +kernel
theorem d49_81 : decode (pB 49) 81 = .ok (.ireturn, 1) := by decide +kernel
theorem d49_82 : decode (pB 49) 82 = .ok (.aload_n 0, 1) := by decide +kernel
theorem d49_83 : decode (pB 49) 83 = .ok (.getfield 10, 3) := by decide +kernel
theorem d49_86 : decode (pB 49) 86 = .ok (.iconst 1, 1) := by decide +kernel
theorem d49_87 : decode (pB 49) 87 = .ok (.aload_n 3, 1) := by decide +kernel
theorem d49_88 : decode (pB 49) 88 = .ok (.invokevirtual 175, 3) := by decide +kernel
theorem d49_91 : decode (pB 49) 91 = .ok (.ireturn, 1) := by decide +kernel
theorem d49_92 : decode (pB 49) 92 = .ok (.aload_n 0, 1) := by decide +kernel
theorem d49_93 : decode (pB 49) 93 = .ok (.getfield 10, 3) := by decide +kernel
theorem d49_96 : decode (pB 49) 96 = .ok (.aload_n 3, 1) := by decide +kernel
theorem d49_97 : decode (pB 49) 97 = .ok (.invokevirtual 178, 3) := by decide +kernel
theorem d49_100 : decode (pB 49) 100 = .ok (.ireturn, 1) := by decide +kernel
theorem d49_101 : decode (pB 49) 101 = .ok (.aload_n 3, 1) := by decide +kernel
theorem d49_102 : decode (pB 49) 102 = .ok (.getfield 104, 3) := by decide +kernel
theorem d49_105 : decode (pB 49) 105 = .ok (.ireturn, 1) := by decide +kernel
theorem d49_106 : decode (pB 49) 106 = .ok (.aload_n 3, 1) := by decide +kernel
theorem d49_107 : decode (pB 49) 107 = .ok (.invokevirtual 182, 3) := by decide +kernel
theorem d49_110 : decode (pB 49) 110 = .ok (.ireturn, 1) := by decide +kernel
theorem st1_49_3 : p_st1 49 3 = true := by decide +kernel
/-- RX4.ifFolded -/
def t49_0 : List (Nat × pO) := [(0, o_aload 0 1), (1, o_iload 1 2), (2, o_invV 4 64 1 5), (5, o_ifeq 17 8), (8, o_iload 2 9), (9, o_iflt 17 12), (12, o_iload 2 13), (13, o_push (.int (nI 4)) 14), (14, o_icle 20 17), (17, o_push (.int (nM 2)) 19), (19, o_iret), (20, o_aload 0 21), (21, o_getR 4 0 24), (24, o_getI 3 6 27), (27, o_push (.int (nI 5)) 28), (28, o_iclt 34 31), (31, o_push (.int (nM 4)) 33), (33, o_iret), (34, o_aload 0 35), (35, o_iload 1 36), (36, o_invV 4 65 1 39), (39, o_astore 3 40), (40, o_iload 2 41), (41, o_switch [((nI 0), 72), ((nI 1), 82), ((nI 2), 92), ((nI 3), 101)] 106), (72, o_aload 0 73), (73, o_getR 4 0 76), (76, o_push (.int (nM 1)) 77), (77, o_aload 3 78), (78, o_invV 3 30 2 81), (81, o_iret), (82, o_aload 0 83), (83, o_getR 4 0 86), (86, o_push (.int (nI 1)) 87), (87, o_aload 3 88), (88, o_invV 3 30 2 91), (91, o_iret), (92, o_aload 0 93), (93, o_getR 4 0 96), (96, o_aload 3 97), (97, o_invV 3 33 1 100)]
theorem ok49_0 : ∀ q ∈ t49_0, p_Z 49 q := List.forall_mem_cons.mpr ⟨⟨s_aload_n d49_0 rfl, tl_aload _ _⟩, List.forall_mem_cons.mpr ⟨⟨s_iload_n d49_1 rfl, tl_iload _ _⟩, List.forall_mem_cons.mpr ⟨⟨q_invV_64 d49_2 wd_434, tl_invV _ _ _ _⟩, List.forall_mem_cons.mpr ⟨⟨s_ifeq d49_5 rfl, tl_ifeq _ _⟩, List.forall_mem_cons.mpr ⟨⟨s_iload_n d49_8 rfl, tl_iload _ _⟩, List.forall_mem_cons.mpr ⟨⟨s_iflt d49_9 rfl, tl_iflt _ _⟩, List.forall_mem_cons.mpr ⟨⟨s_iload_n d49_12 rfl, tl_iload _ _⟩, List.forall_mem_cons.mpr ⟨⟨s_iconst d49_13 rfl, tl_push _ _⟩, List.forall_mem_cons.mpr ⟨⟨s_icle d49_14 rfl, tl_icle _ _⟩, List.forall_mem_cons.mpr ⟨⟨s_bipush d49_17 rfl, tl_push _ _⟩, List.forall_mem_cons.mpr ⟨⟨s_iret d49_19 rfl, tl_iret⟩, List.forall_mem_cons.mpr ⟨⟨s_aload_n d49_20 rfl, tl_aload _ _⟩, List.forall_mem_cons.mpr ⟨⟨f_getR_4_0 d49_21 wd_161, tl_getR _ _ _⟩, List.forall_mem_cons.mpr ⟨⟨f_getI_3_6 d49_24 wd_54, tl_getI _ _ _⟩, List.forall_mem_cons.mpr ⟨⟨s_iconst d49_27 rfl, tl_push _ _⟩, List.forall_mem_cons.mpr ⟨⟨s_iclt d49_28 rfl, tl_iclt _ _⟩, List.forall_mem_cons.mpr ⟨⟨s_bipush d49_31 rfl, tl_push _ _⟩, List.forall_mem_cons.mpr ⟨⟨s_iret d49_33 rfl, tl_iret⟩, List.forall_mem_cons.mpr ⟨⟨s_aload_n d49_34 rfl, tl_aload _ _⟩, List.forall_mem_cons.mpr ⟨⟨s_iload_n d49_35 rfl, tl_iload _ _⟩, List.forall_mem_cons.mpr ⟨⟨q_invV_65 d49_36 wd_438, tl_invV _ _ _ _⟩, List.forall_mem_cons.mpr ⟨⟨s_astore_n d49_39 rfl st1_49_3, tl_astore _ _⟩, List.forall_mem_cons.mpr ⟨⟨s_iload_n d49_40 rfl, tl_iload _ _⟩, List.forall_mem_cons.mpr ⟨⟨s_table d49_41 rfl (by decide +kernel) (by decide +kernel), tl_switch _ _⟩, List.forall_mem_cons.mpr ⟨⟨s_aload_n d49_72 rfl, tl_aload _ _⟩, List.forall_mem_cons.mpr ⟨⟨f_getR_4_0 d49_73 wd_161, tl_getR _ _ _⟩, List.forall_mem_cons.mpr ⟨⟨s_iconst d49_76 rfl, tl_push _ _⟩, List.forall_mem_cons.mpr ⟨⟨s_aload_n d49_77 rfl, tl_aload _ _⟩, List.forall_mem_cons.mpr ⟨⟨q_invV_30 d49_78 wd_210, tl_invV _ _ _ _⟩, List.forall_mem_cons.mpr ⟨⟨s_iret d49_81 rfl, tl_iret⟩, List.forall_mem_cons.mpr ⟨⟨s_aload_n d49_82 rfl, tl_aload _ _⟩, List.forall_mem_cons.mpr ⟨⟨f_getR_4_0 d49_83 wd_161, tl_getR _ _ _⟩, List.forall_mem_cons.mpr ⟨⟨s_iconst d49_86 rfl, tl_push _ _⟩, List.forall_mem_cons.mpr ⟨⟨s_aload_n d49_87 rfl, tl_aload _ _⟩, List.forall_mem_cons.mpr ⟨⟨q_invV_30 d49_88 wd_210, tl_invV _ _ _ _⟩, List.forall_mem_cons.mpr ⟨⟨s_iret d49_91 rfl, tl_iret⟩, List.forall_mem_cons.mpr ⟨⟨s_aload_n d49_92 rfl, tl_aload _ _⟩, List.forall_mem_cons.mpr ⟨⟨f_getR_4_0 d49_93 wd_161, tl_getR _ _ _⟩, List.forall_mem_cons.mpr ⟨⟨s_aload_n d49_96 rfl, tl_aload _ _⟩, List.forall_mem_cons.mpr ⟨⟨q_invV_33 d49_97 wd_234, tl_invV _ _ _ _⟩, fun _ h => absurd h List.not_mem_nil⟩⟩⟩⟩⟩⟩⟩⟩⟩⟩⟩⟩⟩⟩⟩⟩⟩⟩⟩⟩⟩⟩⟩⟩⟩⟩⟩⟩⟩⟩⟩⟩⟩⟩⟩⟩⟩⟩⟩⟩
/-- RX4.ifFolded -/
def t49_1 : List (Nat × pO) := [(100, o_iret), (101, o_aload 3 102), (102, o_getI 0 0 105), (105, o_iret), (106, o_aload 3 107), (107, o_invV 0 10 0 110), (110, o_iret)]
theorem ok49_1 : ∀ q ∈ t49_1, p_Z 49 q := List.forall_mem_cons.mpr ⟨⟨s_iret d49_100 rfl, tl_iret⟩, List.forall_mem_cons.mpr ⟨⟨s_aload_n d49_101 rfl, tl_aload _ _⟩, List.forall_mem_cons.mpr ⟨⟨f_getI_0_0 d49_102 wd_121, tl_getI _ _ _⟩, List.forall_mem_cons.mpr ⟨⟨s_iret d49_105 rfl, tl_iret⟩, List.forall_mem_cons.mpr ⟨⟨s_aload_n d49_106 rfl, tl_aload _ _⟩, List.forall_mem_cons.mpr ⟨⟨q_invV_10 d49_107 wd_252, tl_invV _ _ _ _⟩, List.forall_mem_cons.mpr ⟨⟨s_iret d49_110 rfl, tl_iret⟩, fun _ h => absurd h List.not_mem_nil⟩⟩⟩⟩⟩⟩⟩
def t49 : List (Nat × pO) := t49_0 ++ (t49_1)
theorem ok49 : ∀ q ∈ t49, p_Z 49 q := List.forall_mem_append.mpr ⟨ok49_0, ok49_1⟩
theorem d50_0 : decode (pB 50) 0 = .ok (.aload_n 0, 1) := by decide +kernel
theorem d50_1 : decode (pB 50) 1 = .ok (.invokevirtual 95, 3) := by decide +kernel
theorem d50_4 : decode (pB 50) 4 = .ok (.getfield 104, 3) := by decide +kernel
theorem d50_7 : decode (pB 50) 7 = .ok (.iconst 1, 1) := by decide +kernel
theorem d50_8 : decode (pB 50) 8 = .ok (.if_icmp .ne 5, 3) := by decide +kernel
theorem d50_11 : decode (pB 50) 11 = .ok (.iconst 0, 1) := by decide +kernel
theorem d50_12 : decode (pB 50) 12 = .ok (.ireturn, 1) := by decide +kernel
theorem d50_13 : decode (pB 50) 13 = .ok (.aload_n 0, 1) := by decide +kernel
theorem d50_14 : decode (pB 50) 14 = .ok (.getfield 10, 3) := by decide +kernel
theorem d50_17 : decode (pB 50) 17 = .ok (.iconst (-1), 1) := by decide +kernel
theorem d50_18 : decode (pB 50) 18 = .ok (.aload_n 0, 1) := by decide +kernel
theorem d50_19 : decode (pB 50) 19 = .ok (.invokevirtual 95, 3) := by decide +kernel
theorem d50_22 : decode (pB 50) 22 = .ok (.invokevirtual 175, 3) := by decide +kernel
theorem d50_25 : decode (pB 50) 25 = .ok (.ifCond .le 6, 3) := by decide +kernel
theorem d50_28 : decode (pB 50) 28 = .ok (.bipush (-6), 2) := by decide +kernel
theorem d50_30 : decode (pB 50) 30 = .ok (.ireturn, 1) := by decide +kernel
theorem d50_31 : decode (pB 50) 31 = .ok (.aload_n 0, 1) := by decide +kernel
theorem d50_32 : decode (pB 50) 32 = .ok (.getfield 10, 3) := by decide +kernel
theorem d50_35 : decode (pB 50) 35 = .ok (.getfield 172, 3) := by decide +kernel
theorem d50_38 : decode (pB 50) 38 = .ok (.iconst 1, 1) := by decide +kernel
theorem d50_39 : decode (pB 50) 39 = .ok (.iadd, 1) := by decide +kernel
theorem d50_40 : decode (pB 50) 40 = .ok (.istore_n 1, 1) := by decide +kernel
theorem d50_41 : decode (pB 50) 41 = .ok (.iload_n 1, 1) := by decide +kernel
theorem d50_42 : decode (pB 50) 42 = .ok (.iconst 5, 1) := by decide +kernel
theorem d50_43 : decode (pB 50) 43 = .ok (.if_icmp .gt 41, 3) := by decide +kernel
theorem d50_46 : decode (pB 50) 46 = .ok (.aload_n 0, 1) := by decide +kernel
theorem d50_47 : decode (pB 50) 47 = .ok (.getfield 10, 3) := by decide +kernel
theorem d50_50 : decode (pB 50) 50 = .ok (.aload_n 0, 1) := by decide +kernel
theorem d50_51 : decode (pB 50) 51 = .ok (.getfield 33, 3) := by decide +kernel
theorem d50_54 : decode (pB 50) 54 = .ok (.aload_n 0, 1) := by decide +kernel
theorem d50_55 : decode (pB 50) 55 = .ok (.getfield 10, 3) := by decide +kernel
theorem d50_58 : decode (pB 50) 58 = .ok (.getfield 172, 3) := by decide +kernel
theorem d50_61 : decode (pB 50) 61 = .ok (.iload_n 1, 1) := by decide +kernel
theorem d50_62 : decode (pB 50) 62 = .ok (.invokestatic 198, 3) := by decide +kernel
theorem d50_65 : decode (pB 50) 65 = .ok (.ifCond .eq 13, 3) := by decide +kernel
theorem d50_68 : decode (pB 50) 68 = .ok (.iload_n 1, 1) := by decide +kernel
theorem d50_69 : decode (pB 50) 69 = .ok (.aload_n 0, 1) := by decide +kernel
theorem d50_70 : decode (pB 50) 70 = .ok (.getfield 10, 3) := by decide +kernel
theorem d50_73 : decode (pB 50) 73 = .ok (.getfield 172, 3) := by decide +kernel
theorem d50_76 : decode (pB 50) 76 = .ok (.isub, 1) := by decide +kernel
theorem d50_77 : decode (pB 50) 77 = .ok (.ireturn, 1) := by decide +kernel
theorem d50_78 : decode (pB 50) 78 = .ok (.iinc 1 1, 3) := by decide +kernel
theorem d50_81 : decode (pB 50) 81 = .ok (.goto (-40), 3) := by decide +kernel
theorem d50_84 : decode (pB 50) 84 = .ok (.bipush (-6), 2) := by decide +kernel
theorem d50_86 : decode (pB 50) 86 = .ok (.ireturn, 1) := by decide +kernel
theorem st1_50_1 : p_st1 50 1 = true := by decide +kernel
/-- RX4.fewestFolds -/
def t50_0 : List (Nat × pO) := [(0, o_aload 0 1), (1, o_invV 4 63 0 4), (4, o_getI 0 0 7), (7, o_push (.int (nI 1)) 8), (8, o_icne 13 11), (11, o_push (.int (nI 0)) 12), (12, o_iret), (13, o_aload 0 14), (14, o_getR 4 0 17), (17, o_push (.int (nM 1)) 18), (18, o_aload 0 19), (19, o_invV 4 63 0 22), (22, o_invV 3 30 2 25), (25, o_ifle 31 28), (28, o_push (.int (nM 6)) 30), (30, o_iret), (31, o_aload 0 32), (32, o_getR 4 0 35), (35, o_getI 3 6 38), (38, o_push (.int (nI 1)) 39), (39, o_iadd 40), (40, o_istore 1 41), (41, o_iload 1 42), (42, o_push (.int (nI 5)) 43), (43, o_icgt 84 46), (46, o_aload 0 47), (47, o_getR 4 0 50), (50, o_aload 0 51), (51, o_getR 4 5 54), (54, o_aload 0 55), (55, o_getR 4 0 58), (58, o_getI 3 6 61), (61, o_iload 1 62), (62, o_invS 67 4 65), (65, o_ifeq 78 68), (68, o_iload 1 69), (69, o_aload 0 70), (70, o_getR 4 0 73), (73, o_getI 3 6 76), (76, o_isub 77)]
theorem ok50_0 : ∀ q ∈ t50_0, p_Z 50 q := List.forall_mem_cons.mpr ⟨⟨s_aload_n d50_0 rfl, tl_aload _ _⟩, List.forall_mem_cons.mpr ⟨⟨q_invV_63 d50_1 wd_206, tl_invV _ _ _ _⟩, List.forall_mem_cons.mpr ⟨⟨f_getI_0_0 d50_4 wd_121, tl_getI _ _ _⟩, List.forall_mem_cons.mpr ⟨⟨s_iconst d50_7 rfl, tl_push _ _⟩, List.forall_mem_cons.mpr ⟨⟨s_icne d50_8 rfl, tl_icne _ _⟩, List.forall_mem_cons.mpr ⟨⟨s_iconst d50_11 rfl, tl_push _ _⟩, List.forall_mem_cons.mpr ⟨⟨s_iret d50_12 rfl, tl_iret⟩, List.forall_mem_cons.mpr ⟨⟨s_aload_n d50_13 rfl, tl_aload _ _⟩, List.forall_mem_cons.mpr ⟨⟨f_getR_4_0 d50_14 wd_161, tl_getR _ _ _⟩, List.forall_mem_cons.mpr ⟨⟨s_iconst d50_17 rfl, tl_push _ _⟩, List.forall_mem_cons.mpr ⟨⟨s_aload_n d50_18 rfl, tl_aload _ _⟩, List.forall_mem_cons.mpr ⟨⟨q_invV_63 d50_19 wd_206, tl_invV _ _ _ _⟩, List.forall_mem_cons.mpr ⟨⟨q_invV_30 d50_22 wd_210, tl_invV _ _ _ _⟩, List.forall_mem_cons.mpr ⟨⟨s_ifle d50_25 rfl, tl_ifle _ _⟩, List.forall_mem_cons.mpr ⟨⟨s_bipush d50_28 rfl, tl_push _ _⟩, List.forall_mem_cons.mpr ⟨⟨s_iret d50_30 rfl, tl_iret⟩, List.forall_mem_cons.mpr ⟨⟨s_aload_n d50_31 rfl, tl_aload _ _⟩, List.forall_mem_cons.mpr ⟨⟨f_getR_4_0 d50_32 wd_161, tl_getR _ _ _⟩, List.forall_mem_cons.mpr ⟨⟨f_getI_3_6 d50_35 wd_54, tl_getI _ _ _⟩, List.forall_mem_cons.mpr ⟨⟨s_iconst d50_38 rfl, tl_push _ _⟩, List.forall_mem_cons.mpr ⟨⟨s_iadd d50_39, tl_iadd _⟩, List.forall_mem_cons.mpr ⟨⟨s_istore_n d50_40 rfl st1_50_1, tl_istore _ _⟩, List.forall_mem_cons.mpr ⟨⟨s_iload_n d50_41 rfl, tl_iload _ _⟩, List.forall_mem_cons.mpr ⟨⟨s_iconst d50_42 rfl, tl_push _ _⟩, List.forall_mem_cons.mpr ⟨⟨s_icgt d50_43 rfl, tl_icgt _ _⟩, List.forall_mem_cons.mpr ⟨⟨s_aload_n d50_46 rfl, tl_aload _ _⟩, List.forall_mem_cons.mpr ⟨⟨f_getR_4_0 d50_47 wd_161, tl_getR _ _ _⟩, List.forall_mem_cons.mpr ⟨⟨s_aload_n d50_50 rfl, tl_aload _ _⟩, List.forall_mem_cons.mpr ⟨⟨f_getR_4_5 d50_51 wd_166, tl_getR _ _ _⟩, List.forall_mem_cons.mpr ⟨⟨s_aload_n d50_54 rfl, tl_aload _ _⟩, List.forall_mem_cons.mpr ⟨⟨f_getR_4_0 d50_55 wd_161, tl_getR _ _ _⟩, List.forall_mem_cons.mpr ⟨⟨f_getI_3_6 d50_58 wd_54, tl_getI _ _ _⟩, List.forall_mem_cons.mpr ⟨⟨s_iload_n d50_61 rfl, tl_iload _ _⟩, List.forall_mem_cons.mpr ⟨⟨q_invS_67 d50_62 wd_466, tl_invS _ _ _⟩, List.forall_mem_cons.mpr ⟨⟨s_ifeq d50_65 rfl, tl_ifeq _ _⟩, List.forall_mem_cons.mpr ⟨⟨s_iload_n d50_68 rfl, tl_iload _ _⟩, List.forall_mem_cons.mpr ⟨⟨s_aload_n d50_69 rfl, tl_aload _ _⟩, List.forall_mem_cons.mpr ⟨⟨f_getR_4_0 d50_70 wd_161, tl_getR _ _ _⟩, List.forall_mem_cons.mpr ⟨⟨f_getI_3_6 d50_73 wd_54, tl_getI _ _ _⟩, List.forall_mem_cons.mpr ⟨⟨s_isub d50_76, tl_isub _⟩, fun _ h => absurd h List.not_mem_nil⟩⟩⟩⟩⟩⟩⟩⟩⟩⟩⟩⟩⟩⟩⟩⟩⟩⟩⟩⟩⟩⟩⟩⟩⟩⟩⟩⟩⟩⟩⟩⟩⟩⟩⟩⟩⟩⟩⟩⟩
/-- RX4.fewestFolds -/
def t50_1 : List (Nat × pO) := [(77, o_iret), (78, o_iinc 1 (nI 1) 81), (81, o_goto 41), (84, o_push (.int (nM 6)) 86), (86, o_iret)]
theorem ok50_1 : ∀ q ∈ t50_1, p_Z 50 q := List.forall_mem_cons.mpr ⟨⟨s_iret d50_77 rfl, tl_iret⟩, List.forall_mem_cons.mpr ⟨⟨s_iinc d50_78 rfl st1_50_1, tl_iinc _ _ _⟩, List.forall_mem_cons.mpr ⟨⟨s_goto d50_81 rfl, tl_goto _⟩, List.forall_mem_cons.mpr ⟨⟨s_bipush d50_84 rfl, tl_push _ _⟩, List.forall_mem_cons.mpr ⟨⟨s_iret d50_86 rfl, tl_iret⟩, fun _ h => absurd h List.not_mem_nil⟩⟩⟩⟩⟩
def t50 : List (Nat × pO) := t50_0 ++ (t50_1)
theorem ok50 : ∀ q ∈ t50, p_Z 50 q := List.forall_mem_append.mpr ⟨ok50_0, ok50_1⟩
theorem d51_0 : decode (pB 51) 0 = .ok (.aload_n 0, 1) := by decide +kernel
theorem d51_1 : decode (pB 51) 1 = .ok (.getfield 20, 3) := by decide +kernel
theorem d51_4 : decode (pB 51) 4 = .ok (.ifCond .ne 6, 3) := by decide +kernel
theorem d51_7 : decode (pB 51) 7 = .ok (.bipush (-5), 2) := by decide +kernel
theorem d51_9 : decode (pB 51) 9 = .ok (.ireturn, 1) := by decide +kernel
theorem d51_10 : decode (pB 51) 10 = .ok (.aload_n 0, 1) := by decide +kernel
theorem d51_11 : decode (pB 51) 11 = .ok (.dup, 1) := by decide +kernel
theorem d51_12 : decode (pB 51) 12 = .ok (.getfield 20, 3) := by decide +kernel
theorem d51_15 : decode (pB 51) 15 = .ok (.iconst 1, 1) := by decide +kernel
theorem d51_16 : decode (pB 51) 16 = .ok (.isub, 1) := by decide +kernel
theorem d51_17 : decode (pB 51) 17 = .ok (.putfield 20, 3) := by decide +kernel
theorem d51_20 : decode (pB 51) 20 = .ok (.aload_n 0, 1) := by decide +kernel
theorem d51_21 : decode (pB 51) 21 = .ok (.getfield 10, 3) := by decide +kernel
theorem d51_24 : decode (pB 51) 24 = .ok (.aload_n 0, 1) := by decide +kernel
theorem d51_25 : decode (pB 51) 25 = .ok (.getfield 16, 3) := by decide +kernel
theorem d51_28 : decode (pB 51) 28 = .ok (.aload_n 0, 1) := by decide +kernel
theorem d51_29 : decode (pB 51) 29 = .ok (.getfield 20, 3) := by decide +kernel
theorem d51_32 : decode (pB 51) 32 = .ok (.aaload, 1) := by decide +kernel
theorem d51_33 : decode (pB 51) 33 = .ok (.invokevirtual 225, 3) := by decide +kernel
theorem d51_36 : decode (pB 51) 36 = .ok (.aload_n 0, 1) := by decide +kernel
theorem d51_37 : decode (pB 51) 37 = .ok (.invokevirtual 229, 3) := by decide +kernel
theorem d51_40 : decode (pB 51) 40 = .ok (.aload_n 0, 1) := by decide +kernel
theorem d51_41 : decode (pB 51) 41 = .ok (.getfield 20, 3) := by decide +kernel
theorem d51_44 : decode (pB 51) 44 = .ok (.ireturn, 1) := by decide +kernel
/-- RX4.undo -/
def t51_0 : List (Nat × pO) := [(0, o_aload 0 1), (1, o_getI 4 2 4), (4, o_ifne 10 7), (7, o_push (.int (nM 5)) 9), (9, o_iret), (10, o_aload 0 11), (11, o_dupr 12), (12, o_getI 4 2 15), (15, o_push (.int (nI 1)) 16), (16, o_isub 17), (17, o_putI 4 2 20), (20, o_aload 0 21), (21, o_getR 4 0 24), (24, o_aload 0 25), (25, o_getR 4 1 28), (28, o_aload 0 29), (29, o_getI 4 2 32), (32, o_aald 33), (33, o_invV 3 17 1 36), (36, o_aload 0 37), (37, o_invV 4 66 0 40), (40, o_aload 0 41), (41, o_getI 4 2 44), (44, o_iret)]
theorem ok51_0 : ∀ q ∈ t51_0, p_Z 51 q := List.forall_mem_cons.mpr ⟨⟨s_aload_n d51_0 rfl, tl_aload _ _⟩, List.forall_mem_cons.mpr ⟨⟨f_getI_4_2 d51_1 wd_163, tl_getI _ _ _⟩, List.forall_mem_cons.mpr ⟨⟨s_ifne d51_4 rfl, tl_ifne _ _⟩, List.forall_mem_cons.mpr ⟨⟨s_bipush d51_7 rfl, tl_push _ _⟩, List.forall_mem_cons.mpr ⟨⟨s_iret d51_9 rfl, tl_iret⟩, List.forall_mem_cons.mpr ⟨⟨s_aload_n d51_10 rfl, tl_aload _ _⟩, List.forall_mem_cons.mpr ⟨⟨s_dupr d51_11, tl_dupr _⟩, List.forall_mem_cons.mpr ⟨⟨f_getI_4_2 d51_12 wd_163, tl_getI _ _ _⟩, List.forall_mem_cons.mpr ⟨⟨s_iconst d51_15 rfl, tl_push _ _⟩, List.forall_mem_cons.mpr ⟨⟨s_isub d51_16, tl_isub _⟩, List.forall_mem_cons.mpr ⟨⟨f_putI_4_2 d51_17 wd_163, tl_putI _ _ _⟩, List.forall_mem_cons.mpr ⟨⟨s_aload_n d51_20 rfl, tl_aload _ _⟩, List.forall_mem_cons.mpr ⟨⟨f_getR_4_0 d51_21 wd_161, tl_getR _ _ _⟩, List.forall_mem_cons.mpr ⟨⟨s_aload_n d51_24 rfl, tl_aload _ _⟩, List.forall_mem_cons.mpr ⟨⟨f_getR_4_1 d51_25 wd_162, tl_getR _ _ _⟩, List.forall_mem_cons.mpr ⟨⟨s_aload_n d51_28 rfl, tl_aload _ _⟩, List.forall_mem_cons.mpr ⟨⟨f_getI_4_2 d51_29 wd_163, tl_getI _ _ _⟩, List.forall_mem_cons.mpr ⟨⟨s_aald d51_32, tl_aald _⟩, List.forall_mem_cons.mpr ⟨⟨q_invV_17 d51_33 wd_261, tl_invV _ _ _ _⟩, List.forall_mem_cons.mpr ⟨⟨s_aload_n d51_36 rfl, tl_aload _ _⟩, List.forall_mem_cons.mpr ⟨⟨q_invV_66 d51_37 wd_268, tl_invV _ _ _ _⟩, List.forall_mem_cons.mpr ⟨⟨s_aload_n d51_40 rfl, tl_aload _ _⟩, List.forall_mem_cons.mpr ⟨⟨f_getI_4_2 d51_41 wd_163, tl_getI _ _ _⟩, List.forall_mem_cons.mpr ⟨⟨s_iret d51_44 rfl, tl_iret⟩, fun _ h => absurd h List.not_mem_nil⟩⟩⟩⟩⟩⟩⟩⟩⟩⟩⟩⟩⟩⟩⟩⟩⟩⟩⟩⟩⟩⟩⟩⟩
def t51 : List (Nat × pO) := t51_0
theorem ok51 : ∀ q ∈ t51, p_Z 51 q := ok51_0
theorem d52_0 : decode (pB 52) 0 = .ok (.iload_n 1, 1) := by decide +kernel
theorem d52_1 : decode (pB 52) 1 = .ok (.ifCond .lt 8, 3) := by decide +kernel
theorem d52_4 : decode (pB 52) 4 = .ok (.iload_n 1, 1) := by decide +kernel
theorem d52_5 : decode (pB 52) 5 = .ok (.iconst 2, 1) := by decide +kernel
theorem d52_6 : decode (pB 52) 6 = .ok (.if_icmp .lt 6, 3) := by decide +kernel
theorem d52_9 : decode (pB 52) 9 = .ok (.bipush (-2), 2) := by decide +kernel
theorem d52_11 : decode (pB 52) 11 = .ok (.ireturn, 1) := by decide +kernel
theorem d52_12 : decode (pB 52) 12 = .ok (.aload_n 0, 1) := by decide +kernel
theorem d52_13 : decode (pB 52) 13 = .ok (.getfield 24, 3) := by decide +kernel
theorem d52_16 : decode (pB 52) 16 = .ok (.iload_n 1, 1) := by decide +kernel
theorem d52_17 : decode (pB 52) 17 = .ok (.aaload, 1) := by decide +kernel
theorem d52_18 : decode (pB 52) 18 = .ok (.aload_n 0, 1) := by decide +kernel
theorem d52_19 : decode (pB 52) 19 = .ok (.getfield 10, 3) := by decide +kernel
theorem d52_22 : decode (pB 52) 22 = .ok (.invokevirtual 225, 3) := by decide +kernel
theorem d52_25 : decode (pB 52) 25 = .ok (.aload_n 0, 1) := by decide +kernel
theorem d52_26 : decode (pB 52) 26 = .ok (.getfield 27, 3) := by decide +kernel
theorem d52_29 : decode (pB 52) 29 = .ok (.iload_n 1, 1) := by decide +kernel
theorem d52_30 : decode (pB 52) 30 = .ok (.iconst 1, 1) := by decide +kernel
theorem d52_31 : decode (pB 52) 31 = .ok (.bastore, 1) := by decide +kernel
theorem d52_32 : decode (pB 52) 32 = .ok (.aload_n 0, 1) := by decide +kernel
theorem d52_33 : decode (pB 52) 33 = .ok (.getfield 10, 3) := by decide +kernel
theorem d52_36 : decode (pB 52) 36 = .ok (.getfield 166, 3) := by decide +kernel
theorem d52_39 : decode (pB 52) 39 = .ok (.ireturn, 1) := by decide +kernel
/-- RX4.save -/
def t52_0 : List (Nat × pO) := [(0, o_iload 1 1), (1, o_iflt 9 4), (4, o_iload 1 5), (5, o_push (.int (nI 2)) 6), (6, o_iclt 12 9), (9, o_push (.int (nM 2)) 11), (11, o_iret), (12, o_aload 0 13), (13, o_getR 4 3 16), (16, o_iload 1 17), (17, o_aald 18), (18, o_aload 0 19), (19, o_getR 4 0 22), (22, o_invV 3 17 1 25), (25, o_aload 0 26), (26, o_getR 4 4 29), (29, o_iload 1 30), (30, o_push (.int (nI 1)) 31), (31, o_zast 32), (32, o_aload 0 33), (33, o_getR 4 0 36), (36, o_getI 3 5 39), (39, o_iret)]
theorem ok52_0 : ∀ q ∈ t52_0, p_Z 52 q := List.forall_mem_cons.mpr ⟨⟨s_iload_n d52_0 rfl, tl_iload _ _⟩, List.forall_mem_cons.mpr ⟨⟨s_iflt d52_1 rfl, tl_iflt _ _⟩, List.forall_mem_cons.mpr ⟨⟨s_iload_n d52_4 rfl, tl_iload _ _⟩, List.forall_mem_cons.mpr ⟨⟨s_iconst d52_5 rfl, tl_push _ _⟩, List.forall_mem_cons.mpr ⟨⟨s_iclt d52_6 rfl, tl_iclt _ _⟩, List.forall_mem_cons.mpr ⟨⟨s_bipush d52_9 rfl, tl_push _ _⟩, List.forall_mem_cons.mpr ⟨⟨s_iret d52_11 rfl, tl_iret⟩, List.forall_mem_cons.mpr ⟨⟨s_aload_n d52_12 rfl, tl_aload _ _⟩, List.forall_mem_cons.mpr ⟨⟨f_getR_4_3 d52_13 wd_164, tl_getR _ _ _⟩, List.forall_mem_cons.mpr ⟨⟨s_iload_n d52_16 rfl, tl_iload _ _⟩, List.forall_mem_cons.mpr ⟨⟨s_aald d52_17, tl_aald _⟩, List.forall_mem_cons.mpr ⟨⟨s_aload_n d52_18 rfl, tl_aload _ _⟩, List.forall_mem_cons.mpr ⟨⟨f_getR_4_0 d52_19 wd_161, tl_getR _ _ _⟩, List.forall_mem_cons.mpr ⟨⟨q_invV_17 d52_22 wd_261, tl_invV _ _ _ _⟩, List.forall_mem_cons.mpr ⟨⟨s_aload_n d52_25 rfl, tl_aload _ _⟩, List.forall_mem_cons.mpr ⟨⟨f_getR_4_4 d52_26 wd_165, tl_getR _ _ _⟩, List.forall_mem_cons.mpr ⟨⟨s_iload_n d52_29 rfl, tl_iload _ _⟩, List.forall_mem_cons.mpr ⟨⟨s_iconst d52_30 rfl, tl_push _ _⟩, List.forall_mem_cons.mpr ⟨⟨s_zast d52_31, tl_zast _⟩, List.forall_mem_cons.mpr ⟨⟨s_aload_n d52_32 rfl, tl_aload _ _⟩, List.forall_mem_cons.mpr ⟨⟨f_getR_4_0 d52_33 wd_161, tl_getR _ _ _⟩, List.forall_mem_cons.mpr ⟨⟨f_getI_3_5 d52_36 wd_52, tl_getI _ _ _⟩, List.forall_mem_cons.mpr ⟨⟨s_iret d52_39 rfl, tl_iret⟩, fun _ h => absurd h List.not_mem_nil⟩⟩⟩⟩⟩⟩⟩⟩⟩⟩⟩⟩⟩⟩⟩⟩⟩⟩⟩⟩⟩⟩⟩
def t52 : List (Nat × pO) := t52_0
theorem ok52 : ∀ q ∈ t52, p_Z 52 q := ok52_0
theorem d53_0 : decode (pB 53) 0 = .ok (.iload_n 1, 1) := by decide +kernel
theorem d53_1 : decode (pB 53) 1 = .ok (.ifCond .lt 8, 3) := by decide +kernel
theorem d53_4 : decode (pB 53) 4 = .ok (.iload_n 1, 1) := by decide +kernel
theorem d53_5 : decode (pB 53) 5 = .ok (.iconst 2, 1) := by decide +kernel
theorem d53_6 : decode (pB 53) 6 = .ok (.if_icmp .lt 6, 3) := by decide +kernel
theorem d53_9 : decode (pB 53) 9 = .ok (.bipush (-2), 2) := by decide +kernel
theorem d53_11 : decode (pB 53) 11 = .ok (.ireturn, 1) := by decide +kernel
theorem d53_12 : decode (pB 53) 12 = .ok (.aload_n 0, 1) := by decide +kernel
theorem d53_13 : decode (pB 53) 13 = .ok (.getfield 27, 3) := by decide +kernel
theorem d53_16 : decode (pB 53) 16 = .ok (.iload_n 1, 1) := by decide +kernel
theorem d53_17 : decode (pB 53) 17 = .ok (.baload, 1) := by decide +kernel
theorem d53_18 : decode (pB 53) 18 = .ok (.ifCond .ne 6, 3) := by decide +kernel
theorem d53_21 : decode (pB 53) 21 = .ok (.bipush (-5), 2) := by decide +kernel
theorem d53_23 : decode (pB 53) 23 = .ok (.ireturn, 1) := by decide +kernel
theorem d53_24 : decode (pB 53) 24 = .ok (.aload_n 0, 1) := by decide +kernel
theorem d53_25 : decode (pB 53) 25 = .ok (.invokevirtual 58, 3) := by decide +kernel
theorem d53_28 : decode (pB 53) 28 = .ok (.aload_n 0, 1) := by decide +kernel
theorem d53_29 : decode (pB 53) 29 = .ok (.getfield 10, 3) := by decide +kernel
theorem d53_32 : decode (pB 53) 32 = .ok (.aload_n 0, 1) := by decide +kernel
theorem d53_33 : decode (pB 53) 33 = .ok (.getfield 24, 3) := by decide +kernel
theorem d53_36 : decode (pB 53) 36 = .ok (.iload_n 1, 1) := by decide +kernel
theorem d53_37 : decode (pB 53) 37 = .ok (.aaload, 1) := by decide +kernel
theorem d53_38 : decode (pB 53) 38 = .ok (.invokevirtual 225, 3) := by decide +kernel
theorem d53_41 : decode (pB 53) 41 = .ok (.aload_n 0, 1) := by decide +kernel
theorem d53_42 : decode (pB 53) 42 = .ok (.invokevirtual 229, 3) := by decide +kernel
theorem d53_45 : decode (pB 53) 45 = .ok (.aload_n 0, 1) := by decide +kernel
theorem d53_46 : decode (pB 53) 46 = .ok (.aload_n 0, 1) := by decide +kernel
theorem d53_47 : decode (pB 53) 47 = .ok (.getfield 10, 3) := by decide +kernel
theorem d53_50 : decode (pB 53) 50 = .ok (.getfield 166, 3) := by decide +kernel
theorem d53_53 : decode (pB 53) 53 = .ok (.invokevirtual 65, 3) := by decide +kernel
theorem d53_56 : decode (pB 53) 56 = .ok (.ireturn, 1) := by decide +kernel
/-- RX4.restore -/
def t53_0 : List (Nat × pO) := [(0, o_iload 1 1), (1, o_iflt 9 4), (4, o_iload 1 5), (5, o_push (.int (nI 2)) 6), (6, o_iclt 12 9), (9, o_push (.int (nM 2)) 11), (11, o_iret), (12, o_aload 0 13), (13, o_getR 4 4 16), (16, o_iload 1 17), (17, o_zald 18), (18, o_ifne 24 21), (21, o_push (.int (nM 5)) 23), (23, o_iret), (24, o_aload 0 25), (25, o_invV 4 69 0 28), (28, o_aload 0 29), (29, o_getR 4 0 32), (32, o_aload 0 33), (33, o_getR 4 3 36), (36, o_iload 1 37), (37, o_aald 38), (38, o_invV 3 17 1 41), (41, o_aload 0 42), (42, o_invV 4 66 0 45), (45, o_aload 0 46), (46, o_aload 0 47), (47, o_getR 4 0 50), (50, o_getI 3 5 53), (53, o_invV 4 70 1 56), (56, o_iret)]
theorem ok53_0 : ∀ q ∈ t53_0, p_Z 53 q := List.forall_mem_cons.mpr ⟨⟨s_iload_n d53_0 rfl, tl_iload _ _⟩, List.forall_mem_cons.mpr ⟨⟨s_iflt d53_1 rfl, tl_iflt _ _⟩, List.forall_mem_cons.mpr ⟨⟨s_iload_n d53_4 rfl, tl_iload _ _⟩, List.forall_mem_cons.mpr ⟨⟨s_iconst d53_5 rfl, tl_push _ _⟩, List.forall_mem_cons.mpr ⟨⟨s_iclt d53_6 rfl, tl_iclt _ _⟩, List.forall_mem_cons.mpr ⟨⟨s_bipush d53_9 rfl, tl_push _ _⟩, List.forall_mem_cons.mpr ⟨⟨s_iret d53_11 rfl, tl_iret⟩, List.forall_mem_cons.mpr ⟨⟨s_aload_n d53_12 rfl, tl_aload _ _⟩, List.forall_mem_cons.mpr ⟨⟨f_getR_4_4 d53_13 wd_165, tl_getR _ _ _⟩, List.forall_mem_cons.mpr ⟨⟨s_iload_n d53_16 rfl, tl_iload _ _⟩, List.forall_mem_cons.mpr ⟨⟨s_zald d53_17, tl_zald _⟩, List.forall_mem_cons.mpr ⟨⟨s_ifne d53_18 rfl, tl_ifne _ _⟩, List.forall_mem_cons.mpr ⟨⟨s_bipush d53_21 rfl, tl_push _ _⟩, List.forall_mem_cons.mpr ⟨⟨s_iret d53_23 rfl, tl_iret⟩, List.forall_mem_cons.mpr ⟨⟨s_aload_n d53_24 rfl, tl_aload _ _⟩, List.forall_mem_cons.mpr ⟨⟨q_invV_69 d53_25 wd_292, tl_invV _ _ _ _⟩, List.forall_mem_cons.mpr ⟨⟨s_aload_n d53_28 rfl, tl_aload _ _⟩, List.forall_mem_cons.mpr ⟨⟨f_getR_4_0 d53_29 wd_161, tl_getR _ _ _⟩, List.forall_mem_cons.mpr ⟨⟨s_aload_n d53_32 rfl, tl_aload _ _⟩, List.forall_mem_cons.mpr ⟨⟨f_getR_4_3 d53_33 wd_164, tl_getR _ _ _⟩, List.forall_mem_cons.mpr ⟨⟨s_iload_n d53_36 rfl, tl_iload _ _⟩, List.forall_mem_cons.mpr ⟨⟨s_aald d53_37, tl_aald _⟩, List.forall_mem_cons.mpr ⟨⟨q_invV_17 d53_38 wd_261, tl_invV _ _ _ _⟩, List.forall_mem_cons.mpr ⟨⟨s_aload_n d53_41 rfl, tl_aload _ _⟩, List.forall_mem_cons.mpr ⟨⟨q_invV_66 d53_42 wd_268, tl_invV _ _ _ _⟩, List.forall_mem_cons.mpr ⟨⟨s_aload_n d53_45 rfl, tl_aload _ _⟩, List.forall_mem_cons.mpr ⟨⟨s_aload_n d53_46 rfl, tl_aload _ _⟩, List.forall_mem_cons.mpr ⟨⟨f_getR_4_0 d53_47 wd_161, tl_getR _ _ _⟩, List.forall_mem_cons.mpr ⟨⟨f_getI_3_5 d53_50 wd_52, tl_getI _ _ _⟩, List.forall_mem_cons.mpr ⟨⟨q_invV_70 d53_53 wd_296, tl_invV _ _ _ _⟩, List.forall_mem_cons.mpr ⟨⟨s_iret d53_56 rfl, tl_iret⟩, fun _ h => absurd h List.not_mem_nil⟩⟩⟩⟩⟩⟩⟩⟩⟩⟩⟩⟩⟩⟩⟩⟩⟩⟩⟩⟩⟩⟩⟩⟩⟩⟩⟩⟩⟩⟩⟩
def t53 : List (Nat × pO) := t53_0
theorem ok53 : ∀ q ∈ t53, p_Z 53 q := ok53_0
theorem d54_0 : decode (pB 54) 0 = .ok (.iload_n 1, 1) := by decide +kernel
theorem d54_1 : decode (pB 54) 1 = .ok (.ifCond .lt 11, 3) := by decide +kernel
theorem d54_4 : decode (pB 54) 4 = .ok (.iload_n 1, 1) := by decide +kernel
theorem d54_5 : decode (pB 54) 5 = .ok (.getstatic 232, 3) := by decide +kernel
theorem d54_8 : decode (pB 54) 8 = .ok (.arraylength, 1) := by decide +kernel
theorem d54_9 : decode (pB 54) 9 = .ok (.if_icmp .lt 6, 3) := by decide +kernel
theorem d54_12 : decode (pB 54) 12 = .ok (.bipush (-2), 2) := by decide +kernel
theorem d54_14 : decode (pB 54) 14 = .ok (.ireturn, 1) := by decide +kernel
theorem d54_15 : decode (pB 54) 15 = .ok (.iload_n 2, 1) := by decide +kernel
theorem d54_16 : decode (pB 54) 16 = .ok (.getstatic 232, 3) := by decide +kernel
theorem d54_19 : decode (pB 54) 19 = .ok (.iload_n 1, 1) := by decide +kernel
theorem d54_20 : decode (pB 54) 20 = .ok (.iaload, 1) := by decide +kernel
theorem d54_21 : decode (pB 54) 21 = .ok (.if_icmp .lt 12, 3) := by decide +kernel
theorem d54_24 : decode (pB 54) 24 = .ok (.iload_n 2, 1) := by decide +kernel
theorem d54_25 : decode (pB 54) 25 = .ok (.getstatic 235, 3) := by decide +kernel
theorem d54_28 : decode (pB 54) 28 = .ok (.iload_n 1, 1) := by decide +kernel
theorem d54_29 : decode (pB 54) 29 = .ok (.iaload, 1) := by decide +kernel
theorem d54_30 : decode (pB 54) 30 = .ok (.if_icmp .le 6, 3) := by decide +kernel
theorem d54_33 : decode (pB 54) 33 = .ok (.bipush (-2), 2) := by decide +kernel
theorem d54_35 : decode (pB 54) 35 = .ok (.ireturn, 1) := by decide +kernel
theorem d54_36 : decode (pB 54) 36 = .ok (.iload_n 1, 1) := by decide +kernel
theorem d54_37 : decode (pB 54) 37 = .ok (.ifCond .ne 27, 3) := by decide +kernel
theorem d54_40 : decode (pB 54) 40 = .ok (.aload_n 0, 1) := by decide +kernel
theorem d54_41 : decode (pB 54) 41 = .ok (.getfield 10, 3) := by decide +kernel
theorem d54_44 : decode (pB 54) 44 = .ok (.getfield 172, 3) := by decide +kernel
theorem d54_47 : decode (pB 54) 47 = .ok (.ifCond .gt 14, 3) := by decide +kernel
theorem d54_50 : decode (pB 54) 50 = .ok (.aload_n 0, 1) := by decide +kernel
theorem d54_51 : decode (pB 54) 51 = .ok (.getfield 10, 3) := by decide +kernel
theorem d54_54 : decode (pB 54) 54 = .ok (.iload_n 2, 1) := by decide +kernel
theorem d54_55 : decode (pB 54) 55 = .ok (.invokevirtual 238, 3) := by decide +kernel
theorem d54_58 : decode (pB 54) 58 = .ok (.ifCond .eq 6, 3) := by decide +kernel
theorem d54_61 : decode (pB 54) 61 = .ok (.bipush (-5), 2) := by decide +kernel
theorem d54_63 : decode (pB 54) 63 = .ok (.ireturn, 1) := by decide +kernel
theorem d54_64 : decode (pB 54) 64 = .ok (.aload_n 0, 1) := by decide +kernel
theorem d54_65 : decode (pB 54) 65 = .ok (.getfield 10, 3) := by decide +kernel
theorem d54_68 : decode (pB 54) 68 = .ok (.getfield 185, 3) := by decide +kernel
theorem d54_71 : decode (pB 54) 71 = .ok (.iload_n 1, 1) := by decide +kernel
theorem d54_72 : decode (pB 54) 72 = .ok (.iaload, 1) := by decide +kernel
theorem d54_73 : decode (pB 54) 73 = .ok (.istore_n 3, 1) := by decide +kernel
theorem d54_74 : decode (pB 54) 74 = .ok (.aload_n 0, 1) := by decide +kernel
theorem d54_75 : decode (pB 54) 75 = .ok (.getfield 10, 3) := by decide +kernel
theorem d54_78 : decode (pB 54) 78 = .ok (.getfield 185, 3) := by decide +kernel
theorem d54_81 : decode (pB 54) 81 = .ok (.iload_n 1, 1) := by decide +kernel
theorem d54_82 : decode (pB 54) 82 = .ok (.iload_n 2, 1) := by decide +kernel
theorem d54_83 : decode (pB 54) 83 = .ok (.iastore, 1) := by decide +kernel
theorem d54_84 : decode (pB 54) 84 = .ok (.iload_n 1, 1) := by decide +kernel
theorem d54_85 : decode (pB 54) 85 = .ok (.ifCond .ne 7, 3) := by decide +kernel
theorem d54_88 : decode (pB 54) 88 = .ok (.aload_n 0, 1) := by decide +kernel
theorem d54_89 : decode (pB 54) 89 = .ok (.invokevirtual 229, 3) := by decide +kernel
theorem d54_92 : decode (pB 54) 92 = .ok (.iload_n 3, 1) := by decide +kernel
theorem d54_93 : decode (pB 54) 93 = .ok (.ireturn, 1) := by decide +kernel
theorem st1_54_3 : p_st1 54 3 = true := by decide +kernel
/-- RX4.changeSetting -/
def t54_0 : List (Nat × pO) := [(0, o_iload 1 1), (1, o_iflt 12 4), (4, o_iload 1 5), (5, o_gets 0 8), (8, o_alen 9), (9, o_iclt 15 12), (12, o_push (.int (nM 2)) 14), (14, o_iret), (15, o_iload 2 16), (16, o_gets 0 19), (19, o_iload 1 20), (20, o_iald 21), (21, o_iclt 33 24), (24, o_iload 2 25), (25, o_gets 1 28), (28, o_iload 1 29), (29, o_iald 30), (30, o_icle 36 33), (33, o_push (.int (nM 2)) 35), (35, o_iret), (36, o_iload 1 37), (37, o_ifne 64 40), (40, o_aload 0 41), (41, o_getR 4 0 44), (44, o_getI 3 6 47), (47, o_ifgt 61 50), (50, o_aload 0 51), (51, o_getR 4 0 54), (54, o_iload 2 55), (55, o_invV 3 22 1 58), (58, o_ifeq 64 61), (61, o_push (.int (nM 5)) 63), (63, o_iret), (64, o_aload 0 65), (65, o_getR 4 0 68), (68, o_getR 3 0 71), (71, o_iload 1 72), (72, o_iald 73), (73, o_istore 3 74), (74, o_aload 0 75)]
theorem ok54_0 : ∀ q ∈ t54_0, p_Z 54 q := List.forall_mem_cons.mpr ⟨⟨s_iload_n d54_0 rfl, tl_iload _ _⟩, List.forall_mem_cons.mpr ⟨⟨s_iflt d54_1 rfl, tl_iflt _ _⟩, List.forall_mem_cons.mpr ⟨⟨s_iload_n d54_4 rfl, tl_iload _ _⟩, List.forall_mem_cons.mpr ⟨⟨s_gets (n := "LOWEST") d54_5 (by decide +kernel) wd_355, tl_gets _ _⟩, List.forall_mem_cons.mpr ⟨⟨s_alen d54_8, tl_alen _⟩, List.forall_mem_cons.mpr ⟨⟨s_iclt d54_9 rfl, tl_iclt _ _⟩, List.forall_mem_cons.mpr ⟨⟨s_bipush d54_12 rfl, tl_push _ _⟩, List.forall_mem_cons.mpr ⟨⟨s_iret d54_14 rfl, tl_iret⟩, List.forall_mem_cons.mpr ⟨⟨s_iload_n d54_15 rfl, tl_iload _ _⟩, List.forall_mem_cons.mpr ⟨⟨s_gets (n := "LOWEST") d54_16 (by decide +kernel) wd_355, tl_gets _ _⟩, List.forall_mem_cons.mpr ⟨⟨s_iload_n d54_19 rfl, tl_iload _ _⟩, List.forall_mem_cons.mpr ⟨⟨s_iald d54_20, tl_iald _⟩, List.forall_mem_cons.mpr ⟨⟨s_iclt d54_21 rfl, tl_iclt _ _⟩, List.forall_mem_cons.mpr ⟨⟨s_iload_n d54_24 rfl, tl_iload _ _⟩, List.forall_mem_cons.mpr ⟨⟨s_gets (n := "HIGHEST") d54_25 (by decide +kernel) wd_357, tl_gets _ _⟩, List.forall_mem_cons.mpr ⟨⟨s_iload_n d54_28 rfl, tl_iload _ _⟩, List.forall_mem_cons.mpr ⟨⟨s_iald d54_29, tl_iald _⟩, List.forall_mem_cons.mpr ⟨⟨s_icle d54_30 rfl, tl_icle _ _⟩, List.forall_mem_cons.mpr ⟨⟨s_bipush d54_33 rfl, tl_push _ _⟩, List.forall_mem_cons.mpr ⟨⟨s_iret d54_35 rfl, tl_iret⟩, List.forall_mem_cons.mpr ⟨⟨s_iload_n d54_36 rfl, tl_iload _ _⟩, List.forall_mem_cons.mpr ⟨⟨s_ifne d54_37 rfl, tl_ifne _ _⟩, List.forall_mem_cons.mpr ⟨⟨s_aload_n d54_40 rfl, tl_aload _ _⟩, List.forall_mem_cons.mpr ⟨⟨f_getR_4_0 d54_41 wd_161, tl_getR _ _ _⟩, List.forall_mem_cons.mpr ⟨⟨f_getI_3_6 d54_44 wd_54, tl_getI _ _ _⟩, List.forall_mem_cons.mpr ⟨⟨s_ifgt d54_47 rfl, tl_ifgt _ _⟩, List.forall_mem_cons.mpr ⟨⟨s_aload_n d54_50 rfl, tl_aload _ _⟩, List.forall_mem_cons.mpr ⟨⟨f_getR_4_0 d54_51 wd_161, tl_getR _ _ _⟩, List.forall_mem_cons.mpr ⟨⟨s_iload_n d54_54 rfl, tl_iload _ _⟩, List.forall_mem_cons.mpr ⟨⟨q_invV_22 d54_55 wd_359, tl_invV _ _ _ _⟩, List.forall_mem_cons.mpr ⟨⟨s_ifeq d54_58 rfl, tl_ifeq _ _⟩, List.forall_mem_cons.mpr ⟨⟨s_bipush d54_61 rfl, tl_push _ _⟩, List.forall_mem_cons.mpr ⟨⟨s_iret d54_63 rfl, tl_iret⟩, List.forall_mem_cons.mpr ⟨⟨s_aload_n d54_64 rfl, tl_aload _ _⟩, List.forall_mem_cons.mpr ⟨⟨f_getR_4_0 d54_65 wd_161, tl_getR _ _ _⟩, List.forall_mem_cons.mpr ⟨⟨f_getR_3_0 d54_68 wd_42, tl_getR _ _ _⟩, List.forall_mem_cons.mpr ⟨⟨s_iload_n d54_71 rfl, tl_iload _ _⟩, List.forall_mem_cons.mpr ⟨⟨s_iald d54_72, tl_iald _⟩, List.forall_mem_cons.mpr ⟨⟨s_istore_n d54_73 rfl st1_54_3, tl_istore _ _⟩, List.forall_mem_cons.mpr ⟨⟨s_aload_n d54_74 rfl, tl_aload _ _⟩, fun _ h => absurd h List.not_mem_nil⟩⟩⟩⟩⟩⟩⟩⟩⟩⟩⟩⟩⟩⟩⟩⟩⟩⟩⟩⟩⟩⟩⟩⟩⟩⟩⟩⟩⟩⟩⟩⟩⟩⟩⟩⟩⟩⟩⟩⟩
/-- RX4.changeSetting -/
def t54_1 : List (Nat × pO) := [(75, o_getR 4 0 78), (78, o_getR 3 0 81), (81, o_iload 1 82), (82, o_iload 2 83), (83, o_iast 84), (84, o_iload 1 85), (85, o_ifne 92 88), (88, o_aload 0 89), (89, o_invV 4 66 0 92), (92, o_iload 3 93), (93, o_iret)]
theorem ok54_1 : ∀ q ∈ t54_1, p_Z 54 q := List.forall_mem_cons.mpr ⟨⟨f_getR_4_0 d54_75 wd_161, tl_getR _ _ _⟩, List.forall_mem_cons.mpr ⟨⟨f_getR_3_0 d54_78 wd_42, tl_getR _ _ _⟩, List.forall_mem_cons.mpr ⟨⟨s_iload_n d54_81 rfl, tl_iload _ _⟩, List.forall_mem_cons.mpr ⟨⟨s_iload_n d54_82 rfl, tl_iload _ _⟩, List.forall_mem_cons.mpr ⟨⟨s_iast d54_83, tl_iast _⟩, List.forall_mem_cons.mpr ⟨⟨s_iload_n d54_84 rfl, tl_iload _ _⟩, List.forall_mem_cons.mpr ⟨⟨s_ifne d54_85 rfl, tl_ifne _ _⟩, List.forall_mem_cons.mpr ⟨⟨s_aload_n d54_88 rfl, tl_aload _ _⟩, List.forall_mem_cons.mpr ⟨⟨q_invV_66 d54_89 wd_268, tl_invV _ _ _ _⟩, List.forall_mem_cons.mpr ⟨⟨s_iload_n d54_92 rfl, tl_iload _ _⟩, List.forall_mem_cons.mpr ⟨⟨s_iret d54_93 rfl, tl_iret⟩, fun _ h => absurd h List.not_mem_nil⟩⟩⟩⟩⟩⟩⟩⟩⟩⟩⟩
def t54 : List (Nat × pO) := t54_0 ++ (t54_1)
theorem ok54 : ∀ q ∈ t54, p_Z 54 q := List.forall_mem_append.mpr ⟨ok54_0, ok54_1⟩
theorem d55_0 : decode (pB 55) 0 = .ok (.aload_n 0, 1) := by decide +kernel
theorem d55_1 : decode (pB 55) 1 = .ok (.getfield 10, 3) := by decide +kernel
theorem d55_4 : decode (pB 55) 4 = .ok (.getfield 166, 3) := by decide +kernel
theorem d55_7 : decode (pB 55) 7 = .ok (.bipush 12, 2) := by decide +kernel
theorem d55_9 : decode (pB 55) 9 = .ok (.if_icmp .lt 6, 3) := by decide +kernel
theorem d55_12 : decode (pB 55) 12 = .ok (.bipush (-4), 2) := by decide +kernel
theorem d55_14 : decode (pB 55) 14 = .ok (.ireturn, 1) := by decide +kernel
theorem d55_15 : decode (pB 55) 15 = .ok (.aload_n 0, 1) := by decide +kernel
theorem d55_16 : decode (pB 55) 16 = .ok (.getfield 10, 3) := by decide +kernel
theorem d55_19 : decode (pB 55) 19 = .ok (.dup, 1) := by decide +kernel
theorem d55_20 : decode (pB 55) 20 = .ok (.getfield 166, 3) := by decide +kernel
theorem d55_23 : decode (pB 55) 23 = .ok (.iconst 1, 1) := by decide +kernel
theorem d55_24 : decode (pB 55) 24 = .ok (.iadd, 1) := by decide +kernel
theorem d55_25 : decode (pB 55) 25 = .ok (.putfield 166, 3) := by decide +kernel
theorem d55_28 : decode (pB 55) 28 = .ok (.aload_n 0, 1) := by decide +kernel
theorem d55_29 : decode (pB 55) 29 = .ok (.getfield 10, 3) := by decide +kernel
theorem d55_32 : decode (pB 55) 32 = .ok (.getfield 166, 3) := by decide +kernel
theorem d55_35 : decode (pB 55) 35 = .ok (.iconst 1, 1) := by decide +kernel
theorem d55_36 : decode (pB 55) 36 = .ok (.isub, 1) := by decide +kernel
theorem d55_37 : decode (pB 55) 37 = .ok (.ireturn, 1) := by decide +kernel
/-- RX4.comeIn -/
def t55_0 : List (Nat × pO) := [(0, o_aload 0 1), (1, o_getR 4 0 4), (4, o_getI 3 5 7), (7, o_push (.int (nI 12)) 9), (9, o_iclt 15 12), (12, o_push (.int (nM 4)) 14), (14, o_iret), (15, o_aload 0 16), (16, o_getR 4 0 19), (19, o_dupr 20), (20, o_getI 3 5 23), (23, o_push (.int (nI 1)) 24), (24, o_iadd 25), (25, o_putI 3 5 28), (28, o_aload 0 29), (29, o_getR 4 0 32), (32, o_getI 3 5 35), (35, o_push (.int (nI 1)) 36), (36, o_isub 37), (37, o_iret)]
theorem ok55_0 : ∀ q ∈ t55_0, p_Z 55 q := List.forall_mem_cons.mpr ⟨⟨s_aload_n d55_0 rfl, tl_aload _ _⟩, List.forall_mem_cons.mpr ⟨⟨f_getR_4_0 d55_1 wd_161, tl_getR _ _ _⟩, List.forall_mem_cons.mpr ⟨⟨f_getI_3_5 d55_4 wd_52, tl_getI _ _ _⟩, List.forall_mem_cons.mpr ⟨⟨s_bipush d55_7 rfl, tl_push _ _⟩, List.forall_mem_cons.mpr ⟨⟨s_iclt d55_9 rfl, tl_iclt _ _⟩, List.forall_mem_cons.mpr ⟨⟨s_bipush d55_12 rfl, tl_push _ _⟩, List.forall_mem_cons.mpr ⟨⟨s_iret d55_14 rfl, tl_iret⟩, List.forall_mem_cons.mpr ⟨⟨s_aload_n d55_15 rfl, tl_aload _ _⟩, List.forall_mem_cons.mpr ⟨⟨f_getR_4_0 d55_16 wd_161, tl_getR _ _ _⟩, List.forall_mem_cons.mpr ⟨⟨s_dupr d55_19, tl_dupr _⟩, List.forall_mem_cons.mpr ⟨⟨f_getI_3_5 d55_20 wd_52, tl_getI _ _ _⟩, List.forall_mem_cons.mpr ⟨⟨s_iconst d55_23 rfl, tl_push _ _⟩, List.forall_mem_cons.mpr ⟨⟨s_iadd d55_24, tl_iadd _⟩, List.forall_mem_cons.mpr ⟨⟨f_putI_3_5 d55_25 wd_52, tl_putI _ _ _⟩, List.forall_mem_cons.mpr ⟨⟨s_aload_n d55_28 rfl, tl_aload _ _⟩, List.forall_mem_cons.mpr ⟨⟨f_getR_4_0 d55_29 wd_161, tl_getR _ _ _⟩, List.forall_mem_cons.mpr ⟨⟨f_getI_3_5 d55_32 wd_52, tl_getI _ _ _⟩, List.forall_mem_cons.mpr ⟨⟨s_iconst d55_35 rfl, tl_push _ _⟩, List.forall_mem_cons.mpr ⟨⟨s_isub d55_36, tl_isub _⟩, List.forall_mem_cons.mpr ⟨⟨s_iret d55_37 rfl, tl_iret⟩, fun _ h => absurd h List.not_mem_nil⟩⟩⟩⟩⟩⟩⟩⟩⟩⟩⟩⟩⟩⟩⟩⟩⟩⟩⟩⟩
def t55 : List (Nat × pO) := t55_0
theorem ok55 : ∀ q ∈ t55, p_Z 55 q := ok55_0
theorem d56_0 : decode (pB 56) 0 = .ok (.aload_n 0, 1) := by decide +kernel
theorem d56_1 : decode (pB 56) 1 = .ok (.getfield 10, 3) := by decide +kernel
theorem d56_4 : decode (pB 56) 4 = .ok (.iload_n 1, 1) := by decide +kernel
theorem d56_5 : decode (pB 56) 5 = .ok (.invokevirtual 122, 3) := by decide +kernel
theorem d56_8 : decode (pB 56) 8 = .ok (.ifCond .eq 14, 3) := by decide +kernel
theorem d56_11 : decode (pB 56) 11 = .ok (.aload_n 0, 1) := by decide +kernel
theorem d56_12 : decode (pB 56) 12 = .ok (.getfield 10, 3) := by decide +kernel
theorem d56_15 : decode (pB 56) 15 = .ok (.iload_n 2, 1) := by decide +kernel
theorem d56_16 : decode (pB 56) 16 = .ok (.invokevirtual 148, 3) := by decide +kernel
theorem d56_19 : decode (pB 56) 19 = .ok (.ifCond .ne 5, 3) := by decide +kernel
theorem d56_22 : decode (pB 56) 22 = .ok (.iconst (-1), 1) := by decide +kernel
theorem d56_23 : decode (pB 56) 23 = .ok (.ireturn, 1) := by decide +kernel
theorem d56_24 : decode (pB 56) 24 = .ok (.aload_n 0, 1) := by decide +kernel
theorem d56_25 : decode (pB 56) 25 = .ok (.getfield 10, 3) := by decide +kernel
theorem d56_28 : decode (pB 56) 28 = .ok (.getfield 172, 3) := by decide +kernel
theorem d56_31 : decode (pB 56) 31 = .ok (.ifCond .gt 17, 3) := by decide +kernel
theorem d56_34 : decode (pB 56) 34 = .ok (.aload_n 0, 1) := by decide +kernel
theorem d56_35 : decode (pB 56) 35 = .ok (.getfield 10, 3) := by decide +kernel
theorem d56_38 : decode (pB 56) 38 = .ok (.getfield 151, 3) := by decide +kernel
theorem d56_41 : decode (pB 56) 41 = .ok (.iload_n 2, 1) := by decide +kernel
theorem d56_42 : decode (pB 56) 42 = .ok (.iaload, 1) := by decide +kernel
theorem d56_43 : decode (pB 56) 43 = .ok (.bipush (-6), 2) := by decide +kernel
theorem d56_45 : decode (pB 56) 45 = .ok (.if_icmp .eq 6, 3) := by decide +kernel
theorem d56_48 : decode (pB 56) 48 = .ok (.bipush (-5), 2) := by decide +kernel
theorem d56_50 : decode (pB 56) 50 = .ok (.ireturn, 1) := by decide +kernel
theorem d56_51 : decode (pB 56) 51 = .ok (.aload_n 0, 1) := by decide +kernel
theorem d56_52 : decode (pB 56) 52 = .ok (.getfield 10, 3) := by decide +kernel
theorem d56_55 : decode (pB 56) 55 = .ok (.iload_n 1, 1) := by decide +kernel
theorem d56_56 : decode (pB 56) 56 = .ok (.invokevirtual 126, 3) := by decide +kernel
theorem d56_59 : decode (pB 56) 59 = .ok (.istore_n 3, 1) := by decide +kernel
theorem d56_60 : decode (pB 56) 60 = .ok (.iload_n 3, 1) := by decide +kernel
theorem d56_61 : decode (pB 56) 61 = .ok (.bipush (-6), 2) := by decide +kernel
theorem d56_63 : decode (pB 56) 63 = .ok (.if_icmp .eq 14, 3) := by decide +kernel
theorem d56_66 : decode (pB 56) 66 = .ok (.aload_n 0, 1) := by decide +kernel
theorem d56_67 : decode (pB 56) 67 = .ok (.getfield 10, 3) := by decide +kernel
theorem d56_70 : decode (pB 56) 70 = .ok (.getfield 151, 3) := by decide +kernel
theorem d56_73 : decode (pB 56) 73 = .ok (.iload_n 3, 1) := by decide +kernel
theorem d56_74 : decode (pB 56) 74 = .ok (.bipush (-6), 2) := by decide +kernel
theorem d56_76 : decode (pB 56) 76 = .ok (.iastore, 1) := by decide +kernel
theorem d56_77 : decode (pB 56) 77 = .ok (.aload_n 0, 1) := by decide +kernel
theorem d56_78 : decode (pB 56) 78 = .ok (.getfield 10, 3) := by decide +kernel
theorem d56_81 : decode (pB 56) 81 = .ok (.getfield 151, 3) := by decide +kernel
theorem d56_84 : decode (pB 56) 84 = .ok (.iload_n 2, 1) := by decide +kernel
theorem d56_85 : decode (pB 56) 85 = .ok (.iload_n 1, 1) := by decide +kernel
theorem d56_86 : decode (pB 56) 86 = .ok (.iastore, 1) := by decide +kernel
theorem d56_87 : decode (pB 56) 87 = .ok (.iload_n 3, 1) := by decide +kernel
theorem d56_88 : decode (pB 56) 88 = .ok (.ireturn, 1) := by decide +kernel
theorem st1_56_3 : p_st1 56 3 = true := by decide +kernel
/-- RX4.takeSeat -/
def t56_0 : List (Nat × pO) := [(0, o_aload 0 1), (1, o_getR 4 0 4), (4, o_iload 1 5), (5, o_invV 3 18 1 8), (8, o_ifeq 22 11), (11, o_aload 0 12), (12, o_getR 4 0 15), (15, o_iload 2 16), (16, o_invV 3 19 1 19), (19, o_ifne 24 22), (22, o_push (.int (nM 1)) 23), (23, o_iret), (24, o_aload 0 25), (25, o_getR 4 0 28), (28, o_getI 3 6 31), (31, o_ifgt 48 34), (34, o_aload 0 35), (35, o_getR 4 0 38), (38, o_getR 3 1 41), (41, o_iload 2 42), (42, o_iald 43), (43, o_push (.int (nM 6)) 45), (45, o_iceq 51 48), (48, o_push (.int (nM 5)) 50), (50, o_iret), (51, o_aload 0 52), (52, o_getR 4 0 55), (55, o_iload 1 56), (56, o_invV 3 20 1 59), (59, o_istore 3 60), (60, o_iload 3 61), (61, o_push (.int (nM 6)) 63), (63, o_iceq 77 66), (66, o_aload 0 67), (67, o_getR 4 0 70), (70, o_getR 3 1 73), (73, o_iload 3 74), (74, o_push (.int (nM 6)) 76), (76, o_iast 77), (77, o_aload 0 78)]
theorem ok56_0 : ∀ q ∈ t56_0, p_Z 56 q := List.forall_mem_cons.mpr ⟨⟨s_aload_n d56_0 rfl, tl_aload _ _⟩, List.forall_mem_cons.mpr ⟨⟨f_getR_4_0 d56_1 wd_161, tl_getR _ _ _⟩, List.forall_mem_cons.mpr ⟨⟨s_iload_n d56_4 rfl, tl_iload _ _⟩, List.forall_mem_cons.mpr ⟨⟨q_invV_18 d56_5 wd_323, tl_invV _ _ _ _⟩, List.forall_mem_cons.mpr ⟨⟨s_ifeq d56_8 rfl, tl_ifeq _ _⟩, List.forall_mem_cons.mpr ⟨⟨s_aload_n d56_11 rfl, tl_aload _ _⟩, List.forall_mem_cons.mpr ⟨⟨f_getR_4_0 d56_12 wd_161, tl_getR _ _ _⟩, List.forall_mem_cons.mpr ⟨⟨s_iload_n d56_15 rfl, tl_iload _ _⟩, List.forall_mem_cons.mpr ⟨⟨q_invV_19 d56_16 wd_342, tl_invV _ _ _ _⟩, List.forall_mem_cons.mpr ⟨⟨s_ifne d56_19 rfl, tl_ifne _ _⟩, List.forall_mem_cons.mpr ⟨⟨s_iconst d56_22 rfl, tl_push _ _⟩, List.forall_mem_cons.mpr ⟨⟨s_iret d56_23 rfl, tl_iret⟩, List.forall_mem_cons.mpr ⟨⟨s_aload_n d56_24 rfl, tl_aload _ _⟩, List.forall_mem_cons.mpr ⟨⟨f_getR_4_0 d56_25 wd_161, tl_getR _ _ _⟩, List.forall_mem_cons.mpr ⟨⟨f_getI_3_6 d56_28 wd_54, tl_getI _ _ _⟩, List.forall_mem_cons.mpr ⟨⟨s_ifgt d56_31 rfl, tl_ifgt _ _⟩, List.forall_mem_cons.mpr ⟨⟨s_aload_n d56_34 rfl, tl_aload _ _⟩, List.forall_mem_cons.mpr ⟨⟨f_getR_4_0 d56_35 wd_161, tl_getR _ _ _⟩, List.forall_mem_cons.mpr ⟨⟨f_getR_3_1 d56_38 wd_44, tl_getR _ _ _⟩, List.forall_mem_cons.mpr ⟨⟨s_iload_n d56_41 rfl, tl_iload _ _⟩, List.forall_mem_cons.mpr ⟨⟨s_iald d56_42, tl_iald _⟩, List.forall_mem_cons.mpr ⟨⟨s_bipush d56_43 rfl, tl_push _ _⟩, List.forall_mem_cons.mpr ⟨⟨s_iceq d56_45 rfl, tl_iceq _ _⟩, List.forall_mem_cons.mpr ⟨⟨s_bipush d56_48 rfl, tl_push _ _⟩, List.forall_mem_cons.mpr ⟨⟨s_iret d56_50 rfl, tl_iret⟩, List.forall_mem_cons.mpr ⟨⟨s_aload_n d56_51 rfl, tl_aload _ _⟩, List.forall_mem_cons.mpr ⟨⟨f_getR_4_0 d56_52 wd_161, tl_getR _ _ _⟩, List.forall_mem_cons.mpr ⟨⟨s_iload_n d56_55 rfl, tl_iload _ _⟩, List.forall_mem_cons.mpr ⟨⟨q_invV_20 d56_56 wd_327, tl_invV _ _ _ _⟩, List.forall_mem_cons.mpr ⟨⟨s_istore_n d56_59 rfl st1_56_3, tl_istore _ _⟩, List.forall_mem_cons.mpr ⟨⟨s_iload_n d56_60 rfl, tl_iload _ _⟩, List.forall_mem_cons.mpr ⟨⟨s_bipush d56_61 rfl, tl_push _ _⟩, List.forall_mem_cons.mpr ⟨⟨s_iceq d56_63 rfl, tl_iceq _ _⟩, List.forall_mem_cons.mpr ⟨⟨s_aload_n d56_66 rfl, tl_aload _ _⟩, List.forall_mem_cons.mpr ⟨⟨f_getR_4_0 d56_67 wd_161, tl_getR _ _ _⟩, List.forall_mem_cons.mpr ⟨⟨f_getR_3_1 d56_70 wd_44, tl_getR _ _ _⟩, List.forall_mem_cons.mpr ⟨⟨s_iload_n d56_73 rfl, tl_iload _ _⟩, List.forall_mem_cons.mpr ⟨⟨s_bipush d56_74 rfl, tl_push _ _⟩, List.forall_mem_cons.mpr ⟨⟨s_iast d56_76, tl_iast _⟩, List.forall_mem_cons.mpr ⟨⟨s_aload_n d56_77 rfl, tl_aload _ _⟩, fun _ h => absurd h List.not_mem_nil⟩⟩⟩⟩⟩⟩⟩⟩⟩⟩⟩⟩⟩⟩⟩⟩⟩⟩⟩⟩⟩⟩⟩⟩⟩⟩⟩⟩⟩⟩⟩⟩⟩⟩⟩⟩⟩⟩⟩⟩
/-- RX4.takeSeat -/
def t56_1 : List (Nat × pO) := [(78, o_getR 4 0 81), (81, o_getR 3 1 84), (84, o_iload 2 85), (85, o_iload 1 86), (86, o_iast 87), (87, o_iload 3 88), (88, o_iret)]
theorem ok56_1 : ∀ q ∈ t56_1, p_Z 56 q := List.forall_mem_cons.mpr ⟨⟨f_getR_4_0 d56_78 wd_161, tl_getR _ _ _⟩, List.forall_mem_cons.mpr ⟨⟨f_getR_3_1 d56_81 wd_44, tl_getR _ _ _⟩, List.forall_mem_cons.mpr ⟨⟨s_iload_n d56_84 rfl, tl_iload _ _⟩, List.forall_mem_cons.mpr ⟨⟨s_iload_n d56_85 rfl, tl_iload _ _⟩, List.forall_mem_cons.mpr ⟨⟨s_iast d56_86, tl_iast _⟩, List.forall_mem_cons.mpr ⟨⟨s_iload_n d56_87 rfl, tl_iload _ _⟩, List.forall_mem_cons.mpr ⟨⟨s_iret d56_88 rfl, tl_iret⟩, fun _ h => absurd h List.not_mem_nil⟩⟩⟩⟩⟩⟩⟩
def t56 : List (Nat × pO) := t56_0 ++ (t56_1)
theorem ok56 : ∀ q ∈ t56, p_Z 56 q := List.forall_mem_append.mpr ⟨ok56_0, ok56_1⟩
theorem d57_0 : decode (pB 57) 0 = .ok (.aload_n 0, 1) := by decide +kernel
theorem d57_1 : decode (pB 57) 1 = .ok (.getfield 10, 3) := by decide +kernel
theorem d57_4 : decode (pB 57) 4 = .ok (.iload_n 1, 1) := by decide +kernel
theorem d57_5 : decode (pB 57) 5 = .ok (.invokevirtual 122, 3) := by decide +kernel
theorem d57_8 : decode (pB 57) 8 = .ok (.ifCond .ne 5, 3) := by decide +kernel
theorem d57_11 : decode (pB 57) 11 = .ok (.iconst (-1), 1) := by decide +kernel
theorem d57_12 : decode (pB 57) 12 = .ok (.ireturn, 1) := by decide +kernel
theorem d57_13 : decode (pB 57) 13 = .ok (.aload_n 0, 1) := by decide +kernel
theorem d57_14 : decode (pB 57) 14 = .ok (.getfield 10, 3) := by decide +kernel
theorem d57_17 : decode (pB 57) 17 = .ok (.iload_n 1, 1) := by decide +kernel
theorem d57_18 : decode (pB 57) 18 = .ok (.invokevirtual 126, 3) := by decide +kernel
theorem d57_21 : decode (pB 57) 21 = .ok (.istore_n 2, 1) := by decide +kernel
theorem d57_22 : decode (pB 57) 22 = .ok (.aload_n 0, 1) := by decide +kernel
theorem d57_23 : decode (pB 57) 23 = .ok (.getfield 10, 3) := by decide +kernel
theorem d57_26 : decode (pB 57) 26 = .ok (.getfield 172, 3) := by decide +kernel
theorem d57_29 : decode (pB 57) 29 = .ok (.ifCond .gt 9, 3) := by decide +kernel
theorem d57_32 : decode (pB 57) 32 = .ok (.iload_n 2, 1) := by decide +kernel
theorem d57_33 : decode (pB 57) 33 = .ok (.bipush (-6), 2) := by decide +kernel
theorem d57_35 : decode (pB 57) 35 = .ok (.if_icmp .ne 6, 3) := by decide +kernel
theorem d57_38 : decode (pB 57) 38 = .ok (.bipush (-5), 2) := by decide +kernel
theorem d57_40 : decode (pB 57) 40 = .ok (.ireturn, 1) := by decide +kernel
theorem d57_41 : decode (pB 57) 41 = .ok (.aload_n 0, 1) := by decide +kernel
theorem d57_42 : decode (pB 57) 42 = .ok (.getfield 10, 3) := by decide +kernel
theorem d57_45 : decode (pB 57) 45 = .ok (.getfield 151, 3) := by decide +kernel
theorem d57_48 : decode (pB 57) 48 = .ok (.iload_n 2, 1) := by decide +kernel
theorem d57_49 : decode (pB 57) 49 = .ok (.bipush (-6), 2) := by decide +kernel
theorem d57_51 : decode (pB 57) 51 = .ok (.iastore, 1) := by decide +kernel
theorem d57_52 : decode (pB 57) 52 = .ok (.iload_n 2, 1) := by decide +kernel
theorem d57_53 : decode (pB 57) 53 = .ok (.ireturn, 1) := by decide +kernel
theorem st1_57_2 : p_st1 57 2 = true := by decide +kernel
/-- RX4.getUp -/
def t57_0 : List (Nat × pO) := [(0, o_aload 0 1), (1, o_getR 4 0 4), (4, o_iload 1 5), (5, o_invV 3 18 1 8), (8, o_ifne 13 11), (11, o_push (.int (nM 1)) 12), (12, o_iret), (13, o_aload 0 14), (14, o_getR 4 0 17), (17, o_iload 1 18), (18, o_invV 3 20 1 21), (21, o_istore 2 22), (22, o_aload 0 23), (23, o_getR 4 0 26), (26, o_getI 3 6 29), (29, o_ifgt 38 32), (32, o_iload 2 33), (33, o_push (.int (nM 6)) 35), (35, o_icne 41 38), (38, o_push (.int (nM 5)) 40), (40, o_iret), (41, o_aload 0 42), (42, o_getR 4 0 45), (45, o_getR 3 1 48), (48, o_iload 2 49), (49, o_push (.int (nM 6)) 51), (51, o_iast 52), (52, o_iload 2 53), (53, o_iret)]
theorem ok57_0 : ∀ q ∈ t57_0, p_Z 57 q := List.forall_mem_cons.mpr ⟨⟨s_aload_n d57_0 rfl, tl_aload _ _⟩, List.forall_mem_cons.mpr ⟨⟨f_getR_4_0 d57_1 wd_161, tl_getR _ _ _⟩, List.forall_mem_cons.mpr ⟨⟨s_iload_n d57_4 rfl, tl_iload _ _⟩, List.forall_mem_cons.mpr ⟨⟨q_invV_18 d57_5 wd_323, tl_invV _ _ _ _⟩, List.forall_mem_cons.mpr ⟨⟨s_ifne d57_8 rfl, tl_ifne _ _⟩, List.forall_mem_cons.mpr ⟨⟨s_iconst d57_11 rfl, tl_push _ _⟩, List.forall_mem_cons.mpr ⟨⟨s_iret d57_12 rfl, tl_iret⟩, List.forall_mem_cons.mpr ⟨⟨s_aload_n d57_13 rfl, tl_aload _ _⟩, List.forall_mem_cons.mpr ⟨⟨f_getR_4_0 d57_14 wd_161, tl_getR _ _ _⟩, List.forall_mem_cons.mpr ⟨⟨s_iload_n d57_17 rfl, tl_iload _ _⟩, List.forall_mem_cons.mpr ⟨⟨q_invV_20 d57_18 wd_327, tl_invV _ _ _ _⟩, List.forall_mem_cons.mpr ⟨⟨s_istore_n d57_21 rfl st1_57_2, tl_istore _ _⟩, List.forall_mem_cons.mpr ⟨⟨s_aload_n d57_22 rfl, tl_aload _ _⟩, List.forall_mem_cons.mpr ⟨⟨f_getR_4_0 d57_23 wd_161, tl_getR _ _ _⟩, List.forall_mem_cons.mpr ⟨⟨f_getI_3_6 d57_26 wd_54, tl_getI _ _ _⟩, List.forall_mem_cons.mpr ⟨⟨s_ifgt d57_29 rfl, tl_ifgt _ _⟩, List.forall_mem_cons.mpr ⟨⟨s_iload_n d57_32 rfl, tl_iload _ _⟩, List.forall_mem_cons.mpr ⟨⟨s_bipush d57_33 rfl, tl_push _ _⟩, List.forall_mem_cons.mpr ⟨⟨s_icne d57_35 rfl, tl_icne _ _⟩, List.forall_mem_cons.mpr ⟨⟨s_bipush d57_38 rfl, tl_push _ _⟩, List.forall_mem_cons.mpr ⟨⟨s_iret d57_40 rfl, tl_iret⟩, List.forall_mem_cons.mpr ⟨⟨s_aload_n d57_41 rfl, tl_aload _ _⟩, List.forall_mem_cons.mpr ⟨⟨f_getR_4_0 d57_42 wd_161, tl_getR _ _ _⟩, List.forall_mem_cons.mpr ⟨⟨f_getR_3_1 d57_45 wd_44, tl_getR _ _ _⟩, List.forall_mem_cons.mpr ⟨⟨s_iload_n d57_48 rfl, tl_iload _ _⟩, List.forall_mem_cons.mpr ⟨⟨s_bipush d57_49 rfl, tl_push _ _⟩, List.forall_mem_cons.mpr ⟨⟨s_iast d57_51, tl_iast _⟩, List.forall_mem_cons.mpr ⟨⟨s_iload_n d57_52 rfl, tl_iload _ _⟩, List.forall_mem_cons.mpr ⟨⟨s_iret d57_53 rfl, tl_iret⟩, fun _ h => absurd h List.not_mem_nil⟩⟩⟩⟩⟩⟩⟩⟩⟩⟩⟩⟩⟩⟩⟩⟩⟩⟩⟩⟩⟩⟩⟩⟩⟩⟩⟩⟩⟩
def t57 : List (Nat × pO) := t57_0
theorem ok57 : ∀ q ∈ t57, p_Z 57 q := ok57_0
theorem d58_0 : decode (pB 58) 0 = .ok (.aload_n 0, 1) := by decide +kernel
theorem d58_1 : decode (pB 58) 1 = .ok (.getfield 10, 3) := by decide +kernel
theorem d58_4 : decode (pB 58) 4 = .ok (.iload_n 1, 1) := by decide +kernel
theorem d58_5 : decode (pB 58) 5 = .ok (.invokevirtual 148, 3) := by decide +kernel
theorem d58_8 : decode (pB 58) 8 = .ok (.ifCond .eq 14, 3) := by decide +kernel
theorem d58_11 : decode (pB 58) 11 = .ok (.aload_n 0, 1) := by decide +kernel
theorem d58_12 : decode (pB 58) 12 = .ok (.getfield 10, 3) := by decide +kernel
theorem d58_15 : decode (pB 58) 15 = .ok (.iload_n 2, 1) := by decide +kernel
theorem d58_16 : decode (pB 58) 16 = .ok (.invokevirtual 148, 3) := by decide +kernel
theorem d58_19 : decode (pB 58) 19 = .ok (.ifCond .ne 5, 3) := by decide +kernel
theorem d58_22 : decode (pB 58) 22 = .ok (.iconst (-1), 1) := by decide +kernel
theorem d58_23 : decode (pB 58) 23 = .ok (.ireturn, 1) := by decide +kernel
theorem d58_24 : decode (pB 58) 24 = .ok (.iload_n 1, 1) := by decide +kernel
theorem d58_25 : decode (pB 58) 25 = .ok (.iload_n 2, 1) := by decide +kernel
theorem d58_26 : decode (pB 58) 26 = .ok (.if_icmp .ne 6, 3) := by decide +kernel
theorem d58_29 : decode (pB 58) 29 = .ok (.bipush (-2), 2) := by decide +kernel
theorem d58_31 : decode (pB 58) 31 = .ok (.ireturn, 1) := by decide +kernel
theorem d58_32 : decode (pB 58) 32 = .ok (.aload_n 0, 1) := by decide +kernel
theorem d58_33 : decode (pB 58) 33 = .ok (.getfield 10, 3) := by decide +kernel
theorem d58_36 : decode (pB 58) 36 = .ok (.getfield 172, 3) := by decide +kernel
theorem d58_39 : decode (pB 58) 39 = .ok (.ifCond .le 6, 3) := by decide +kernel
theorem d58_42 : decode (pB 58) 42 = .ok (.bipush (-5), 2) := by decide +kernel
theorem d58_44 : decode (pB 58) 44 = .ok (.ireturn, 1) := by decide +kernel
theorem d58_45 : decode (pB 58) 45 = .ok (.aload_n 0, 1) := by decide +kernel
theorem d58_46 : decode (pB 58) 46 = .ok (.getfield 10, 3) := by decide +kernel
theorem d58_49 : decode (pB 58) 49 = .ok (.iload_n 1, 1) := by decide +kernel
theorem d58_50 : decode (pB 58) 50 = .ok (.iload_n 2, 1) := by decide +kernel
theorem d58_51 : decode (pB 58) 51 = .ok (.invokevirtual 241, 3) := by decide +kernel
theorem d58_54 : decode (pB 58) 54 = .ok (.aload_n 0, 1) := by decide +kernel
theorem d58_55 : decode (pB 58) 55 = .ok (.getfield 10, 3) := by decide +kernel
theorem d58_58 : decode (pB 58) 58 = .ok (.iload_n 1, 1) := by decide +kernel
theorem d58_59 : decode (pB 58) 59 = .ok (.iload_n 2, 1) := by decide +kernel
theorem d58_60 : decode (pB 58) 60 = .ok (.invokevirtual 139, 3) := by decide +kernel
theorem d58_63 : decode (pB 58) 63 = .ok (.invokestatic 245, 3) := by decide +kernel
theorem d58_66 : decode (pB 58) 66 = .ok (.ireturn, 1) := by decide +kernel
/-- RX4.changePlaces -/
def t58_0 : List (Nat × pO) := [(0, o_aload 0 1), (1, o_getR 4 0 4), (4, o_iload 1 5), (5, o_invV 3 19 1 8), (8, o_ifeq 22 11), (11, o_aload 0 12), (12, o_getR 4 0 15), (15, o_iload 2 16), (16, o_invV 3 19 1 19), (19, o_ifne 24 22), (22, o_push (.int (nM 1)) 23), (23, o_iret), (24, o_iload 1 25), (25, o_iload 2 26), (26, o_icne 32 29), (29, o_push (.int (nM 2)) 31), (31, o_iret), (32, o_aload 0 33), (33, o_getR 4 0 36), (36, o_getI 3 6 39), (39, o_ifle 45 42), (42, o_push (.int (nM 5)) 44), (44, o_iret), (45, o_aload 0 46), (46, o_getR 4 0 49), (49, o_iload 1 50), (50, o_iload 2 51), (51, o_invV 3 26 2 54), (54, o_aload 0 55), (55, o_getR 4 0 58), (58, o_iload 1 59), (59, o_iload 2 60), (60, o_invV 3 24 2 63), (63, o_invS 72 1 66), (66, o_iret)]
theorem ok58_0 : ∀ q ∈ t58_0, p_Z 58 q := List.forall_mem_cons.mpr ⟨⟨s_aload_n d58_0 rfl, tl_aload _ _⟩, List.forall_mem_cons.mpr ⟨⟨f_getR_4_0 d58_1 wd_161, tl_getR _ _ _⟩, List.forall_mem_cons.mpr ⟨⟨s_iload_n d58_4 rfl, tl_iload _ _⟩, List.forall_mem_cons.mpr ⟨⟨q_invV_19 d58_5 wd_342, tl_invV _ _ _ _⟩, List.forall_mem_cons.mpr ⟨⟨s_ifeq d58_8 rfl, tl_ifeq _ _⟩, List.forall_mem_cons.mpr ⟨⟨s_aload_n d58_11 rfl, tl_aload _ _⟩, List.forall_mem_cons.mpr ⟨⟨f_getR_4_0 d58_12 wd_161, tl_getR _ _ _⟩, List.forall_mem_cons.mpr ⟨⟨s_iload_n d58_15 rfl, tl_iload _ _⟩, List.forall_mem_cons.mpr ⟨⟨q_invV_19 d58_16 wd_342, tl_invV _ _ _ _⟩, List.forall_mem_cons.mpr ⟨⟨s_ifne d58_19 rfl, tl_ifne _ _⟩, List.forall_mem_cons.mpr ⟨⟨s_iconst d58_22 rfl, tl_push _ _⟩, List.forall_mem_cons.mpr ⟨⟨s_iret d58_23 rfl, tl_iret⟩, List.forall_mem_cons.mpr ⟨⟨s_iload_n d58_24 rfl, tl_iload _ _⟩, List.forall_mem_cons.mpr ⟨⟨s_iload_n d58_25 rfl, tl_iload _ _⟩, List.forall_mem_cons.mpr ⟨⟨s_icne d58_26 rfl, tl_icne _ _⟩, List.forall_mem_cons.mpr ⟨⟨s_bipush d58_29 rfl, tl_push _ _⟩, List.forall_mem_cons.mpr ⟨⟨s_iret d58_31 rfl, tl_iret⟩, List.forall_mem_cons.mpr ⟨⟨s_aload_n d58_32 rfl, tl_aload _ _⟩, List.forall_mem_cons.mpr ⟨⟨f_getR_4_0 d58_33 wd_161, tl_getR _ _ _⟩, List.forall_mem_cons.mpr ⟨⟨f_getI_3_6 d58_36 wd_54, tl_getI _ _ _⟩, List.forall_mem_cons.mpr ⟨⟨s_ifle d58_39 rfl, tl_ifle _ _⟩, List.forall_mem_cons.mpr ⟨⟨s_bipush d58_42 rfl, tl_push _ _⟩, List.forall_mem_cons.mpr ⟨⟨s_iret d58_44 rfl, tl_iret⟩, List.forall_mem_cons.mpr ⟨⟨s_aload_n d58_45 rfl, tl_aload _ _⟩, List.forall_mem_cons.mpr ⟨⟨f_getR_4_0 d58_46 wd_161, tl_getR _ _ _⟩, List.forall_mem_cons.mpr ⟨⟨s_iload_n d58_49 rfl, tl_iload _ _⟩, List.forall_mem_cons.mpr ⟨⟨s_iload_n d58_50 rfl, tl_iload _ _⟩, List.forall_mem_cons.mpr ⟨⟨q_invV_26 d58_51 wd_395, tl_invV _ _ _ _⟩, List.forall_mem_cons.mpr ⟨⟨s_aload_n d58_54 rfl, tl_aload _ _⟩, List.forall_mem_cons.mpr ⟨⟨f_getR_4_0 d58_55 wd_161, tl_getR _ _ _⟩, List.forall_mem_cons.mpr ⟨⟨s_iload_n d58_58 rfl, tl_iload _ _⟩, List.forall_mem_cons.mpr ⟨⟨s_iload_n d58_59 rfl, tl_iload _ _⟩, List.forall_mem_cons.mpr ⟨⟨q_invV_24 d58_60 wd_332, tl_invV _ _ _ _⟩, List.forall_mem_cons.mpr ⟨⟨q_invS_72 d58_63 wd_399, tl_invS _ _ _⟩, List.forall_mem_cons.mpr ⟨⟨s_iret d58_66 rfl, tl_iret⟩, fun _ h => absurd h List.not_mem_nil⟩⟩⟩⟩⟩⟩⟩⟩⟩⟩⟩⟩⟩⟩⟩⟩⟩⟩⟩⟩⟩⟩⟩⟩⟩⟩⟩⟩⟩⟩⟩⟩⟩⟩⟩
def t58 : List (Nat × pO) := t58_0
theorem ok58 : ∀ q ∈ t58, p_Z 58 q := ok58_0
theorem d59_0 : decode (pB 59) 0 = .ok (.aload_n 0, 1) := by decide +kernel
theorem d59_1 : decode (pB 59) 1 = .ok (.getfield 10, 3) := by decide +kernel
theorem d59_4 : decode (pB 59) 4 = .ok (.iload_n 1, 1) := by decide +kernel
theorem d59_5 : decode (pB 59) 5 = .ok (.invokevirtual 122, 3) := by decide +kernel
theorem d59_8 : decode (pB 59) 8 = .ok (.ifCond .eq 14, 3) := by decide +kernel
theorem d59_11 : decode (pB 59) 11 = .ok (.aload_n 0, 1) := by decide +kernel
theorem d59_12 : decode (pB 59) 12 = .ok (.getfield 10, 3) := by decide +kernel
theorem d59_15 : decode (pB 59) 15 = .ok (.iload_n 2, 1) := by decide +kernel
theorem d59_16 : decode (pB 59) 16 = .ok (.invokevirtual 122, 3) := by decide +kernel
theorem d59_19 : decode (pB 59) 19 = .ok (.ifCond .ne 5, 3) := by decide +kernel
theorem d59_22 : decode (pB 59) 22 = .ok (.iconst (-1), 1) := by decide +kernel
theorem d59_23 : decode (pB 59) 23 = .ok (.ireturn, 1) := by decide +kernel
theorem d59_24 : decode (pB 59) 24 = .ok (.iload_n 1, 1) := by decide +kernel
theorem d59_25 : decode (pB 59) 25 = .ok (.iload_n 2, 1) := by decide +kernel
theorem d59_26 : decode (pB 59) 26 = .ok (.if_icmp .eq 13, 3) := by decide +kernel
theorem d59_29 : decode (pB 59) 29 = .ok (.iload_n 3, 1) := by decide +kernel
theorem d59_30 : decode (pB 59) 30 = .ok (.iconst (-1), 1) := by decide +kernel
theorem d59_31 : decode (pB 59) 31 = .ok (.if_icmp .lt 8, 3) := by decide +kernel
theorem d59_34 : decode (pB 59) 34 = .ok (.iload_n 3, 1) := by decide +kernel
theorem d59_35 : decode (pB 59) 35 = .ok (.iconst 1, 1) := by decide +kernel
theorem d59_36 : decode (pB 59) 36 = .ok (.if_icmp .le 6, 3) := by decide +kernel
theorem d59_39 : decode (pB 59) 39 = .ok (.bipush (-2), 2) := by decide +kernel
theorem d59_41 : decode (pB 59) 41 = .ok (.ireturn, 1) := by decide +kernel
theorem d59_42 : decode (pB 59) 42 = .ok (.aload_n 0, 1) := by decide +kernel
theorem d59_43 : decode (pB 59) 43 = .ok (.getfield 10, 3) := by decide +kernel
theorem d59_46 : decode (pB 59) 46 = .ok (.iload_n 1, 1) := by decide +kernel
theorem d59_47 : decode (pB 59) 47 = .ok (.iload_n 2, 1) := by decide +kernel
theorem d59_48 : decode (pB 59) 48 = .ok (.invokevirtual 250, 3) := by decide +kernel
theorem d59_51 : decode (pB 59) 51 = .ok (.istore 4, 2) := by decide +kernel
theorem d59_53 : decode (pB 59) 53 = .ok (.aload_n 0, 1) := by decide +kernel
theorem d59_54 : decode (pB 59) 54 = .ok (.getfield 10, 3) := by decide +kernel
theorem d59_57 : decode (pB 59) 57 = .ok (.iload_n 1, 1) := by decide +kernel
theorem d59_58 : decode (pB 59) 58 = .ok (.iload_n 2, 1) := by decide +kernel
theorem d59_59 : decode (pB 59) 59 = .ok (.iload_n 3, 1) := by decide +kernel
theorem d59_60 : decode (pB 59) 60 = .ok (.invokevirtual 253, 3) := by decide +kernel
theorem d59_63 : decode (pB 59) 63 = .ok (.aload_n 0, 1) := by decide +kernel
theorem d59_64 : decode (pB 59) 64 = .ok (.getfield 10, 3) := by decide +kernel
theorem d59_67 : decode (pB 59) 67 = .ok (.iload_n 2, 1) := by decide +kernel
theorem d59_68 : decode (pB 59) 68 = .ok (.iload_n 1, 1) := by decide +kernel
theorem d59_69 : decode (pB 59) 69 = .ok (.iload_n 3, 1) := by decide +kernel
theorem d59_70 : decode (pB 59) 70 = .ok (.invokevirtual 253, 3) := by decide +kernel
theorem d59_73 : decode (pB 59) 73 = .ok (.iload 4, 2) := by decide +kernel
theorem d59_75 : decode (pB 59) 75 = .ok (.iconst 1, 1) := by decide +kernel
theorem d59_76 : decode (pB 59) 76 = .ok (.iadd, 1) := by decide +kernel
theorem d59_77 : decode (pB 59) 77 = .ok (.ireturn, 1) := by decide +kernel
theorem st1_59_4 : p_st1 59 4 = true := by decide +kernel
/-- RX4.tellHow -/
def t59_0 : List (Nat × pO) := [(0, o_aload 0 1), (1, o_getR 4 0 4), (4, o_iload 1 5), (5, o_invV 3 18 1 8), (8, o_ifeq 22 11), (11, o_aload 0 12), (12, o_getR 4 0 15), (15, o_iload 2 16), (16, o_invV 3 18 1 19), (19, o_ifne 24 22), (22, o_push (.int (nM 1)) 23), (23, o_iret), (24, o_iload 1 25), (25, o_iload 2 26), (26, o_iceq 39 29), (29, o_iload 3 30), (30, o_push (.int (nM 1)) 31), (31, o_iclt 39 34), (34, o_iload 3 35), (35, o_push (.int (nI 1)) 36), (36, o_icle 42 39), (39, o_push (.int (nM 2)) 41), (41, o_iret), (42, o_aload 0 43), (43, o_getR 4 0 46), (46, o_iload 1 47), (47, o_iload 2 48), (48, o_invV 3 27 2 51), (51, o_istore 4 53), (53, o_aload 0 54), (54, o_getR 4 0 57), (57, o_iload 1 58), (58, o_iload 2 59), (59, o_iload 3 60), (60, o_invV 3 28 3 63), (63, o_aload 0 64), (64, o_getR 4 0 67), (67, o_iload 2 68), (68, o_iload 1 69), (69, o_iload 3 70)]
theorem ok59_0 : ∀ q ∈ t59_0, p_Z 59 q := List.forall_mem_cons.mpr ⟨⟨s_aload_n d59_0 rfl, tl_aload _ _⟩, List.forall_mem_cons.mpr ⟨⟨f_getR_4_0 d59_1 wd_161, tl_getR _ _ _⟩, List.forall_mem_cons.mpr ⟨⟨s_iload_n d59_4 rfl, tl_iload _ _⟩, List.forall_mem_cons.mpr ⟨⟨q_invV_18 d59_5 wd_323, tl_invV _ _ _ _⟩, List.forall_mem_cons.mpr ⟨⟨s_ifeq d59_8 rfl, tl_ifeq _ _⟩, List.forall_mem_cons.mpr ⟨⟨s_aload_n d59_11 rfl, tl_aload _ _⟩, List.forall_mem_cons.mpr ⟨⟨f_getR_4_0 d59_12 wd_161, tl_getR _ _ _⟩, List.forall_mem_cons.mpr ⟨⟨s_iload_n d59_15 rfl, tl_iload _ _⟩, List.forall_mem_cons.mpr ⟨⟨q_invV_18 d59_16 wd_323, tl_invV _ _ _ _⟩, List.forall_mem_cons.mpr ⟨⟨s_ifne d59_19 rfl, tl_ifne _ _⟩, List.forall_mem_cons.mpr ⟨⟨s_iconst d59_22 rfl, tl_push _ _⟩, List.forall_mem_cons.mpr ⟨⟨s_iret d59_23 rfl, tl_iret⟩, List.forall_mem_cons.mpr ⟨⟨s_iload_n d59_24 rfl, tl_iload _ _⟩, List.forall_mem_cons.mpr ⟨⟨s_iload_n d59_25 rfl, tl_iload _ _⟩, List.forall_mem_cons.mpr ⟨⟨s_iceq d59_26 rfl, tl_iceq _ _⟩, List.forall_mem_cons.mpr ⟨⟨s_iload_n d59_29 rfl, tl_iload _ _⟩, List.forall_mem_cons.mpr ⟨⟨s_iconst d59_30 rfl, tl_push _ _⟩, List.forall_mem_cons.mpr ⟨⟨s_iclt d59_31 rfl, tl_iclt _ _⟩, List.forall_mem_cons.mpr ⟨⟨s_iload_n d59_34 rfl, tl_iload _ _⟩, List.forall_mem_cons.mpr ⟨⟨s_iconst d59_35 rfl, tl_push _ _⟩, List.forall_mem_cons.mpr ⟨⟨s_icle d59_36 rfl, tl_icle _ _⟩, List.forall_mem_cons.mpr ⟨⟨s_bipush d59_39 rfl, tl_push _ _⟩, List.forall_mem_cons.mpr ⟨⟨s_iret d59_41 rfl, tl_iret⟩, List.forall_mem_cons.mpr ⟨⟨s_aload_n d59_42 rfl, tl_aload _ _⟩, List.forall_mem_cons.mpr ⟨⟨f_getR_4_0 d59_43 wd_161, tl_getR _ _ _⟩, List.forall_mem_cons.mpr ⟨⟨s_iload_n d59_46 rfl, tl_iload _ _⟩, List.forall_mem_cons.mpr ⟨⟨s_iload_n d59_47 rfl, tl_iload _ _⟩, List.forall_mem_cons.mpr ⟨⟨q_invV_27 d59_48 wd_413, tl_invV _ _ _ _⟩, List.forall_mem_cons.mpr ⟨⟨s_istore d59_51 st1_59_4, tl_istore _ _⟩, List.forall_mem_cons.mpr ⟨⟨s_aload_n d59_53 rfl, tl_aload _ _⟩, List.forall_mem_cons.mpr ⟨⟨f_getR_4_0 d59_54 wd_161, tl_getR _ _ _⟩, List.forall_mem_cons.mpr ⟨⟨s_iload_n d59_57 rfl, tl_iload _ _⟩, List.forall_mem_cons.mpr ⟨⟨s_iload_n d59_58 rfl, tl_iload _ _⟩, List.forall_mem_cons.mpr ⟨⟨s_iload_n d59_59 rfl, tl_iload _ _⟩, List.forall_mem_cons.mpr ⟨⟨q_invV_28 d59_60 wd_414, tl_invV _ _ _ _⟩, List.forall_mem_cons.mpr ⟨⟨s_aload_n d59_63 rfl, tl_aload _ _⟩, List.forall_mem_cons.mpr ⟨⟨f_getR_4_0 d59_64 wd_161, tl_getR _ _ _⟩, List.forall_mem_cons.mpr ⟨⟨s_iload_n d59_67 rfl, tl_iload _ _⟩, List.forall_mem_cons.mpr ⟨⟨s_iload_n d59_68 rfl, tl_iload _ _⟩, List.forall_mem_cons.mpr ⟨⟨s_iload_n d59_69 rfl, tl_iload _ _⟩, fun _ h => absurd h List.not_mem_nil⟩⟩⟩⟩⟩⟩⟩⟩⟩⟩⟩⟩⟩⟩⟩⟩⟩⟩⟩⟩⟩⟩⟩⟩⟩⟩⟩⟩⟩⟩⟩⟩⟩⟩⟩⟩⟩⟩⟩⟩
/-- RX4.tellHow -/
def t59_1 : List (Nat × pO) := [(70, o_invV 3 28 3 73), (73, o_iload 4 75), (75, o_push (.int (nI 1)) 76), (76, o_iadd 77), (77, o_iret)]
theorem ok59_1 : ∀ q ∈ t59_1, p_Z 59 q := List.forall_mem_cons.mpr ⟨⟨q_invV_28 d59_70 wd_414, tl_invV _ _ _ _⟩, List.forall_mem_cons.mpr ⟨⟨s_iload d59_73, tl_iload _ _⟩, List.forall_mem_cons.mpr ⟨⟨s_iconst d59_75 rfl, tl_push _ _⟩, List.forall_mem_cons.mpr ⟨⟨s_iadd d59_76, tl_iadd _⟩, List.forall_mem_cons.mpr ⟨⟨s_iret d59_77 rfl, tl_iret⟩, fun _ h => absurd h List.not_mem_nil⟩⟩⟩⟩⟩
def t59 : List (Nat × pO) := t59_0 ++ (t59_1)
theorem ok59 : ∀ q ∈ t59, p_Z 59 q := List.forall_mem_append.mpr ⟨ok59_0, ok59_1⟩
theorem d60_0 : decode (pB 60) 0 = .ok (.aload_n 0, 1) := by decide +kernel
theorem d60_1 : decode (pB 60) 1 = .ok (.iload_n 1, 1) := by decide +kernel
theorem d60_2 : decode (pB 60) 2 = .ok (.invokevirtual 188, 3) := by decide +kernel
theorem d60_5 : decode (pB 60) 5 = .ok (.ifCond .ne 6, 3) := by decide +kernel
theorem d60_8 : decode (pB 60) 8 = .ok (.bipush (-2), 2) := by decide +kernel
theorem d60_10 : decode (pB 60) 10 = .ok (.ireturn, 1) := by decide +kernel
theorem d60_11 : decode (pB 60) 11 = .ok (.aload_n 0, 1) := by decide +kernel
theorem d60_12 : decode (pB 60) 12 = .ok (.getfield 10, 3) := by decide +kernel
theorem d60_15 : decode (pB 60) 15 = .ok (.getfield 172, 3) := by decide +kernel
theorem d60_18 : decode (pB 60) 18 = .ok (.iconst 5, 1) := by decide +kernel
theorem d60_19 : decode (pB 60) 19 = .ok (.if_icmp .lt 6, 3) := by decide +kernel
theorem d60_22 : decode (pB 60) 22 = .ok (.bipush (-4), 2) := by decide +kernel
theorem d60_24 : decode (pB 60) 24 = .ok (.ireturn, 1) := by decide +kernel
theorem d60_25 : decode (pB 60) 25 = .ok (.aload_n 0, 1) := by decide +kernel
theorem d60_26 : decode (pB 60) 26 = .ok (.iload_n 1, 1) := by decide +kernel
theorem d60_27 : decode (pB 60) 27 = .ok (.invokevirtual 191, 3) := by decide +kernel
theorem d60_30 : decode (pB 60) 30 = .ok (.astore_n 2, 1) := by decide +kernel
theorem d60_31 : decode (pB 60) 31 = .ok (.aload_n 0, 1) := by decide +kernel
theorem d60_32 : decode (pB 60) 32 = .ok (.getfield 10, 3) := by decide +kernel
theorem d60_35 : decode (pB 60) 35 = .ok (.iconst (-1), 1) := by decide +kernel
theorem d60_36 : decode (pB 60) 36 = .ok (.aload_n 2, 1) := by decide +kernel
theorem d60_37 : decode (pB 60) 37 = .ok (.invokevirtual 175, 3) := by decide +kernel
theorem d60_40 : decode (pB 60) 40 = .ok (.ifCond .le 6, 3) := by decide +kernel
theorem d60_43 : decode (pB 60) 43 = .ok (.bipush (-5), 2) := by decide +kernel
theorem d60_45 : decode (pB 60) 45 = .ok (.ireturn, 1) := by decide +kernel
theorem d60_46 : decode (pB 60) 46 = .ok (.aload_n 0, 1) := by decide +kernel
theorem d60_47 : decode (pB 60) 47 = .ok (.getfield 10, 3) := by decide +kernel
theorem d60_50 : decode (pB 60) 50 = .ok (.iload_n 1, 1) := by decide +kernel
theorem d60_51 : decode (pB 60) 51 = .ok (.invokevirtual 257, 3) := by decide +kernel
theorem d60_54 : decode (pB 60) 54 = .ok (.aload_n 2, 1) := by decide +kernel
theorem d60_55 : decode (pB 60) 55 = .ok (.getfield 104, 3) := by decide +kernel
theorem d60_58 : decode (pB 60) 58 = .ok (.ireturn, 1) := by decide +kernel
theorem st1_60_2 : p_st1 60 2 = true := by decide +kernel
/-- RX4.foldGently -/
def t60_0 : List (Nat × pO) := [(0, o_aload 0 1), (1, o_iload 1 2), (2, o_invV 4 64 1 5), (5, o_ifne 11 8), (8, o_push (.int (nM 2)) 10), (10, o_iret), (11, o_aload 0 12), (12, o_getR 4 0 15), (15, o_getI 3 6 18), (18, o_push (.int (nI 5)) 19), (19, o_iclt 25 22), (22, o_push (.int (nM 4)) 24), (24, o_iret), (25, o_aload 0 26), (26, o_iload 1 27), (27, o_invV 4 65 1 30), (30, o_astore 2 31), (31, o_aload 0 32), (32, o_getR 4 0 35), (35, o_push (.int (nM 1)) 36), (36, o_aload 2 37), (37, o_invV 3 30 2 40), (40, o_ifle 46 43), (43, o_push (.int (nM 5)) 45), (45, o_iret), (46, o_aload 0 47), (47, o_getR 4 0 50), (50, o_iload 1 51), (51, o_invV 3 34 1 54), (54, o_aload 2 55), (55, o_getI 0 0 58), (58, o_iret)]
theorem ok60_0 : ∀ q ∈ t60_0, p_Z 60 q := List.forall_mem_cons.mpr ⟨⟨s_aload_n d60_0 rfl, tl_aload _ _⟩, List.forall_mem_cons.mpr ⟨⟨s_iload_n d60_1 rfl, tl_iload _ _⟩, List.forall_mem_cons.mpr ⟨⟨q_invV_64 d60_2 wd_434, tl_invV _ _ _ _⟩, List.forall_mem_cons.mpr ⟨⟨s_ifne d60_5 rfl, tl_ifne _ _⟩, List.forall_mem_cons.mpr ⟨⟨s_bipush d60_8 rfl, tl_push _ _⟩, List.forall_mem_cons.mpr ⟨⟨s_iret d60_10 rfl, tl_iret⟩, List.forall_mem_cons.mpr ⟨⟨s_aload_n d60_11 rfl, tl_aload _ _⟩, List.forall_mem_cons.mpr ⟨⟨f_getR_4_0 d60_12 wd_161, tl_getR _ _ _⟩, List.forall_mem_cons.mpr ⟨⟨f_getI_3_6 d60_15 wd_54, tl_getI _ _ _⟩, List.forall_mem_cons.mpr ⟨⟨s_iconst d60_18 rfl, tl_push _ _⟩, List.forall_mem_cons.mpr ⟨⟨s_iclt d60_19 rfl, tl_iclt _ _⟩, List.forall_mem_cons.mpr ⟨⟨s_bipush d60_22 rfl, tl_push _ _⟩, List.forall_mem_cons.mpr ⟨⟨s_iret d60_24 rfl, tl_iret⟩, List.forall_mem_cons.mpr ⟨⟨s_aload_n d60_25 rfl, tl_aload _ _⟩, List.forall_mem_cons.mpr ⟨⟨s_iload_n d60_26 rfl, tl_iload _ _⟩, List.forall_mem_cons.mpr ⟨⟨q_invV_65 d60_27 wd_438, tl_invV _ _ _ _⟩, List.forall_mem_cons.mpr ⟨⟨s_astore_n d60_30 rfl st1_60_2, tl_astore _ _⟩, List.forall_mem_cons.mpr ⟨⟨s_aload_n d60_31 rfl, tl_aload _ _⟩, List.forall_mem_cons.mpr ⟨⟨f_getR_4_0 d60_32 wd_161, tl_getR _ _ _⟩, List.forall_mem_cons.mpr ⟨⟨s_iconst d60_35 rfl, tl_push _ _⟩, List.forall_mem_cons.mpr ⟨⟨s_aload_n d60_36 rfl, tl_aload _ _⟩, List.forall_mem_cons.mpr ⟨⟨q_invV_30 d60_37 wd_210, tl_invV _ _ _ _⟩, List.forall_mem_cons.mpr ⟨⟨s_ifle d60_40 rfl, tl_ifle _ _⟩, List.forall_mem_cons.mpr ⟨⟨s_bipush d60_43 rfl, tl_push _ _⟩, List.forall_mem_cons.mpr ⟨⟨s_iret d60_45 rfl, tl_iret⟩, List.forall_mem_cons.mpr ⟨⟨s_aload_n d60_46 rfl, tl_aload _ _⟩, List.forall_mem_cons.mpr ⟨⟨f_getR_4_0 d60_47 wd_161, tl_getR _ _ _⟩, List.forall_mem_cons.mpr ⟨⟨s_iload_n d60_50 rfl, tl_iload _ _⟩, List.forall_mem_cons.mpr ⟨⟨q_invV_34 d60_51 wd_442, tl_invV _ _ _ _⟩, List.forall_mem_cons.mpr ⟨⟨s_aload_n d60_54 rfl, tl_aload _ _⟩, List.forall_mem_cons.mpr ⟨⟨f_getI_0_0 d60_55 wd_121, tl_getI _ _ _⟩, List.forall_mem_cons.mpr ⟨⟨s_iret d60_58 rfl, tl_iret⟩, fun _ h => absurd h List.not_mem_nil⟩⟩⟩⟩⟩⟩⟩⟩⟩⟩⟩⟩⟩⟩⟩⟩⟩⟩⟩⟩⟩⟩⟩⟩⟩⟩⟩⟩⟩⟩⟩⟩
def t60 : List (Nat × pO) := t60_0
theorem ok60 : ∀ q ∈ t60, p_Z 60 q := ok60_0
theorem d61_0 : decode (pB 61) 0 = .ok (.aload_n 0, 1) := by decide +kernel
theorem d61_1 : decode (pB 61) 1 = .ok (.iload_n 1, 1) := by decide +kernel
theorem d61_2 : decode (pB 61) 2 = .ok (.invokevirtual 188, 3) := by decide +kernel
theorem d61_5 : decode (pB 61) 5 = .ok (.ifCond .ne 6, 3) := by decide +kernel
theorem d61_8 : decode (pB 61) 8 = .ok (.bipush (-2), 2) := by decide +kernel
theorem d61_10 : decode (pB 61) 10 = .ok (.ireturn, 1) := by decide +kernel
theorem d61_11 : decode (pB 61) 11 = .ok (.aload_n 0, 1) := by decide +kernel
theorem d61_12 : decode (pB 61) 12 = .ok (.getfield 10, 3) := by decide +kernel
theorem d61_15 : decode (pB 61) 15 = .ok (.getfield 172, 3) := by decide +kernel
theorem d61_18 : decode (pB 61) 18 = .ok (.iconst 5, 1) := by decide +kernel
theorem d61_19 : decode (pB 61) 19 = .ok (.if_icmp .lt 6, 3) := by decide +kernel
theorem d61_22 : decode (pB 61) 22 = .ok (.bipush (-4), 2) := by decide +kernel
theorem d61_24 : decode (pB 61) 24 = .ok (.ireturn, 1) := by decide +kernel
theorem d61_25 : decode (pB 61) 25 = .ok (.aload_n 0, 1) := by decide +kernel
theorem d61_26 : decode (pB 61) 26 = .ok (.iload_n 1, 1) := by decide +kernel
theorem d61_27 : decode (pB 61) 27 = .ok (.invokevirtual 191, 3) := by decide +kernel
theorem d61_30 : decode (pB 61) 30 = .ok (.astore_n 2, 1) := by decide +kernel
theorem d61_31 : decode (pB 61) 31 = .ok (.aload_n 0, 1) := by decide +kernel
theorem d61_32 : decode (pB 61) 32 = .ok (.getfield 10, 3) := by decide +kernel
theorem d61_35 : decode (pB 61) 35 = .ok (.iload_n 1, 1) := by decide +kernel
theorem d61_36 : decode (pB 61) 36 = .ok (.invokevirtual 257, 3) := by decide +kernel
theorem d61_39 : decode (pB 61) 39 = .ok (.aload_n 0, 1) := by decide +kernel
theorem d61_40 : decode (pB 61) 40 = .ok (.getfield 10, 3) := by decide +kernel
theorem d61_43 : decode (pB 61) 43 = .ok (.iconst (-1), 1) := by decide +kernel
theorem d61_44 : decode (pB 61) 44 = .ok (.aload_n 2, 1) := by decide +kernel
theorem d61_45 : decode (pB 61) 45 = .ok (.invokevirtual 175, 3) := by decide +kernel
theorem d61_48 : decode (pB 61) 48 = .ok (.ireturn, 1) := by decide +kernel
theorem st1_61_2 : p_st1 61 2 = true := by decide +kernel
/-- RX4.foldByForce -/
def t61_0 : List (Nat × pO) := [(0, o_aload 0 1), (1, o_iload 1 2), (2, o_invV 4 64 1 5), (5, o_ifne 11 8), (8, o_push (.int (nM 2)) 10), (10, o_iret), (11, o_aload 0 12), (12, o_getR 4 0 15), (15, o_getI 3 6 18), (18, o_push (.int (nI 5)) 19), (19, o_iclt 25 22), (22, o_push (.int (nM 4)) 24), (24, o_iret), (25, o_aload 0 26), (26, o_iload 1 27), (27, o_invV 4 65 1 30), (30, o_astore 2 31), (31, o_aload 0 32), (32, o_getR 4 0 35), (35, o_iload 1 36), (36, o_invV 3 34 1 39), (39, o_aload 0 40), (40, o_getR 4 0 43), (43, o_push (.int (nM 1)) 44), (44, o_aload 2 45), (45, o_invV 3 30 2 48), (48, o_iret)]
theorem ok61_0 : ∀ q ∈ t61_0, p_Z 61 q := List.forall_mem_cons.mpr ⟨⟨s_aload_n d61_0 rfl, tl_aload _ _⟩, List.forall_mem_cons.mpr ⟨⟨s_iload_n d61_1 rfl, tl_iload _ _⟩, List.forall_mem_cons.mpr ⟨⟨q_invV_64 d61_2 wd_434, tl_invV _ _ _ _⟩, List.forall_mem_cons.mpr ⟨⟨s_ifne d61_5 rfl, tl_ifne _ _⟩, List.forall_mem_cons.mpr ⟨⟨s_bipush d61_8 rfl, tl_push _ _⟩, List.forall_mem_cons.mpr ⟨⟨s_iret d61_10 rfl, tl_iret⟩, List.forall_mem_cons.mpr ⟨⟨s_aload_n d61_11 rfl, tl_aload _ _⟩, List.forall_mem_cons.mpr ⟨⟨f_getR_4_0 d61_12 wd_161, tl_getR _ _ _⟩, List.forall_mem_cons.mpr ⟨⟨f_getI_3_6 d61_15 wd_54, tl_getI _ _ _⟩, List.forall_mem_cons.mpr ⟨⟨s_iconst d61_18 rfl, tl_push _ _⟩, List.forall_mem_cons.mpr ⟨⟨s_iclt d61_19 rfl, tl_iclt _ _⟩, List.forall_mem_cons.mpr ⟨⟨s_bipush d61_22 rfl, tl_push _ _⟩, List.forall_mem_cons.mpr ⟨⟨s_iret d61_24 rfl, tl_iret⟩, List.forall_mem_cons.mpr ⟨⟨s_aload_n d61_25 rfl, tl_aload _ _⟩, List.forall_mem_cons.mpr ⟨⟨s_iload_n d61_26 rfl, tl_iload _ _⟩, List.forall_mem_cons.mpr ⟨⟨q_invV_65 d61_27 wd_438, tl_invV _ _ _ _⟩, List.forall_mem_cons.mpr ⟨⟨s_astore_n d61_30 rfl st1_61_2, tl_astore _ _⟩, List.forall_mem_cons.mpr ⟨⟨s_aload_n d61_31 rfl, tl_aload _ _⟩, List.forall_mem_cons.mpr ⟨⟨f_getR_4_0 d61_32 wd_161, tl_getR _ _ _⟩, List.forall_mem_cons.mpr ⟨⟨s_iload_n d61_35 rfl, tl_iload _ _⟩, List.forall_mem_cons.mpr ⟨⟨q_invV_34 d61_36 wd_442, tl_invV _ _ _ _⟩, List.forall_mem_cons.mpr ⟨⟨s_aload_n d61_39 rfl, tl_aload _ _⟩, List.forall_mem_cons.mpr ⟨⟨f_getR_4_0 d61_40 wd_161, tl_getR _ _ _⟩, List.forall_mem_cons.mpr ⟨⟨s_iconst d61_43 rfl, tl_push _ _⟩, List.forall_mem_cons.mpr ⟨⟨s_aload_n d61_44 rfl, tl_aload _ _⟩, List.forall_mem_cons.mpr ⟨⟨q_invV_30 d61_45 wd_210, tl_invV _ _ _ _⟩, List.forall_mem_cons.mpr ⟨⟨s_iret d61_48 rfl, tl_iret⟩, fun _ h => absurd h List.not_mem_nil⟩⟩⟩⟩⟩⟩⟩⟩⟩⟩⟩⟩⟩⟩⟩⟩⟩⟩⟩⟩⟩⟩⟩⟩⟩⟩⟩
def t61 : List (Nat × pO) := t61_0
theorem ok61 : ∀ q ∈ t61, p_Z 61 q := ok61_0
theorem d62_0 : decode (pB 62) 0 = .ok (.aload_n 0, 1) := by decide +kernel
theorem d62_1 : decode (pB 62) 1 = .ok (.getfield 10, 3) := by decide +kernel
theorem d62_4 : decode (pB 62) 4 = .ok (.getfield 172, 3) := by decide +kernel
theorem d62_7 : decode (pB 62) 7 = .ok (.ifCond .ne 6, 3) := by decide +kernel
theorem d62_10 : decode (pB 62) 10 = .ok (.bipush (-5), 2) := by decide +kernel
theorem d62_12 : decode (pB 62) 12 = .ok (.ireturn, 1) := by decide +kernel
theorem d62_13 : decode (pB 62) 13 = .ok (.aload_n 0, 1) := by decide +kernel
theorem d62_14 : decode (pB 62) 14 = .ok (.getfield 10, 3) := by decide +kernel
theorem d62_17 : decode (pB 62) 17 = .ok (.dup, 1) := by decide +kernel
theorem d62_18 : decode (pB 62) 18 = .ok (.getfield 172, 3) := by decide +kernel
theorem d62_21 : decode (pB 62) 21 = .ok (.iconst 1, 1) := by decide +kernel
theorem d62_22 : decode (pB 62) 22 = .ok (.isub, 1) := by decide +kernel
theorem d62_23 : decode (pB 62) 23 = .ok (.putfield 172, 3) := by decide +kernel
theorem d62_26 : decode (pB 62) 26 = .ok (.aload_n 0, 1) := by decide +kernel
theorem d62_27 : decode (pB 62) 27 = .ok (.getfield 10, 3) := by decide +kernel
theorem d62_30 : decode (pB 62) 30 = .ok (.getfield 260, 3) := by decide +kernel
theorem d62_33 : decode (pB 62) 33 = .ok (.aload_n 0, 1) := by decide +kernel
theorem d62_34 : decode (pB 62) 34 = .ok (.getfield 10, 3) := by decide +kernel
theorem d62_37 : decode (pB 62) 37 = .ok (.getfield 172, 3) := by decide +kernel
theorem d62_40 : decode (pB 62) 40 = .ok (.iaload, 1) := by decide +kernel
theorem d62_41 : decode (pB 62) 41 = .ok (.ireturn, 1) := by decide +kernel
/-- RX4.takeFoldBack -/
def t62_0 : List (Nat × pO) := [(0, o_aload 0 1), (1, o_getR 4 0 4), (4, o_getI 3 6 7), (7, o_ifne 13 10), (10, o_push (.int (nM 5)) 12), (12, o_iret), (13, o_aload 0 14), (14, o_getR 4 0 17), (17, o_dupr 18), (18, o_getI 3 6 21), (21, o_push (.int (nI 1)) 22), (22, o_isub 23), (23, o_putI 3 6 26), (26, o_aload 0 27), (27, o_getR 4 0 30), (30, o_getR 3 4 33), (33, o_aload 0 34), (34, o_getR 4 0 37), (37, o_getI 3 6 40), (40, o_iald 41), (41, o_iret)]
theorem ok62_0 : ∀ q ∈ t62_0, p_Z 62 q := List.forall_mem_cons.mpr ⟨⟨s_aload_n d62_0 rfl, tl_aload _ _⟩, List.forall_mem_cons.mpr ⟨⟨f_getR_4_0 d62_1 wd_161, tl_getR _ _ _⟩, List.forall_mem_cons.mpr ⟨⟨f_getI_3_6 d62_4 wd_54, tl_getI _ _ _⟩, List.forall_mem_cons.mpr ⟨⟨s_ifne d62_7 rfl, tl_ifne _ _⟩, List.forall_mem_cons.mpr ⟨⟨s_bipush d62_10 rfl, tl_push _ _⟩, List.forall_mem_cons.mpr ⟨⟨s_iret d62_12 rfl, tl_iret⟩, List.forall_mem_cons.mpr ⟨⟨s_aload_n d62_13 rfl, tl_aload _ _⟩, List.forall_mem_cons.mpr ⟨⟨f_getR_4_0 d62_14 wd_161, tl_getR _ _ _⟩, List.forall_mem_cons.mpr ⟨⟨s_dupr d62_17, tl_dupr _⟩, List.forall_mem_cons.mpr ⟨⟨f_getI_3_6 d62_18 wd_54, tl_getI _ _ _⟩, List.forall_mem_cons.mpr ⟨⟨s_iconst d62_21 rfl, tl_push _ _⟩, List.forall_mem_cons.mpr ⟨⟨s_isub d62_22, tl_isub _⟩, List.forall_mem_cons.mpr ⟨⟨f_putI_3_6 d62_23 wd_54, tl_putI _ _ _⟩, List.forall_mem_cons.mpr ⟨⟨s_aload_n d62_26 rfl, tl_aload _ _⟩, List.forall_mem_cons.mpr ⟨⟨f_getR_4_0 d62_27 wd_161, tl_getR _ _ _⟩, List.forall_mem_cons.mpr ⟨⟨f_getR_3_4 d62_30 wd_50, tl_getR _ _ _⟩, List.forall_mem_cons.mpr ⟨⟨s_aload_n d62_33 rfl, tl_aload _ _⟩, List.forall_mem_cons.mpr ⟨⟨f_getR_4_0 d62_34 wd_161, tl_getR _ _ _⟩, List.forall_mem_cons.mpr ⟨⟨f_getI_3_6 d62_37 wd_54, tl_getI _ _ _⟩, List.forall_mem_cons.mpr ⟨⟨s_iald d62_40, tl_iald _⟩, List.forall_mem_cons.mpr ⟨⟨s_iret d62_41 rfl, tl_iret⟩, fun _ h => absurd h List.not_mem_nil⟩⟩⟩⟩⟩⟩⟩⟩⟩⟩⟩⟩⟩⟩⟩⟩⟩⟩⟩⟩⟩
def t62 : List (Nat × pO) := t62_0
theorem ok62 : ∀ q ∈ t62, p_Z 62 q := ok62_0
theorem d63_0 : decode (pB 63) 0 = .ok (.aload_n 0, 1) := by decide +kernel
theorem d63_1 : decode (pB 63) 1 = .ok (.getfield 33, 3) := by decide +kernel
theorem d63_4 : decode (pB 63) 4 = .ok (.aload_n 0, 1) := by decide +kernel
theorem d63_5 : decode (pB 63) 5 = .ok (.getfield 10, 3) := by decide +kernel
theorem d63_8 : decode (pB 63) 8 = .ok (.getfield 172, 3) := by decide +kernel
theorem d63_11 : decode (pB 63) 11 = .ok (.aaload, 1) := by decide +kernel
theorem d63_12 : decode (pB 63) 12 = .ok (.areturn, 1) := by decide +kernel
/-- RX4.lying -/
def t63_0 : List (Nat × pO) := [(0, o_aload 0 1), (1, o_getR 4 5 4), (4, o_aload 0 5), (5, o_getR 4 0 8), (8, o_getI 3 6 11), (11, o_aald 12), (12, o_aret)]
theorem ok63_0 : ∀ q ∈ t63_0, p_Z 63 q := List.forall_mem_cons.mpr ⟨⟨s_aload_n d63_0 rfl, tl_aload _ _⟩, List.forall_mem_cons.mpr ⟨⟨f_getR_4_5 d63_1 wd_166, tl_getR _ _ _⟩, List.forall_mem_cons.mpr ⟨⟨s_aload_n d63_4 rfl, tl_aload _ _⟩, List.forall_mem_cons.mpr ⟨⟨f_getR_4_0 d63_5 wd_161, tl_getR _ _ _⟩, List.forall_mem_cons.mpr ⟨⟨f_getI_3_6 d63_8 wd_54, tl_getI _ _ _⟩, List.forall_mem_cons.mpr ⟨⟨s_aald d63_11, tl_aald _⟩, List.forall_mem_cons.mpr ⟨⟨s_aret d63_12 rfl, tl_aret⟩, fun _ h => absurd h List.not_mem_nil⟩⟩⟩⟩⟩⟩⟩
def t63 : List (Nat × pO) := t63_0
theorem ok63 : ∀ q ∈ t63, p_Z 63 q := ok63_0
theorem d64_0 : decode (pB 64) 0 = .ok (.iload_n 1, 1) := by decide +kernel
theorem d64_1 : decode (pB 64) 1 = .ok (.iconst 1, 1) := by decide +kernel
theorem d64_2 : decode (pB 64) 2 = .ok (.if_icmp .lt 18, 3) := by decide +kernel
theorem d64_5 : decode (pB 64) 5 = .ok (.iload_n 1, 1) := by decide +kernel
theorem d64_6 : decode (pB 64) 6 = .ok (.aload_n 0, 1) := by decide +kernel
theorem d64_7 : decode (pB 64) 7 = .ok (.invokevirtual 95, 3) := by decide +kernel
theorem d64_10 : decode (pB 64) 10 = .ok (.getfield 104, 3) := by decide +kernel
theorem d64_13 : decode (pB 64) 13 = .ok (.if_icmp .ge 7, 3) := by decide +kernel
theorem d64_16 : decode (pB 64) 16 = .ok (.iconst 1, 1) := by decide +kernel
theorem d64_17 : decode (pB 64) 17 = .ok (.goto 4, 3) := by decide +kernel
theorem d64_20 : decode (pB 64) 20 = .ok (.iconst 0, 1) := by decide +kernel
theorem d64_21 : decode (pB 64) 21 = .ok (.ireturn, 1) := by decide +kernel
/-- RX4.isGap -/
def t64_0 : List (Nat × pO) := [(0, o_iload 1 1), (1, o_push (.int (nI 1)) 2), (2, o_iclt 20 5), (5, o_iload 1 6), (6, o_aload 0 7), (7, o_invV 4 63 0 10), (10, o_getI 0 0 13), (13, o_icge 20 16), (16, o_push (.int (nI 1)) 17), (17, o_goto 21), (20, o_push (.int (nI 0)) 21), (21, o_zret)]
theorem ok64_0 : ∀ q ∈ t64_0, p_Z 64 q := List.forall_mem_cons.mpr ⟨⟨s_iload_n d64_0 rfl, tl_iload _ _⟩, List.forall_mem_cons.mpr ⟨⟨s_iconst d64_1 rfl, tl_push _ _⟩, List.forall_mem_cons.mpr ⟨⟨s_iclt d64_2 rfl, tl_iclt _ _⟩, List.forall_mem_cons.mpr ⟨⟨s_iload_n d64_5 rfl, tl_iload _ _⟩, List.forall_mem_cons.mpr ⟨⟨s_aload_n d64_6 rfl, tl_aload _ _⟩, List.forall_mem_cons.mpr ⟨⟨q_invV_63 d64_7 wd_206, tl_invV _ _ _ _⟩, List.forall_mem_cons.mpr ⟨⟨f_getI_0_0 d64_10 wd_121, tl_getI _ _ _⟩, List.forall_mem_cons.mpr ⟨⟨s_icge d64_13 rfl, tl_icge _ _⟩, List.forall_mem_cons.mpr ⟨⟨s_iconst d64_16 rfl, tl_push _ _⟩, List.forall_mem_cons.mpr ⟨⟨s_goto d64_17 rfl, tl_goto _⟩, List.forall_mem_cons.mpr ⟨⟨s_iconst d64_20 rfl, tl_push _ _⟩, List.forall_mem_cons.mpr ⟨⟨s_zret d64_21 rfl, tl_zret⟩, fun _ h => absurd h List.not_mem_nil⟩⟩⟩⟩⟩⟩⟩⟩⟩⟩⟩⟩
def t64 : List (Nat × pO) := t64_0
theorem ok64 : ∀ q ∈ t64, p_Z 64 q := ok64_0
theorem d65_0 : decode (pB 65) 0 = .ok (.aload_n 0, 1) := by decide +kernel
theorem d65_1 : decode (pB 65) 1 = .ok (.getfield 33, 3) := by decide +kernel
theorem d65_4 : decode (pB 65) 4 = .ok (.aload_n 0, 1) := by decide +kernel
theorem d65_5 : decode (pB 65) 5 = .ok (.getfield 10, 3) := by decide +kernel
theorem d65_8 : decode (pB 65) 8 = .ok (.getfield 172, 3) := by decide +kernel
theorem d65_11 : decode (pB 65) 11 = .ok (.iconst 1, 1) := by decide +kernel
theorem d65_12 : decode (pB 65) 12 = .ok (.iadd, 1) := by decide +kernel
theorem d65_13 : decode (pB 65) 13 = .ok (.aaload, 1) := by decide +kernel
theorem d65_14 : decode (pB 65) 14 = .ok (.astore_n 2, 1) := by decide +kernel
theorem d65_15 : decode (pB 65) 15 = .ok (.aload_n 2, 1) := by decide +kernel
theorem d65_16 : decode (pB 65) 16 = .ok (.aload_n 0, 1) := by decide +kernel
theorem d65_17 : decode (pB 65) 17 = .ok (.invokevirtual 95, 3) := by decide +kernel
theorem d65_20 : decode (pB 65) 20 = .ok (.iload_n 1, 1) := by decide +kernel
theorem d65_21 : decode (pB 65) 21 = .ok (.invokevirtual 263, 3) := by decide +kernel
theorem d65_24 : decode (pB 65) 24 = .ok (.aload_n 2, 1) := by decide +kernel
theorem d65_25 : decode (pB 65) 25 = .ok (.areturn, 1) := by decide +kernel
theorem st1_65_2 : p_st1 65 2 = true := by decide +kernel
/-- RX4.tryFold -/
def t65_0 : List (Nat × pO) := [(0, o_aload 0 1), (1, o_getR 4 5 4), (4, o_aload 0 5), (5, o_getR 4 0 8), (8, o_getI 3 6 11), (11, o_push (.int (nI 1)) 12), (12, o_iadd 13), (13, o_aald 14), (14, o_astore 2 15), (15, o_aload 2 16), (16, o_aload 0 17), (17, o_invV 4 63 0 20), (20, o_iload 1 21), (21, o_invV 0 2 2 24), (24, o_aload 2 25), (25, o_aret)]
theorem ok65_0 : ∀ q ∈ t65_0, p_Z 65 q := List.forall_mem_cons.mpr ⟨⟨s_aload_n d65_0 rfl, tl_aload _ _⟩, List.forall_mem_cons.mpr ⟨⟨f_getR_4_5 d65_1 wd_166, tl_getR _ _ _⟩, List.forall_mem_cons.mpr ⟨⟨s_aload_n d65_4 rfl, tl_aload _ _⟩, List.forall_mem_cons.mpr ⟨⟨f_getR_4_0 d65_5 wd_161, tl_getR _ _ _⟩, List.forall_mem_cons.mpr ⟨⟨f_getI_3_6 d65_8 wd_54, tl_getI _ _ _⟩, List.forall_mem_cons.mpr ⟨⟨s_iconst d65_11 rfl, tl_push _ _⟩, List.forall_mem_cons.mpr ⟨⟨s_iadd d65_12, tl_iadd _⟩, List.forall_mem_cons.mpr ⟨⟨s_aald d65_13, tl_aald _⟩, List.forall_mem_cons.mpr ⟨⟨s_astore_n d65_14 rfl st1_65_2, tl_astore _ _⟩, List.forall_mem_cons.mpr ⟨⟨s_aload_n d65_15 rfl, tl_aload _ _⟩, List.forall_mem_cons.mpr ⟨⟨s_aload_n d65_16 rfl, tl_aload _ _⟩, List.forall_mem_cons.mpr ⟨⟨q_invV_63 d65_17 wd_206, tl_invV _ _ _ _⟩, List.forall_mem_cons.mpr ⟨⟨s_iload_n d65_20 rfl, tl_iload _ _⟩, List.forall_mem_cons.mpr ⟨⟨q_invV_2 d65_21 wd_272, tl_invV _ _ _ _⟩, List.forall_mem_cons.mpr ⟨⟨s_aload_n d65_24 rfl, tl_aload _ _⟩, List.forall_mem_cons.mpr ⟨⟨s_aret d65_25 rfl, tl_aret⟩, fun _ h => absurd h List.not_mem_nil⟩⟩⟩⟩⟩⟩⟩⟩⟩⟩⟩⟩⟩⟩⟩⟩
def t65 : List (Nat × pO) := t65_0
theorem ok65 : ∀ q ∈ t65, p_Z 65 q := ok65_0
theorem d66_0 : decode (pB 66) 0 = .ok (.aload_n 0, 1) := by decide +kernel
theorem d66_1 : decode (pB 66) 1 = .ok (.getfield 33, 3) := by decide +kernel
theorem d66_4 : decode (pB 66) 4 = .ok (.iconst 0, 1) := by decide +kernel
theorem d66_5 : decode (pB 66) 5 = .ok (.aaload, 1) := by decide +kernel
theorem d66_6 : decode (pB 66) 6 = .ok (.aload_n 0, 1) := by decide +kernel
theorem d66_7 : decode (pB 66) 7 = .ok (.getfield 10, 3) := by decide +kernel
theorem d66_10 : decode (pB 66) 10 = .ok (.getfield 185, 3) := by decide +kernel
theorem d66_13 : decode (pB 66) 13 = .ok (.iconst 0, 1) := by decide +kernel
theorem d66_14 : decode (pB 66) 14 = .ok (.iaload, 1) := by decide +kernel
theorem d66_15 : decode (pB 66) 15 = .ok (.invokevirtual 54, 3) := by decide +kernel
theorem d66_18 : decode (pB 66) 18 = .ok (.iconst 0, 1) := by decide +kernel
theorem d66_19 : decode (pB 66) 19 = .ok (.istore_n 1, 1) := by decide +kernel
theorem d66_20 : decode (pB 66) 20 = .ok (.iload_n 1, 1) := by decide +kernel
theorem d66_21 : decode (pB 66) 21 = .ok (.aload_n 0, 1) := by decide +kernel
theorem d66_22 : decode (pB 66) 22 = .ok (.getfield 10, 3) := by decide +kernel
theorem d66_25 : decode (pB 66) 25 = .ok (.getfield 172, 3) := by decide +kernel
theorem d66_28 : decode (pB 66) 28 = .ok (.if_icmp .ge 35, 3) := by decide +kernel
theorem d66_31 : decode (pB 66) 31 = .ok (.aload_n 0, 1) := by decide +kernel
theorem d66_32 : decode (pB 66) 32 = .ok (.getfield 33, 3) := by decide +kernel
theorem d66_35 : decode (pB 66) 35 = .ok (.iload_n 1, 1) := by decide +kernel
theorem d66_36 : decode (pB 66) 36 = .ok (.iconst 1, 1) := by decide +kernel
theorem d66_37 : decode (pB 66) 37 = .ok (.iadd, 1) := by decide +kernel
theorem d66_38 : decode (pB 66) 38 = .ok (.aaload, 1) := by decide +kernel
theorem d66_39 : decode (pB 66) 39 = .ok (.aload_n 0, 1) := by decide +kernel
theorem d66_40 : decode (pB 66) 40 = .ok (.getfield 33, 3) := by decide +kernel
theorem d66_43 : decode (pB 66) 43 = .ok (.iload_n 1, 1) := by decide +kernel
theorem d66_44 : decode (pB 66) 44 = .ok (.aaload, 1) := by decide +kernel
theorem d66_45 : decode (pB 66) 45 = .ok (.aload_n 0, 1) := by decide +kernel
theorem d66_46 : decode (pB 66) 46 = .ok (.getfield 10, 3) := by decide +kernel
theorem d66_49 : decode (pB 66) 49 = .ok (.getfield 260, 3) := by decide +kernel
theorem d66_52 : decode (pB 66) 52 = .ok (.iload_n 1, 1) := by decide +kernel
theorem d66_53 : decode (pB 66) 53 = .ok (.iaload, 1) := by decide +kernel
theorem d66_54 : decode (pB 66) 54 = .ok (.invokevirtual 263, 3) := by decide +kernel
theorem d66_57 : decode (pB 66) 57 = .ok (.iinc 1 1, 3) := by decide +kernel
theorem d66_60 : decode (pB 66) 60 = .ok (.goto (-40), 3) := by decide +kernel
theorem d66_63 : decode (pB 66) 63 = .ok (.return_, 1) := by decide +kernel
theorem st1_66_1 : p_st1 66 1 = true := by decide +kernel
/-- RX4.layAgain -/
def t66_0 : List (Nat × pO) := [(0, o_aload 0 1), (1, o_getR 4 5 4), (4, o_push (.int (nI 0)) 5), (5, o_aald 6), (6, o_aload 0 7), (7, o_getR 4 0 10), (10, o_getR 3 0 13), (13, o_push (.int (nI 0)) 14), (14, o_iald 15), (15, o_invV 0 1 1 18), (18, o_push (.int (nI 0)) 19), (19, o_istore 1 20), (20, o_iload 1 21), (21, o_aload 0 22), (22, o_getR 4 0 25), (25, o_getI 3 6 28), (28, o_icge 63 31), (31, o_aload 0 32), (32, o_getR 4 5 35), (35, o_iload 1 36), (36, o_push (.int (nI 1)) 37), (37, o_iadd 38), (38, o_aald 39), (39, o_aload 0 40), (40, o_getR 4 5 43), (43, o_iload 1 44), (44, o_aald 45), (45, o_aload 0 46), (46, o_getR 4 0 49), (49, o_getR 3 4 52), (52, o_iload 1 53), (53, o_iald 54), (54, o_invV 0 2 2 57), (57, o_iinc 1 (nI 1) 60), (60, o_goto 20), (63, o_vret)]
theorem ok66_0 : ∀ q ∈ t66_0, p_Z 66 q := List.forall_mem_cons.mpr ⟨⟨s_aload_n d66_0 rfl, tl_aload _ _⟩, List.forall_mem_cons.mpr ⟨⟨f_getR_4_5 d66_1 wd_166, tl_getR _ _ _⟩, List.forall_mem_cons.mpr ⟨⟨s_iconst d66_4 rfl, tl_push _ _⟩, List.forall_mem_cons.mpr ⟨⟨s_aald d66_5, tl_aald _⟩, List.forall_mem_cons.mpr ⟨⟨s_aload_n d66_6 rfl, tl_aload _ _⟩, List.forall_mem_cons.mpr ⟨⟨f_getR_4_0 d66_7 wd_161, tl_getR _ _ _⟩, List.forall_mem_cons.mpr ⟨⟨f_getR_3_0 d66_10 wd_42, tl_getR _ _ _⟩, List.forall_mem_cons.mpr ⟨⟨s_iconst d66_13 rfl, tl_push _ _⟩, List.forall_mem_cons.mpr ⟨⟨s_iald d66_14, tl_iald _⟩, List.forall_mem_cons.mpr ⟨⟨q_invV_1 d66_15 wd_145, tl_invV _ _ _ _⟩, List.forall_mem_cons.mpr ⟨⟨s_iconst d66_18 rfl, tl_push _ _⟩, List.forall_mem_cons.mpr ⟨⟨s_istore_n d66_19 rfl st1_66_1, tl_istore _ _⟩, List.forall_mem_cons.mpr ⟨⟨s_iload_n d66_20 rfl, tl_iload _ _⟩, List.forall_mem_cons.mpr ⟨⟨s_aload_n d66_21 rfl, tl_aload _ _⟩, List.forall_mem_cons.mpr ⟨⟨f_getR_4_0 d66_22 wd_161, tl_getR _ _ _⟩, List.forall_mem_cons.mpr ⟨⟨f_getI_3_6 d66_25 wd_54, tl_getI _ _ _⟩, List.forall_mem_cons.mpr ⟨⟨s_icge d66_28 rfl, tl_icge _ _⟩, List.forall_mem_cons.mpr ⟨⟨s_aload_n d66_31 rfl, tl_aload _ _⟩, List.forall_mem_cons.mpr ⟨⟨f_getR_4_5 d66_32 wd_166, tl_getR _ _ _⟩, List.forall_mem_cons.mpr ⟨⟨s_iload_n d66_35 rfl, tl_iload _ _⟩, List.forall_mem_cons.mpr ⟨⟨s_iconst d66_36 rfl, tl_push _ _⟩, List.forall_mem_cons.mpr ⟨⟨s_iadd d66_37, tl_iadd _⟩, List.forall_mem_cons.mpr ⟨⟨s_aald d66_38, tl_aald _⟩, List.forall_mem_cons.mpr ⟨⟨s_aload_n d66_39 rfl, tl_aload _ _⟩, List.forall_mem_cons.mpr ⟨⟨f_getR_4_5 d66_40 wd_166, tl_getR _ _ _⟩, List.forall_mem_cons.mpr ⟨⟨s_iload_n d66_43 rfl, tl_iload _ _⟩, List.forall_mem_cons.mpr ⟨⟨s_aald d66_44, tl_aald _⟩, List.forall_mem_cons.mpr ⟨⟨s_aload_n d66_45 rfl, tl_aload _ _⟩, List.forall_mem_cons.mpr ⟨⟨f_getR_4_0 d66_46 wd_161, tl_getR _ _ _⟩, List.forall_mem_cons.mpr ⟨⟨f_getR_3_4 d66_49 wd_50, tl_getR _ _ _⟩, List.forall_mem_cons.mpr ⟨⟨s_iload_n d66_52 rfl, tl_iload _ _⟩, List.forall_mem_cons.mpr ⟨⟨s_iald d66_53, tl_iald _⟩, List.forall_mem_cons.mpr ⟨⟨q_invV_2 d66_54 wd_272, tl_invV _ _ _ _⟩, List.forall_mem_cons.mpr ⟨⟨s_iinc d66_57 rfl st1_66_1, tl_iinc _ _ _⟩, List.forall_mem_cons.mpr ⟨⟨s_goto d66_60 rfl, tl_goto _⟩, List.forall_mem_cons.mpr ⟨⟨s_vret d66_63 rfl, tl_vret⟩, fun _ h => absurd h List.not_mem_nil⟩⟩⟩⟩⟩⟩⟩⟩⟩⟩⟩⟩⟩⟩⟩⟩⟩⟩⟩⟩⟩⟩⟩⟩⟩⟩⟩⟩⟩⟩⟩⟩⟩⟩⟩⟩
def t66 : List (Nat × pO) := t66_0
theorem ok66 : ∀ q ∈ t66, p_Z 66 q := ok66_0
theorem d67_0 : decode (pB 67) 0 = .ok (.aload_n 1, 1) := by decide +kernel
theorem d67_1 : decode (pB 67) 1 = .ok (.iload_n 2, 1) := by decide +kernel
theorem d67_2 : decode (pB 67) 2 = .ok (.aaload, 1) := by decide +kernel
theorem d67_3 : decode (pB 67) 3 = .ok (.astore 4, 2) := by decide +kernel
theorem d67_5 : decode (pB 67) 5 = .ok (.aload 4, 2) := by decide +kernel
theorem d67_7 : decode (pB 67) 7 = .ok (.getfield 104, 3) := by decide +kernel
theorem d67_10 : decode (pB 67) 10 = .ok (.iconst 1, 1) := by decide +kernel
theorem d67_11 : decode (pB 67) 11 = .ok (.if_icmp .ne 5, 3) := by decide +kernel
theorem d67_14 : decode (pB 67) 14 = .ok (.iconst 1, 1) := by decide +kernel
theorem d67_15 : decode (pB 67) 15 = .ok (.ireturn, 1) := by decide +kernel
theorem d67_16 : decode (pB 67) 16 = .ok (.iload_n 2, 1) := by decide +kernel
theorem d67_17 : decode (pB 67) 17 = .ok (.iload_n 3, 1) := by decide +kernel
theorem d67_18 : decode (pB 67) 18 = .ok (.if_icmp .ge 21, 3) := by decide +kernel
theorem d67_21 : decode (pB 67) 21 = .ok (.iload_n 2, 1) := by decide +kernel
theorem d67_22 : decode (pB 67) 22 = .ok (.iconst 5, 1) := by decide +kernel
theorem d67_23 : decode (pB 67) 23 = .ok (.if_icmp .ge 16, 3) := by decide +kernel
theorem d67_26 : decode (pB 67) 26 = .ok (.aload 4, 2) := by decide +kernel
theorem d67_28 : decode (pB 67) 28 = .ok (.getfield 104, 3) := by decide +kernel
theorem d67_31 : decode (pB 67) 31 = .ok (.iconst 1, 1) := by decide +kernel
theorem d67_32 : decode (pB 67) 32 = .ok (.iload_n 3, 1) := by decide +kernel
theorem d67_33 : decode (pB 67) 33 = .ok (.iload_n 2, 1) := by decide +kernel
theorem d67_34 : decode (pB 67) 34 = .ok (.isub, 1) := by decide +kernel
theorem d67_35 : decode (pB 67) 35 = .ok (.ishl, 1) := by decide +kernel
theorem d67_36 : decode (pB 67) 36 = .ok (.if_icmp .le 5, 3) := by decide +kernel
theorem d67_39 : decode (pB 67) 39 = .ok (.iconst 0, 1) := by decide +kernel
theorem d67_40 : decode (pB 67) 40 = .ok (.ireturn, 1) := by decide +kernel
theorem d67_41 : decode (pB 67) 41 = .ok (.iconst 1, 1) := by decide +kernel
theorem d67_42 : decode (pB 67) 42 = .ok (.istore 5, 2) := by decide +kernel
theorem d67_44 : decode (pB 67) 44 = .ok (.iload 5, 2) := by decide +kernel
theorem d67_46 : decode (pB 67) 46 = .ok (.aload 4, 2) := by decide +kernel
theorem d67_48 : decode (pB 67) 48 = .ok (.getfield 104, 3) := by decide +kernel
theorem d67_51 : decode (pB 67) 51 = .ok (.if_icmp .ge 49, 3) := by decide +kernel
theorem d67_54 : decode (pB 67) 54 = .ok (.aload_n 0, 1) := by decide +kernel
theorem d67_55 : decode (pB 67) 55 = .ok (.aload 4, 2) := by decide +kernel
theorem d67_57 : decode (pB 67) 57 = .ok (.iload 5, 2) := by decide +kernel
theorem d67_59 : decode (pB 67) 59 = .ok (.invokevirtual 267, 3) := by decide +kernel
theorem d67_62 : decode (pB 67) 62 = .ok (.ifCond .eq 6, 3) := by decide +kernel
theorem d67_65 : decode (pB 67) 65 = .ok (.goto 29, 3) := by decide +kernel
theorem d67_68 : decode (pB 67) 68 = .ok (.aload_n 1, 1) := by decide +kernel
theorem d67_69 : decode (pB 67) 69 = .ok (.iload_n 2, 1) := by decide +kernel
theorem d67_70 : decode (pB 67) 70 = .ok (.iconst 1, 1) := by decide +kernel
theorem d67_71 : decode (pB 67) 71 = .ok (.iadd, 1) := by decide +kernel
theorem d67_72 : decode (pB 67) 72 = .ok (.aaload, 1) := by decide +kernel
theorem d67_73 : decode (pB 67) 73 = .ok (.aload 4, 2) := by decide +kernel
theorem d67_75 : decode (pB 67) 75 = .ok (.iload 5, 2) := by decide +kernel
theorem d67_77 : decode (pB 67) 77 = .ok (.invokevirtual 263, 3) := by decide +kernel
theorem d67_80 : decode (pB 67) 80 = .ok (.aload_n 0, 1) := by decide +kernel
theorem d67_81 : decode (pB 67) 81 = .ok (.aload_n 1, 1) := by decide +kernel
theorem d67_82 : decode (pB 67) 82 = .ok (.iload_n 2, 1) := by decide +kernel
theorem d67_83 : decode (pB 67) 83 = .ok (.iconst 1, 1) := by decide +kernel
theorem d67_84 : decode (pB 67) 84 = .ok (.iadd, 1) := by decide +kernel
theorem d67_85 : decode (pB 67) 85 = .ok (.iload_n 3, 1) := by decide +kernel
theorem d67_86 : decode (pB 67) 86 = .ok (.invokestatic 198, 3) := by decide +kernel
theorem d67_89 : decode (pB 67) 89 = .ok (.ifCond .eq 5, 3) := by decide +kernel
theorem d67_92 : decode (pB 67) 92 = .ok (.iconst 1, 1) := by decide +kernel
theorem d67_93 : decode (pB 67) 93 = .ok (.ireturn, 1) := by decide +kernel
theorem d67_94 : decode (pB 67) 94 = .ok (.iinc 5 1, 3) := by decide +kernel
theorem d67_97 : decode (pB 67) 97 = .ok (.goto (-53), 3) := by decide +kernel
theorem d67_100 : decode (pB 67) 100 = .ok (.iconst 0, 1) := by decide +kernel
theorem d67_101 : decode (pB 67) 101 = .ok (.ireturn, 1) := by decide +kernel
theorem st1_67_4 : p_st1 67 4 = true := by decide +kernel
theorem st1_67_5 : p_st1 67 5 = true := by decide +kernel
/-- RX4.shrinks -/
def t67_0 : List (Nat × pO) := [(0, o_aload 1 1), (1, o_iload 2 2), (2, o_aald 3), (3, o_astore 4 5), (5, o_aload 4 7), (7, o_getI 0 0 10), (10, o_push (.int (nI 1)) 11), (11, o_icne 16 14), (14, o_push (.int (nI 1)) 15), (15, o_zret), (16, o_iload 2 17), (17, o_iload 3 18), (18, o_icge 39 21), (21, o_iload 2 22), (22, o_push (.int (nI 5)) 23), (23, o_icge 39 26), (26, o_aload 4 28), (28, o_getI 0 0 31), (31, o_push (.int (nI 1)) 32), (32, o_iload 3 33), (33, o_iload 2 34), (34, o_isub 35), (35, o_ishl 36), (36, o_icle 41 39), (39, o_push (.int (nI 0)) 40), (40, o_zret), (41, o_push (.int (nI 1)) 42), (42, o_istore 5 44), (44, o_iload 5 46), (46, o_aload 4 48), (48, o_getI 0 0 51), (51, o_icge 100 54), (54, o_aload 0 55), (55, o_aload 4 57), (57, o_iload 5 59), (59, o_invV 3 31 2 62), (62, o_ifeq 68 65), (65, o_goto 94), (68, o_aload 1 69), (69, o_iload 2 70)]
theorem ok67_0 : ∀ q ∈ t67_0, p_Z 67 q := List.forall_mem_cons.mpr ⟨⟨s_aload_n d67_0 rfl, tl_aload _ _⟩, List.forall_mem_cons.mpr ⟨⟨s_iload_n d67_1 rfl, tl_iload _ _⟩, List.forall_mem_cons.mpr ⟨⟨s_aald d67_2, tl_aald _⟩, List.forall_mem_cons.mpr ⟨⟨s_astore d67_3 st1_67_4, tl_astore _ _⟩, List.forall_mem_cons.mpr ⟨⟨s_aload d67_5, tl_aload _ _⟩, List.forall_mem_cons.mpr ⟨⟨f_getI_0_0 d67_7 wd_121, tl_getI _ _ _⟩, List.forall_mem_cons.mpr ⟨⟨s_iconst d67_10 rfl, tl_push _ _⟩, List.forall_mem_cons.mpr ⟨⟨s_icne d67_11 rfl, tl_icne _ _⟩, List.forall_mem_cons.mpr ⟨⟨s_iconst d67_14 rfl, tl_push _ _⟩, List.forall_mem_cons.mpr ⟨⟨s_zret d67_15 rfl, tl_zret⟩, List.forall_mem_cons.mpr ⟨⟨s_iload_n d67_16 rfl, tl_iload _ _⟩, List.forall_mem_cons.mpr ⟨⟨s_iload_n d67_17 rfl, tl_iload _ _⟩, List.forall_mem_cons.mpr ⟨⟨s_icge d67_18 rfl, tl_icge _ _⟩, List.forall_mem_cons.mpr ⟨⟨s_iload_n d67_21 rfl, tl_iload _ _⟩, List.forall_mem_cons.mpr ⟨⟨s_iconst d67_22 rfl, tl_push _ _⟩, List.forall_mem_cons.mpr ⟨⟨s_icge d67_23 rfl, tl_icge _ _⟩, List.forall_mem_cons.mpr ⟨⟨s_aload d67_26, tl_aload _ _⟩, List.forall_mem_cons.mpr ⟨⟨f_getI_0_0 d67_28 wd_121, tl_getI _ _ _⟩, List.forall_mem_cons.mpr ⟨⟨s_iconst d67_31 rfl, tl_push _ _⟩, List.forall_mem_cons.mpr ⟨⟨s_iload_n d67_32 rfl, tl_iload _ _⟩, List.forall_mem_cons.mpr ⟨⟨s_iload_n d67_33 rfl, tl_iload _ _⟩, List.forall_mem_cons.mpr ⟨⟨s_isub d67_34, tl_isub _⟩, List.forall_mem_cons.mpr ⟨⟨s_ishl d67_35, tl_ishl _⟩, List.forall_mem_cons.mpr ⟨⟨s_icle d67_36 rfl, tl_icle _ _⟩, List.forall_mem_cons.mpr ⟨⟨s_iconst d67_39 rfl, tl_push _ _⟩, List.forall_mem_cons.mpr ⟨⟨s_zret d67_40 rfl, tl_zret⟩, List.forall_mem_cons.mpr ⟨⟨s_iconst d67_41 rfl, tl_push _ _⟩, List.forall_mem_cons.mpr ⟨⟨s_istore d67_42 st1_67_5, tl_istore _ _⟩, List.forall_mem_cons.mpr ⟨⟨s_iload d67_44, tl_iload _ _⟩, List.forall_mem_cons.mpr ⟨⟨s_aload d67_46, tl_aload _ _⟩, List.forall_mem_cons.mpr ⟨⟨f_getI_0_0 d67_48 wd_121, tl_getI _ _ _⟩, List.forall_mem_cons.mpr ⟨⟨s_icge d67_51 rfl, tl_icge _ _⟩, List.forall_mem_cons.mpr ⟨⟨s_aload_n d67_54 rfl, tl_aload _ _⟩, List.forall_mem_cons.mpr ⟨⟨s_aload d67_55, tl_aload _ _⟩, List.forall_mem_cons.mpr ⟨⟨s_iload d67_57, tl_iload _ _⟩, List.forall_mem_cons.mpr ⟨⟨q_invV_31 d67_59 wd_469, tl_invV _ _ _ _⟩, List.forall_mem_cons.mpr ⟨⟨s_ifeq d67_62 rfl, tl_ifeq _ _⟩, List.forall_mem_cons.mpr ⟨⟨s_goto d67_65 rfl, tl_goto _⟩, List.forall_mem_cons.mpr ⟨⟨s_aload_n d67_68 rfl, tl_aload _ _⟩, List.forall_mem_cons.mpr ⟨⟨s_iload_n d67_69 rfl, tl_iload _ _⟩, fun _ h => absurd h List.not_mem_nil⟩⟩⟩⟩⟩⟩⟩⟩⟩⟩⟩⟩⟩⟩⟩⟩⟩⟩⟩⟩⟩⟩⟩⟩⟩⟩⟩⟩⟩⟩⟩⟩⟩⟩⟩⟩⟩⟩⟩⟩
/-- RX4.shrinks -/
def t67_1 : List (Nat × pO) := [(70, o_push (.int (nI 1)) 71), (71, o_iadd 72), (72, o_aald 73), (73, o_aload 4 75), (75, o_iload 5 77), (77, o_invV 0 2 2 80), (80, o_aload 0 81), (81, o_aload 1 82), (82, o_iload 2 83), (83, o_push (.int (nI 1)) 84), (84, o_iadd 85), (85, o_iload 3 86), (86, o_invS 67 4 89), (89, o_ifeq 94 92), (92, o_push (.int (nI 1)) 93), (93, o_zret), (94, o_iinc 5 (nI 1) 97), (97, o_goto 44), (100, o_push (.int (nI 0)) 101), (101, o_zret)]
theorem ok67_1 : ∀ q ∈ t67_1, p_Z 67 q := List.forall_mem_cons.mpr ⟨⟨s_iconst d67_70 rfl, tl_push _ _⟩, List.forall_mem_cons.mpr ⟨⟨s_iadd d67_71, tl_iadd _⟩, List.forall_mem_cons.mpr ⟨⟨s_aald d67_72, tl_aald _⟩, List.forall_mem_cons.mpr ⟨⟨s_aload d67_73, tl_aload _ _⟩, List.forall_mem_cons.mpr ⟨⟨s_iload d67_75, tl_iload _ _⟩, List.forall_mem_cons.mpr ⟨⟨q_invV_2 d67_77 wd_272, tl_invV _ _ _ _⟩, List.forall_mem_cons.mpr ⟨⟨s_aload_n d67_80 rfl, tl_aload _ _⟩, List.forall_mem_cons.mpr ⟨⟨s_aload_n d67_81 rfl, tl_aload _ _⟩, List.forall_mem_cons.mpr ⟨⟨s_iload_n d67_82 rfl, tl_iload _ _⟩, List.forall_mem_cons.mpr ⟨⟨s_iconst d67_83 rfl, tl_push _ _⟩, List.forall_mem_cons.mpr ⟨⟨s_iadd d67_84, tl_iadd _⟩, List.forall_mem_cons.mpr ⟨⟨s_iload_n d67_85 rfl, tl_iload _ _⟩, List.forall_mem_cons.mpr ⟨⟨q_invS_67 d67_86 wd_466, tl_invS _ _ _⟩, List.forall_mem_cons.mpr ⟨⟨s_ifeq d67_89 rfl, tl_ifeq _ _⟩, List.forall_mem_cons.mpr ⟨⟨s_iconst d67_92 rfl, tl_push _ _⟩, List.forall_mem_cons.mpr ⟨⟨s_zret d67_93 rfl, tl_zret⟩, List.forall_mem_cons.mpr ⟨⟨s_iinc d67_94 rfl st1_67_5, tl_iinc _ _ _⟩, List.forall_mem_cons.mpr ⟨⟨s_goto d67_97 rfl, tl_goto _⟩, List.forall_mem_cons.mpr ⟨⟨s_iconst d67_100 rfl, tl_push _ _⟩, List.forall_mem_cons.mpr ⟨⟨s_zret d67_101 rfl, tl_zret⟩, fun _ h => absurd h List.not_mem_nil⟩⟩⟩⟩⟩⟩⟩⟩⟩⟩⟩⟩⟩⟩⟩⟩⟩⟩⟩⟩
def t67 : List (Nat × pO) := t67_0 ++ (t67_1)
theorem ok67 : ∀ q ∈ t67, p_Z 67 q := List.forall_mem_append.mpr ⟨ok67_0, ok67_1⟩
theorem d68_0 : decode (pB 68) 0 = .ok (.iload_n 0, 1) := by decide +kernel
theorem d68_1 : decode (pB 68) 1 = .ok (.ifCond .ge 13, 3) := by decide +kernel
theorem d68_4 : decode (pB 68) 4 = .ok (.iload_n 0, 1) := by decide +kernel
theorem d68_5 : decode (pB 68) 5 = .ok (.bipush (-6), 2) := by decide +kernel
theorem d68_7 : decode (pB 68) 7 = .ok (.if_icmp .eq 7, 3) := by decide +kernel
theorem d68_10 : decode (pB 68) 10 = .ok (.iconst 1, 1) := by decide +kernel
theorem d68_11 : decode (pB 68) 11 = .ok (.goto 4, 3) := by decide +kernel
theorem d68_14 : decode (pB 68) 14 = .ok (.iconst 0, 1) := by decide +kernel
theorem d68_15 : decode (pB 68) 15 = .ok (.ireturn, 1) := by decide +kernel
/-- RX4.isError -/
def t68_0 : List (Nat × pO) := [(0, o_iload 0 1), (1, o_ifge 14 4), (4, o_iload 0 5), (5, o_push (.int (nM 6)) 7), (7, o_iceq 14 10), (10, o_push (.int (nI 1)) 11), (11, o_goto 15), (14, o_push (.int (nI 0)) 15), (15, o_zret)]
theorem ok68_0 : ∀ q ∈ t68_0, p_Z 68 q := List.forall_mem_cons.mpr ⟨⟨s_iload_n d68_0 rfl, tl_iload _ _⟩, List.forall_mem_cons.mpr ⟨⟨s_ifge d68_1 rfl, tl_ifge _ _⟩, List.forall_mem_cons.mpr ⟨⟨s_iload_n d68_4 rfl, tl_iload _ _⟩, List.forall_mem_cons.mpr ⟨⟨s_bipush d68_5 rfl, tl_push _ _⟩, List.forall_mem_cons.mpr ⟨⟨s_iceq d68_7 rfl, tl_iceq _ _⟩, List.forall_mem_cons.mpr ⟨⟨s_iconst d68_10 rfl, tl_push _ _⟩, List.forall_mem_cons.mpr ⟨⟨s_goto d68_11 rfl, tl_goto _⟩, List.forall_mem_cons.mpr ⟨⟨s_iconst d68_14 rfl, tl_push _ _⟩, List.forall_mem_cons.mpr ⟨⟨s_zret d68_15 rfl, tl_zret⟩, fun _ h => absurd h List.not_mem_nil⟩⟩⟩⟩⟩⟩⟩⟩⟩
def t68 : List (Nat × pO) := t68_0
theorem ok68 : ∀ q ∈ t68, p_Z 68 q := ok68_0
theorem d69_0 : decode (pB 69) 0 = .ok (.aload_n 0, 1) := by decide +kernel
theorem d69_1 : decode (pB 69) 1 = .ok (.getfield 16, 3) := by decide +kernel
theorem d69_4 : decode (pB 69) 4 = .ok (.aload_n 0, 1) := by decide +kernel
theorem d69_5 : decode (pB 69) 5 = .ok (.getfield 20, 3) := by decide +kernel
theorem d69_8 : decode (pB 69) 8 = .ok (.aaload, 1) := by decide +kernel
theorem d69_9 : decode (pB 69) 9 = .ok (.aload_n 0, 1) := by decide +kernel
theorem d69_10 : decode (pB 69) 10 = .ok (.getfield 10, 3) := by decide +kernel
theorem d69_13 : decode (pB 69) 13 = .ok (.invokevirtual 225, 3) := by decide +kernel
theorem d69_16 : decode (pB 69) 16 = .ok (.return_, 1) := by decide +kernel
/-- RX4.keepBefore -/
def t69_0 : List (Nat × pO) := [(0, o_aload 0 1), (1, o_getR 4 1 4), (4, o_aload 0 5), (5, o_getI 4 2 8), (8, o_aald 9), (9, o_aload 0 10), (10, o_getR 4 0 13), (13, o_invV 3 17 1 16), (16, o_vret)]
theorem ok69_0 : ∀ q ∈ t69_0, p_Z 69 q := List.forall_mem_cons.mpr ⟨⟨s_aload_n d69_0 rfl, tl_aload _ _⟩, List.forall_mem_cons.mpr ⟨⟨f_getR_4_1 d69_1 wd_162, tl_getR _ _ _⟩, List.forall_mem_cons.mpr ⟨⟨s_aload_n d69_4 rfl, tl_aload _ _⟩, List.forall_mem_cons.mpr ⟨⟨f_getI_4_2 d69_5 wd_163, tl_getI _ _ _⟩, List.forall_mem_cons.mpr ⟨⟨s_aald d69_8, tl_aald _⟩, List.forall_mem_cons.mpr ⟨⟨s_aload_n d69_9 rfl, tl_aload _ _⟩, List.forall_mem_cons.mpr ⟨⟨f_getR_4_0 d69_10 wd_161, tl_getR _ _ _⟩, List.forall_mem_cons.mpr ⟨⟨q_invV_17 d69_13 wd_261, tl_invV _ _ _ _⟩, List.forall_mem_cons.mpr ⟨⟨s_vret d69_16 rfl, tl_vret⟩, fun _ h => absurd h List.not_mem_nil⟩⟩⟩⟩⟩⟩⟩⟩⟩
def t69 : List (Nat × pO) := t69_0
theorem ok69 : ∀ q ∈ t69, p_Z 69 q := ok69_0
theorem d70_0 : decode (pB 70) 0 = .ok (.iload_n 1, 1) := by decide +kernel
theorem d70_1 : decode (pB 70) 1 = .ok (.invokestatic 219, 3) := by decide +kernel
theorem d70_4 : decode (pB 70) 4 = .ok (.ifCond .eq 5, 3) := by decide +kernel
theorem d70_7 : decode (pB 70) 7 = .ok (.iload_n 1, 1) := by decide +kernel
theorem d70_8 : decode (pB 70) 8 = .ok (.ireturn, 1) := by decide +kernel
theorem d70_9 : decode (pB 70) 9 = .ok (.aload_n 0, 1) := by decide +kernel
theorem d70_10 : decode (pB 70) 10 = .ok (.getfield 20, 3) := by decide +kernel
theorem d70_13 : decode (pB 70) 13 = .ok (.bipush 6, 2) := by decide +kernel
theorem d70_15 : decode (pB 70) 15 = .ok (.if_icmp .ge 16, 3) := by decide +kernel
theorem d70_18 : decode (pB 70) 18 = .ok (.aload_n 0, 1) := by decide +kernel
theorem d70_19 : decode (pB 70) 19 = .ok (.dup, 1) := by decide +kernel
theorem d70_20 : decode (pB 70) 20 = .ok (.getfield 20, 3) := by decide +kernel
theorem d70_23 : decode (pB 70) 23 = .ok (.iconst 1, 1) := by decide +kernel
theorem d70_24 : decode (pB 70) 24 = .ok (.iadd, 1) := by decide +kernel
theorem d70_25 : decode (pB 70) 25 = .ok (.putfield 20, 3) := by decide +kernel
theorem d70_28 : decode (pB 70) 28 = .ok (.goto 7, 3) := by decide +kernel
theorem d70_31 : decode (pB 70) 31 = .ok (.aload_n 0, 1) := by decide +kernel
theorem d70_32 : decode (pB 70) 32 = .ok (.invokevirtual 285, 3) := by decide +kernel
theorem d70_35 : decode (pB 70) 35 = .ok (.iload_n 1, 1) := by decide +kernel
theorem d70_36 : decode (pB 70) 36 = .ok (.ireturn, 1) := by decide +kernel
/-- RX4.recorded -/
def t70_0 : List (Nat × pO) := [(0, o_iload 1 1), (1, o_invS 68 1 4), (4, o_ifeq 9 7), (7, o_iload 1 8), (8, o_iret), (9, o_aload 0 10), (10, o_getI 4 2 13), (13, o_push (.int (nI 6)) 15), (15, o_icge 31 18), (18, o_aload 0 19), (19, o_dupr 20), (20, o_getI 4 2 23), (23, o_push (.int (nI 1)) 24), (24, o_iadd 25), (25, o_putI 4 2 28), (28, o_goto 35), (31, o_aload 0 32), (32, o_invV 4 71 0 35), (35, o_iload 1 36), (36, o_iret)]
theorem ok70_0 : ∀ q ∈ t70_0, p_Z 70 q := List.forall_mem_cons.mpr ⟨⟨s_iload_n d70_0 rfl, tl_iload _ _⟩, List.forall_mem_cons.mpr ⟨⟨q_invS_68 d70_1 wd_300, tl_invS _ _ _⟩, List.forall_mem_cons.mpr ⟨⟨s_ifeq d70_4 rfl, tl_ifeq _ _⟩, List.forall_mem_cons.mpr ⟨⟨s_iload_n d70_7 rfl, tl_iload _ _⟩, List.forall_mem_cons.mpr ⟨⟨s_iret d70_8 rfl, tl_iret⟩, List.forall_mem_cons.mpr ⟨⟨s_aload_n d70_9 rfl, tl_aload _ _⟩, List.forall_mem_cons.mpr ⟨⟨f_getI_4_2 d70_10 wd_163, tl_getI _ _ _⟩, List.forall_mem_cons.mpr ⟨⟨s_bipush d70_13 rfl, tl_push _ _⟩, List.forall_mem_cons.mpr ⟨⟨s_icge d70_15 rfl, tl_icge _ _⟩, List.forall_mem_cons.mpr ⟨⟨s_aload_n d70_18 rfl, tl_aload _ _⟩, List.forall_mem_cons.mpr ⟨⟨s_dupr d70_19, tl_dupr _⟩, List.forall_mem_cons.mpr ⟨⟨f_getI_4_2 d70_20 wd_163, tl_getI _ _ _⟩, List.forall_mem_cons.mpr ⟨⟨s_iconst d70_23 rfl, tl_push _ _⟩, List.forall_mem_cons.mpr ⟨⟨s_iadd d70_24, tl_iadd _⟩, List.forall_mem_cons.mpr ⟨⟨f_putI_4_2 d70_25 wd_163, tl_putI _ _ _⟩, List.forall_mem_cons.mpr ⟨⟨s_goto d70_28 rfl, tl_goto _⟩, List.forall_mem_cons.mpr ⟨⟨s_aload_n d70_31 rfl, tl_aload _ _⟩, List.forall_mem_cons.mpr ⟨⟨q_invV_71 d70_32 wd_303, tl_invV _ _ _ _⟩, List.forall_mem_cons.mpr ⟨⟨s_iload_n d70_35 rfl, tl_iload _ _⟩, List.forall_mem_cons.mpr ⟨⟨s_iret d70_36 rfl, tl_iret⟩, fun _ h => absurd h List.not_mem_nil⟩⟩⟩⟩⟩⟩⟩⟩⟩⟩⟩⟩⟩⟩⟩⟩⟩⟩⟩⟩
def t70 : List (Nat × pO) := t70_0
theorem ok70 : ∀ q ∈ t70, p_Z 70 q := ok70_0
theorem d71_0 : decode (pB 71) 0 = .ok (.aload_n 0, 1) := by decide +kernel
theorem d71_1 : decode (pB 71) 1 = .ok (.getfield 16, 3) := by decide +kernel
theorem d71_4 : decode (pB 71) 4 = .ok (.iconst 0, 1) := by decide +kernel
theorem d71_5 : decode (pB 71) 5 = .ok (.aaload, 1) := by decide +kernel
theorem d71_6 : decode (pB 71) 6 = .ok (.astore_n 1, 1) := by decide +kernel
theorem d71_7 : decode (pB 71) 7 = .ok (.iconst 0, 1) := by decide +kernel
theorem d71_8 : decode (pB 71) 8 = .ok (.istore_n 2, 1) := by decide +kernel
theorem d71_9 : decode (pB 71) 9 = .ok (.iload_n 2, 1) := by decide +kernel
theorem d71_10 : decode (pB 71) 10 = .ok (.bipush 6, 2) := by decide +kernel
theorem d71_12 : decode (pB 71) 12 = .ok (.if_icmp .ge 23, 3) := by decide +kernel
theorem d71_15 : decode (pB 71) 15 = .ok (.aload_n 0, 1) := by decide +kernel
theorem d71_16 : decode (pB 71) 16 = .ok (.getfield 16, 3) := by decide +kernel
theorem d71_19 : decode (pB 71) 19 = .ok (.iload_n 2, 1) := by decide +kernel
theorem d71_20 : decode (pB 71) 20 = .ok (.aload_n 0, 1) := by decide +kernel
theorem d71_21 : decode (pB 71) 21 = .ok (.getfield 16, 3) := by decide +kernel
theorem d71_24 : decode (pB 71) 24 = .ok (.iload_n 2, 1) := by decide +kernel
theorem d71_25 : decode (pB 71) 25 = .ok (.iconst 1, 1) := by decide +kernel
theorem d71_26 : decode (pB 71) 26 = .ok (.iadd, 1) := by decide +kernel
theorem d71_27 : decode (pB 71) 27 = .ok (.aaload, 1) := by decide +kernel
theorem d71_28 : decode (pB 71) 28 = .ok (.aastore, 1) := by decide +kernel
theorem d71_29 : decode (pB 71) 29 = .ok (.iinc 2 1, 3) := by decide +kernel
theorem d71_32 : decode (pB 71) 32 = .ok (.goto (-23), 3) := by decide +kernel
theorem d71_35 : decode (pB 71) 35 = .ok (.aload_n 0, 1) := by decide +kernel
theorem d71_36 : decode (pB 71) 36 = .ok (.getfield 16, 3) := by decide +kernel
theorem d71_39 : decode (pB 71) 39 = .ok (.bipush 6, 2) := by decide +kernel
theorem d71_41 : decode (pB 71) 41 = .ok (.aload_n 1, 1) := by decide +kernel
theorem d71_42 : decode (pB 71) 42 = .ok (.aastore, 1) := by decide +kernel
theorem d71_43 : decode (pB 71) 43 = .ok (.return_, 1) := by decide +kernel
theorem st1_71_1 : p_st1 71 1 = true := by decide +kernel
theorem st1_71_2 : p_st1 71 2 = true := by decide +kernel
/-- RX4.dropOldest -/
def t71_0 : List (Nat × pO) := [(0, o_aload 0 1), (1, o_getR 4 1 4), (4, o_push (.int (nI 0)) 5), (5, o_aald 6), (6, o_astore 1 7), (7, o_push (.int (nI 0)) 8), (8, o_istore 2 9), (9, o_iload 2 10), (10, o_push (.int (nI 6)) 12), (12, o_icge 35 15), (15, o_aload 0 16), (16, o_getR 4 1 19), (19, o_iload 2 20), (20, o_aload 0 21), (21, o_getR 4 1 24), (24, o_iload 2 25), (25, o_push (.int (nI 1)) 26), (26, o_iadd 27), (27, o_aald 28), (28, o_aast 29), (29, o_iinc 2 (nI 1) 32), (32, o_goto 9), (35, o_aload 0 36), (36, o_getR 4 1 39), (39, o_push (.int (nI 6)) 41), (41, o_aload 1 42), (42, o_aast 43), (43, o_vret)]
theorem ok71_0 : ∀ q ∈ t71_0, p_Z 71 q := List.forall_mem_cons.mpr ⟨⟨s_aload_n d71_0 rfl, tl_aload _ _⟩, List.forall_mem_cons.mpr ⟨⟨f_getR_4_1 d71_1 wd_162, tl_getR _ _ _⟩, List.forall_mem_cons.mpr ⟨⟨s_iconst d71_4 rfl, tl_push _ _⟩, List.forall_mem_cons.mpr ⟨⟨s_aald d71_5, tl_aald _⟩, List.forall_mem_cons.mpr ⟨⟨s_astore_n d71_6 rfl st1_71_1, tl_astore _ _⟩, List.forall_mem_cons.mpr ⟨⟨s_iconst d71_7 rfl, tl_push _ _⟩, List.forall_mem_cons.mpr ⟨⟨s_istore_n d71_8 rfl st1_71_2, tl_istore _ _⟩, List.forall_mem_cons.mpr ⟨⟨s_iload_n d71_9 rfl, tl_iload _ _⟩, List.forall_mem_cons.mpr ⟨⟨s_bipush d71_10 rfl, tl_push _ _⟩, List.forall_mem_cons.mpr ⟨⟨s_icge d71_12 rfl, tl_icge _ _⟩, List.forall_mem_cons.mpr ⟨⟨s_aload_n d71_15 rfl, tl_aload _ _⟩, List.forall_mem_cons.mpr ⟨⟨f_getR_4_1 d71_16 wd_162, tl_getR _ _ _⟩, List.forall_mem_cons.mpr ⟨⟨s_iload_n d71_19 rfl, tl_iload _ _⟩, List.forall_mem_cons.mpr ⟨⟨s_aload_n d71_20 rfl, tl_aload _ _⟩, List.forall_mem_cons.mpr ⟨⟨f_getR_4_1 d71_21 wd_162, tl_getR _ _ _⟩, List.forall_mem_cons.mpr ⟨⟨s_iload_n d71_24 rfl, tl_iload _ _⟩, List.forall_mem_cons.mpr ⟨⟨s_iconst d71_25 rfl, tl_push _ _⟩, List.forall_mem_cons.mpr ⟨⟨s_iadd d71_26, tl_iadd _⟩, List.forall_mem_cons.mpr ⟨⟨s_aald d71_27, tl_aald _⟩, List.forall_mem_cons.mpr ⟨⟨s_aast d71_28, tl_aast _⟩, List.forall_mem_cons.mpr ⟨⟨s_iinc d71_29 rfl st1_71_2, tl_iinc _ _ _⟩, List.forall_mem_cons.mpr ⟨⟨s_goto d71_32 rfl, tl_goto _⟩, List.forall_mem_cons.mpr ⟨⟨s_aload_n d71_35 rfl, tl_aload _ _⟩, List.forall_mem_cons.mpr ⟨⟨f_getR_4_1 d71_36 wd_162, tl_getR _ _ _⟩, List.forall_mem_cons.mpr ⟨⟨s_bipush d71_39 rfl, tl_push _ _⟩, List.forall_mem_cons.mpr ⟨⟨s_aload_n d71_41 rfl, tl_aload _ _⟩, List.forall_mem_cons.mpr ⟨⟨s_aast d71_42, tl_aast _⟩, List.forall_mem_cons.mpr ⟨⟨s_vret d71_43 rfl, tl_vret⟩, fun _ h => absurd h List.not_mem_nil⟩⟩⟩⟩⟩⟩⟩⟩⟩⟩⟩⟩⟩⟩⟩⟩⟩⟩⟩⟩⟩⟩⟩⟩⟩⟩⟩⟩
def t71 : List (Nat × pO) := t71_0
theorem ok71 : ∀ q ∈ t71, p_Z 71 q := ok71_0
