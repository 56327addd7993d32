/-! ops of each method, and that each is sound -/
theorem d0_0 : decode (pB 0) 0 = .ok (.aload_n 0, 1) := by decide +kernel
theorem d0_1 : decode (pB 0) 1 = .ok (.invokespecial 3, 3) := by decide +kernel
theorem d0_4 : decode (pB 0) 4 = .ok (.aload_n 0, 1) := by decide +kernel
theorem d0_5 : decode (pB 0) 5 = .ok (.iconst 0, 1) := by decide +kernel
theorem d0_6 : decode (pB 0) 6 = .ok (.putfield 9, 3) := by decide +kernel
theorem d0_9 : decode (pB 0) 9 = .ok (.aload_n 0, 1) := by decide +kernel
theorem d0_10 : decode (pB 0) 10 = .ok (.iconst 0, 1) := by decide +kernel
theorem d0_11 : decode (pB 0) 11 = .ok (.putfield 15, 3) := by decide +kernel
theorem d0_14 : decode (pB 0) 14 = .ok (.aload_n 0, 1) := by decide +kernel
theorem d0_15 : decode (pB 0) 15 = .ok (.bipush 16, 2) := by decide +kernel
theorem d0_17 : decode (pB 0) 17 = .ok (.newarray .int, 2) := by decide +kernel
theorem d0_19 : decode (pB 0) 19 = .ok (.putfield 18, 3) := by decide +kernel
theorem d0_22 : decode (pB 0) 22 = .ok (.aload_n 0, 1) := by decide +kernel
theorem d0_23 : decode (pB 0) 23 = .ok (.bipush 17, 2) := by decide +kernel
theorem d0_25 : decode (pB 0) 25 = .ok (.newarray .int, 2) := by decide +kernel
theorem d0_27 : decode (pB 0) 27 = .ok (.putfield 22, 3) := by decide +kernel
theorem d0_30 : decode (pB 0) 30 = .ok (.aload_n 0, 1) := by decide +kernel
theorem d0_31 : decode (pB 0) 31 = .ok (.bipush 16, 2) := by decide +kernel
theorem d0_33 : decode (pB 0) 33 = .ok (.newarray .int, 2) := by decide +kernel
theorem d0_35 : decode (pB 0) 35 = .ok (.putfield 25, 3) := by decide +kernel
theorem d0_38 : decode (pB 0) 38 = .ok (.aload_n 0, 1) := by decide +kernel
theorem d0_39 : decode (pB 0) 39 = .ok (.bipush 16, 2) := by decide +kernel
theorem d0_41 : decode (pB 0) 41 = .ok (.newarray .int, 2) := by decide +kernel
theorem d0_43 : decode (pB 0) 43 = .ok (.putfield 28, 3) := by decide +kernel
theorem d0_46 : decode (pB 0) 46 = .ok (.return_, 1) := by decide +kernel
/-- RX0.<init> -/
def t0_0 : List (Nat × pO) := [(0, o_aload 0 1), (1, o_oinit 4), (4, o_aload 0 5), (5, o_push (.int (nI 0)) 6), (6, o_putI 0 0 9), (9, o_aload 0 10), (10, o_push (.int (nI 0)) 11), (11, o_putI 0 1 14), (14, o_aload 0 15), (15, o_push (.int (nI 16)) 17), (17, o_newa 0 19), (19, o_putR 0 2 22), (22, o_aload 0 23), (23, o_push (.int (nI 17)) 25), (25, o_newa 0 27), (27, o_putR 0 3 30), (30, o_aload 0 31), (31, o_push (.int (nI 16)) 33), (33, o_newa 0 35), (35, o_putR 0 4 38), (38, o_aload 0 39), (39, o_push (.int (nI 16)) 41), (41, o_newa 0 43), (43, o_putR 0 5 46), (46, o_vret)]
theorem ok0_0 : ∀ q ∈ t0_0, p_Z 0 q := List.forall_mem_cons.mpr ⟨⟨s_aload_n d0_0 rfl, tl_aload _ _⟩, List.forall_mem_cons.mpr ⟨⟨s_oinit d0_1 wd_170 wd_75 wd_76, tl_oinit _⟩, List.forall_mem_cons.mpr ⟨⟨s_aload_n d0_4 rfl, tl_aload _ _⟩, List.forall_mem_cons.mpr ⟨⟨s_iconst d0_5 rfl, tl_push _ _⟩, List.forall_mem_cons.mpr ⟨⟨f_putI_0_0 d0_6 wd_171, tl_putI _ _ _⟩, List.forall_mem_cons.mpr ⟨⟨s_aload_n d0_9 rfl, tl_aload _ _⟩, List.forall_mem_cons.mpr ⟨⟨s_iconst d0_10 rfl, tl_push _ _⟩, List.forall_mem_cons.mpr ⟨⟨f_putI_0_1 d0_11 wd_174, tl_putI _ _ _⟩, List.forall_mem_cons.mpr ⟨⟨s_aload_n d0_14 rfl, tl_aload _ _⟩, List.forall_mem_cons.mpr ⟨⟨s_bipush d0_15 rfl, tl_push _ _⟩, List.forall_mem_cons.mpr ⟨⟨s_newai d0_17 wd_114, tl_newa _ _⟩, List.forall_mem_cons.mpr ⟨⟨f_putR_0_2 d0_19 wd_175, tl_putR _ _ _⟩, List.forall_mem_cons.mpr ⟨⟨s_aload_n d0_22 rfl, tl_aload _ _⟩, List.forall_mem_cons.mpr ⟨⟨s_bipush d0_23 rfl, tl_push _ _⟩, List.forall_mem_cons.mpr ⟨⟨s_newai d0_25 wd_114, tl_newa _ _⟩, List.forall_mem_cons.mpr ⟨⟨f_putR_0_3 d0_27 wd_177, tl_putR _ _ _⟩, List.forall_mem_cons.mpr ⟨⟨s_aload_n d0_30 rfl, tl_aload _ _⟩, List.forall_mem_cons.mpr ⟨⟨s_bipush d0_31 rfl, tl_push _ _⟩, List.forall_mem_cons.mpr ⟨⟨s_newai d0_33 wd_114, tl_newa _ _⟩, List.forall_mem_cons.mpr ⟨⟨f_putR_0_4 d0_35 wd_179, tl_putR _ _ _⟩, List.forall_mem_cons.mpr ⟨⟨s_aload_n d0_38 rfl, tl_aload _ _⟩, List.forall_mem_cons.mpr ⟨⟨s_bipush d0_39 rfl, tl_push _ _⟩, List.forall_mem_cons.mpr ⟨⟨s_newai d0_41 wd_114, tl_newa _ _⟩, List.forall_mem_cons.mpr ⟨⟨f_putR_0_5 d0_43 wd_181, tl_putR _ _ _⟩, List.forall_mem_cons.mpr ⟨⟨s_vret d0_46 rfl, tl_vret⟩, fun _ h => absurd h List.not_mem_nil⟩⟩⟩⟩⟩⟩⟩⟩⟩⟩⟩⟩⟩⟩⟩⟩⟩⟩⟩⟩⟩⟩⟩⟩⟩
def t0 : List (Nat × pO) := t0_0
theorem ok0 : ∀ q ∈ t0, p_Z 0 q := ok0_0
theorem d1_0 : decode (pB 1) 0 = .ok (.aload_n 0, 1) := by decide +kernel
theorem d1_1 : decode (pB 1) 1 = .ok (.invokevirtual 31, 3) := by decide +kernel
theorem d1_4 : decode (pB 1) 4 = .ok (.iconst 0, 1) := by decide +kernel
theorem d1_5 : decode (pB 1) 5 = .ok (.istore_n 2, 1) := by decide +kernel
theorem d1_6 : decode (pB 1) 6 = .ok (.iload_n 2, 1) := by decide +kernel
theorem d1_7 : decode (pB 1) 7 = .ok (.iload_n 1, 1) := by decide +kernel
theorem d1_8 : decode (pB 1) 8 = .ok (.if_icmp .ge 18, 3) := by decide +kernel
theorem d1_11 : decode (pB 1) 11 = .ok (.aload_n 0, 1) := by decide +kernel
theorem d1_12 : decode (pB 1) 12 = .ok (.iload_n 2, 1) := by decide +kernel
theorem d1_13 : decode (pB 1) 13 = .ok (.invokevirtual 34, 3) := by decide +kernel
theorem d1_16 : decode (pB 1) 16 = .ok (.aload_n 0, 1) := by decide +kernel
theorem d1_17 : decode (pB 1) 17 = .ok (.invokevirtual 38, 3) := by decide +kernel
theorem d1_20 : decode (pB 1) 20 = .ok (.iinc 2 1, 3) := by decide +kernel
theorem d1_23 : decode (pB 1) 23 = .ok (.goto (-17), 3) := by decide +kernel
theorem d1_26 : decode (pB 1) 26 = .ok (.return_, 1) := by decide +kernel
theorem st1_1_2 : p_st1 1 2 = true := by decide +kernel
/-- RX0.layFlat -/
def t1_0 : List (Nat × pO) := [(0, o_aload 0 1), (1, o_invV 0 3 0 4), (4, o_push (.int (nI 0)) 5), (5, o_istore 2 6), (6, o_iload 2 7), (7, o_iload 1 8), (8, o_icge 26 11), (11, o_aload 0 12), (12, o_iload 2 13), (13, o_invV 0 4 1 16), (16, o_aload 0 17), (17, o_invV 0 5 0 20), (20, o_iinc 2 (nI 1) 23), (23, o_goto 6), (26, o_vret)]
theorem ok1_0 : ∀ q ∈ t1_0, p_Z 1 q := List.forall_mem_cons.mpr ⟨⟨s_aload_n d1_0 rfl, tl_aload _ _⟩, List.forall_mem_cons.mpr ⟨⟨q_invV_3 d1_1 wd_200, tl_invV _ _ _ _⟩, List.forall_mem_cons.mpr ⟨⟨s_iconst d1_4 rfl, tl_push _ _⟩, List.forall_mem_cons.mpr ⟨⟨s_istore_n d1_5 rfl st1_1_2, tl_istore _ _⟩, List.forall_mem_cons.mpr ⟨⟨s_iload_n d1_6 rfl, tl_iload _ _⟩, List.forall_mem_cons.mpr ⟨⟨s_iload_n d1_7 rfl, tl_iload _ _⟩, List.forall_mem_cons.mpr ⟨⟨s_icge d1_8 rfl, tl_icge _ _⟩, List.forall_mem_cons.mpr ⟨⟨s_aload_n d1_11 rfl, tl_aload _ _⟩, List.forall_mem_cons.mpr ⟨⟨s_iload_n d1_12 rfl, tl_iload _ _⟩, List.forall_mem_cons.mpr ⟨⟨q_invV_4 d1_13 wd_204, tl_invV _ _ _ _⟩, List.forall_mem_cons.mpr ⟨⟨s_aload_n d1_16 rfl, tl_aload _ _⟩, List.forall_mem_cons.mpr ⟨⟨q_invV_5 d1_17 wd_208, tl_invV _ _ _ _⟩, List.forall_mem_cons.mpr ⟨⟨s_iinc d1_20 rfl st1_1_2, tl_iinc _ _ _⟩, List.forall_mem_cons.mpr ⟨⟨s_goto d1_23 rfl, tl_goto _⟩, List.forall_mem_cons.mpr ⟨⟨s_vret d1_26 rfl, tl_vret⟩, fun _ h => absurd h List.not_mem_nil⟩⟩⟩⟩⟩⟩⟩⟩⟩⟩⟩⟩⟩⟩⟩
def t1 : List (Nat × pO) := t1_0
theorem ok1 : ∀ q ∈ t1, p_Z 1 q := ok1_0
theorem d2_0 : decode (pB 2) 0 = .ok (.aload_n 0, 1) := by decide +kernel
theorem d2_1 : decode (pB 2) 1 = .ok (.invokevirtual 31, 3) := by decide +kernel
theorem d2_4 : decode (pB 2) 4 = .ok (.iload_n 2, 1) := by decide +kernel
theorem d2_5 : decode (pB 2) 5 = .ok (.aload_n 1, 1) := by decide +kernel
theorem d2_6 : decode (pB 2) 6 = .ok (.getfield 9, 3) := by decide +kernel
theorem d2_9 : decode (pB 2) 9 = .ok (.iload_n 2, 1) := by decide +kernel
theorem d2_10 : decode (pB 2) 10 = .ok (.isub, 1) := by decide +kernel
theorem d2_11 : decode (pB 2) 11 = .ok (.invokestatic 41, 3) := by decide +kernel
theorem d2_14 : decode (pB 2) 14 = .ok (.istore_n 3, 1) := by decide +kernel
theorem d2_15 : decode (pB 2) 15 = .ok (.iconst 0, 1) := by decide +kernel
theorem d2_16 : decode (pB 2) 16 = .ok (.istore 4, 2) := by decide +kernel
theorem d2_18 : decode (pB 2) 18 = .ok (.iload 4, 2) := by decide +kernel
theorem d2_20 : decode (pB 2) 20 = .ok (.iload_n 3, 1) := by decide +kernel
theorem d2_21 : decode (pB 2) 21 = .ok (.if_icmp .ge 50, 3) := by decide +kernel
theorem d2_24 : decode (pB 2) 24 = .ok (.iload 4, 2) := by decide +kernel
theorem d2_26 : decode (pB 2) 26 = .ok (.iload_n 2, 1) := by decide +kernel
theorem d2_27 : decode (pB 2) 27 = .ok (.if_icmp .ge 14, 3) := by decide +kernel
theorem d2_30 : decode (pB 2) 30 = .ok (.aload_n 0, 1) := by decide +kernel
theorem d2_31 : decode (pB 2) 31 = .ok (.aload_n 1, 1) := by decide +kernel
theorem d2_32 : decode (pB 2) 32 = .ok (.iload_n 2, 1) := by decide +kernel
theorem d2_33 : decode (pB 2) 33 = .ok (.iconst 1, 1) := by decide +kernel
theorem d2_34 : decode (pB 2) 34 = .ok (.isub, 1) := by decide +kernel
theorem d2_35 : decode (pB 2) 35 = .ok (.iload 4, 2) := by decide +kernel
theorem d2_37 : decode (pB 2) 37 = .ok (.isub, 1) := by decide +kernel
theorem d2_38 : decode (pB 2) 38 = .ok (.invokevirtual 47, 3) := by decide +kernel
theorem d2_41 : decode (pB 2) 41 = .ok (.iload_n 2, 1) := by decide +kernel
theorem d2_42 : decode (pB 2) 42 = .ok (.iload 4, 2) := by decide +kernel
theorem d2_44 : decode (pB 2) 44 = .ok (.iadd, 1) := by decide +kernel
theorem d2_45 : decode (pB 2) 45 = .ok (.aload_n 1, 1) := by decide +kernel
theorem d2_46 : decode (pB 2) 46 = .ok (.getfield 9, 3) := by decide +kernel
theorem d2_49 : decode (pB 2) 49 = .ok (.if_icmp .ge 12, 3) := by decide +kernel
theorem d2_52 : decode (pB 2) 52 = .ok (.aload_n 0, 1) := by decide +kernel
theorem d2_53 : decode (pB 2) 53 = .ok (.aload_n 1, 1) := by decide +kernel
theorem d2_54 : decode (pB 2) 54 = .ok (.iload_n 2, 1) := by decide +kernel
theorem d2_55 : decode (pB 2) 55 = .ok (.iload 4, 2) := by decide +kernel
theorem d2_57 : decode (pB 2) 57 = .ok (.iadd, 1) := by decide +kernel
theorem d2_58 : decode (pB 2) 58 = .ok (.invokevirtual 51, 3) := by decide +kernel
theorem d2_61 : decode (pB 2) 61 = .ok (.aload_n 0, 1) := by decide +kernel
theorem d2_62 : decode (pB 2) 62 = .ok (.invokevirtual 38, 3) := by decide +kernel
theorem d2_65 : decode (pB 2) 65 = .ok (.iinc 4 1, 3) := by decide +kernel
theorem d2_68 : decode (pB 2) 68 = .ok (.goto (-50), 3) := by decide +kernel
theorem d2_71 : decode (pB 2) 71 = .ok (.return_, 1) := by decide +kernel
theorem st1_2_3 : p_st1 2 3 = true := by decide +kernel
theorem st1_2_4 : p_st1 2 4 = true := by decide +kernel
/-- RX0.layFolded -/
def t2_0 : List (Nat × pO) := [(0, o_aload 0 1), (1, o_invV 0 3 0 4), (4, o_iload 2 5), (5, o_aload 1 6), (6, o_getI 0 0 9), (9, o_iload 2 10), (10, o_isub 11), (11, o_max 14), (14, o_istore 3 15), (15, o_push (.int (nI 0)) 16), (16, o_istore 4 18), (18, o_iload 4 20), (20, o_iload 3 21), (21, o_icge 71 24), (24, o_iload 4 26), (26, o_iload 2 27), (27, o_icge 41 30), (30, o_aload 0 31), (31, o_aload 1 32), (32, o_iload 2 33), (33, o_push (.int (nI 1)) 34), (34, o_isub 35), (35, o_iload 4 37), (37, o_isub 38), (38, o_invV 0 6 2 41), (41, o_iload 2 42), (42, o_iload 4 44), (44, o_iadd 45), (45, o_aload 1 46), (46, o_getI 0 0 49), (49, o_icge 61 52), (52, o_aload 0 53), (53, o_aload 1 54), (54, o_iload 2 55), (55, o_iload 4 57), (57, o_iadd 58), (58, o_invV 0 7 2 61), (61, o_aload 0 62), (62, o_invV 0 5 0 65), (65, o_iinc 4 (nI 1) 68)]
theorem ok2_0 : ∀ q ∈ t2_0, p_Z 2 q := List.forall_mem_cons.mpr ⟨⟨s_aload_n d2_0 rfl, tl_aload _ _⟩, List.forall_mem_cons.mpr ⟨⟨q_invV_3 d2_1 wd_200, tl_invV _ _ _ _⟩, List.forall_mem_cons.mpr ⟨⟨s_iload_n d2_4 rfl, tl_iload _ _⟩, List.forall_mem_cons.mpr ⟨⟨s_aload_n d2_5 rfl, tl_aload _ _⟩, List.forall_mem_cons.mpr ⟨⟨f_getI_0_0 d2_6 wd_171, tl_getI _ _ _⟩, List.forall_mem_cons.mpr ⟨⟨s_iload_n d2_9 rfl, tl_iload _ _⟩, List.forall_mem_cons.mpr ⟨⟨s_isub d2_10, tl_isub _⟩, List.forall_mem_cons.mpr ⟨⟨s_max d2_11 wd_272 wd_273 wd_67 wd_274, tl_max _⟩, List.forall_mem_cons.mpr ⟨⟨s_istore_n d2_14 rfl st1_2_3, tl_istore _ _⟩, List.forall_mem_cons.mpr ⟨⟨s_iconst d2_15 rfl, tl_push _ _⟩, List.forall_mem_cons.mpr ⟨⟨s_istore d2_16 st1_2_4, tl_istore _ _⟩, List.forall_mem_cons.mpr ⟨⟨s_iload d2_18, tl_iload _ _⟩, List.forall_mem_cons.mpr ⟨⟨s_iload_n d2_20 rfl, tl_iload _ _⟩, List.forall_mem_cons.mpr ⟨⟨s_icge d2_21 rfl, tl_icge _ _⟩, List.forall_mem_cons.mpr ⟨⟨s_iload d2_24, tl_iload _ _⟩, List.forall_mem_cons.mpr ⟨⟨s_iload_n d2_26 rfl, tl_iload _ _⟩, List.forall_mem_cons.mpr ⟨⟨s_icge d2_27 rfl, tl_icge _ _⟩, List.forall_mem_cons.mpr ⟨⟨s_aload_n d2_30 rfl, tl_aload _ _⟩, List.forall_mem_cons.mpr ⟨⟨s_aload_n d2_31 rfl, tl_aload _ _⟩, List.forall_mem_cons.mpr ⟨⟨s_iload_n d2_32 rfl, tl_iload _ _⟩, List.forall_mem_cons.mpr ⟨⟨s_iconst d2_33 rfl, tl_push _ _⟩, List.forall_mem_cons.mpr ⟨⟨s_isub d2_34, tl_isub _⟩, List.forall_mem_cons.mpr ⟨⟨s_iload d2_35, tl_iload _ _⟩, List.forall_mem_cons.mpr ⟨⟨s_isub d2_37, tl_isub _⟩, List.forall_mem_cons.mpr ⟨⟨q_invV_6 d2_38 wd_275, tl_invV _ _ _ _⟩, List.forall_mem_cons.mpr ⟨⟨s_iload_n d2_41 rfl, tl_iload _ _⟩, List.forall_mem_cons.mpr ⟨⟨s_iload d2_42, tl_iload _ _⟩, List.forall_mem_cons.mpr ⟨⟨s_iadd d2_44, tl_iadd _⟩, List.forall_mem_cons.mpr ⟨⟨s_aload_n d2_45 rfl, tl_aload _ _⟩, List.forall_mem_cons.mpr ⟨⟨f_getI_0_0 d2_46 wd_171, tl_getI _ _ _⟩, List.forall_mem_cons.mpr ⟨⟨s_icge d2_49 rfl, tl_icge _ _⟩, List.forall_mem_cons.mpr ⟨⟨s_aload_n d2_52 rfl, tl_aload _ _⟩, List.forall_mem_cons.mpr ⟨⟨s_aload_n d2_53 rfl, tl_aload _ _⟩, List.forall_mem_cons.mpr ⟨⟨s_iload_n d2_54 rfl, tl_iload _ _⟩, List.forall_mem_cons.mpr ⟨⟨s_iload d2_55, tl_iload _ _⟩, List.forall_mem_cons.mpr ⟨⟨s_iadd d2_57, tl_iadd _⟩, List.forall_mem_cons.mpr ⟨⟨q_invV_7 d2_58 wd_279, tl_invV _ _ _ _⟩, List.forall_mem_cons.mpr ⟨⟨s_aload_n d2_61 rfl, tl_aload _ _⟩, List.forall_mem_cons.mpr ⟨⟨q_invV_5 d2_62 wd_208, tl_invV _ _ _ _⟩, List.forall_mem_cons.mpr ⟨⟨s_iinc d2_65 rfl st1_2_4, tl_iinc _ _ _⟩, fun _ h => absurd h List.not_mem_nil⟩⟩⟩⟩⟩⟩⟩⟩⟩⟩⟩⟩⟩⟩⟩⟩⟩⟩⟩⟩⟩⟩⟩⟩⟩⟩⟩⟩⟩⟩⟩⟩⟩⟩⟩⟩⟩⟩⟩⟩
/-- RX0.layFolded -/
def t2_1 : List (Nat × pO) := [(68, o_goto 18), (71, o_vret)]
theorem ok2_1 : ∀ q ∈ t2_1, p_Z 2 q := List.forall_mem_cons.mpr ⟨⟨s_goto d2_68 rfl, tl_goto _⟩, List.forall_mem_cons.mpr ⟨⟨s_vret d2_71 rfl, tl_vret⟩, fun _ h => absurd h List.not_mem_nil⟩⟩
def t2 : List (Nat × pO) := t2_0 ++ (t2_1)
theorem ok2 : ∀ q ∈ t2, p_Z 2 q := List.forall_mem_append.mpr ⟨ok2_0, ok2_1⟩
theorem d3_0 : decode (pB 3) 0 = .ok (.aload_n 0, 1) := by decide +kernel
theorem d3_1 : decode (pB 3) 1 = .ok (.iconst 0, 1) := by decide +kernel
theorem d3_2 : decode (pB 3) 2 = .ok (.putfield 9, 3) := by decide +kernel
theorem d3_5 : decode (pB 3) 5 = .ok (.aload_n 0, 1) := by decide +kernel
theorem d3_6 : decode (pB 3) 6 = .ok (.iconst 0, 1) := by decide +kernel
theorem d3_7 : decode (pB 3) 7 = .ok (.putfield 15, 3) := by decide +kernel
theorem d3_10 : decode (pB 3) 10 = .ok (.return_, 1) := by decide +kernel
/-- RX0.clear -/
def t3_0 : List (Nat × pO) := [(0, o_aload 0 1), (1, o_push (.int (nI 0)) 2), (2, o_putI 0 0 5), (5, o_aload 0 6), (6, o_push (.int (nI 0)) 7), (7, o_putI 0 1 10), (10, o_vret)]
theorem ok3_0 : ∀ q ∈ t3_0, p_Z 3 q := List.forall_mem_cons.mpr ⟨⟨s_aload_n d3_0 rfl, tl_aload _ _⟩, List.forall_mem_cons.mpr ⟨⟨s_iconst d3_1 rfl, tl_push _ _⟩, List.forall_mem_cons.mpr ⟨⟨f_putI_0_0 d3_2 wd_171, tl_putI _ _ _⟩, List.forall_mem_cons.mpr ⟨⟨s_aload_n d3_5 rfl, tl_aload _ _⟩, List.forall_mem_cons.mpr ⟨⟨s_iconst d3_6 rfl, tl_push _ _⟩, List.forall_mem_cons.mpr ⟨⟨f_putI_0_1 d3_7 wd_174, tl_putI _ _ _⟩, List.forall_mem_cons.mpr ⟨⟨s_vret d3_10 rfl, tl_vret⟩, fun _ h => absurd h List.not_mem_nil⟩⟩⟩⟩⟩⟩⟩
def t3 : List (Nat × pO) := t3_0
theorem ok3 : ∀ q ∈ t3, p_Z 3 q := ok3_0
theorem d4_0 : decode (pB 4) 0 = .ok (.aload_n 0, 1) := by decide +kernel
theorem d4_1 : decode (pB 4) 1 = .ok (.getfield 18, 3) := by decide +kernel
theorem d4_4 : decode (pB 4) 4 = .ok (.aload_n 0, 1) := by decide +kernel
theorem d4_5 : decode (pB 4) 5 = .ok (.getfield 15, 3) := by decide +kernel
theorem d4_8 : decode (pB 4) 8 = .ok (.iload_n 1, 1) := by decide +kernel
theorem d4_9 : decode (pB 4) 9 = .ok (.iastore, 1) := by decide +kernel
theorem d4_10 : decode (pB 4) 10 = .ok (.aload_n 0, 1) := by decide +kernel
theorem d4_11 : decode (pB 4) 11 = .ok (.getfield 28, 3) := by decide +kernel
theorem d4_14 : decode (pB 4) 14 = .ok (.iload_n 1, 1) := by decide +kernel
theorem d4_15 : decode (pB 4) 15 = .ok (.aload_n 0, 1) := by decide +kernel
theorem d4_16 : decode (pB 4) 16 = .ok (.getfield 15, 3) := by decide +kernel
theorem d4_19 : decode (pB 4) 19 = .ok (.iastore, 1) := by decide +kernel
theorem d4_20 : decode (pB 4) 20 = .ok (.aload_n 0, 1) := by decide +kernel
theorem d4_21 : decode (pB 4) 21 = .ok (.getfield 25, 3) := by decide +kernel
theorem d4_24 : decode (pB 4) 24 = .ok (.iload_n 1, 1) := by decide +kernel
theorem d4_25 : decode (pB 4) 25 = .ok (.aload_n 0, 1) := by decide +kernel
theorem d4_26 : decode (pB 4) 26 = .ok (.getfield 9, 3) := by decide +kernel
theorem d4_29 : decode (pB 4) 29 = .ok (.iastore, 1) := by decide +kernel
theorem d4_30 : decode (pB 4) 30 = .ok (.aload_n 0, 1) := by decide +kernel
theorem d4_31 : decode (pB 4) 31 = .ok (.dup, 1) := by decide +kernel
theorem d4_32 : decode (pB 4) 32 = .ok (.getfield 15, 3) := by decide +kernel
theorem d4_35 : decode (pB 4) 35 = .ok (.iconst 1, 1) := by decide +kernel
theorem d4_36 : decode (pB 4) 36 = .ok (.iadd, 1) := by decide +kernel
theorem d4_37 : decode (pB 4) 37 = .ok (.putfield 15, 3) := by decide +kernel
theorem d4_40 : decode (pB 4) 40 = .ok (.return_, 1) := by decide +kernel
/-- RX0.addSeat -/
def t4_0 : List (Nat × pO) := [(0, o_aload 0 1), (1, o_getR 0 2 4), (4, o_aload 0 5), (5, o_getI 0 1 8), (8, o_iload 1 9), (9, o_iast 10), (10, o_aload 0 11), (11, o_getR 0 5 14), (14, o_iload 1 15), (15, o_aload 0 16), (16, o_getI 0 1 19), (19, o_iast 20), (20, o_aload 0 21), (21, o_getR 0 4 24), (24, o_iload 1 25), (25, o_aload 0 26), (26, o_getI 0 0 29), (29, o_iast 30), (30, o_aload 0 31), (31, o_dupr 32), (32, o_getI 0 1 35), (35, o_push (.int (nI 1)) 36), (36, o_iadd 37), (37, o_putI 0 1 40), (40, o_vret)]
theorem ok4_0 : ∀ q ∈ t4_0, p_Z 4 q := List.forall_mem_cons.mpr ⟨⟨s_aload_n d4_0 rfl, tl_aload _ _⟩, List.forall_mem_cons.mpr ⟨⟨f_getR_0_2 d4_1 wd_175, tl_getR _ _ _⟩, List.forall_mem_cons.mpr ⟨⟨s_aload_n d4_4 rfl, tl_aload _ _⟩, List.forall_mem_cons.mpr ⟨⟨f_getI_0_1 d4_5 wd_174, tl_getI _ _ _⟩, List.forall_mem_cons.mpr ⟨⟨s_iload_n d4_8 rfl, tl_iload _ _⟩, List.forall_mem_cons.mpr ⟨⟨s_iast d4_9, tl_iast _⟩, List.forall_mem_cons.mpr ⟨⟨s_aload_n d4_10 rfl, tl_aload _ _⟩, List.forall_mem_cons.mpr ⟨⟨f_getR_0_5 d4_11 wd_181, tl_getR _ _ _⟩, List.forall_mem_cons.mpr ⟨⟨s_iload_n d4_14 rfl, tl_iload _ _⟩, List.forall_mem_cons.mpr ⟨⟨s_aload_n d4_15 rfl, tl_aload _ _⟩, List.forall_mem_cons.mpr ⟨⟨f_getI_0_1 d4_16 wd_174, tl_getI _ _ _⟩, List.forall_mem_cons.mpr ⟨⟨s_iast d4_19, tl_iast _⟩, List.forall_mem_cons.mpr ⟨⟨s_aload_n d4_20 rfl, tl_aload _ _⟩, List.forall_mem_cons.mpr ⟨⟨f_getR_0_4 d4_21 wd_179, tl_getR _ _ _⟩, List.forall_mem_cons.mpr ⟨⟨s_iload_n d4_24 rfl, tl_iload _ _⟩, List.forall_mem_cons.mpr ⟨⟨s_aload_n d4_25 rfl, tl_aload _ _⟩, List.forall_mem_cons.mpr ⟨⟨f_getI_0_0 d4_26 wd_171, tl_getI _ _ _⟩, List.forall_mem_cons.mpr ⟨⟨s_iast d4_29, tl_iast _⟩, List.forall_mem_cons.mpr ⟨⟨s_aload_n d4_30 rfl, tl_aload _ _⟩, List.forall_mem_cons.mpr ⟨⟨s_dupr d4_31, tl_dupr _⟩, List.forall_mem_cons.mpr ⟨⟨f_getI_0_1 d4_32 wd_174, tl_getI _ _ _⟩, List.forall_mem_cons.mpr ⟨⟨s_iconst d4_35 rfl, tl_push _ _⟩, List.forall_mem_cons.mpr ⟨⟨s_iadd d4_36, tl_iadd _⟩, List.forall_mem_cons.mpr ⟨⟨f_putI_0_1 d4_37 wd_174, tl_putI _ _ _⟩, List.forall_mem_cons.mpr ⟨⟨s_vret d4_40 rfl, tl_vret⟩, fun _ h => absurd h List.not_mem_nil⟩⟩⟩⟩⟩⟩⟩⟩⟩⟩⟩⟩⟩⟩⟩⟩⟩⟩⟩⟩⟩⟩⟩⟩⟩
def t4 : List (Nat × pO) := t4_0
theorem ok4 : ∀ q ∈ t4, p_Z 4 q := ok4_0
theorem d5_0 : decode (pB 5) 0 = .ok (.aload_n 0, 1) := by decide +kernel
theorem d5_1 : decode (pB 5) 1 = .ok (.dup, 1) := by decide +kernel
theorem d5_2 : decode (pB 5) 2 = .ok (.getfield 9, 3) := by decide +kernel
theorem d5_5 : decode (pB 5) 5 = .ok (.iconst 1, 1) := by decide +kernel
theorem d5_6 : decode (pB 5) 6 = .ok (.iadd, 1) := by decide +kernel
theorem d5_7 : decode (pB 5) 7 = .ok (.putfield 9, 3) := by decide +kernel
theorem d5_10 : decode (pB 5) 10 = .ok (.aload_n 0, 1) := by decide +kernel
theorem d5_11 : decode (pB 5) 11 = .ok (.getfield 22, 3) := by decide +kernel
theorem d5_14 : decode (pB 5) 14 = .ok (.aload_n 0, 1) := by decide +kernel
theorem d5_15 : decode (pB 5) 15 = .ok (.getfield 9, 3) := by decide +kernel
theorem d5_18 : decode (pB 5) 18 = .ok (.aload_n 0, 1) := by decide +kernel
theorem d5_19 : decode (pB 5) 19 = .ok (.getfield 15, 3) := by decide +kernel
theorem d5_22 : decode (pB 5) 22 = .ok (.iastore, 1) := by decide +kernel
theorem d5_23 : decode (pB 5) 23 = .ok (.return_, 1) := by decide +kernel
/-- RX0.closeColumn -/
def t5_0 : List (Nat × pO) := [(0, o_aload 0 1), (1, o_dupr 2), (2, o_getI 0 0 5), (5, o_push (.int (nI 1)) 6), (6, o_iadd 7), (7, o_putI 0 0 10), (10, o_aload 0 11), (11, o_getR 0 3 14), (14, o_aload 0 15), (15, o_getI 0 0 18), (18, o_aload 0 19), (19, o_getI 0 1 22), (22, o_iast 23), (23, o_vret)]
theorem ok5_0 : ∀ q ∈ t5_0, p_Z 5 q := List.forall_mem_cons.mpr ⟨⟨s_aload_n d5_0 rfl, tl_aload _ _⟩, List.forall_mem_cons.mpr ⟨⟨s_dupr d5_1, tl_dupr _⟩, List.forall_mem_cons.mpr ⟨⟨f_getI_0_0 d5_2 wd_171, tl_getI _ _ _⟩, List.forall_mem_cons.mpr ⟨⟨s_iconst d5_5 rfl, tl_push _ _⟩, List.forall_mem_cons.mpr ⟨⟨s_iadd d5_6, tl_iadd _⟩, List.forall_mem_cons.mpr ⟨⟨f_putI_0_0 d5_7 wd_171, tl_putI _ _ _⟩, List.forall_mem_cons.mpr ⟨⟨s_aload_n d5_10 rfl, tl_aload _ _⟩, List.forall_mem_cons.mpr ⟨⟨f_getR_0_3 d5_11 wd_177, tl_getR _ _ _⟩, List.forall_mem_cons.mpr ⟨⟨s_aload_n d5_14 rfl, tl_aload _ _⟩, List.forall_mem_cons.mpr ⟨⟨f_getI_0_0 d5_15 wd_171, tl_getI _ _ _⟩, List.forall_mem_cons.mpr ⟨⟨s_aload_n d5_18 rfl, tl_aload _ _⟩, List.forall_mem_cons.mpr ⟨⟨f_getI_0_1 d5_19 wd_174, tl_getI _ _ _⟩, List.forall_mem_cons.mpr ⟨⟨s_iast d5_22, tl_iast _⟩, List.forall_mem_cons.mpr ⟨⟨s_vret d5_23 rfl, tl_vret⟩, fun _ h => absurd h List.not_mem_nil⟩⟩⟩⟩⟩⟩⟩⟩⟩⟩⟩⟩⟩⟩
def t5 : List (Nat × pO) := t5_0
theorem ok5 : ∀ q ∈ t5, p_Z 5 q := ok5_0
theorem d6_0 : decode (pB 6) 0 = .ok (.aload_n 1, 1) := by decide +kernel
theorem d6_1 : decode (pB 6) 1 = .ok (.getfield 22, 3) := by decide +kernel
theorem d6_4 : decode (pB 6) 4 = .ok (.iload_n 2, 1) := by decide +kernel
theorem d6_5 : decode (pB 6) 5 = .ok (.iaload, 1) := by decide +kernel
theorem d6_6 : decode (pB 6) 6 = .ok (.istore_n 3, 1) := by decide +kernel
theorem d6_7 : decode (pB 6) 7 = .ok (.iload_n 3, 1) := by decide +kernel
theorem d6_8 : decode (pB 6) 8 = .ok (.aload_n 1, 1) := by decide +kernel
theorem d6_9 : decode (pB 6) 9 = .ok (.getfield 22, 3) := by decide +kernel
theorem d6_12 : decode (pB 6) 12 = .ok (.iload_n 2, 1) := by decide +kernel
theorem d6_13 : decode (pB 6) 13 = .ok (.iconst 1, 1) := by decide +kernel
theorem d6_14 : decode (pB 6) 14 = .ok (.iadd, 1) := by decide +kernel
theorem d6_15 : decode (pB 6) 15 = .ok (.iaload, 1) := by decide +kernel
theorem d6_16 : decode (pB 6) 16 = .ok (.if_icmp .ge 19, 3) := by decide +kernel
theorem d6_19 : decode (pB 6) 19 = .ok (.aload_n 0, 1) := by decide +kernel
theorem d6_20 : decode (pB 6) 20 = .ok (.aload_n 1, 1) := by decide +kernel
theorem d6_21 : decode (pB 6) 21 = .ok (.getfield 18, 3) := by decide +kernel
theorem d6_24 : decode (pB 6) 24 = .ok (.iload_n 3, 1) := by decide +kernel
theorem d6_25 : decode (pB 6) 25 = .ok (.iaload, 1) := by decide +kernel
theorem d6_26 : decode (pB 6) 26 = .ok (.invokevirtual 34, 3) := by decide +kernel
theorem d6_29 : decode (pB 6) 29 = .ok (.iinc 3 1, 3) := by decide +kernel
theorem d6_32 : decode (pB 6) 32 = .ok (.goto (-25), 3) := by decide +kernel
theorem d6_35 : decode (pB 6) 35 = .ok (.return_, 1) := by decide +kernel
theorem st1_6_3 : p_st1 6 3 = true := by decide +kernel
/-- RX0.addUpright -/
def t6_0 : List (Nat × pO) := [(0, o_aload 1 1), (1, o_getR 0 3 4), (4, o_iload 2 5), (5, o_iald 6), (6, o_istore 3 7), (7, o_iload 3 8), (8, o_aload 1 9), (9, o_getR 0 3 12), (12, o_iload 2 13), (13, o_push (.int (nI 1)) 14), (14, o_iadd 15), (15, o_iald 16), (16, o_icge 35 19), (19, o_aload 0 20), (20, o_aload 1 21), (21, o_getR 0 2 24), (24, o_iload 3 25), (25, o_iald 26), (26, o_invV 0 4 1 29), (29, o_iinc 3 (nI 1) 32), (32, o_goto 7), (35, o_vret)]
theorem ok6_0 : ∀ q ∈ t6_0, p_Z 6 q := List.forall_mem_cons.mpr ⟨⟨s_aload_n d6_0 rfl, tl_aload _ _⟩, List.forall_mem_cons.mpr ⟨⟨f_getR_0_3 d6_1 wd_177, tl_getR _ _ _⟩, List.forall_mem_cons.mpr ⟨⟨s_iload_n d6_4 rfl, tl_iload _ _⟩, List.forall_mem_cons.mpr ⟨⟨s_iald d6_5, tl_iald _⟩, List.forall_mem_cons.mpr ⟨⟨s_istore_n d6_6 rfl st1_6_3, tl_istore _ _⟩, List.forall_mem_cons.mpr ⟨⟨s_iload_n d6_7 rfl, tl_iload _ _⟩, List.forall_mem_cons.mpr ⟨⟨s_aload_n d6_8 rfl, tl_aload _ _⟩, List.forall_mem_cons.mpr ⟨⟨f_getR_0_3 d6_9 wd_177, tl_getR _ _ _⟩, List.forall_mem_cons.mpr ⟨⟨s_iload_n d6_12 rfl, tl_iload _ _⟩, List.forall_mem_cons.mpr ⟨⟨s_iconst d6_13 rfl, tl_push _ _⟩, List.forall_mem_cons.mpr ⟨⟨s_iadd d6_14, tl_iadd _⟩, List.forall_mem_cons.mpr ⟨⟨s_iald d6_15, tl_iald _⟩, List.forall_mem_cons.mpr ⟨⟨s_icge d6_16 rfl, tl_icge _ _⟩, List.forall_mem_cons.mpr ⟨⟨s_aload_n d6_19 rfl, tl_aload _ _⟩, List.forall_mem_cons.mpr ⟨⟨s_aload_n d6_20 rfl, tl_aload _ _⟩, List.forall_mem_cons.mpr ⟨⟨f_getR_0_2 d6_21 wd_175, tl_getR _ _ _⟩, List.forall_mem_cons.mpr ⟨⟨s_iload_n d6_24 rfl, tl_iload _ _⟩, List.forall_mem_cons.mpr ⟨⟨s_iald d6_25, tl_iald _⟩, List.forall_mem_cons.mpr ⟨⟨q_invV_4 d6_26 wd_204, tl_invV _ _ _ _⟩, List.forall_mem_cons.mpr ⟨⟨s_iinc d6_29 rfl st1_6_3, tl_iinc _ _ _⟩, List.forall_mem_cons.mpr ⟨⟨s_goto d6_32 rfl, tl_goto _⟩, List.forall_mem_cons.mpr ⟨⟨s_vret d6_35 rfl, tl_vret⟩, fun _ h => absurd h List.not_mem_nil⟩⟩⟩⟩⟩⟩⟩⟩⟩⟩⟩⟩⟩⟩⟩⟩⟩⟩⟩⟩⟩⟩
def t6 : List (Nat × pO) := t6_0
theorem ok6 : ∀ q ∈ t6, p_Z 6 q := ok6_0
theorem d7_0 : decode (pB 7) 0 = .ok (.aload_n 1, 1) := by decide +kernel
theorem d7_1 : decode (pB 7) 1 = .ok (.getfield 22, 3) := by decide +kernel
theorem d7_4 : decode (pB 7) 4 = .ok (.iload_n 2, 1) := by decide +kernel
theorem d7_5 : decode (pB 7) 5 = .ok (.iconst 1, 1) := by decide +kernel
theorem d7_6 : decode (pB 7) 6 = .ok (.iadd, 1) := by decide +kernel
theorem d7_7 : decode (pB 7) 7 = .ok (.iaload, 1) := by decide +kernel
theorem d7_8 : decode (pB 7) 8 = .ok (.iconst 1, 1) := by decide +kernel
theorem d7_9 : decode (pB 7) 9 = .ok (.isub, 1) := by decide +kernel
theorem d7_10 : decode (pB 7) 10 = .ok (.istore_n 3, 1) := by decide +kernel
theorem d7_11 : decode (pB 7) 11 = .ok (.iload_n 3, 1) := by decide +kernel
theorem d7_12 : decode (pB 7) 12 = .ok (.aload_n 1, 1) := by decide +kernel
theorem d7_13 : decode (pB 7) 13 = .ok (.getfield 22, 3) := by decide +kernel
theorem d7_16 : decode (pB 7) 16 = .ok (.iload_n 2, 1) := by decide +kernel
theorem d7_17 : decode (pB 7) 17 = .ok (.iaload, 1) := by decide +kernel
theorem d7_18 : decode (pB 7) 18 = .ok (.if_icmp .lt 19, 3) := by decide +kernel
theorem d7_21 : decode (pB 7) 21 = .ok (.aload_n 0, 1) := by decide +kernel
theorem d7_22 : decode (pB 7) 22 = .ok (.aload_n 1, 1) := by decide +kernel
theorem d7_23 : decode (pB 7) 23 = .ok (.getfield 18, 3) := by decide +kernel
theorem d7_26 : decode (pB 7) 26 = .ok (.iload_n 3, 1) := by decide +kernel
theorem d7_27 : decode (pB 7) 27 = .ok (.iaload, 1) := by decide +kernel
theorem d7_28 : decode (pB 7) 28 = .ok (.invokevirtual 34, 3) := by decide +kernel
theorem d7_31 : decode (pB 7) 31 = .ok (.iinc 3 (-1), 3) := by decide +kernel
theorem d7_34 : decode (pB 7) 34 = .ok (.goto (-23), 3) := by decide +kernel
theorem d7_37 : decode (pB 7) 37 = .ok (.return_, 1) := by decide +kernel
theorem st1_7_3 : p_st1 7 3 = true := by decide +kernel
/-- RX0.addTurned -/
def t7_0 : List (Nat × pO) := [(0, o_aload 1 1), (1, o_getR 0 3 4), (4, o_iload 2 5), (5, o_push (.int (nI 1)) 6), (6, o_iadd 7), (7, o_iald 8), (8, o_push (.int (nI 1)) 9), (9, o_isub 10), (10, o_istore 3 11), (11, o_iload 3 12), (12, o_aload 1 13), (13, o_getR 0 3 16), (16, o_iload 2 17), (17, o_iald 18), (18, o_iclt 37 21), (21, o_aload 0 22), (22, o_aload 1 23), (23, o_getR 0 2 26), (26, o_iload 3 27), (27, o_iald 28), (28, o_invV 0 4 1 31), (31, o_iinc 3 (nM 1) 34), (34, o_goto 11), (37, o_vret)]
theorem ok7_0 : ∀ q ∈ t7_0, p_Z 7 q := List.forall_mem_cons.mpr ⟨⟨s_aload_n d7_0 rfl, tl_aload _ _⟩, List.forall_mem_cons.mpr ⟨⟨f_getR_0_3 d7_1 wd_177, tl_getR _ _ _⟩, List.forall_mem_cons.mpr ⟨⟨s_iload_n d7_4 rfl, tl_iload _ _⟩, List.forall_mem_cons.mpr ⟨⟨s_iconst d7_5 rfl, tl_push _ _⟩, List.forall_mem_cons.mpr ⟨⟨s_iadd d7_6, tl_iadd _⟩, List.forall_mem_cons.mpr ⟨⟨s_iald d7_7, tl_iald _⟩, List.forall_mem_cons.mpr ⟨⟨s_iconst d7_8 rfl, tl_push _ _⟩, List.forall_mem_cons.mpr ⟨⟨s_isub d7_9, tl_isub _⟩, List.forall_mem_cons.mpr ⟨⟨s_istore_n d7_10 rfl st1_7_3, tl_istore _ _⟩, List.forall_mem_cons.mpr ⟨⟨s_iload_n d7_11 rfl, tl_iload _ _⟩, List.forall_mem_cons.mpr ⟨⟨s_aload_n d7_12 rfl, tl_aload _ _⟩, List.forall_mem_cons.mpr ⟨⟨f_getR_0_3 d7_13 wd_177, tl_getR _ _ _⟩, List.forall_mem_cons.mpr ⟨⟨s_iload_n d7_16 rfl, tl_iload _ _⟩, List.forall_mem_cons.mpr ⟨⟨s_iald d7_17, tl_iald _⟩, List.forall_mem_cons.mpr ⟨⟨s_iclt d7_18 rfl, tl_iclt _ _⟩, List.forall_mem_cons.mpr ⟨⟨s_aload_n d7_21 rfl, tl_aload _ _⟩, List.forall_mem_cons.mpr ⟨⟨s_aload_n d7_22 rfl, tl_aload _ _⟩, List.forall_mem_cons.mpr ⟨⟨f_getR_0_2 d7_23 wd_175, tl_getR _ _ _⟩, List.forall_mem_cons.mpr ⟨⟨s_iload_n d7_26 rfl, tl_iload _ _⟩, List.forall_mem_cons.mpr ⟨⟨s_iald d7_27, tl_iald _⟩, List.forall_mem_cons.mpr ⟨⟨q_invV_4 d7_28 wd_204, tl_invV _ _ _ _⟩, List.forall_mem_cons.mpr ⟨⟨s_iinc d7_31 rfl st1_7_3, tl_iinc _ _ _⟩, List.forall_mem_cons.mpr ⟨⟨s_goto d7_34 rfl, tl_goto _⟩, List.forall_mem_cons.mpr ⟨⟨s_vret d7_37 rfl, tl_vret⟩, fun _ h => absurd h List.not_mem_nil⟩⟩⟩⟩⟩⟩⟩⟩⟩⟩⟩⟩⟩⟩⟩⟩⟩⟩⟩⟩⟩⟩⟩⟩
def t7 : List (Nat × pO) := t7_0
theorem ok7 : ∀ q ∈ t7, p_Z 7 q := ok7_0
theorem d8_0 : decode (pB 8) 0 = .ok (.aload_n 0, 1) := by decide +kernel
theorem d8_1 : decode (pB 8) 1 = .ok (.getfield 22, 3) := by decide +kernel
theorem d8_4 : decode (pB 8) 4 = .ok (.iload_n 1, 1) := by decide +kernel
theorem d8_5 : decode (pB 8) 5 = .ok (.iconst 1, 1) := by decide +kernel
theorem d8_6 : decode (pB 8) 6 = .ok (.iadd, 1) := by decide +kernel
theorem d8_7 : decode (pB 8) 7 = .ok (.iaload, 1) := by decide +kernel
theorem d8_8 : decode (pB 8) 8 = .ok (.aload_n 0, 1) := by decide +kernel
theorem d8_9 : decode (pB 8) 9 = .ok (.getfield 22, 3) := by decide +kernel
theorem d8_12 : decode (pB 8) 12 = .ok (.iload_n 1, 1) := by decide +kernel
theorem d8_13 : decode (pB 8) 13 = .ok (.iaload, 1) := by decide +kernel
theorem d8_14 : decode (pB 8) 14 = .ok (.isub, 1) := by decide +kernel
theorem d8_15 : decode (pB 8) 15 = .ok (.ireturn, 1) := by decide +kernel
/-- RX0.heightOf -/
def t8_0 : List (Nat × pO) := [(0, o_aload 0 1), (1, o_getR 0 3 4), (4, o_iload 1 5), (5, o_push (.int (nI 1)) 6), (6, o_iadd 7), (7, o_iald 8), (8, o_aload 0 9), (9, o_getR 0 3 12), (12, o_iload 1 13), (13, o_iald 14), (14, o_isub 15), (15, o_iret)]
theorem ok8_0 : ∀ q ∈ t8_0, p_Z 8 q := List.forall_mem_cons.mpr ⟨⟨s_aload_n d8_0 rfl, tl_aload _ _⟩, List.forall_mem_cons.mpr ⟨⟨f_getR_0_3 d8_1 wd_177, tl_getR _ _ _⟩, List.forall_mem_cons.mpr ⟨⟨s_iload_n d8_4 rfl, tl_iload _ _⟩, List.forall_mem_cons.mpr ⟨⟨s_iconst d8_5 rfl, tl_push _ _⟩, List.forall_mem_cons.mpr ⟨⟨s_iadd d8_6, tl_iadd _⟩, List.forall_mem_cons.mpr ⟨⟨s_iald d8_7, tl_iald _⟩, List.forall_mem_cons.mpr ⟨⟨s_aload_n d8_8 rfl, tl_aload _ _⟩, List.forall_mem_cons.mpr ⟨⟨f_getR_0_3 d8_9 wd_177, tl_getR _ _ _⟩, List.forall_mem_cons.mpr ⟨⟨s_iload_n d8_12 rfl, tl_iload _ _⟩, List.forall_mem_cons.mpr ⟨⟨s_iald d8_13, tl_iald _⟩, List.forall_mem_cons.mpr ⟨⟨s_isub d8_14, tl_isub _⟩, List.forall_mem_cons.mpr ⟨⟨s_iret d8_15 rfl, tl_iret⟩, fun _ h => absurd h List.not_mem_nil⟩⟩⟩⟩⟩⟩⟩⟩⟩⟩⟩⟩
def t8 : List (Nat × pO) := t8_0
theorem ok8 : ∀ q ∈ t8, p_Z 8 q := ok8_0
theorem d9_0 : decode (pB 9) 0 = .ok (.aload_n 0, 1) := by decide +kernel
theorem d9_1 : decode (pB 9) 1 = .ok (.getfield 18, 3) := by decide +kernel
theorem d9_4 : decode (pB 9) 4 = .ok (.aload_n 0, 1) := by decide +kernel
theorem d9_5 : decode (pB 9) 5 = .ok (.getfield 22, 3) := by decide +kernel
theorem d9_8 : decode (pB 9) 8 = .ok (.iload_n 1, 1) := by decide +kernel
theorem d9_9 : decode (pB 9) 9 = .ok (.iconst 1, 1) := by decide +kernel
theorem d9_10 : decode (pB 9) 10 = .ok (.iadd, 1) := by decide +kernel
theorem d9_11 : decode (pB 9) 11 = .ok (.iaload, 1) := by decide +kernel
theorem d9_12 : decode (pB 9) 12 = .ok (.iconst 1, 1) := by decide +kernel
theorem d9_13 : decode (pB 9) 13 = .ok (.isub, 1) := by decide +kernel
theorem d9_14 : decode (pB 9) 14 = .ok (.iaload, 1) := by decide +kernel
theorem d9_15 : decode (pB 9) 15 = .ok (.ireturn, 1) := by decide +kernel
/-- RX0.topOf -/
def t9_0 : List (Nat × pO) := [(0, o_aload 0 1), (1, o_getR 0 2 4), (4, o_aload 0 5), (5, o_getR 0 3 8), (8, o_iload 1 9), (9, o_push (.int (nI 1)) 10), (10, o_iadd 11), (11, o_iald 12), (12, o_push (.int (nI 1)) 13), (13, o_isub 14), (14, o_iald 15), (15, o_iret)]
theorem ok9_0 : ∀ q ∈ t9_0, p_Z 9 q := List.forall_mem_cons.mpr ⟨⟨s_aload_n d9_0 rfl, tl_aload _ _⟩, List.forall_mem_cons.mpr ⟨⟨f_getR_0_2 d9_1 wd_175, tl_getR _ _ _⟩, List.forall_mem_cons.mpr ⟨⟨s_aload_n d9_4 rfl, tl_aload _ _⟩, List.forall_mem_cons.mpr ⟨⟨f_getR_0_3 d9_5 wd_177, tl_getR _ _ _⟩, List.forall_mem_cons.mpr ⟨⟨s_iload_n d9_8 rfl, tl_iload _ _⟩, List.forall_mem_cons.mpr ⟨⟨s_iconst d9_9 rfl, tl_push _ _⟩, List.forall_mem_cons.mpr ⟨⟨s_iadd d9_10, tl_iadd _⟩, List.forall_mem_cons.mpr ⟨⟨s_iald d9_11, tl_iald _⟩, List.forall_mem_cons.mpr ⟨⟨s_iconst d9_12 rfl, tl_push _ _⟩, List.forall_mem_cons.mpr ⟨⟨s_isub d9_13, tl_isub _⟩, List.forall_mem_cons.mpr ⟨⟨s_iald d9_14, tl_iald _⟩, List.forall_mem_cons.mpr ⟨⟨s_iret d9_15 rfl, tl_iret⟩, fun _ h => absurd h List.not_mem_nil⟩⟩⟩⟩⟩⟩⟩⟩⟩⟩⟩⟩
def t9 : List (Nat × pO) := t9_0
theorem ok9 : ∀ q ∈ t9, p_Z 9 q := ok9_0
theorem d10_0 : decode (pB 10) 0 = .ok (.iconst 0, 1) := by decide +kernel
theorem d10_1 : decode (pB 10) 1 = .ok (.istore_n 1, 1) := by decide +kernel
theorem d10_2 : decode (pB 10) 2 = .ok (.iconst 0, 1) := by decide +kernel
theorem d10_3 : decode (pB 10) 3 = .ok (.istore_n 2, 1) := by decide +kernel
theorem d10_4 : decode (pB 10) 4 = .ok (.iload_n 2, 1) := by decide +kernel
theorem d10_5 : decode (pB 10) 5 = .ok (.aload_n 0, 1) := by decide +kernel
theorem d10_6 : decode (pB 10) 6 = .ok (.getfield 9, 3) := by decide +kernel
theorem d10_9 : decode (pB 10) 9 = .ok (.if_icmp .ge 19, 3) := by decide +kernel
theorem d10_12 : decode (pB 10) 12 = .ok (.iload_n 1, 1) := by decide +kernel
theorem d10_13 : decode (pB 10) 13 = .ok (.aload_n 0, 1) := by decide +kernel
theorem d10_14 : decode (pB 10) 14 = .ok (.iload_n 2, 1) := by decide +kernel
theorem d10_15 : decode (pB 10) 15 = .ok (.invokevirtual 54, 3) := by decide +kernel
theorem d10_18 : decode (pB 10) 18 = .ok (.invokestatic 41, 3) := by decide +kernel
theorem d10_21 : decode (pB 10) 21 = .ok (.istore_n 1, 1) := by decide +kernel
theorem d10_22 : decode (pB 10) 22 = .ok (.iinc 2 1, 3) := by decide +kernel
theorem d10_25 : decode (pB 10) 25 = .ok (.goto (-21), 3) := by decide +kernel
theorem d10_28 : decode (pB 10) 28 = .ok (.iload_n 1, 1) := by decide +kernel
theorem d10_29 : decode (pB 10) 29 = .ok (.ireturn, 1) := by decide +kernel
theorem st1_10_1 : p_st1 10 1 = true := by decide +kernel
theorem st1_10_2 : p_st1 10 2 = true := by decide +kernel
/-- RX0.highest -/
def t10_0 : List (Nat × pO) := [(0, o_push (.int (nI 0)) 1), (1, o_istore 1 2), (2, o_push (.int (nI 0)) 3), (3, o_istore 2 4), (4, o_iload 2 5), (5, o_aload 0 6), (6, o_getI 0 0 9), (9, o_icge 28 12), (12, o_iload 1 13), (13, o_aload 0 14), (14, o_iload 2 15), (15, o_invV 0 8 1 18), (18, o_max 21), (21, o_istore 1 22), (22, o_iinc 2 (nI 1) 25), (25, o_goto 4), (28, o_iload 1 29), (29, o_iret)]
theorem ok10_0 : ∀ q ∈ t10_0, p_Z 10 q := List.forall_mem_cons.mpr ⟨⟨s_iconst d10_0 rfl, tl_push _ _⟩, List.forall_mem_cons.mpr ⟨⟨s_istore_n d10_1 rfl st1_10_1, tl_istore _ _⟩, List.forall_mem_cons.mpr ⟨⟨s_iconst d10_2 rfl, tl_push _ _⟩, List.forall_mem_cons.mpr ⟨⟨s_istore_n d10_3 rfl st1_10_2, tl_istore _ _⟩, List.forall_mem_cons.mpr ⟨⟨s_iload_n d10_4 rfl, tl_iload _ _⟩, List.forall_mem_cons.mpr ⟨⟨s_aload_n d10_5 rfl, tl_aload _ _⟩, List.forall_mem_cons.mpr ⟨⟨f_getI_0_0 d10_6 wd_171, tl_getI _ _ _⟩, List.forall_mem_cons.mpr ⟨⟨s_icge d10_9 rfl, tl_icge _ _⟩, List.forall_mem_cons.mpr ⟨⟨s_iload_n d10_12 rfl, tl_iload _ _⟩, List.forall_mem_cons.mpr ⟨⟨s_aload_n d10_13 rfl, tl_aload _ _⟩, List.forall_mem_cons.mpr ⟨⟨s_iload_n d10_14 rfl, tl_iload _ _⟩, List.forall_mem_cons.mpr ⟨⟨q_invV_8 d10_15 wd_409, tl_invV _ _ _ _⟩, List.forall_mem_cons.mpr ⟨⟨s_max d10_18 wd_272 wd_273 wd_67 wd_274, tl_max _⟩, List.forall_mem_cons.mpr ⟨⟨s_istore_n d10_21 rfl st1_10_1, tl_istore _ _⟩, List.forall_mem_cons.mpr ⟨⟨s_iinc d10_22 rfl st1_10_2, tl_iinc _ _ _⟩, List.forall_mem_cons.mpr ⟨⟨s_goto d10_25 rfl, tl_goto _⟩, List.forall_mem_cons.mpr ⟨⟨s_iload_n d10_28 rfl, tl_iload _ _⟩, List.forall_mem_cons.mpr ⟨⟨s_iret d10_29 rfl, tl_iret⟩, fun _ h => absurd h List.not_mem_nil⟩⟩⟩⟩⟩⟩⟩⟩⟩⟩⟩⟩⟩⟩⟩⟩⟩⟩
def t10 : List (Nat × pO) := t10_0
theorem ok10 : ∀ q ∈ t10, p_Z 10 q := ok10_0
theorem d11_0 : decode (pB 11) 0 = .ok (.aload_n 0, 1) := by decide +kernel
theorem d11_1 : decode (pB 11) 1 = .ok (.getfield 28, 3) := by decide +kernel
theorem d11_4 : decode (pB 11) 4 = .ok (.iload_n 1, 1) := by decide +kernel
theorem d11_5 : decode (pB 11) 5 = .ok (.iaload, 1) := by decide +kernel
theorem d11_6 : decode (pB 11) 6 = .ok (.aload_n 0, 1) := by decide +kernel
theorem d11_7 : decode (pB 11) 7 = .ok (.getfield 22, 3) := by decide +kernel
theorem d11_10 : decode (pB 11) 10 = .ok (.aload_n 0, 1) := by decide +kernel
theorem d11_11 : decode (pB 11) 11 = .ok (.getfield 25, 3) := by decide +kernel
theorem d11_14 : decode (pB 11) 14 = .ok (.iload_n 1, 1) := by decide +kernel
theorem d11_15 : decode (pB 11) 15 = .ok (.iaload, 1) := by decide +kernel
theorem d11_16 : decode (pB 11) 16 = .ok (.iaload, 1) := by decide +kernel
theorem d11_17 : decode (pB 11) 17 = .ok (.isub, 1) := by decide +kernel
theorem d11_18 : decode (pB 11) 18 = .ok (.ireturn, 1) := by decide +kernel
/-- RX0.rankOf -/
def t11_0 : List (Nat × pO) := [(0, o_aload 0 1), (1, o_getR 0 5 4), (4, o_iload 1 5), (5, o_iald 6), (6, o_aload 0 7), (7, o_getR 0 3 10), (10, o_aload 0 11), (11, o_getR 0 4 14), (14, o_iload 1 15), (15, o_iald 16), (16, o_iald 17), (17, o_isub 18), (18, o_iret)]
theorem ok11_0 : ∀ q ∈ t11_0, p_Z 11 q := List.forall_mem_cons.mpr ⟨⟨s_aload_n d11_0 rfl, tl_aload _ _⟩, List.forall_mem_cons.mpr ⟨⟨f_getR_0_5 d11_1 wd_181, tl_getR _ _ _⟩, List.forall_mem_cons.mpr ⟨⟨s_iload_n d11_4 rfl, tl_iload _ _⟩, List.forall_mem_cons.mpr ⟨⟨s_iald d11_5, tl_iald _⟩, List.forall_mem_cons.mpr ⟨⟨s_aload_n d11_6 rfl, tl_aload _ _⟩, List.forall_mem_cons.mpr ⟨⟨f_getR_0_3 d11_7 wd_177, tl_getR _ _ _⟩, List.forall_mem_cons.mpr ⟨⟨s_aload_n d11_10 rfl, tl_aload _ _⟩, List.forall_mem_cons.mpr ⟨⟨f_getR_0_4 d11_11 wd_179, tl_getR _ _ _⟩, List.forall_mem_cons.mpr ⟨⟨s_iload_n d11_14 rfl, tl_iload _ _⟩, List.forall_mem_cons.mpr ⟨⟨s_iald d11_15, tl_iald _⟩, List.forall_mem_cons.mpr ⟨⟨s_iald d11_16, tl_iald _⟩, List.forall_mem_cons.mpr ⟨⟨s_isub d11_17, tl_isub _⟩, List.forall_mem_cons.mpr ⟨⟨s_iret d11_18 rfl, tl_iret⟩, fun _ h => absurd h List.not_mem_nil⟩⟩⟩⟩⟩⟩⟩⟩⟩⟩⟩⟩⟩
def t11 : List (Nat × pO) := t11_0
theorem ok11 : ∀ q ∈ t11, p_Z 11 q := ok11_0
theorem d12_0 : decode (pB 12) 0 = .ok (.aload_n 0, 1) := by decide +kernel
theorem d12_1 : decode (pB 12) 1 = .ok (.iload_n 1, 1) := by decide +kernel
theorem d12_2 : decode (pB 12) 2 = .ok (.invokevirtual 58, 3) := by decide +kernel
theorem d12_5 : decode (pB 12) 5 = .ok (.ifCond .ne 8, 3) := by decide +kernel
theorem d12_8 : decode (pB 12) 8 = .ok (.bipush (-6), 2) := by decide +kernel
theorem d12_10 : decode (pB 12) 10 = .ok (.goto 16, 3) := by decide +kernel
theorem d12_13 : decode (pB 12) 13 = .ok (.aload_n 0, 1) := by decide +kernel
theorem d12_14 : decode (pB 12) 14 = .ok (.getfield 18, 3) := by decide +kernel
theorem d12_17 : decode (pB 12) 17 = .ok (.aload_n 0, 1) := by decide +kernel
theorem d12_18 : decode (pB 12) 18 = .ok (.getfield 28, 3) := by decide +kernel
theorem d12_21 : decode (pB 12) 21 = .ok (.iload_n 1, 1) := by decide +kernel
theorem d12_22 : decode (pB 12) 22 = .ok (.iaload, 1) := by decide +kernel
theorem d12_23 : decode (pB 12) 23 = .ok (.iconst 1, 1) := by decide +kernel
theorem d12_24 : decode (pB 12) 24 = .ok (.isub, 1) := by decide +kernel
theorem d12_25 : decode (pB 12) 25 = .ok (.iaload, 1) := by decide +kernel
theorem d12_26 : decode (pB 12) 26 = .ok (.ireturn, 1) := by decide +kernel
/-- RX0.seatBelow -/
def t12_0 : List (Nat × pO) := [(0, o_aload 0 1), (1, o_iload 1 2), (2, o_invV 0 11 1 5), (5, o_ifne 13 8), (8, o_push (.int (nM 6)) 10), (10, o_goto 26), (13, o_aload 0 14), (14, o_getR 0 2 17), (17, o_aload 0 18), (18, o_getR 0 5 21), (21, o_iload 1 22), (22, o_iald 23), (23, o_push (.int (nI 1)) 24), (24, o_isub 25), (25, o_iald 26), (26, o_iret)]
theorem ok12_0 : ∀ q ∈ t12_0, p_Z 12 q := List.forall_mem_cons.mpr ⟨⟨s_aload_n d12_0 rfl, tl_aload _ _⟩, List.forall_mem_cons.mpr ⟨⟨s_iload_n d12_1 rfl, tl_iload _ _⟩, List.forall_mem_cons.mpr ⟨⟨q_invV_11 d12_2 wd_405, tl_invV _ _ _ _⟩, List.forall_mem_cons.mpr ⟨⟨s_ifne d12_5 rfl, tl_ifne _ _⟩, List.forall_mem_cons.mpr ⟨⟨s_bipush d12_8 rfl, tl_push _ _⟩, List.forall_mem_cons.mpr ⟨⟨s_goto d12_10 rfl, tl_goto _⟩, List.forall_mem_cons.mpr ⟨⟨s_aload_n d12_13 rfl, tl_aload _ _⟩, List.forall_mem_cons.mpr ⟨⟨f_getR_0_2 d12_14 wd_175, tl_getR _ _ _⟩, List.forall_mem_cons.mpr ⟨⟨s_aload_n d12_17 rfl, tl_aload _ _⟩, List.forall_mem_cons.mpr ⟨⟨f_getR_0_5 d12_18 wd_181, tl_getR _ _ _⟩, List.forall_mem_cons.mpr ⟨⟨s_iload_n d12_21 rfl, tl_iload _ _⟩, List.forall_mem_cons.mpr ⟨⟨s_iald d12_22, tl_iald _⟩, List.forall_mem_cons.mpr ⟨⟨s_iconst d12_23 rfl, tl_push _ _⟩, List.forall_mem_cons.mpr ⟨⟨s_isub d12_24, tl_isub _⟩, List.forall_mem_cons.mpr ⟨⟨s_iald d12_25, tl_iald _⟩, List.forall_mem_cons.mpr ⟨⟨s_iret d12_26 rfl, tl_iret⟩, fun _ h => absurd h List.not_mem_nil⟩⟩⟩⟩⟩⟩⟩⟩⟩⟩⟩⟩⟩⟩⟩⟩
def t12 : List (Nat × pO) := t12_0
theorem ok12 : ∀ q ∈ t12, p_Z 12 q := ok12_0
theorem d13_0 : decode (pB 13) 0 = .ok (.aload_n 0, 1) := by decide +kernel
theorem d13_1 : decode (pB 13) 1 = .ok (.iload_n 1, 1) := by decide +kernel
theorem d13_2 : decode (pB 13) 2 = .ok (.invokevirtual 58, 3) := by decide +kernel
theorem d13_5 : decode (pB 13) 5 = .ok (.aload_n 0, 1) := by decide +kernel
theorem d13_6 : decode (pB 13) 6 = .ok (.aload_n 0, 1) := by decide +kernel
theorem d13_7 : decode (pB 13) 7 = .ok (.getfield 25, 3) := by decide +kernel
theorem d13_10 : decode (pB 13) 10 = .ok (.iload_n 1, 1) := by decide +kernel
theorem d13_11 : decode (pB 13) 11 = .ok (.iaload, 1) := by decide +kernel
theorem d13_12 : decode (pB 13) 12 = .ok (.invokevirtual 54, 3) := by decide +kernel
theorem d13_15 : decode (pB 13) 15 = .ok (.iconst 1, 1) := by decide +kernel
theorem d13_16 : decode (pB 13) 16 = .ok (.isub, 1) := by decide +kernel
theorem d13_17 : decode (pB 13) 17 = .ok (.if_icmp .ne 8, 3) := by decide +kernel
theorem d13_20 : decode (pB 13) 20 = .ok (.bipush (-6), 2) := by decide +kernel
theorem d13_22 : decode (pB 13) 22 = .ok (.goto 16, 3) := by decide +kernel
theorem d13_25 : decode (pB 13) 25 = .ok (.aload_n 0, 1) := by decide +kernel
theorem d13_26 : decode (pB 13) 26 = .ok (.getfield 18, 3) := by decide +kernel
theorem d13_29 : decode (pB 13) 29 = .ok (.aload_n 0, 1) := by decide +kernel
theorem d13_30 : decode (pB 13) 30 = .ok (.getfield 28, 3) := by decide +kernel
theorem d13_33 : decode (pB 13) 33 = .ok (.iload_n 1, 1) := by decide +kernel
theorem d13_34 : decode (pB 13) 34 = .ok (.iaload, 1) := by decide +kernel
theorem d13_35 : decode (pB 13) 35 = .ok (.iconst 1, 1) := by decide +kernel
theorem d13_36 : decode (pB 13) 36 = .ok (.iadd, 1) := by decide +kernel
theorem d13_37 : decode (pB 13) 37 = .ok (.iaload, 1) := by decide +kernel
theorem d13_38 : decode (pB 13) 38 = .ok (.ireturn, 1) := by decide +kernel
/-- RX0.seatAbove -/
def t13_0 : List (Nat × pO) := [(0, o_aload 0 1), (1, o_iload 1 2), (2, o_invV 0 11 1 5), (5, o_aload 0 6), (6, o_aload 0 7), (7, o_getR 0 4 10), (10, o_iload 1 11), (11, o_iald 12), (12, o_invV 0 8 1 15), (15, o_push (.int (nI 1)) 16), (16, o_isub 17), (17, o_icne 25 20), (20, o_push (.int (nM 6)) 22), (22, o_goto 38), (25, o_aload 0 26), (26, o_getR 0 2 29), (29, o_aload 0 30), (30, o_getR 0 5 33), (33, o_iload 1 34), (34, o_iald 35), (35, o_push (.int (nI 1)) 36), (36, o_iadd 37), (37, o_iald 38), (38, o_iret)]
theorem ok13_0 : ∀ q ∈ t13_0, p_Z 13 q := List.forall_mem_cons.mpr ⟨⟨s_aload_n d13_0 rfl, tl_aload _ _⟩, List.forall_mem_cons.mpr ⟨⟨s_iload_n d13_1 rfl, tl_iload _ _⟩, List.forall_mem_cons.mpr ⟨⟨q_invV_11 d13_2 wd_405, tl_invV _ _ _ _⟩, List.forall_mem_cons.mpr ⟨⟨s_aload_n d13_5 rfl, tl_aload _ _⟩, List.forall_mem_cons.mpr ⟨⟨s_aload_n d13_6 rfl, tl_aload _ _⟩, List.forall_mem_cons.mpr ⟨⟨f_getR_0_4 d13_7 wd_179, tl_getR _ _ _⟩, List.forall_mem_cons.mpr ⟨⟨s_iload_n d13_10 rfl, tl_iload _ _⟩, List.forall_mem_cons.mpr ⟨⟨s_iald d13_11, tl_iald _⟩, List.forall_mem_cons.mpr ⟨⟨q_invV_8 d13_12 wd_409, tl_invV _ _ _ _⟩, List.forall_mem_cons.mpr ⟨⟨s_iconst d13_15 rfl, tl_push _ _⟩, List.forall_mem_cons.mpr ⟨⟨s_isub d13_16, tl_isub _⟩, List.forall_mem_cons.mpr ⟨⟨s_icne d13_17 rfl, tl_icne _ _⟩, List.forall_mem_cons.mpr ⟨⟨s_bipush d13_20 rfl, tl_push _ _⟩, List.forall_mem_cons.mpr ⟨⟨s_goto d13_22 rfl, tl_goto _⟩, List.forall_mem_cons.mpr ⟨⟨s_aload_n d13_25 rfl, tl_aload _ _⟩, List.forall_mem_cons.mpr ⟨⟨f_getR_0_2 d13_26 wd_175, tl_getR _ _ _⟩, List.forall_mem_cons.mpr ⟨⟨s_aload_n d13_29 rfl, tl_aload _ _⟩, List.forall_mem_cons.mpr ⟨⟨f_getR_0_5 d13_30 wd_181, tl_getR _ _ _⟩, List.forall_mem_cons.mpr ⟨⟨s_iload_n d13_33 rfl, tl_iload _ _⟩, List.forall_mem_cons.mpr ⟨⟨s_iald d13_34, tl_iald _⟩, List.forall_mem_cons.mpr ⟨⟨s_iconst d13_35 rfl, tl_push _ _⟩, List.forall_mem_cons.mpr ⟨⟨s_iadd d13_36, tl_iadd _⟩, List.forall_mem_cons.mpr ⟨⟨s_iald d13_37, tl_iald _⟩, List.forall_mem_cons.mpr ⟨⟨s_iret d13_38 rfl, tl_iret⟩, fun _ h => absurd h List.not_mem_nil⟩⟩⟩⟩⟩⟩⟩⟩⟩⟩⟩⟩⟩⟩⟩⟩⟩⟩⟩⟩⟩⟩⟩⟩
def t13 : List (Nat × pO) := t13_0
theorem ok13 : ∀ q ∈ t13, p_Z 13 q := ok13_0
theorem d14_0 : decode (pB 14) 0 = .ok (.aload_n 0, 1) := by decide +kernel
theorem d14_1 : decode (pB 14) 1 = .ok (.invokespecial 3, 3) := by decide +kernel
theorem d14_4 : decode (pB 14) 4 = .ok (.aload_n 0, 1) := by decide +kernel
theorem d14_5 : decode (pB 14) 5 = .ok (.new 9, 3) := by decide +kernel
theorem d14_8 : decode (pB 14) 8 = .ok (.dup, 1) := by decide +kernel
theorem d14_9 : decode (pB 14) 9 = .ok (.invokespecial 11, 3) := by decide +kernel
theorem d14_12 : decode (pB 14) 12 = .ok (.putfield 12, 3) := by decide +kernel
theorem d14_15 : decode (pB 14) 15 = .ok (.aload_n 0, 1) := by decide +kernel
theorem d14_16 : decode (pB 14) 16 = .ok (.iconst 0, 1) := by decide +kernel
theorem d14_17 : decode (pB 14) 17 = .ok (.putfield 18, 3) := by decide +kernel
theorem d14_20 : decode (pB 14) 20 = .ok (.aload_n 0, 1) := by decide +kernel
theorem d14_21 : decode (pB 14) 21 = .ok (.iconst 0, 1) := by decide +kernel
theorem d14_22 : decode (pB 14) 22 = .ok (.putfield 22, 3) := by decide +kernel
theorem d14_25 : decode (pB 14) 25 = .ok (.aload_n 0, 1) := by decide +kernel
theorem d14_26 : decode (pB 14) 26 = .ok (.iconst 0, 1) := by decide +kernel
theorem d14_27 : decode (pB 14) 27 = .ok (.putfield 25, 3) := by decide +kernel
theorem d14_30 : decode (pB 14) 30 = .ok (.aload_n 0, 1) := by decide +kernel
theorem d14_31 : decode (pB 14) 31 = .ok (.iconst 0, 1) := by decide +kernel
theorem d14_32 : decode (pB 14) 32 = .ok (.putfield 28, 3) := by decide +kernel
theorem d14_35 : decode (pB 14) 35 = .ok (.aload_n 0, 1) := by decide +kernel
theorem d14_36 : decode (pB 14) 36 = .ok (.iconst 0, 1) := by decide +kernel
theorem d14_37 : decode (pB 14) 37 = .ok (.putfield 31, 3) := by decide +kernel
theorem d14_40 : decode (pB 14) 40 = .ok (.return_, 1) := by decide +kernel
/-- RX1.<init> -/
def t14_0 : List (Nat × pO) := [(0, o_aload 0 1), (1, o_oinit 4), (4, o_aload 0 5), (5, o_new 2 [.null, .int 0] 8), (8, o_dupr 9), (9, o_invI 24 0 12), (12, o_putR 1 0 15), (15, o_aload 0 16), (16, o_push (.int (nI 0)) 17), (17, o_putI 1 1 20), (20, o_aload 0 21), (21, o_push (.int (nI 0)) 22), (22, o_putI 1 2 25), (25, o_aload 0 26), (26, o_push (.int (nI 0)) 27), (27, o_putI 1 3 30), (30, o_aload 0 31), (31, o_push (.int (nI 0)) 32), (32, o_putI 1 4 35), (35, o_aload 0 36), (36, o_push (.int (nI 0)) 37), (37, o_putI 1 5 40), (40, o_vret)]
theorem ok14_0 : ∀ q ∈ t14_0, p_Z 14 q := List.forall_mem_cons.mpr ⟨⟨s_aload_n d14_0 rfl, tl_aload _ _⟩, List.forall_mem_cons.mpr ⟨⟨s_oinit d14_1 wd_123 wd_75 wd_76, tl_oinit _⟩, List.forall_mem_cons.mpr ⟨⟨s_aload_n d14_4 rfl, tl_aload _ _⟩, List.forall_mem_cons.mpr ⟨⟨s_new d14_5 rfl inp2 tyX2_ok rfl ⟨rfl, by simp⟩ wd_124 wd_125 wd_63, tl_new _ _ _⟩, List.forall_mem_cons.mpr ⟨⟨s_dupr d14_8, tl_dupr _⟩, List.forall_mem_cons.mpr ⟨⟨q_invN_24 (host := "FoldedBench") d14_9 (by decide +kernel), tl_invI _ _ _⟩, List.forall_mem_cons.mpr ⟨⟨f_putR_1_0 d14_12 wd_142, tl_putR _ _ _⟩, List.forall_mem_cons.mpr ⟨⟨s_aload_n d14_15 rfl, tl_aload _ _⟩, List.forall_mem_cons.mpr ⟨⟨s_iconst d14_16 rfl, tl_push _ _⟩, List.forall_mem_cons.mpr ⟨⟨f_putI_1_1 d14_17 wd_144, tl_putI _ _ _⟩, List.forall_mem_cons.mpr ⟨⟨s_aload_n d14_20 rfl, tl_aload _ _⟩, List.forall_mem_cons.mpr ⟨⟨s_iconst d14_21 rfl, tl_push _ _⟩, List.forall_mem_cons.mpr ⟨⟨f_putI_1_2 d14_22 wd_145, tl_putI _ _ _⟩, List.forall_mem_cons.mpr ⟨⟨s_aload_n d14_25 rfl, tl_aload _ _⟩, List.forall_mem_cons.mpr ⟨⟨s_iconst d14_26 rfl, tl_push _ _⟩, List.forall_mem_cons.mpr ⟨⟨f_putI_1_3 d14_27 wd_147, tl_putI _ _ _⟩, List.forall_mem_cons.mpr ⟨⟨s_aload_n d14_30 rfl, tl_aload _ _⟩, List.forall_mem_cons.mpr ⟨⟨s_iconst d14_31 rfl, tl_push _ _⟩, List.forall_mem_cons.mpr ⟨⟨f_putI_1_4 d14_32 wd_149, tl_putI _ _ _⟩, List.forall_mem_cons.mpr ⟨⟨s_aload_n d14_35 rfl, tl_aload _ _⟩, List.forall_mem_cons.mpr ⟨⟨s_iconst d14_36 rfl, tl_push _ _⟩, List.forall_mem_cons.mpr ⟨⟨f_putI_1_5 d14_37 wd_151, tl_putI _ _ _⟩, List.forall_mem_cons.mpr ⟨⟨s_vret d14_40 rfl, tl_vret⟩, fun _ h => absurd h List.not_mem_nil⟩⟩⟩⟩⟩⟩⟩⟩⟩⟩⟩⟩⟩⟩⟩⟩⟩⟩⟩⟩⟩⟩⟩
def t14 : List (Nat × pO) := t14_0
theorem ok14 : ∀ q ∈ t14, p_Z 14 q := ok14_0
theorem d15_0 : decode (pB 15) 0 = .ok (.aload_n 0, 1) := by decide +kernel
theorem d15_1 : decode (pB 15) 1 = .ok (.iconst 0, 1) := by decide +kernel
theorem d15_2 : decode (pB 15) 2 = .ok (.putfield 18, 3) := by decide +kernel
theorem d15_5 : decode (pB 15) 5 = .ok (.return_, 1) := by decide +kernel
/-- RX1.rewind -/
def t15_0 : List (Nat × pO) := [(0, o_aload 0 1), (1, o_push (.int (nI 0)) 2), (2, o_putI 1 1 5), (5, o_vret)]
theorem ok15_0 : ∀ q ∈ t15_0, p_Z 15 q := List.forall_mem_cons.mpr ⟨⟨s_aload_n d15_0 rfl, tl_aload _ _⟩, List.forall_mem_cons.mpr ⟨⟨s_iconst d15_1 rfl, tl_push _ _⟩, List.forall_mem_cons.mpr ⟨⟨f_putI_1_1 d15_2 wd_144, tl_putI _ _ _⟩, List.forall_mem_cons.mpr ⟨⟨s_vret d15_5 rfl, tl_vret⟩, fun _ h => absurd h List.not_mem_nil⟩⟩⟩⟩
def t15 : List (Nat × pO) := t15_0
theorem ok15 : ∀ q ∈ t15, p_Z 15 q := ok15_0
theorem d16_0 : decode (pB 16) 0 = .ok (.aload_n 0, 1) := by decide +kernel
theorem d16_1 : decode (pB 16) 1 = .ok (.invokevirtual 34, 3) := by decide +kernel
theorem d16_4 : decode (pB 16) 4 = .ok (.iconst 0, 1) := by decide +kernel
theorem d16_5 : decode (pB 16) 5 = .ok (.istore_n 1, 1) := by decide +kernel
theorem d16_6 : decode (pB 16) 6 = .ok (.iload_n 1, 1) := by decide +kernel
theorem d16_7 : decode (pB 16) 7 = .ok (.bipush 80, 2) := by decide +kernel
theorem d16_9 : decode (pB 16) 9 = .ok (.if_icmp .ge 33, 3) := by decide +kernel
theorem d16_12 : decode (pB 16) 12 = .ok (.aload_n 0, 1) := by decide +kernel
theorem d16_13 : decode (pB 16) 13 = .ok (.invokevirtual 37, 3) := by decide +kernel
theorem d16_16 : decode (pB 16) 16 = .ok (.ifCond .ne 8, 3) := by decide +kernel
theorem d16_19 : decode (pB 16) 19 = .ok (.aload_n 0, 1) := by decide +kernel
theorem d16_20 : decode (pB 16) 20 = .ok (.getfield 18, 3) := by decide +kernel
theorem d16_23 : decode (pB 16) 23 = .ok (.ireturn, 1) := by decide +kernel
theorem d16_24 : decode (pB 16) 24 = .ok (.aload_n 0, 1) := by decide +kernel
theorem d16_25 : decode (pB 16) 25 = .ok (.bipush 59, 2) := by decide +kernel
theorem d16_27 : decode (pB 16) 27 = .ok (.invokevirtual 41, 3) := by decide +kernel
theorem d16_30 : decode (pB 16) 30 = .ok (.ifCond .ne 6, 3) := by decide +kernel
theorem d16_33 : decode (pB 16) 33 = .ok (.goto 9, 3) := by decide +kernel
theorem d16_36 : decode (pB 16) 36 = .ok (.iinc 1 1, 3) := by decide +kernel
theorem d16_39 : decode (pB 16) 39 = .ok (.goto (-33), 3) := by decide +kernel
theorem d16_42 : decode (pB 16) 42 = .ok (.aload_n 0, 1) := by decide +kernel
theorem d16_43 : decode (pB 16) 43 = .ok (.getfield 18, 3) := by decide +kernel
theorem d16_46 : decode (pB 16) 46 = .ok (.aload_n 0, 1) := by decide +kernel
theorem d16_47 : decode (pB 16) 47 = .ok (.getfield 12, 3) := by decide +kernel
theorem d16_50 : decode (pB 16) 50 = .ok (.getfield 45, 3) := by decide +kernel
theorem d16_53 : decode (pB 16) 53 = .ok (.if_icmp .ne 8, 3) := by decide +kernel
theorem d16_56 : decode (pB 16) 56 = .ok (.bipush (-6), 2) := by decide +kernel
theorem d16_58 : decode (pB 16) 58 = .ok (.goto 7, 3) := by decide +kernel
theorem d16_61 : decode (pB 16) 61 = .ok (.aload_n 0, 1) := by decide +kernel
theorem d16_62 : decode (pB 16) 62 = .ok (.getfield 18, 3) := by decide +kernel
theorem d16_65 : decode (pB 16) 65 = .ok (.ireturn, 1) := by decide +kernel
theorem st1_16_1 : p_st1 16 1 = true := by decide +kernel
/-- RX1.firstFault -/
def t16_0 : List (Nat × pO) := [(0, o_aload 0 1), (1, o_invV 1 15 0 4), (4, o_push (.int (nI 0)) 5), (5, o_istore 1 6), (6, o_iload 1 7), (7, o_push (.int (nI 80)) 9), (9, o_icge 42 12), (12, o_aload 0 13), (13, o_invV 1 17 0 16), (16, o_ifne 24 19), (19, o_aload 0 20), (20, o_getI 1 1 23), (23, o_iret), (24, o_aload 0 25), (25, o_push (.int (nI 59)) 27), (27, o_invV 1 18 1 30), (30, o_ifne 36 33), (33, o_goto 42), (36, o_iinc 1 (nI 1) 39), (39, o_goto 6), (42, o_aload 0 43), (43, o_getI 1 1 46), (46, o_aload 0 47), (47, o_getR 1 0 50), (50, o_getI 2 1 53), (53, o_icne 61 56), (56, o_push (.int (nM 6)) 58), (58, o_goto 65), (61, o_aload 0 62), (62, o_getI 1 1 65), (65, o_iret)]
theorem ok16_0 : ∀ q ∈ t16_0, p_Z 16 q := List.forall_mem_cons.mpr ⟨⟨s_aload_n d16_0 rfl, tl_aload _ _⟩, List.forall_mem_cons.mpr ⟨⟨q_invV_15 d16_1 wd_555, tl_invV _ _ _ _⟩, List.forall_mem_cons.mpr ⟨⟨s_iconst d16_4 rfl, tl_push _ _⟩, List.forall_mem_cons.mpr ⟨⟨s_istore_n d16_5 rfl st1_16_1, tl_istore _ _⟩, List.forall_mem_cons.mpr ⟨⟨s_iload_n d16_6 rfl, tl_iload _ _⟩, List.forall_mem_cons.mpr ⟨⟨s_bipush d16_7 rfl, tl_push _ _⟩, List.forall_mem_cons.mpr ⟨⟨s_icge d16_9 rfl, tl_icge _ _⟩, List.forall_mem_cons.mpr ⟨⟨s_aload_n d16_12 rfl, tl_aload _ _⟩, List.forall_mem_cons.mpr ⟨⟨q_invV_17 d16_13 wd_559, tl_invV _ _ _ _⟩, List.forall_mem_cons.mpr ⟨⟨s_ifne d16_16 rfl, tl_ifne _ _⟩, List.forall_mem_cons.mpr ⟨⟨s_aload_n d16_19 rfl, tl_aload _ _⟩, List.forall_mem_cons.mpr ⟨⟨f_getI_1_1 d16_20 wd_144, tl_getI _ _ _⟩, List.forall_mem_cons.mpr ⟨⟨s_iret d16_23 rfl, tl_iret⟩, List.forall_mem_cons.mpr ⟨⟨s_aload_n d16_24 rfl, tl_aload _ _⟩, List.forall_mem_cons.mpr ⟨⟨s_bipush d16_25 rfl, tl_push _ _⟩, List.forall_mem_cons.mpr ⟨⟨q_invV_18 d16_27 wd_563, tl_invV _ _ _ _⟩, List.forall_mem_cons.mpr ⟨⟨s_ifne d16_30 rfl, tl_ifne _ _⟩, List.forall_mem_cons.mpr ⟨⟨s_goto d16_33 rfl, tl_goto _⟩, List.forall_mem_cons.mpr ⟨⟨s_iinc d16_36 rfl st1_16_1, tl_iinc _ _ _⟩, List.forall_mem_cons.mpr ⟨⟨s_goto d16_39 rfl, tl_goto _⟩, List.forall_mem_cons.mpr ⟨⟨s_aload_n d16_42 rfl, tl_aload _ _⟩, List.forall_mem_cons.mpr ⟨⟨f_getI_1_1 d16_43 wd_144, tl_getI _ _ _⟩, List.forall_mem_cons.mpr ⟨⟨s_aload_n d16_46 rfl, tl_aload _ _⟩, List.forall_mem_cons.mpr ⟨⟨f_getR_1_0 d16_47 wd_142, tl_getR _ _ _⟩, List.forall_mem_cons.mpr ⟨⟨f_getI_2_1 d16_50 wd_134, tl_getI _ _ _⟩, List.forall_mem_cons.mpr ⟨⟨s_icne d16_53 rfl, tl_icne _ _⟩, List.forall_mem_cons.mpr ⟨⟨s_bipush d16_56 rfl, tl_push _ _⟩, List.forall_mem_cons.mpr ⟨⟨s_goto d16_58 rfl, tl_goto _⟩, List.forall_mem_cons.mpr ⟨⟨s_aload_n d16_61 rfl, tl_aload _ _⟩, List.forall_mem_cons.mpr ⟨⟨f_getI_1_1 d16_62 wd_144, tl_getI _ _ _⟩, List.forall_mem_cons.mpr ⟨⟨s_iret d16_65 rfl, tl_iret⟩, fun _ h => absurd h List.not_mem_nil⟩⟩⟩⟩⟩⟩⟩⟩⟩⟩⟩⟩⟩⟩⟩⟩⟩⟩⟩⟩⟩⟩⟩⟩⟩⟩⟩⟩⟩⟩⟩
def t16 : List (Nat × pO) := t16_0
theorem ok16 : ∀ q ∈ t16, p_Z 16 q := ok16_0
theorem d17_0 : decode (pB 17) 0 = .ok (.aload_n 0, 1) := by decide +kernel
theorem d17_1 : decode (pB 17) 1 = .ok (.aload_n 0, 1) := by decide +kernel
theorem d17_2 : decode (pB 17) 2 = .ok (.getfield 18, 3) := by decide +kernel
theorem d17_5 : decode (pB 17) 5 = .ok (.aload_n 0, 1) := by decide +kernel
theorem d17_6 : decode (pB 17) 6 = .ok (.getfield 12, 3) := by decide +kernel
theorem d17_9 : decode (pB 17) 9 = .ok (.getfield 45, 3) := by decide +kernel
theorem d17_12 : decode (pB 17) 12 = .ok (.if_icmp .ge 18, 3) := by decide +kernel
theorem d17_15 : decode (pB 17) 15 = .ok (.aload_n 0, 1) := by decide +kernel
theorem d17_16 : decode (pB 17) 16 = .ok (.getfield 12, 3) := by decide +kernel
theorem d17_19 : decode (pB 17) 19 = .ok (.getfield 48, 3) := by decide +kernel
theorem d17_22 : decode (pB 17) 22 = .ok (.aload_n 0, 1) := by decide +kernel
theorem d17_23 : decode (pB 17) 23 = .ok (.getfield 18, 3) := by decide +kernel
theorem d17_26 : decode (pB 17) 26 = .ok (.iaload, 1) := by decide +kernel
theorem d17_27 : decode (pB 17) 27 = .ok (.goto 4, 3) := by decide +kernel
theorem d17_30 : decode (pB 17) 30 = .ok (.iconst 0, 1) := by decide +kernel
theorem d17_31 : decode (pB 17) 31 = .ok (.putfield 22, 3) := by decide +kernel
theorem d17_34 : decode (pB 17) 34 = .ok (.aload_n 0, 1) := by decide +kernel
theorem d17_35 : decode (pB 17) 35 = .ok (.getfield 22, 3) := by decide +kernel
theorem d17_38 : decode (pB 17) 38 = .ok (.lookupswitch 178 #[(99, 58), (102, 67), (111, 58), (115, 91), (117, 67), (120, 131)], 58) := by decide +kernel
theorem d17_96 : decode (pB 17) 96 = .ok (.aload_n 0, 1) := by decide +kernel
theorem d17_97 : decode (pB 17) 97 = .ok (.aload_n 0, 1) := by decide +kernel
theorem d17_98 : decode (pB 17) 98 = .ok (.getfield 22, 3) := by decide +kernel
theorem d17_101 : decode (pB 17) 101 = .ok (.invokevirtual 41, 3) := by decide +kernel
theorem d17_104 : decode (pB 17) 104 = .ok (.ireturn, 1) := by decide +kernel
theorem d17_105 : decode (pB 17) 105 = .ok (.aload_n 0, 1) := by decide +kernel
theorem d17_106 : decode (pB 17) 106 = .ok (.aload_n 0, 1) := by decide +kernel
theorem d17_107 : decode (pB 17) 107 = .ok (.getfield 22, 3) := by decide +kernel
theorem d17_110 : decode (pB 17) 110 = .ok (.invokevirtual 41, 3) := by decide +kernel
theorem d17_113 : decode (pB 17) 113 = .ok (.ifCond .eq 14, 3) := by decide +kernel
theorem d17_116 : decode (pB 17) 116 = .ok (.aload_n 0, 1) := by decide +kernel
theorem d17_117 : decode (pB 17) 117 = .ok (.invokevirtual 52, 3) := by decide +kernel
theorem d17_120 : decode (pB 17) 120 = .ok (.ifCond .eq 7, 3) := by decide +kernel
theorem d17_123 : decode (pB 17) 123 = .ok (.iconst 1, 1) := by decide +kernel
theorem d17_124 : decode (pB 17) 124 = .ok (.goto 4, 3) := by decide +kernel
theorem d17_127 : decode (pB 17) 127 = .ok (.iconst 0, 1) := by decide +kernel
theorem d17_128 : decode (pB 17) 128 = .ok (.ireturn, 1) := by decide +kernel
theorem d17_129 : decode (pB 17) 129 = .ok (.aload_n 0, 1) := by decide +kernel
theorem d17_130 : decode (pB 17) 130 = .ok (.aload_n 0, 1) := by decide +kernel
theorem d17_131 : decode (pB 17) 131 = .ok (.getfield 22, 3) := by decide +kernel
theorem d17_134 : decode (pB 17) 134 = .ok (.invokevirtual 41, 3) := by decide +kernel
theorem d17_137 : decode (pB 17) 137 = .ok (.ifCond .eq 30, 3) := by decide +kernel
theorem d17_140 : decode (pB 17) 140 = .ok (.aload_n 0, 1) := by decide +kernel
theorem d17_141 : decode (pB 17) 141 = .ok (.invokevirtual 52, 3) := by decide +kernel
theorem d17_144 : decode (pB 17) 144 = .ok (.ifCond .eq 23, 3) := by decide +kernel
theorem d17_147 : decode (pB 17) 147 = .ok (.aload_n 0, 1) := by decide +kernel
theorem d17_148 : decode (pB 17) 148 = .ok (.bipush 64, 2) := by decide +kernel
theorem d17_150 : decode (pB 17) 150 = .ok (.invokevirtual 41, 3) := by decide +kernel
theorem d17_153 : decode (pB 17) 153 = .ok (.ifCond .eq 14, 3) := by decide +kernel
theorem d17_156 : decode (pB 17) 156 = .ok (.aload_n 0, 1) := by decide +kernel
theorem d17_157 : decode (pB 17) 157 = .ok (.invokevirtual 55, 3) := by decide +kernel
theorem d17_160 : decode (pB 17) 160 = .ok (.ifCond .eq 7, 3) := by decide +kernel
theorem d17_163 : decode (pB 17) 163 = .ok (.iconst 1, 1) := by decide +kernel
theorem d17_164 : decode (pB 17) 164 = .ok (.goto 4, 3) := by decide +kernel
theorem d17_167 : decode (pB 17) 167 = .ok (.iconst 0, 1) := by decide +kernel
theorem d17_168 : decode (pB 17) 168 = .ok (.ireturn, 1) := by decide +kernel
theorem d17_169 : decode (pB 17) 169 = .ok (.aload_n 0, 1) := by decide +kernel
theorem d17_170 : decode (pB 17) 170 = .ok (.aload_n 0, 1) := by decide +kernel
theorem d17_171 : decode (pB 17) 171 = .ok (.getfield 22, 3) := by decide +kernel
theorem d17_174 : decode (pB 17) 174 = .ok (.invokevirtual 41, 3) := by decide +kernel
theorem d17_177 : decode (pB 17) 177 = .ok (.ifCond .eq 37, 3) := by decide +kernel
theorem d17_180 : decode (pB 17) 180 = .ok (.aload_n 0, 1) := by decide +kernel
theorem d17_181 : decode (pB 17) 181 = .ok (.invokevirtual 52, 3) := by decide +kernel
theorem d17_184 : decode (pB 17) 184 = .ok (.ifCond .eq 30, 3) := by decide +kernel
theorem d17_187 : decode (pB 17) 187 = .ok (.aload_n 0, 1) := by decide +kernel
theorem d17_188 : decode (pB 17) 188 = .ok (.bipush 126, 2) := by decide +kernel
theorem d17_190 : decode (pB 17) 190 = .ok (.invokevirtual 41, 3) := by decide +kernel
theorem d17_193 : decode (pB 17) 193 = .ok (.ifCond .eq 21, 3) := by decide +kernel
theorem d17_196 : decode (pB 17) 196 = .ok (.aload_n 0, 1) := by decide +kernel
theorem d17_197 : decode (pB 17) 197 = .ok (.invokevirtual 55, 3) := by decide +kernel
theorem d17_200 : decode (pB 17) 200 = .ok (.ifCond .eq 14, 3) := by decide +kernel
theorem d17_203 : decode (pB 17) 203 = .ok (.aload_n 0, 1) := by decide +kernel
theorem d17_204 : decode (pB 17) 204 = .ok (.invokevirtual 58, 3) := by decide +kernel
theorem d17_207 : decode (pB 17) 207 = .ok (.ifCond .eq 7, 3) := by decide +kernel
theorem d17_210 : decode (pB 17) 210 = .ok (.iconst 1, 1) := by decide +kernel
theorem d17_211 : decode (pB 17) 211 = .ok (.goto 4, 3) := by decide +kernel
theorem d17_214 : decode (pB 17) 214 = .ok (.iconst 0, 1) := by decide +kernel
theorem d17_215 : decode (pB 17) 215 = .ok (.ireturn, 1) := by decide +kernel
theorem d17_216 : decode (pB 17) 216 = .ok (.iconst 0, 1) := by decide +kernel
theorem d17_217 : decode (pB 17) 217 = .ok (.ireturn, 1) := by decide +kernel
/-- RX1.readOrder -/
def t17_0 : List (Nat × pO) := [(0, o_aload 0 1), (1, o_aload 0 2), (2, o_getI 1 1 5), (5, o_aload 0 6), (6, o_getR 1 0 9), (9, o_getI 2 1 12), (12, o_icge 30 15), (15, o_aload 0 16), (16, o_getR 1 0 19), (19, o_getR 2 0 22), (22, o_aload 0 23), (23, o_getI 1 1 26), (26, o_iald 27), (27, o_goto 31), (30, o_push (.int (nI 0)) 31), (31, o_putI 1 2 34), (34, o_aload 0 35), (35, o_getI 1 2 38), (38, o_switch [((nI 99), 96), ((nI 102), 105), ((nI 111), 96), ((nI 115), 129), ((nI 117), 105), ((nI 120), 169)] 216), (96, o_aload 0 97), (97, o_aload 0 98), (98, o_getI 1 2 101), (101, o_invV 1 18 1 104), (104, o_zret), (105, o_aload 0 106), (106, o_aload 0 107), (107, o_getI 1 2 110), (110, o_invV 1 18 1 113), (113, o_ifeq 127 116), (116, o_aload 0 117), (117, o_invV 1 19 0 120), (120, o_ifeq 127 123), (123, o_push (.int (nI 1)) 124), (124, o_goto 128), (127, o_push (.int (nI 0)) 128), (128, o_zret), (129, o_aload 0 130), (130, o_aload 0 131), (131, o_getI 1 2 134), (134, o_invV 1 18 1 137)]
theorem ok17_0 : ∀ q ∈ t17_0, p_Z 17 q := List.forall_mem_cons.mpr ⟨⟨s_aload_n d17_0 rfl, tl_aload _ _⟩, List.forall_mem_cons.mpr ⟨⟨s_aload_n d17_1 rfl, tl_aload _ _⟩, List.forall_mem_cons.mpr ⟨⟨f_getI_1_1 d17_2 wd_144, tl_getI _ _ _⟩, List.forall_mem_cons.mpr ⟨⟨s_aload_n d17_5 rfl, tl_aload _ _⟩, List.forall_mem_cons.mpr ⟨⟨f_getR_1_0 d17_6 wd_142, tl_getR _ _ _⟩, List.forall_mem_cons.mpr ⟨⟨f_getI_2_1 d17_9 wd_134, tl_getI _ _ _⟩, List.forall_mem_cons.mpr ⟨⟨s_icge d17_12 rfl, tl_icge _ _⟩, List.forall_mem_cons.mpr ⟨⟨s_aload_n d17_15 rfl, tl_aload _ _⟩, List.forall_mem_cons.mpr ⟨⟨f_getR_1_0 d17_16 wd_142, tl_getR _ _ _⟩, List.forall_mem_cons.mpr ⟨⟨f_getR_2_0 d17_19 wd_131, tl_getR _ _ _⟩, List.forall_mem_cons.mpr ⟨⟨s_aload_n d17_22 rfl, tl_aload _ _⟩, List.forall_mem_cons.mpr ⟨⟨f_getI_1_1 d17_23 wd_144, tl_getI _ _ _⟩, List.forall_mem_cons.mpr ⟨⟨s_iald d17_26, tl_iald _⟩, List.forall_mem_cons.mpr ⟨⟨s_goto d17_27 rfl, tl_goto _⟩, List.forall_mem_cons.mpr ⟨⟨s_iconst d17_30 rfl, tl_push _ _⟩, List.forall_mem_cons.mpr ⟨⟨f_putI_1_2 d17_31 wd_145, tl_putI _ _ _⟩, List.forall_mem_cons.mpr ⟨⟨s_aload_n d17_34 rfl, tl_aload _ _⟩, List.forall_mem_cons.mpr ⟨⟨f_getI_1_2 d17_35 wd_145, tl_getI _ _ _⟩, List.forall_mem_cons.mpr ⟨⟨s_lookup d17_38 (by decide +kernel) rfl (by decide +kernel) (fun x hx => p_look (by decide +kernel) hx), tl_switch _ _⟩, List.forall_mem_cons.mpr ⟨⟨s_aload_n d17_96 rfl, tl_aload _ _⟩, List.forall_mem_cons.mpr ⟨⟨s_aload_n d17_97 rfl, tl_aload _ _⟩, List.forall_mem_cons.mpr ⟨⟨f_getI_1_2 d17_98 wd_145, tl_getI _ _ _⟩, List.forall_mem_cons.mpr ⟨⟨q_invV_18 d17_101 wd_563, tl_invV _ _ _ _⟩, List.forall_mem_cons.mpr ⟨⟨s_zret d17_104 rfl, tl_zret⟩, List.forall_mem_cons.mpr ⟨⟨s_aload_n d17_105 rfl, tl_aload _ _⟩, List.forall_mem_cons.mpr ⟨⟨s_aload_n d17_106 rfl, tl_aload _ _⟩, List.forall_mem_cons.mpr ⟨⟨f_getI_1_2 d17_107 wd_145, tl_getI _ _ _⟩, List.forall_mem_cons.mpr ⟨⟨q_invV_18 d17_110 wd_563, tl_invV _ _ _ _⟩, List.forall_mem_cons.mpr ⟨⟨s_ifeq d17_113 rfl, tl_ifeq _ _⟩, List.forall_mem_cons.mpr ⟨⟨s_aload_n d17_116 rfl, tl_aload _ _⟩, List.forall_mem_cons.mpr ⟨⟨q_invV_19 d17_117 wd_567, tl_invV _ _ _ _⟩, List.forall_mem_cons.mpr ⟨⟨s_ifeq d17_120 rfl, tl_ifeq _ _⟩, List.forall_mem_cons.mpr ⟨⟨s_iconst d17_123 rfl, tl_push _ _⟩, List.forall_mem_cons.mpr ⟨⟨s_goto d17_124 rfl, tl_goto _⟩, List.forall_mem_cons.mpr ⟨⟨s_iconst d17_127 rfl, tl_push _ _⟩, List.forall_mem_cons.mpr ⟨⟨s_zret d17_128 rfl, tl_zret⟩, List.forall_mem_cons.mpr ⟨⟨s_aload_n d17_129 rfl, tl_aload _ _⟩, List.forall_mem_cons.mpr ⟨⟨s_aload_n d17_130 rfl, tl_aload _ _⟩, List.forall_mem_cons.mpr ⟨⟨f_getI_1_2 d17_131 wd_145, tl_getI _ _ _⟩, List.forall_mem_cons.mpr ⟨⟨q_invV_18 d17_134 wd_563, tl_invV _ _ _ _⟩, fun _ h => absurd h List.not_mem_nil⟩⟩⟩⟩⟩⟩⟩⟩⟩⟩⟩⟩⟩⟩⟩⟩⟩⟩⟩⟩⟩⟩⟩⟩⟩⟩⟩⟩⟩⟩⟩⟩⟩⟩⟩⟩⟩⟩⟩⟩
/-- RX1.readOrder -/
def t17_1 : List (Nat × pO) := [(137, o_ifeq 167 140), (140, o_aload 0 141), (141, o_invV 1 19 0 144), (144, o_ifeq 167 147), (147, o_aload 0 148), (148, o_push (.int (nI 64)) 150), (150, o_invV 1 18 1 153), (153, o_ifeq 167 156), (156, o_aload 0 157), (157, o_invV 1 20 0 160), (160, o_ifeq 167 163), (163, o_push (.int (nI 1)) 164), (164, o_goto 168), (167, o_push (.int (nI 0)) 168), (168, o_zret), (169, o_aload 0 170), (170, o_aload 0 171), (171, o_getI 1 2 174), (174, o_invV 1 18 1 177), (177, o_ifeq 214 180), (180, o_aload 0 181), (181, o_invV 1 19 0 184), (184, o_ifeq 214 187), (187, o_aload 0 188), (188, o_push (.int (nI 126)) 190), (190, o_invV 1 18 1 193), (193, o_ifeq 214 196), (196, o_aload 0 197), (197, o_invV 1 20 0 200), (200, o_ifeq 214 203), (203, o_aload 0 204), (204, o_invV 1 21 0 207), (207, o_ifeq 214 210), (210, o_push (.int (nI 1)) 211), (211, o_goto 215), (214, o_push (.int (nI 0)) 215), (215, o_zret), (216, o_push (.int (nI 0)) 217), (217, o_zret)]
theorem ok17_1 : ∀ q ∈ t17_1, p_Z 17 q := List.forall_mem_cons.mpr ⟨⟨s_ifeq d17_137 rfl, tl_ifeq _ _⟩, List.forall_mem_cons.mpr ⟨⟨s_aload_n d17_140 rfl, tl_aload _ _⟩, List.forall_mem_cons.mpr ⟨⟨q_invV_19 d17_141 wd_567, tl_invV _ _ _ _⟩, List.forall_mem_cons.mpr ⟨⟨s_ifeq d17_144 rfl, tl_ifeq _ _⟩, List.forall_mem_cons.mpr ⟨⟨s_aload_n d17_147 rfl, tl_aload _ _⟩, List.forall_mem_cons.mpr ⟨⟨s_bipush d17_148 rfl, tl_push _ _⟩, List.forall_mem_cons.mpr ⟨⟨q_invV_18 d17_150 wd_563, tl_invV _ _ _ _⟩, List.forall_mem_cons.mpr ⟨⟨s_ifeq d17_153 rfl, tl_ifeq _ _⟩, List.forall_mem_cons.mpr ⟨⟨s_aload_n d17_156 rfl, tl_aload _ _⟩, List.forall_mem_cons.mpr ⟨⟨q_invV_20 d17_157 wd_579, tl_invV _ _ _ _⟩, List.forall_mem_cons.mpr ⟨⟨s_ifeq d17_160 rfl, tl_ifeq _ _⟩, List.forall_mem_cons.mpr ⟨⟨s_iconst d17_163 rfl, tl_push _ _⟩, List.forall_mem_cons.mpr ⟨⟨s_goto d17_164 rfl, tl_goto _⟩, List.forall_mem_cons.mpr ⟨⟨s_iconst d17_167 rfl, tl_push _ _⟩, List.forall_mem_cons.mpr ⟨⟨s_zret d17_168 rfl, tl_zret⟩, List.forall_mem_cons.mpr ⟨⟨s_aload_n d17_169 rfl, tl_aload _ _⟩, List.forall_mem_cons.mpr ⟨⟨s_aload_n d17_170 rfl, tl_aload _ _⟩, List.forall_mem_cons.mpr ⟨⟨f_getI_1_2 d17_171 wd_145, tl_getI _ _ _⟩, List.forall_mem_cons.mpr ⟨⟨q_invV_18 d17_174 wd_563, tl_invV _ _ _ _⟩, List.forall_mem_cons.mpr ⟨⟨s_ifeq d17_177 rfl, tl_ifeq _ _⟩, List.forall_mem_cons.mpr ⟨⟨s_aload_n d17_180 rfl, tl_aload _ _⟩, List.forall_mem_cons.mpr ⟨⟨q_invV_19 d17_181 wd_567, tl_invV _ _ _ _⟩, List.forall_mem_cons.mpr ⟨⟨s_ifeq d17_184 rfl, tl_ifeq _ _⟩, List.forall_mem_cons.mpr ⟨⟨s_aload_n d17_187 rfl, tl_aload _ _⟩, List.forall_mem_cons.mpr ⟨⟨s_bipush d17_188 rfl, tl_push _ _⟩, List.forall_mem_cons.mpr ⟨⟨q_invV_18 d17_190 wd_563, tl_invV _ _ _ _⟩, List.forall_mem_cons.mpr ⟨⟨s_ifeq d17_193 rfl, tl_ifeq _ _⟩, List.forall_mem_cons.mpr ⟨⟨s_aload_n d17_196 rfl, tl_aload _ _⟩, List.forall_mem_cons.mpr ⟨⟨q_invV_20 d17_197 wd_579, tl_invV _ _ _ _⟩, List.forall_mem_cons.mpr ⟨⟨s_ifeq d17_200 rfl, tl_ifeq _ _⟩, List.forall_mem_cons.mpr ⟨⟨s_aload_n d17_203 rfl, tl_aload _ _⟩, List.forall_mem_cons.mpr ⟨⟨q_invV_21 d17_204 wd_583, tl_invV _ _ _ _⟩, List.forall_mem_cons.mpr ⟨⟨s_ifeq d17_207 rfl, tl_ifeq _ _⟩, List.forall_mem_cons.mpr ⟨⟨s_iconst d17_210 rfl, tl_push _ _⟩, List.forall_mem_cons.mpr ⟨⟨s_goto d17_211 rfl, tl_goto _⟩, List.forall_mem_cons.mpr ⟨⟨s_iconst d17_214 rfl, tl_push _ _⟩, List.forall_mem_cons.mpr ⟨⟨s_zret d17_215 rfl, tl_zret⟩, List.forall_mem_cons.mpr ⟨⟨s_iconst d17_216 rfl, tl_push _ _⟩, List.forall_mem_cons.mpr ⟨⟨s_zret d17_217 rfl, tl_zret⟩, fun _ h => absurd h List.not_mem_nil⟩⟩⟩⟩⟩⟩⟩⟩⟩⟩⟩⟩⟩⟩⟩⟩⟩⟩⟩⟩⟩⟩⟩⟩⟩⟩⟩⟩⟩⟩⟩⟩⟩⟩⟩⟩⟩⟩⟩
def t17 : List (Nat × pO) := t17_0 ++ (t17_1)
theorem ok17 : ∀ q ∈ t17, p_Z 17 q := List.forall_mem_append.mpr ⟨ok17_0, ok17_1⟩
theorem d18_0 : decode (pB 18) 0 = .ok (.aload_n 0, 1) := by decide +kernel
theorem d18_1 : decode (pB 18) 1 = .ok (.getfield 18, 3) := by decide +kernel
theorem d18_4 : decode (pB 18) 4 = .ok (.aload_n 0, 1) := by decide +kernel
theorem d18_5 : decode (pB 18) 5 = .ok (.getfield 12, 3) := by decide +kernel
theorem d18_8 : decode (pB 18) 8 = .ok (.getfield 45, 3) := by decide +kernel
theorem d18_11 : decode (pB 18) 11 = .ok (.if_icmp .ge 19, 3) := by decide +kernel
theorem d18_14 : decode (pB 18) 14 = .ok (.aload_n 0, 1) := by decide +kernel
theorem d18_15 : decode (pB 18) 15 = .ok (.getfield 12, 3) := by decide +kernel
theorem d18_18 : decode (pB 18) 18 = .ok (.getfield 48, 3) := by decide +kernel
theorem d18_21 : decode (pB 18) 21 = .ok (.aload_n 0, 1) := by decide +kernel
theorem d18_22 : decode (pB 18) 22 = .ok (.getfield 18, 3) := by decide +kernel
theorem d18_25 : decode (pB 18) 25 = .ok (.iaload, 1) := by decide +kernel
theorem d18_26 : decode (pB 18) 26 = .ok (.iload_n 1, 1) := by decide +kernel
theorem d18_27 : decode (pB 18) 27 = .ok (.if_icmp .eq 5, 3) := by decide +kernel
theorem d18_30 : decode (pB 18) 30 = .ok (.iconst 0, 1) := by decide +kernel
theorem d18_31 : decode (pB 18) 31 = .ok (.ireturn, 1) := by decide +kernel
theorem d18_32 : decode (pB 18) 32 = .ok (.aload_n 0, 1) := by decide +kernel
theorem d18_33 : decode (pB 18) 33 = .ok (.dup, 1) := by decide +kernel
theorem d18_34 : decode (pB 18) 34 = .ok (.getfield 18, 3) := by decide +kernel
theorem d18_37 : decode (pB 18) 37 = .ok (.iconst 1, 1) := by decide +kernel
theorem d18_38 : decode (pB 18) 38 = .ok (.iadd, 1) := by decide +kernel
theorem d18_39 : decode (pB 18) 39 = .ok (.putfield 18, 3) := by decide +kernel
theorem d18_42 : decode (pB 18) 42 = .ok (.iconst 1, 1) := by decide +kernel
theorem d18_43 : decode (pB 18) 43 = .ok (.ireturn, 1) := by decide +kernel
/-- RX1.skip -/
def t18_0 : List (Nat × pO) := [(0, o_aload 0 1), (1, o_getI 1 1 4), (4, o_aload 0 5), (5, o_getR 1 0 8), (8, o_getI 2 1 11), (11, o_icge 30 14), (14, o_aload 0 15), (15, o_getR 1 0 18), (18, o_getR 2 0 21), (21, o_aload 0 22), (22, o_getI 1 1 25), (25, o_iald 26), (26, o_iload 1 27), (27, o_iceq 32 30), (30, o_push (.int (nI 0)) 31), (31, o_zret), (32, o_aload 0 33), (33, o_dupr 34), (34, o_getI 1 1 37), (37, o_push (.int (nI 1)) 38), (38, o_iadd 39), (39, o_putI 1 1 42), (42, o_push (.int (nI 1)) 43), (43, o_zret)]
theorem ok18_0 : ∀ q ∈ t18_0, p_Z 18 q := List.forall_mem_cons.mpr ⟨⟨s_aload_n d18_0 rfl, tl_aload _ _⟩, List.forall_mem_cons.mpr ⟨⟨f_getI_1_1 d18_1 wd_144, tl_getI _ _ _⟩, List.forall_mem_cons.mpr ⟨⟨s_aload_n d18_4 rfl, tl_aload _ _⟩, List.forall_mem_cons.mpr ⟨⟨f_getR_1_0 d18_5 wd_142, tl_getR _ _ _⟩, List.forall_mem_cons.mpr ⟨⟨f_getI_2_1 d18_8 wd_134, tl_getI _ _ _⟩, List.forall_mem_cons.mpr ⟨⟨s_icge d18_11 rfl, tl_icge _ _⟩, List.forall_mem_cons.mpr ⟨⟨s_aload_n d18_14 rfl, tl_aload _ _⟩, List.forall_mem_cons.mpr ⟨⟨f_getR_1_0 d18_15 wd_142, tl_getR _ _ _⟩, List.forall_mem_cons.mpr ⟨⟨f_getR_2_0 d18_18 wd_131, tl_getR _ _ _⟩, List.forall_mem_cons.mpr ⟨⟨s_aload_n d18_21 rfl, tl_aload _ _⟩, List.forall_mem_cons.mpr ⟨⟨f_getI_1_1 d18_22 wd_144, tl_getI _ _ _⟩, List.forall_mem_cons.mpr ⟨⟨s_iald d18_25, tl_iald _⟩, List.forall_mem_cons.mpr ⟨⟨s_iload_n d18_26 rfl, tl_iload _ _⟩, List.forall_mem_cons.mpr ⟨⟨s_iceq d18_27 rfl, tl_iceq _ _⟩, List.forall_mem_cons.mpr ⟨⟨s_iconst d18_30 rfl, tl_push _ _⟩, List.forall_mem_cons.mpr ⟨⟨s_zret d18_31 rfl, tl_zret⟩, List.forall_mem_cons.mpr ⟨⟨s_aload_n d18_32 rfl, tl_aload _ _⟩, List.forall_mem_cons.mpr ⟨⟨s_dupr d18_33, tl_dupr _⟩, List.forall_mem_cons.mpr ⟨⟨f_getI_1_1 d18_34 wd_144, tl_getI _ _ _⟩, List.forall_mem_cons.mpr ⟨⟨s_iconst d18_37 rfl, tl_push _ _⟩, List.forall_mem_cons.mpr ⟨⟨s_iadd d18_38, tl_iadd _⟩, List.forall_mem_cons.mpr ⟨⟨f_putI_1_1 d18_39 wd_144, tl_putI _ _ _⟩, List.forall_mem_cons.mpr ⟨⟨s_iconst d18_42 rfl, tl_push _ _⟩, List.forall_mem_cons.mpr ⟨⟨s_zret d18_43 rfl, tl_zret⟩, fun _ h => absurd h List.not_mem_nil⟩⟩⟩⟩⟩⟩⟩⟩⟩⟩⟩⟩⟩⟩⟩⟩⟩⟩⟩⟩⟩⟩⟩⟩
def t18 : List (Nat × pO) := t18_0
theorem ok18 : ∀ q ∈ t18, p_Z 18 q := ok18_0
theorem d19_0 : decode (pB 19) 0 = .ok (.aload_n 0, 1) := by decide +kernel
theorem d19_1 : decode (pB 19) 1 = .ok (.aload_n 0, 1) := by decide +kernel
theorem d19_2 : decode (pB 19) 2 = .ok (.invokevirtual 61, 3) := by decide +kernel
theorem d19_5 : decode (pB 19) 5 = .ok (.putfield 25, 3) := by decide +kernel
theorem d19_8 : decode (pB 19) 8 = .ok (.aload_n 0, 1) := by decide +kernel
theorem d19_9 : decode (pB 19) 9 = .ok (.getfield 25, 3) := by decide +kernel
theorem d19_12 : decode (pB 19) 12 = .ok (.bipush (-6), 2) := by decide +kernel
theorem d19_14 : decode (pB 19) 14 = .ok (.if_icmp .eq 7, 3) := by decide +kernel
theorem d19_17 : decode (pB 19) 17 = .ok (.iconst 1, 1) := by decide +kernel
theorem d19_18 : decode (pB 19) 18 = .ok (.goto 4, 3) := by decide +kernel
theorem d19_21 : decode (pB 19) 21 = .ok (.iconst 0, 1) := by decide +kernel
theorem d19_22 : decode (pB 19) 22 = .ok (.ireturn, 1) := by decide +kernel
/-- RX1.readFirst -/
def t19_0 : List (Nat × pO) := [(0, o_aload 0 1), (1, o_aload 0 2), (2, o_invV 1 22 0 5), (5, o_putI 1 3 8), (8, o_aload 0 9), (9, o_getI 1 3 12), (12, o_push (.int (nM 6)) 14), (14, o_iceq 21 17), (17, o_push (.int (nI 1)) 18), (18, o_goto 22), (21, o_push (.int (nI 0)) 22), (22, o_zret)]
theorem ok19_0 : ∀ q ∈ t19_0, p_Z 19 q := List.forall_mem_cons.mpr ⟨⟨s_aload_n d19_0 rfl, tl_aload _ _⟩, List.forall_mem_cons.mpr ⟨⟨s_aload_n d19_1 rfl, tl_aload _ _⟩, List.forall_mem_cons.mpr ⟨⟨q_invV_22 d19_2 wd_571, tl_invV _ _ _ _⟩, List.forall_mem_cons.mpr ⟨⟨f_putI_1_3 d19_5 wd_147, tl_putI _ _ _⟩, List.forall_mem_cons.mpr ⟨⟨s_aload_n d19_8 rfl, tl_aload _ _⟩, List.forall_mem_cons.mpr ⟨⟨f_getI_1_3 d19_9 wd_147, tl_getI _ _ _⟩, List.forall_mem_cons.mpr ⟨⟨s_bipush d19_12 rfl, tl_push _ _⟩, List.forall_mem_cons.mpr ⟨⟨s_iceq d19_14 rfl, tl_iceq _ _⟩, List.forall_mem_cons.mpr ⟨⟨s_iconst d19_17 rfl, tl_push _ _⟩, List.forall_mem_cons.mpr ⟨⟨s_goto d19_18 rfl, tl_goto _⟩, List.forall_mem_cons.mpr ⟨⟨s_iconst d19_21 rfl, tl_push _ _⟩, List.forall_mem_cons.mpr ⟨⟨s_zret d19_22 rfl, tl_zret⟩, fun _ h => absurd h List.not_mem_nil⟩⟩⟩⟩⟩⟩⟩⟩⟩⟩⟩⟩
def t19 : List (Nat × pO) := t19_0
theorem ok19 : ∀ q ∈ t19, p_Z 19 q := ok19_0
theorem d20_0 : decode (pB 20) 0 = .ok (.aload_n 0, 1) := by decide +kernel
theorem d20_1 : decode (pB 20) 1 = .ok (.aload_n 0, 1) := by decide +kernel
theorem d20_2 : decode (pB 20) 2 = .ok (.invokevirtual 61, 3) := by decide +kernel
theorem d20_5 : decode (pB 20) 5 = .ok (.putfield 28, 3) := by decide +kernel
theorem d20_8 : decode (pB 20) 8 = .ok (.aload_n 0, 1) := by decide +kernel
theorem d20_9 : decode (pB 20) 9 = .ok (.getfield 28, 3) := by decide +kernel
theorem d20_12 : decode (pB 20) 12 = .ok (.bipush (-6), 2) := by decide +kernel
theorem d20_14 : decode (pB 20) 14 = .ok (.if_icmp .eq 7, 3) := by decide +kernel
theorem d20_17 : decode (pB 20) 17 = .ok (.iconst 1, 1) := by decide +kernel
theorem d20_18 : decode (pB 20) 18 = .ok (.goto 4, 3) := by decide +kernel
theorem d20_21 : decode (pB 20) 21 = .ok (.iconst 0, 1) := by decide +kernel
theorem d20_22 : decode (pB 20) 22 = .ok (.ireturn, 1) := by decide +kernel
/-- RX1.readSecond -/
def t20_0 : List (Nat × pO) := [(0, o_aload 0 1), (1, o_aload 0 2), (2, o_invV 1 22 0 5), (5, o_putI 1 4 8), (8, o_aload 0 9), (9, o_getI 1 4 12), (12, o_push (.int (nM 6)) 14), (14, o_iceq 21 17), (17, o_push (.int (nI 1)) 18), (18, o_goto 22), (21, o_push (.int (nI 0)) 22), (22, o_zret)]
theorem ok20_0 : ∀ q ∈ t20_0, p_Z 20 q := List.forall_mem_cons.mpr ⟨⟨s_aload_n d20_0 rfl, tl_aload _ _⟩, List.forall_mem_cons.mpr ⟨⟨s_aload_n d20_1 rfl, tl_aload _ _⟩, List.forall_mem_cons.mpr ⟨⟨q_invV_22 d20_2 wd_571, tl_invV _ _ _ _⟩, List.forall_mem_cons.mpr ⟨⟨f_putI_1_4 d20_5 wd_149, tl_putI _ _ _⟩, List.forall_mem_cons.mpr ⟨⟨s_aload_n d20_8 rfl, tl_aload _ _⟩, List.forall_mem_cons.mpr ⟨⟨f_getI_1_4 d20_9 wd_149, tl_getI _ _ _⟩, List.forall_mem_cons.mpr ⟨⟨s_bipush d20_12 rfl, tl_push _ _⟩, List.forall_mem_cons.mpr ⟨⟨s_iceq d20_14 rfl, tl_iceq _ _⟩, List.forall_mem_cons.mpr ⟨⟨s_iconst d20_17 rfl, tl_push _ _⟩, List.forall_mem_cons.mpr ⟨⟨s_goto d20_18 rfl, tl_goto _⟩, List.forall_mem_cons.mpr ⟨⟨s_iconst d20_21 rfl, tl_push _ _⟩, List.forall_mem_cons.mpr ⟨⟨s_zret d20_22 rfl, tl_zret⟩, fun _ h => absurd h List.not_mem_nil⟩⟩⟩⟩⟩⟩⟩⟩⟩⟩⟩⟩
def t20 : List (Nat × pO) := t20_0
theorem ok20 : ∀ q ∈ t20, p_Z 20 q := ok20_0
theorem d21_0 : decode (pB 21) 0 = .ok (.aload_n 0, 1) := by decide +kernel
theorem d21_1 : decode (pB 21) 1 = .ok (.bipush 43, 2) := by decide +kernel
theorem d21_3 : decode (pB 21) 3 = .ok (.invokevirtual 41, 3) := by decide +kernel
theorem d21_6 : decode (pB 21) 6 = .ok (.ifCond .eq 11, 3) := by decide +kernel
theorem d21_9 : decode (pB 21) 9 = .ok (.aload_n 0, 1) := by decide +kernel
theorem d21_10 : decode (pB 21) 10 = .ok (.iconst 1, 1) := by decide +kernel
theorem d21_11 : decode (pB 21) 11 = .ok (.putfield 31, 3) := by decide +kernel
theorem d21_14 : decode (pB 21) 14 = .ok (.goto 21, 3) := by decide +kernel
theorem d21_17 : decode (pB 21) 17 = .ok (.aload_n 0, 1) := by decide +kernel
theorem d21_18 : decode (pB 21) 18 = .ok (.aload_n 0, 1) := by decide +kernel
theorem d21_19 : decode (pB 21) 19 = .ok (.bipush 45, 2) := by decide +kernel
theorem d21_21 : decode (pB 21) 21 = .ok (.invokevirtual 41, 3) := by decide +kernel
theorem d21_24 : decode (pB 21) 24 = .ok (.ifCond .eq 7, 3) := by decide +kernel
theorem d21_27 : decode (pB 21) 27 = .ok (.iconst (-1), 1) := by decide +kernel
theorem d21_28 : decode (pB 21) 28 = .ok (.goto 4, 3) := by decide +kernel
theorem d21_31 : decode (pB 21) 31 = .ok (.iconst 0, 1) := by decide +kernel
theorem d21_32 : decode (pB 21) 32 = .ok (.putfield 31, 3) := by decide +kernel
theorem d21_35 : decode (pB 21) 35 = .ok (.iconst 1, 1) := by decide +kernel
theorem d21_36 : decode (pB 21) 36 = .ok (.ireturn, 1) := by decide +kernel
/-- RX1.readHow -/
def t21_0 : List (Nat × pO) := [(0, o_aload 0 1), (1, o_push (.int (nI 43)) 3), (3, o_invV 1 18 1 6), (6, o_ifeq 17 9), (9, o_aload 0 10), (10, o_push (.int (nI 1)) 11), (11, o_putI 1 5 14), (14, o_goto 35), (17, o_aload 0 18), (18, o_aload 0 19), (19, o_push (.int (nI 45)) 21), (21, o_invV 1 18 1 24), (24, o_ifeq 31 27), (27, o_push (.int (nM 1)) 28), (28, o_goto 32), (31, o_push (.int (nI 0)) 32), (32, o_putI 1 5 35), (35, o_push (.int (nI 1)) 36), (36, o_zret)]
theorem ok21_0 : ∀ q ∈ t21_0, p_Z 21 q := List.forall_mem_cons.mpr ⟨⟨s_aload_n d21_0 rfl, tl_aload _ _⟩, List.forall_mem_cons.mpr ⟨⟨s_bipush d21_1 rfl, tl_push _ _⟩, List.forall_mem_cons.mpr ⟨⟨q_invV_18 d21_3 wd_563, tl_invV _ _ _ _⟩, List.forall_mem_cons.mpr ⟨⟨s_ifeq d21_6 rfl, tl_ifeq _ _⟩, List.forall_mem_cons.mpr ⟨⟨s_aload_n d21_9 rfl, tl_aload _ _⟩, List.forall_mem_cons.mpr ⟨⟨s_iconst d21_10 rfl, tl_push _ _⟩, List.forall_mem_cons.mpr ⟨⟨f_putI_1_5 d21_11 wd_151, tl_putI _ _ _⟩, List.forall_mem_cons.mpr ⟨⟨s_goto d21_14 rfl, tl_goto _⟩, List.forall_mem_cons.mpr ⟨⟨s_aload_n d21_17 rfl, tl_aload _ _⟩, List.forall_mem_cons.mpr ⟨⟨s_aload_n d21_18 rfl, tl_aload _ _⟩, List.forall_mem_cons.mpr ⟨⟨s_bipush d21_19 rfl, tl_push _ _⟩, List.forall_mem_cons.mpr ⟨⟨q_invV_18 d21_21 wd_563, tl_invV _ _ _ _⟩, List.forall_mem_cons.mpr ⟨⟨s_ifeq d21_24 rfl, tl_ifeq _ _⟩, List.forall_mem_cons.mpr ⟨⟨s_iconst d21_27 rfl, tl_push _ _⟩, List.forall_mem_cons.mpr ⟨⟨s_goto d21_28 rfl, tl_goto _⟩, List.forall_mem_cons.mpr ⟨⟨s_iconst d21_31 rfl, tl_push _ _⟩, List.forall_mem_cons.mpr ⟨⟨f_putI_1_5 d21_32 wd_151, tl_putI _ _ _⟩, List.forall_mem_cons.mpr ⟨⟨s_iconst d21_35 rfl, tl_push _ _⟩, List.forall_mem_cons.mpr ⟨⟨s_zret d21_36 rfl, tl_zret⟩, fun _ h => absurd h List.not_mem_nil⟩⟩⟩⟩⟩⟩⟩⟩⟩⟩⟩⟩⟩⟩⟩⟩⟩⟩⟩
def t21 : List (Nat × pO) := t21_0
theorem ok21 : ∀ q ∈ t21, p_Z 21 q := ok21_0
theorem d22_0 : decode (pB 22) 0 = .ok (.aload_n 0, 1) := by decide +kernel
theorem d22_1 : decode (pB 22) 1 = .ok (.invokevirtual 65, 3) := by decide +kernel
theorem d22_4 : decode (pB 22) 4 = .ok (.istore_n 1, 1) := by decide +kernel
theorem d22_5 : decode (pB 22) 5 = .ok (.iload_n 1, 1) := by decide +kernel
theorem d22_6 : decode (pB 22) 6 = .ok (.bipush (-6), 2) := by decide +kernel
theorem d22_8 : decode (pB 22) 8 = .ok (.if_icmp .eq 7, 3) := by decide +kernel
theorem d22_11 : decode (pB 22) 11 = .ok (.iload_n 1, 1) := by decide +kernel
theorem d22_12 : decode (pB 22) 12 = .ok (.ifCond .ne 5, 3) := by decide +kernel
theorem d22_15 : decode (pB 22) 15 = .ok (.iload_n 1, 1) := by decide +kernel
theorem d22_16 : decode (pB 22) 16 = .ok (.ireturn, 1) := by decide +kernel
theorem d22_17 : decode (pB 22) 17 = .ok (.aload_n 0, 1) := by decide +kernel
theorem d22_18 : decode (pB 22) 18 = .ok (.invokevirtual 65, 3) := by decide +kernel
theorem d22_21 : decode (pB 22) 21 = .ok (.istore_n 2, 1) := by decide +kernel
theorem d22_22 : decode (pB 22) 22 = .ok (.iload_n 2, 1) := by decide +kernel
theorem d22_23 : decode (pB 22) 23 = .ok (.bipush (-6), 2) := by decide +kernel
theorem d22_25 : decode (pB 22) 25 = .ok (.if_icmp .ne 7, 3) := by decide +kernel
theorem d22_28 : decode (pB 22) 28 = .ok (.iload_n 1, 1) := by decide +kernel
theorem d22_29 : decode (pB 22) 29 = .ok (.goto 9, 3) := by decide +kernel
theorem d22_32 : decode (pB 22) 32 = .ok (.bipush 10, 2) := by decide +kernel
theorem d22_34 : decode (pB 22) 34 = .ok (.iload_n 1, 1) := by decide +kernel
theorem d22_35 : decode (pB 22) 35 = .ok (.imul, 1) := by decide +kernel
theorem d22_36 : decode (pB 22) 36 = .ok (.iload_n 2, 1) := by decide +kernel
theorem d22_37 : decode (pB 22) 37 = .ok (.iadd, 1) := by decide +kernel
theorem d22_38 : decode (pB 22) 38 = .ok (.ireturn, 1) := by decide +kernel
theorem st1_22_1 : p_st1 22 1 = true := by decide +kernel
theorem st1_22_2 : p_st1 22 2 = true := by decide +kernel
/-- RX1.readNumber -/
def t22_0 : List (Nat × pO) := [(0, o_aload 0 1), (1, o_invV 1 23 0 4), (4, o_istore 1 5), (5, o_iload 1 6), (6, o_push (.int (nM 6)) 8), (8, o_iceq 15 11), (11, o_iload 1 12), (12, o_ifne 17 15), (15, o_iload 1 16), (16, o_iret), (17, o_aload 0 18), (18, o_invV 1 23 0 21), (21, o_istore 2 22), (22, o_iload 2 23), (23, o_push (.int (nM 6)) 25), (25, o_icne 32 28), (28, o_iload 1 29), (29, o_goto 38), (32, o_push (.int (nI 10)) 34), (34, o_iload 1 35), (35, o_imul 36), (36, o_iload 2 37), (37, o_iadd 38), (38, o_iret)]
theorem ok22_0 : ∀ q ∈ t22_0, p_Z 22 q := List.forall_mem_cons.mpr ⟨⟨s_aload_n d22_0 rfl, tl_aload _ _⟩, List.forall_mem_cons.mpr ⟨⟨q_invV_23 d22_1 wd_575, tl_invV _ _ _ _⟩, List.forall_mem_cons.mpr ⟨⟨s_istore_n d22_4 rfl st1_22_1, tl_istore _ _⟩, List.forall_mem_cons.mpr ⟨⟨s_iload_n d22_5 rfl, tl_iload _ _⟩, List.forall_mem_cons.mpr ⟨⟨s_bipush d22_6 rfl, tl_push _ _⟩, List.forall_mem_cons.mpr ⟨⟨s_iceq d22_8 rfl, tl_iceq _ _⟩, List.forall_mem_cons.mpr ⟨⟨s_iload_n d22_11 rfl, tl_iload _ _⟩, List.forall_mem_cons.mpr ⟨⟨s_ifne d22_12 rfl, tl_ifne _ _⟩, List.forall_mem_cons.mpr ⟨⟨s_iload_n d22_15 rfl, tl_iload _ _⟩, List.forall_mem_cons.mpr ⟨⟨s_iret d22_16 rfl, tl_iret⟩, List.forall_mem_cons.mpr ⟨⟨s_aload_n d22_17 rfl, tl_aload _ _⟩, List.forall_mem_cons.mpr ⟨⟨q_invV_23 d22_18 wd_575, tl_invV _ _ _ _⟩, List.forall_mem_cons.mpr ⟨⟨s_istore_n d22_21 rfl st1_22_2, tl_istore _ _⟩, List.forall_mem_cons.mpr ⟨⟨s_iload_n d22_22 rfl, tl_iload _ _⟩, List.forall_mem_cons.mpr ⟨⟨s_bipush d22_23 rfl, tl_push _ _⟩, List.forall_mem_cons.mpr ⟨⟨s_icne d22_25 rfl, tl_icne _ _⟩, List.forall_mem_cons.mpr ⟨⟨s_iload_n d22_28 rfl, tl_iload _ _⟩, List.forall_mem_cons.mpr ⟨⟨s_goto d22_29 rfl, tl_goto _⟩, List.forall_mem_cons.mpr ⟨⟨s_bipush d22_32 rfl, tl_push _ _⟩, List.forall_mem_cons.mpr ⟨⟨s_iload_n d22_34 rfl, tl_iload _ _⟩, List.forall_mem_cons.mpr ⟨⟨s_imul d22_35, tl_imul _⟩, List.forall_mem_cons.mpr ⟨⟨s_iload_n d22_36 rfl, tl_iload _ _⟩, List.forall_mem_cons.mpr ⟨⟨s_iadd d22_37, tl_iadd _⟩, List.forall_mem_cons.mpr ⟨⟨s_iret d22_38 rfl, tl_iret⟩, fun _ h => absurd h List.not_mem_nil⟩⟩⟩⟩⟩⟩⟩⟩⟩⟩⟩⟩⟩⟩⟩⟩⟩⟩⟩⟩⟩⟩⟩⟩
def t22 : List (Nat × pO) := t22_0
theorem ok22 : ∀ q ∈ t22, p_Z 22 q := ok22_0
theorem d23_0 : decode (pB 23) 0 = .ok (.aload_n 0, 1) := by decide +kernel
theorem d23_1 : decode (pB 23) 1 = .ok (.getfield 18, 3) := by decide +kernel
theorem d23_4 : decode (pB 23) 4 = .ok (.aload_n 0, 1) := by decide +kernel
theorem d23_5 : decode (pB 23) 5 = .ok (.getfield 12, 3) := by decide +kernel
theorem d23_8 : decode (pB 23) 8 = .ok (.getfield 45, 3) := by decide +kernel
theorem d23_11 : decode (pB 23) 11 = .ok (.if_icmp .ge 37, 3) := by decide +kernel
theorem d23_14 : decode (pB 23) 14 = .ok (.aload_n 0, 1) := by decide +kernel
theorem d23_15 : decode (pB 23) 15 = .ok (.getfield 12, 3) := by decide +kernel
theorem d23_18 : decode (pB 23) 18 = .ok (.getfield 48, 3) := by decide +kernel
theorem d23_21 : decode (pB 23) 21 = .ok (.aload_n 0, 1) := by decide +kernel
theorem d23_22 : decode (pB 23) 22 = .ok (.getfield 18, 3) := by decide +kernel
theorem d23_25 : decode (pB 23) 25 = .ok (.iaload, 1) := by decide +kernel
theorem d23_26 : decode (pB 23) 26 = .ok (.bipush 48, 2) := by decide +kernel
theorem d23_28 : decode (pB 23) 28 = .ok (.if_icmp .lt 20, 3) := by decide +kernel
theorem d23_31 : decode (pB 23) 31 = .ok (.aload_n 0, 1) := by decide +kernel
theorem d23_32 : decode (pB 23) 32 = .ok (.getfield 12, 3) := by decide +kernel
theorem d23_35 : decode (pB 23) 35 = .ok (.getfield 48, 3) := by decide +kernel
theorem d23_38 : decode (pB 23) 38 = .ok (.aload_n 0, 1) := by decide +kernel
theorem d23_39 : decode (pB 23) 39 = .ok (.getfield 18, 3) := by decide +kernel
theorem d23_42 : decode (pB 23) 42 = .ok (.iaload, 1) := by decide +kernel
theorem d23_43 : decode (pB 23) 43 = .ok (.bipush 57, 2) := by decide +kernel
theorem d23_45 : decode (pB 23) 45 = .ok (.if_icmp .le 6, 3) := by decide +kernel
theorem d23_48 : decode (pB 23) 48 = .ok (.bipush (-6), 2) := by decide +kernel
theorem d23_50 : decode (pB 23) 50 = .ok (.ireturn, 1) := by decide +kernel
theorem d23_51 : decode (pB 23) 51 = .ok (.aload_n 0, 1) := by decide +kernel
theorem d23_52 : decode (pB 23) 52 = .ok (.dup, 1) := by decide +kernel
theorem d23_53 : decode (pB 23) 53 = .ok (.getfield 18, 3) := by decide +kernel
theorem d23_56 : decode (pB 23) 56 = .ok (.iconst 1, 1) := by decide +kernel
theorem d23_57 : decode (pB 23) 57 = .ok (.iadd, 1) := by decide +kernel
theorem d23_58 : decode (pB 23) 58 = .ok (.putfield 18, 3) := by decide +kernel
theorem d23_61 : decode (pB 23) 61 = .ok (.aload_n 0, 1) := by decide +kernel
theorem d23_62 : decode (pB 23) 62 = .ok (.getfield 12, 3) := by decide +kernel
theorem d23_65 : decode (pB 23) 65 = .ok (.getfield 48, 3) := by decide +kernel
theorem d23_68 : decode (pB 23) 68 = .ok (.aload_n 0, 1) := by decide +kernel
theorem d23_69 : decode (pB 23) 69 = .ok (.getfield 18, 3) := by decide +kernel
theorem d23_72 : decode (pB 23) 72 = .ok (.iconst 1, 1) := by decide +kernel
theorem d23_73 : decode (pB 23) 73 = .ok (.isub, 1) := by decide +kernel
theorem d23_74 : decode (pB 23) 74 = .ok (.iaload, 1) := by decide +kernel
theorem d23_75 : decode (pB 23) 75 = .ok (.bipush 48, 2) := by decide +kernel
theorem d23_77 : decode (pB 23) 77 = .ok (.isub, 1) := by decide +kernel
theorem d23_78 : decode (pB 23) 78 = .ok (.ireturn, 1) := by decide +kernel
/-- RX1.readDigit -/
def t23_0 : List (Nat × pO) := [(0, o_aload 0 1), (1, o_getI 1 1 4), (4, o_aload 0 5), (5, o_getR 1 0 8), (8, o_getI 2 1 11), (11, o_icge 48 14), (14, o_aload 0 15), (15, o_getR 1 0 18), (18, o_getR 2 0 21), (21, o_aload 0 22), (22, o_getI 1 1 25), (25, o_iald 26), (26, o_push (.int (nI 48)) 28), (28, o_iclt 48 31), (31, o_aload 0 32), (32, o_getR 1 0 35), (35, o_getR 2 0 38), (38, o_aload 0 39), (39, o_getI 1 1 42), (42, o_iald 43), (43, o_push (.int (nI 57)) 45), (45, o_icle 51 48), (48, o_push (.int (nM 6)) 50), (50, o_iret), (51, o_aload 0 52), (52, o_dupr 53), (53, o_getI 1 1 56), (56, o_push (.int (nI 1)) 57), (57, o_iadd 58), (58, o_putI 1 1 61), (61, o_aload 0 62), (62, o_getR 1 0 65), (65, o_getR 2 0 68), (68, o_aload 0 69), (69, o_getI 1 1 72), (72, o_push (.int (nI 1)) 73), (73, o_isub 74), (74, o_iald 75), (75, o_push (.int (nI 48)) 77), (77, o_isub 78)]
theorem ok23_0 : ∀ q ∈ t23_0, p_Z 23 q := List.forall_mem_cons.mpr ⟨⟨s_aload_n d23_0 rfl, tl_aload _ _⟩, List.forall_mem_cons.mpr ⟨⟨f_getI_1_1 d23_1 wd_144, tl_getI _ _ _⟩, List.forall_mem_cons.mpr ⟨⟨s_aload_n d23_4 rfl, tl_aload _ _⟩, List.forall_mem_cons.mpr ⟨⟨f_getR_1_0 d23_5 wd_142, tl_getR _ _ _⟩, List.forall_mem_cons.mpr ⟨⟨f_getI_2_1 d23_8 wd_134, tl_getI _ _ _⟩, List.forall_mem_cons.mpr ⟨⟨s_icge d23_11 rfl, tl_icge _ _⟩, List.forall_mem_cons.mpr ⟨⟨s_aload_n d23_14 rfl, tl_aload _ _⟩, List.forall_mem_cons.mpr ⟨⟨f_getR_1_0 d23_15 wd_142, tl_getR _ _ _⟩, List.forall_mem_cons.mpr ⟨⟨f_getR_2_0 d23_18 wd_131, tl_getR _ _ _⟩, List.forall_mem_cons.mpr ⟨⟨s_aload_n d23_21 rfl, tl_aload _ _⟩, List.forall_mem_cons.mpr ⟨⟨f_getI_1_1 d23_22 wd_144, tl_getI _ _ _⟩, List.forall_mem_cons.mpr ⟨⟨s_iald d23_25, tl_iald _⟩, List.forall_mem_cons.mpr ⟨⟨s_bipush d23_26 rfl, tl_push _ _⟩, List.forall_mem_cons.mpr ⟨⟨s_iclt d23_28 rfl, tl_iclt _ _⟩, List.forall_mem_cons.mpr ⟨⟨s_aload_n d23_31 rfl, tl_aload _ _⟩, List.forall_mem_cons.mpr ⟨⟨f_getR_1_0 d23_32 wd_142, tl_getR _ _ _⟩, List.forall_mem_cons.mpr ⟨⟨f_getR_2_0 d23_35 wd_131, tl_getR _ _ _⟩, List.forall_mem_cons.mpr ⟨⟨s_aload_n d23_38 rfl, tl_aload _ _⟩, List.forall_mem_cons.mpr ⟨⟨f_getI_1_1 d23_39 wd_144, tl_getI _ _ _⟩, List.forall_mem_cons.mpr ⟨⟨s_iald d23_42, tl_iald _⟩, List.forall_mem_cons.mpr ⟨⟨s_bipush d23_43 rfl, tl_push _ _⟩, List.forall_mem_cons.mpr ⟨⟨s_icle d23_45 rfl, tl_icle _ _⟩, List.forall_mem_cons.mpr ⟨⟨s_bipush d23_48 rfl, tl_push _ _⟩, List.forall_mem_cons.mpr ⟨⟨s_iret d23_50 rfl, tl_iret⟩, List.forall_mem_cons.mpr ⟨⟨s_aload_n d23_51 rfl, tl_aload _ _⟩, List.forall_mem_cons.mpr ⟨⟨s_dupr d23_52, tl_dupr _⟩, List.forall_mem_cons.mpr ⟨⟨f_getI_1_1 d23_53 wd_144, tl_getI _ _ _⟩, List.forall_mem_cons.mpr ⟨⟨s_iconst d23_56 rfl, tl_push _ _⟩, List.forall_mem_cons.mpr ⟨⟨s_iadd d23_57, tl_iadd _⟩, List.forall_mem_cons.mpr ⟨⟨f_putI_1_1 d23_58 wd_144, tl_putI _ _ _⟩, List.forall_mem_cons.mpr ⟨⟨s_aload_n d23_61 rfl, tl_aload _ _⟩, List.forall_mem_cons.mpr ⟨⟨f_getR_1_0 d23_62 wd_142, tl_getR _ _ _⟩, List.forall_mem_cons.mpr ⟨⟨f_getR_2_0 d23_65 wd_131, tl_getR _ _ _⟩, List.forall_mem_cons.mpr ⟨⟨s_aload_n d23_68 rfl, tl_aload _ _⟩, List.forall_mem_cons.mpr ⟨⟨f_getI_1_1 d23_69 wd_144, tl_getI _ _ _⟩, List.forall_mem_cons.mpr ⟨⟨s_iconst d23_72 rfl, tl_push _ _⟩, List.forall_mem_cons.mpr ⟨⟨s_isub d23_73, tl_isub _⟩, List.forall_mem_cons.mpr ⟨⟨s_iald d23_74, tl_iald _⟩, List.forall_mem_cons.mpr ⟨⟨s_bipush d23_75 rfl, tl_push _ _⟩, List.forall_mem_cons.mpr ⟨⟨s_isub d23_77, tl_isub _⟩, fun _ h => absurd h List.not_mem_nil⟩⟩⟩⟩⟩⟩⟩⟩⟩⟩⟩⟩⟩⟩⟩⟩⟩⟩⟩⟩⟩⟩⟩⟩⟩⟩⟩⟩⟩⟩⟩⟩⟩⟩⟩⟩⟩⟩⟩⟩
/-- RX1.readDigit -/
def t23_1 : List (Nat × pO) := [(78, o_iret)]
theorem ok23_1 : ∀ q ∈ t23_1, p_Z 23 q := List.forall_mem_cons.mpr ⟨⟨s_iret d23_78 rfl, tl_iret⟩, fun _ h => absurd h List.not_mem_nil⟩
def t23 : List (Nat × pO) := t23_0 ++ (t23_1)
theorem ok23 : ∀ q ∈ t23, p_Z 23 q := List.forall_mem_append.mpr ⟨ok23_0, ok23_1⟩
theorem d24_0 : decode (pB 24) 0 = .ok (.aload_n 0, 1) := by decide +kernel
theorem d24_1 : decode (pB 24) 1 = .ok (.invokespecial 3, 3) := by decide +kernel
theorem d24_4 : decode (pB 24) 4 = .ok (.aload_n 0, 1) := by decide +kernel
theorem d24_5 : decode (pB 24) 5 = .ok (.bipush 80, 2) := by decide +kernel
theorem d24_7 : decode (pB 24) 7 = .ok (.newarray .int, 2) := by decide +kernel
theorem d24_9 : decode (pB 24) 9 = .ok (.putfield 9, 3) := by decide +kernel
theorem d24_12 : decode (pB 24) 12 = .ok (.aload_n 0, 1) := by decide +kernel
theorem d24_13 : decode (pB 24) 13 = .ok (.iconst 0, 1) := by decide +kernel
theorem d24_14 : decode (pB 24) 14 = .ok (.putfield 15, 3) := by decide +kernel
theorem d24_17 : decode (pB 24) 17 = .ok (.return_, 1) := by decide +kernel
/-- RX2.<init> -/
def t24_0 : List (Nat × pO) := [(0, o_aload 0 1), (1, o_oinit 4), (4, o_aload 0 5), (5, o_push (.int (nI 80)) 7), (7, o_newa 0 9), (9, o_putR 2 0 12), (12, o_aload 0 13), (13, o_push (.int (nI 0)) 14), (14, o_putI 2 1 17), (17, o_vret)]
theorem ok24_0 : ∀ q ∈ t24_0, p_Z 24 q := List.forall_mem_cons.mpr ⟨⟨s_aload_n d24_0 rfl, tl_aload _ _⟩, List.forall_mem_cons.mpr ⟨⟨s_oinit d24_1 wd_129 wd_75 wd_76, tl_oinit _⟩, List.forall_mem_cons.mpr ⟨⟨s_aload_n d24_4 rfl, tl_aload _ _⟩, List.forall_mem_cons.mpr ⟨⟨s_bipush d24_5 rfl, tl_push _ _⟩, List.forall_mem_cons.mpr ⟨⟨s_newai d24_7 wd_114, tl_newa _ _⟩, List.forall_mem_cons.mpr ⟨⟨f_putR_2_0 d24_9 wd_130, tl_putR _ _ _⟩, List.forall_mem_cons.mpr ⟨⟨s_aload_n d24_12 rfl, tl_aload _ _⟩, List.forall_mem_cons.mpr ⟨⟨s_iconst d24_13 rfl, tl_push _ _⟩, List.forall_mem_cons.mpr ⟨⟨f_putI_2_1 d24_14 wd_133, tl_putI _ _ _⟩, List.forall_mem_cons.mpr ⟨⟨s_vret d24_17 rfl, tl_vret⟩, fun _ h => absurd h List.not_mem_nil⟩⟩⟩⟩⟩⟩⟩⟩⟩⟩
def t24 : List (Nat × pO) := t24_0
theorem ok24 : ∀ q ∈ t24, p_Z 24 q := ok24_0
theorem d25_0 : decode (pB 25) 0 = .ok (.aload_n 0, 1) := by decide +kernel
theorem d25_1 : decode (pB 25) 1 = .ok (.iconst 0, 1) := by decide +kernel
theorem d25_2 : decode (pB 25) 2 = .ok (.putfield 15, 3) := by decide +kernel
theorem d25_5 : decode (pB 25) 5 = .ok (.return_, 1) := by decide +kernel
/-- RX2.clear -/
def t25_0 : List (Nat × pO) := [(0, o_aload 0 1), (1, o_push (.int (nI 0)) 2), (2, o_putI 2 1 5), (5, o_vret)]
theorem ok25_0 : ∀ q ∈ t25_0, p_Z 25 q := List.forall_mem_cons.mpr ⟨⟨s_aload_n d25_0 rfl, tl_aload _ _⟩, List.forall_mem_cons.mpr ⟨⟨s_iconst d25_1 rfl, tl_push _ _⟩, List.forall_mem_cons.mpr ⟨⟨f_putI_2_1 d25_2 wd_133, tl_putI _ _ _⟩, List.forall_mem_cons.mpr ⟨⟨s_vret d25_5 rfl, tl_vret⟩, fun _ h => absurd h List.not_mem_nil⟩⟩⟩⟩
def t25 : List (Nat × pO) := t25_0
theorem ok25 : ∀ q ∈ t25, p_Z 25 q := ok25_0
theorem d26_0 : decode (pB 26) 0 = .ok (.aload_n 0, 1) := by decide +kernel
theorem d26_1 : decode (pB 26) 1 = .ok (.getfield 15, 3) := by decide +kernel
theorem d26_4 : decode (pB 26) 4 = .ok (.bipush 80, 2) := by decide +kernel
theorem d26_6 : decode (pB 26) 6 = .ok (.if_icmp .ge 23, 3) := by decide +kernel
theorem d26_9 : decode (pB 26) 9 = .ok (.aload_n 0, 1) := by decide +kernel
theorem d26_10 : decode (pB 26) 10 = .ok (.getfield 9, 3) := by decide +kernel
theorem d26_13 : decode (pB 26) 13 = .ok (.aload_n 0, 1) := by decide +kernel
theorem d26_14 : decode (pB 26) 14 = .ok (.getfield 15, 3) := by decide +kernel
theorem d26_17 : decode (pB 26) 17 = .ok (.iload_n 1, 1) := by decide +kernel
theorem d26_18 : decode (pB 26) 18 = .ok (.iastore, 1) := by decide +kernel
theorem d26_19 : decode (pB 26) 19 = .ok (.aload_n 0, 1) := by decide +kernel
theorem d26_20 : decode (pB 26) 20 = .ok (.dup, 1) := by decide +kernel
theorem d26_21 : decode (pB 26) 21 = .ok (.getfield 15, 3) := by decide +kernel
theorem d26_24 : decode (pB 26) 24 = .ok (.iconst 1, 1) := by decide +kernel
theorem d26_25 : decode (pB 26) 25 = .ok (.iadd, 1) := by decide +kernel
theorem d26_26 : decode (pB 26) 26 = .ok (.putfield 15, 3) := by decide +kernel
theorem d26_29 : decode (pB 26) 29 = .ok (.return_, 1) := by decide +kernel
/-- RX2.append -/
def t26_0 : List (Nat × pO) := [(0, o_aload 0 1), (1, o_getI 2 1 4), (4, o_push (.int (nI 80)) 6), (6, o_icge 29 9), (9, o_aload 0 10), (10, o_getR 2 0 13), (13, o_aload 0 14), (14, o_getI 2 1 17), (17, o_iload 1 18), (18, o_iast 19), (19, o_aload 0 20), (20, o_dupr 21), (21, o_getI 2 1 24), (24, o_push (.int (nI 1)) 25), (25, o_iadd 26), (26, o_putI 2 1 29), (29, o_vret)]
theorem ok26_0 : ∀ q ∈ t26_0, p_Z 26 q := List.forall_mem_cons.mpr ⟨⟨s_aload_n d26_0 rfl, tl_aload _ _⟩, List.forall_mem_cons.mpr ⟨⟨f_getI_2_1 d26_1 wd_133, tl_getI _ _ _⟩, List.forall_mem_cons.mpr ⟨⟨s_bipush d26_4 rfl, tl_push _ _⟩, List.forall_mem_cons.mpr ⟨⟨s_icge d26_6 rfl, tl_icge _ _⟩, List.forall_mem_cons.mpr ⟨⟨s_aload_n d26_9 rfl, tl_aload _ _⟩, List.forall_mem_cons.mpr ⟨⟨f_getR_2_0 d26_10 wd_130, tl_getR _ _ _⟩, List.forall_mem_cons.mpr ⟨⟨s_aload_n d26_13 rfl, tl_aload _ _⟩, List.forall_mem_cons.mpr ⟨⟨f_getI_2_1 d26_14 wd_133, tl_getI _ _ _⟩, List.forall_mem_cons.mpr ⟨⟨s_iload_n d26_17 rfl, tl_iload _ _⟩, List.forall_mem_cons.mpr ⟨⟨s_iast d26_18, tl_iast _⟩, List.forall_mem_cons.mpr ⟨⟨s_aload_n d26_19 rfl, tl_aload _ _⟩, List.forall_mem_cons.mpr ⟨⟨s_dupr d26_20, tl_dupr _⟩, List.forall_mem_cons.mpr ⟨⟨f_getI_2_1 d26_21 wd_133, tl_getI _ _ _⟩, List.forall_mem_cons.mpr ⟨⟨s_iconst d26_24 rfl, tl_push _ _⟩, List.forall_mem_cons.mpr ⟨⟨s_iadd d26_25, tl_iadd _⟩, List.forall_mem_cons.mpr ⟨⟨f_putI_2_1 d26_26 wd_133, tl_putI _ _ _⟩, List.forall_mem_cons.mpr ⟨⟨s_vret d26_29 rfl, tl_vret⟩, fun _ h => absurd h List.not_mem_nil⟩⟩⟩⟩⟩⟩⟩⟩⟩⟩⟩⟩⟩⟩⟩⟩⟩
def t26 : List (Nat × pO) := t26_0
theorem ok26 : ∀ q ∈ t26, p_Z 26 q := ok26_0
theorem d27_0 : decode (pB 27) 0 = .ok (.iload_n 1, 1) := by decide +kernel
theorem d27_1 : decode (pB 27) 1 = .ok (.bipush 10, 2) := by decide +kernel
theorem d27_3 : decode (pB 27) 3 = .ok (.if_icmp .lt 14, 3) := by decide +kernel
theorem d27_6 : decode (pB 27) 6 = .ok (.aload_n 0, 1) := by decide +kernel
theorem d27_7 : decode (pB 27) 7 = .ok (.bipush 48, 2) := by decide +kernel
theorem d27_9 : decode (pB 27) 9 = .ok (.iload_n 1, 1) := by decide +kernel
theorem d27_10 : decode (pB 27) 10 = .ok (.bipush 10, 2) := by decide +kernel
theorem d27_12 : decode (pB 27) 12 = .ok (.idiv, 1) := by decide +kernel
theorem d27_13 : decode (pB 27) 13 = .ok (.iadd, 1) := by decide +kernel
theorem d27_14 : decode (pB 27) 14 = .ok (.invokevirtual 19, 3) := by decide +kernel
theorem d27_17 : decode (pB 27) 17 = .ok (.aload_n 0, 1) := by decide +kernel
theorem d27_18 : decode (pB 27) 18 = .ok (.bipush 48, 2) := by decide +kernel
theorem d27_20 : decode (pB 27) 20 = .ok (.iload_n 1, 1) := by decide +kernel
theorem d27_21 : decode (pB 27) 21 = .ok (.bipush 10, 2) := by decide +kernel
theorem d27_23 : decode (pB 27) 23 = .ok (.irem, 1) := by decide +kernel
theorem d27_24 : decode (pB 27) 24 = .ok (.iadd, 1) := by decide +kernel
theorem d27_25 : decode (pB 27) 25 = .ok (.invokevirtual 19, 3) := by decide +kernel
theorem d27_28 : decode (pB 27) 28 = .ok (.return_, 1) := by decide +kernel
/-- RX2.appendNumber -/
def t27_0 : List (Nat × pO) := [(0, o_iload 1 1), (1, o_push (.int (nI 10)) 3), (3, o_iclt 17 6), (6, o_aload 0 7), (7, o_push (.int (nI 48)) 9), (9, o_iload 1 10), (10, o_push (.int (nI 10)) 12), (12, o_idiv 13), (13, o_iadd 14), (14, o_invV 2 26 1 17), (17, o_aload 0 18), (18, o_push (.int (nI 48)) 20), (20, o_iload 1 21), (21, o_push (.int (nI 10)) 23), (23, o_irem 24), (24, o_iadd 25), (25, o_invV 2 26 1 28), (28, o_vret)]
theorem ok27_0 : ∀ q ∈ t27_0, p_Z 27 q := List.forall_mem_cons.mpr ⟨⟨s_iload_n d27_0 rfl, tl_iload _ _⟩, List.forall_mem_cons.mpr ⟨⟨s_bipush d27_1 rfl, tl_push _ _⟩, List.forall_mem_cons.mpr ⟨⟨s_iclt d27_3 rfl, tl_iclt _ _⟩, List.forall_mem_cons.mpr ⟨⟨s_aload_n d27_6 rfl, tl_aload _ _⟩, List.forall_mem_cons.mpr ⟨⟨s_bipush d27_7 rfl, tl_push _ _⟩, List.forall_mem_cons.mpr ⟨⟨s_iload_n d27_9 rfl, tl_iload _ _⟩, List.forall_mem_cons.mpr ⟨⟨s_bipush d27_10 rfl, tl_push _ _⟩, List.forall_mem_cons.mpr ⟨⟨s_idiv d27_12, tl_idiv _⟩, List.forall_mem_cons.mpr ⟨⟨s_iadd d27_13, tl_iadd _⟩, List.forall_mem_cons.mpr ⟨⟨q_invV_26 d27_14 wd_454, tl_invV _ _ _ _⟩, List.forall_mem_cons.mpr ⟨⟨s_aload_n d27_17 rfl, tl_aload _ _⟩, List.forall_mem_cons.mpr ⟨⟨s_bipush d27_18 rfl, tl_push _ _⟩, List.forall_mem_cons.mpr ⟨⟨s_iload_n d27_20 rfl, tl_iload _ _⟩, List.forall_mem_cons.mpr ⟨⟨s_bipush d27_21 rfl, tl_push _ _⟩, List.forall_mem_cons.mpr ⟨⟨s_irem d27_23, tl_irem _⟩, List.forall_mem_cons.mpr ⟨⟨s_iadd d27_24, tl_iadd _⟩, List.forall_mem_cons.mpr ⟨⟨q_invV_26 d27_25 wd_454, tl_invV _ _ _ _⟩, List.forall_mem_cons.mpr ⟨⟨s_vret d27_28 rfl, tl_vret⟩, fun _ h => absurd h List.not_mem_nil⟩⟩⟩⟩⟩⟩⟩⟩⟩⟩⟩⟩⟩⟩⟩⟩⟩⟩
def t27 : List (Nat × pO) := t27_0
theorem ok27 : ∀ q ∈ t27, p_Z 27 q := ok27_0
theorem d28_0 : decode (pB 28) 0 = .ok (.aload_n 0, 1) := by decide +kernel
theorem d28_1 : decode (pB 28) 1 = .ok (.invokespecial 3, 3) := by decide +kernel
theorem d28_4 : decode (pB 28) 4 = .ok (.aload_n 0, 1) := by decide +kernel
theorem d28_5 : decode (pB 28) 5 = .ok (.getstatic 9, 3) := by decide +kernel
theorem d28_8 : decode (pB 28) 8 = .ok (.arraylength, 1) := by decide +kernel
theorem d28_9 : decode (pB 28) 9 = .ok (.newarray .int, 2) := by decide +kernel
theorem d28_11 : decode (pB 28) 11 = .ok (.putfield 13, 3) := by decide +kernel
theorem d28_14 : decode (pB 28) 14 = .ok (.aload_n 0, 1) := by decide +kernel
theorem d28_15 : decode (pB 28) 15 = .ok (.bipush 16, 2) := by decide +kernel
theorem d28_17 : decode (pB 28) 17 = .ok (.newarray .int, 2) := by decide +kernel
theorem d28_19 : decode (pB 28) 19 = .ok (.putfield 18, 3) := by decide +kernel
theorem d28_22 : decode (pB 28) 22 = .ok (.aload_n 0, 1) := by decide +kernel
theorem d28_23 : decode (pB 28) 23 = .ok (.bipush 12, 2) := by decide +kernel
theorem d28_25 : decode (pB 28) 25 = .ok (.newarray .int, 2) := by decide +kernel
theorem d28_27 : decode (pB 28) 27 = .ok (.putfield 21, 3) := by decide +kernel
theorem d28_30 : decode (pB 28) 30 = .ok (.aload_n 0, 1) := by decide +kernel
theorem d28_31 : decode (pB 28) 31 = .ok (.bipush 12, 2) := by decide +kernel
theorem d28_33 : decode (pB 28) 33 = .ok (.newarray .int, 2) := by decide +kernel
theorem d28_35 : decode (pB 28) 35 = .ok (.putfield 24, 3) := by decide +kernel
theorem d28_38 : decode (pB 28) 38 = .ok (.aload_n 0, 1) := by decide +kernel
theorem d28_39 : decode (pB 28) 39 = .ok (.iconst 5, 1) := by decide +kernel
theorem d28_40 : decode (pB 28) 40 = .ok (.newarray .int, 2) := by decide +kernel
theorem d28_42 : decode (pB 28) 42 = .ok (.putfield 27, 3) := by decide +kernel
theorem d28_45 : decode (pB 28) 45 = .ok (.aload_n 0, 1) := by decide +kernel
theorem d28_46 : decode (pB 28) 46 = .ok (.iconst 0, 1) := by decide +kernel
theorem d28_47 : decode (pB 28) 47 = .ok (.putfield 30, 3) := by decide +kernel
theorem d28_50 : decode (pB 28) 50 = .ok (.aload_n 0, 1) := by decide +kernel
theorem d28_51 : decode (pB 28) 51 = .ok (.iconst 0, 1) := by decide +kernel
theorem d28_52 : decode (pB 28) 52 = .ok (.putfield 34, 3) := by decide +kernel
theorem d28_55 : decode (pB 28) 55 = .ok (.iconst 0, 1) := by decide +kernel
theorem d28_56 : decode (pB 28) 56 = .ok (.istore_n 1, 1) := by decide +kernel
theorem d28_57 : decode (pB 28) 57 = .ok (.iload_n 1, 1) := by decide +kernel
theorem d28_58 : decode (pB 28) 58 = .ok (.aload_n 0, 1) := by decide +kernel
theorem d28_59 : decode (pB 28) 59 = .ok (.getfield 13, 3) := by decide +kernel
theorem d28_62 : decode (pB 28) 62 = .ok (.arraylength, 1) := by decide +kernel
theorem d28_63 : decode (pB 28) 63 = .ok (.if_icmp .ge 20, 3) := by decide +kernel
theorem d28_66 : decode (pB 28) 66 = .ok (.aload_n 0, 1) := by decide +kernel
theorem d28_67 : decode (pB 28) 67 = .ok (.getfield 13, 3) := by decide +kernel
theorem d28_70 : decode (pB 28) 70 = .ok (.iload_n 1, 1) := by decide +kernel
theorem d28_71 : decode (pB 28) 71 = .ok (.getstatic 9, 3) := by decide +kernel
theorem d28_74 : decode (pB 28) 74 = .ok (.iload_n 1, 1) := by decide +kernel
theorem d28_75 : decode (pB 28) 75 = .ok (.iaload, 1) := by decide +kernel
theorem d28_76 : decode (pB 28) 76 = .ok (.iastore, 1) := by decide +kernel
theorem d28_77 : decode (pB 28) 77 = .ok (.iinc 1 1, 3) := by decide +kernel
theorem d28_80 : decode (pB 28) 80 = .ok (.goto (-23), 3) := by decide +kernel
theorem d28_83 : decode (pB 28) 83 = .ok (.iconst 0, 1) := by decide +kernel
theorem d28_84 : decode (pB 28) 84 = .ok (.istore_n 1, 1) := by decide +kernel
theorem d28_85 : decode (pB 28) 85 = .ok (.iload_n 1, 1) := by decide +kernel
theorem d28_86 : decode (pB 28) 86 = .ok (.aload_n 0, 1) := by decide +kernel
theorem d28_87 : decode (pB 28) 87 = .ok (.getfield 18, 3) := by decide +kernel
theorem d28_90 : decode (pB 28) 90 = .ok (.arraylength, 1) := by decide +kernel
theorem d28_91 : decode (pB 28) 91 = .ok (.if_icmp .ge 17, 3) := by decide +kernel
theorem d28_94 : decode (pB 28) 94 = .ok (.aload_n 0, 1) := by decide +kernel
theorem d28_95 : decode (pB 28) 95 = .ok (.getfield 18, 3) := by decide +kernel
theorem d28_98 : decode (pB 28) 98 = .ok (.iload_n 1, 1) := by decide +kernel
theorem d28_99 : decode (pB 28) 99 = .ok (.bipush (-6), 2) := by decide +kernel
theorem d28_101 : decode (pB 28) 101 = .ok (.iastore, 1) := by decide +kernel
theorem d28_102 : decode (pB 28) 102 = .ok (.iinc 1 1, 3) := by decide +kernel
theorem d28_105 : decode (pB 28) 105 = .ok (.goto (-20), 3) := by decide +kernel
theorem d28_108 : decode (pB 28) 108 = .ok (.return_, 1) := by decide +kernel
theorem st1_28_1 : p_st1 28 1 = true := by decide +kernel
/-- RX3.<init> -/
def t28_0 : List (Nat × pO) := [(0, o_aload 0 1), (1, o_oinit 4), (4, o_aload 0 5), (5, o_gets 2 8), (8, o_alen 9), (9, o_newa 0 11), (11, o_putR 3 0 14), (14, o_aload 0 15), (15, o_push (.int (nI 16)) 17), (17, o_newa 0 19), (19, o_putR 3 1 22), (22, o_aload 0 23), (23, o_push (.int (nI 12)) 25), (25, o_newa 0 27), (27, o_putR 3 2 30), (30, o_aload 0 31), (31, o_push (.int (nI 12)) 33), (33, o_newa 0 35), (35, o_putR 3 3 38), (38, o_aload 0 39), (39, o_push (.int (nI 5)) 40), (40, o_newa 0 42), (42, o_putR 3 4 45), (45, o_aload 0 46), (46, o_push (.int (nI 0)) 47), (47, o_putI 3 5 50), (50, o_aload 0 51), (51, o_push (.int (nI 0)) 52), (52, o_putI 3 6 55), (55, o_push (.int (nI 0)) 56), (56, o_istore 1 57), (57, o_iload 1 58), (58, o_aload 0 59), (59, o_getR 3 0 62), (62, o_alen 63), (63, o_icge 83 66), (66, o_aload 0 67), (67, o_getR 3 0 70), (70, o_iload 1 71), (71, o_gets 2 74)]
theorem ok28_0 : ∀ q ∈ t28_0, p_Z 28 q := List.forall_mem_cons.mpr ⟨⟨s_aload_n d28_0 rfl, tl_aload _ _⟩, List.forall_mem_cons.mpr ⟨⟨s_oinit d28_1 wd_82 wd_75 wd_76, tl_oinit _⟩, List.forall_mem_cons.mpr ⟨⟨s_aload_n d28_4 rfl, tl_aload _ _⟩, List.forall_mem_cons.mpr ⟨⟨s_getsN (n := "AT_FIRST") (host := "FoldedBench") d28_5 (by decide +kernel) (by decide +kernel), tl_gets _ _⟩, List.forall_mem_cons.mpr ⟨⟨s_alen d28_8, tl_alen _⟩, List.forall_mem_cons.mpr ⟨⟨s_newai d28_9 wd_114, tl_newa _ _⟩, List.forall_mem_cons.mpr ⟨⟨f_putR_3_0 d28_11 wd_85, tl_putR _ _ _⟩, List.forall_mem_cons.mpr ⟨⟨s_aload_n d28_14 rfl, tl_aload _ _⟩, List.forall_mem_cons.mpr ⟨⟨s_bipush d28_15 rfl, tl_push _ _⟩, List.forall_mem_cons.mpr ⟨⟨s_newai d28_17 wd_114, tl_newa _ _⟩, List.forall_mem_cons.mpr ⟨⟨f_putR_3_1 d28_19 wd_87, tl_putR _ _ _⟩, List.forall_mem_cons.mpr ⟨⟨s_aload_n d28_22 rfl, tl_aload _ _⟩, List.forall_mem_cons.mpr ⟨⟨s_bipush d28_23 rfl, tl_push _ _⟩, List.forall_mem_cons.mpr ⟨⟨s_newai d28_25 wd_114, tl_newa _ _⟩, List.forall_mem_cons.mpr ⟨⟨f_putR_3_2 d28_27 wd_89, tl_putR _ _ _⟩, List.forall_mem_cons.mpr ⟨⟨s_aload_n d28_30 rfl, tl_aload _ _⟩, List.forall_mem_cons.mpr ⟨⟨s_bipush d28_31 rfl, tl_push _ _⟩, List.forall_mem_cons.mpr ⟨⟨s_newai d28_33 wd_114, tl_newa _ _⟩, List.forall_mem_cons.mpr ⟨⟨f_putR_3_3 d28_35 wd_91, tl_putR _ _ _⟩, List.forall_mem_cons.mpr ⟨⟨s_aload_n d28_38 rfl, tl_aload _ _⟩, List.forall_mem_cons.mpr ⟨⟨s_iconst d28_39 rfl, tl_push _ _⟩, List.forall_mem_cons.mpr ⟨⟨s_newai d28_40 wd_114, tl_newa _ _⟩, List.forall_mem_cons.mpr ⟨⟨f_putR_3_4 d28_42 wd_93, tl_putR _ _ _⟩, List.forall_mem_cons.mpr ⟨⟨s_aload_n d28_45 rfl, tl_aload _ _⟩, List.forall_mem_cons.mpr ⟨⟨s_iconst d28_46 rfl, tl_push _ _⟩, List.forall_mem_cons.mpr ⟨⟨f_putI_3_5 d28_47 wd_95, tl_putI _ _ _⟩, List.forall_mem_cons.mpr ⟨⟨s_aload_n d28_50 rfl, tl_aload _ _⟩, List.forall_mem_cons.mpr ⟨⟨s_iconst d28_51 rfl, tl_push _ _⟩, List.forall_mem_cons.mpr ⟨⟨f_putI_3_6 d28_52 wd_97, tl_putI _ _ _⟩, List.forall_mem_cons.mpr ⟨⟨s_iconst d28_55 rfl, tl_push _ _⟩, List.forall_mem_cons.mpr ⟨⟨s_istore_n d28_56 rfl st1_28_1, tl_istore _ _⟩, List.forall_mem_cons.mpr ⟨⟨s_iload_n d28_57 rfl, tl_iload _ _⟩, List.forall_mem_cons.mpr ⟨⟨s_aload_n d28_58 rfl, tl_aload _ _⟩, List.forall_mem_cons.mpr ⟨⟨f_getR_3_0 d28_59 wd_85, tl_getR _ _ _⟩, List.forall_mem_cons.mpr ⟨⟨s_alen d28_62, tl_alen _⟩, List.forall_mem_cons.mpr ⟨⟨s_icge d28_63 rfl, tl_icge _ _⟩, List.forall_mem_cons.mpr ⟨⟨s_aload_n d28_66 rfl, tl_aload _ _⟩, List.forall_mem_cons.mpr ⟨⟨f_getR_3_0 d28_67 wd_85, tl_getR _ _ _⟩, List.forall_mem_cons.mpr ⟨⟨s_iload_n d28_70 rfl, tl_iload _ _⟩, List.forall_mem_cons.mpr ⟨⟨s_getsN (n := "AT_FIRST") (host := "FoldedBench") d28_71 (by decide +kernel) (by decide +kernel), tl_gets _ _⟩, fun _ h => absurd h List.not_mem_nil⟩⟩⟩⟩⟩⟩⟩⟩⟩⟩⟩⟩⟩⟩⟩⟩⟩⟩⟩⟩⟩⟩⟩⟩⟩⟩⟩⟩⟩⟩⟩⟩⟩⟩⟩⟩⟩⟩⟩⟩
/-- RX3.<init> -/
def t28_1 : List (Nat × pO) := [(74, o_iload 1 75), (75, o_iald 76), (76, o_iast 77), (77, o_iinc 1 (nI 1) 80), (80, o_goto 57), (83, o_push (.int (nI 0)) 84), (84, o_istore 1 85), (85, o_iload 1 86), (86, o_aload 0 87), (87, o_getR 3 1 90), (90, o_alen 91), (91, o_icge 108 94), (94, o_aload 0 95), (95, o_getR 3 1 98), (98, o_iload 1 99), (99, o_push (.int (nM 6)) 101), (101, o_iast 102), (102, o_iinc 1 (nI 1) 105), (105, o_goto 85), (108, o_vret)]
theorem ok28_1 : ∀ q ∈ t28_1, p_Z 28 q := List.forall_mem_cons.mpr ⟨⟨s_iload_n d28_74 rfl, tl_iload _ _⟩, List.forall_mem_cons.mpr ⟨⟨s_iald d28_75, tl_iald _⟩, List.forall_mem_cons.mpr ⟨⟨s_iast d28_76, tl_iast _⟩, List.forall_mem_cons.mpr ⟨⟨s_iinc d28_77 rfl st1_28_1, tl_iinc _ _ _⟩, List.forall_mem_cons.mpr ⟨⟨s_goto d28_80 rfl, tl_goto _⟩, List.forall_mem_cons.mpr ⟨⟨s_iconst d28_83 rfl, tl_push _ _⟩, List.forall_mem_cons.mpr ⟨⟨s_istore_n d28_84 rfl st1_28_1, tl_istore _ _⟩, List.forall_mem_cons.mpr ⟨⟨s_iload_n d28_85 rfl, tl_iload _ _⟩, List.forall_mem_cons.mpr ⟨⟨s_aload_n d28_86 rfl, tl_aload _ _⟩, List.forall_mem_cons.mpr ⟨⟨f_getR_3_1 d28_87 wd_87, tl_getR _ _ _⟩, List.forall_mem_cons.mpr ⟨⟨s_alen d28_90, tl_alen _⟩, List.forall_mem_cons.mpr ⟨⟨s_icge d28_91 rfl, tl_icge _ _⟩, List.forall_mem_cons.mpr ⟨⟨s_aload_n d28_94 rfl, tl_aload _ _⟩, List.forall_mem_cons.mpr ⟨⟨f_getR_3_1 d28_95 wd_87, tl_getR _ _ _⟩, List.forall_mem_cons.mpr ⟨⟨s_iload_n d28_98 rfl, tl_iload _ _⟩, List.forall_mem_cons.mpr ⟨⟨s_bipush d28_99 rfl, tl_push _ _⟩, List.forall_mem_cons.mpr ⟨⟨s_iast d28_101, tl_iast _⟩, List.forall_mem_cons.mpr ⟨⟨s_iinc d28_102 rfl st1_28_1, tl_iinc _ _ _⟩, List.forall_mem_cons.mpr ⟨⟨s_goto d28_105 rfl, tl_goto _⟩, List.forall_mem_cons.mpr ⟨⟨s_vret d28_108 rfl, tl_vret⟩, fun _ h => absurd h List.not_mem_nil⟩⟩⟩⟩⟩⟩⟩⟩⟩⟩⟩⟩⟩⟩⟩⟩⟩⟩⟩⟩
def t28 : List (Nat × pO) := t28_0 ++ (t28_1)
theorem ok28 : ∀ q ∈ t28, p_Z 28 q := List.forall_mem_append.mpr ⟨ok28_0, ok28_1⟩
theorem d29_0 : decode (pB 29) 0 = .ok (.aload_n 1, 1) := by decide +kernel
theorem d29_1 : decode (pB 29) 1 = .ok (.getfield 13, 3) := by decide +kernel
theorem d29_4 : decode (pB 29) 4 = .ok (.iconst 0, 1) := by decide +kernel
theorem d29_5 : decode (pB 29) 5 = .ok (.aload_n 0, 1) := by decide +kernel
theorem d29_6 : decode (pB 29) 6 = .ok (.getfield 13, 3) := by decide +kernel
theorem d29_9 : decode (pB 29) 9 = .ok (.iconst 0, 1) := by decide +kernel
theorem d29_10 : decode (pB 29) 10 = .ok (.aload_n 0, 1) := by decide +kernel
theorem d29_11 : decode (pB 29) 11 = .ok (.getfield 13, 3) := by decide +kernel
theorem d29_14 : decode (pB 29) 14 = .ok (.arraylength, 1) := by decide +kernel
theorem d29_15 : decode (pB 29) 15 = .ok (.invokestatic 37, 3) := by decide +kernel
theorem d29_18 : decode (pB 29) 18 = .ok (.aload_n 1, 1) := by decide +kernel
theorem d29_19 : decode (pB 29) 19 = .ok (.getfield 18, 3) := by decide +kernel
theorem d29_22 : decode (pB 29) 22 = .ok (.iconst 0, 1) := by decide +kernel
theorem d29_23 : decode (pB 29) 23 = .ok (.aload_n 0, 1) := by decide +kernel
theorem d29_24 : decode (pB 29) 24 = .ok (.getfield 18, 3) := by decide +kernel
theorem d29_27 : decode (pB 29) 27 = .ok (.iconst 0, 1) := by decide +kernel
theorem d29_28 : decode (pB 29) 28 = .ok (.aload_n 0, 1) := by decide +kernel
theorem d29_29 : decode (pB 29) 29 = .ok (.getfield 18, 3) := by decide +kernel
theorem d29_32 : decode (pB 29) 32 = .ok (.arraylength, 1) := by decide +kernel
theorem d29_33 : decode (pB 29) 33 = .ok (.invokestatic 37, 3) := by decide +kernel
theorem d29_36 : decode (pB 29) 36 = .ok (.aload_n 1, 1) := by decide +kernel
theorem d29_37 : decode (pB 29) 37 = .ok (.getfield 21, 3) := by decide +kernel
theorem d29_40 : decode (pB 29) 40 = .ok (.iconst 0, 1) := by decide +kernel
theorem d29_41 : decode (pB 29) 41 = .ok (.aload_n 0, 1) := by decide +kernel
theorem d29_42 : decode (pB 29) 42 = .ok (.getfield 21, 3) := by decide +kernel
theorem d29_45 : decode (pB 29) 45 = .ok (.iconst 0, 1) := by decide +kernel
theorem d29_46 : decode (pB 29) 46 = .ok (.aload_n 0, 1) := by decide +kernel
theorem d29_47 : decode (pB 29) 47 = .ok (.getfield 21, 3) := by decide +kernel
theorem d29_50 : decode (pB 29) 50 = .ok (.arraylength, 1) := by decide +kernel
theorem d29_51 : decode (pB 29) 51 = .ok (.invokestatic 37, 3) := by decide +kernel
theorem d29_54 : decode (pB 29) 54 = .ok (.aload_n 1, 1) := by decide +kernel
theorem d29_55 : decode (pB 29) 55 = .ok (.getfield 24, 3) := by decide +kernel
theorem d29_58 : decode (pB 29) 58 = .ok (.iconst 0, 1) := by decide +kernel
theorem d29_59 : decode (pB 29) 59 = .ok (.aload_n 0, 1) := by decide +kernel
theorem d29_60 : decode (pB 29) 60 = .ok (.getfield 24, 3) := by decide +kernel
theorem d29_63 : decode (pB 29) 63 = .ok (.iconst 0, 1) := by decide +kernel
theorem d29_64 : decode (pB 29) 64 = .ok (.aload_n 0, 1) := by decide +kernel
theorem d29_65 : decode (pB 29) 65 = .ok (.getfield 24, 3) := by decide +kernel
theorem d29_68 : decode (pB 29) 68 = .ok (.arraylength, 1) := by decide +kernel
theorem d29_69 : decode (pB 29) 69 = .ok (.invokestatic 37, 3) := by decide +kernel
theorem d29_72 : decode (pB 29) 72 = .ok (.aload_n 1, 1) := by decide +kernel
theorem d29_73 : decode (pB 29) 73 = .ok (.getfield 27, 3) := by decide +kernel
theorem d29_76 : decode (pB 29) 76 = .ok (.iconst 0, 1) := by decide +kernel
theorem d29_77 : decode (pB 29) 77 = .ok (.aload_n 0, 1) := by decide +kernel
theorem d29_78 : decode (pB 29) 78 = .ok (.getfield 27, 3) := by decide +kernel
theorem d29_81 : decode (pB 29) 81 = .ok (.iconst 0, 1) := by decide +kernel
theorem d29_82 : decode (pB 29) 82 = .ok (.aload_n 0, 1) := by decide +kernel
theorem d29_83 : decode (pB 29) 83 = .ok (.getfield 27, 3) := by decide +kernel
theorem d29_86 : decode (pB 29) 86 = .ok (.arraylength, 1) := by decide +kernel
theorem d29_87 : decode (pB 29) 87 = .ok (.invokestatic 37, 3) := by decide +kernel
theorem d29_90 : decode (pB 29) 90 = .ok (.aload_n 0, 1) := by decide +kernel
theorem d29_91 : decode (pB 29) 91 = .ok (.aload_n 1, 1) := by decide +kernel
theorem d29_92 : decode (pB 29) 92 = .ok (.getfield 30, 3) := by decide +kernel
theorem d29_95 : decode (pB 29) 95 = .ok (.putfield 30, 3) := by decide +kernel
theorem d29_98 : decode (pB 29) 98 = .ok (.aload_n 0, 1) := by decide +kernel
theorem d29_99 : decode (pB 29) 99 = .ok (.aload_n 1, 1) := by decide +kernel
theorem d29_100 : decode (pB 29) 100 = .ok (.getfield 34, 3) := by decide +kernel
theorem d29_103 : decode (pB 29) 103 = .ok (.putfield 34, 3) := by decide +kernel
theorem d29_106 : decode (pB 29) 106 = .ok (.return_, 1) := by decide +kernel
/-- RX3.copyFrom -/
def t29_0 : List (Nat × pO) := [(0, o_aload 1 1), (1, o_getR 3 0 4), (4, o_push (.int (nI 0)) 5), (5, o_aload 0 6), (6, o_getR 3 0 9), (9, o_push (.int (nI 0)) 10), (10, o_aload 0 11), (11, o_getR 3 0 14), (14, o_alen 15), (15, o_copy 18), (18, o_aload 1 19), (19, o_getR 3 1 22), (22, o_push (.int (nI 0)) 23), (23, o_aload 0 24), (24, o_getR 3 1 27), (27, o_push (.int (nI 0)) 28), (28, o_aload 0 29), (29, o_getR 3 1 32), (32, o_alen 33), (33, o_copy 36), (36, o_aload 1 37), (37, o_getR 3 2 40), (40, o_push (.int (nI 0)) 41), (41, o_aload 0 42), (42, o_getR 3 2 45), (45, o_push (.int (nI 0)) 46), (46, o_aload 0 47), (47, o_getR 3 2 50), (50, o_alen 51), (51, o_copy 54), (54, o_aload 1 55), (55, o_getR 3 3 58), (58, o_push (.int (nI 0)) 59), (59, o_aload 0 60), (60, o_getR 3 3 63), (63, o_push (.int (nI 0)) 64), (64, o_aload 0 65), (65, o_getR 3 3 68), (68, o_alen 69), (69, o_copy 72)]
theorem ok29_0 : ∀ q ∈ t29_0, p_Z 29 q := List.forall_mem_cons.mpr ⟨⟨s_aload_n d29_0 rfl, tl_aload _ _⟩, List.forall_mem_cons.mpr ⟨⟨f_getR_3_0 d29_1 wd_85, tl_getR _ _ _⟩, List.forall_mem_cons.mpr ⟨⟨s_iconst d29_4 rfl, tl_push _ _⟩, List.forall_mem_cons.mpr ⟨⟨s_aload_n d29_5 rfl, tl_aload _ _⟩, List.forall_mem_cons.mpr ⟨⟨f_getR_3_0 d29_6 wd_85, tl_getR _ _ _⟩, List.forall_mem_cons.mpr ⟨⟨s_iconst d29_9 rfl, tl_push _ _⟩, List.forall_mem_cons.mpr ⟨⟨s_aload_n d29_10 rfl, tl_aload _ _⟩, List.forall_mem_cons.mpr ⟨⟨f_getR_3_0 d29_11 wd_85, tl_getR _ _ _⟩, List.forall_mem_cons.mpr ⟨⟨s_alen d29_14, tl_alen _⟩, List.forall_mem_cons.mpr ⟨⟨s_copy d29_15 wd_249 wd_251 wd_250 wd_66, tl_copy _⟩, List.forall_mem_cons.mpr ⟨⟨s_aload_n d29_18 rfl, tl_aload _ _⟩, List.forall_mem_cons.mpr ⟨⟨f_getR_3_1 d29_19 wd_87, tl_getR _ _ _⟩, List.forall_mem_cons.mpr ⟨⟨s_iconst d29_22 rfl, tl_push _ _⟩, List.forall_mem_cons.mpr ⟨⟨s_aload_n d29_23 rfl, tl_aload _ _⟩, List.forall_mem_cons.mpr ⟨⟨f_getR_3_1 d29_24 wd_87, tl_getR _ _ _⟩, List.forall_mem_cons.mpr ⟨⟨s_iconst d29_27 rfl, tl_push _ _⟩, List.forall_mem_cons.mpr ⟨⟨s_aload_n d29_28 rfl, tl_aload _ _⟩, List.forall_mem_cons.mpr ⟨⟨f_getR_3_1 d29_29 wd_87, tl_getR _ _ _⟩, List.forall_mem_cons.mpr ⟨⟨s_alen d29_32, tl_alen _⟩, List.forall_mem_cons.mpr ⟨⟨s_copy d29_33 wd_249 wd_251 wd_250 wd_66, tl_copy _⟩, List.forall_mem_cons.mpr ⟨⟨s_aload_n d29_36 rfl, tl_aload _ _⟩, List.forall_mem_cons.mpr ⟨⟨f_getR_3_2 d29_37 wd_89, tl_getR _ _ _⟩, List.forall_mem_cons.mpr ⟨⟨s_iconst d29_40 rfl, tl_push _ _⟩, List.forall_mem_cons.mpr ⟨⟨s_aload_n d29_41 rfl, tl_aload _ _⟩, List.forall_mem_cons.mpr ⟨⟨f_getR_3_2 d29_42 wd_89, tl_getR _ _ _⟩, List.forall_mem_cons.mpr ⟨⟨s_iconst d29_45 rfl, tl_push _ _⟩, List.forall_mem_cons.mpr ⟨⟨s_aload_n d29_46 rfl, tl_aload _ _⟩, List.forall_mem_cons.mpr ⟨⟨f_getR_3_2 d29_47 wd_89, tl_getR _ _ _⟩, List.forall_mem_cons.mpr ⟨⟨s_alen d29_50, tl_alen _⟩, List.forall_mem_cons.mpr ⟨⟨s_copy d29_51 wd_249 wd_251 wd_250 wd_66, tl_copy _⟩, List.forall_mem_cons.mpr ⟨⟨s_aload_n d29_54 rfl, tl_aload _ _⟩, List.forall_mem_cons.mpr ⟨⟨f_getR_3_3 d29_55 wd_91, tl_getR _ _ _⟩, List.forall_mem_cons.mpr ⟨⟨s_iconst d29_58 rfl, tl_push _ _⟩, List.forall_mem_cons.mpr ⟨⟨s_aload_n d29_59 rfl, tl_aload _ _⟩, List.forall_mem_cons.mpr ⟨⟨f_getR_3_3 d29_60 wd_91, tl_getR _ _ _⟩, List.forall_mem_cons.mpr ⟨⟨s_iconst d29_63 rfl, tl_push _ _⟩, List.forall_mem_cons.mpr ⟨⟨s_aload_n d29_64 rfl, tl_aload _ _⟩, List.forall_mem_cons.mpr ⟨⟨f_getR_3_3 d29_65 wd_91, tl_getR _ _ _⟩, List.forall_mem_cons.mpr ⟨⟨s_alen d29_68, tl_alen _⟩, List.forall_mem_cons.mpr ⟨⟨s_copy d29_69 wd_249 wd_251 wd_250 wd_66, tl_copy _⟩, fun _ h => absurd h List.not_mem_nil⟩⟩⟩⟩⟩⟩⟩⟩⟩⟩⟩⟩⟩⟩⟩⟩⟩⟩⟩⟩⟩⟩⟩⟩⟩⟩⟩⟩⟩⟩⟩⟩⟩⟩⟩⟩⟩⟩⟩⟩
/-- RX3.copyFrom -/
def t29_1 : List (Nat × pO) := [(72, o_aload 1 73), (73, o_getR 3 4 76), (76, o_push (.int (nI 0)) 77), (77, o_aload 0 78), (78, o_getR 3 4 81), (81, o_push (.int (nI 0)) 82), (82, o_aload 0 83), (83, o_getR 3 4 86), (86, o_alen 87), (87, o_copy 90), (90, o_aload 0 91), (91, o_aload 1 92), (92, o_getI 3 5 95), (95, o_putI 3 5 98), (98, o_aload 0 99), (99, o_aload 1 100), (100, o_getI 3 6 103), (103, o_putI 3 6 106), (106, o_vret)]
theorem ok29_1 : ∀ q ∈ t29_1, p_Z 29 q := List.forall_mem_cons.mpr ⟨⟨s_aload_n d29_72 rfl, tl_aload _ _⟩, List.forall_mem_cons.mpr ⟨⟨f_getR_3_4 d29_73 wd_93, tl_getR _ _ _⟩, List.forall_mem_cons.mpr ⟨⟨s_iconst d29_76 rfl, tl_push _ _⟩, List.forall_mem_cons.mpr ⟨⟨s_aload_n d29_77 rfl, tl_aload _ _⟩, List.forall_mem_cons.mpr ⟨⟨f_getR_3_4 d29_78 wd_93, tl_getR _ _ _⟩, List.forall_mem_cons.mpr ⟨⟨s_iconst d29_81 rfl, tl_push _ _⟩, List.forall_mem_cons.mpr ⟨⟨s_aload_n d29_82 rfl, tl_aload _ _⟩, List.forall_mem_cons.mpr ⟨⟨f_getR_3_4 d29_83 wd_93, tl_getR _ _ _⟩, List.forall_mem_cons.mpr ⟨⟨s_alen d29_86, tl_alen _⟩, List.forall_mem_cons.mpr ⟨⟨s_copy d29_87 wd_249 wd_251 wd_250 wd_66, tl_copy _⟩, List.forall_mem_cons.mpr ⟨⟨s_aload_n d29_90 rfl, tl_aload _ _⟩, List.forall_mem_cons.mpr ⟨⟨s_aload_n d29_91 rfl, tl_aload _ _⟩, List.forall_mem_cons.mpr ⟨⟨f_getI_3_5 d29_92 wd_95, tl_getI _ _ _⟩, List.forall_mem_cons.mpr ⟨⟨f_putI_3_5 d29_95 wd_95, tl_putI _ _ _⟩, List.forall_mem_cons.mpr ⟨⟨s_aload_n d29_98 rfl, tl_aload _ _⟩, List.forall_mem_cons.mpr ⟨⟨s_aload_n d29_99 rfl, tl_aload _ _⟩, List.forall_mem_cons.mpr ⟨⟨f_getI_3_6 d29_100 wd_97, tl_getI _ _ _⟩, List.forall_mem_cons.mpr ⟨⟨f_putI_3_6 d29_103 wd_97, tl_putI _ _ _⟩, List.forall_mem_cons.mpr ⟨⟨s_vret d29_106 rfl, tl_vret⟩, fun _ h => absurd h List.not_mem_nil⟩⟩⟩⟩⟩⟩⟩⟩⟩⟩⟩⟩⟩⟩⟩⟩⟩⟩⟩
def t29 : List (Nat × pO) := t29_0 ++ (t29_1)
theorem ok29 : ∀ q ∈ t29, p_Z 29 q := List.forall_mem_append.mpr ⟨ok29_0, ok29_1⟩
theorem d30_0 : decode (pB 30) 0 = .ok (.iload_n 1, 1) := by decide +kernel
theorem d30_1 : decode (pB 30) 1 = .ok (.ifCond .lt 15, 3) := by decide +kernel
theorem d30_4 : decode (pB 30) 4 = .ok (.iload_n 1, 1) := by decide +kernel
theorem d30_5 : decode (pB 30) 5 = .ok (.aload_n 0, 1) := by decide +kernel
theorem d30_6 : decode (pB 30) 6 = .ok (.getfield 30, 3) := by decide +kernel
theorem d30_9 : decode (pB 30) 9 = .ok (.if_icmp .ge 7, 3) := by decide +kernel
theorem d30_12 : decode (pB 30) 12 = .ok (.iconst 1, 1) := by decide +kernel
theorem d30_13 : decode (pB 30) 13 = .ok (.goto 4, 3) := by decide +kernel
theorem d30_16 : decode (pB 30) 16 = .ok (.iconst 0, 1) := by decide +kernel
theorem d30_17 : decode (pB 30) 17 = .ok (.ireturn, 1) := by decide +kernel
/-- RX3.hasCousin -/
def t30_0 : List (Nat × pO) := [(0, o_iload 1 1), (1, o_iflt 16 4), (4, o_iload 1 5), (5, o_aload 0 6), (6, o_getI 3 5 9), (9, o_icge 16 12), (12, o_push (.int (nI 1)) 13), (13, o_goto 17), (16, o_push (.int (nI 0)) 17), (17, o_zret)]
theorem ok30_0 : ∀ q ∈ t30_0, p_Z 30 q := List.forall_mem_cons.mpr ⟨⟨s_iload_n d30_0 rfl, tl_iload _ _⟩, List.forall_mem_cons.mpr ⟨⟨s_iflt d30_1 rfl, tl_iflt _ _⟩, List.forall_mem_cons.mpr ⟨⟨s_iload_n d30_4 rfl, tl_iload _ _⟩, List.forall_mem_cons.mpr ⟨⟨s_aload_n d30_5 rfl, tl_aload _ _⟩, List.forall_mem_cons.mpr ⟨⟨f_getI_3_5 d30_6 wd_95, tl_getI _ _ _⟩, List.forall_mem_cons.mpr ⟨⟨s_icge d30_9 rfl, tl_icge _ _⟩, List.forall_mem_cons.mpr ⟨⟨s_iconst d30_12 rfl, tl_push _ _⟩, List.forall_mem_cons.mpr ⟨⟨s_goto d30_13 rfl, tl_goto _⟩, List.forall_mem_cons.mpr ⟨⟨s_iconst d30_16 rfl, tl_push _ _⟩, List.forall_mem_cons.mpr ⟨⟨s_zret d30_17 rfl, tl_zret⟩, fun _ h => absurd h List.not_mem_nil⟩⟩⟩⟩⟩⟩⟩⟩⟩⟩
def t30 : List (Nat × pO) := t30_0
theorem ok30 : ∀ q ∈ t30, p_Z 30 q := ok30_0
theorem d31_0 : decode (pB 31) 0 = .ok (.iload_n 1, 1) := by decide +kernel
theorem d31_1 : decode (pB 31) 1 = .ok (.ifCond .lt 17, 3) := by decide +kernel
theorem d31_4 : decode (pB 31) 4 = .ok (.iload_n 1, 1) := by decide +kernel
theorem d31_5 : decode (pB 31) 5 = .ok (.aload_n 0, 1) := by decide +kernel
theorem d31_6 : decode (pB 31) 6 = .ok (.getfield 13, 3) := by decide +kernel
theorem d31_9 : decode (pB 31) 9 = .ok (.iconst 0, 1) := by decide +kernel
theorem d31_10 : decode (pB 31) 10 = .ok (.iaload, 1) := by decide +kernel
theorem d31_11 : decode (pB 31) 11 = .ok (.if_icmp .ge 7, 3) := by decide +kernel
theorem d31_14 : decode (pB 31) 14 = .ok (.iconst 1, 1) := by decide +kernel
theorem d31_15 : decode (pB 31) 15 = .ok (.goto 4, 3) := by decide +kernel
theorem d31_18 : decode (pB 31) 18 = .ok (.iconst 0, 1) := by decide +kernel
theorem d31_19 : decode (pB 31) 19 = .ok (.ireturn, 1) := by decide +kernel
/-- RX3.hasSeat -/
def t31_0 : List (Nat × pO) := [(0, o_iload 1 1), (1, o_iflt 18 4), (4, o_iload 1 5), (5, o_aload 0 6), (6, o_getR 3 0 9), (9, o_push (.int (nI 0)) 10), (10, o_iald 11), (11, o_icge 18 14), (14, o_push (.int (nI 1)) 15), (15, o_goto 19), (18, o_push (.int (nI 0)) 19), (19, o_zret)]
theorem ok31_0 : ∀ q ∈ t31_0, p_Z 31 q := List.forall_mem_cons.mpr ⟨⟨s_iload_n d31_0 rfl, tl_iload _ _⟩, List.forall_mem_cons.mpr ⟨⟨s_iflt d31_1 rfl, tl_iflt _ _⟩, List.forall_mem_cons.mpr ⟨⟨s_iload_n d31_4 rfl, tl_iload _ _⟩, List.forall_mem_cons.mpr ⟨⟨s_aload_n d31_5 rfl, tl_aload _ _⟩, List.forall_mem_cons.mpr ⟨⟨f_getR_3_0 d31_6 wd_85, tl_getR _ _ _⟩, List.forall_mem_cons.mpr ⟨⟨s_iconst d31_9 rfl, tl_push _ _⟩, List.forall_mem_cons.mpr ⟨⟨s_iald d31_10, tl_iald _⟩, List.forall_mem_cons.mpr ⟨⟨s_icge d31_11 rfl, tl_icge _ _⟩, List.forall_mem_cons.mpr ⟨⟨s_iconst d31_14 rfl, tl_push _ _⟩, List.forall_mem_cons.mpr ⟨⟨s_goto d31_15 rfl, tl_goto _⟩, List.forall_mem_cons.mpr ⟨⟨s_iconst d31_18 rfl, tl_push _ _⟩, List.forall_mem_cons.mpr ⟨⟨s_zret d31_19 rfl, tl_zret⟩, fun _ h => absurd h List.not_mem_nil⟩⟩⟩⟩⟩⟩⟩⟩⟩⟩⟩⟩
def t31 : List (Nat × pO) := t31_0
theorem ok31 : ∀ q ∈ t31, p_Z 31 q := ok31_0
theorem d32_0 : decode (pB 32) 0 = .ok (.iconst 0, 1) := by decide +kernel
theorem d32_1 : decode (pB 32) 1 = .ok (.istore_n 2, 1) := by decide +kernel
theorem d32_2 : decode (pB 32) 2 = .ok (.iload_n 2, 1) := by decide +kernel
theorem d32_3 : decode (pB 32) 3 = .ok (.aload_n 0, 1) := by decide +kernel
theorem d32_4 : decode (pB 32) 4 = .ok (.getfield 13, 3) := by decide +kernel
theorem d32_7 : decode (pB 32) 7 = .ok (.iconst 0, 1) := by decide +kernel
theorem d32_8 : decode (pB 32) 8 = .ok (.iaload, 1) := by decide +kernel
theorem d32_9 : decode (pB 32) 9 = .ok (.if_icmp .ge 21, 3) := by decide +kernel
theorem d32_12 : decode (pB 32) 12 = .ok (.aload_n 0, 1) := by decide +kernel
theorem d32_13 : decode (pB 32) 13 = .ok (.getfield 18, 3) := by decide +kernel
theorem d32_16 : decode (pB 32) 16 = .ok (.iload_n 2, 1) := by decide +kernel
theorem d32_17 : decode (pB 32) 17 = .ok (.iaload, 1) := by decide +kernel
theorem d32_18 : decode (pB 32) 18 = .ok (.iload_n 1, 1) := by decide +kernel
theorem d32_19 : decode (pB 32) 19 = .ok (.if_icmp .ne 5, 3) := by decide +kernel
theorem d32_22 : decode (pB 32) 22 = .ok (.iload_n 2, 1) := by decide +kernel
theorem d32_23 : decode (pB 32) 23 = .ok (.ireturn, 1) := by decide +kernel
theorem d32_24 : decode (pB 32) 24 = .ok (.iinc 2 1, 3) := by decide +kernel
theorem d32_27 : decode (pB 32) 27 = .ok (.goto (-25), 3) := by decide +kernel
theorem d32_30 : decode (pB 32) 30 = .ok (.bipush (-6), 2) := by decide +kernel
theorem d32_32 : decode (pB 32) 32 = .ok (.ireturn, 1) := by decide +kernel
theorem st1_32_2 : p_st1 32 2 = true := by decide +kernel
/-- RX3.seatOf -/
def t32_0 : List (Nat × pO) := [(0, o_push (.int (nI 0)) 1), (1, o_istore 2 2), (2, o_iload 2 3), (3, o_aload 0 4), (4, o_getR 3 0 7), (7, o_push (.int (nI 0)) 8), (8, o_iald 9), (9, o_icge 30 12), (12, o_aload 0 13), (13, o_getR 3 1 16), (16, o_iload 2 17), (17, o_iald 18), (18, o_iload 1 19), (19, o_icne 24 22), (22, o_iload 2 23), (23, o_iret), (24, o_iinc 2 (nI 1) 27), (27, o_goto 2), (30, o_push (.int (nM 6)) 32), (32, o_iret)]
theorem ok32_0 : ∀ q ∈ t32_0, p_Z 32 q := List.forall_mem_cons.mpr ⟨⟨s_iconst d32_0 rfl, tl_push _ _⟩, List.forall_mem_cons.mpr ⟨⟨s_istore_n d32_1 rfl st1_32_2, tl_istore _ _⟩, List.forall_mem_cons.mpr ⟨⟨s_iload_n d32_2 rfl, tl_iload _ _⟩, List.forall_mem_cons.mpr ⟨⟨s_aload_n d32_3 rfl, tl_aload _ _⟩, List.forall_mem_cons.mpr ⟨⟨f_getR_3_0 d32_4 wd_85, tl_getR _ _ _⟩, List.forall_mem_cons.mpr ⟨⟨s_iconst d32_7 rfl, tl_push _ _⟩, List.forall_mem_cons.mpr ⟨⟨s_iald d32_8, tl_iald _⟩, List.forall_mem_cons.mpr ⟨⟨s_icge d32_9 rfl, tl_icge _ _⟩, List.forall_mem_cons.mpr ⟨⟨s_aload_n d32_12 rfl, tl_aload _ _⟩, List.forall_mem_cons.mpr ⟨⟨f_getR_3_1 d32_13 wd_87, tl_getR _ _ _⟩, List.forall_mem_cons.mpr ⟨⟨s_iload_n d32_16 rfl, tl_iload _ _⟩, List.forall_mem_cons.mpr ⟨⟨s_iald d32_17, tl_iald _⟩, List.forall_mem_cons.mpr ⟨⟨s_iload_n d32_18 rfl, tl_iload _ _⟩, List.forall_mem_cons.mpr ⟨⟨s_icne d32_19 rfl, tl_icne _ _⟩, List.forall_mem_cons.mpr ⟨⟨s_iload_n d32_22 rfl, tl_iload _ _⟩, List.forall_mem_cons.mpr ⟨⟨s_iret d32_23 rfl, tl_iret⟩, List.forall_mem_cons.mpr ⟨⟨s_iinc d32_24 rfl st1_32_2, tl_iinc _ _ _⟩, List.forall_mem_cons.mpr ⟨⟨s_goto d32_27 rfl, tl_goto _⟩, List.forall_mem_cons.mpr ⟨⟨s_bipush d32_30 rfl, tl_push _ _⟩, List.forall_mem_cons.mpr ⟨⟨s_iret d32_32 rfl, tl_iret⟩, fun _ h => absurd h List.not_mem_nil⟩⟩⟩⟩⟩⟩⟩⟩⟩⟩⟩⟩⟩⟩⟩⟩⟩⟩⟩⟩
def t32 : List (Nat × pO) := t32_0
theorem ok32 : ∀ q ∈ t32, p_Z 32 q := ok32_0
theorem d33_0 : decode (pB 33) 0 = .ok (.aload_n 0, 1) := by decide +kernel
theorem d33_1 : decode (pB 33) 1 = .ok (.iload_n 1, 1) := by decide +kernel
theorem d33_2 : decode (pB 33) 2 = .ok (.invokevirtual 43, 3) := by decide +kernel
theorem d33_5 : decode (pB 33) 5 = .ok (.ifCond .eq 12, 3) := by decide +kernel
theorem d33_8 : decode (pB 33) 8 = .ok (.aload_n 0, 1) := by decide +kernel
theorem d33_9 : decode (pB 33) 9 = .ok (.getfield 18, 3) := by decide +kernel
theorem d33_12 : decode (pB 33) 12 = .ok (.iload_n 1, 1) := by decide +kernel
theorem d33_13 : decode (pB 33) 13 = .ok (.iaload, 1) := by decide +kernel
theorem d33_14 : decode (pB 33) 14 = .ok (.goto 5, 3) := by decide +kernel
theorem d33_17 : decode (pB 33) 17 = .ok (.bipush (-6), 2) := by decide +kernel
theorem d33_19 : decode (pB 33) 19 = .ok (.ireturn, 1) := by decide +kernel
/-- RX3.sitterOn -/
def t33_0 : List (Nat × pO) := [(0, o_aload 0 1), (1, o_iload 1 2), (2, o_invV 3 31 1 5), (5, o_ifeq 17 8), (8, o_aload 0 9), (9, o_getR 3 1 12), (12, o_iload 1 13), (13, o_iald 14), (14, o_goto 19), (17, o_push (.int (nM 6)) 19), (19, o_iret)]
theorem ok33_0 : ∀ q ∈ t33_0, p_Z 33 q := List.forall_mem_cons.mpr ⟨⟨s_aload_n d33_0 rfl, tl_aload _ _⟩, List.forall_mem_cons.mpr ⟨⟨s_iload_n d33_1 rfl, tl_iload _ _⟩, List.forall_mem_cons.mpr ⟨⟨q_invV_31 d33_2 wd_354, tl_invV _ _ _ _⟩, List.forall_mem_cons.mpr ⟨⟨s_ifeq d33_5 rfl, tl_ifeq _ _⟩, List.forall_mem_cons.mpr ⟨⟨s_aload_n d33_8 rfl, tl_aload _ _⟩, List.forall_mem_cons.mpr ⟨⟨f_getR_3_1 d33_9 wd_87, tl_getR _ _ _⟩, List.forall_mem_cons.mpr ⟨⟨s_iload_n d33_12 rfl, tl_iload _ _⟩, List.forall_mem_cons.mpr ⟨⟨s_iald d33_13, tl_iald _⟩, List.forall_mem_cons.mpr ⟨⟨s_goto d33_14 rfl, tl_goto _⟩, List.forall_mem_cons.mpr ⟨⟨s_bipush d33_17 rfl, tl_push _ _⟩, List.forall_mem_cons.mpr ⟨⟨s_iret d33_19 rfl, tl_iret⟩, fun _ h => absurd h List.not_mem_nil⟩⟩⟩⟩⟩⟩⟩⟩⟩⟩⟩
def t33 : List (Nat × pO) := t33_0
theorem ok33 : ∀ q ∈ t33, p_Z 33 q := ok33_0
theorem d34_0 : decode (pB 34) 0 = .ok (.iload_n 1, 1) := by decide +kernel
theorem d34_1 : decode (pB 34) 1 = .ok (.istore_n 2, 1) := by decide +kernel
theorem d34_2 : decode (pB 34) 2 = .ok (.iload_n 2, 1) := by decide +kernel
theorem d34_3 : decode (pB 34) 3 = .ok (.aload_n 0, 1) := by decide +kernel
theorem d34_4 : decode (pB 34) 4 = .ok (.getfield 13, 3) := by decide +kernel
theorem d34_7 : decode (pB 34) 7 = .ok (.iconst 0, 1) := by decide +kernel
theorem d34_8 : decode (pB 34) 8 = .ok (.iaload, 1) := by decide +kernel
theorem d34_9 : decode (pB 34) 9 = .ok (.if_icmp .ge 22, 3) := by decide +kernel
theorem d34_12 : decode (pB 34) 12 = .ok (.aload_n 0, 1) := by decide +kernel
theorem d34_13 : decode (pB 34) 13 = .ok (.getfield 18, 3) := by decide +kernel
theorem d34_16 : decode (pB 34) 16 = .ok (.iload_n 2, 1) := by decide +kernel
theorem d34_17 : decode (pB 34) 17 = .ok (.iaload, 1) := by decide +kernel
theorem d34_18 : decode (pB 34) 18 = .ok (.bipush (-6), 2) := by decide +kernel
theorem d34_20 : decode (pB 34) 20 = .ok (.if_icmp .eq 5, 3) := by decide +kernel
theorem d34_23 : decode (pB 34) 23 = .ok (.iconst 1, 1) := by decide +kernel
theorem d34_24 : decode (pB 34) 24 = .ok (.ireturn, 1) := by decide +kernel
theorem d34_25 : decode (pB 34) 25 = .ok (.iinc 2 1, 3) := by decide +kernel
theorem d34_28 : decode (pB 34) 28 = .ok (.goto (-26), 3) := by decide +kernel
theorem d34_31 : decode (pB 34) 31 = .ok (.iconst 0, 1) := by decide +kernel
theorem d34_32 : decode (pB 34) 32 = .ok (.ireturn, 1) := by decide +kernel
theorem st1_34_2 : p_st1 34 2 = true := by decide +kernel
/-- RX3.isTakenFrom -/
def t34_0 : List (Nat × pO) := [(0, o_iload 1 1), (1, o_istore 2 2), (2, o_iload 2 3), (3, o_aload 0 4), (4, o_getR 3 0 7), (7, o_push (.int (nI 0)) 8), (8, o_iald 9), (9, o_icge 31 12), (12, o_aload 0 13), (13, o_getR 3 1 16), (16, o_iload 2 17), (17, o_iald 18), (18, o_push (.int (nM 6)) 20), (20, o_iceq 25 23), (23, o_push (.int (nI 1)) 24), (24, o_zret), (25, o_iinc 2 (nI 1) 28), (28, o_goto 2), (31, o_push (.int (nI 0)) 32), (32, o_zret)]
theorem ok34_0 : ∀ q ∈ t34_0, p_Z 34 q := List.forall_mem_cons.mpr ⟨⟨s_iload_n d34_0 rfl, tl_iload _ _⟩, List.forall_mem_cons.mpr ⟨⟨s_istore_n d34_1 rfl st1_34_2, tl_istore _ _⟩, List.forall_mem_cons.mpr ⟨⟨s_iload_n d34_2 rfl, tl_iload _ _⟩, List.forall_mem_cons.mpr ⟨⟨s_aload_n d34_3 rfl, tl_aload _ _⟩, List.forall_mem_cons.mpr ⟨⟨f_getR_3_0 d34_4 wd_85, tl_getR _ _ _⟩, List.forall_mem_cons.mpr ⟨⟨s_iconst d34_7 rfl, tl_push _ _⟩, List.forall_mem_cons.mpr ⟨⟨s_iald d34_8, tl_iald _⟩, List.forall_mem_cons.mpr ⟨⟨s_icge d34_9 rfl, tl_icge _ _⟩, List.forall_mem_cons.mpr ⟨⟨s_aload_n d34_12 rfl, tl_aload _ _⟩, List.forall_mem_cons.mpr ⟨⟨f_getR_3_1 d34_13 wd_87, tl_getR _ _ _⟩, List.forall_mem_cons.mpr ⟨⟨s_iload_n d34_16 rfl, tl_iload _ _⟩, List.forall_mem_cons.mpr ⟨⟨s_iald d34_17, tl_iald _⟩, List.forall_mem_cons.mpr ⟨⟨s_bipush d34_18 rfl, tl_push _ _⟩, List.forall_mem_cons.mpr ⟨⟨s_iceq d34_20 rfl, tl_iceq _ _⟩, List.forall_mem_cons.mpr ⟨⟨s_iconst d34_23 rfl, tl_push _ _⟩, List.forall_mem_cons.mpr ⟨⟨s_zret d34_24 rfl, tl_zret⟩, List.forall_mem_cons.mpr ⟨⟨s_iinc d34_25 rfl st1_34_2, tl_iinc _ _ _⟩, List.forall_mem_cons.mpr ⟨⟨s_goto d34_28 rfl, tl_goto _⟩, List.forall_mem_cons.mpr ⟨⟨s_iconst d34_31 rfl, tl_push _ _⟩, List.forall_mem_cons.mpr ⟨⟨s_zret d34_32 rfl, tl_zret⟩, fun _ h => absurd h List.not_mem_nil⟩⟩⟩⟩⟩⟩⟩⟩⟩⟩⟩⟩⟩⟩⟩⟩⟩⟩⟩⟩
def t34 : List (Nat × pO) := t34_0
theorem ok34 : ∀ q ∈ t34, p_Z 34 q := ok34_0
theorem d35_0 : decode (pB 35) 0 = .ok (.aload_n 0, 1) := by decide +kernel
theorem d35_1 : decode (pB 35) 1 = .ok (.iload_n 1, 1) := by decide +kernel
theorem d35_2 : decode (pB 35) 2 = .ok (.invokevirtual 47, 3) := by decide +kernel
theorem d35_5 : decode (pB 35) 5 = .ok (.istore_n 2, 1) := by decide +kernel
theorem d35_6 : decode (pB 35) 6 = .ok (.iload_n 2, 1) := by decide +kernel
theorem d35_7 : decode (pB 35) 7 = .ok (.bipush (-6), 2) := by decide +kernel
theorem d35_9 : decode (pB 35) 9 = .ok (.if_icmp .ne 7, 3) := by decide +kernel
theorem d35_12 : decode (pB 35) 12 = .ok (.iconst 0, 1) := by decide +kernel
theorem d35_13 : decode (pB 35) 13 = .ok (.goto 6, 3) := by decide +kernel
theorem d35_16 : decode (pB 35) 16 = .ok (.iconst 1, 1) := by decide +kernel
theorem d35_17 : decode (pB 35) 17 = .ok (.iload_n 2, 1) := by decide +kernel
theorem d35_18 : decode (pB 35) 18 = .ok (.ishl, 1) := by decide +kernel
theorem d35_19 : decode (pB 35) 19 = .ok (.ireturn, 1) := by decide +kernel
theorem st1_35_2 : p_st1 35 2 = true := by decide +kernel
/-- RX3.bitOn -/
def t35_0 : List (Nat × pO) := [(0, o_aload 0 1), (1, o_iload 1 2), (2, o_invV 3 33 1 5), (5, o_istore 2 6), (6, o_iload 2 7), (7, o_push (.int (nM 6)) 9), (9, o_icne 16 12), (12, o_push (.int (nI 0)) 13), (13, o_goto 19), (16, o_push (.int (nI 1)) 17), (17, o_iload 2 18), (18, o_ishl 19), (19, o_iret)]
theorem ok35_0 : ∀ q ∈ t35_0, p_Z 35 q := List.forall_mem_cons.mpr ⟨⟨s_aload_n d35_0 rfl, tl_aload _ _⟩, List.forall_mem_cons.mpr ⟨⟨s_iload_n d35_1 rfl, tl_iload _ _⟩, List.forall_mem_cons.mpr ⟨⟨q_invV_33 d35_2 wd_350, tl_invV _ _ _ _⟩, List.forall_mem_cons.mpr ⟨⟨s_istore_n d35_5 rfl st1_35_2, tl_istore _ _⟩, List.forall_mem_cons.mpr ⟨⟨s_iload_n d35_6 rfl, tl_iload _ _⟩, List.forall_mem_cons.mpr ⟨⟨s_bipush d35_7 rfl, tl_push _ _⟩, List.forall_mem_cons.mpr ⟨⟨s_icne d35_9 rfl, tl_icne _ _⟩, List.forall_mem_cons.mpr ⟨⟨s_iconst d35_12 rfl, tl_push _ _⟩, List.forall_mem_cons.mpr ⟨⟨s_goto d35_13 rfl, tl_goto _⟩, List.forall_mem_cons.mpr ⟨⟨s_iconst d35_16 rfl, tl_push _ _⟩, List.forall_mem_cons.mpr ⟨⟨s_iload_n d35_17 rfl, tl_iload _ _⟩, List.forall_mem_cons.mpr ⟨⟨s_ishl d35_18, tl_ishl _⟩, List.forall_mem_cons.mpr ⟨⟨s_iret d35_19 rfl, tl_iret⟩, fun _ h => absurd h List.not_mem_nil⟩⟩⟩⟩⟩⟩⟩⟩⟩⟩⟩⟩⟩
def t35 : List (Nat × pO) := t35_0
theorem ok35 : ∀ q ∈ t35, p_Z 35 q := ok35_0
theorem d36_0 : decode (pB 36) 0 = .ok (.aload_n 0, 1) := by decide +kernel
theorem d36_1 : decode (pB 36) 1 = .ok (.iload_n 1, 1) := by decide +kernel
theorem d36_2 : decode (pB 36) 2 = .ok (.invokevirtual 51, 3) := by decide +kernel
theorem d36_5 : decode (pB 36) 5 = .ok (.aload_n 0, 1) := by decide +kernel
theorem d36_6 : decode (pB 36) 6 = .ok (.iload_n 2, 1) := by decide +kernel
theorem d36_7 : decode (pB 36) 7 = .ok (.invokevirtual 51, 3) := by decide +kernel
theorem d36_10 : decode (pB 36) 10 = .ok (.ior, 1) := by decide +kernel
theorem d36_11 : decode (pB 36) 11 = .ok (.ireturn, 1) := by decide +kernel
/-- RX3.setOn -/
def t36_0 : List (Nat × pO) := [(0, o_aload 0 1), (1, o_iload 1 2), (2, o_invV 3 35 1 5), (5, o_aload 0 6), (6, o_iload 2 7), (7, o_invV 3 35 1 10), (10, o_ior 11), (11, o_iret)]
theorem ok36_0 : ∀ q ∈ t36_0, p_Z 36 q := List.forall_mem_cons.mpr ⟨⟨s_aload_n d36_0 rfl, tl_aload _ _⟩, List.forall_mem_cons.mpr ⟨⟨s_iload_n d36_1 rfl, tl_iload _ _⟩, List.forall_mem_cons.mpr ⟨⟨q_invV_35 d36_2 wd_346, tl_invV _ _ _ _⟩, List.forall_mem_cons.mpr ⟨⟨s_aload_n d36_5 rfl, tl_aload _ _⟩, List.forall_mem_cons.mpr ⟨⟨s_iload_n d36_6 rfl, tl_iload _ _⟩, List.forall_mem_cons.mpr ⟨⟨q_invV_35 d36_7 wd_346, tl_invV _ _ _ _⟩, List.forall_mem_cons.mpr ⟨⟨s_ior d36_10, tl_ior _⟩, List.forall_mem_cons.mpr ⟨⟨s_iret d36_11 rfl, tl_iret⟩, fun _ h => absurd h List.not_mem_nil⟩⟩⟩⟩⟩⟩⟩⟩
def t36 : List (Nat × pO) := t36_0
theorem ok36 : ∀ q ∈ t36, p_Z 36 q := ok36_0
theorem d37_0 : decode (pB 37) 0 = .ok (.iconst 0, 1) := by decide +kernel
theorem d37_1 : decode (pB 37) 1 = .ok (.istore_n 1, 1) := by decide +kernel
theorem d37_2 : decode (pB 37) 2 = .ok (.iconst 0, 1) := by decide +kernel
theorem d37_3 : decode (pB 37) 3 = .ok (.istore_n 2, 1) := by decide +kernel
theorem d37_4 : decode (pB 37) 4 = .ok (.iload_n 2, 1) := by decide +kernel
theorem d37_5 : decode (pB 37) 5 = .ok (.aload_n 0, 1) := by decide +kernel
theorem d37_6 : decode (pB 37) 6 = .ok (.getfield 13, 3) := by decide +kernel
theorem d37_9 : decode (pB 37) 9 = .ok (.iconst 0, 1) := by decide +kernel
theorem d37_10 : decode (pB 37) 10 = .ok (.iaload, 1) := by decide +kernel
theorem d37_11 : decode (pB 37) 11 = .ok (.if_icmp .ge 17, 3) := by decide +kernel
theorem d37_14 : decode (pB 37) 14 = .ok (.iload_n 1, 1) := by decide +kernel
theorem d37_15 : decode (pB 37) 15 = .ok (.aload_n 0, 1) := by decide +kernel
theorem d37_16 : decode (pB 37) 16 = .ok (.iload_n 2, 1) := by decide +kernel
theorem d37_17 : decode (pB 37) 17 = .ok (.invokevirtual 51, 3) := by decide +kernel
theorem d37_20 : decode (pB 37) 20 = .ok (.ior, 1) := by decide +kernel
theorem d37_21 : decode (pB 37) 21 = .ok (.istore_n 1, 1) := by decide +kernel
theorem d37_22 : decode (pB 37) 22 = .ok (.iinc 2 1, 3) := by decide +kernel
theorem d37_25 : decode (pB 37) 25 = .ok (.goto (-21), 3) := by decide +kernel
theorem d37_28 : decode (pB 37) 28 = .ok (.iload_n 1, 1) := by decide +kernel
theorem d37_29 : decode (pB 37) 29 = .ok (.ireturn, 1) := by decide +kernel
theorem st1_37_1 : p_st1 37 1 = true := by decide +kernel
theorem st1_37_2 : p_st1 37 2 = true := by decide +kernel
/-- RX3.allWhoSit -/
def t37_0 : List (Nat × pO) := [(0, o_push (.int (nI 0)) 1), (1, o_istore 1 2), (2, o_push (.int (nI 0)) 3), (3, o_istore 2 4), (4, o_iload 2 5), (5, o_aload 0 6), (6, o_getR 3 0 9), (9, o_push (.int (nI 0)) 10), (10, o_iald 11), (11, o_icge 28 14), (14, o_iload 1 15), (15, o_aload 0 16), (16, o_iload 2 17), (17, o_invV 3 35 1 20), (20, o_ior 21), (21, o_istore 1 22), (22, o_iinc 2 (nI 1) 25), (25, o_goto 4), (28, o_iload 1 29), (29, o_iret)]
theorem ok37_0 : ∀ q ∈ t37_0, p_Z 37 q := List.forall_mem_cons.mpr ⟨⟨s_iconst d37_0 rfl, tl_push _ _⟩, List.forall_mem_cons.mpr ⟨⟨s_istore_n d37_1 rfl st1_37_1, tl_istore _ _⟩, List.forall_mem_cons.mpr ⟨⟨s_iconst d37_2 rfl, tl_push _ _⟩, List.forall_mem_cons.mpr ⟨⟨s_istore_n d37_3 rfl st1_37_2, tl_istore _ _⟩, List.forall_mem_cons.mpr ⟨⟨s_iload_n d37_4 rfl, tl_iload _ _⟩, List.forall_mem_cons.mpr ⟨⟨s_aload_n d37_5 rfl, tl_aload _ _⟩, List.forall_mem_cons.mpr ⟨⟨f_getR_3_0 d37_6 wd_85, tl_getR _ _ _⟩, List.forall_mem_cons.mpr ⟨⟨s_iconst d37_9 rfl, tl_push _ _⟩, List.forall_mem_cons.mpr ⟨⟨s_iald d37_10, tl_iald _⟩, List.forall_mem_cons.mpr ⟨⟨s_icge d37_11 rfl, tl_icge _ _⟩, List.forall_mem_cons.mpr ⟨⟨s_iload_n d37_14 rfl, tl_iload _ _⟩, List.forall_mem_cons.mpr ⟨⟨s_aload_n d37_15 rfl, tl_aload _ _⟩, List.forall_mem_cons.mpr ⟨⟨s_iload_n d37_16 rfl, tl_iload _ _⟩, List.forall_mem_cons.mpr ⟨⟨q_invV_35 d37_17 wd_346, tl_invV _ _ _ _⟩, List.forall_mem_cons.mpr ⟨⟨s_ior d37_20, tl_ior _⟩, List.forall_mem_cons.mpr ⟨⟨s_istore_n d37_21 rfl st1_37_1, tl_istore _ _⟩, List.forall_mem_cons.mpr ⟨⟨s_iinc d37_22 rfl st1_37_2, tl_iinc _ _ _⟩, List.forall_mem_cons.mpr ⟨⟨s_goto d37_25 rfl, tl_goto _⟩, List.forall_mem_cons.mpr ⟨⟨s_iload_n d37_28 rfl, tl_iload _ _⟩, List.forall_mem_cons.mpr ⟨⟨s_iret d37_29 rfl, tl_iret⟩, fun _ h => absurd h List.not_mem_nil⟩⟩⟩⟩⟩⟩⟩⟩⟩⟩⟩⟩⟩⟩⟩⟩⟩⟩⟩⟩
def t37 : List (Nat × pO) := t37_0
theorem ok37 : ∀ q ∈ t37, p_Z 37 q := ok37_0
theorem d38_0 : decode (pB 38) 0 = .ok (.aload_n 0, 1) := by decide +kernel
theorem d38_1 : decode (pB 38) 1 = .ok (.getfield 18, 3) := by decide +kernel
theorem d38_4 : decode (pB 38) 4 = .ok (.iload_n 1, 1) := by decide +kernel
theorem d38_5 : decode (pB 38) 5 = .ok (.iaload, 1) := by decide +kernel
theorem d38_6 : decode (pB 38) 6 = .ok (.istore_n 3, 1) := by decide +kernel
theorem d38_7 : decode (pB 38) 7 = .ok (.aload_n 0, 1) := by decide +kernel
theorem d38_8 : decode (pB 38) 8 = .ok (.getfield 18, 3) := by decide +kernel
theorem d38_11 : decode (pB 38) 11 = .ok (.iload_n 1, 1) := by decide +kernel
theorem d38_12 : decode (pB 38) 12 = .ok (.aload_n 0, 1) := by decide +kernel
theorem d38_13 : decode (pB 38) 13 = .ok (.getfield 18, 3) := by decide +kernel
theorem d38_16 : decode (pB 38) 16 = .ok (.iload_n 2, 1) := by decide +kernel
theorem d38_17 : decode (pB 38) 17 = .ok (.iaload, 1) := by decide +kernel
theorem d38_18 : decode (pB 38) 18 = .ok (.iastore, 1) := by decide +kernel
theorem d38_19 : decode (pB 38) 19 = .ok (.aload_n 0, 1) := by decide +kernel
theorem d38_20 : decode (pB 38) 20 = .ok (.getfield 18, 3) := by decide +kernel
theorem d38_23 : decode (pB 38) 23 = .ok (.iload_n 2, 1) := by decide +kernel
theorem d38_24 : decode (pB 38) 24 = .ok (.iload_n 3, 1) := by decide +kernel
theorem d38_25 : decode (pB 38) 25 = .ok (.iastore, 1) := by decide +kernel
theorem d38_26 : decode (pB 38) 26 = .ok (.return_, 1) := by decide +kernel
theorem st1_38_3 : p_st1 38 3 = true := by decide +kernel
/-- RX3.exchange -/
def t38_0 : List (Nat × pO) := [(0, o_aload 0 1), (1, o_getR 3 1 4), (4, o_iload 1 5), (5, o_iald 6), (6, o_istore 3 7), (7, o_aload 0 8), (8, o_getR 3 1 11), (11, o_iload 1 12), (12, o_aload 0 13), (13, o_getR 3 1 16), (16, o_iload 2 17), (17, o_iald 18), (18, o_iast 19), (19, o_aload 0 20), (20, o_getR 3 1 23), (23, o_iload 2 24), (24, o_iload 3 25), (25, o_iast 26), (26, o_vret)]
theorem ok38_0 : ∀ q ∈ t38_0, p_Z 38 q := List.forall_mem_cons.mpr ⟨⟨s_aload_n d38_0 rfl, tl_aload _ _⟩, List.forall_mem_cons.mpr ⟨⟨f_getR_3_1 d38_1 wd_87, tl_getR _ _ _⟩, List.forall_mem_cons.mpr ⟨⟨s_iload_n d38_4 rfl, tl_iload _ _⟩, List.forall_mem_cons.mpr ⟨⟨s_iald d38_5, tl_iald _⟩, List.forall_mem_cons.mpr ⟨⟨s_istore_n d38_6 rfl st1_38_3, tl_istore _ _⟩, List.forall_mem_cons.mpr ⟨⟨s_aload_n d38_7 rfl, tl_aload _ _⟩, List.forall_mem_cons.mpr ⟨⟨f_getR_3_1 d38_8 wd_87, tl_getR _ _ _⟩, List.forall_mem_cons.mpr ⟨⟨s_iload_n d38_11 rfl, tl_iload _ _⟩, List.forall_mem_cons.mpr ⟨⟨s_aload_n d38_12 rfl, tl_aload _ _⟩, List.forall_mem_cons.mpr ⟨⟨f_getR_3_1 d38_13 wd_87, tl_getR _ _ _⟩, List.forall_mem_cons.mpr ⟨⟨s_iload_n d38_16 rfl, tl_iload _ _⟩, List.forall_mem_cons.mpr ⟨⟨s_iald d38_17, tl_iald _⟩, List.forall_mem_cons.mpr ⟨⟨s_iast d38_18, tl_iast _⟩, List.forall_mem_cons.mpr ⟨⟨s_aload_n d38_19 rfl, tl_aload _ _⟩, List.forall_mem_cons.mpr ⟨⟨f_getR_3_1 d38_20 wd_87, tl_getR _ _ _⟩, List.forall_mem_cons.mpr ⟨⟨s_iload_n d38_23 rfl, tl_iload _ _⟩, List.forall_mem_cons.mpr ⟨⟨s_iload_n d38_24 rfl, tl_iload _ _⟩, List.forall_mem_cons.mpr ⟨⟨s_iast d38_25, tl_iast _⟩, List.forall_mem_cons.mpr ⟨⟨s_vret d38_26 rfl, tl_vret⟩, fun _ h => absurd h List.not_mem_nil⟩⟩⟩⟩⟩⟩⟩⟩⟩⟩⟩⟩⟩⟩⟩⟩⟩⟩⟩
def t38 : List (Nat × pO) := t38_0
theorem ok38 : ∀ q ∈ t38, p_Z 38 q := ok38_0
theorem d39_0 : decode (pB 39) 0 = .ok (.aload_n 0, 1) := by decide +kernel
theorem d39_1 : decode (pB 39) 1 = .ok (.getfield 21, 3) := by decide +kernel
theorem d39_4 : decode (pB 39) 4 = .ok (.iload_n 1, 1) := by decide +kernel
theorem d39_5 : decode (pB 39) 5 = .ok (.iaload, 1) := by decide +kernel
theorem d39_6 : decode (pB 39) 6 = .ok (.iload_n 2, 1) := by decide +kernel
theorem d39_7 : decode (pB 39) 7 = .ok (.ishr, 1) := by decide +kernel
theorem d39_8 : decode (pB 39) 8 = .ok (.iconst 1, 1) := by decide +kernel
theorem d39_9 : decode (pB 39) 9 = .ok (.iand, 1) := by decide +kernel
theorem d39_10 : decode (pB 39) 10 = .ok (.ifCond .eq 5, 3) := by decide +kernel
theorem d39_13 : decode (pB 39) 13 = .ok (.iconst 1, 1) := by decide +kernel
theorem d39_14 : decode (pB 39) 14 = .ok (.ireturn, 1) := by decide +kernel
theorem d39_15 : decode (pB 39) 15 = .ok (.aload_n 0, 1) := by decide +kernel
theorem d39_16 : decode (pB 39) 16 = .ok (.getfield 24, 3) := by decide +kernel
theorem d39_19 : decode (pB 39) 19 = .ok (.iload_n 1, 1) := by decide +kernel
theorem d39_20 : decode (pB 39) 20 = .ok (.iaload, 1) := by decide +kernel
theorem d39_21 : decode (pB 39) 21 = .ok (.iload_n 2, 1) := by decide +kernel
theorem d39_22 : decode (pB 39) 22 = .ok (.ishr, 1) := by decide +kernel
theorem d39_23 : decode (pB 39) 23 = .ok (.iconst 1, 1) := by decide +kernel
theorem d39_24 : decode (pB 39) 24 = .ok (.iand, 1) := by decide +kernel
theorem d39_25 : decode (pB 39) 25 = .ok (.ifCond .eq 7, 3) := by decide +kernel
theorem d39_28 : decode (pB 39) 28 = .ok (.iconst (-1), 1) := by decide +kernel
theorem d39_29 : decode (pB 39) 29 = .ok (.goto 4, 3) := by decide +kernel
theorem d39_32 : decode (pB 39) 32 = .ok (.iconst 0, 1) := by decide +kernel
theorem d39_33 : decode (pB 39) 33 = .ok (.ireturn, 1) := by decide +kernel
/-- RX3.howAre -/
def t39_0 : List (Nat × pO) := [(0, o_aload 0 1), (1, o_getR 3 2 4), (4, o_iload 1 5), (5, o_iald 6), (6, o_iload 2 7), (7, o_ishr 8), (8, o_push (.int (nI 1)) 9), (9, o_iand 10), (10, o_ifeq 15 13), (13, o_push (.int (nI 1)) 14), (14, o_iret), (15, o_aload 0 16), (16, o_getR 3 3 19), (19, o_iload 1 20), (20, o_iald 21), (21, o_iload 2 22), (22, o_ishr 23), (23, o_push (.int (nI 1)) 24), (24, o_iand 25), (25, o_ifeq 32 28), (28, o_push (.int (nM 1)) 29), (29, o_goto 33), (32, o_push (.int (nI 0)) 33), (33, o_iret)]
theorem ok39_0 : ∀ q ∈ t39_0, p_Z 39 q := List.forall_mem_cons.mpr ⟨⟨s_aload_n d39_0 rfl, tl_aload _ _⟩, List.forall_mem_cons.mpr ⟨⟨f_getR_3_2 d39_1 wd_89, tl_getR _ _ _⟩, List.forall_mem_cons.mpr ⟨⟨s_iload_n d39_4 rfl, tl_iload _ _⟩, List.forall_mem_cons.mpr ⟨⟨s_iald d39_5, tl_iald _⟩, List.forall_mem_cons.mpr ⟨⟨s_iload_n d39_6 rfl, tl_iload _ _⟩, List.forall_mem_cons.mpr ⟨⟨s_ishr d39_7, tl_ishr _⟩, List.forall_mem_cons.mpr ⟨⟨s_iconst d39_8 rfl, tl_push _ _⟩, List.forall_mem_cons.mpr ⟨⟨s_iand d39_9, tl_iand _⟩, List.forall_mem_cons.mpr ⟨⟨s_ifeq d39_10 rfl, tl_ifeq _ _⟩, List.forall_mem_cons.mpr ⟨⟨s_iconst d39_13 rfl, tl_push _ _⟩, List.forall_mem_cons.mpr ⟨⟨s_iret d39_14 rfl, tl_iret⟩, List.forall_mem_cons.mpr ⟨⟨s_aload_n d39_15 rfl, tl_aload _ _⟩, List.forall_mem_cons.mpr ⟨⟨f_getR_3_3 d39_16 wd_91, tl_getR _ _ _⟩, List.forall_mem_cons.mpr ⟨⟨s_iload_n d39_19 rfl, tl_iload _ _⟩, List.forall_mem_cons.mpr ⟨⟨s_iald d39_20, tl_iald _⟩, List.forall_mem_cons.mpr ⟨⟨s_iload_n d39_21 rfl, tl_iload _ _⟩, List.forall_mem_cons.mpr ⟨⟨s_ishr d39_22, tl_ishr _⟩, List.forall_mem_cons.mpr ⟨⟨s_iconst d39_23 rfl, tl_push _ _⟩, List.forall_mem_cons.mpr ⟨⟨s_iand d39_24, tl_iand _⟩, List.forall_mem_cons.mpr ⟨⟨s_ifeq d39_25 rfl, tl_ifeq _ _⟩, List.forall_mem_cons.mpr ⟨⟨s_iconst d39_28 rfl, tl_push _ _⟩, List.forall_mem_cons.mpr ⟨⟨s_goto d39_29 rfl, tl_goto _⟩, List.forall_mem_cons.mpr ⟨⟨s_iconst d39_32 rfl, tl_push _ _⟩, List.forall_mem_cons.mpr ⟨⟨s_iret d39_33 rfl, tl_iret⟩, fun _ h => absurd h List.not_mem_nil⟩⟩⟩⟩⟩⟩⟩⟩⟩⟩⟩⟩⟩⟩⟩⟩⟩⟩⟩⟩⟩⟩⟩⟩
def t39 : List (Nat × pO) := t39_0
theorem ok39 : ∀ q ∈ t39, p_Z 39 q := ok39_0
theorem d40_0 : decode (pB 40) 0 = .ok (.iconst 1, 1) := by decide +kernel
theorem d40_1 : decode (pB 40) 1 = .ok (.iload_n 2, 1) := by decide +kernel
theorem d40_2 : decode (pB 40) 2 = .ok (.ishl, 1) := by decide +kernel
theorem d40_3 : decode (pB 40) 3 = .ok (.istore 4, 2) := by decide +kernel
theorem d40_5 : decode (pB 40) 5 = .ok (.aload_n 0, 1) := by decide +kernel
theorem d40_6 : decode (pB 40) 6 = .ok (.getfield 21, 3) := by decide +kernel
theorem d40_9 : decode (pB 40) 9 = .ok (.iload_n 1, 1) := by decide +kernel
theorem d40_10 : decode (pB 40) 10 = .ok (.iload_n 3, 1) := by decide +kernel
theorem d40_11 : decode (pB 40) 11 = .ok (.iconst 1, 1) := by decide +kernel
theorem d40_12 : decode (pB 40) 12 = .ok (.if_icmp .ne 15, 3) := by decide +kernel
theorem d40_15 : decode (pB 40) 15 = .ok (.aload_n 0, 1) := by decide +kernel
theorem d40_16 : decode (pB 40) 16 = .ok (.getfield 21, 3) := by decide +kernel
theorem d40_19 : decode (pB 40) 19 = .ok (.iload_n 1, 1) := by decide +kernel
theorem d40_20 : decode (pB 40) 20 = .ok (.iaload, 1) := by decide +kernel
theorem d40_21 : decode (pB 40) 21 = .ok (.iload 4, 2) := by decide +kernel
theorem d40_23 : decode (pB 40) 23 = .ok (.ior, 1) := by decide +kernel
theorem d40_24 : decode (pB 40) 24 = .ok (.goto 14, 3) := by decide +kernel
theorem d40_27 : decode (pB 40) 27 = .ok (.aload_n 0, 1) := by decide +kernel
theorem d40_28 : decode (pB 40) 28 = .ok (.getfield 21, 3) := by decide +kernel
theorem d40_31 : decode (pB 40) 31 = .ok (.iload_n 1, 1) := by decide +kernel
theorem d40_32 : decode (pB 40) 32 = .ok (.iaload, 1) := by decide +kernel
theorem d40_33 : decode (pB 40) 33 = .ok (.iload 4, 2) := by decide +kernel
theorem d40_35 : decode (pB 40) 35 = .ok (.iconst (-1), 1) := by decide +kernel
theorem d40_36 : decode (pB 40) 36 = .ok (.ixor, 1) := by decide +kernel
theorem d40_37 : decode (pB 40) 37 = .ok (.iand, 1) := by decide +kernel
theorem d40_38 : decode (pB 40) 38 = .ok (.iastore, 1) := by decide +kernel
theorem d40_39 : decode (pB 40) 39 = .ok (.aload_n 0, 1) := by decide +kernel
theorem d40_40 : decode (pB 40) 40 = .ok (.getfield 24, 3) := by decide +kernel
theorem d40_43 : decode (pB 40) 43 = .ok (.iload_n 1, 1) := by decide +kernel
theorem d40_44 : decode (pB 40) 44 = .ok (.iload_n 3, 1) := by decide +kernel
theorem d40_45 : decode (pB 40) 45 = .ok (.iconst (-1), 1) := by decide +kernel
theorem d40_46 : decode (pB 40) 46 = .ok (.if_icmp .ne 15, 3) := by decide +kernel
theorem d40_49 : decode (pB 40) 49 = .ok (.aload_n 0, 1) := by decide +kernel
theorem d40_50 : decode (pB 40) 50 = .ok (.getfield 24, 3) := by decide +kernel
theorem d40_53 : decode (pB 40) 53 = .ok (.iload_n 1, 1) := by decide +kernel
theorem d40_54 : decode (pB 40) 54 = .ok (.iaload, 1) := by decide +kernel
theorem d40_55 : decode (pB 40) 55 = .ok (.iload 4, 2) := by decide +kernel
theorem d40_57 : decode (pB 40) 57 = .ok (.ior, 1) := by decide +kernel
theorem d40_58 : decode (pB 40) 58 = .ok (.goto 14, 3) := by decide +kernel
theorem d40_61 : decode (pB 40) 61 = .ok (.aload_n 0, 1) := by decide +kernel
theorem d40_62 : decode (pB 40) 62 = .ok (.getfield 24, 3) := by decide +kernel
theorem d40_65 : decode (pB 40) 65 = .ok (.iload_n 1, 1) := by decide +kernel
theorem d40_66 : decode (pB 40) 66 = .ok (.iaload, 1) := by decide +kernel
theorem d40_67 : decode (pB 40) 67 = .ok (.iload 4, 2) := by decide +kernel
theorem d40_69 : decode (pB 40) 69 = .ok (.iconst (-1), 1) := by decide +kernel
theorem d40_70 : decode (pB 40) 70 = .ok (.ixor, 1) := by decide +kernel
theorem d40_71 : decode (pB 40) 71 = .ok (.iand, 1) := by decide +kernel
theorem d40_72 : decode (pB 40) 72 = .ok (.iastore, 1) := by decide +kernel
theorem d40_73 : decode (pB 40) 73 = .ok (.return_, 1) := by decide +kernel
theorem st1_40_4 : p_st1 40 4 = true := by decide +kernel
/-- RX3.makeBe -/
def t40_0 : List (Nat × pO) := [(0, o_push (.int (nI 1)) 1), (1, o_iload 2 2), (2, o_ishl 3), (3, o_istore 4 5), (5, o_aload 0 6), (6, o_getR 3 2 9), (9, o_iload 1 10), (10, o_iload 3 11), (11, o_push (.int (nI 1)) 12), (12, o_icne 27 15), (15, o_aload 0 16), (16, o_getR 3 2 19), (19, o_iload 1 20), (20, o_iald 21), (21, o_iload 4 23), (23, o_ior 24), (24, o_goto 38), (27, o_aload 0 28), (28, o_getR 3 2 31), (31, o_iload 1 32), (32, o_iald 33), (33, o_iload 4 35), (35, o_push (.int (nM 1)) 36), (36, o_ixor 37), (37, o_iand 38), (38, o_iast 39), (39, o_aload 0 40), (40, o_getR 3 3 43), (43, o_iload 1 44), (44, o_iload 3 45), (45, o_push (.int (nM 1)) 46), (46, o_icne 61 49), (49, o_aload 0 50), (50, o_getR 3 3 53), (53, o_iload 1 54), (54, o_iald 55), (55, o_iload 4 57), (57, o_ior 58), (58, o_goto 72), (61, o_aload 0 62)]
theorem ok40_0 : ∀ q ∈ t40_0, p_Z 40 q := List.forall_mem_cons.mpr ⟨⟨s_iconst d40_0 rfl, tl_push _ _⟩, List.forall_mem_cons.mpr ⟨⟨s_iload_n d40_1 rfl, tl_iload _ _⟩, List.forall_mem_cons.mpr ⟨⟨s_ishl d40_2, tl_ishl _⟩, List.forall_mem_cons.mpr ⟨⟨s_istore d40_3 st1_40_4, tl_istore _ _⟩, List.forall_mem_cons.mpr ⟨⟨s_aload_n d40_5 rfl, tl_aload _ _⟩, List.forall_mem_cons.mpr ⟨⟨f_getR_3_2 d40_6 wd_89, tl_getR _ _ _⟩, List.forall_mem_cons.mpr ⟨⟨s_iload_n d40_9 rfl, tl_iload _ _⟩, List.forall_mem_cons.mpr ⟨⟨s_iload_n d40_10 rfl, tl_iload _ _⟩, List.forall_mem_cons.mpr ⟨⟨s_iconst d40_11 rfl, tl_push _ _⟩, List.forall_mem_cons.mpr ⟨⟨s_icne d40_12 rfl, tl_icne _ _⟩, List.forall_mem_cons.mpr ⟨⟨s_aload_n d40_15 rfl, tl_aload _ _⟩, List.forall_mem_cons.mpr ⟨⟨f_getR_3_2 d40_16 wd_89, tl_getR _ _ _⟩, List.forall_mem_cons.mpr ⟨⟨s_iload_n d40_19 rfl, tl_iload _ _⟩, List.forall_mem_cons.mpr ⟨⟨s_iald d40_20, tl_iald _⟩, List.forall_mem_cons.mpr ⟨⟨s_iload d40_21, tl_iload _ _⟩, List.forall_mem_cons.mpr ⟨⟨s_ior d40_23, tl_ior _⟩, List.forall_mem_cons.mpr ⟨⟨s_goto d40_24 rfl, tl_goto _⟩, List.forall_mem_cons.mpr ⟨⟨s_aload_n d40_27 rfl, tl_aload _ _⟩, List.forall_mem_cons.mpr ⟨⟨f_getR_3_2 d40_28 wd_89, tl_getR _ _ _⟩, List.forall_mem_cons.mpr ⟨⟨s_iload_n d40_31 rfl, tl_iload _ _⟩, List.forall_mem_cons.mpr ⟨⟨s_iald d40_32, tl_iald _⟩, List.forall_mem_cons.mpr ⟨⟨s_iload d40_33, tl_iload _ _⟩, List.forall_mem_cons.mpr ⟨⟨s_iconst d40_35 rfl, tl_push _ _⟩, List.forall_mem_cons.mpr ⟨⟨s_ixor d40_36, tl_ixor _⟩, List.forall_mem_cons.mpr ⟨⟨s_iand d40_37, tl_iand _⟩, List.forall_mem_cons.mpr ⟨⟨s_iast d40_38, tl_iast _⟩, List.forall_mem_cons.mpr ⟨⟨s_aload_n d40_39 rfl, tl_aload _ _⟩, List.forall_mem_cons.mpr ⟨⟨f_getR_3_3 d40_40 wd_91, tl_getR _ _ _⟩, List.forall_mem_cons.mpr ⟨⟨s_iload_n d40_43 rfl, tl_iload _ _⟩, List.forall_mem_cons.mpr ⟨⟨s_iload_n d40_44 rfl, tl_iload _ _⟩, List.forall_mem_cons.mpr ⟨⟨s_iconst d40_45 rfl, tl_push _ _⟩, List.forall_mem_cons.mpr ⟨⟨s_icne d40_46 rfl, tl_icne _ _⟩, List.forall_mem_cons.mpr ⟨⟨s_aload_n d40_49 rfl, tl_aload _ _⟩, List.forall_mem_cons.mpr ⟨⟨f_getR_3_3 d40_50 wd_91, tl_getR _ _ _⟩, List.forall_mem_cons.mpr ⟨⟨s_iload_n d40_53 rfl, tl_iload _ _⟩, List.forall_mem_cons.mpr ⟨⟨s_iald d40_54, tl_iald _⟩, List.forall_mem_cons.mpr ⟨⟨s_iload d40_55, tl_iload _ _⟩, List.forall_mem_cons.mpr ⟨⟨s_ior d40_57, tl_ior _⟩, List.forall_mem_cons.mpr ⟨⟨s_goto d40_58 rfl, tl_goto _⟩, List.forall_mem_cons.mpr ⟨⟨s_aload_n d40_61 rfl, tl_aload _ _⟩, fun _ h => absurd h List.not_mem_nil⟩⟩⟩⟩⟩⟩⟩⟩⟩⟩⟩⟩⟩⟩⟩⟩⟩⟩⟩⟩⟩⟩⟩⟩⟩⟩⟩⟩⟩⟩⟩⟩⟩⟩⟩⟩⟩⟩⟩⟩
/-- RX3.makeBe -/
def t40_1 : List (Nat × pO) := [(62, o_getR 3 3 65), (65, o_iload 1 66), (66, o_iald 67), (67, o_iload 4 69), (69, o_push (.int (nM 1)) 70), (70, o_ixor 71), (71, o_iand 72), (72, o_iast 73), (73, o_vret)]
theorem ok40_1 : ∀ q ∈ t40_1, p_Z 40 q := List.forall_mem_cons.mpr ⟨⟨f_getR_3_3 d40_62 wd_91, tl_getR _ _ _⟩, List.forall_mem_cons.mpr ⟨⟨s_iload_n d40_65 rfl, tl_iload _ _⟩, List.forall_mem_cons.mpr ⟨⟨s_iald d40_66, tl_iald _⟩, List.forall_mem_cons.mpr ⟨⟨s_iload d40_67, tl_iload _ _⟩, List.forall_mem_cons.mpr ⟨⟨s_iconst d40_69 rfl, tl_push _ _⟩, List.forall_mem_cons.mpr ⟨⟨s_ixor d40_70, tl_ixor _⟩, List.forall_mem_cons.mpr ⟨⟨s_iand d40_71, tl_iand _⟩, List.forall_mem_cons.mpr ⟨⟨s_iast d40_72, tl_iast _⟩, List.forall_mem_cons.mpr ⟨⟨s_vret d40_73 rfl, tl_vret⟩, fun _ h => absurd h List.not_mem_nil⟩⟩⟩⟩⟩⟩⟩⟩⟩
def t40 : List (Nat × pO) := t40_0 ++ (t40_1)
theorem ok40 : ∀ q ∈ t40, p_Z 40 q := List.forall_mem_append.mpr ⟨ok40_0, ok40_1⟩
theorem d41_0 : decode (pB 41) 0 = .ok (.aload_n 0, 1) := by decide +kernel
theorem d41_1 : decode (pB 41) 1 = .ok (.iload_n 1, 1) := by decide +kernel
theorem d41_2 : decode (pB 41) 2 = .ok (.invokevirtual 47, 3) := by decide +kernel
theorem d41_5 : decode (pB 41) 5 = .ok (.istore_n 3, 1) := by decide +kernel
theorem d41_6 : decode (pB 41) 6 = .ok (.aload_n 0, 1) := by decide +kernel
theorem d41_7 : decode (pB 41) 7 = .ok (.iload_n 2, 1) := by decide +kernel
theorem d41_8 : decode (pB 41) 8 = .ok (.invokevirtual 47, 3) := by decide +kernel
theorem d41_11 : decode (pB 41) 11 = .ok (.istore 4, 2) := by decide +kernel
theorem d41_13 : decode (pB 41) 13 = .ok (.iload_n 3, 1) := by decide +kernel
theorem d41_14 : decode (pB 41) 14 = .ok (.bipush (-6), 2) := by decide +kernel
theorem d41_16 : decode (pB 41) 16 = .ok (.if_icmp .eq 10, 3) := by decide +kernel
theorem d41_19 : decode (pB 41) 19 = .ok (.iload 4, 2) := by decide +kernel
theorem d41_21 : decode (pB 41) 21 = .ok (.bipush (-6), 2) := by decide +kernel
theorem d41_23 : decode (pB 41) 23 = .ok (.if_icmp .ne 7, 3) := by decide +kernel
theorem d41_26 : decode (pB 41) 26 = .ok (.iconst 0, 1) := by decide +kernel
theorem d41_27 : decode (pB 41) 27 = .ok (.goto 10, 3) := by decide +kernel
theorem d41_30 : decode (pB 41) 30 = .ok (.aload_n 0, 1) := by decide +kernel
theorem d41_31 : decode (pB 41) 31 = .ok (.iload_n 3, 1) := by decide +kernel
theorem d41_32 : decode (pB 41) 32 = .ok (.iload 4, 2) := by decide +kernel
theorem d41_34 : decode (pB 41) 34 = .ok (.invokevirtual 54, 3) := by decide +kernel
theorem d41_37 : decode (pB 41) 37 = .ok (.ireturn, 1) := by decide +kernel
theorem st1_41_3 : p_st1 41 3 = true := by decide +kernel
theorem st1_41_4 : p_st1 41 4 = true := by decide +kernel
/-- RX3.howAreOn -/
def t41_0 : List (Nat × pO) := [(0, o_aload 0 1), (1, o_iload 1 2), (2, o_invV 3 33 1 5), (5, o_istore 3 6), (6, o_aload 0 7), (7, o_iload 2 8), (8, o_invV 3 33 1 11), (11, o_istore 4 13), (13, o_iload 3 14), (14, o_push (.int (nM 6)) 16), (16, o_iceq 26 19), (19, o_iload 4 21), (21, o_push (.int (nM 6)) 23), (23, o_icne 30 26), (26, o_push (.int (nI 0)) 27), (27, o_goto 37), (30, o_aload 0 31), (31, o_iload 3 32), (32, o_iload 4 34), (34, o_invV 3 39 2 37), (37, o_iret)]
theorem ok41_0 : ∀ q ∈ t41_0, p_Z 41 q := List.forall_mem_cons.mpr ⟨⟨s_aload_n d41_0 rfl, tl_aload _ _⟩, List.forall_mem_cons.mpr ⟨⟨s_iload_n d41_1 rfl, tl_iload _ _⟩, List.forall_mem_cons.mpr ⟨⟨q_invV_33 d41_2 wd_350, tl_invV _ _ _ _⟩, List.forall_mem_cons.mpr ⟨⟨s_istore_n d41_5 rfl st1_41_3, tl_istore _ _⟩, List.forall_mem_cons.mpr ⟨⟨s_aload_n d41_6 rfl, tl_aload _ _⟩, List.forall_mem_cons.mpr ⟨⟨s_iload_n d41_7 rfl, tl_iload _ _⟩, List.forall_mem_cons.mpr ⟨⟨q_invV_33 d41_8 wd_350, tl_invV _ _ _ _⟩, List.forall_mem_cons.mpr ⟨⟨s_istore d41_11 st1_41_4, tl_istore _ _⟩, List.forall_mem_cons.mpr ⟨⟨s_iload_n d41_13 rfl, tl_iload _ _⟩, List.forall_mem_cons.mpr ⟨⟨s_bipush d41_14 rfl, tl_push _ _⟩, List.forall_mem_cons.mpr ⟨⟨s_iceq d41_16 rfl, tl_iceq _ _⟩, List.forall_mem_cons.mpr ⟨⟨s_iload d41_19, tl_iload _ _⟩, List.forall_mem_cons.mpr ⟨⟨s_bipush d41_21 rfl, tl_push _ _⟩, List.forall_mem_cons.mpr ⟨⟨s_icne d41_23 rfl, tl_icne _ _⟩, List.forall_mem_cons.mpr ⟨⟨s_iconst d41_26 rfl, tl_push _ _⟩, List.forall_mem_cons.mpr ⟨⟨s_goto d41_27 rfl, tl_goto _⟩, List.forall_mem_cons.mpr ⟨⟨s_aload_n d41_30 rfl, tl_aload _ _⟩, List.forall_mem_cons.mpr ⟨⟨s_iload_n d41_31 rfl, tl_iload _ _⟩, List.forall_mem_cons.mpr ⟨⟨s_iload d41_32, tl_iload _ _⟩, List.forall_mem_cons.mpr ⟨⟨q_invV_39 d41_34 wd_417, tl_invV _ _ _ _⟩, List.forall_mem_cons.mpr ⟨⟨s_iret d41_37 rfl, tl_iret⟩, fun _ h => absurd h List.not_mem_nil⟩⟩⟩⟩⟩⟩⟩⟩⟩⟩⟩⟩⟩⟩⟩⟩⟩⟩⟩⟩⟩
def t41 : List (Nat × pO) := t41_0
theorem ok41 : ∀ q ∈ t41, p_Z 41 q := ok41_0
theorem d42_0 : decode (pB 42) 0 = .ok (.iconst 0, 1) := by decide +kernel
theorem d42_1 : decode (pB 42) 1 = .ok (.istore_n 3, 1) := by decide +kernel
theorem d42_2 : decode (pB 42) 2 = .ok (.iconst 0, 1) := by decide +kernel
theorem d42_3 : decode (pB 42) 3 = .ok (.istore 4, 2) := by decide +kernel
theorem d42_5 : decode (pB 42) 5 = .ok (.iload 4, 2) := by decide +kernel
theorem d42_7 : decode (pB 42) 7 = .ok (.aload_n 0, 1) := by decide +kernel
theorem d42_8 : decode (pB 42) 8 = .ok (.getfield 13, 3) := by decide +kernel
theorem d42_11 : decode (pB 42) 11 = .ok (.iconst 0, 1) := by decide +kernel
theorem d42_12 : decode (pB 42) 12 = .ok (.iaload, 1) := by decide +kernel
theorem d42_13 : decode (pB 42) 13 = .ok (.if_icmp .ge 28, 3) := by decide +kernel
theorem d42_16 : decode (pB 42) 16 = .ok (.aload_n 0, 1) := by decide +kernel
theorem d42_17 : decode (pB 42) 17 = .ok (.iload 4, 2) := by decide +kernel
theorem d42_19 : decode (pB 42) 19 = .ok (.aload_n 2, 1) := by decide +kernel
theorem d42_20 : decode (pB 42) 20 = .ok (.iload 4, 2) := by decide +kernel
theorem d42_22 : decode (pB 42) 22 = .ok (.invokevirtual 58, 3) := by decide +kernel
theorem d42_25 : decode (pB 42) 25 = .ok (.invokevirtual 63, 3) := by decide +kernel
theorem d42_28 : decode (pB 42) 28 = .ok (.iload_n 1, 1) := by decide +kernel
theorem d42_29 : decode (pB 42) 29 = .ok (.if_icmp .ne 6, 3) := by decide +kernel
theorem d42_32 : decode (pB 42) 32 = .ok (.iinc 3 1, 3) := by decide +kernel
theorem d42_35 : decode (pB 42) 35 = .ok (.iinc 4 1, 3) := by decide +kernel
theorem d42_38 : decode (pB 42) 38 = .ok (.goto (-33), 3) := by decide +kernel
theorem d42_41 : decode (pB 42) 41 = .ok (.iload_n 3, 1) := by decide +kernel
theorem d42_42 : decode (pB 42) 42 = .ok (.ireturn, 1) := by decide +kernel
theorem st1_42_3 : p_st1 42 3 = true := by decide +kernel
theorem st1_42_4 : p_st1 42 4 = true := by decide +kernel
/-- RX3.pairsWhoFace -/
def t42_0 : List (Nat × pO) := [(0, o_push (.int (nI 0)) 1), (1, o_istore 3 2), (2, o_push (.int (nI 0)) 3), (3, o_istore 4 5), (5, o_iload 4 7), (7, o_aload 0 8), (8, o_getR 3 0 11), (11, o_push (.int (nI 0)) 12), (12, o_iald 13), (13, o_icge 41 16), (16, o_aload 0 17), (17, o_iload 4 19), (19, o_aload 2 20), (20, o_iload 4 22), (22, o_invV 0 13 1 25), (25, o_invV 3 41 2 28), (28, o_iload 1 29), (29, o_icne 35 32), (32, o_iinc 3 (nI 1) 35), (35, o_iinc 4 (nI 1) 38), (38, o_goto 5), (41, o_iload 3 42), (42, o_iret)]
theorem ok42_0 : ∀ q ∈ t42_0, p_Z 42 q := List.forall_mem_cons.mpr ⟨⟨s_iconst d42_0 rfl, tl_push _ _⟩, List.forall_mem_cons.mpr ⟨⟨s_istore_n d42_1 rfl st1_42_3, tl_istore _ _⟩, List.forall_mem_cons.mpr ⟨⟨s_iconst d42_2 rfl, tl_push _ _⟩, List.forall_mem_cons.mpr ⟨⟨s_istore d42_3 st1_42_4, tl_istore _ _⟩, List.forall_mem_cons.mpr ⟨⟨s_iload d42_5, tl_iload _ _⟩, List.forall_mem_cons.mpr ⟨⟨s_aload_n d42_7 rfl, tl_aload _ _⟩, List.forall_mem_cons.mpr ⟨⟨f_getR_3_0 d42_8 wd_85, tl_getR _ _ _⟩, List.forall_mem_cons.mpr ⟨⟨s_iconst d42_11 rfl, tl_push _ _⟩, List.forall_mem_cons.mpr ⟨⟨s_iald d42_12, tl_iald _⟩, List.forall_mem_cons.mpr ⟨⟨s_icge d42_13 rfl, tl_icge _ _⟩, List.forall_mem_cons.mpr ⟨⟨s_aload_n d42_16 rfl, tl_aload _ _⟩, List.forall_mem_cons.mpr ⟨⟨s_iload d42_17, tl_iload _ _⟩, List.forall_mem_cons.mpr ⟨⟨s_aload_n d42_19 rfl, tl_aload _ _⟩, List.forall_mem_cons.mpr ⟨⟨s_iload d42_20, tl_iload _ _⟩, List.forall_mem_cons.mpr ⟨⟨q_invV_13 d42_22 wd_401, tl_invV _ _ _ _⟩, List.forall_mem_cons.mpr ⟨⟨q_invV_41 d42_25 wd_413, tl_invV _ _ _ _⟩, List.forall_mem_cons.mpr ⟨⟨s_iload_n d42_28 rfl, tl_iload _ _⟩, List.forall_mem_cons.mpr ⟨⟨s_icne d42_29 rfl, tl_icne _ _⟩, List.forall_mem_cons.mpr ⟨⟨s_iinc d42_32 rfl st1_42_3, tl_iinc _ _ _⟩, List.forall_mem_cons.mpr ⟨⟨s_iinc d42_35 rfl st1_42_4, tl_iinc _ _ _⟩, List.forall_mem_cons.mpr ⟨⟨s_goto d42_38 rfl, tl_goto _⟩, List.forall_mem_cons.mpr ⟨⟨s_iload_n d42_41 rfl, tl_iload _ _⟩, List.forall_mem_cons.mpr ⟨⟨s_iret d42_42 rfl, tl_iret⟩, fun _ h => absurd h List.not_mem_nil⟩⟩⟩⟩⟩⟩⟩⟩⟩⟩⟩⟩⟩⟩⟩⟩⟩⟩⟩⟩⟩⟩⟩
def t42 : List (Nat × pO) := t42_0
theorem ok42 : ∀ q ∈ t42, p_Z 42 q := ok42_0
theorem d43_0 : decode (pB 43) 0 = .ok (.iconst 0, 1) := by decide +kernel
theorem d43_1 : decode (pB 43) 1 = .ok (.istore_n 3, 1) := by decide +kernel
theorem d43_2 : decode (pB 43) 2 = .ok (.iload_n 3, 1) := by decide +kernel
theorem d43_3 : decode (pB 43) 3 = .ok (.iload_n 2, 1) := by decide +kernel
theorem d43_4 : decode (pB 43) 4 = .ok (.if_icmp .ge 45, 3) := by decide +kernel
theorem d43_7 : decode (pB 43) 7 = .ok (.iload_n 2, 1) := by decide +kernel
theorem d43_8 : decode (pB 43) 8 = .ok (.iload_n 3, 1) := by decide +kernel
theorem d43_9 : decode (pB 43) 9 = .ok (.iadd, 1) := by decide +kernel
theorem d43_10 : decode (pB 43) 10 = .ok (.aload_n 1, 1) := by decide +kernel
theorem d43_11 : decode (pB 43) 11 = .ok (.getfield 66, 3) := by decide +kernel
theorem d43_14 : decode (pB 43) 14 = .ok (.if_icmp .ge 35, 3) := by decide +kernel
theorem d43_17 : decode (pB 43) 17 = .ok (.aload_n 0, 1) := by decide +kernel
theorem d43_18 : decode (pB 43) 18 = .ok (.aload_n 1, 1) := by decide +kernel
theorem d43_19 : decode (pB 43) 19 = .ok (.iload_n 2, 1) := by decide +kernel
theorem d43_20 : decode (pB 43) 20 = .ok (.iconst 1, 1) := by decide +kernel
theorem d43_21 : decode (pB 43) 21 = .ok (.isub, 1) := by decide +kernel
theorem d43_22 : decode (pB 43) 22 = .ok (.iload_n 3, 1) := by decide +kernel
theorem d43_23 : decode (pB 43) 23 = .ok (.isub, 1) := by decide +kernel
theorem d43_24 : decode (pB 43) 24 = .ok (.invokevirtual 69, 3) := by decide +kernel
theorem d43_27 : decode (pB 43) 27 = .ok (.aload_n 1, 1) := by decide +kernel
theorem d43_28 : decode (pB 43) 28 = .ok (.iload_n 2, 1) := by decide +kernel
theorem d43_29 : decode (pB 43) 29 = .ok (.iload_n 3, 1) := by decide +kernel
theorem d43_30 : decode (pB 43) 30 = .ok (.iadd, 1) := by decide +kernel
theorem d43_31 : decode (pB 43) 31 = .ok (.invokevirtual 69, 3) := by decide +kernel
theorem d43_34 : decode (pB 43) 34 = .ok (.invokevirtual 63, 3) := by decide +kernel
theorem d43_37 : decode (pB 43) 37 = .ok (.iconst (-1), 1) := by decide +kernel
theorem d43_38 : decode (pB 43) 38 = .ok (.if_icmp .ne 5, 3) := by decide +kernel
theorem d43_41 : decode (pB 43) 41 = .ok (.iconst 1, 1) := by decide +kernel
theorem d43_42 : decode (pB 43) 42 = .ok (.ireturn, 1) := by decide +kernel
theorem d43_43 : decode (pB 43) 43 = .ok (.iinc 3 1, 3) := by decide +kernel
theorem d43_46 : decode (pB 43) 46 = .ok (.goto (-44), 3) := by decide +kernel
theorem d43_49 : decode (pB 43) 49 = .ok (.iconst 0, 1) := by decide +kernel
theorem d43_50 : decode (pB 43) 50 = .ok (.ireturn, 1) := by decide +kernel
theorem st1_43_3 : p_st1 43 3 = true := by decide +kernel
/-- RX3.foesWouldMeet -/
def t43_0 : List (Nat × pO) := [(0, o_push (.int (nI 0)) 1), (1, o_istore 3 2), (2, o_iload 3 3), (3, o_iload 2 4), (4, o_icge 49 7), (7, o_iload 2 8), (8, o_iload 3 9), (9, o_iadd 10), (10, o_aload 1 11), (11, o_getI 0 0 14), (14, o_icge 49 17), (17, o_aload 0 18), (18, o_aload 1 19), (19, o_iload 2 20), (20, o_push (.int (nI 1)) 21), (21, o_isub 22), (22, o_iload 3 23), (23, o_isub 24), (24, o_invV 0 9 1 27), (27, o_aload 1 28), (28, o_iload 2 29), (29, o_iload 3 30), (30, o_iadd 31), (31, o_invV 0 9 1 34), (34, o_invV 3 41 2 37), (37, o_push (.int (nM 1)) 38), (38, o_icne 43 41), (41, o_push (.int (nI 1)) 42), (42, o_zret), (43, o_iinc 3 (nI 1) 46), (46, o_goto 2), (49, o_push (.int (nI 0)) 50), (50, o_zret)]
theorem ok43_0 : ∀ q ∈ t43_0, p_Z 43 q := List.forall_mem_cons.mpr ⟨⟨s_iconst d43_0 rfl, tl_push _ _⟩, List.forall_mem_cons.mpr ⟨⟨s_istore_n d43_1 rfl st1_43_3, tl_istore _ _⟩, List.forall_mem_cons.mpr ⟨⟨s_iload_n d43_2 rfl, tl_iload _ _⟩, List.forall_mem_cons.mpr ⟨⟨s_iload_n d43_3 rfl, tl_iload _ _⟩, List.forall_mem_cons.mpr ⟨⟨s_icge d43_4 rfl, tl_icge _ _⟩, List.forall_mem_cons.mpr ⟨⟨s_iload_n d43_7 rfl, tl_iload _ _⟩, List.forall_mem_cons.mpr ⟨⟨s_iload_n d43_8 rfl, tl_iload _ _⟩, List.forall_mem_cons.mpr ⟨⟨s_iadd d43_9, tl_iadd _⟩, List.forall_mem_cons.mpr ⟨⟨s_aload_n d43_10 rfl, tl_aload _ _⟩, List.forall_mem_cons.mpr ⟨⟨f_getI_0_0 d43_11 wd_173, tl_getI _ _ _⟩, List.forall_mem_cons.mpr ⟨⟨s_icge d43_14 rfl, tl_icge _ _⟩, List.forall_mem_cons.mpr ⟨⟨s_aload_n d43_17 rfl, tl_aload _ _⟩, List.forall_mem_cons.mpr ⟨⟨s_aload_n d43_18 rfl, tl_aload _ _⟩, List.forall_mem_cons.mpr ⟨⟨s_iload_n d43_19 rfl, tl_iload _ _⟩, List.forall_mem_cons.mpr ⟨⟨s_iconst d43_20 rfl, tl_push _ _⟩, List.forall_mem_cons.mpr ⟨⟨s_isub d43_21, tl_isub _⟩, List.forall_mem_cons.mpr ⟨⟨s_iload_n d43_22 rfl, tl_iload _ _⟩, List.forall_mem_cons.mpr ⟨⟨s_isub d43_23, tl_isub _⟩, List.forall_mem_cons.mpr ⟨⟨q_invV_9 d43_24 wd_531, tl_invV _ _ _ _⟩, List.forall_mem_cons.mpr ⟨⟨s_aload_n d43_27 rfl, tl_aload _ _⟩, List.forall_mem_cons.mpr ⟨⟨s_iload_n d43_28 rfl, tl_iload _ _⟩, List.forall_mem_cons.mpr ⟨⟨s_iload_n d43_29 rfl, tl_iload _ _⟩, List.forall_mem_cons.mpr ⟨⟨s_iadd d43_30, tl_iadd _⟩, List.forall_mem_cons.mpr ⟨⟨q_invV_9 d43_31 wd_531, tl_invV _ _ _ _⟩, List.forall_mem_cons.mpr ⟨⟨q_invV_41 d43_34 wd_413, tl_invV _ _ _ _⟩, List.forall_mem_cons.mpr ⟨⟨s_iconst d43_37 rfl, tl_push _ _⟩, List.forall_mem_cons.mpr ⟨⟨s_icne d43_38 rfl, tl_icne _ _⟩, List.forall_mem_cons.mpr ⟨⟨s_iconst d43_41 rfl, tl_push _ _⟩, List.forall_mem_cons.mpr ⟨⟨s_zret d43_42 rfl, tl_zret⟩, List.forall_mem_cons.mpr ⟨⟨s_iinc d43_43 rfl st1_43_3, tl_iinc _ _ _⟩, List.forall_mem_cons.mpr ⟨⟨s_goto d43_46 rfl, tl_goto _⟩, List.forall_mem_cons.mpr ⟨⟨s_iconst d43_49 rfl, tl_push _ _⟩, List.forall_mem_cons.mpr ⟨⟨s_zret d43_50 rfl, tl_zret⟩, fun _ h => absurd h List.not_mem_nil⟩⟩⟩⟩⟩⟩⟩⟩⟩⟩⟩⟩⟩⟩⟩⟩⟩⟩⟩⟩⟩⟩⟩⟩⟩⟩⟩⟩⟩⟩⟩⟩⟩
def t43 : List (Nat × pO) := t43_0
theorem ok43 : ∀ q ∈ t43, p_Z 43 q := ok43_0
theorem d44_0 : decode (pB 44) 0 = .ok (.aload_n 0, 1) := by decide +kernel
theorem d44_1 : decode (pB 44) 1 = .ok (.iload_n 1, 1) := by decide +kernel
theorem d44_2 : decode (pB 44) 2 = .ok (.iload_n 1, 1) := by decide +kernel
theorem d44_3 : decode (pB 44) 3 = .ok (.iconst 1, 1) := by decide +kernel
theorem d44_4 : decode (pB 44) 4 = .ok (.isub, 1) := by decide +kernel
theorem d44_5 : decode (pB 44) 5 = .ok (.invokevirtual 63, 3) := by decide +kernel
theorem d44_8 : decode (pB 44) 8 = .ok (.aload_n 0, 1) := by decide +kernel
theorem d44_9 : decode (pB 44) 9 = .ok (.iload_n 1, 1) := by decide +kernel
theorem d44_10 : decode (pB 44) 10 = .ok (.iload_n 1, 1) := by decide +kernel
theorem d44_11 : decode (pB 44) 11 = .ok (.iconst 1, 1) := by decide +kernel
theorem d44_12 : decode (pB 44) 12 = .ok (.iadd, 1) := by decide +kernel
theorem d44_13 : decode (pB 44) 13 = .ok (.invokevirtual 63, 3) := by decide +kernel
theorem d44_16 : decode (pB 44) 16 = .ok (.iadd, 1) := by decide +kernel
theorem d44_17 : decode (pB 44) 17 = .ok (.istore_n 3, 1) := by decide +kernel
theorem d44_18 : decode (pB 44) 18 = .ok (.aload_n 0, 1) := by decide +kernel
theorem d44_19 : decode (pB 44) 19 = .ok (.iload_n 1, 1) := by decide +kernel
theorem d44_20 : decode (pB 44) 20 = .ok (.aload_n 2, 1) := by decide +kernel
theorem d44_21 : decode (pB 44) 21 = .ok (.iload_n 1, 1) := by decide +kernel
theorem d44_22 : decode (pB 44) 22 = .ok (.invokevirtual 72, 3) := by decide +kernel
theorem d44_25 : decode (pB 44) 25 = .ok (.invokevirtual 63, 3) := by decide +kernel
theorem d44_28 : decode (pB 44) 28 = .ok (.aload_n 0, 1) := by decide +kernel
theorem d44_29 : decode (pB 44) 29 = .ok (.iload_n 1, 1) := by decide +kernel
theorem d44_30 : decode (pB 44) 30 = .ok (.aload_n 2, 1) := by decide +kernel
theorem d44_31 : decode (pB 44) 31 = .ok (.iload_n 1, 1) := by decide +kernel
theorem d44_32 : decode (pB 44) 32 = .ok (.invokevirtual 58, 3) := by decide +kernel
theorem d44_35 : decode (pB 44) 35 = .ok (.invokevirtual 63, 3) := by decide +kernel
theorem d44_38 : decode (pB 44) 38 = .ok (.iadd, 1) := by decide +kernel
theorem d44_39 : decode (pB 44) 39 = .ok (.istore 4, 2) := by decide +kernel
theorem d44_41 : decode (pB 44) 41 = .ok (.iconst 5, 1) := by decide +kernel
theorem d44_42 : decode (pB 44) 42 = .ok (.aload_n 0, 1) := by decide +kernel
theorem d44_43 : decode (pB 44) 43 = .ok (.getfield 13, 3) := by decide +kernel
theorem d44_46 : decode (pB 44) 46 = .ok (.iconst 1, 1) := by decide +kernel
theorem d44_47 : decode (pB 44) 47 = .ok (.iaload, 1) := by decide +kernel
theorem d44_48 : decode (pB 44) 48 = .ok (.iload_n 3, 1) := by decide +kernel
theorem d44_49 : decode (pB 44) 49 = .ok (.imul, 1) := by decide +kernel
theorem d44_50 : decode (pB 44) 50 = .ok (.iadd, 1) := by decide +kernel
theorem d44_51 : decode (pB 44) 51 = .ok (.aload_n 0, 1) := by decide +kernel
theorem d44_52 : decode (pB 44) 52 = .ok (.getfield 13, 3) := by decide +kernel
theorem d44_55 : decode (pB 44) 55 = .ok (.iconst 2, 1) := by decide +kernel
theorem d44_56 : decode (pB 44) 56 = .ok (.iaload, 1) := by decide +kernel
theorem d44_57 : decode (pB 44) 57 = .ok (.iload 4, 2) := by decide +kernel
theorem d44_59 : decode (pB 44) 59 = .ok (.imul, 1) := by decide +kernel
theorem d44_60 : decode (pB 44) 60 = .ok (.iadd, 1) := by decide +kernel
theorem d44_61 : decode (pB 44) 61 = .ok (.istore 5, 2) := by decide +kernel
theorem d44_63 : decode (pB 44) 63 = .ok (.iconst 0, 1) := by decide +kernel
theorem d44_64 : decode (pB 44) 64 = .ok (.bipush 9, 2) := by decide +kernel
theorem d44_66 : decode (pB 44) 66 = .ok (.iload 5, 2) := by decide +kernel
theorem d44_68 : decode (pB 44) 68 = .ok (.invokestatic 75, 3) := by decide +kernel
theorem d44_71 : decode (pB 44) 71 = .ok (.invokestatic 80, 3) := by decide +kernel
theorem d44_74 : decode (pB 44) 74 = .ok (.ireturn, 1) := by decide +kernel
theorem st1_44_3 : p_st1 44 3 = true := by decide +kernel
theorem st1_44_4 : p_st1 44 4 = true := by decide +kernel
theorem st1_44_5 : p_st1 44 5 = true := by decide +kernel
/-- RX3.moodOn -/
def t44_0 : List (Nat × pO) := [(0, o_aload 0 1), (1, o_iload 1 2), (2, o_iload 1 3), (3, o_push (.int (nI 1)) 4), (4, o_isub 5), (5, o_invV 3 41 2 8), (8, o_aload 0 9), (9, o_iload 1 10), (10, o_iload 1 11), (11, o_push (.int (nI 1)) 12), (12, o_iadd 13), (13, o_invV 3 41 2 16), (16, o_iadd 17), (17, o_istore 3 18), (18, o_aload 0 19), (19, o_iload 1 20), (20, o_aload 2 21), (21, o_iload 1 22), (22, o_invV 0 12 1 25), (25, o_invV 3 41 2 28), (28, o_aload 0 29), (29, o_iload 1 30), (30, o_aload 2 31), (31, o_iload 1 32), (32, o_invV 0 13 1 35), (35, o_invV 3 41 2 38), (38, o_iadd 39), (39, o_istore 4 41), (41, o_push (.int (nI 5)) 42), (42, o_aload 0 43), (43, o_getR 3 0 46), (46, o_push (.int (nI 1)) 47), (47, o_iald 48), (48, o_iload 3 49), (49, o_imul 50), (50, o_iadd 51), (51, o_aload 0 52), (52, o_getR 3 0 55), (55, o_push (.int (nI 2)) 56), (56, o_iald 57)]
theorem ok44_0 : ∀ q ∈ t44_0, p_Z 44 q := List.forall_mem_cons.mpr ⟨⟨s_aload_n d44_0 rfl, tl_aload _ _⟩, List.forall_mem_cons.mpr ⟨⟨s_iload_n d44_1 rfl, tl_iload _ _⟩, List.forall_mem_cons.mpr ⟨⟨s_iload_n d44_2 rfl, tl_iload _ _⟩, List.forall_mem_cons.mpr ⟨⟨s_iconst d44_3 rfl, tl_push _ _⟩, List.forall_mem_cons.mpr ⟨⟨s_isub d44_4, tl_isub _⟩, List.forall_mem_cons.mpr ⟨⟨q_invV_41 d44_5 wd_413, tl_invV _ _ _ _⟩, List.forall_mem_cons.mpr ⟨⟨s_aload_n d44_8 rfl, tl_aload _ _⟩, List.forall_mem_cons.mpr ⟨⟨s_iload_n d44_9 rfl, tl_iload _ _⟩, List.forall_mem_cons.mpr ⟨⟨s_iload_n d44_10 rfl, tl_iload _ _⟩, List.forall_mem_cons.mpr ⟨⟨s_iconst d44_11 rfl, tl_push _ _⟩, List.forall_mem_cons.mpr ⟨⟨s_iadd d44_12, tl_iadd _⟩, List.forall_mem_cons.mpr ⟨⟨q_invV_41 d44_13 wd_413, tl_invV _ _ _ _⟩, List.forall_mem_cons.mpr ⟨⟨s_iadd d44_16, tl_iadd _⟩, List.forall_mem_cons.mpr ⟨⟨s_istore_n d44_17 rfl st1_44_3, tl_istore _ _⟩, List.forall_mem_cons.mpr ⟨⟨s_aload_n d44_18 rfl, tl_aload _ _⟩, List.forall_mem_cons.mpr ⟨⟨s_iload_n d44_19 rfl, tl_iload _ _⟩, List.forall_mem_cons.mpr ⟨⟨s_aload_n d44_20 rfl, tl_aload _ _⟩, List.forall_mem_cons.mpr ⟨⟨s_iload_n d44_21 rfl, tl_iload _ _⟩, List.forall_mem_cons.mpr ⟨⟨q_invV_12 d44_22 wd_463, tl_invV _ _ _ _⟩, List.forall_mem_cons.mpr ⟨⟨q_invV_41 d44_25 wd_413, tl_invV _ _ _ _⟩, List.forall_mem_cons.mpr ⟨⟨s_aload_n d44_28 rfl, tl_aload _ _⟩, List.forall_mem_cons.mpr ⟨⟨s_iload_n d44_29 rfl, tl_iload _ _⟩, List.forall_mem_cons.mpr ⟨⟨s_aload_n d44_30 rfl, tl_aload _ _⟩, List.forall_mem_cons.mpr ⟨⟨s_iload_n d44_31 rfl, tl_iload _ _⟩, List.forall_mem_cons.mpr ⟨⟨q_invV_13 d44_32 wd_401, tl_invV _ _ _ _⟩, List.forall_mem_cons.mpr ⟨⟨q_invV_41 d44_35 wd_413, tl_invV _ _ _ _⟩, List.forall_mem_cons.mpr ⟨⟨s_iadd d44_38, tl_iadd _⟩, List.forall_mem_cons.mpr ⟨⟨s_istore d44_39 st1_44_4, tl_istore _ _⟩, List.forall_mem_cons.mpr ⟨⟨s_iconst d44_41 rfl, tl_push _ _⟩, List.forall_mem_cons.mpr ⟨⟨s_aload_n d44_42 rfl, tl_aload _ _⟩, List.forall_mem_cons.mpr ⟨⟨f_getR_3_0 d44_43 wd_85, tl_getR _ _ _⟩, List.forall_mem_cons.mpr ⟨⟨s_iconst d44_46 rfl, tl_push _ _⟩, List.forall_mem_cons.mpr ⟨⟨s_iald d44_47, tl_iald _⟩, List.forall_mem_cons.mpr ⟨⟨s_iload_n d44_48 rfl, tl_iload _ _⟩, List.forall_mem_cons.mpr ⟨⟨s_imul d44_49, tl_imul _⟩, List.forall_mem_cons.mpr ⟨⟨s_iadd d44_50, tl_iadd _⟩, List.forall_mem_cons.mpr ⟨⟨s_aload_n d44_51 rfl, tl_aload _ _⟩, List.forall_mem_cons.mpr ⟨⟨f_getR_3_0 d44_52 wd_85, tl_getR _ _ _⟩, List.forall_mem_cons.mpr ⟨⟨s_iconst d44_55 rfl, tl_push _ _⟩, List.forall_mem_cons.mpr ⟨⟨s_iald d44_56, tl_iald _⟩, fun _ h => absurd h List.not_mem_nil⟩⟩⟩⟩⟩⟩⟩⟩⟩⟩⟩⟩⟩⟩⟩⟩⟩⟩⟩⟩⟩⟩⟩⟩⟩⟩⟩⟩⟩⟩⟩⟩⟩⟩⟩⟩⟩⟩⟩⟩
/-- RX3.moodOn -/
def t44_1 : List (Nat × pO) := [(57, o_iload 4 59), (59, o_imul 60), (60, o_iadd 61), (61, o_istore 5 63), (63, o_push (.int (nI 0)) 64), (64, o_push (.int (nI 9)) 66), (66, o_iload 5 68), (68, o_min 71), (71, o_max 74), (74, o_iret)]
theorem ok44_1 : ∀ q ∈ t44_1, p_Z 44 q := List.forall_mem_cons.mpr ⟨⟨s_iload d44_57, tl_iload _ _⟩, List.forall_mem_cons.mpr ⟨⟨s_imul d44_59, tl_imul _⟩, List.forall_mem_cons.mpr ⟨⟨s_iadd d44_60, tl_iadd _⟩, List.forall_mem_cons.mpr ⟨⟨s_istore d44_61 st1_44_5, tl_istore _ _⟩, List.forall_mem_cons.mpr ⟨⟨s_iconst d44_63 rfl, tl_push _ _⟩, List.forall_mem_cons.mpr ⟨⟨s_bipush d44_64 rfl, tl_push _ _⟩, List.forall_mem_cons.mpr ⟨⟨s_iload d44_66, tl_iload _ _⟩, List.forall_mem_cons.mpr ⟨⟨s_min d44_68 wd_467 wd_468 wd_67 wd_469, tl_min _⟩, List.forall_mem_cons.mpr ⟨⟨s_max d44_71 wd_470 wd_273 wd_67 wd_274, tl_max _⟩, List.forall_mem_cons.mpr ⟨⟨s_iret d44_74 rfl, tl_iret⟩, fun _ h => absurd h List.not_mem_nil⟩⟩⟩⟩⟩⟩⟩⟩⟩⟩
def t44 : List (Nat × pO) := t44_0 ++ (t44_1)
theorem ok44 : ∀ q ∈ t44, p_Z 44 q := List.forall_mem_append.mpr ⟨ok44_0, ok44_1⟩
theorem d45_0 : decode (pB 45) 0 = .ok (.iconst 0, 1) := by decide +kernel
theorem d45_1 : decode (pB 45) 1 = .ok (.istore_n 2, 1) := by decide +kernel
theorem d45_2 : decode (pB 45) 2 = .ok (.iconst 0, 1) := by decide +kernel
theorem d45_3 : decode (pB 45) 3 = .ok (.istore_n 3, 1) := by decide +kernel
theorem d45_4 : decode (pB 45) 4 = .ok (.iload_n 3, 1) := by decide +kernel
theorem d45_5 : decode (pB 45) 5 = .ok (.aload_n 0, 1) := by decide +kernel
theorem d45_6 : decode (pB 45) 6 = .ok (.getfield 13, 3) := by decide +kernel
theorem d45_9 : decode (pB 45) 9 = .ok (.iconst 0, 1) := by decide +kernel
theorem d45_10 : decode (pB 45) 10 = .ok (.iaload, 1) := by decide +kernel
theorem d45_11 : decode (pB 45) 11 = .ok (.if_icmp .ge 29, 3) := by decide +kernel
theorem d45_14 : decode (pB 45) 14 = .ok (.aload_n 0, 1) := by decide +kernel
theorem d45_15 : decode (pB 45) 15 = .ok (.getfield 18, 3) := by decide +kernel
theorem d45_18 : decode (pB 45) 18 = .ok (.iload_n 3, 1) := by decide +kernel
theorem d45_19 : decode (pB 45) 19 = .ok (.iaload, 1) := by decide +kernel
theorem d45_20 : decode (pB 45) 20 = .ok (.bipush (-6), 2) := by decide +kernel
theorem d45_22 : decode (pB 45) 22 = .ok (.if_icmp .eq 12, 3) := by decide +kernel
theorem d45_25 : decode (pB 45) 25 = .ok (.iload_n 2, 1) := by decide +kernel
theorem d45_26 : decode (pB 45) 26 = .ok (.aload_n 0, 1) := by decide +kernel
theorem d45_27 : decode (pB 45) 27 = .ok (.iload_n 3, 1) := by decide +kernel
theorem d45_28 : decode (pB 45) 28 = .ok (.aload_n 1, 1) := by decide +kernel
theorem d45_29 : decode (pB 45) 29 = .ok (.invokevirtual 83, 3) := by decide +kernel
theorem d45_32 : decode (pB 45) 32 = .ok (.iadd, 1) := by decide +kernel
theorem d45_33 : decode (pB 45) 33 = .ok (.istore_n 2, 1) := by decide +kernel
theorem d45_34 : decode (pB 45) 34 = .ok (.iinc 3 1, 3) := by decide +kernel
theorem d45_37 : decode (pB 45) 37 = .ok (.goto (-33), 3) := by decide +kernel
theorem d45_40 : decode (pB 45) 40 = .ok (.iload_n 2, 1) := by decide +kernel
theorem d45_41 : decode (pB 45) 41 = .ok (.ireturn, 1) := by decide +kernel
theorem st1_45_2 : p_st1 45 2 = true := by decide +kernel
theorem st1_45_3 : p_st1 45 3 = true := by decide +kernel
/-- RX3.toast -/
def t45_0 : List (Nat × pO) := [(0, o_push (.int (nI 0)) 1), (1, o_istore 2 2), (2, o_push (.int (nI 0)) 3), (3, o_istore 3 4), (4, o_iload 3 5), (5, o_aload 0 6), (6, o_getR 3 0 9), (9, o_push (.int (nI 0)) 10), (10, o_iald 11), (11, o_icge 40 14), (14, o_aload 0 15), (15, o_getR 3 1 18), (18, o_iload 3 19), (19, o_iald 20), (20, o_push (.int (nM 6)) 22), (22, o_iceq 34 25), (25, o_iload 2 26), (26, o_aload 0 27), (27, o_iload 3 28), (28, o_aload 1 29), (29, o_invV 3 44 2 32), (32, o_iadd 33), (33, o_istore 2 34), (34, o_iinc 3 (nI 1) 37), (37, o_goto 4), (40, o_iload 2 41), (41, o_iret)]
theorem ok45_0 : ∀ q ∈ t45_0, p_Z 45 q := List.forall_mem_cons.mpr ⟨⟨s_iconst d45_0 rfl, tl_push _ _⟩, List.forall_mem_cons.mpr ⟨⟨s_istore_n d45_1 rfl st1_45_2, tl_istore _ _⟩, List.forall_mem_cons.mpr ⟨⟨s_iconst d45_2 rfl, tl_push _ _⟩, List.forall_mem_cons.mpr ⟨⟨s_istore_n d45_3 rfl st1_45_3, tl_istore _ _⟩, List.forall_mem_cons.mpr ⟨⟨s_iload_n d45_4 rfl, tl_iload _ _⟩, List.forall_mem_cons.mpr ⟨⟨s_aload_n d45_5 rfl, tl_aload _ _⟩, List.forall_mem_cons.mpr ⟨⟨f_getR_3_0 d45_6 wd_85, tl_getR _ _ _⟩, List.forall_mem_cons.mpr ⟨⟨s_iconst d45_9 rfl, tl_push _ _⟩, List.forall_mem_cons.mpr ⟨⟨s_iald d45_10, tl_iald _⟩, List.forall_mem_cons.mpr ⟨⟨s_icge d45_11 rfl, tl_icge _ _⟩, List.forall_mem_cons.mpr ⟨⟨s_aload_n d45_14 rfl, tl_aload _ _⟩, List.forall_mem_cons.mpr ⟨⟨f_getR_3_1 d45_15 wd_87, tl_getR _ _ _⟩, List.forall_mem_cons.mpr ⟨⟨s_iload_n d45_18 rfl, tl_iload _ _⟩, List.forall_mem_cons.mpr ⟨⟨s_iald d45_19, tl_iald _⟩, List.forall_mem_cons.mpr ⟨⟨s_bipush d45_20 rfl, tl_push _ _⟩, List.forall_mem_cons.mpr ⟨⟨s_iceq d45_22 rfl, tl_iceq _ _⟩, List.forall_mem_cons.mpr ⟨⟨s_iload_n d45_25 rfl, tl_iload _ _⟩, List.forall_mem_cons.mpr ⟨⟨s_aload_n d45_26 rfl, tl_aload _ _⟩, List.forall_mem_cons.mpr ⟨⟨s_iload_n d45_27 rfl, tl_iload _ _⟩, List.forall_mem_cons.mpr ⟨⟨s_aload_n d45_28 rfl, tl_aload _ _⟩, List.forall_mem_cons.mpr ⟨⟨q_invV_44 d45_29 wd_499, tl_invV _ _ _ _⟩, List.forall_mem_cons.mpr ⟨⟨s_iadd d45_32, tl_iadd _⟩, List.forall_mem_cons.mpr ⟨⟨s_istore_n d45_33 rfl st1_45_2, tl_istore _ _⟩, List.forall_mem_cons.mpr ⟨⟨s_iinc d45_34 rfl st1_45_3, tl_iinc _ _ _⟩, List.forall_mem_cons.mpr ⟨⟨s_goto d45_37 rfl, tl_goto _⟩, List.forall_mem_cons.mpr ⟨⟨s_iload_n d45_40 rfl, tl_iload _ _⟩, List.forall_mem_cons.mpr ⟨⟨s_iret d45_41 rfl, tl_iret⟩, fun _ h => absurd h List.not_mem_nil⟩⟩⟩⟩⟩⟩⟩⟩⟩⟩⟩⟩⟩⟩⟩⟩⟩⟩⟩⟩⟩⟩⟩⟩⟩⟩⟩
def t45 : List (Nat × pO) := t45_0
theorem ok45 : ∀ q ∈ t45, p_Z 45 q := ok45_0
theorem d46_0 : decode (pB 46) 0 = .ok (.aload_n 0, 1) := by decide +kernel
theorem d46_1 : decode (pB 46) 1 = .ok (.getfield 27, 3) := by decide +kernel
theorem d46_4 : decode (pB 46) 4 = .ok (.aload_n 0, 1) := by decide +kernel
theorem d46_5 : decode (pB 46) 5 = .ok (.getfield 34, 3) := by decide +kernel
theorem d46_8 : decode (pB 46) 8 = .ok (.iload_n 1, 1) := by decide +kernel
theorem d46_9 : decode (pB 46) 9 = .ok (.iastore, 1) := by decide +kernel
theorem d46_10 : decode (pB 46) 10 = .ok (.aload_n 0, 1) := by decide +kernel
theorem d46_11 : decode (pB 46) 11 = .ok (.dup, 1) := by decide +kernel
theorem d46_12 : decode (pB 46) 12 = .ok (.getfield 34, 3) := by decide +kernel
theorem d46_15 : decode (pB 46) 15 = .ok (.iconst 1, 1) := by decide +kernel
theorem d46_16 : decode (pB 46) 16 = .ok (.iadd, 1) := by decide +kernel
theorem d46_17 : decode (pB 46) 17 = .ok (.putfield 34, 3) := by decide +kernel
theorem d46_20 : decode (pB 46) 20 = .ok (.return_, 1) := by decide +kernel
/-- RX3.addFold -/
def t46_0 : List (Nat × pO) := [(0, o_aload 0 1), (1, o_getR 3 4 4), (4, o_aload 0 5), (5, o_getI 3 6 8), (8, o_iload 1 9), (9, o_iast 10), (10, o_aload 0 11), (11, o_dupr 12), (12, o_getI 3 6 15), (15, o_push (.int (nI 1)) 16), (16, o_iadd 17), (17, o_putI 3 6 20), (20, o_vret)]
theorem ok46_0 : ∀ q ∈ t46_0, p_Z 46 q := List.forall_mem_cons.mpr ⟨⟨s_aload_n d46_0 rfl, tl_aload _ _⟩, List.forall_mem_cons.mpr ⟨⟨f_getR_3_4 d46_1 wd_93, tl_getR _ _ _⟩, List.forall_mem_cons.mpr ⟨⟨s_aload_n d46_4 rfl, tl_aload _ _⟩, List.forall_mem_cons.mpr ⟨⟨f_getI_3_6 d46_5 wd_97, tl_getI _ _ _⟩, List.forall_mem_cons.mpr ⟨⟨s_iload_n d46_8 rfl, tl_iload _ _⟩, List.forall_mem_cons.mpr ⟨⟨s_iast d46_9, tl_iast _⟩, List.forall_mem_cons.mpr ⟨⟨s_aload_n d46_10 rfl, tl_aload _ _⟩, List.forall_mem_cons.mpr ⟨⟨s_dupr d46_11, tl_dupr _⟩, List.forall_mem_cons.mpr ⟨⟨f_getI_3_6 d46_12 wd_97, tl_getI _ _ _⟩, List.forall_mem_cons.mpr ⟨⟨s_iconst d46_15 rfl, tl_push _ _⟩, List.forall_mem_cons.mpr ⟨⟨s_iadd d46_16, tl_iadd _⟩, List.forall_mem_cons.mpr ⟨⟨f_putI_3_6 d46_17 wd_97, tl_putI _ _ _⟩, List.forall_mem_cons.mpr ⟨⟨s_vret d46_20 rfl, tl_vret⟩, fun _ h => absurd h List.not_mem_nil⟩⟩⟩⟩⟩⟩⟩⟩⟩⟩⟩⟩⟩
def t46 : List (Nat × pO) := t46_0
theorem ok46 : ∀ q ∈ t46, p_Z 46 q := ok46_0
