/-! ops of each method, and that each is sound -/
theorem d0_0 : decode (pB 0) 0 = .ok (.aload_n 0, 1) := by decide +kernel
theorem d0_1 : decode (pB 0) 1 = .ok (.invokespecial 3, 3) := by decide +kernel
theorem d0_4 : decode (pB 0) 4 = .ok (.aload_n 0, 1) := by decide +kernel
theorem d0_5 : decode (pB 0) 5 = .ok (.iconst 0, 1) := by decide +kernel
theorem d0_6 : decode (pB 0) 6 = .ok (.putfield 9, 3) := by decide +kernel
theorem d0_9 : decode (pB 0) 9 = .ok (.aload_n 0, 1) := by decide +kernel
theorem d0_10 : decode (pB 0) 10 = .ok (.iconst 0, 1) := by decide +kernel
theorem d0_11 : decode (pB 0) 11 = .ok (.putfield 15, 3) := by decide +kernel
theorem d0_14 : decode (pB 0) 14 = .ok (.aload_n 0, 1) := by decide +kernel
theorem d0_15 : decode (pB 0) 15 = .ok (.bipush 16, 2) := by decide +kernel
theorem d0_17 : decode (pB 0) 17 = .ok (.newarray .int, 2) := by decide +kernel
theorem d0_19 : decode (pB 0) 19 = .ok (.putfield 18, 3) := by decide +kernel
theorem d0_22 : decode (pB 0) 22 = .ok (.aload_n 0, 1) := by decide +kernel
theorem d0_23 : decode (pB 0) 23 = .ok (.bipush 17, 2) := by decide +kernel
theorem d0_25 : decode (pB 0) 25 = .ok (.newarray .int, 2) := by decide +kernel
theorem d0_27 : decode (pB 0) 27 = .ok (.putfield 22, 3) := by decide +kernel
theorem d0_30 : decode (pB 0) 30 = .ok (.aload_n 0, 1) := by decide +kernel
theorem d0_31 : decode (pB 0) 31 = .ok (.bipush 16, 2) := by decide +kernel
theorem d0_33 : decode (pB 0) 33 = .ok (.newarray .int, 2) := by decide +kernel
theorem d0_35 : decode (pB 0) 35 = .ok (.putfield 25, 3) := by decide +kernel
theorem d0_38 : decode (pB 0) 38 = .ok (.aload_n 0, 1) := by decide +kernel
theorem d0_39 : decode (pB 0) 39 = .ok (.bipush 16, 2) := by decide +kernel
theorem d0_41 : decode (pB 0) 41 = .ok (.newarray .int, 2) := by decide +kernel
theorem d0_43 : decode (pB 0) 43 = .ok (.putfield 28, 3) := by decide +kernel
theorem d0_46 : decode (pB 0) 46 = .ok (.return_, 1) := by decide +kernel
/-- RX0.<init> -/
def t0_0 : List (Nat × pO) := [(0, o_aload 0 1), (1, o_oinit 4), (4, o_aload 0 5), (5, o_push (.int (nI 0)) 6), (6, o_putI 0 0 9), (9, o_aload 0 10), (10, o_push (.int (nI 0)) 11), (11, o_putI 0 1 14), (14, o_aload 0 15), (15, o_push (.int (nI 16)) 17), (17, o_newa 0 19), (19, o_putR 0 2 22), (22, o_aload 0 23), (23, o_push (.int (nI 17)) 25), (25, o_newa 0 27), (27, o_putR 0 3 30), (30, o_aload 0 31), (31, o_push (.int (nI 16)) 33), (33, o_newa 0 35), (35, o_putR 0 4 38), (38, o_aload 0 39), (39, o_push (.int (nI 16)) 41), (41, o_newa 0 43), (43, o_putR 0 5 46), (46, o_vret)]
theorem ok0_0 : ∀ q ∈ t0_0, p_Z 0 q := List.forall_mem_cons.mpr ⟨⟨s_aload_n d0_0 rfl, tl_aload _ _⟩, List.forall_mem_cons.mpr ⟨⟨s_oinit d0_1 wd_119 wd_31 wd_32, tl_oinit _⟩, List.forall_mem_cons.mpr ⟨⟨s_aload_n d0_4 rfl, tl_aload _ _⟩, List.forall_mem_cons.mpr ⟨⟨s_iconst d0_5 rfl, tl_push _ _⟩, List.forall_mem_cons.mpr ⟨⟨f_putI_0_0 d0_6 wd_120, tl_putI _ _ _⟩, List.forall_mem_cons.mpr ⟨⟨s_aload_n d0_9 rfl, tl_aload _ _⟩, List.forall_mem_cons.mpr ⟨⟨s_iconst d0_10 rfl, tl_push _ _⟩, List.forall_mem_cons.mpr ⟨⟨f_putI_0_1 d0_11 wd_123, tl_putI _ _ _⟩, List.forall_mem_cons.mpr ⟨⟨s_aload_n d0_14 rfl, tl_aload _ _⟩, List.forall_mem_cons.mpr ⟨⟨s_bipush d0_15 rfl, tl_push _ _⟩, List.forall_mem_cons.mpr ⟨⟨s_newai d0_17 wd_70, tl_newa _ _⟩, List.forall_mem_cons.mpr ⟨⟨f_putR_0_2 d0_19 wd_124, tl_putR _ _ _⟩, List.forall_mem_cons.mpr ⟨⟨s_aload_n d0_22 rfl, tl_aload _ _⟩, List.forall_mem_cons.mpr ⟨⟨s_bipush d0_23 rfl, tl_push _ _⟩, List.forall_mem_cons.mpr ⟨⟨s_newai d0_25 wd_70, tl_newa _ _⟩, List.forall_mem_cons.mpr ⟨⟨f_putR_0_3 d0_27 wd_126, tl_putR _ _ _⟩, List.forall_mem_cons.mpr ⟨⟨s_aload_n d0_30 rfl, tl_aload _ _⟩, List.forall_mem_cons.mpr ⟨⟨s_bipush d0_31 rfl, tl_push _ _⟩, List.forall_mem_cons.mpr ⟨⟨s_newai d0_33 wd_70, tl_newa _ _⟩, List.forall_mem_cons.mpr ⟨⟨f_putR_0_4 d0_35 wd_128, tl_putR _ _ _⟩, List.forall_mem_cons.mpr ⟨⟨s_aload_n d0_38 rfl, tl_aload _ _⟩, List.forall_mem_cons.mpr ⟨⟨s_bipush d0_39 rfl, tl_push _ _⟩, List.forall_mem_cons.mpr ⟨⟨s_newai d0_41 wd_70, tl_newa _ _⟩, List.forall_mem_cons.mpr ⟨⟨f_putR_0_5 d0_43 wd_130, tl_putR _ _ _⟩, List.forall_mem_cons.mpr ⟨⟨s_vret d0_46 rfl, tl_vret⟩, fun _ h => absurd h List.not_mem_nil⟩⟩⟩⟩⟩⟩⟩⟩⟩⟩⟩⟩⟩⟩⟩⟩⟩⟩⟩⟩⟩⟩⟩⟩⟩
def t0 : List (Nat × pO) := t0_0
theorem ok0 : ∀ q ∈ t0, p_Z 0 q := ok0_0
theorem d1_0 : decode (pB 1) 0 = .ok (.aload_n 0, 1) := by decide +kernel
theorem d1_1 : decode (pB 1) 1 = .ok (.invokevirtual 31, 3) := by decide +kernel
theorem d1_4 : decode (pB 1) 4 = .ok (.iconst 0, 1) := by decide +kernel
theorem d1_5 : decode (pB 1) 5 = .ok (.istore_n 2, 1) := by decide +kernel
theorem d1_6 : decode (pB 1) 6 = .ok (.iload_n 2, 1) := by decide +kernel
theorem d1_7 : decode (pB 1) 7 = .ok (.iload_n 1, 1) := by decide +kernel
theorem d1_8 : decode (pB 1) 8 = .ok (.if_icmp .ge 18, 3) := by decide +kernel
theorem d1_11 : decode (pB 1) 11 = .ok (.aload_n 0, 1) := by decide +kernel
theorem d1_12 : decode (pB 1) 12 = .ok (.iload_n 2, 1) := by decide +kernel
theorem d1_13 : decode (pB 1) 13 = .ok (.invokevirtual 34, 3) := by decide +kernel
theorem d1_16 : decode (pB 1) 16 = .ok (.aload_n 0, 1) := by decide +kernel
theorem d1_17 : decode (pB 1) 17 = .ok (.invokevirtual 38, 3) := by decide +kernel
theorem d1_20 : decode (pB 1) 20 = .ok (.iinc 2 1, 3) := by decide +kernel
theorem d1_23 : decode (pB 1) 23 = .ok (.goto (-17), 3) := by decide +kernel
theorem d1_26 : decode (pB 1) 26 = .ok (.return_, 1) := by decide +kernel
theorem st1_1_2 : p_st1 1 2 = true := by decide +kernel
/-- RX0.layFlat -/
def t1_0 : List (Nat × pO) := [(0, o_aload 0 1), (1, o_invV 0 3 0 4), (4, o_push (.int (nI 0)) 5), (5, o_istore 2 6), (6, o_iload 2 7), (7, o_iload 1 8), (8, o_icge 26 11), (11, o_aload 0 12), (12, o_iload 2 13), (13, o_invV 0 4 1 16), (16, o_aload 0 17), (17, o_invV 0 5 0 20), (20, o_iinc 2 (nI 1) 23), (23, o_goto 6), (26, o_vret)]
theorem ok1_0 : ∀ q ∈ t1_0, p_Z 1 q := List.forall_mem_cons.mpr ⟨⟨s_aload_n d1_0 rfl, tl_aload _ _⟩, List.forall_mem_cons.mpr ⟨⟨q_invV_3 d1_1 wd_149, tl_invV _ _ _ _⟩, List.forall_mem_cons.mpr ⟨⟨s_iconst d1_4 rfl, tl_push _ _⟩, List.forall_mem_cons.mpr ⟨⟨s_istore_n d1_5 rfl st1_1_2, tl_istore _ _⟩, List.forall_mem_cons.mpr ⟨⟨s_iload_n d1_6 rfl, tl_iload _ _⟩, List.forall_mem_cons.mpr ⟨⟨s_iload_n d1_7 rfl, tl_iload _ _⟩, List.forall_mem_cons.mpr ⟨⟨s_icge d1_8 rfl, tl_icge _ _⟩, List.forall_mem_cons.mpr ⟨⟨s_aload_n d1_11 rfl, tl_aload _ _⟩, List.forall_mem_cons.mpr ⟨⟨s_iload_n d1_12 rfl, tl_iload _ _⟩, List.forall_mem_cons.mpr ⟨⟨q_invV_4 d1_13 wd_153, tl_invV _ _ _ _⟩, List.forall_mem_cons.mpr ⟨⟨s_aload_n d1_16 rfl, tl_aload _ _⟩, List.forall_mem_cons.mpr ⟨⟨q_invV_5 d1_17 wd_157, tl_invV _ _ _ _⟩, List.forall_mem_cons.mpr ⟨⟨s_iinc d1_20 rfl st1_1_2, tl_iinc _ _ _⟩, List.forall_mem_cons.mpr ⟨⟨s_goto d1_23 rfl, tl_goto _⟩, List.forall_mem_cons.mpr ⟨⟨s_vret d1_26 rfl, tl_vret⟩, fun _ h => absurd h List.not_mem_nil⟩⟩⟩⟩⟩⟩⟩⟩⟩⟩⟩⟩⟩⟩⟩
def t1 : List (Nat × pO) := t1_0
theorem ok1 : ∀ q ∈ t1, p_Z 1 q := ok1_0
theorem d2_0 : decode (pB 2) 0 = .ok (.aload_n 0, 1) := by decide +kernel
theorem d2_1 : decode (pB 2) 1 = .ok (.invokevirtual 31, 3) := by decide +kernel
theorem d2_4 : decode (pB 2) 4 = .ok (.iload_n 2, 1) := by decide +kernel
theorem d2_5 : decode (pB 2) 5 = .ok (.aload_n 1, 1) := by decide +kernel
theorem d2_6 : decode (pB 2) 6 = .ok (.getfield 9, 3) := by decide +kernel
theorem d2_9 : decode (pB 2) 9 = .ok (.iload_n 2, 1) := by decide +kernel
theorem d2_10 : decode (pB 2) 10 = .ok (.isub, 1) := by decide +kernel
theorem d2_11 : decode (pB 2) 11 = .ok (.invokestatic 41, 3) := by decide +kernel
theorem d2_14 : decode (pB 2) 14 = .ok (.istore_n 3, 1) := by decide +kernel
theorem d2_15 : decode (pB 2) 15 = .ok (.iconst 0, 1) := by decide +kernel
theorem d2_16 : decode (pB 2) 16 = .ok (.istore 4, 2) := by decide +kernel
theorem d2_18 : decode (pB 2) 18 = .ok (.iload 4, 2) := by decide +kernel
theorem d2_20 : decode (pB 2) 20 = .ok (.iload_n 3, 1) := by decide +kernel
theorem d2_21 : decode (pB 2) 21 = .ok (.if_icmp .ge 50, 3) := by decide +kernel
theorem d2_24 : decode (pB 2) 24 = .ok (.iload 4, 2) := by decide +kernel
theorem d2_26 : decode (pB 2) 26 = .ok (.iload_n 2, 1) := by decide +kernel
theorem d2_27 : decode (pB 2) 27 = .ok (.if_icmp .ge 14, 3) := by decide +kernel
theorem d2_30 : decode (pB 2) 30 = .ok (.aload_n 0, 1) := by decide +kernel
theorem d2_31 : decode (pB 2) 31 = .ok (.aload_n 1, 1) := by decide +kernel
theorem d2_32 : decode (pB 2) 32 = .ok (.iload_n 2, 1) := by decide +kernel
theorem d2_33 : decode (pB 2) 33 = .ok (.iconst 1, 1) := by decide +kernel
theorem d2_34 : decode (pB 2) 34 = .ok (.isub, 1) := by decide +kernel
theorem d2_35 : decode (pB 2) 35 = .ok (.iload 4, 2) := by decide +kernel
theorem d2_37 : decode (pB 2) 37 = .ok (.isub, 1) := by decide +kernel
theorem d2_38 : decode (pB 2) 38 = .ok (.invokevirtual 47, 3) := by decide +kernel
theorem d2_41 : decode (pB 2) 41 = .ok (.iload_n 2, 1) := by decide +kernel
theorem d2_42 : decode (pB 2) 42 = .ok (.iload 4, 2) := by decide +kernel
theorem d2_44 : decode (pB 2) 44 = .ok (.iadd, 1) := by decide +kernel
theorem d2_45 : decode (pB 2) 45 = .ok (.aload_n 1, 1) := by decide +kernel
theorem d2_46 : decode (pB 2) 46 = .ok (.getfield 9, 3) := by decide +kernel
theorem d2_49 : decode (pB 2) 49 = .ok (.if_icmp .ge 12, 3) := by decide +kernel
theorem d2_52 : decode (pB 2) 52 = .ok (.aload_n 0, 1) := by decide +kernel
theorem d2_53 : decode (pB 2) 53 = .ok (.aload_n 1, 1) := by decide +kernel
theorem d2_54 : decode (pB 2) 54 = .ok (.iload_n 2, 1) := by decide +kernel
theorem d2_55 : decode (pB 2) 55 = .ok (.iload 4, 2) := by decide +kernel
theorem d2_57 : decode (pB 2) 57 = .ok (.iadd, 1) := by decide +kernel
theorem d2_58 : decode (pB 2) 58 = .ok (.invokevirtual 51, 3) := by decide +kernel
theorem d2_61 : decode (pB 2) 61 = .ok (.aload_n 0, 1) := by decide +kernel
theorem d2_62 : decode (pB 2) 62 = .ok (.invokevirtual 38, 3) := by decide +kernel
theorem d2_65 : decode (pB 2) 65 = .ok (.iinc 4 1, 3) := by decide +kernel
theorem d2_68 : decode (pB 2) 68 = .ok (.goto (-50), 3) := by decide +kernel
theorem d2_71 : decode (pB 2) 71 = .ok (.return_, 1) := by decide +kernel
theorem st1_2_3 : p_st1 2 3 = true := by decide +kernel
theorem st1_2_4 : p_st1 2 4 = true := by decide +kernel
/-- RX0.layFolded -/
def t2_0 : List (Nat × pO) := [(0, o_aload 0 1), (1, o_invV 0 3 0 4), (4, o_iload 2 5), (5, o_aload 1 6), (6, o_getI 0 0 9), (9, o_iload 2 10), (10, o_isub 11), (11, o_max 14), (14, o_istore 3 15), (15, o_push (.int (nI 0)) 16), (16, o_istore 4 18), (18, o_iload 4 20), (20, o_iload 3 21), (21, o_icge 71 24), (24, o_iload 4 26), (26, o_iload 2 27), (27, o_icge 41 30), (30, o_aload 0 31), (31, o_aload 1 32), (32, o_iload 2 33), (33, o_push (.int (nI 1)) 34), (34, o_isub 35), (35, o_iload 4 37), (37, o_isub 38), (38, o_invV 0 6 2 41), (41, o_iload 2 42), (42, o_iload 4 44), (44, o_iadd 45), (45, o_aload 1 46), (46, o_getI 0 0 49), (49, o_icge 61 52), (52, o_aload 0 53), (53, o_aload 1 54), (54, o_iload 2 55), (55, o_iload 4 57), (57, o_iadd 58), (58, o_invV 0 7 2 61), (61, o_aload 0 62), (62, o_invV 0 5 0 65), (65, o_iinc 4 (nI 1) 68)]
theorem ok2_0 : ∀ q ∈ t2_0, p_Z 2 q := List.forall_mem_cons.mpr ⟨⟨s_aload_n d2_0 rfl, tl_aload _ _⟩, List.forall_mem_cons.mpr ⟨⟨q_invV_3 d2_1 wd_149, tl_invV _ _ _ _⟩, List.forall_mem_cons.mpr ⟨⟨s_iload_n d2_4 rfl, tl_iload _ _⟩, List.forall_mem_cons.mpr ⟨⟨s_aload_n d2_5 rfl, tl_aload _ _⟩, List.forall_mem_cons.mpr ⟨⟨f_getI_0_0 d2_6 wd_120, tl_getI _ _ _⟩, List.forall_mem_cons.mpr ⟨⟨s_iload_n d2_9 rfl, tl_iload _ _⟩, List.forall_mem_cons.mpr ⟨⟨s_isub d2_10, tl_isub _⟩, List.forall_mem_cons.mpr ⟨⟨s_max d2_11 wd_256 wd_250 wd_23 wd_251, tl_max _⟩, List.forall_mem_cons.mpr ⟨⟨s_istore_n d2_14 rfl st1_2_3, tl_istore _ _⟩, List.forall_mem_cons.mpr ⟨⟨s_iconst d2_15 rfl, tl_push _ _⟩, List.forall_mem_cons.mpr ⟨⟨s_istore d2_16 st1_2_4, tl_istore _ _⟩, List.forall_mem_cons.mpr ⟨⟨s_iload d2_18, tl_iload _ _⟩, List.forall_mem_cons.mpr ⟨⟨s_iload_n d2_20 rfl, tl_iload _ _⟩, List.forall_mem_cons.mpr ⟨⟨s_icge d2_21 rfl, tl_icge _ _⟩, List.forall_mem_cons.mpr ⟨⟨s_iload d2_24, tl_iload _ _⟩, List.forall_mem_cons.mpr ⟨⟨s_iload_n d2_26 rfl, tl_iload _ _⟩, List.forall_mem_cons.mpr ⟨⟨s_icge d2_27 rfl, tl_icge _ _⟩, List.forall_mem_cons.mpr ⟨⟨s_aload_n d2_30 rfl, tl_aload _ _⟩, List.forall_mem_cons.mpr ⟨⟨s_aload_n d2_31 rfl, tl_aload _ _⟩, List.forall_mem_cons.mpr ⟨⟨s_iload_n d2_32 rfl, tl_iload _ _⟩, List.forall_mem_cons.mpr ⟨⟨s_iconst d2_33 rfl, tl_push _ _⟩, List.forall_mem_cons.mpr ⟨⟨s_isub d2_34, tl_isub _⟩, List.forall_mem_cons.mpr ⟨⟨s_iload d2_35, tl_iload _ _⟩, List.forall_mem_cons.mpr ⟨⟨s_isub d2_37, tl_isub _⟩, List.forall_mem_cons.mpr ⟨⟨q_invV_6 d2_38 wd_276, tl_invV _ _ _ _⟩, List.forall_mem_cons.mpr ⟨⟨s_iload_n d2_41 rfl, tl_iload _ _⟩, List.forall_mem_cons.mpr ⟨⟨s_iload d2_42, tl_iload _ _⟩, List.forall_mem_cons.mpr ⟨⟨s_iadd d2_44, tl_iadd _⟩, List.forall_mem_cons.mpr ⟨⟨s_aload_n d2_45 rfl, tl_aload _ _⟩, List.forall_mem_cons.mpr ⟨⟨f_getI_0_0 d2_46 wd_120, tl_getI _ _ _⟩, List.forall_mem_cons.mpr ⟨⟨s_icge d2_49 rfl, tl_icge _ _⟩, List.forall_mem_cons.mpr ⟨⟨s_aload_n d2_52 rfl, tl_aload _ _⟩, List.forall_mem_cons.mpr ⟨⟨s_aload_n d2_53 rfl, tl_aload _ _⟩, List.forall_mem_cons.mpr ⟨⟨s_iload_n d2_54 rfl, tl_iload _ _⟩, List.forall_mem_cons.mpr ⟨⟨s_iload d2_55, tl_iload _ _⟩, List.forall_mem_cons.mpr ⟨⟨s_iadd d2_57, tl_iadd _⟩, List.forall_mem_cons.mpr ⟨⟨q_invV_7 d2_58 wd_280, tl_invV _ _ _ _⟩, List.forall_mem_cons.mpr ⟨⟨s_aload_n d2_61 rfl, tl_aload _ _⟩, List.forall_mem_cons.mpr ⟨⟨q_invV_5 d2_62 wd_157, tl_invV _ _ _ _⟩, List.forall_mem_cons.mpr ⟨⟨s_iinc d2_65 rfl st1_2_4, tl_iinc _ _ _⟩, fun _ h => absurd h List.not_mem_nil⟩⟩⟩⟩⟩⟩⟩⟩⟩⟩⟩⟩⟩⟩⟩⟩⟩⟩⟩⟩⟩⟩⟩⟩⟩⟩⟩⟩⟩⟩⟩⟩⟩⟩⟩⟩⟩⟩⟩⟩
/-- RX0.layFolded -/
def t2_1 : List (Nat × pO) := [(68, o_goto 18), (71, o_vret)]
theorem ok2_1 : ∀ q ∈ t2_1, p_Z 2 q := List.forall_mem_cons.mpr ⟨⟨s_goto d2_68 rfl, tl_goto _⟩, List.forall_mem_cons.mpr ⟨⟨s_vret d2_71 rfl, tl_vret⟩, fun _ h => absurd h List.not_mem_nil⟩⟩
def t2 : List (Nat × pO) := t2_0 ++ (t2_1)
theorem ok2 : ∀ q ∈ t2, p_Z 2 q := List.forall_mem_append.mpr ⟨ok2_0, ok2_1⟩
theorem d3_0 : decode (pB 3) 0 = .ok (.aload_n 0, 1) := by decide +kernel
theorem d3_1 : decode (pB 3) 1 = .ok (.iconst 0, 1) := by decide +kernel
theorem d3_2 : decode (pB 3) 2 = .ok (.putfield 9, 3) := by decide +kernel
theorem d3_5 : decode (pB 3) 5 = .ok (.aload_n 0, 1) := by decide +kernel
theorem d3_6 : decode (pB 3) 6 = .ok (.iconst 0, 1) := by decide +kernel
theorem d3_7 : decode (pB 3) 7 = .ok (.putfield 15, 3) := by decide +kernel
theorem d3_10 : decode (pB 3) 10 = .ok (.return_, 1) := by decide +kernel
/-- RX0.clear -/
def t3_0 : List (Nat × pO) := [(0, o_aload 0 1), (1, o_push (.int (nI 0)) 2), (2, o_putI 0 0 5), (5, o_aload 0 6), (6, o_push (.int (nI 0)) 7), (7, o_putI 0 1 10), (10, o_vret)]
theorem ok3_0 : ∀ q ∈ t3_0, p_Z 3 q := List.forall_mem_cons.mpr ⟨⟨s_aload_n d3_0 rfl, tl_aload _ _⟩, List.forall_mem_cons.mpr ⟨⟨s_iconst d3_1 rfl, tl_push _ _⟩, List.forall_mem_cons.mpr ⟨⟨f_putI_0_0 d3_2 wd_120, tl_putI _ _ _⟩, List.forall_mem_cons.mpr ⟨⟨s_aload_n d3_5 rfl, tl_aload _ _⟩, List.forall_mem_cons.mpr ⟨⟨s_iconst d3_6 rfl, tl_push _ _⟩, List.forall_mem_cons.mpr ⟨⟨f_putI_0_1 d3_7 wd_123, tl_putI _ _ _⟩, List.forall_mem_cons.mpr ⟨⟨s_vret d3_10 rfl, tl_vret⟩, fun _ h => absurd h List.not_mem_nil⟩⟩⟩⟩⟩⟩⟩
def t3 : List (Nat × pO) := t3_0
theorem ok3 : ∀ q ∈ t3, p_Z 3 q := ok3_0
theorem d4_0 : decode (pB 4) 0 = .ok (.aload_n 0, 1) := by decide +kernel
theorem d4_1 : decode (pB 4) 1 = .ok (.getfield 18, 3) := by decide +kernel
theorem d4_4 : decode (pB 4) 4 = .ok (.aload_n 0, 1) := by decide +kernel
theorem d4_5 : decode (pB 4) 5 = .ok (.getfield 15, 3) := by decide +kernel
theorem d4_8 : decode (pB 4) 8 = .ok (.iload_n 1, 1) := by decide +kernel
theorem d4_9 : decode (pB 4) 9 = .ok (.iastore, 1) := by decide +kernel
theorem d4_10 : decode (pB 4) 10 = .ok (.aload_n 0, 1) := by decide +kernel
theorem d4_11 : decode (pB 4) 11 = .ok (.getfield 28, 3) := by decide +kernel
theorem d4_14 : decode (pB 4) 14 = .ok (.iload_n 1, 1) := by decide +kernel
theorem d4_15 : decode (pB 4) 15 = .ok (.aload_n 0, 1) := by decide +kernel
theorem d4_16 : decode (pB 4) 16 = .ok (.getfield 15, 3) := by decide +kernel
theorem d4_19 : decode (pB 4) 19 = .ok (.iastore, 1) := by decide +kernel
theorem d4_20 : decode (pB 4) 20 = .ok (.aload_n 0, 1) := by decide +kernel
theorem d4_21 : decode (pB 4) 21 = .ok (.getfield 25, 3) := by decide +kernel
theorem d4_24 : decode (pB 4) 24 = .ok (.iload_n 1, 1) := by decide +kernel
theorem d4_25 : decode (pB 4) 25 = .ok (.aload_n 0, 1) := by decide +kernel
theorem d4_26 : decode (pB 4) 26 = .ok (.getfield 9, 3) := by decide +kernel
theorem d4_29 : decode (pB 4) 29 = .ok (.iastore, 1) := by decide +kernel
theorem d4_30 : decode (pB 4) 30 = .ok (.aload_n 0, 1) := by decide +kernel
theorem d4_31 : decode (pB 4) 31 = .ok (.dup, 1) := by decide +kernel
theorem d4_32 : decode (pB 4) 32 = .ok (.getfield 15, 3) := by decide +kernel
theorem d4_35 : decode (pB 4) 35 = .ok (.iconst 1, 1) := by decide +kernel
theorem d4_36 : decode (pB 4) 36 = .ok (.iadd, 1) := by decide +kernel
theorem d4_37 : decode (pB 4) 37 = .ok (.putfield 15, 3) := by decide +kernel
theorem d4_40 : decode (pB 4) 40 = .ok (.return_, 1) := by decide +kernel
/-- RX0.addSeat -/
def t4_0 : List (Nat × pO) := [(0, o_aload 0 1), (1, o_getR 0 2 4), (4, o_aload 0 5), (5, o_getI 0 1 8), (8, o_iload 1 9), (9, o_iast 10), (10, o_aload 0 11), (11, o_getR 0 5 14), (14, o_iload 1 15), (15, o_aload 0 16), (16, o_getI 0 1 19), (19, o_iast 20), (20, o_aload 0 21), (21, o_getR 0 4 24), (24, o_iload 1 25), (25, o_aload 0 26), (26, o_getI 0 0 29), (29, o_iast 30), (30, o_aload 0 31), (31, o_dupr 32), (32, o_getI 0 1 35), (35, o_push (.int (nI 1)) 36), (36, o_iadd 37), (37, o_putI 0 1 40), (40, o_vret)]
theorem ok4_0 : ∀ q ∈ t4_0, p_Z 4 q := List.forall_mem_cons.mpr ⟨⟨s_aload_n d4_0 rfl, tl_aload _ _⟩, List.forall_mem_cons.mpr ⟨⟨f_getR_0_2 d4_1 wd_124, tl_getR _ _ _⟩, List.forall_mem_cons.mpr ⟨⟨s_aload_n d4_4 rfl, tl_aload _ _⟩, List.forall_mem_cons.mpr ⟨⟨f_getI_0_1 d4_5 wd_123, tl_getI _ _ _⟩, List.forall_mem_cons.mpr ⟨⟨s_iload_n d4_8 rfl, tl_iload _ _⟩, List.forall_mem_cons.mpr ⟨⟨s_iast d4_9, tl_iast _⟩, List.forall_mem_cons.mpr ⟨⟨s_aload_n d4_10 rfl, tl_aload _ _⟩, List.forall_mem_cons.mpr ⟨⟨f_getR_0_5 d4_11 wd_130, tl_getR _ _ _⟩, List.forall_mem_cons.mpr ⟨⟨s_iload_n d4_14 rfl, tl_iload _ _⟩, List.forall_mem_cons.mpr ⟨⟨s_aload_n d4_15 rfl, tl_aload _ _⟩, List.forall_mem_cons.mpr ⟨⟨f_getI_0_1 d4_16 wd_123, tl_getI _ _ _⟩, List.forall_mem_cons.mpr ⟨⟨s_iast d4_19, tl_iast _⟩, List.forall_mem_cons.mpr ⟨⟨s_aload_n d4_20 rfl, tl_aload _ _⟩, List.forall_mem_cons.mpr ⟨⟨f_getR_0_4 d4_21 wd_128, tl_getR _ _ _⟩, List.forall_mem_cons.mpr ⟨⟨s_iload_n d4_24 rfl, tl_iload _ _⟩, List.forall_mem_cons.mpr ⟨⟨s_aload_n d4_25 rfl, tl_aload _ _⟩, List.forall_mem_cons.mpr ⟨⟨f_getI_0_0 d4_26 wd_120, tl_getI _ _ _⟩, List.forall_mem_cons.mpr ⟨⟨s_iast d4_29, tl_iast _⟩, List.forall_mem_cons.mpr ⟨⟨s_aload_n d4_30 rfl, tl_aload _ _⟩, List.forall_mem_cons.mpr ⟨⟨s_dupr d4_31, tl_dupr _⟩, List.forall_mem_cons.mpr ⟨⟨f_getI_0_1 d4_32 wd_123, tl_getI _ _ _⟩, List.forall_mem_cons.mpr ⟨⟨s_iconst d4_35 rfl, tl_push _ _⟩, List.forall_mem_cons.mpr ⟨⟨s_iadd d4_36, tl_iadd _⟩, List.forall_mem_cons.mpr ⟨⟨f_putI_0_1 d4_37 wd_123, tl_putI _ _ _⟩, List.forall_mem_cons.mpr ⟨⟨s_vret d4_40 rfl, tl_vret⟩, fun _ h => absurd h List.not_mem_nil⟩⟩⟩⟩⟩⟩⟩⟩⟩⟩⟩⟩⟩⟩⟩⟩⟩⟩⟩⟩⟩⟩⟩⟩⟩
def t4 : List (Nat × pO) := t4_0
theorem ok4 : ∀ q ∈ t4, p_Z 4 q := ok4_0
theorem d5_0 : decode (pB 5) 0 = .ok (.aload_n 0, 1) := by decide +kernel
theorem d5_1 : decode (pB 5) 1 = .ok (.dup, 1) := by decide +kernel
theorem d5_2 : decode (pB 5) 2 = .ok (.getfield 9, 3) := by decide +kernel
theorem d5_5 : decode (pB 5) 5 = .ok (.iconst 1, 1) := by decide +kernel
theorem d5_6 : decode (pB 5) 6 = .ok (.iadd, 1) := by decide +kernel
theorem d5_7 : decode (pB 5) 7 = .ok (.putfield 9, 3) := by decide +kernel
theorem d5_10 : decode (pB 5) 10 = .ok (.aload_n 0, 1) := by decide +kernel
theorem d5_11 : decode (pB 5) 11 = .ok (.getfield 22, 3) := by decide +kernel
theorem d5_14 : decode (pB 5) 14 = .ok (.aload_n 0, 1) := by decide +kernel
theorem d5_15 : decode (pB 5) 15 = .ok (.getfield 9, 3) := by decide +kernel
theorem d5_18 : decode (pB 5) 18 = .ok (.aload_n 0, 1) := by decide +kernel
theorem d5_19 : decode (pB 5) 19 = .ok (.getfield 15, 3) := by decide +kernel
theorem d5_22 : decode (pB 5) 22 = .ok (.iastore, 1) := by decide +kernel
theorem d5_23 : decode (pB 5) 23 = .ok (.return_, 1) := by decide +kernel
/-- RX0.closeColumn -/
def t5_0 : List (Nat × pO) := [(0, o_aload 0 1), (1, o_dupr 2), (2, o_getI 0 0 5), (5, o_push (.int (nI 1)) 6), (6, o_iadd 7), (7, o_putI 0 0 10), (10, o_aload 0 11), (11, o_getR 0 3 14), (14, o_aload 0 15), (15, o_getI 0 0 18), (18, o_aload 0 19), (19, o_getI 0 1 22), (22, o_iast 23), (23, o_vret)]
theorem ok5_0 : ∀ q ∈ t5_0, p_Z 5 q := List.forall_mem_cons.mpr ⟨⟨s_aload_n d5_0 rfl, tl_aload _ _⟩, List.forall_mem_cons.mpr ⟨⟨s_dupr d5_1, tl_dupr _⟩, List.forall_mem_cons.mpr ⟨⟨f_getI_0_0 d5_2 wd_120, tl_getI _ _ _⟩, List.forall_mem_cons.mpr ⟨⟨s_iconst d5_5 rfl, tl_push _ _⟩, List.forall_mem_cons.mpr ⟨⟨s_iadd d5_6, tl_iadd _⟩, List.forall_mem_cons.mpr ⟨⟨f_putI_0_0 d5_7 wd_120, tl_putI _ _ _⟩, List.forall_mem_cons.mpr ⟨⟨s_aload_n d5_10 rfl, tl_aload _ _⟩, List.forall_mem_cons.mpr ⟨⟨f_getR_0_3 d5_11 wd_126, tl_getR _ _ _⟩, List.forall_mem_cons.mpr ⟨⟨s_aload_n d5_14 rfl, tl_aload _ _⟩, List.forall_mem_cons.mpr ⟨⟨f_getI_0_0 d5_15 wd_120, tl_getI _ _ _⟩, List.forall_mem_cons.mpr ⟨⟨s_aload_n d5_18 rfl, tl_aload _ _⟩, List.forall_mem_cons.mpr ⟨⟨f_getI_0_1 d5_19 wd_123, tl_getI _ _ _⟩, List.forall_mem_cons.mpr ⟨⟨s_iast d5_22, tl_iast _⟩, List.forall_mem_cons.mpr ⟨⟨s_vret d5_23 rfl, tl_vret⟩, fun _ h => absurd h List.not_mem_nil⟩⟩⟩⟩⟩⟩⟩⟩⟩⟩⟩⟩⟩⟩
def t5 : List (Nat × pO) := t5_0
theorem ok5 : ∀ q ∈ t5, p_Z 5 q := ok5_0
theorem d6_0 : decode (pB 6) 0 = .ok (.aload_n 1, 1) := by decide +kernel
theorem d6_1 : decode (pB 6) 1 = .ok (.getfield 22, 3) := by decide +kernel
theorem d6_4 : decode (pB 6) 4 = .ok (.iload_n 2, 1) := by decide +kernel
theorem d6_5 : decode (pB 6) 5 = .ok (.iaload, 1) := by decide +kernel
theorem d6_6 : decode (pB 6) 6 = .ok (.istore_n 3, 1) := by decide +kernel
theorem d6_7 : decode (pB 6) 7 = .ok (.iload_n 3, 1) := by decide +kernel
theorem d6_8 : decode (pB 6) 8 = .ok (.aload_n 1, 1) := by decide +kernel
theorem d6_9 : decode (pB 6) 9 = .ok (.getfield 22, 3) := by decide +kernel
theorem d6_12 : decode (pB 6) 12 = .ok (.iload_n 2, 1) := by decide +kernel
theorem d6_13 : decode (pB 6) 13 = .ok (.iconst 1, 1) := by decide +kernel
theorem d6_14 : decode (pB 6) 14 = .ok (.iadd, 1) := by decide +kernel
theorem d6_15 : decode (pB 6) 15 = .ok (.iaload, 1) := by decide +kernel
theorem d6_16 : decode (pB 6) 16 = .ok (.if_icmp .ge 19, 3) := by decide +kernel
theorem d6_19 : decode (pB 6) 19 = .ok (.aload_n 0, 1) := by decide +kernel
theorem d6_20 : decode (pB 6) 20 = .ok (.aload_n 1, 1) := by decide +kernel
theorem d6_21 : decode (pB 6) 21 = .ok (.getfield 18, 3) := by decide +kernel
theorem d6_24 : decode (pB 6) 24 = .ok (.iload_n 3, 1) := by decide +kernel
theorem d6_25 : decode (pB 6) 25 = .ok (.iaload, 1) := by decide +kernel
theorem d6_26 : decode (pB 6) 26 = .ok (.invokevirtual 34, 3) := by decide +kernel
theorem d6_29 : decode (pB 6) 29 = .ok (.iinc 3 1, 3) := by decide +kernel
theorem d6_32 : decode (pB 6) 32 = .ok (.goto (-25), 3) := by decide +kernel
theorem d6_35 : decode (pB 6) 35 = .ok (.return_, 1) := by decide +kernel
theorem st1_6_3 : p_st1 6 3 = true := by decide +kernel
/-- RX0.addUpright -/
def t6_0 : List (Nat × pO) := [(0, o_aload 1 1), (1, o_getR 0 3 4), (4, o_iload 2 5), (5, o_iald 6), (6, o_istore 3 7), (7, o_iload 3 8), (8, o_aload 1 9), (9, o_getR 0 3 12), (12, o_iload 2 13), (13, o_push (.int (nI 1)) 14), (14, o_iadd 15), (15, o_iald 16), (16, o_icge 35 19), (19, o_aload 0 20), (20, o_aload 1 21), (21, o_getR 0 2 24), (24, o_iload 3 25), (25, o_iald 26), (26, o_invV 0 4 1 29), (29, o_iinc 3 (nI 1) 32), (32, o_goto 7), (35, o_vret)]
theorem ok6_0 : ∀ q ∈ t6_0, p_Z 6 q := List.forall_mem_cons.mpr ⟨⟨s_aload_n d6_0 rfl, tl_aload _ _⟩, List.forall_mem_cons.mpr ⟨⟨f_getR_0_3 d6_1 wd_126, tl_getR _ _ _⟩, List.forall_mem_cons.mpr ⟨⟨s_iload_n d6_4 rfl, tl_iload _ _⟩, List.forall_mem_cons.mpr ⟨⟨s_iald d6_5, tl_iald _⟩, List.forall_mem_cons.mpr ⟨⟨s_istore_n d6_6 rfl st1_6_3, tl_istore _ _⟩, List.forall_mem_cons.mpr ⟨⟨s_iload_n d6_7 rfl, tl_iload _ _⟩, List.forall_mem_cons.mpr ⟨⟨s_aload_n d6_8 rfl, tl_aload _ _⟩, List.forall_mem_cons.mpr ⟨⟨f_getR_0_3 d6_9 wd_126, tl_getR _ _ _⟩, List.forall_mem_cons.mpr ⟨⟨s_iload_n d6_12 rfl, tl_iload _ _⟩, List.forall_mem_cons.mpr ⟨⟨s_iconst d6_13 rfl, tl_push _ _⟩, List.forall_mem_cons.mpr ⟨⟨s_iadd d6_14, tl_iadd _⟩, List.forall_mem_cons.mpr ⟨⟨s_iald d6_15, tl_iald _⟩, List.forall_mem_cons.mpr ⟨⟨s_icge d6_16 rfl, tl_icge _ _⟩, List.forall_mem_cons.mpr ⟨⟨s_aload_n d6_19 rfl, tl_aload _ _⟩, List.forall_mem_cons.mpr ⟨⟨s_aload_n d6_20 rfl, tl_aload _ _⟩, List.forall_mem_cons.mpr ⟨⟨f_getR_0_2 d6_21 wd_124, tl_getR _ _ _⟩, List.forall_mem_cons.mpr ⟨⟨s_iload_n d6_24 rfl, tl_iload _ _⟩, List.forall_mem_cons.mpr ⟨⟨s_iald d6_25, tl_iald _⟩, List.forall_mem_cons.mpr ⟨⟨q_invV_4 d6_26 wd_153, tl_invV _ _ _ _⟩, List.forall_mem_cons.mpr ⟨⟨s_iinc d6_29 rfl st1_6_3, tl_iinc _ _ _⟩, List.forall_mem_cons.mpr ⟨⟨s_goto d6_32 rfl, tl_goto _⟩, List.forall_mem_cons.mpr ⟨⟨s_vret d6_35 rfl, tl_vret⟩, fun _ h => absurd h List.not_mem_nil⟩⟩⟩⟩⟩⟩⟩⟩⟩⟩⟩⟩⟩⟩⟩⟩⟩⟩⟩⟩⟩⟩
def t6 : List (Nat × pO) := t6_0
theorem ok6 : ∀ q ∈ t6, p_Z 6 q := ok6_0
theorem d7_0 : decode (pB 7) 0 = .ok (.aload_n 1, 1) := by decide +kernel
theorem d7_1 : decode (pB 7) 1 = .ok (.getfield 22, 3) := by decide +kernel
theorem d7_4 : decode (pB 7) 4 = .ok (.iload_n 2, 1) := by decide +kernel
theorem d7_5 : decode (pB 7) 5 = .ok (.iconst 1, 1) := by decide +kernel
theorem d7_6 : decode (pB 7) 6 = .ok (.iadd, 1) := by decide +kernel
theorem d7_7 : decode (pB 7) 7 = .ok (.iaload, 1) := by decide +kernel
theorem d7_8 : decode (pB 7) 8 = .ok (.iconst 1, 1) := by decide +kernel
theorem d7_9 : decode (pB 7) 9 = .ok (.isub, 1) := by decide +kernel
theorem d7_10 : decode (pB 7) 10 = .ok (.istore_n 3, 1) := by decide +kernel
theorem d7_11 : decode (pB 7) 11 = .ok (.iload_n 3, 1) := by decide +kernel
theorem d7_12 : decode (pB 7) 12 = .ok (.aload_n 1, 1) := by decide +kernel
theorem d7_13 : decode (pB 7) 13 = .ok (.getfield 22, 3) := by decide +kernel
theorem d7_16 : decode (pB 7) 16 = .ok (.iload_n 2, 1) := by decide +kernel
theorem d7_17 : decode (pB 7) 17 = .ok (.iaload, 1) := by decide +kernel
theorem d7_18 : decode (pB 7) 18 = .ok (.if_icmp .lt 19, 3) := by decide +kernel
theorem d7_21 : decode (pB 7) 21 = .ok (.aload_n 0, 1) := by decide +kernel
theorem d7_22 : decode (pB 7) 22 = .ok (.aload_n 1, 1) := by decide +kernel
theorem d7_23 : decode (pB 7) 23 = .ok (.getfield 18, 3) := by decide +kernel
theorem d7_26 : decode (pB 7) 26 = .ok (.iload_n 3, 1) := by decide +kernel
theorem d7_27 : decode (pB 7) 27 = .ok (.iaload, 1) := by decide +kernel
theorem d7_28 : decode (pB 7) 28 = .ok (.invokevirtual 34, 3) := by decide +kernel
theorem d7_31 : decode (pB 7) 31 = .ok (.iinc 3 (-1), 3) := by decide +kernel
theorem d7_34 : decode (pB 7) 34 = .ok (.goto (-23), 3) := by decide +kernel
theorem d7_37 : decode (pB 7) 37 = .ok (.return_, 1) := by decide +kernel
theorem st1_7_3 : p_st1 7 3 = true := by decide +kernel
/-- RX0.addTurned -/
def t7_0 : List (Nat × pO) := [(0, o_aload 1 1), (1, o_getR 0 3 4), (4, o_iload 2 5), (5, o_push (.int (nI 1)) 6), (6, o_iadd 7), (7, o_iald 8), (8, o_push (.int (nI 1)) 9), (9, o_isub 10), (10, o_istore 3 11), (11, o_iload 3 12), (12, o_aload 1 13), (13, o_getR 0 3 16), (16, o_iload 2 17), (17, o_iald 18), (18, o_iclt 37 21), (21, o_aload 0 22), (22, o_aload 1 23), (23, o_getR 0 2 26), (26, o_iload 3 27), (27, o_iald 28), (28, o_invV 0 4 1 31), (31, o_iinc 3 (nM 1) 34), (34, o_goto 11), (37, o_vret)]
theorem ok7_0 : ∀ q ∈ t7_0, p_Z 7 q := List.forall_mem_cons.mpr ⟨⟨s_aload_n d7_0 rfl, tl_aload _ _⟩, List.forall_mem_cons.mpr ⟨⟨f_getR_0_3 d7_1 wd_126, tl_getR _ _ _⟩, List.forall_mem_cons.mpr ⟨⟨s_iload_n d7_4 rfl, tl_iload _ _⟩, List.forall_mem_cons.mpr ⟨⟨s_iconst d7_5 rfl, tl_push _ _⟩, List.forall_mem_cons.mpr ⟨⟨s_iadd d7_6, tl_iadd _⟩, List.forall_mem_cons.mpr ⟨⟨s_iald d7_7, tl_iald _⟩, List.forall_mem_cons.mpr ⟨⟨s_iconst d7_8 rfl, tl_push _ _⟩, List.forall_mem_cons.mpr ⟨⟨s_isub d7_9, tl_isub _⟩, List.forall_mem_cons.mpr ⟨⟨s_istore_n d7_10 rfl st1_7_3, tl_istore _ _⟩, List.forall_mem_cons.mpr ⟨⟨s_iload_n d7_11 rfl, tl_iload _ _⟩, List.forall_mem_cons.mpr ⟨⟨s_aload_n d7_12 rfl, tl_aload _ _⟩, List.forall_mem_cons.mpr ⟨⟨f_getR_0_3 d7_13 wd_126, tl_getR _ _ _⟩, List.forall_mem_cons.mpr ⟨⟨s_iload_n d7_16 rfl, tl_iload _ _⟩, List.forall_mem_cons.mpr ⟨⟨s_iald d7_17, tl_iald _⟩, List.forall_mem_cons.mpr ⟨⟨s_iclt d7_18 rfl, tl_iclt _ _⟩, List.forall_mem_cons.mpr ⟨⟨s_aload_n d7_21 rfl, tl_aload _ _⟩, List.forall_mem_cons.mpr ⟨⟨s_aload_n d7_22 rfl, tl_aload _ _⟩, List.forall_mem_cons.mpr ⟨⟨f_getR_0_2 d7_23 wd_124, tl_getR _ _ _⟩, List.forall_mem_cons.mpr ⟨⟨s_iload_n d7_26 rfl, tl_iload _ _⟩, List.forall_mem_cons.mpr ⟨⟨s_iald d7_27, tl_iald _⟩, List.forall_mem_cons.mpr ⟨⟨q_invV_4 d7_28 wd_153, tl_invV _ _ _ _⟩, List.forall_mem_cons.mpr ⟨⟨s_iinc d7_31 rfl st1_7_3, tl_iinc _ _ _⟩, List.forall_mem_cons.mpr ⟨⟨s_goto d7_34 rfl, tl_goto _⟩, List.forall_mem_cons.mpr ⟨⟨s_vret d7_37 rfl, tl_vret⟩, fun _ h => absurd h List.not_mem_nil⟩⟩⟩⟩⟩⟩⟩⟩⟩⟩⟩⟩⟩⟩⟩⟩⟩⟩⟩⟩⟩⟩⟩⟩
def t7 : List (Nat × pO) := t7_0
theorem ok7 : ∀ q ∈ t7, p_Z 7 q := ok7_0
theorem d8_0 : decode (pB 8) 0 = .ok (.aload_n 0, 1) := by decide +kernel
theorem d8_1 : decode (pB 8) 1 = .ok (.getfield 22, 3) := by decide +kernel
theorem d8_4 : decode (pB 8) 4 = .ok (.iload_n 1, 1) := by decide +kernel
theorem d8_5 : decode (pB 8) 5 = .ok (.iconst 1, 1) := by decide +kernel
theorem d8_6 : decode (pB 8) 6 = .ok (.iadd, 1) := by decide +kernel
theorem d8_7 : decode (pB 8) 7 = .ok (.iaload, 1) := by decide +kernel
theorem d8_8 : decode (pB 8) 8 = .ok (.aload_n 0, 1) := by decide +kernel
theorem d8_9 : decode (pB 8) 9 = .ok (.getfield 22, 3) := by decide +kernel
theorem d8_12 : decode (pB 8) 12 = .ok (.iload_n 1, 1) := by decide +kernel
theorem d8_13 : decode (pB 8) 13 = .ok (.iaload, 1) := by decide +kernel
theorem d8_14 : decode (pB 8) 14 = .ok (.isub, 1) := by decide +kernel
theorem d8_15 : decode (pB 8) 15 = .ok (.ireturn, 1) := by decide +kernel
/-- RX0.heightOf -/
def t8_0 : List (Nat × pO) := [(0, o_aload 0 1), (1, o_getR 0 3 4), (4, o_iload 1 5), (5, o_push (.int (nI 1)) 6), (6, o_iadd 7), (7, o_iald 8), (8, o_aload 0 9), (9, o_getR 0 3 12), (12, o_iload 1 13), (13, o_iald 14), (14, o_isub 15), (15, o_iret)]
theorem ok8_0 : ∀ q ∈ t8_0, p_Z 8 q := List.forall_mem_cons.mpr ⟨⟨s_aload_n d8_0 rfl, tl_aload _ _⟩, List.forall_mem_cons.mpr ⟨⟨f_getR_0_3 d8_1 wd_126, tl_getR _ _ _⟩, List.forall_mem_cons.mpr ⟨⟨s_iload_n d8_4 rfl, tl_iload _ _⟩, List.forall_mem_cons.mpr ⟨⟨s_iconst d8_5 rfl, tl_push _ _⟩, List.forall_mem_cons.mpr ⟨⟨s_iadd d8_6, tl_iadd _⟩, List.forall_mem_cons.mpr ⟨⟨s_iald d8_7, tl_iald _⟩, List.forall_mem_cons.mpr ⟨⟨s_aload_n d8_8 rfl, tl_aload _ _⟩, List.forall_mem_cons.mpr ⟨⟨f_getR_0_3 d8_9 wd_126, tl_getR _ _ _⟩, List.forall_mem_cons.mpr ⟨⟨s_iload_n d8_12 rfl, tl_iload _ _⟩, List.forall_mem_cons.mpr ⟨⟨s_iald d8_13, tl_iald _⟩, List.forall_mem_cons.mpr ⟨⟨s_isub d8_14, tl_isub _⟩, List.forall_mem_cons.mpr ⟨⟨s_iret d8_15 rfl, tl_iret⟩, fun _ h => absurd h List.not_mem_nil⟩⟩⟩⟩⟩⟩⟩⟩⟩⟩⟩⟩
def t8 : List (Nat × pO) := t8_0
theorem ok8 : ∀ q ∈ t8, p_Z 8 q := ok8_0
theorem d9_0 : decode (pB 9) 0 = .ok (.aload_n 0, 1) := by decide +kernel
theorem d9_1 : decode (pB 9) 1 = .ok (.getfield 18, 3) := by decide +kernel
theorem d9_4 : decode (pB 9) 4 = .ok (.aload_n 0, 1) := by decide +kernel
theorem d9_5 : decode (pB 9) 5 = .ok (.getfield 22, 3) := by decide +kernel
theorem d9_8 : decode (pB 9) 8 = .ok (.iload_n 1, 1) := by decide +kernel
theorem d9_9 : decode (pB 9) 9 = .ok (.iconst 1, 1) := by decide +kernel
theorem d9_10 : decode (pB 9) 10 = .ok (.iadd, 1) := by decide +kernel
theorem d9_11 : decode (pB 9) 11 = .ok (.iaload, 1) := by decide +kernel
theorem d9_12 : decode (pB 9) 12 = .ok (.iconst 1, 1) := by decide +kernel
theorem d9_13 : decode (pB 9) 13 = .ok (.isub, 1) := by decide +kernel
theorem d9_14 : decode (pB 9) 14 = .ok (.iaload, 1) := by decide +kernel
theorem d9_15 : decode (pB 9) 15 = .ok (.ireturn, 1) := by decide +kernel
/-- RX0.topOf -/
def t9_0 : List (Nat × pO) := [(0, o_aload 0 1), (1, o_getR 0 2 4), (4, o_aload 0 5), (5, o_getR 0 3 8), (8, o_iload 1 9), (9, o_push (.int (nI 1)) 10), (10, o_iadd 11), (11, o_iald 12), (12, o_push (.int (nI 1)) 13), (13, o_isub 14), (14, o_iald 15), (15, o_iret)]
theorem ok9_0 : ∀ q ∈ t9_0, p_Z 9 q := List.forall_mem_cons.mpr ⟨⟨s_aload_n d9_0 rfl, tl_aload _ _⟩, List.forall_mem_cons.mpr ⟨⟨f_getR_0_2 d9_1 wd_124, tl_getR _ _ _⟩, List.forall_mem_cons.mpr ⟨⟨s_aload_n d9_4 rfl, tl_aload _ _⟩, List.forall_mem_cons.mpr ⟨⟨f_getR_0_3 d9_5 wd_126, tl_getR _ _ _⟩, List.forall_mem_cons.mpr ⟨⟨s_iload_n d9_8 rfl, tl_iload _ _⟩, List.forall_mem_cons.mpr ⟨⟨s_iconst d9_9 rfl, tl_push _ _⟩, List.forall_mem_cons.mpr ⟨⟨s_iadd d9_10, tl_iadd _⟩, List.forall_mem_cons.mpr ⟨⟨s_iald d9_11, tl_iald _⟩, List.forall_mem_cons.mpr ⟨⟨s_iconst d9_12 rfl, tl_push _ _⟩, List.forall_mem_cons.mpr ⟨⟨s_isub d9_13, tl_isub _⟩, List.forall_mem_cons.mpr ⟨⟨s_iald d9_14, tl_iald _⟩, List.forall_mem_cons.mpr ⟨⟨s_iret d9_15 rfl, tl_iret⟩, fun _ h => absurd h List.not_mem_nil⟩⟩⟩⟩⟩⟩⟩⟩⟩⟩⟩⟩
def t9 : List (Nat × pO) := t9_0
theorem ok9 : ∀ q ∈ t9, p_Z 9 q := ok9_0
theorem d10_0 : decode (pB 10) 0 = .ok (.iconst 0, 1) := by decide +kernel
theorem d10_1 : decode (pB 10) 1 = .ok (.istore_n 1, 1) := by decide +kernel
theorem d10_2 : decode (pB 10) 2 = .ok (.iconst 0, 1) := by decide +kernel
theorem d10_3 : decode (pB 10) 3 = .ok (.istore_n 2, 1) := by decide +kernel
theorem d10_4 : decode (pB 10) 4 = .ok (.iload_n 2, 1) := by decide +kernel
theorem d10_5 : decode (pB 10) 5 = .ok (.aload_n 0, 1) := by decide +kernel
theorem d10_6 : decode (pB 10) 6 = .ok (.getfield 9, 3) := by decide +kernel
theorem d10_9 : decode (pB 10) 9 = .ok (.if_icmp .ge 19, 3) := by decide +kernel
theorem d10_12 : decode (pB 10) 12 = .ok (.iload_n 1, 1) := by decide +kernel
theorem d10_13 : decode (pB 10) 13 = .ok (.aload_n 0, 1) := by decide +kernel
theorem d10_14 : decode (pB 10) 14 = .ok (.iload_n 2, 1) := by decide +kernel
theorem d10_15 : decode (pB 10) 15 = .ok (.invokevirtual 54, 3) := by decide +kernel
theorem d10_18 : decode (pB 10) 18 = .ok (.invokestatic 41, 3) := by decide +kernel
theorem d10_21 : decode (pB 10) 21 = .ok (.istore_n 1, 1) := by decide +kernel
theorem d10_22 : decode (pB 10) 22 = .ok (.iinc 2 1, 3) := by decide +kernel
theorem d10_25 : decode (pB 10) 25 = .ok (.goto (-21), 3) := by decide +kernel
theorem d10_28 : decode (pB 10) 28 = .ok (.iload_n 1, 1) := by decide +kernel
theorem d10_29 : decode (pB 10) 29 = .ok (.ireturn, 1) := by decide +kernel
theorem st1_10_1 : p_st1 10 1 = true := by decide +kernel
theorem st1_10_2 : p_st1 10 2 = true := by decide +kernel
/-- RX0.highest -/
def t10_0 : List (Nat × pO) := [(0, o_push (.int (nI 0)) 1), (1, o_istore 1 2), (2, o_push (.int (nI 0)) 3), (3, o_istore 2 4), (4, o_iload 2 5), (5, o_aload 0 6), (6, o_getI 0 0 9), (9, o_icge 28 12), (12, o_iload 1 13), (13, o_aload 0 14), (14, o_iload 2 15), (15, o_invV 0 8 1 18), (18, o_max 21), (21, o_istore 1 22), (22, o_iinc 2 (nI 1) 25), (25, o_goto 4), (28, o_iload 1 29), (29, o_iret)]
theorem ok10_0 : ∀ q ∈ t10_0, p_Z 10 q := List.forall_mem_cons.mpr ⟨⟨s_iconst d10_0 rfl, tl_push _ _⟩, List.forall_mem_cons.mpr ⟨⟨s_istore_n d10_1 rfl st1_10_1, tl_istore _ _⟩, List.forall_mem_cons.mpr ⟨⟨s_iconst d10_2 rfl, tl_push _ _⟩, List.forall_mem_cons.mpr ⟨⟨s_istore_n d10_3 rfl st1_10_2, tl_istore _ _⟩, List.forall_mem_cons.mpr ⟨⟨s_iload_n d10_4 rfl, tl_iload _ _⟩, List.forall_mem_cons.mpr ⟨⟨s_aload_n d10_5 rfl, tl_aload _ _⟩, List.forall_mem_cons.mpr ⟨⟨f_getI_0_0 d10_6 wd_120, tl_getI _ _ _⟩, List.forall_mem_cons.mpr ⟨⟨s_icge d10_9 rfl, tl_icge _ _⟩, List.forall_mem_cons.mpr ⟨⟨s_iload_n d10_12 rfl, tl_iload _ _⟩, List.forall_mem_cons.mpr ⟨⟨s_aload_n d10_13 rfl, tl_aload _ _⟩, List.forall_mem_cons.mpr ⟨⟨s_iload_n d10_14 rfl, tl_iload _ _⟩, List.forall_mem_cons.mpr ⟨⟨q_invV_8 d10_15 wd_222, tl_invV _ _ _ _⟩, List.forall_mem_cons.mpr ⟨⟨s_max d10_18 wd_256 wd_250 wd_23 wd_251, tl_max _⟩, List.forall_mem_cons.mpr ⟨⟨s_istore_n d10_21 rfl st1_10_1, tl_istore _ _⟩, List.forall_mem_cons.mpr ⟨⟨s_iinc d10_22 rfl st1_10_2, tl_iinc _ _ _⟩, List.forall_mem_cons.mpr ⟨⟨s_goto d10_25 rfl, tl_goto _⟩, List.forall_mem_cons.mpr ⟨⟨s_iload_n d10_28 rfl, tl_iload _ _⟩, List.forall_mem_cons.mpr ⟨⟨s_iret d10_29 rfl, tl_iret⟩, fun _ h => absurd h List.not_mem_nil⟩⟩⟩⟩⟩⟩⟩⟩⟩⟩⟩⟩⟩⟩⟩⟩⟩⟩
def t10 : List (Nat × pO) := t10_0
theorem ok10 : ∀ q ∈ t10, p_Z 10 q := ok10_0
theorem d11_0 : decode (pB 11) 0 = .ok (.aload_n 0, 1) := by decide +kernel
theorem d11_1 : decode (pB 11) 1 = .ok (.getfield 28, 3) := by decide +kernel
theorem d11_4 : decode (pB 11) 4 = .ok (.iload_n 1, 1) := by decide +kernel
theorem d11_5 : decode (pB 11) 5 = .ok (.iaload, 1) := by decide +kernel
theorem d11_6 : decode (pB 11) 6 = .ok (.aload_n 0, 1) := by decide +kernel
theorem d11_7 : decode (pB 11) 7 = .ok (.getfield 22, 3) := by decide +kernel
theorem d11_10 : decode (pB 11) 10 = .ok (.aload_n 0, 1) := by decide +kernel
theorem d11_11 : decode (pB 11) 11 = .ok (.getfield 25, 3) := by decide +kernel
theorem d11_14 : decode (pB 11) 14 = .ok (.iload_n 1, 1) := by decide +kernel
theorem d11_15 : decode (pB 11) 15 = .ok (.iaload, 1) := by decide +kernel
theorem d11_16 : decode (pB 11) 16 = .ok (.iaload, 1) := by decide +kernel
theorem d11_17 : decode (pB 11) 17 = .ok (.isub, 1) := by decide +kernel
theorem d11_18 : decode (pB 11) 18 = .ok (.ireturn, 1) := by decide +kernel
/-- RX0.rankOf -/
def t11_0 : List (Nat × pO) := [(0, o_aload 0 1), (1, o_getR 0 5 4), (4, o_iload 1 5), (5, o_iald 6), (6, o_aload 0 7), (7, o_getR 0 3 10), (10, o_aload 0 11), (11, o_getR 0 4 14), (14, o_iload 1 15), (15, o_iald 16), (16, o_iald 17), (17, o_isub 18), (18, o_iret)]
theorem ok11_0 : ∀ q ∈ t11_0, p_Z 11 q := List.forall_mem_cons.mpr ⟨⟨s_aload_n d11_0 rfl, tl_aload _ _⟩, List.forall_mem_cons.mpr ⟨⟨f_getR_0_5 d11_1 wd_130, tl_getR _ _ _⟩, List.forall_mem_cons.mpr ⟨⟨s_iload_n d11_4 rfl, tl_iload _ _⟩, List.forall_mem_cons.mpr ⟨⟨s_iald d11_5, tl_iald _⟩, List.forall_mem_cons.mpr ⟨⟨s_aload_n d11_6 rfl, tl_aload _ _⟩, List.forall_mem_cons.mpr ⟨⟨f_getR_0_3 d11_7 wd_126, tl_getR _ _ _⟩, List.forall_mem_cons.mpr ⟨⟨s_aload_n d11_10 rfl, tl_aload _ _⟩, List.forall_mem_cons.mpr ⟨⟨f_getR_0_4 d11_11 wd_128, tl_getR _ _ _⟩, List.forall_mem_cons.mpr ⟨⟨s_iload_n d11_14 rfl, tl_iload _ _⟩, List.forall_mem_cons.mpr ⟨⟨s_iald d11_15, tl_iald _⟩, List.forall_mem_cons.mpr ⟨⟨s_iald d11_16, tl_iald _⟩, List.forall_mem_cons.mpr ⟨⟨s_isub d11_17, tl_isub _⟩, List.forall_mem_cons.mpr ⟨⟨s_iret d11_18 rfl, tl_iret⟩, fun _ h => absurd h List.not_mem_nil⟩⟩⟩⟩⟩⟩⟩⟩⟩⟩⟩⟩⟩
def t11 : List (Nat × pO) := t11_0
theorem ok11 : ∀ q ∈ t11, p_Z 11 q := ok11_0
theorem d12_0 : decode (pB 12) 0 = .ok (.aload_n 0, 1) := by decide +kernel
theorem d12_1 : decode (pB 12) 1 = .ok (.iload_n 1, 1) := by decide +kernel
theorem d12_2 : decode (pB 12) 2 = .ok (.invokevirtual 58, 3) := by decide +kernel
theorem d12_5 : decode (pB 12) 5 = .ok (.ifCond .ne 8, 3) := by decide +kernel
theorem d12_8 : decode (pB 12) 8 = .ok (.bipush (-6), 2) := by decide +kernel
theorem d12_10 : decode (pB 12) 10 = .ok (.goto 16, 3) := by decide +kernel
theorem d12_13 : decode (pB 12) 13 = .ok (.aload_n 0, 1) := by decide +kernel
theorem d12_14 : decode (pB 12) 14 = .ok (.getfield 18, 3) := by decide +kernel
theorem d12_17 : decode (pB 12) 17 = .ok (.aload_n 0, 1) := by decide +kernel
theorem d12_18 : decode (pB 12) 18 = .ok (.getfield 28, 3) := by decide +kernel
theorem d12_21 : decode (pB 12) 21 = .ok (.iload_n 1, 1) := by decide +kernel
theorem d12_22 : decode (pB 12) 22 = .ok (.iaload, 1) := by decide +kernel
theorem d12_23 : decode (pB 12) 23 = .ok (.iconst 1, 1) := by decide +kernel
theorem d12_24 : decode (pB 12) 24 = .ok (.isub, 1) := by decide +kernel
theorem d12_25 : decode (pB 12) 25 = .ok (.iaload, 1) := by decide +kernel
theorem d12_26 : decode (pB 12) 26 = .ok (.ireturn, 1) := by decide +kernel
/-- RX0.seatBelow -/
def t12_0 : List (Nat × pO) := [(0, o_aload 0 1), (1, o_iload 1 2), (2, o_invV 0 11 1 5), (5, o_ifne 13 8), (8, o_push (.int (nM 6)) 10), (10, o_goto 26), (13, o_aload 0 14), (14, o_getR 0 2 17), (17, o_aload 0 18), (18, o_getR 0 5 21), (21, o_iload 1 22), (22, o_iald 23), (23, o_push (.int (nI 1)) 24), (24, o_isub 25), (25, o_iald 26), (26, o_iret)]
theorem ok12_0 : ∀ q ∈ t12_0, p_Z 12 q := List.forall_mem_cons.mpr ⟨⟨s_aload_n d12_0 rfl, tl_aload _ _⟩, List.forall_mem_cons.mpr ⟨⟨s_iload_n d12_1 rfl, tl_iload _ _⟩, List.forall_mem_cons.mpr ⟨⟨q_invV_11 d12_2 wd_218, tl_invV _ _ _ _⟩, List.forall_mem_cons.mpr ⟨⟨s_ifne d12_5 rfl, tl_ifne _ _⟩, List.forall_mem_cons.mpr ⟨⟨s_bipush d12_8 rfl, tl_push _ _⟩, List.forall_mem_cons.mpr ⟨⟨s_goto d12_10 rfl, tl_goto _⟩, List.forall_mem_cons.mpr ⟨⟨s_aload_n d12_13 rfl, tl_aload _ _⟩, List.forall_mem_cons.mpr ⟨⟨f_getR_0_2 d12_14 wd_124, tl_getR _ _ _⟩, List.forall_mem_cons.mpr ⟨⟨s_aload_n d12_17 rfl, tl_aload _ _⟩, List.forall_mem_cons.mpr ⟨⟨f_getR_0_5 d12_18 wd_130, tl_getR _ _ _⟩, List.forall_mem_cons.mpr ⟨⟨s_iload_n d12_21 rfl, tl_iload _ _⟩, List.forall_mem_cons.mpr ⟨⟨s_iald d12_22, tl_iald _⟩, List.forall_mem_cons.mpr ⟨⟨s_iconst d12_23 rfl, tl_push _ _⟩, List.forall_mem_cons.mpr ⟨⟨s_isub d12_24, tl_isub _⟩, List.forall_mem_cons.mpr ⟨⟨s_iald d12_25, tl_iald _⟩, List.forall_mem_cons.mpr ⟨⟨s_iret d12_26 rfl, tl_iret⟩, fun _ h => absurd h List.not_mem_nil⟩⟩⟩⟩⟩⟩⟩⟩⟩⟩⟩⟩⟩⟩⟩⟩
def t12 : List (Nat × pO) := t12_0
theorem ok12 : ∀ q ∈ t12, p_Z 12 q := ok12_0
theorem d13_0 : decode (pB 13) 0 = .ok (.aload_n 0, 1) := by decide +kernel
theorem d13_1 : decode (pB 13) 1 = .ok (.iload_n 1, 1) := by decide +kernel
theorem d13_2 : decode (pB 13) 2 = .ok (.invokevirtual 58, 3) := by decide +kernel
theorem d13_5 : decode (pB 13) 5 = .ok (.aload_n 0, 1) := by decide +kernel
theorem d13_6 : decode (pB 13) 6 = .ok (.aload_n 0, 1) := by decide +kernel
theorem d13_7 : decode (pB 13) 7 = .ok (.getfield 25, 3) := by decide +kernel
theorem d13_10 : decode (pB 13) 10 = .ok (.iload_n 1, 1) := by decide +kernel
theorem d13_11 : decode (pB 13) 11 = .ok (.iaload, 1) := by decide +kernel
theorem d13_12 : decode (pB 13) 12 = .ok (.invokevirtual 54, 3) := by decide +kernel
theorem d13_15 : decode (pB 13) 15 = .ok (.iconst 1, 1) := by decide +kernel
theorem d13_16 : decode (pB 13) 16 = .ok (.isub, 1) := by decide +kernel
theorem d13_17 : decode (pB 13) 17 = .ok (.if_icmp .ne 8, 3) := by decide +kernel
theorem d13_20 : decode (pB 13) 20 = .ok (.bipush (-6), 2) := by decide +kernel
theorem d13_22 : decode (pB 13) 22 = .ok (.goto 16, 3) := by decide +kernel
theorem d13_25 : decode (pB 13) 25 = .ok (.aload_n 0, 1) := by decide +kernel
theorem d13_26 : decode (pB 13) 26 = .ok (.getfield 18, 3) := by decide +kernel
theorem d13_29 : decode (pB 13) 29 = .ok (.aload_n 0, 1) := by decide +kernel
theorem d13_30 : decode (pB 13) 30 = .ok (.getfield 28, 3) := by decide +kernel
theorem d13_33 : decode (pB 13) 33 = .ok (.iload_n 1, 1) := by decide +kernel
theorem d13_34 : decode (pB 13) 34 = .ok (.iaload, 1) := by decide +kernel
theorem d13_35 : decode (pB 13) 35 = .ok (.iconst 1, 1) := by decide +kernel
theorem d13_36 : decode (pB 13) 36 = .ok (.iadd, 1) := by decide +kernel
theorem d13_37 : decode (pB 13) 37 = .ok (.iaload, 1) := by decide +kernel
theorem d13_38 : decode (pB 13) 38 = .ok (.ireturn, 1) := by decide +kernel
/-- RX0.seatAbove -/
def t13_0 : List (Nat × pO) := [(0, o_aload 0 1), (1, o_iload 1 2), (2, o_invV 0 11 1 5), (5, o_aload 0 6), (6, o_aload 0 7), (7, o_getR 0 4 10), (10, o_iload 1 11), (11, o_iald 12), (12, o_invV 0 8 1 15), (15, o_push (.int (nI 1)) 16), (16, o_isub 17), (17, o_icne 25 20), (20, o_push (.int (nM 6)) 22), (22, o_goto 38), (25, o_aload 0 26), (26, o_getR 0 2 29), (29, o_aload 0 30), (30, o_getR 0 5 33), (33, o_iload 1 34), (34, o_iald 35), (35, o_push (.int (nI 1)) 36), (36, o_iadd 37), (37, o_iald 38), (38, o_iret)]
theorem ok13_0 : ∀ q ∈ t13_0, p_Z 13 q := List.forall_mem_cons.mpr ⟨⟨s_aload_n d13_0 rfl, tl_aload _ _⟩, List.forall_mem_cons.mpr ⟨⟨s_iload_n d13_1 rfl, tl_iload _ _⟩, List.forall_mem_cons.mpr ⟨⟨q_invV_11 d13_2 wd_218, tl_invV _ _ _ _⟩, List.forall_mem_cons.mpr ⟨⟨s_aload_n d13_5 rfl, tl_aload _ _⟩, List.forall_mem_cons.mpr ⟨⟨s_aload_n d13_6 rfl, tl_aload _ _⟩, List.forall_mem_cons.mpr ⟨⟨f_getR_0_4 d13_7 wd_128, tl_getR _ _ _⟩, List.forall_mem_cons.mpr ⟨⟨s_iload_n d13_10 rfl, tl_iload _ _⟩, List.forall_mem_cons.mpr ⟨⟨s_iald d13_11, tl_iald _⟩, List.forall_mem_cons.mpr ⟨⟨q_invV_8 d13_12 wd_222, tl_invV _ _ _ _⟩, List.forall_mem_cons.mpr ⟨⟨s_iconst d13_15 rfl, tl_push _ _⟩, List.forall_mem_cons.mpr ⟨⟨s_isub d13_16, tl_isub _⟩, List.forall_mem_cons.mpr ⟨⟨s_icne d13_17 rfl, tl_icne _ _⟩, List.forall_mem_cons.mpr ⟨⟨s_bipush d13_20 rfl, tl_push _ _⟩, List.forall_mem_cons.mpr ⟨⟨s_goto d13_22 rfl, tl_goto _⟩, List.forall_mem_cons.mpr ⟨⟨s_aload_n d13_25 rfl, tl_aload _ _⟩, List.forall_mem_cons.mpr ⟨⟨f_getR_0_2 d13_26 wd_124, tl_getR _ _ _⟩, List.forall_mem_cons.mpr ⟨⟨s_aload_n d13_29 rfl, tl_aload _ _⟩, List.forall_mem_cons.mpr ⟨⟨f_getR_0_5 d13_30 wd_130, tl_getR _ _ _⟩, List.forall_mem_cons.mpr ⟨⟨s_iload_n d13_33 rfl, tl_iload _ _⟩, List.forall_mem_cons.mpr ⟨⟨s_iald d13_34, tl_iald _⟩, List.forall_mem_cons.mpr ⟨⟨s_iconst d13_35 rfl, tl_push _ _⟩, List.forall_mem_cons.mpr ⟨⟨s_iadd d13_36, tl_iadd _⟩, List.forall_mem_cons.mpr ⟨⟨s_iald d13_37, tl_iald _⟩, List.forall_mem_cons.mpr ⟨⟨s_iret d13_38 rfl, tl_iret⟩, fun _ h => absurd h List.not_mem_nil⟩⟩⟩⟩⟩⟩⟩⟩⟩⟩⟩⟩⟩⟩⟩⟩⟩⟩⟩⟩⟩⟩⟩⟩
def t13 : List (Nat × pO) := t13_0
theorem ok13 : ∀ q ∈ t13, p_Z 13 q := ok13_0
theorem d14_0 : decode (pB 14) 0 = .ok (.aload_n 0, 1) := by decide +kernel
theorem d14_1 : decode (pB 14) 1 = .ok (.invokespecial 3, 3) := by decide +kernel
theorem d14_4 : decode (pB 14) 4 = .ok (.aload_n 0, 1) := by decide +kernel
theorem d14_5 : decode (pB 14) 5 = .ok (.new 9, 3) := by decide +kernel
theorem d14_8 : decode (pB 14) 8 = .ok (.dup, 1) := by decide +kernel
theorem d14_9 : decode (pB 14) 9 = .ok (.invokespecial 11, 3) := by decide +kernel
theorem d14_12 : decode (pB 14) 12 = .ok (.putfield 12, 3) := by decide +kernel
theorem d14_15 : decode (pB 14) 15 = .ok (.aload_n 0, 1) := by decide +kernel
theorem d14_16 : decode (pB 14) 16 = .ok (.iconst 0, 1) := by decide +kernel
theorem d14_17 : decode (pB 14) 17 = .ok (.putfield 18, 3) := by decide +kernel
theorem d14_20 : decode (pB 14) 20 = .ok (.aload_n 0, 1) := by decide +kernel
theorem d14_21 : decode (pB 14) 21 = .ok (.iconst 0, 1) := by decide +kernel
theorem d14_22 : decode (pB 14) 22 = .ok (.putfield 22, 3) := by decide +kernel
theorem d14_25 : decode (pB 14) 25 = .ok (.aload_n 0, 1) := by decide +kernel
theorem d14_26 : decode (pB 14) 26 = .ok (.iconst 0, 1) := by decide +kernel
theorem d14_27 : decode (pB 14) 27 = .ok (.putfield 25, 3) := by decide +kernel
theorem d14_30 : decode (pB 14) 30 = .ok (.aload_n 0, 1) := by decide +kernel
theorem d14_31 : decode (pB 14) 31 = .ok (.iconst 0, 1) := by decide +kernel
theorem d14_32 : decode (pB 14) 32 = .ok (.putfield 28, 3) := by decide +kernel
theorem d14_35 : decode (pB 14) 35 = .ok (.aload_n 0, 1) := by decide +kernel
theorem d14_36 : decode (pB 14) 36 = .ok (.iconst 0, 1) := by decide +kernel
theorem d14_37 : decode (pB 14) 37 = .ok (.putfield 31, 3) := by decide +kernel
theorem d14_40 : decode (pB 14) 40 = .ok (.return_, 1) := by decide +kernel
/-- RX1.<init> -/
def t14_0 : List (Nat × pO) := [(0, o_aload 0 1), (1, o_oinit 4), (4, o_aload 0 5), (5, o_new 2 [.null, .int 0] 8), (8, o_dupr 9), (9, o_invI 15 0 12), (12, o_putR 1 0 15), (15, o_aload 0 16), (16, o_push (.int (nI 0)) 17), (17, o_putI 1 1 20), (20, o_aload 0 21), (21, o_push (.int (nI 0)) 22), (22, o_putI 1 2 25), (25, o_aload 0 26), (26, o_push (.int (nI 0)) 27), (27, o_putI 1 3 30), (30, o_aload 0 31), (31, o_push (.int (nI 0)) 32), (32, o_putI 1 4 35), (35, o_aload 0 36), (36, o_push (.int (nI 0)) 37), (37, o_putI 1 5 40), (40, o_vret)]
theorem ok14_0 : ∀ q ∈ t14_0, p_Z 14 q := List.forall_mem_cons.mpr ⟨⟨s_aload_n d14_0 rfl, tl_aload _ _⟩, List.forall_mem_cons.mpr ⟨⟨s_oinit d14_1 wd_79 wd_31 wd_32, tl_oinit _⟩, List.forall_mem_cons.mpr ⟨⟨s_aload_n d14_4 rfl, tl_aload _ _⟩, List.forall_mem_cons.mpr ⟨⟨s_new d14_5 rfl inp2 tyX2_ok rfl ⟨rfl, by simp⟩ wd_80 wd_81 wd_20, tl_new _ _ _⟩, List.forall_mem_cons.mpr ⟨⟨s_dupr d14_8, tl_dupr _⟩, List.forall_mem_cons.mpr ⟨⟨q_invN_15 (host := "FoldedBench") d14_9 (by decide +kernel), tl_invI _ _ _⟩, List.forall_mem_cons.mpr ⟨⟨f_putR_1_0 d14_12 wd_95, tl_putR _ _ _⟩, List.forall_mem_cons.mpr ⟨⟨s_aload_n d14_15 rfl, tl_aload _ _⟩, List.forall_mem_cons.mpr ⟨⟨s_iconst d14_16 rfl, tl_push _ _⟩, List.forall_mem_cons.mpr ⟨⟨f_putI_1_1 d14_17 wd_97, tl_putI _ _ _⟩, List.forall_mem_cons.mpr ⟨⟨s_aload_n d14_20 rfl, tl_aload _ _⟩, List.forall_mem_cons.mpr ⟨⟨s_iconst d14_21 rfl, tl_push _ _⟩, List.forall_mem_cons.mpr ⟨⟨f_putI_1_2 d14_22 wd_98, tl_putI _ _ _⟩, List.forall_mem_cons.mpr ⟨⟨s_aload_n d14_25 rfl, tl_aload _ _⟩, List.forall_mem_cons.mpr ⟨⟨s_iconst d14_26 rfl, tl_push _ _⟩, List.forall_mem_cons.mpr ⟨⟨f_putI_1_3 d14_27 wd_99, tl_putI _ _ _⟩, List.forall_mem_cons.mpr ⟨⟨s_aload_n d14_30 rfl, tl_aload _ _⟩, List.forall_mem_cons.mpr ⟨⟨s_iconst d14_31 rfl, tl_push _ _⟩, List.forall_mem_cons.mpr ⟨⟨f_putI_1_4 d14_32 wd_100, tl_putI _ _ _⟩, List.forall_mem_cons.mpr ⟨⟨s_aload_n d14_35 rfl, tl_aload _ _⟩, List.forall_mem_cons.mpr ⟨⟨s_iconst d14_36 rfl, tl_push _ _⟩, List.forall_mem_cons.mpr ⟨⟨f_putI_1_5 d14_37 wd_101, tl_putI _ _ _⟩, List.forall_mem_cons.mpr ⟨⟨s_vret d14_40 rfl, tl_vret⟩, fun _ h => absurd h List.not_mem_nil⟩⟩⟩⟩⟩⟩⟩⟩⟩⟩⟩⟩⟩⟩⟩⟩⟩⟩⟩⟩⟩⟩⟩
def t14 : List (Nat × pO) := t14_0
theorem ok14 : ∀ q ∈ t14, p_Z 14 q := ok14_0
theorem d15_0 : decode (pB 15) 0 = .ok (.aload_n 0, 1) := by decide +kernel
theorem d15_1 : decode (pB 15) 1 = .ok (.invokespecial 3, 3) := by decide +kernel
theorem d15_4 : decode (pB 15) 4 = .ok (.aload_n 0, 1) := by decide +kernel
theorem d15_5 : decode (pB 15) 5 = .ok (.bipush 80, 2) := by decide +kernel
theorem d15_7 : decode (pB 15) 7 = .ok (.newarray .int, 2) := by decide +kernel
theorem d15_9 : decode (pB 15) 9 = .ok (.putfield 9, 3) := by decide +kernel
theorem d15_12 : decode (pB 15) 12 = .ok (.aload_n 0, 1) := by decide +kernel
theorem d15_13 : decode (pB 15) 13 = .ok (.iconst 0, 1) := by decide +kernel
theorem d15_14 : decode (pB 15) 14 = .ok (.putfield 15, 3) := by decide +kernel
theorem d15_17 : decode (pB 15) 17 = .ok (.return_, 1) := by decide +kernel
/-- RX2.<init> -/
def t15_0 : List (Nat × pO) := [(0, o_aload 0 1), (1, o_oinit 4), (4, o_aload 0 5), (5, o_push (.int (nI 80)) 7), (7, o_newa 0 9), (9, o_putR 2 0 12), (12, o_aload 0 13), (13, o_push (.int (nI 0)) 14), (14, o_putI 2 1 17), (17, o_vret)]
theorem ok15_0 : ∀ q ∈ t15_0, p_Z 15 q := List.forall_mem_cons.mpr ⟨⟨s_aload_n d15_0 rfl, tl_aload _ _⟩, List.forall_mem_cons.mpr ⟨⟨s_oinit d15_1 wd_85 wd_31 wd_32, tl_oinit _⟩, List.forall_mem_cons.mpr ⟨⟨s_aload_n d15_4 rfl, tl_aload _ _⟩, List.forall_mem_cons.mpr ⟨⟨s_bipush d15_5 rfl, tl_push _ _⟩, List.forall_mem_cons.mpr ⟨⟨s_newai d15_7 wd_70, tl_newa _ _⟩, List.forall_mem_cons.mpr ⟨⟨f_putR_2_0 d15_9 wd_86, tl_putR _ _ _⟩, List.forall_mem_cons.mpr ⟨⟨s_aload_n d15_12 rfl, tl_aload _ _⟩, List.forall_mem_cons.mpr ⟨⟨s_iconst d15_13 rfl, tl_push _ _⟩, List.forall_mem_cons.mpr ⟨⟨f_putI_2_1 d15_14 wd_87, tl_putI _ _ _⟩, List.forall_mem_cons.mpr ⟨⟨s_vret d15_17 rfl, tl_vret⟩, fun _ h => absurd h List.not_mem_nil⟩⟩⟩⟩⟩⟩⟩⟩⟩⟩
def t15 : List (Nat × pO) := t15_0
theorem ok15 : ∀ q ∈ t15, p_Z 15 q := ok15_0
theorem d16_0 : decode (pB 16) 0 = .ok (.aload_n 0, 1) := by decide +kernel
theorem d16_1 : decode (pB 16) 1 = .ok (.invokespecial 3, 3) := by decide +kernel
theorem d16_4 : decode (pB 16) 4 = .ok (.aload_n 0, 1) := by decide +kernel
theorem d16_5 : decode (pB 16) 5 = .ok (.getstatic 9, 3) := by decide +kernel
theorem d16_8 : decode (pB 16) 8 = .ok (.arraylength, 1) := by decide +kernel
theorem d16_9 : decode (pB 16) 9 = .ok (.newarray .int, 2) := by decide +kernel
theorem d16_11 : decode (pB 16) 11 = .ok (.putfield 13, 3) := by decide +kernel
theorem d16_14 : decode (pB 16) 14 = .ok (.aload_n 0, 1) := by decide +kernel
theorem d16_15 : decode (pB 16) 15 = .ok (.bipush 16, 2) := by decide +kernel
theorem d16_17 : decode (pB 16) 17 = .ok (.newarray .int, 2) := by decide +kernel
theorem d16_19 : decode (pB 16) 19 = .ok (.putfield 18, 3) := by decide +kernel
theorem d16_22 : decode (pB 16) 22 = .ok (.aload_n 0, 1) := by decide +kernel
theorem d16_23 : decode (pB 16) 23 = .ok (.bipush 12, 2) := by decide +kernel
theorem d16_25 : decode (pB 16) 25 = .ok (.newarray .int, 2) := by decide +kernel
theorem d16_27 : decode (pB 16) 27 = .ok (.putfield 21, 3) := by decide +kernel
theorem d16_30 : decode (pB 16) 30 = .ok (.aload_n 0, 1) := by decide +kernel
theorem d16_31 : decode (pB 16) 31 = .ok (.bipush 12, 2) := by decide +kernel
theorem d16_33 : decode (pB 16) 33 = .ok (.newarray .int, 2) := by decide +kernel
theorem d16_35 : decode (pB 16) 35 = .ok (.putfield 24, 3) := by decide +kernel
theorem d16_38 : decode (pB 16) 38 = .ok (.aload_n 0, 1) := by decide +kernel
theorem d16_39 : decode (pB 16) 39 = .ok (.iconst 5, 1) := by decide +kernel
theorem d16_40 : decode (pB 16) 40 = .ok (.newarray .int, 2) := by decide +kernel
theorem d16_42 : decode (pB 16) 42 = .ok (.putfield 27, 3) := by decide +kernel
theorem d16_45 : decode (pB 16) 45 = .ok (.aload_n 0, 1) := by decide +kernel
theorem d16_46 : decode (pB 16) 46 = .ok (.iconst 0, 1) := by decide +kernel
theorem d16_47 : decode (pB 16) 47 = .ok (.putfield 30, 3) := by decide +kernel
theorem d16_50 : decode (pB 16) 50 = .ok (.aload_n 0, 1) := by decide +kernel
theorem d16_51 : decode (pB 16) 51 = .ok (.iconst 0, 1) := by decide +kernel
theorem d16_52 : decode (pB 16) 52 = .ok (.putfield 34, 3) := by decide +kernel
theorem d16_55 : decode (pB 16) 55 = .ok (.iconst 0, 1) := by decide +kernel
theorem d16_56 : decode (pB 16) 56 = .ok (.istore_n 1, 1) := by decide +kernel
theorem d16_57 : decode (pB 16) 57 = .ok (.iload_n 1, 1) := by decide +kernel
theorem d16_58 : decode (pB 16) 58 = .ok (.aload_n 0, 1) := by decide +kernel
theorem d16_59 : decode (pB 16) 59 = .ok (.getfield 13, 3) := by decide +kernel
theorem d16_62 : decode (pB 16) 62 = .ok (.arraylength, 1) := by decide +kernel
theorem d16_63 : decode (pB 16) 63 = .ok (.if_icmp .ge 20, 3) := by decide +kernel
theorem d16_66 : decode (pB 16) 66 = .ok (.aload_n 0, 1) := by decide +kernel
theorem d16_67 : decode (pB 16) 67 = .ok (.getfield 13, 3) := by decide +kernel
theorem d16_70 : decode (pB 16) 70 = .ok (.iload_n 1, 1) := by decide +kernel
theorem d16_71 : decode (pB 16) 71 = .ok (.getstatic 9, 3) := by decide +kernel
theorem d16_74 : decode (pB 16) 74 = .ok (.iload_n 1, 1) := by decide +kernel
theorem d16_75 : decode (pB 16) 75 = .ok (.iaload, 1) := by decide +kernel
theorem d16_76 : decode (pB 16) 76 = .ok (.iastore, 1) := by decide +kernel
theorem d16_77 : decode (pB 16) 77 = .ok (.iinc 1 1, 3) := by decide +kernel
theorem d16_80 : decode (pB 16) 80 = .ok (.goto (-23), 3) := by decide +kernel
theorem d16_83 : decode (pB 16) 83 = .ok (.iconst 0, 1) := by decide +kernel
theorem d16_84 : decode (pB 16) 84 = .ok (.istore_n 1, 1) := by decide +kernel
theorem d16_85 : decode (pB 16) 85 = .ok (.iload_n 1, 1) := by decide +kernel
theorem d16_86 : decode (pB 16) 86 = .ok (.aload_n 0, 1) := by decide +kernel
theorem d16_87 : decode (pB 16) 87 = .ok (.getfield 18, 3) := by decide +kernel
theorem d16_90 : decode (pB 16) 90 = .ok (.arraylength, 1) := by decide +kernel
theorem d16_91 : decode (pB 16) 91 = .ok (.if_icmp .ge 17, 3) := by decide +kernel
theorem d16_94 : decode (pB 16) 94 = .ok (.aload_n 0, 1) := by decide +kernel
theorem d16_95 : decode (pB 16) 95 = .ok (.getfield 18, 3) := by decide +kernel
theorem d16_98 : decode (pB 16) 98 = .ok (.iload_n 1, 1) := by decide +kernel
theorem d16_99 : decode (pB 16) 99 = .ok (.bipush (-6), 2) := by decide +kernel
theorem d16_101 : decode (pB 16) 101 = .ok (.iastore, 1) := by decide +kernel
theorem d16_102 : decode (pB 16) 102 = .ok (.iinc 1 1, 3) := by decide +kernel
theorem d16_105 : decode (pB 16) 105 = .ok (.goto (-20), 3) := by decide +kernel
theorem d16_108 : decode (pB 16) 108 = .ok (.return_, 1) := by decide +kernel
theorem st1_16_1 : p_st1 16 1 = true := by decide +kernel
/-- RX3.<init> -/
def t16_0 : List (Nat × pO) := [(0, o_aload 0 1), (1, o_oinit 4), (4, o_aload 0 5), (5, o_gets 2 8), (8, o_alen 9), (9, o_newa 0 11), (11, o_putR 3 0 14), (14, o_aload 0 15), (15, o_push (.int (nI 16)) 17), (17, o_newa 0 19), (19, o_putR 3 1 22), (22, o_aload 0 23), (23, o_push (.int (nI 12)) 25), (25, o_newa 0 27), (27, o_putR 3 2 30), (30, o_aload 0 31), (31, o_push (.int (nI 12)) 33), (33, o_newa 0 35), (35, o_putR 3 3 38), (38, o_aload 0 39), (39, o_push (.int (nI 5)) 40), (40, o_newa 0 42), (42, o_putR 3 4 45), (45, o_aload 0 46), (46, o_push (.int (nI 0)) 47), (47, o_putI 3 5 50), (50, o_aload 0 51), (51, o_push (.int (nI 0)) 52), (52, o_putI 3 6 55), (55, o_push (.int (nI 0)) 56), (56, o_istore 1 57), (57, o_iload 1 58), (58, o_aload 0 59), (59, o_getR 3 0 62), (62, o_alen 63), (63, o_icge 83 66), (66, o_aload 0 67), (67, o_getR 3 0 70), (70, o_iload 1 71), (71, o_gets 2 74)]
theorem ok16_0 : ∀ q ∈ t16_0, p_Z 16 q := List.forall_mem_cons.mpr ⟨⟨s_aload_n d16_0 rfl, tl_aload _ _⟩, List.forall_mem_cons.mpr ⟨⟨s_oinit d16_1 wd_38 wd_31 wd_32, tl_oinit _⟩, List.forall_mem_cons.mpr ⟨⟨s_aload_n d16_4 rfl, tl_aload _ _⟩, List.forall_mem_cons.mpr ⟨⟨s_getsN (n := "AT_FIRST") (host := "FoldedBench") d16_5 (by decide +kernel) (by decide +kernel), tl_gets _ _⟩, List.forall_mem_cons.mpr ⟨⟨s_alen d16_8, tl_alen _⟩, List.forall_mem_cons.mpr ⟨⟨s_newai d16_9 wd_70, tl_newa _ _⟩, List.forall_mem_cons.mpr ⟨⟨f_putR_3_0 d16_11 wd_41, tl_putR _ _ _⟩, List.forall_mem_cons.mpr ⟨⟨s_aload_n d16_14 rfl, tl_aload _ _⟩, List.forall_mem_cons.mpr ⟨⟨s_bipush d16_15 rfl, tl_push _ _⟩, List.forall_mem_cons.mpr ⟨⟨s_newai d16_17 wd_70, tl_newa _ _⟩, List.forall_mem_cons.mpr ⟨⟨f_putR_3_1 d16_19 wd_43, tl_putR _ _ _⟩, List.forall_mem_cons.mpr ⟨⟨s_aload_n d16_22 rfl, tl_aload _ _⟩, List.forall_mem_cons.mpr ⟨⟨s_bipush d16_23 rfl, tl_push _ _⟩, List.forall_mem_cons.mpr ⟨⟨s_newai d16_25 wd_70, tl_newa _ _⟩, List.forall_mem_cons.mpr ⟨⟨f_putR_3_2 d16_27 wd_45, tl_putR _ _ _⟩, List.forall_mem_cons.mpr ⟨⟨s_aload_n d16_30 rfl, tl_aload _ _⟩, List.forall_mem_cons.mpr ⟨⟨s_bipush d16_31 rfl, tl_push _ _⟩, List.forall_mem_cons.mpr ⟨⟨s_newai d16_33 wd_70, tl_newa _ _⟩, List.forall_mem_cons.mpr ⟨⟨f_putR_3_3 d16_35 wd_47, tl_putR _ _ _⟩, List.forall_mem_cons.mpr ⟨⟨s_aload_n d16_38 rfl, tl_aload _ _⟩, List.forall_mem_cons.mpr ⟨⟨s_iconst d16_39 rfl, tl_push _ _⟩, List.forall_mem_cons.mpr ⟨⟨s_newai d16_40 wd_70, tl_newa _ _⟩, List.forall_mem_cons.mpr ⟨⟨f_putR_3_4 d16_42 wd_49, tl_putR _ _ _⟩, List.forall_mem_cons.mpr ⟨⟨s_aload_n d16_45 rfl, tl_aload _ _⟩, List.forall_mem_cons.mpr ⟨⟨s_iconst d16_46 rfl, tl_push _ _⟩, List.forall_mem_cons.mpr ⟨⟨f_putI_3_5 d16_47 wd_51, tl_putI _ _ _⟩, List.forall_mem_cons.mpr ⟨⟨s_aload_n d16_50 rfl, tl_aload _ _⟩, List.forall_mem_cons.mpr ⟨⟨s_iconst d16_51 rfl, tl_push _ _⟩, List.forall_mem_cons.mpr ⟨⟨f_putI_3_6 d16_52 wd_53, tl_putI _ _ _⟩, List.forall_mem_cons.mpr ⟨⟨s_iconst d16_55 rfl, tl_push _ _⟩, List.forall_mem_cons.mpr ⟨⟨s_istore_n d16_56 rfl st1_16_1, tl_istore _ _⟩, List.forall_mem_cons.mpr ⟨⟨s_iload_n d16_57 rfl, tl_iload _ _⟩, List.forall_mem_cons.mpr ⟨⟨s_aload_n d16_58 rfl, tl_aload _ _⟩, List.forall_mem_cons.mpr ⟨⟨f_getR_3_0 d16_59 wd_41, tl_getR _ _ _⟩, List.forall_mem_cons.mpr ⟨⟨s_alen d16_62, tl_alen _⟩, List.forall_mem_cons.mpr ⟨⟨s_icge d16_63 rfl, tl_icge _ _⟩, List.forall_mem_cons.mpr ⟨⟨s_aload_n d16_66 rfl, tl_aload _ _⟩, List.forall_mem_cons.mpr ⟨⟨f_getR_3_0 d16_67 wd_41, tl_getR _ _ _⟩, List.forall_mem_cons.mpr ⟨⟨s_iload_n d16_70 rfl, tl_iload _ _⟩, List.forall_mem_cons.mpr ⟨⟨s_getsN (n := "AT_FIRST") (host := "FoldedBench") d16_71 (by decide +kernel) (by decide +kernel), tl_gets _ _⟩, fun _ h => absurd h List.not_mem_nil⟩⟩⟩⟩⟩⟩⟩⟩⟩⟩⟩⟩⟩⟩⟩⟩⟩⟩⟩⟩⟩⟩⟩⟩⟩⟩⟩⟩⟩⟩⟩⟩⟩⟩⟩⟩⟩⟩⟩⟩
/-- RX3.<init> -/
def t16_1 : List (Nat × pO) := [(74, o_iload 1 75), (75, o_iald 76), (76, o_iast 77), (77, o_iinc 1 (nI 1) 80), (80, o_goto 57), (83, o_push (.int (nI 0)) 84), (84, o_istore 1 85), (85, o_iload 1 86), (86, o_aload 0 87), (87, o_getR 3 1 90), (90, o_alen 91), (91, o_icge 108 94), (94, o_aload 0 95), (95, o_getR 3 1 98), (98, o_iload 1 99), (99, o_push (.int (nM 6)) 101), (101, o_iast 102), (102, o_iinc 1 (nI 1) 105), (105, o_goto 85), (108, o_vret)]
theorem ok16_1 : ∀ q ∈ t16_1, p_Z 16 q := List.forall_mem_cons.mpr ⟨⟨s_iload_n d16_74 rfl, tl_iload _ _⟩, List.forall_mem_cons.mpr ⟨⟨s_iald d16_75, tl_iald _⟩, List.forall_mem_cons.mpr ⟨⟨s_iast d16_76, tl_iast _⟩, List.forall_mem_cons.mpr ⟨⟨s_iinc d16_77 rfl st1_16_1, tl_iinc _ _ _⟩, List.forall_mem_cons.mpr ⟨⟨s_goto d16_80 rfl, tl_goto _⟩, List.forall_mem_cons.mpr ⟨⟨s_iconst d16_83 rfl, tl_push _ _⟩, List.forall_mem_cons.mpr ⟨⟨s_istore_n d16_84 rfl st1_16_1, tl_istore _ _⟩, List.forall_mem_cons.mpr ⟨⟨s_iload_n d16_85 rfl, tl_iload _ _⟩, List.forall_mem_cons.mpr ⟨⟨s_aload_n d16_86 rfl, tl_aload _ _⟩, List.forall_mem_cons.mpr ⟨⟨f_getR_3_1 d16_87 wd_43, tl_getR _ _ _⟩, List.forall_mem_cons.mpr ⟨⟨s_alen d16_90, tl_alen _⟩, List.forall_mem_cons.mpr ⟨⟨s_icge d16_91 rfl, tl_icge _ _⟩, List.forall_mem_cons.mpr ⟨⟨s_aload_n d16_94 rfl, tl_aload _ _⟩, List.forall_mem_cons.mpr ⟨⟨f_getR_3_1 d16_95 wd_43, tl_getR _ _ _⟩, List.forall_mem_cons.mpr ⟨⟨s_iload_n d16_98 rfl, tl_iload _ _⟩, List.forall_mem_cons.mpr ⟨⟨s_bipush d16_99 rfl, tl_push _ _⟩, List.forall_mem_cons.mpr ⟨⟨s_iast d16_101, tl_iast _⟩, List.forall_mem_cons.mpr ⟨⟨s_iinc d16_102 rfl st1_16_1, tl_iinc _ _ _⟩, List.forall_mem_cons.mpr ⟨⟨s_goto d16_105 rfl, tl_goto _⟩, List.forall_mem_cons.mpr ⟨⟨s_vret d16_108 rfl, tl_vret⟩, fun _ h => absurd h List.not_mem_nil⟩⟩⟩⟩⟩⟩⟩⟩⟩⟩⟩⟩⟩⟩⟩⟩⟩⟩⟩⟩
def t16 : List (Nat × pO) := t16_0 ++ (t16_1)
theorem ok16 : ∀ q ∈ t16, p_Z 16 q := List.forall_mem_append.mpr ⟨ok16_0, ok16_1⟩
theorem d17_0 : decode (pB 17) 0 = .ok (.aload_n 1, 1) := by decide +kernel
theorem d17_1 : decode (pB 17) 1 = .ok (.getfield 13, 3) := by decide +kernel
theorem d17_4 : decode (pB 17) 4 = .ok (.iconst 0, 1) := by decide +kernel
theorem d17_5 : decode (pB 17) 5 = .ok (.aload_n 0, 1) := by decide +kernel
theorem d17_6 : decode (pB 17) 6 = .ok (.getfield 13, 3) := by decide +kernel
theorem d17_9 : decode (pB 17) 9 = .ok (.iconst 0, 1) := by decide +kernel
theorem d17_10 : decode (pB 17) 10 = .ok (.aload_n 0, 1) := by decide +kernel
theorem d17_11 : decode (pB 17) 11 = .ok (.getfield 13, 3) := by decide +kernel
theorem d17_14 : decode (pB 17) 14 = .ok (.arraylength, 1) := by decide +kernel
theorem d17_15 : decode (pB 17) 15 = .ok (.invokestatic 37, 3) := by decide +kernel
theorem d17_18 : decode (pB 17) 18 = .ok (.aload_n 1, 1) := by decide +kernel
theorem d17_19 : decode (pB 17) 19 = .ok (.getfield 18, 3) := by decide +kernel
theorem d17_22 : decode (pB 17) 22 = .ok (.iconst 0, 1) := by decide +kernel
theorem d17_23 : decode (pB 17) 23 = .ok (.aload_n 0, 1) := by decide +kernel
theorem d17_24 : decode (pB 17) 24 = .ok (.getfield 18, 3) := by decide +kernel
theorem d17_27 : decode (pB 17) 27 = .ok (.iconst 0, 1) := by decide +kernel
theorem d17_28 : decode (pB 17) 28 = .ok (.aload_n 0, 1) := by decide +kernel
theorem d17_29 : decode (pB 17) 29 = .ok (.getfield 18, 3) := by decide +kernel
theorem d17_32 : decode (pB 17) 32 = .ok (.arraylength, 1) := by decide +kernel
theorem d17_33 : decode (pB 17) 33 = .ok (.invokestatic 37, 3) := by decide +kernel
theorem d17_36 : decode (pB 17) 36 = .ok (.aload_n 1, 1) := by decide +kernel
theorem d17_37 : decode (pB 17) 37 = .ok (.getfield 21, 3) := by decide +kernel
theorem d17_40 : decode (pB 17) 40 = .ok (.iconst 0, 1) := by decide +kernel
theorem d17_41 : decode (pB 17) 41 = .ok (.aload_n 0, 1) := by decide +kernel
theorem d17_42 : decode (pB 17) 42 = .ok (.getfield 21, 3) := by decide +kernel
theorem d17_45 : decode (pB 17) 45 = .ok (.iconst 0, 1) := by decide +kernel
theorem d17_46 : decode (pB 17) 46 = .ok (.aload_n 0, 1) := by decide +kernel
theorem d17_47 : decode (pB 17) 47 = .ok (.getfield 21, 3) := by decide +kernel
theorem d17_50 : decode (pB 17) 50 = .ok (.arraylength, 1) := by decide +kernel
theorem d17_51 : decode (pB 17) 51 = .ok (.invokestatic 37, 3) := by decide +kernel
theorem d17_54 : decode (pB 17) 54 = .ok (.aload_n 1, 1) := by decide +kernel
theorem d17_55 : decode (pB 17) 55 = .ok (.getfield 24, 3) := by decide +kernel
theorem d17_58 : decode (pB 17) 58 = .ok (.iconst 0, 1) := by decide +kernel
theorem d17_59 : decode (pB 17) 59 = .ok (.aload_n 0, 1) := by decide +kernel
theorem d17_60 : decode (pB 17) 60 = .ok (.getfield 24, 3) := by decide +kernel
theorem d17_63 : decode (pB 17) 63 = .ok (.iconst 0, 1) := by decide +kernel
theorem d17_64 : decode (pB 17) 64 = .ok (.aload_n 0, 1) := by decide +kernel
theorem d17_65 : decode (pB 17) 65 = .ok (.getfield 24, 3) := by decide +kernel
theorem d17_68 : decode (pB 17) 68 = .ok (.arraylength, 1) := by decide +kernel
theorem d17_69 : decode (pB 17) 69 = .ok (.invokestatic 37, 3) := by decide +kernel
theorem d17_72 : decode (pB 17) 72 = .ok (.aload_n 1, 1) := by decide +kernel
theorem d17_73 : decode (pB 17) 73 = .ok (.getfield 27, 3) := by decide +kernel
theorem d17_76 : decode (pB 17) 76 = .ok (.iconst 0, 1) := by decide +kernel
theorem d17_77 : decode (pB 17) 77 = .ok (.aload_n 0, 1) := by decide +kernel
theorem d17_78 : decode (pB 17) 78 = .ok (.getfield 27, 3) := by decide +kernel
theorem d17_81 : decode (pB 17) 81 = .ok (.iconst 0, 1) := by decide +kernel
theorem d17_82 : decode (pB 17) 82 = .ok (.aload_n 0, 1) := by decide +kernel
theorem d17_83 : decode (pB 17) 83 = .ok (.getfield 27, 3) := by decide +kernel
theorem d17_86 : decode (pB 17) 86 = .ok (.arraylength, 1) := by decide +kernel
theorem d17_87 : decode (pB 17) 87 = .ok (.invokestatic 37, 3) := by decide +kernel
theorem d17_90 : decode (pB 17) 90 = .ok (.aload_n 0, 1) := by decide +kernel
theorem d17_91 : decode (pB 17) 91 = .ok (.aload_n 1, 1) := by decide +kernel
theorem d17_92 : decode (pB 17) 92 = .ok (.getfield 30, 3) := by decide +kernel
theorem d17_95 : decode (pB 17) 95 = .ok (.putfield 30, 3) := by decide +kernel
theorem d17_98 : decode (pB 17) 98 = .ok (.aload_n 0, 1) := by decide +kernel
theorem d17_99 : decode (pB 17) 99 = .ok (.aload_n 1, 1) := by decide +kernel
theorem d17_100 : decode (pB 17) 100 = .ok (.getfield 34, 3) := by decide +kernel
theorem d17_103 : decode (pB 17) 103 = .ok (.putfield 34, 3) := by decide +kernel
theorem d17_106 : decode (pB 17) 106 = .ok (.return_, 1) := by decide +kernel
/-- RX3.copyFrom -/
def t17_0 : List (Nat × pO) := [(0, o_aload 1 1), (1, o_getR 3 0 4), (4, o_push (.int (nI 0)) 5), (5, o_aload 0 6), (6, o_getR 3 0 9), (9, o_push (.int (nI 0)) 10), (10, o_aload 0 11), (11, o_getR 3 0 14), (14, o_alen 15), (15, o_copy 18), (18, o_aload 1 19), (19, o_getR 3 1 22), (22, o_push (.int (nI 0)) 23), (23, o_aload 0 24), (24, o_getR 3 1 27), (27, o_push (.int (nI 0)) 28), (28, o_aload 0 29), (29, o_getR 3 1 32), (32, o_alen 33), (33, o_copy 36), (36, o_aload 1 37), (37, o_getR 3 2 40), (40, o_push (.int (nI 0)) 41), (41, o_aload 0 42), (42, o_getR 3 2 45), (45, o_push (.int (nI 0)) 46), (46, o_aload 0 47), (47, o_getR 3 2 50), (50, o_alen 51), (51, o_copy 54), (54, o_aload 1 55), (55, o_getR 3 3 58), (58, o_push (.int (nI 0)) 59), (59, o_aload 0 60), (60, o_getR 3 3 63), (63, o_push (.int (nI 0)) 64), (64, o_aload 0 65), (65, o_getR 3 3 68), (68, o_alen 69), (69, o_copy 72)]
theorem ok17_0 : ∀ q ∈ t17_0, p_Z 17 q := List.forall_mem_cons.mpr ⟨⟨s_aload_n d17_0 rfl, tl_aload _ _⟩, List.forall_mem_cons.mpr ⟨⟨f_getR_3_0 d17_1 wd_41, tl_getR _ _ _⟩, List.forall_mem_cons.mpr ⟨⟨s_iconst d17_4 rfl, tl_push _ _⟩, List.forall_mem_cons.mpr ⟨⟨s_aload_n d17_5 rfl, tl_aload _ _⟩, List.forall_mem_cons.mpr ⟨⟨f_getR_3_0 d17_6 wd_41, tl_getR _ _ _⟩, List.forall_mem_cons.mpr ⟨⟨s_iconst d17_9 rfl, tl_push _ _⟩, List.forall_mem_cons.mpr ⟨⟨s_aload_n d17_10 rfl, tl_aload _ _⟩, List.forall_mem_cons.mpr ⟨⟨f_getR_3_0 d17_11 wd_41, tl_getR _ _ _⟩, List.forall_mem_cons.mpr ⟨⟨s_alen d17_14, tl_alen _⟩, List.forall_mem_cons.mpr ⟨⟨s_copy d17_15 wd_265 wd_267 wd_266 wd_22, tl_copy _⟩, List.forall_mem_cons.mpr ⟨⟨s_aload_n d17_18 rfl, tl_aload _ _⟩, List.forall_mem_cons.mpr ⟨⟨f_getR_3_1 d17_19 wd_43, tl_getR _ _ _⟩, List.forall_mem_cons.mpr ⟨⟨s_iconst d17_22 rfl, tl_push _ _⟩, List.forall_mem_cons.mpr ⟨⟨s_aload_n d17_23 rfl, tl_aload _ _⟩, List.forall_mem_cons.mpr ⟨⟨f_getR_3_1 d17_24 wd_43, tl_getR _ _ _⟩, List.forall_mem_cons.mpr ⟨⟨s_iconst d17_27 rfl, tl_push _ _⟩, List.forall_mem_cons.mpr ⟨⟨s_aload_n d17_28 rfl, tl_aload _ _⟩, List.forall_mem_cons.mpr ⟨⟨f_getR_3_1 d17_29 wd_43, tl_getR _ _ _⟩, List.forall_mem_cons.mpr ⟨⟨s_alen d17_32, tl_alen _⟩, List.forall_mem_cons.mpr ⟨⟨s_copy d17_33 wd_265 wd_267 wd_266 wd_22, tl_copy _⟩, List.forall_mem_cons.mpr ⟨⟨s_aload_n d17_36 rfl, tl_aload _ _⟩, List.forall_mem_cons.mpr ⟨⟨f_getR_3_2 d17_37 wd_45, tl_getR _ _ _⟩, List.forall_mem_cons.mpr ⟨⟨s_iconst d17_40 rfl, tl_push _ _⟩, List.forall_mem_cons.mpr ⟨⟨s_aload_n d17_41 rfl, tl_aload _ _⟩, List.forall_mem_cons.mpr ⟨⟨f_getR_3_2 d17_42 wd_45, tl_getR _ _ _⟩, List.forall_mem_cons.mpr ⟨⟨s_iconst d17_45 rfl, tl_push _ _⟩, List.forall_mem_cons.mpr ⟨⟨s_aload_n d17_46 rfl, tl_aload _ _⟩, List.forall_mem_cons.mpr ⟨⟨f_getR_3_2 d17_47 wd_45, tl_getR _ _ _⟩, List.forall_mem_cons.mpr ⟨⟨s_alen d17_50, tl_alen _⟩, List.forall_mem_cons.mpr ⟨⟨s_copy d17_51 wd_265 wd_267 wd_266 wd_22, tl_copy _⟩, List.forall_mem_cons.mpr ⟨⟨s_aload_n d17_54 rfl, tl_aload _ _⟩, List.forall_mem_cons.mpr ⟨⟨f_getR_3_3 d17_55 wd_47, tl_getR _ _ _⟩, List.forall_mem_cons.mpr ⟨⟨s_iconst d17_58 rfl, tl_push _ _⟩, List.forall_mem_cons.mpr ⟨⟨s_aload_n d17_59 rfl, tl_aload _ _⟩, List.forall_mem_cons.mpr ⟨⟨f_getR_3_3 d17_60 wd_47, tl_getR _ _ _⟩, List.forall_mem_cons.mpr ⟨⟨s_iconst d17_63 rfl, tl_push _ _⟩, List.forall_mem_cons.mpr ⟨⟨s_aload_n d17_64 rfl, tl_aload _ _⟩, List.forall_mem_cons.mpr ⟨⟨f_getR_3_3 d17_65 wd_47, tl_getR _ _ _⟩, List.forall_mem_cons.mpr ⟨⟨s_alen d17_68, tl_alen _⟩, List.forall_mem_cons.mpr ⟨⟨s_copy d17_69 wd_265 wd_267 wd_266 wd_22, tl_copy _⟩, fun _ h => absurd h List.not_mem_nil⟩⟩⟩⟩⟩⟩⟩⟩⟩⟩⟩⟩⟩⟩⟩⟩⟩⟩⟩⟩⟩⟩⟩⟩⟩⟩⟩⟩⟩⟩⟩⟩⟩⟩⟩⟩⟩⟩⟩⟩
/-- RX3.copyFrom -/
def t17_1 : List (Nat × pO) := [(72, o_aload 1 73), (73, o_getR 3 4 76), (76, o_push (.int (nI 0)) 77), (77, o_aload 0 78), (78, o_getR 3 4 81), (81, o_push (.int (nI 0)) 82), (82, o_aload 0 83), (83, o_getR 3 4 86), (86, o_alen 87), (87, o_copy 90), (90, o_aload 0 91), (91, o_aload 1 92), (92, o_getI 3 5 95), (95, o_putI 3 5 98), (98, o_aload 0 99), (99, o_aload 1 100), (100, o_getI 3 6 103), (103, o_putI 3 6 106), (106, o_vret)]
theorem ok17_1 : ∀ q ∈ t17_1, p_Z 17 q := List.forall_mem_cons.mpr ⟨⟨s_aload_n d17_72 rfl, tl_aload _ _⟩, List.forall_mem_cons.mpr ⟨⟨f_getR_3_4 d17_73 wd_49, tl_getR _ _ _⟩, List.forall_mem_cons.mpr ⟨⟨s_iconst d17_76 rfl, tl_push _ _⟩, List.forall_mem_cons.mpr ⟨⟨s_aload_n d17_77 rfl, tl_aload _ _⟩, List.forall_mem_cons.mpr ⟨⟨f_getR_3_4 d17_78 wd_49, tl_getR _ _ _⟩, List.forall_mem_cons.mpr ⟨⟨s_iconst d17_81 rfl, tl_push _ _⟩, List.forall_mem_cons.mpr ⟨⟨s_aload_n d17_82 rfl, tl_aload _ _⟩, List.forall_mem_cons.mpr ⟨⟨f_getR_3_4 d17_83 wd_49, tl_getR _ _ _⟩, List.forall_mem_cons.mpr ⟨⟨s_alen d17_86, tl_alen _⟩, List.forall_mem_cons.mpr ⟨⟨s_copy d17_87 wd_265 wd_267 wd_266 wd_22, tl_copy _⟩, List.forall_mem_cons.mpr ⟨⟨s_aload_n d17_90 rfl, tl_aload _ _⟩, List.forall_mem_cons.mpr ⟨⟨s_aload_n d17_91 rfl, tl_aload _ _⟩, List.forall_mem_cons.mpr ⟨⟨f_getI_3_5 d17_92 wd_51, tl_getI _ _ _⟩, List.forall_mem_cons.mpr ⟨⟨f_putI_3_5 d17_95 wd_51, tl_putI _ _ _⟩, List.forall_mem_cons.mpr ⟨⟨s_aload_n d17_98 rfl, tl_aload _ _⟩, List.forall_mem_cons.mpr ⟨⟨s_aload_n d17_99 rfl, tl_aload _ _⟩, List.forall_mem_cons.mpr ⟨⟨f_getI_3_6 d17_100 wd_53, tl_getI _ _ _⟩, List.forall_mem_cons.mpr ⟨⟨f_putI_3_6 d17_103 wd_53, tl_putI _ _ _⟩, List.forall_mem_cons.mpr ⟨⟨s_vret d17_106 rfl, tl_vret⟩, fun _ h => absurd h List.not_mem_nil⟩⟩⟩⟩⟩⟩⟩⟩⟩⟩⟩⟩⟩⟩⟩⟩⟩⟩⟩
def t17 : List (Nat × pO) := t17_0 ++ (t17_1)
theorem ok17 : ∀ q ∈ t17, p_Z 17 q := List.forall_mem_append.mpr ⟨ok17_0, ok17_1⟩
theorem d18_0 : decode (pB 18) 0 = .ok (.iload_n 1, 1) := by decide +kernel
theorem d18_1 : decode (pB 18) 1 = .ok (.ifCond .lt 15, 3) := by decide +kernel
theorem d18_4 : decode (pB 18) 4 = .ok (.iload_n 1, 1) := by decide +kernel
theorem d18_5 : decode (pB 18) 5 = .ok (.aload_n 0, 1) := by decide +kernel
theorem d18_6 : decode (pB 18) 6 = .ok (.getfield 30, 3) := by decide +kernel
theorem d18_9 : decode (pB 18) 9 = .ok (.if_icmp .ge 7, 3) := by decide +kernel
theorem d18_12 : decode (pB 18) 12 = .ok (.iconst 1, 1) := by decide +kernel
theorem d18_13 : decode (pB 18) 13 = .ok (.goto 4, 3) := by decide +kernel
theorem d18_16 : decode (pB 18) 16 = .ok (.iconst 0, 1) := by decide +kernel
theorem d18_17 : decode (pB 18) 17 = .ok (.ireturn, 1) := by decide +kernel
/-- RX3.hasCousin -/
def t18_0 : List (Nat × pO) := [(0, o_iload 1 1), (1, o_iflt 16 4), (4, o_iload 1 5), (5, o_aload 0 6), (6, o_getI 3 5 9), (9, o_icge 16 12), (12, o_push (.int (nI 1)) 13), (13, o_goto 17), (16, o_push (.int (nI 0)) 17), (17, o_zret)]
theorem ok18_0 : ∀ q ∈ t18_0, p_Z 18 q := List.forall_mem_cons.mpr ⟨⟨s_iload_n d18_0 rfl, tl_iload _ _⟩, List.forall_mem_cons.mpr ⟨⟨s_iflt d18_1 rfl, tl_iflt _ _⟩, List.forall_mem_cons.mpr ⟨⟨s_iload_n d18_4 rfl, tl_iload _ _⟩, List.forall_mem_cons.mpr ⟨⟨s_aload_n d18_5 rfl, tl_aload _ _⟩, List.forall_mem_cons.mpr ⟨⟨f_getI_3_5 d18_6 wd_51, tl_getI _ _ _⟩, List.forall_mem_cons.mpr ⟨⟨s_icge d18_9 rfl, tl_icge _ _⟩, List.forall_mem_cons.mpr ⟨⟨s_iconst d18_12 rfl, tl_push _ _⟩, List.forall_mem_cons.mpr ⟨⟨s_goto d18_13 rfl, tl_goto _⟩, List.forall_mem_cons.mpr ⟨⟨s_iconst d18_16 rfl, tl_push _ _⟩, List.forall_mem_cons.mpr ⟨⟨s_zret d18_17 rfl, tl_zret⟩, fun _ h => absurd h List.not_mem_nil⟩⟩⟩⟩⟩⟩⟩⟩⟩⟩
def t18 : List (Nat × pO) := t18_0
theorem ok18 : ∀ q ∈ t18, p_Z 18 q := ok18_0
theorem d19_0 : decode (pB 19) 0 = .ok (.iload_n 1, 1) := by decide +kernel
theorem d19_1 : decode (pB 19) 1 = .ok (.ifCond .lt 17, 3) := by decide +kernel
theorem d19_4 : decode (pB 19) 4 = .ok (.iload_n 1, 1) := by decide +kernel
theorem d19_5 : decode (pB 19) 5 = .ok (.aload_n 0, 1) := by decide +kernel
theorem d19_6 : decode (pB 19) 6 = .ok (.getfield 13, 3) := by decide +kernel
theorem d19_9 : decode (pB 19) 9 = .ok (.iconst 0, 1) := by decide +kernel
theorem d19_10 : decode (pB 19) 10 = .ok (.iaload, 1) := by decide +kernel
theorem d19_11 : decode (pB 19) 11 = .ok (.if_icmp .ge 7, 3) := by decide +kernel
theorem d19_14 : decode (pB 19) 14 = .ok (.iconst 1, 1) := by decide +kernel
theorem d19_15 : decode (pB 19) 15 = .ok (.goto 4, 3) := by decide +kernel
theorem d19_18 : decode (pB 19) 18 = .ok (.iconst 0, 1) := by decide +kernel
theorem d19_19 : decode (pB 19) 19 = .ok (.ireturn, 1) := by decide +kernel
/-- RX3.hasSeat -/
def t19_0 : List (Nat × pO) := [(0, o_iload 1 1), (1, o_iflt 18 4), (4, o_iload 1 5), (5, o_aload 0 6), (6, o_getR 3 0 9), (9, o_push (.int (nI 0)) 10), (10, o_iald 11), (11, o_icge 18 14), (14, o_push (.int (nI 1)) 15), (15, o_goto 19), (18, o_push (.int (nI 0)) 19), (19, o_zret)]
theorem ok19_0 : ∀ q ∈ t19_0, p_Z 19 q := List.forall_mem_cons.mpr ⟨⟨s_iload_n d19_0 rfl, tl_iload _ _⟩, List.forall_mem_cons.mpr ⟨⟨s_iflt d19_1 rfl, tl_iflt _ _⟩, List.forall_mem_cons.mpr ⟨⟨s_iload_n d19_4 rfl, tl_iload _ _⟩, List.forall_mem_cons.mpr ⟨⟨s_aload_n d19_5 rfl, tl_aload _ _⟩, List.forall_mem_cons.mpr ⟨⟨f_getR_3_0 d19_6 wd_41, tl_getR _ _ _⟩, List.forall_mem_cons.mpr ⟨⟨s_iconst d19_9 rfl, tl_push _ _⟩, List.forall_mem_cons.mpr ⟨⟨s_iald d19_10, tl_iald _⟩, List.forall_mem_cons.mpr ⟨⟨s_icge d19_11 rfl, tl_icge _ _⟩, List.forall_mem_cons.mpr ⟨⟨s_iconst d19_14 rfl, tl_push _ _⟩, List.forall_mem_cons.mpr ⟨⟨s_goto d19_15 rfl, tl_goto _⟩, List.forall_mem_cons.mpr ⟨⟨s_iconst d19_18 rfl, tl_push _ _⟩, List.forall_mem_cons.mpr ⟨⟨s_zret d19_19 rfl, tl_zret⟩, fun _ h => absurd h List.not_mem_nil⟩⟩⟩⟩⟩⟩⟩⟩⟩⟩⟩⟩
def t19 : List (Nat × pO) := t19_0
theorem ok19 : ∀ q ∈ t19, p_Z 19 q := ok19_0
theorem d20_0 : decode (pB 20) 0 = .ok (.iconst 0, 1) := by decide +kernel
theorem d20_1 : decode (pB 20) 1 = .ok (.istore_n 2, 1) := by decide +kernel
theorem d20_2 : decode (pB 20) 2 = .ok (.iload_n 2, 1) := by decide +kernel
theorem d20_3 : decode (pB 20) 3 = .ok (.aload_n 0, 1) := by decide +kernel
theorem d20_4 : decode (pB 20) 4 = .ok (.getfield 13, 3) := by decide +kernel
theorem d20_7 : decode (pB 20) 7 = .ok (.iconst 0, 1) := by decide +kernel
theorem d20_8 : decode (pB 20) 8 = .ok (.iaload, 1) := by decide +kernel
theorem d20_9 : decode (pB 20) 9 = .ok (.if_icmp .ge 21, 3) := by decide +kernel
theorem d20_12 : decode (pB 20) 12 = .ok (.aload_n 0, 1) := by decide +kernel
theorem d20_13 : decode (pB 20) 13 = .ok (.getfield 18, 3) := by decide +kernel
theorem d20_16 : decode (pB 20) 16 = .ok (.iload_n 2, 1) := by decide +kernel
theorem d20_17 : decode (pB 20) 17 = .ok (.iaload, 1) := by decide +kernel
theorem d20_18 : decode (pB 20) 18 = .ok (.iload_n 1, 1) := by decide +kernel
theorem d20_19 : decode (pB 20) 19 = .ok (.if_icmp .ne 5, 3) := by decide +kernel
theorem d20_22 : decode (pB 20) 22 = .ok (.iload_n 2, 1) := by decide +kernel
theorem d20_23 : decode (pB 20) 23 = .ok (.ireturn, 1) := by decide +kernel
theorem d20_24 : decode (pB 20) 24 = .ok (.iinc 2 1, 3) := by decide +kernel
theorem d20_27 : decode (pB 20) 27 = .ok (.goto (-25), 3) := by decide +kernel
theorem d20_30 : decode (pB 20) 30 = .ok (.bipush (-6), 2) := by decide +kernel
theorem d20_32 : decode (pB 20) 32 = .ok (.ireturn, 1) := by decide +kernel
theorem st1_20_2 : p_st1 20 2 = true := by decide +kernel
/-- RX3.seatOf -/
def t20_0 : List (Nat × pO) := [(0, o_push (.int (nI 0)) 1), (1, o_istore 2 2), (2, o_iload 2 3), (3, o_aload 0 4), (4, o_getR 3 0 7), (7, o_push (.int (nI 0)) 8), (8, o_iald 9), (9, o_icge 30 12), (12, o_aload 0 13), (13, o_getR 3 1 16), (16, o_iload 2 17), (17, o_iald 18), (18, o_iload 1 19), (19, o_icne 24 22), (22, o_iload 2 23), (23, o_iret), (24, o_iinc 2 (nI 1) 27), (27, o_goto 2), (30, o_push (.int (nM 6)) 32), (32, o_iret)]
theorem ok20_0 : ∀ q ∈ t20_0, p_Z 20 q := List.forall_mem_cons.mpr ⟨⟨s_iconst d20_0 rfl, tl_push _ _⟩, List.forall_mem_cons.mpr ⟨⟨s_istore_n d20_1 rfl st1_20_2, tl_istore _ _⟩, List.forall_mem_cons.mpr ⟨⟨s_iload_n d20_2 rfl, tl_iload _ _⟩, List.forall_mem_cons.mpr ⟨⟨s_aload_n d20_3 rfl, tl_aload _ _⟩, List.forall_mem_cons.mpr ⟨⟨f_getR_3_0 d20_4 wd_41, tl_getR _ _ _⟩, List.forall_mem_cons.mpr ⟨⟨s_iconst d20_7 rfl, tl_push _ _⟩, List.forall_mem_cons.mpr ⟨⟨s_iald d20_8, tl_iald _⟩, List.forall_mem_cons.mpr ⟨⟨s_icge d20_9 rfl, tl_icge _ _⟩, List.forall_mem_cons.mpr ⟨⟨s_aload_n d20_12 rfl, tl_aload _ _⟩, List.forall_mem_cons.mpr ⟨⟨f_getR_3_1 d20_13 wd_43, tl_getR _ _ _⟩, List.forall_mem_cons.mpr ⟨⟨s_iload_n d20_16 rfl, tl_iload _ _⟩, List.forall_mem_cons.mpr ⟨⟨s_iald d20_17, tl_iald _⟩, List.forall_mem_cons.mpr ⟨⟨s_iload_n d20_18 rfl, tl_iload _ _⟩, List.forall_mem_cons.mpr ⟨⟨s_icne d20_19 rfl, tl_icne _ _⟩, List.forall_mem_cons.mpr ⟨⟨s_iload_n d20_22 rfl, tl_iload _ _⟩, List.forall_mem_cons.mpr ⟨⟨s_iret d20_23 rfl, tl_iret⟩, List.forall_mem_cons.mpr ⟨⟨s_iinc d20_24 rfl st1_20_2, tl_iinc _ _ _⟩, List.forall_mem_cons.mpr ⟨⟨s_goto d20_27 rfl, tl_goto _⟩, List.forall_mem_cons.mpr ⟨⟨s_bipush d20_30 rfl, tl_push _ _⟩, List.forall_mem_cons.mpr ⟨⟨s_iret d20_32 rfl, tl_iret⟩, fun _ h => absurd h List.not_mem_nil⟩⟩⟩⟩⟩⟩⟩⟩⟩⟩⟩⟩⟩⟩⟩⟩⟩⟩⟩⟩
def t20 : List (Nat × pO) := t20_0
theorem ok20 : ∀ q ∈ t20, p_Z 20 q := ok20_0
theorem d21_0 : decode (pB 21) 0 = .ok (.aload_n 0, 1) := by decide +kernel
theorem d21_1 : decode (pB 21) 1 = .ok (.iload_n 1, 1) := by decide +kernel
theorem d21_2 : decode (pB 21) 2 = .ok (.invokevirtual 43, 3) := by decide +kernel
theorem d21_5 : decode (pB 21) 5 = .ok (.ifCond .eq 12, 3) := by decide +kernel
theorem d21_8 : decode (pB 21) 8 = .ok (.aload_n 0, 1) := by decide +kernel
theorem d21_9 : decode (pB 21) 9 = .ok (.getfield 18, 3) := by decide +kernel
theorem d21_12 : decode (pB 21) 12 = .ok (.iload_n 1, 1) := by decide +kernel
theorem d21_13 : decode (pB 21) 13 = .ok (.iaload, 1) := by decide +kernel
theorem d21_14 : decode (pB 21) 14 = .ok (.goto 5, 3) := by decide +kernel
theorem d21_17 : decode (pB 21) 17 = .ok (.bipush (-6), 2) := by decide +kernel
theorem d21_19 : decode (pB 21) 19 = .ok (.ireturn, 1) := by decide +kernel
/-- RX3.sitterOn -/
def t21_0 : List (Nat × pO) := [(0, o_aload 0 1), (1, o_iload 1 2), (2, o_invV 3 19 1 5), (5, o_ifeq 17 8), (8, o_aload 0 9), (9, o_getR 3 1 12), (12, o_iload 1 13), (13, o_iald 14), (14, o_goto 19), (17, o_push (.int (nM 6)) 19), (19, o_iret)]
theorem ok21_0 : ∀ q ∈ t21_0, p_Z 21 q := List.forall_mem_cons.mpr ⟨⟨s_aload_n d21_0 rfl, tl_aload _ _⟩, List.forall_mem_cons.mpr ⟨⟨s_iload_n d21_1 rfl, tl_iload _ _⟩, List.forall_mem_cons.mpr ⟨⟨q_invV_19 d21_2 wd_202, tl_invV _ _ _ _⟩, List.forall_mem_cons.mpr ⟨⟨s_ifeq d21_5 rfl, tl_ifeq _ _⟩, List.forall_mem_cons.mpr ⟨⟨s_aload_n d21_8 rfl, tl_aload _ _⟩, List.forall_mem_cons.mpr ⟨⟨f_getR_3_1 d21_9 wd_43, tl_getR _ _ _⟩, List.forall_mem_cons.mpr ⟨⟨s_iload_n d21_12 rfl, tl_iload _ _⟩, List.forall_mem_cons.mpr ⟨⟨s_iald d21_13, tl_iald _⟩, List.forall_mem_cons.mpr ⟨⟨s_goto d21_14 rfl, tl_goto _⟩, List.forall_mem_cons.mpr ⟨⟨s_bipush d21_17 rfl, tl_push _ _⟩, List.forall_mem_cons.mpr ⟨⟨s_iret d21_19 rfl, tl_iret⟩, fun _ h => absurd h List.not_mem_nil⟩⟩⟩⟩⟩⟩⟩⟩⟩⟩⟩
def t21 : List (Nat × pO) := t21_0
theorem ok21 : ∀ q ∈ t21, p_Z 21 q := ok21_0
theorem d22_0 : decode (pB 22) 0 = .ok (.iload_n 1, 1) := by decide +kernel
theorem d22_1 : decode (pB 22) 1 = .ok (.istore_n 2, 1) := by decide +kernel
theorem d22_2 : decode (pB 22) 2 = .ok (.iload_n 2, 1) := by decide +kernel
theorem d22_3 : decode (pB 22) 3 = .ok (.aload_n 0, 1) := by decide +kernel
theorem d22_4 : decode (pB 22) 4 = .ok (.getfield 13, 3) := by decide +kernel
theorem d22_7 : decode (pB 22) 7 = .ok (.iconst 0, 1) := by decide +kernel
theorem d22_8 : decode (pB 22) 8 = .ok (.iaload, 1) := by decide +kernel
theorem d22_9 : decode (pB 22) 9 = .ok (.if_icmp .ge 22, 3) := by decide +kernel
theorem d22_12 : decode (pB 22) 12 = .ok (.aload_n 0, 1) := by decide +kernel
theorem d22_13 : decode (pB 22) 13 = .ok (.getfield 18, 3) := by decide +kernel
theorem d22_16 : decode (pB 22) 16 = .ok (.iload_n 2, 1) := by decide +kernel
theorem d22_17 : decode (pB 22) 17 = .ok (.iaload, 1) := by decide +kernel
theorem d22_18 : decode (pB 22) 18 = .ok (.bipush (-6), 2) := by decide +kernel
theorem d22_20 : decode (pB 22) 20 = .ok (.if_icmp .eq 5, 3) := by decide +kernel
theorem d22_23 : decode (pB 22) 23 = .ok (.iconst 1, 1) := by decide +kernel
theorem d22_24 : decode (pB 22) 24 = .ok (.ireturn, 1) := by decide +kernel
theorem d22_25 : decode (pB 22) 25 = .ok (.iinc 2 1, 3) := by decide +kernel
theorem d22_28 : decode (pB 22) 28 = .ok (.goto (-26), 3) := by decide +kernel
theorem d22_31 : decode (pB 22) 31 = .ok (.iconst 0, 1) := by decide +kernel
theorem d22_32 : decode (pB 22) 32 = .ok (.ireturn, 1) := by decide +kernel
theorem st1_22_2 : p_st1 22 2 = true := by decide +kernel
/-- RX3.isTakenFrom -/
def t22_0 : List (Nat × pO) := [(0, o_iload 1 1), (1, o_istore 2 2), (2, o_iload 2 3), (3, o_aload 0 4), (4, o_getR 3 0 7), (7, o_push (.int (nI 0)) 8), (8, o_iald 9), (9, o_icge 31 12), (12, o_aload 0 13), (13, o_getR 3 1 16), (16, o_iload 2 17), (17, o_iald 18), (18, o_push (.int (nM 6)) 20), (20, o_iceq 25 23), (23, o_push (.int (nI 1)) 24), (24, o_zret), (25, o_iinc 2 (nI 1) 28), (28, o_goto 2), (31, o_push (.int (nI 0)) 32), (32, o_zret)]
theorem ok22_0 : ∀ q ∈ t22_0, p_Z 22 q := List.forall_mem_cons.mpr ⟨⟨s_iload_n d22_0 rfl, tl_iload _ _⟩, List.forall_mem_cons.mpr ⟨⟨s_istore_n d22_1 rfl st1_22_2, tl_istore _ _⟩, List.forall_mem_cons.mpr ⟨⟨s_iload_n d22_2 rfl, tl_iload _ _⟩, List.forall_mem_cons.mpr ⟨⟨s_aload_n d22_3 rfl, tl_aload _ _⟩, List.forall_mem_cons.mpr ⟨⟨f_getR_3_0 d22_4 wd_41, tl_getR _ _ _⟩, List.forall_mem_cons.mpr ⟨⟨s_iconst d22_7 rfl, tl_push _ _⟩, List.forall_mem_cons.mpr ⟨⟨s_iald d22_8, tl_iald _⟩, List.forall_mem_cons.mpr ⟨⟨s_icge d22_9 rfl, tl_icge _ _⟩, List.forall_mem_cons.mpr ⟨⟨s_aload_n d22_12 rfl, tl_aload _ _⟩, List.forall_mem_cons.mpr ⟨⟨f_getR_3_1 d22_13 wd_43, tl_getR _ _ _⟩, List.forall_mem_cons.mpr ⟨⟨s_iload_n d22_16 rfl, tl_iload _ _⟩, List.forall_mem_cons.mpr ⟨⟨s_iald d22_17, tl_iald _⟩, List.forall_mem_cons.mpr ⟨⟨s_bipush d22_18 rfl, tl_push _ _⟩, List.forall_mem_cons.mpr ⟨⟨s_iceq d22_20 rfl, tl_iceq _ _⟩, List.forall_mem_cons.mpr ⟨⟨s_iconst d22_23 rfl, tl_push _ _⟩, List.forall_mem_cons.mpr ⟨⟨s_zret d22_24 rfl, tl_zret⟩, List.forall_mem_cons.mpr ⟨⟨s_iinc d22_25 rfl st1_22_2, tl_iinc _ _ _⟩, List.forall_mem_cons.mpr ⟨⟨s_goto d22_28 rfl, tl_goto _⟩, List.forall_mem_cons.mpr ⟨⟨s_iconst d22_31 rfl, tl_push _ _⟩, List.forall_mem_cons.mpr ⟨⟨s_zret d22_32 rfl, tl_zret⟩, fun _ h => absurd h List.not_mem_nil⟩⟩⟩⟩⟩⟩⟩⟩⟩⟩⟩⟩⟩⟩⟩⟩⟩⟩⟩⟩
def t22 : List (Nat × pO) := t22_0
theorem ok22 : ∀ q ∈ t22, p_Z 22 q := ok22_0
theorem d23_0 : decode (pB 23) 0 = .ok (.aload_n 0, 1) := by decide +kernel
theorem d23_1 : decode (pB 23) 1 = .ok (.iload_n 1, 1) := by decide +kernel
theorem d23_2 : decode (pB 23) 2 = .ok (.invokevirtual 47, 3) := by decide +kernel
theorem d23_5 : decode (pB 23) 5 = .ok (.istore_n 2, 1) := by decide +kernel
theorem d23_6 : decode (pB 23) 6 = .ok (.iload_n 2, 1) := by decide +kernel
theorem d23_7 : decode (pB 23) 7 = .ok (.bipush (-6), 2) := by decide +kernel
theorem d23_9 : decode (pB 23) 9 = .ok (.if_icmp .ne 7, 3) := by decide +kernel
theorem d23_12 : decode (pB 23) 12 = .ok (.iconst 0, 1) := by decide +kernel
theorem d23_13 : decode (pB 23) 13 = .ok (.goto 6, 3) := by decide +kernel
theorem d23_16 : decode (pB 23) 16 = .ok (.iconst 1, 1) := by decide +kernel
theorem d23_17 : decode (pB 23) 17 = .ok (.iload_n 2, 1) := by decide +kernel
theorem d23_18 : decode (pB 23) 18 = .ok (.ishl, 1) := by decide +kernel
theorem d23_19 : decode (pB 23) 19 = .ok (.ireturn, 1) := by decide +kernel
theorem st1_23_2 : p_st1 23 2 = true := by decide +kernel
/-- RX3.bitOn -/
def t23_0 : List (Nat × pO) := [(0, o_aload 0 1), (1, o_iload 1 2), (2, o_invV 3 21 1 5), (5, o_istore 2 6), (6, o_iload 2 7), (7, o_push (.int (nM 6)) 9), (9, o_icne 16 12), (12, o_push (.int (nI 0)) 13), (13, o_goto 19), (16, o_push (.int (nI 1)) 17), (17, o_iload 2 18), (18, o_ishl 19), (19, o_iret)]
theorem ok23_0 : ∀ q ∈ t23_0, p_Z 23 q := List.forall_mem_cons.mpr ⟨⟨s_aload_n d23_0 rfl, tl_aload _ _⟩, List.forall_mem_cons.mpr ⟨⟨s_iload_n d23_1 rfl, tl_iload _ _⟩, List.forall_mem_cons.mpr ⟨⟨q_invV_21 d23_2 wd_198, tl_invV _ _ _ _⟩, List.forall_mem_cons.mpr ⟨⟨s_istore_n d23_5 rfl st1_23_2, tl_istore _ _⟩, List.forall_mem_cons.mpr ⟨⟨s_iload_n d23_6 rfl, tl_iload _ _⟩, List.forall_mem_cons.mpr ⟨⟨s_bipush d23_7 rfl, tl_push _ _⟩, List.forall_mem_cons.mpr ⟨⟨s_icne d23_9 rfl, tl_icne _ _⟩, List.forall_mem_cons.mpr ⟨⟨s_iconst d23_12 rfl, tl_push _ _⟩, List.forall_mem_cons.mpr ⟨⟨s_goto d23_13 rfl, tl_goto _⟩, List.forall_mem_cons.mpr ⟨⟨s_iconst d23_16 rfl, tl_push _ _⟩, List.forall_mem_cons.mpr ⟨⟨s_iload_n d23_17 rfl, tl_iload _ _⟩, List.forall_mem_cons.mpr ⟨⟨s_ishl d23_18, tl_ishl _⟩, List.forall_mem_cons.mpr ⟨⟨s_iret d23_19 rfl, tl_iret⟩, fun _ h => absurd h List.not_mem_nil⟩⟩⟩⟩⟩⟩⟩⟩⟩⟩⟩⟩⟩
def t23 : List (Nat × pO) := t23_0
theorem ok23 : ∀ q ∈ t23, p_Z 23 q := ok23_0
theorem d24_0 : decode (pB 24) 0 = .ok (.aload_n 0, 1) := by decide +kernel
theorem d24_1 : decode (pB 24) 1 = .ok (.iload_n 1, 1) := by decide +kernel
theorem d24_2 : decode (pB 24) 2 = .ok (.invokevirtual 51, 3) := by decide +kernel
theorem d24_5 : decode (pB 24) 5 = .ok (.aload_n 0, 1) := by decide +kernel
theorem d24_6 : decode (pB 24) 6 = .ok (.iload_n 2, 1) := by decide +kernel
theorem d24_7 : decode (pB 24) 7 = .ok (.invokevirtual 51, 3) := by decide +kernel
theorem d24_10 : decode (pB 24) 10 = .ok (.ior, 1) := by decide +kernel
theorem d24_11 : decode (pB 24) 11 = .ok (.ireturn, 1) := by decide +kernel
/-- RX3.setOn -/
def t24_0 : List (Nat × pO) := [(0, o_aload 0 1), (1, o_iload 1 2), (2, o_invV 3 23 1 5), (5, o_aload 0 6), (6, o_iload 2 7), (7, o_invV 3 23 1 10), (10, o_ior 11), (11, o_iret)]
theorem ok24_0 : ∀ q ∈ t24_0, p_Z 24 q := List.forall_mem_cons.mpr ⟨⟨s_aload_n d24_0 rfl, tl_aload _ _⟩, List.forall_mem_cons.mpr ⟨⟨s_iload_n d24_1 rfl, tl_iload _ _⟩, List.forall_mem_cons.mpr ⟨⟨q_invV_23 d24_2 wd_194, tl_invV _ _ _ _⟩, List.forall_mem_cons.mpr ⟨⟨s_aload_n d24_5 rfl, tl_aload _ _⟩, List.forall_mem_cons.mpr ⟨⟨s_iload_n d24_6 rfl, tl_iload _ _⟩, List.forall_mem_cons.mpr ⟨⟨q_invV_23 d24_7 wd_194, tl_invV _ _ _ _⟩, List.forall_mem_cons.mpr ⟨⟨s_ior d24_10, tl_ior _⟩, List.forall_mem_cons.mpr ⟨⟨s_iret d24_11 rfl, tl_iret⟩, fun _ h => absurd h List.not_mem_nil⟩⟩⟩⟩⟩⟩⟩⟩
def t24 : List (Nat × pO) := t24_0
theorem ok24 : ∀ q ∈ t24, p_Z 24 q := ok24_0
theorem d25_0 : decode (pB 25) 0 = .ok (.iconst 0, 1) := by decide +kernel
theorem d25_1 : decode (pB 25) 1 = .ok (.istore_n 1, 1) := by decide +kernel
theorem d25_2 : decode (pB 25) 2 = .ok (.iconst 0, 1) := by decide +kernel
theorem d25_3 : decode (pB 25) 3 = .ok (.istore_n 2, 1) := by decide +kernel
theorem d25_4 : decode (pB 25) 4 = .ok (.iload_n 2, 1) := by decide +kernel
theorem d25_5 : decode (pB 25) 5 = .ok (.aload_n 0, 1) := by decide +kernel
theorem d25_6 : decode (pB 25) 6 = .ok (.getfield 13, 3) := by decide +kernel
theorem d25_9 : decode (pB 25) 9 = .ok (.iconst 0, 1) := by decide +kernel
theorem d25_10 : decode (pB 25) 10 = .ok (.iaload, 1) := by decide +kernel
theorem d25_11 : decode (pB 25) 11 = .ok (.if_icmp .ge 17, 3) := by decide +kernel
theorem d25_14 : decode (pB 25) 14 = .ok (.iload_n 1, 1) := by decide +kernel
theorem d25_15 : decode (pB 25) 15 = .ok (.aload_n 0, 1) := by decide +kernel
theorem d25_16 : decode (pB 25) 16 = .ok (.iload_n 2, 1) := by decide +kernel
theorem d25_17 : decode (pB 25) 17 = .ok (.invokevirtual 51, 3) := by decide +kernel
theorem d25_20 : decode (pB 25) 20 = .ok (.ior, 1) := by decide +kernel
theorem d25_21 : decode (pB 25) 21 = .ok (.istore_n 1, 1) := by decide +kernel
theorem d25_22 : decode (pB 25) 22 = .ok (.iinc 2 1, 3) := by decide +kernel
theorem d25_25 : decode (pB 25) 25 = .ok (.goto (-21), 3) := by decide +kernel
theorem d25_28 : decode (pB 25) 28 = .ok (.iload_n 1, 1) := by decide +kernel
theorem d25_29 : decode (pB 25) 29 = .ok (.ireturn, 1) := by decide +kernel
theorem st1_25_1 : p_st1 25 1 = true := by decide +kernel
theorem st1_25_2 : p_st1 25 2 = true := by decide +kernel
/-- RX3.allWhoSit -/
def t25_0 : List (Nat × pO) := [(0, o_push (.int (nI 0)) 1), (1, o_istore 1 2), (2, o_push (.int (nI 0)) 3), (3, o_istore 2 4), (4, o_iload 2 5), (5, o_aload 0 6), (6, o_getR 3 0 9), (9, o_push (.int (nI 0)) 10), (10, o_iald 11), (11, o_icge 28 14), (14, o_iload 1 15), (15, o_aload 0 16), (16, o_iload 2 17), (17, o_invV 3 23 1 20), (20, o_ior 21), (21, o_istore 1 22), (22, o_iinc 2 (nI 1) 25), (25, o_goto 4), (28, o_iload 1 29), (29, o_iret)]
theorem ok25_0 : ∀ q ∈ t25_0, p_Z 25 q := List.forall_mem_cons.mpr ⟨⟨s_iconst d25_0 rfl, tl_push _ _⟩, List.forall_mem_cons.mpr ⟨⟨s_istore_n d25_1 rfl st1_25_1, tl_istore _ _⟩, List.forall_mem_cons.mpr ⟨⟨s_iconst d25_2 rfl, tl_push _ _⟩, List.forall_mem_cons.mpr ⟨⟨s_istore_n d25_3 rfl st1_25_2, tl_istore _ _⟩, List.forall_mem_cons.mpr ⟨⟨s_iload_n d25_4 rfl, tl_iload _ _⟩, List.forall_mem_cons.mpr ⟨⟨s_aload_n d25_5 rfl, tl_aload _ _⟩, List.forall_mem_cons.mpr ⟨⟨f_getR_3_0 d25_6 wd_41, tl_getR _ _ _⟩, List.forall_mem_cons.mpr ⟨⟨s_iconst d25_9 rfl, tl_push _ _⟩, List.forall_mem_cons.mpr ⟨⟨s_iald d25_10, tl_iald _⟩, List.forall_mem_cons.mpr ⟨⟨s_icge d25_11 rfl, tl_icge _ _⟩, List.forall_mem_cons.mpr ⟨⟨s_iload_n d25_14 rfl, tl_iload _ _⟩, List.forall_mem_cons.mpr ⟨⟨s_aload_n d25_15 rfl, tl_aload _ _⟩, List.forall_mem_cons.mpr ⟨⟨s_iload_n d25_16 rfl, tl_iload _ _⟩, List.forall_mem_cons.mpr ⟨⟨q_invV_23 d25_17 wd_194, tl_invV _ _ _ _⟩, List.forall_mem_cons.mpr ⟨⟨s_ior d25_20, tl_ior _⟩, List.forall_mem_cons.mpr ⟨⟨s_istore_n d25_21 rfl st1_25_1, tl_istore _ _⟩, List.forall_mem_cons.mpr ⟨⟨s_iinc d25_22 rfl st1_25_2, tl_iinc _ _ _⟩, List.forall_mem_cons.mpr ⟨⟨s_goto d25_25 rfl, tl_goto _⟩, List.forall_mem_cons.mpr ⟨⟨s_iload_n d25_28 rfl, tl_iload _ _⟩, List.forall_mem_cons.mpr ⟨⟨s_iret d25_29 rfl, tl_iret⟩, fun _ h => absurd h List.not_mem_nil⟩⟩⟩⟩⟩⟩⟩⟩⟩⟩⟩⟩⟩⟩⟩⟩⟩⟩⟩⟩
def t25 : List (Nat × pO) := t25_0
theorem ok25 : ∀ q ∈ t25, p_Z 25 q := ok25_0
theorem d26_0 : decode (pB 26) 0 = .ok (.aload_n 0, 1) := by decide +kernel
theorem d26_1 : decode (pB 26) 1 = .ok (.getfield 18, 3) := by decide +kernel
theorem d26_4 : decode (pB 26) 4 = .ok (.iload_n 1, 1) := by decide +kernel
theorem d26_5 : decode (pB 26) 5 = .ok (.iaload, 1) := by decide +kernel
theorem d26_6 : decode (pB 26) 6 = .ok (.istore_n 3, 1) := by decide +kernel
theorem d26_7 : decode (pB 26) 7 = .ok (.aload_n 0, 1) := by decide +kernel
theorem d26_8 : decode (pB 26) 8 = .ok (.getfield 18, 3) := by decide +kernel
theorem d26_11 : decode (pB 26) 11 = .ok (.iload_n 1, 1) := by decide +kernel
theorem d26_12 : decode (pB 26) 12 = .ok (.aload_n 0, 1) := by decide +kernel
theorem d26_13 : decode (pB 26) 13 = .ok (.getfield 18, 3) := by decide +kernel
theorem d26_16 : decode (pB 26) 16 = .ok (.iload_n 2, 1) := by decide +kernel
theorem d26_17 : decode (pB 26) 17 = .ok (.iaload, 1) := by decide +kernel
theorem d26_18 : decode (pB 26) 18 = .ok (.iastore, 1) := by decide +kernel
theorem d26_19 : decode (pB 26) 19 = .ok (.aload_n 0, 1) := by decide +kernel
theorem d26_20 : decode (pB 26) 20 = .ok (.getfield 18, 3) := by decide +kernel
theorem d26_23 : decode (pB 26) 23 = .ok (.iload_n 2, 1) := by decide +kernel
theorem d26_24 : decode (pB 26) 24 = .ok (.iload_n 3, 1) := by decide +kernel
theorem d26_25 : decode (pB 26) 25 = .ok (.iastore, 1) := by decide +kernel
theorem d26_26 : decode (pB 26) 26 = .ok (.return_, 1) := by decide +kernel
theorem st1_26_3 : p_st1 26 3 = true := by decide +kernel
/-- RX3.exchange -/
def t26_0 : List (Nat × pO) := [(0, o_aload 0 1), (1, o_getR 3 1 4), (4, o_iload 1 5), (5, o_iald 6), (6, o_istore 3 7), (7, o_aload 0 8), (8, o_getR 3 1 11), (11, o_iload 1 12), (12, o_aload 0 13), (13, o_getR 3 1 16), (16, o_iload 2 17), (17, o_iald 18), (18, o_iast 19), (19, o_aload 0 20), (20, o_getR 3 1 23), (23, o_iload 2 24), (24, o_iload 3 25), (25, o_iast 26), (26, o_vret)]
theorem ok26_0 : ∀ q ∈ t26_0, p_Z 26 q := List.forall_mem_cons.mpr ⟨⟨s_aload_n d26_0 rfl, tl_aload _ _⟩, List.forall_mem_cons.mpr ⟨⟨f_getR_3_1 d26_1 wd_43, tl_getR _ _ _⟩, List.forall_mem_cons.mpr ⟨⟨s_iload_n d26_4 rfl, tl_iload _ _⟩, List.forall_mem_cons.mpr ⟨⟨s_iald d26_5, tl_iald _⟩, List.forall_mem_cons.mpr ⟨⟨s_istore_n d26_6 rfl st1_26_3, tl_istore _ _⟩, List.forall_mem_cons.mpr ⟨⟨s_aload_n d26_7 rfl, tl_aload _ _⟩, List.forall_mem_cons.mpr ⟨⟨f_getR_3_1 d26_8 wd_43, tl_getR _ _ _⟩, List.forall_mem_cons.mpr ⟨⟨s_iload_n d26_11 rfl, tl_iload _ _⟩, List.forall_mem_cons.mpr ⟨⟨s_aload_n d26_12 rfl, tl_aload _ _⟩, List.forall_mem_cons.mpr ⟨⟨f_getR_3_1 d26_13 wd_43, tl_getR _ _ _⟩, List.forall_mem_cons.mpr ⟨⟨s_iload_n d26_16 rfl, tl_iload _ _⟩, List.forall_mem_cons.mpr ⟨⟨s_iald d26_17, tl_iald _⟩, List.forall_mem_cons.mpr ⟨⟨s_iast d26_18, tl_iast _⟩, List.forall_mem_cons.mpr ⟨⟨s_aload_n d26_19 rfl, tl_aload _ _⟩, List.forall_mem_cons.mpr ⟨⟨f_getR_3_1 d26_20 wd_43, tl_getR _ _ _⟩, List.forall_mem_cons.mpr ⟨⟨s_iload_n d26_23 rfl, tl_iload _ _⟩, List.forall_mem_cons.mpr ⟨⟨s_iload_n d26_24 rfl, tl_iload _ _⟩, List.forall_mem_cons.mpr ⟨⟨s_iast d26_25, tl_iast _⟩, List.forall_mem_cons.mpr ⟨⟨s_vret d26_26 rfl, tl_vret⟩, fun _ h => absurd h List.not_mem_nil⟩⟩⟩⟩⟩⟩⟩⟩⟩⟩⟩⟩⟩⟩⟩⟩⟩⟩⟩
def t26 : List (Nat × pO) := t26_0
theorem ok26 : ∀ q ∈ t26, p_Z 26 q := ok26_0
theorem d27_0 : decode (pB 27) 0 = .ok (.aload_n 0, 1) := by decide +kernel
theorem d27_1 : decode (pB 27) 1 = .ok (.getfield 21, 3) := by decide +kernel
theorem d27_4 : decode (pB 27) 4 = .ok (.iload_n 1, 1) := by decide +kernel
theorem d27_5 : decode (pB 27) 5 = .ok (.iaload, 1) := by decide +kernel
theorem d27_6 : decode (pB 27) 6 = .ok (.iload_n 2, 1) := by decide +kernel
theorem d27_7 : decode (pB 27) 7 = .ok (.ishr, 1) := by decide +kernel
theorem d27_8 : decode (pB 27) 8 = .ok (.iconst 1, 1) := by decide +kernel
theorem d27_9 : decode (pB 27) 9 = .ok (.iand, 1) := by decide +kernel
theorem d27_10 : decode (pB 27) 10 = .ok (.ifCond .eq 5, 3) := by decide +kernel
theorem d27_13 : decode (pB 27) 13 = .ok (.iconst 1, 1) := by decide +kernel
theorem d27_14 : decode (pB 27) 14 = .ok (.ireturn, 1) := by decide +kernel
theorem d27_15 : decode (pB 27) 15 = .ok (.aload_n 0, 1) := by decide +kernel
theorem d27_16 : decode (pB 27) 16 = .ok (.getfield 24, 3) := by decide +kernel
theorem d27_19 : decode (pB 27) 19 = .ok (.iload_n 1, 1) := by decide +kernel
theorem d27_20 : decode (pB 27) 20 = .ok (.iaload, 1) := by decide +kernel
theorem d27_21 : decode (pB 27) 21 = .ok (.iload_n 2, 1) := by decide +kernel
theorem d27_22 : decode (pB 27) 22 = .ok (.ishr, 1) := by decide +kernel
theorem d27_23 : decode (pB 27) 23 = .ok (.iconst 1, 1) := by decide +kernel
theorem d27_24 : decode (pB 27) 24 = .ok (.iand, 1) := by decide +kernel
theorem d27_25 : decode (pB 27) 25 = .ok (.ifCond .eq 7, 3) := by decide +kernel
theorem d27_28 : decode (pB 27) 28 = .ok (.iconst (-1), 1) := by decide +kernel
theorem d27_29 : decode (pB 27) 29 = .ok (.goto 4, 3) := by decide +kernel
theorem d27_32 : decode (pB 27) 32 = .ok (.iconst 0, 1) := by decide +kernel
theorem d27_33 : decode (pB 27) 33 = .ok (.ireturn, 1) := by decide +kernel
/-- RX3.howAre -/
def t27_0 : List (Nat × pO) := [(0, o_aload 0 1), (1, o_getR 3 2 4), (4, o_iload 1 5), (5, o_iald 6), (6, o_iload 2 7), (7, o_ishr 8), (8, o_push (.int (nI 1)) 9), (9, o_iand 10), (10, o_ifeq 15 13), (13, o_push (.int (nI 1)) 14), (14, o_iret), (15, o_aload 0 16), (16, o_getR 3 3 19), (19, o_iload 1 20), (20, o_iald 21), (21, o_iload 2 22), (22, o_ishr 23), (23, o_push (.int (nI 1)) 24), (24, o_iand 25), (25, o_ifeq 32 28), (28, o_push (.int (nM 1)) 29), (29, o_goto 33), (32, o_push (.int (nI 0)) 33), (33, o_iret)]
theorem ok27_0 : ∀ q ∈ t27_0, p_Z 27 q := List.forall_mem_cons.mpr ⟨⟨s_aload_n d27_0 rfl, tl_aload _ _⟩, List.forall_mem_cons.mpr ⟨⟨f_getR_3_2 d27_1 wd_45, tl_getR _ _ _⟩, List.forall_mem_cons.mpr ⟨⟨s_iload_n d27_4 rfl, tl_iload _ _⟩, List.forall_mem_cons.mpr ⟨⟨s_iald d27_5, tl_iald _⟩, List.forall_mem_cons.mpr ⟨⟨s_iload_n d27_6 rfl, tl_iload _ _⟩, List.forall_mem_cons.mpr ⟨⟨s_ishr d27_7, tl_ishr _⟩, List.forall_mem_cons.mpr ⟨⟨s_iconst d27_8 rfl, tl_push _ _⟩, List.forall_mem_cons.mpr ⟨⟨s_iand d27_9, tl_iand _⟩, List.forall_mem_cons.mpr ⟨⟨s_ifeq d27_10 rfl, tl_ifeq _ _⟩, List.forall_mem_cons.mpr ⟨⟨s_iconst d27_13 rfl, tl_push _ _⟩, List.forall_mem_cons.mpr ⟨⟨s_iret d27_14 rfl, tl_iret⟩, List.forall_mem_cons.mpr ⟨⟨s_aload_n d27_15 rfl, tl_aload _ _⟩, List.forall_mem_cons.mpr ⟨⟨f_getR_3_3 d27_16 wd_47, tl_getR _ _ _⟩, List.forall_mem_cons.mpr ⟨⟨s_iload_n d27_19 rfl, tl_iload _ _⟩, List.forall_mem_cons.mpr ⟨⟨s_iald d27_20, tl_iald _⟩, List.forall_mem_cons.mpr ⟨⟨s_iload_n d27_21 rfl, tl_iload _ _⟩, List.forall_mem_cons.mpr ⟨⟨s_ishr d27_22, tl_ishr _⟩, List.forall_mem_cons.mpr ⟨⟨s_iconst d27_23 rfl, tl_push _ _⟩, List.forall_mem_cons.mpr ⟨⟨s_iand d27_24, tl_iand _⟩, List.forall_mem_cons.mpr ⟨⟨s_ifeq d27_25 rfl, tl_ifeq _ _⟩, List.forall_mem_cons.mpr ⟨⟨s_iconst d27_28 rfl, tl_push _ _⟩, List.forall_mem_cons.mpr ⟨⟨s_goto d27_29 rfl, tl_goto _⟩, List.forall_mem_cons.mpr ⟨⟨s_iconst d27_32 rfl, tl_push _ _⟩, List.forall_mem_cons.mpr ⟨⟨s_iret d27_33 rfl, tl_iret⟩, fun _ h => absurd h List.not_mem_nil⟩⟩⟩⟩⟩⟩⟩⟩⟩⟩⟩⟩⟩⟩⟩⟩⟩⟩⟩⟩⟩⟩⟩⟩
def t27 : List (Nat × pO) := t27_0
theorem ok27 : ∀ q ∈ t27, p_Z 27 q := ok27_0
theorem d28_0 : decode (pB 28) 0 = .ok (.iconst 1, 1) := by decide +kernel
theorem d28_1 : decode (pB 28) 1 = .ok (.iload_n 2, 1) := by decide +kernel
theorem d28_2 : decode (pB 28) 2 = .ok (.ishl, 1) := by decide +kernel
theorem d28_3 : decode (pB 28) 3 = .ok (.istore 4, 2) := by decide +kernel
theorem d28_5 : decode (pB 28) 5 = .ok (.aload_n 0, 1) := by decide +kernel
theorem d28_6 : decode (pB 28) 6 = .ok (.getfield 21, 3) := by decide +kernel
theorem d28_9 : decode (pB 28) 9 = .ok (.iload_n 1, 1) := by decide +kernel
theorem d28_10 : decode (pB 28) 10 = .ok (.iload_n 3, 1) := by decide +kernel
theorem d28_11 : decode (pB 28) 11 = .ok (.iconst 1, 1) := by decide +kernel
theorem d28_12 : decode (pB 28) 12 = .ok (.if_icmp .ne 15, 3) := by decide +kernel
theorem d28_15 : decode (pB 28) 15 = .ok (.aload_n 0, 1) := by decide +kernel
theorem d28_16 : decode (pB 28) 16 = .ok (.getfield 21, 3) := by decide +kernel
theorem d28_19 : decode (pB 28) 19 = .ok (.iload_n 1, 1) := by decide +kernel
theorem d28_20 : decode (pB 28) 20 = .ok (.iaload, 1) := by decide +kernel
theorem d28_21 : decode (pB 28) 21 = .ok (.iload 4, 2) := by decide +kernel
theorem d28_23 : decode (pB 28) 23 = .ok (.ior, 1) := by decide +kernel
theorem d28_24 : decode (pB 28) 24 = .ok (.goto 14, 3) := by decide +kernel
theorem d28_27 : decode (pB 28) 27 = .ok (.aload_n 0, 1) := by decide +kernel
theorem d28_28 : decode (pB 28) 28 = .ok (.getfield 21, 3) := by decide +kernel
theorem d28_31 : decode (pB 28) 31 = .ok (.iload_n 1, 1) := by decide +kernel
theorem d28_32 : decode (pB 28) 32 = .ok (.iaload, 1) := by decide +kernel
theorem d28_33 : decode (pB 28) 33 = .ok (.iload 4, 2) := by decide +kernel
theorem d28_35 : decode (pB 28) 35 = .ok (.iconst (-1), 1) := by decide +kernel
theorem d28_36 : decode (pB 28) 36 = .ok (.ixor, 1) := by decide +kernel
theorem d28_37 : decode (pB 28) 37 = .ok (.iand, 1) := by decide +kernel
theorem d28_38 : decode (pB 28) 38 = .ok (.iastore, 1) := by decide +kernel
theorem d28_39 : decode (pB 28) 39 = .ok (.aload_n 0, 1) := by decide +kernel
theorem d28_40 : decode (pB 28) 40 = .ok (.getfield 24, 3) := by decide +kernel
theorem d28_43 : decode (pB 28) 43 = .ok (.iload_n 1, 1) := by decide +kernel
theorem d28_44 : decode (pB 28) 44 = .ok (.iload_n 3, 1) := by decide +kernel
theorem d28_45 : decode (pB 28) 45 = .ok (.iconst (-1), 1) := by decide +kernel
theorem d28_46 : decode (pB 28) 46 = .ok (.if_icmp .ne 15, 3) := by decide +kernel
theorem d28_49 : decode (pB 28) 49 = .ok (.aload_n 0, 1) := by decide +kernel
theorem d28_50 : decode (pB 28) 50 = .ok (.getfield 24, 3) := by decide +kernel
theorem d28_53 : decode (pB 28) 53 = .ok (.iload_n 1, 1) := by decide +kernel
theorem d28_54 : decode (pB 28) 54 = .ok (.iaload, 1) := by decide +kernel
theorem d28_55 : decode (pB 28) 55 = .ok (.iload 4, 2) := by decide +kernel
theorem d28_57 : decode (pB 28) 57 = .ok (.ior, 1) := by decide +kernel
theorem d28_58 : decode (pB 28) 58 = .ok (.goto 14, 3) := by decide +kernel
theorem d28_61 : decode (pB 28) 61 = .ok (.aload_n 0, 1) := by decide +kernel
theorem d28_62 : decode (pB 28) 62 = .ok (.getfield 24, 3) := by decide +kernel
theorem d28_65 : decode (pB 28) 65 = .ok (.iload_n 1, 1) := by decide +kernel
theorem d28_66 : decode (pB 28) 66 = .ok (.iaload, 1) := by decide +kernel
theorem d28_67 : decode (pB 28) 67 = .ok (.iload 4, 2) := by decide +kernel
theorem d28_69 : decode (pB 28) 69 = .ok (.iconst (-1), 1) := by decide +kernel
theorem d28_70 : decode (pB 28) 70 = .ok (.ixor, 1) := by decide +kernel
theorem d28_71 : decode (pB 28) 71 = .ok (.iand, 1) := by decide +kernel
theorem d28_72 : decode (pB 28) 72 = .ok (.iastore, 1) := by decide +kernel
theorem d28_73 : decode (pB 28) 73 = .ok (.return_, 1) := by decide +kernel
theorem st1_28_4 : p_st1 28 4 = true := by decide +kernel
/-- RX3.makeBe -/
def t28_0 : List (Nat × pO) := [(0, o_push (.int (nI 1)) 1), (1, o_iload 2 2), (2, o_ishl 3), (3, o_istore 4 5), (5, o_aload 0 6), (6, o_getR 3 2 9), (9, o_iload 1 10), (10, o_iload 3 11), (11, o_push (.int (nI 1)) 12), (12, o_icne 27 15), (15, o_aload 0 16), (16, o_getR 3 2 19), (19, o_iload 1 20), (20, o_iald 21), (21, o_iload 4 23), (23, o_ior 24), (24, o_goto 38), (27, o_aload 0 28), (28, o_getR 3 2 31), (31, o_iload 1 32), (32, o_iald 33), (33, o_iload 4 35), (35, o_push (.int (nM 1)) 36), (36, o_ixor 37), (37, o_iand 38), (38, o_iast 39), (39, o_aload 0 40), (40, o_getR 3 3 43), (43, o_iload 1 44), (44, o_iload 3 45), (45, o_push (.int (nM 1)) 46), (46, o_icne 61 49), (49, o_aload 0 50), (50, o_getR 3 3 53), (53, o_iload 1 54), (54, o_iald 55), (55, o_iload 4 57), (57, o_ior 58), (58, o_goto 72), (61, o_aload 0 62)]
theorem ok28_0 : ∀ q ∈ t28_0, p_Z 28 q := List.forall_mem_cons.mpr ⟨⟨s_iconst d28_0 rfl, tl_push _ _⟩, List.forall_mem_cons.mpr ⟨⟨s_iload_n d28_1 rfl, tl_iload _ _⟩, List.forall_mem_cons.mpr ⟨⟨s_ishl d28_2, tl_ishl _⟩, List.forall_mem_cons.mpr ⟨⟨s_istore d28_3 st1_28_4, tl_istore _ _⟩, List.forall_mem_cons.mpr ⟨⟨s_aload_n d28_5 rfl, tl_aload _ _⟩, List.forall_mem_cons.mpr ⟨⟨f_getR_3_2 d28_6 wd_45, tl_getR _ _ _⟩, List.forall_mem_cons.mpr ⟨⟨s_iload_n d28_9 rfl, tl_iload _ _⟩, List.forall_mem_cons.mpr ⟨⟨s_iload_n d28_10 rfl, tl_iload _ _⟩, List.forall_mem_cons.mpr ⟨⟨s_iconst d28_11 rfl, tl_push _ _⟩, List.forall_mem_cons.mpr ⟨⟨s_icne d28_12 rfl, tl_icne _ _⟩, List.forall_mem_cons.mpr ⟨⟨s_aload_n d28_15 rfl, tl_aload _ _⟩, List.forall_mem_cons.mpr ⟨⟨f_getR_3_2 d28_16 wd_45, tl_getR _ _ _⟩, List.forall_mem_cons.mpr ⟨⟨s_iload_n d28_19 rfl, tl_iload _ _⟩, List.forall_mem_cons.mpr ⟨⟨s_iald d28_20, tl_iald _⟩, List.forall_mem_cons.mpr ⟨⟨s_iload d28_21, tl_iload _ _⟩, List.forall_mem_cons.mpr ⟨⟨s_ior d28_23, tl_ior _⟩, List.forall_mem_cons.mpr ⟨⟨s_goto d28_24 rfl, tl_goto _⟩, List.forall_mem_cons.mpr ⟨⟨s_aload_n d28_27 rfl, tl_aload _ _⟩, List.forall_mem_cons.mpr ⟨⟨f_getR_3_2 d28_28 wd_45, tl_getR _ _ _⟩, List.forall_mem_cons.mpr ⟨⟨s_iload_n d28_31 rfl, tl_iload _ _⟩, List.forall_mem_cons.mpr ⟨⟨s_iald d28_32, tl_iald _⟩, List.forall_mem_cons.mpr ⟨⟨s_iload d28_33, tl_iload _ _⟩, List.forall_mem_cons.mpr ⟨⟨s_iconst d28_35 rfl, tl_push _ _⟩, List.forall_mem_cons.mpr ⟨⟨s_ixor d28_36, tl_ixor _⟩, List.forall_mem_cons.mpr ⟨⟨s_iand d28_37, tl_iand _⟩, List.forall_mem_cons.mpr ⟨⟨s_iast d28_38, tl_iast _⟩, List.forall_mem_cons.mpr ⟨⟨s_aload_n d28_39 rfl, tl_aload _ _⟩, List.forall_mem_cons.mpr ⟨⟨f_getR_3_3 d28_40 wd_47, tl_getR _ _ _⟩, List.forall_mem_cons.mpr ⟨⟨s_iload_n d28_43 rfl, tl_iload _ _⟩, List.forall_mem_cons.mpr ⟨⟨s_iload_n d28_44 rfl, tl_iload _ _⟩, List.forall_mem_cons.mpr ⟨⟨s_iconst d28_45 rfl, tl_push _ _⟩, List.forall_mem_cons.mpr ⟨⟨s_icne d28_46 rfl, tl_icne _ _⟩, List.forall_mem_cons.mpr ⟨⟨s_aload_n d28_49 rfl, tl_aload _ _⟩, List.forall_mem_cons.mpr ⟨⟨f_getR_3_3 d28_50 wd_47, tl_getR _ _ _⟩, List.forall_mem_cons.mpr ⟨⟨s_iload_n d28_53 rfl, tl_iload _ _⟩, List.forall_mem_cons.mpr ⟨⟨s_iald d28_54, tl_iald _⟩, List.forall_mem_cons.mpr ⟨⟨s_iload d28_55, tl_iload _ _⟩, List.forall_mem_cons.mpr ⟨⟨s_ior d28_57, tl_ior _⟩, List.forall_mem_cons.mpr ⟨⟨s_goto d28_58 rfl, tl_goto _⟩, List.forall_mem_cons.mpr ⟨⟨s_aload_n d28_61 rfl, tl_aload _ _⟩, fun _ h => absurd h List.not_mem_nil⟩⟩⟩⟩⟩⟩⟩⟩⟩⟩⟩⟩⟩⟩⟩⟩⟩⟩⟩⟩⟩⟩⟩⟩⟩⟩⟩⟩⟩⟩⟩⟩⟩⟩⟩⟩⟩⟩⟩⟩
/-- RX3.makeBe -/
def t28_1 : List (Nat × pO) := [(62, o_getR 3 3 65), (65, o_iload 1 66), (66, o_iald 67), (67, o_iload 4 69), (69, o_push (.int (nM 1)) 70), (70, o_ixor 71), (71, o_iand 72), (72, o_iast 73), (73, o_vret)]
theorem ok28_1 : ∀ q ∈ t28_1, p_Z 28 q := List.forall_mem_cons.mpr ⟨⟨f_getR_3_3 d28_62 wd_47, tl_getR _ _ _⟩, List.forall_mem_cons.mpr ⟨⟨s_iload_n d28_65 rfl, tl_iload _ _⟩, List.forall_mem_cons.mpr ⟨⟨s_iald d28_66, tl_iald _⟩, List.forall_mem_cons.mpr ⟨⟨s_iload d28_67, tl_iload _ _⟩, List.forall_mem_cons.mpr ⟨⟨s_iconst d28_69 rfl, tl_push _ _⟩, List.forall_mem_cons.mpr ⟨⟨s_ixor d28_70, tl_ixor _⟩, List.forall_mem_cons.mpr ⟨⟨s_iand d28_71, tl_iand _⟩, List.forall_mem_cons.mpr ⟨⟨s_iast d28_72, tl_iast _⟩, List.forall_mem_cons.mpr ⟨⟨s_vret d28_73 rfl, tl_vret⟩, fun _ h => absurd h List.not_mem_nil⟩⟩⟩⟩⟩⟩⟩⟩⟩
def t28 : List (Nat × pO) := t28_0 ++ (t28_1)
theorem ok28 : ∀ q ∈ t28, p_Z 28 q := List.forall_mem_append.mpr ⟨ok28_0, ok28_1⟩
theorem d29_0 : decode (pB 29) 0 = .ok (.aload_n 0, 1) := by decide +kernel
theorem d29_1 : decode (pB 29) 1 = .ok (.iload_n 1, 1) := by decide +kernel
theorem d29_2 : decode (pB 29) 2 = .ok (.invokevirtual 47, 3) := by decide +kernel
theorem d29_5 : decode (pB 29) 5 = .ok (.istore_n 3, 1) := by decide +kernel
theorem d29_6 : decode (pB 29) 6 = .ok (.aload_n 0, 1) := by decide +kernel
theorem d29_7 : decode (pB 29) 7 = .ok (.iload_n 2, 1) := by decide +kernel
theorem d29_8 : decode (pB 29) 8 = .ok (.invokevirtual 47, 3) := by decide +kernel
theorem d29_11 : decode (pB 29) 11 = .ok (.istore 4, 2) := by decide +kernel
theorem d29_13 : decode (pB 29) 13 = .ok (.iload_n 3, 1) := by decide +kernel
theorem d29_14 : decode (pB 29) 14 = .ok (.bipush (-6), 2) := by decide +kernel
theorem d29_16 : decode (pB 29) 16 = .ok (.if_icmp .eq 10, 3) := by decide +kernel
theorem d29_19 : decode (pB 29) 19 = .ok (.iload 4, 2) := by decide +kernel
theorem d29_21 : decode (pB 29) 21 = .ok (.bipush (-6), 2) := by decide +kernel
theorem d29_23 : decode (pB 29) 23 = .ok (.if_icmp .ne 7, 3) := by decide +kernel
theorem d29_26 : decode (pB 29) 26 = .ok (.iconst 0, 1) := by decide +kernel
theorem d29_27 : decode (pB 29) 27 = .ok (.goto 10, 3) := by decide +kernel
theorem d29_30 : decode (pB 29) 30 = .ok (.aload_n 0, 1) := by decide +kernel
theorem d29_31 : decode (pB 29) 31 = .ok (.iload_n 3, 1) := by decide +kernel
theorem d29_32 : decode (pB 29) 32 = .ok (.iload 4, 2) := by decide +kernel
theorem d29_34 : decode (pB 29) 34 = .ok (.invokevirtual 54, 3) := by decide +kernel
theorem d29_37 : decode (pB 29) 37 = .ok (.ireturn, 1) := by decide +kernel
theorem st1_29_3 : p_st1 29 3 = true := by decide +kernel
theorem st1_29_4 : p_st1 29 4 = true := by decide +kernel
/-- RX3.howAreOn -/
def t29_0 : List (Nat × pO) := [(0, o_aload 0 1), (1, o_iload 1 2), (2, o_invV 3 21 1 5), (5, o_istore 3 6), (6, o_aload 0 7), (7, o_iload 2 8), (8, o_invV 3 21 1 11), (11, o_istore 4 13), (13, o_iload 3 14), (14, o_push (.int (nM 6)) 16), (16, o_iceq 26 19), (19, o_iload 4 21), (21, o_push (.int (nM 6)) 23), (23, o_icne 30 26), (26, o_push (.int (nI 0)) 27), (27, o_goto 37), (30, o_aload 0 31), (31, o_iload 3 32), (32, o_iload 4 34), (34, o_invV 3 27 2 37), (37, o_iret)]
theorem ok29_0 : ∀ q ∈ t29_0, p_Z 29 q := List.forall_mem_cons.mpr ⟨⟨s_aload_n d29_0 rfl, tl_aload _ _⟩, List.forall_mem_cons.mpr ⟨⟨s_iload_n d29_1 rfl, tl_iload _ _⟩, List.forall_mem_cons.mpr ⟨⟨q_invV_21 d29_2 wd_198, tl_invV _ _ _ _⟩, List.forall_mem_cons.mpr ⟨⟨s_istore_n d29_5 rfl st1_29_3, tl_istore _ _⟩, List.forall_mem_cons.mpr ⟨⟨s_aload_n d29_6 rfl, tl_aload _ _⟩, List.forall_mem_cons.mpr ⟨⟨s_iload_n d29_7 rfl, tl_iload _ _⟩, List.forall_mem_cons.mpr ⟨⟨q_invV_21 d29_8 wd_198, tl_invV _ _ _ _⟩, List.forall_mem_cons.mpr ⟨⟨s_istore d29_11 st1_29_4, tl_istore _ _⟩, List.forall_mem_cons.mpr ⟨⟨s_iload_n d29_13 rfl, tl_iload _ _⟩, List.forall_mem_cons.mpr ⟨⟨s_bipush d29_14 rfl, tl_push _ _⟩, List.forall_mem_cons.mpr ⟨⟨s_iceq d29_16 rfl, tl_iceq _ _⟩, List.forall_mem_cons.mpr ⟨⟨s_iload d29_19, tl_iload _ _⟩, List.forall_mem_cons.mpr ⟨⟨s_bipush d29_21 rfl, tl_push _ _⟩, List.forall_mem_cons.mpr ⟨⟨s_icne d29_23 rfl, tl_icne _ _⟩, List.forall_mem_cons.mpr ⟨⟨s_iconst d29_26 rfl, tl_push _ _⟩, List.forall_mem_cons.mpr ⟨⟨s_goto d29_27 rfl, tl_goto _⟩, List.forall_mem_cons.mpr ⟨⟨s_aload_n d29_30 rfl, tl_aload _ _⟩, List.forall_mem_cons.mpr ⟨⟨s_iload_n d29_31 rfl, tl_iload _ _⟩, List.forall_mem_cons.mpr ⟨⟨s_iload d29_32, tl_iload _ _⟩, List.forall_mem_cons.mpr ⟨⟨q_invV_27 d29_34 wd_230, tl_invV _ _ _ _⟩, List.forall_mem_cons.mpr ⟨⟨s_iret d29_37 rfl, tl_iret⟩, fun _ h => absurd h List.not_mem_nil⟩⟩⟩⟩⟩⟩⟩⟩⟩⟩⟩⟩⟩⟩⟩⟩⟩⟩⟩⟩⟩
def t29 : List (Nat × pO) := t29_0
theorem ok29 : ∀ q ∈ t29, p_Z 29 q := ok29_0
theorem d30_0 : decode (pB 30) 0 = .ok (.iconst 0, 1) := by decide +kernel
theorem d30_1 : decode (pB 30) 1 = .ok (.istore_n 3, 1) := by decide +kernel
theorem d30_2 : decode (pB 30) 2 = .ok (.iconst 0, 1) := by decide +kernel
theorem d30_3 : decode (pB 30) 3 = .ok (.istore 4, 2) := by decide +kernel
theorem d30_5 : decode (pB 30) 5 = .ok (.iload 4, 2) := by decide +kernel
theorem d30_7 : decode (pB 30) 7 = .ok (.aload_n 0, 1) := by decide +kernel
theorem d30_8 : decode (pB 30) 8 = .ok (.getfield 13, 3) := by decide +kernel
theorem d30_11 : decode (pB 30) 11 = .ok (.iconst 0, 1) := by decide +kernel
theorem d30_12 : decode (pB 30) 12 = .ok (.iaload, 1) := by decide +kernel
theorem d30_13 : decode (pB 30) 13 = .ok (.if_icmp .ge 28, 3) := by decide +kernel
theorem d30_16 : decode (pB 30) 16 = .ok (.aload_n 0, 1) := by decide +kernel
theorem d30_17 : decode (pB 30) 17 = .ok (.iload 4, 2) := by decide +kernel
theorem d30_19 : decode (pB 30) 19 = .ok (.aload_n 2, 1) := by decide +kernel
theorem d30_20 : decode (pB 30) 20 = .ok (.iload 4, 2) := by decide +kernel
theorem d30_22 : decode (pB 30) 22 = .ok (.invokevirtual 58, 3) := by decide +kernel
theorem d30_25 : decode (pB 30) 25 = .ok (.invokevirtual 63, 3) := by decide +kernel
theorem d30_28 : decode (pB 30) 28 = .ok (.iload_n 1, 1) := by decide +kernel
theorem d30_29 : decode (pB 30) 29 = .ok (.if_icmp .ne 6, 3) := by decide +kernel
theorem d30_32 : decode (pB 30) 32 = .ok (.iinc 3 1, 3) := by decide +kernel
theorem d30_35 : decode (pB 30) 35 = .ok (.iinc 4 1, 3) := by decide +kernel
theorem d30_38 : decode (pB 30) 38 = .ok (.goto (-33), 3) := by decide +kernel
theorem d30_41 : decode (pB 30) 41 = .ok (.iload_n 3, 1) := by decide +kernel
theorem d30_42 : decode (pB 30) 42 = .ok (.ireturn, 1) := by decide +kernel
theorem st1_30_3 : p_st1 30 3 = true := by decide +kernel
theorem st1_30_4 : p_st1 30 4 = true := by decide +kernel
/-- RX3.pairsWhoFace -/
def t30_0 : List (Nat × pO) := [(0, o_push (.int (nI 0)) 1), (1, o_istore 3 2), (2, o_push (.int (nI 0)) 3), (3, o_istore 4 5), (5, o_iload 4 7), (7, o_aload 0 8), (8, o_getR 3 0 11), (11, o_push (.int (nI 0)) 12), (12, o_iald 13), (13, o_icge 41 16), (16, o_aload 0 17), (17, o_iload 4 19), (19, o_aload 2 20), (20, o_iload 4 22), (22, o_invV 0 13 1 25), (25, o_invV 3 29 2 28), (28, o_iload 1 29), (29, o_icne 35 32), (32, o_iinc 3 (nI 1) 35), (35, o_iinc 4 (nI 1) 38), (38, o_goto 5), (41, o_iload 3 42), (42, o_iret)]
theorem ok30_0 : ∀ q ∈ t30_0, p_Z 30 q := List.forall_mem_cons.mpr ⟨⟨s_iconst d30_0 rfl, tl_push _ _⟩, List.forall_mem_cons.mpr ⟨⟨s_istore_n d30_1 rfl st1_30_3, tl_istore _ _⟩, List.forall_mem_cons.mpr ⟨⟨s_iconst d30_2 rfl, tl_push _ _⟩, List.forall_mem_cons.mpr ⟨⟨s_istore d30_3 st1_30_4, tl_istore _ _⟩, List.forall_mem_cons.mpr ⟨⟨s_iload d30_5, tl_iload _ _⟩, List.forall_mem_cons.mpr ⟨⟨s_aload_n d30_7 rfl, tl_aload _ _⟩, List.forall_mem_cons.mpr ⟨⟨f_getR_3_0 d30_8 wd_41, tl_getR _ _ _⟩, List.forall_mem_cons.mpr ⟨⟨s_iconst d30_11 rfl, tl_push _ _⟩, List.forall_mem_cons.mpr ⟨⟨s_iald d30_12, tl_iald _⟩, List.forall_mem_cons.mpr ⟨⟨s_icge d30_13 rfl, tl_icge _ _⟩, List.forall_mem_cons.mpr ⟨⟨s_aload_n d30_16 rfl, tl_aload _ _⟩, List.forall_mem_cons.mpr ⟨⟨s_iload d30_17, tl_iload _ _⟩, List.forall_mem_cons.mpr ⟨⟨s_aload_n d30_19 rfl, tl_aload _ _⟩, List.forall_mem_cons.mpr ⟨⟨s_iload d30_20, tl_iload _ _⟩, List.forall_mem_cons.mpr ⟨⟨q_invV_13 d30_22 wd_214, tl_invV _ _ _ _⟩, List.forall_mem_cons.mpr ⟨⟨q_invV_29 d30_25 wd_226, tl_invV _ _ _ _⟩, List.forall_mem_cons.mpr ⟨⟨s_iload_n d30_28 rfl, tl_iload _ _⟩, List.forall_mem_cons.mpr ⟨⟨s_icne d30_29 rfl, tl_icne _ _⟩, List.forall_mem_cons.mpr ⟨⟨s_iinc d30_32 rfl st1_30_3, tl_iinc _ _ _⟩, List.forall_mem_cons.mpr ⟨⟨s_iinc d30_35 rfl st1_30_4, tl_iinc _ _ _⟩, List.forall_mem_cons.mpr ⟨⟨s_goto d30_38 rfl, tl_goto _⟩, List.forall_mem_cons.mpr ⟨⟨s_iload_n d30_41 rfl, tl_iload _ _⟩, List.forall_mem_cons.mpr ⟨⟨s_iret d30_42 rfl, tl_iret⟩, fun _ h => absurd h List.not_mem_nil⟩⟩⟩⟩⟩⟩⟩⟩⟩⟩⟩⟩⟩⟩⟩⟩⟩⟩⟩⟩⟩⟩⟩
def t30 : List (Nat × pO) := t30_0
theorem ok30 : ∀ q ∈ t30, p_Z 30 q := ok30_0
theorem d31_0 : decode (pB 31) 0 = .ok (.iconst 0, 1) := by decide +kernel
theorem d31_1 : decode (pB 31) 1 = .ok (.istore_n 3, 1) := by decide +kernel
theorem d31_2 : decode (pB 31) 2 = .ok (.iload_n 3, 1) := by decide +kernel
theorem d31_3 : decode (pB 31) 3 = .ok (.iload_n 2, 1) := by decide +kernel
theorem d31_4 : decode (pB 31) 4 = .ok (.if_icmp .ge 45, 3) := by decide +kernel
theorem d31_7 : decode (pB 31) 7 = .ok (.iload_n 2, 1) := by decide +kernel
theorem d31_8 : decode (pB 31) 8 = .ok (.iload_n 3, 1) := by decide +kernel
theorem d31_9 : decode (pB 31) 9 = .ok (.iadd, 1) := by decide +kernel
theorem d31_10 : decode (pB 31) 10 = .ok (.aload_n 1, 1) := by decide +kernel
theorem d31_11 : decode (pB 31) 11 = .ok (.getfield 66, 3) := by decide +kernel
theorem d31_14 : decode (pB 31) 14 = .ok (.if_icmp .ge 35, 3) := by decide +kernel
theorem d31_17 : decode (pB 31) 17 = .ok (.aload_n 0, 1) := by decide +kernel
theorem d31_18 : decode (pB 31) 18 = .ok (.aload_n 1, 1) := by decide +kernel
theorem d31_19 : decode (pB 31) 19 = .ok (.iload_n 2, 1) := by decide +kernel
theorem d31_20 : decode (pB 31) 20 = .ok (.iconst 1, 1) := by decide +kernel
theorem d31_21 : decode (pB 31) 21 = .ok (.isub, 1) := by decide +kernel
theorem d31_22 : decode (pB 31) 22 = .ok (.iload_n 3, 1) := by decide +kernel
theorem d31_23 : decode (pB 31) 23 = .ok (.isub, 1) := by decide +kernel
theorem d31_24 : decode (pB 31) 24 = .ok (.invokevirtual 69, 3) := by decide +kernel
theorem d31_27 : decode (pB 31) 27 = .ok (.aload_n 1, 1) := by decide +kernel
theorem d31_28 : decode (pB 31) 28 = .ok (.iload_n 2, 1) := by decide +kernel
theorem d31_29 : decode (pB 31) 29 = .ok (.iload_n 3, 1) := by decide +kernel
theorem d31_30 : decode (pB 31) 30 = .ok (.iadd, 1) := by decide +kernel
theorem d31_31 : decode (pB 31) 31 = .ok (.invokevirtual 69, 3) := by decide +kernel
theorem d31_34 : decode (pB 31) 34 = .ok (.invokevirtual 63, 3) := by decide +kernel
theorem d31_37 : decode (pB 31) 37 = .ok (.iconst (-1), 1) := by decide +kernel
theorem d31_38 : decode (pB 31) 38 = .ok (.if_icmp .ne 5, 3) := by decide +kernel
theorem d31_41 : decode (pB 31) 41 = .ok (.iconst 1, 1) := by decide +kernel
theorem d31_42 : decode (pB 31) 42 = .ok (.ireturn, 1) := by decide +kernel
theorem d31_43 : decode (pB 31) 43 = .ok (.iinc 3 1, 3) := by decide +kernel
theorem d31_46 : decode (pB 31) 46 = .ok (.goto (-44), 3) := by decide +kernel
theorem d31_49 : decode (pB 31) 49 = .ok (.iconst 0, 1) := by decide +kernel
theorem d31_50 : decode (pB 31) 50 = .ok (.ireturn, 1) := by decide +kernel
theorem st1_31_3 : p_st1 31 3 = true := by decide +kernel
/-- RX3.foesWouldMeet -/
def t31_0 : List (Nat × pO) := [(0, o_push (.int (nI 0)) 1), (1, o_istore 3 2), (2, o_iload 3 3), (3, o_iload 2 4), (4, o_icge 49 7), (7, o_iload 2 8), (8, o_iload 3 9), (9, o_iadd 10), (10, o_aload 1 11), (11, o_getI 0 0 14), (14, o_icge 49 17), (17, o_aload 0 18), (18, o_aload 1 19), (19, o_iload 2 20), (20, o_push (.int (nI 1)) 21), (21, o_isub 22), (22, o_iload 3 23), (23, o_isub 24), (24, o_invV 0 9 1 27), (27, o_aload 1 28), (28, o_iload 2 29), (29, o_iload 3 30), (30, o_iadd 31), (31, o_invV 0 9 1 34), (34, o_invV 3 29 2 37), (37, o_push (.int (nM 1)) 38), (38, o_icne 43 41), (41, o_push (.int (nI 1)) 42), (42, o_zret), (43, o_iinc 3 (nI 1) 46), (46, o_goto 2), (49, o_push (.int (nI 0)) 50), (50, o_zret)]
theorem ok31_0 : ∀ q ∈ t31_0, p_Z 31 q := List.forall_mem_cons.mpr ⟨⟨s_iconst d31_0 rfl, tl_push _ _⟩, List.forall_mem_cons.mpr ⟨⟨s_istore_n d31_1 rfl st1_31_3, tl_istore _ _⟩, List.forall_mem_cons.mpr ⟨⟨s_iload_n d31_2 rfl, tl_iload _ _⟩, List.forall_mem_cons.mpr ⟨⟨s_iload_n d31_3 rfl, tl_iload _ _⟩, List.forall_mem_cons.mpr ⟨⟨s_icge d31_4 rfl, tl_icge _ _⟩, List.forall_mem_cons.mpr ⟨⟨s_iload_n d31_7 rfl, tl_iload _ _⟩, List.forall_mem_cons.mpr ⟨⟨s_iload_n d31_8 rfl, tl_iload _ _⟩, List.forall_mem_cons.mpr ⟨⟨s_iadd d31_9, tl_iadd _⟩, List.forall_mem_cons.mpr ⟨⟨s_aload_n d31_10 rfl, tl_aload _ _⟩, List.forall_mem_cons.mpr ⟨⟨f_getI_0_0 d31_11 wd_122, tl_getI _ _ _⟩, List.forall_mem_cons.mpr ⟨⟨s_icge d31_14 rfl, tl_icge _ _⟩, List.forall_mem_cons.mpr ⟨⟨s_aload_n d31_17 rfl, tl_aload _ _⟩, List.forall_mem_cons.mpr ⟨⟨s_aload_n d31_18 rfl, tl_aload _ _⟩, List.forall_mem_cons.mpr ⟨⟨s_iload_n d31_19 rfl, tl_iload _ _⟩, List.forall_mem_cons.mpr ⟨⟨s_iconst d31_20 rfl, tl_push _ _⟩, List.forall_mem_cons.mpr ⟨⟨s_isub d31_21, tl_isub _⟩, List.forall_mem_cons.mpr ⟨⟨s_iload_n d31_22 rfl, tl_iload _ _⟩, List.forall_mem_cons.mpr ⟨⟨s_isub d31_23, tl_isub _⟩, List.forall_mem_cons.mpr ⟨⟨q_invV_9 d31_24 wd_473, tl_invV _ _ _ _⟩, List.forall_mem_cons.mpr ⟨⟨s_aload_n d31_27 rfl, tl_aload _ _⟩, List.forall_mem_cons.mpr ⟨⟨s_iload_n d31_28 rfl, tl_iload _ _⟩, List.forall_mem_cons.mpr ⟨⟨s_iload_n d31_29 rfl, tl_iload _ _⟩, List.forall_mem_cons.mpr ⟨⟨s_iadd d31_30, tl_iadd _⟩, List.forall_mem_cons.mpr ⟨⟨q_invV_9 d31_31 wd_473, tl_invV _ _ _ _⟩, List.forall_mem_cons.mpr ⟨⟨q_invV_29 d31_34 wd_226, tl_invV _ _ _ _⟩, List.forall_mem_cons.mpr ⟨⟨s_iconst d31_37 rfl, tl_push _ _⟩, List.forall_mem_cons.mpr ⟨⟨s_icne d31_38 rfl, tl_icne _ _⟩, List.forall_mem_cons.mpr ⟨⟨s_iconst d31_41 rfl, tl_push _ _⟩, List.forall_mem_cons.mpr ⟨⟨s_zret d31_42 rfl, tl_zret⟩, List.forall_mem_cons.mpr ⟨⟨s_iinc d31_43 rfl st1_31_3, tl_iinc _ _ _⟩, List.forall_mem_cons.mpr ⟨⟨s_goto d31_46 rfl, tl_goto _⟩, List.forall_mem_cons.mpr ⟨⟨s_iconst d31_49 rfl, tl_push _ _⟩, List.forall_mem_cons.mpr ⟨⟨s_zret d31_50 rfl, tl_zret⟩, fun _ h => absurd h List.not_mem_nil⟩⟩⟩⟩⟩⟩⟩⟩⟩⟩⟩⟩⟩⟩⟩⟩⟩⟩⟩⟩⟩⟩⟩⟩⟩⟩⟩⟩⟩⟩⟩⟩⟩
def t31 : List (Nat × pO) := t31_0
theorem ok31 : ∀ q ∈ t31, p_Z 31 q := ok31_0
theorem d32_0 : decode (pB 32) 0 = .ok (.aload_n 0, 1) := by decide +kernel
theorem d32_1 : decode (pB 32) 1 = .ok (.iload_n 1, 1) := by decide +kernel
theorem d32_2 : decode (pB 32) 2 = .ok (.iload_n 1, 1) := by decide +kernel
theorem d32_3 : decode (pB 32) 3 = .ok (.iconst 1, 1) := by decide +kernel
theorem d32_4 : decode (pB 32) 4 = .ok (.isub, 1) := by decide +kernel
theorem d32_5 : decode (pB 32) 5 = .ok (.invokevirtual 63, 3) := by decide +kernel
theorem d32_8 : decode (pB 32) 8 = .ok (.aload_n 0, 1) := by decide +kernel
theorem d32_9 : decode (pB 32) 9 = .ok (.iload_n 1, 1) := by decide +kernel
theorem d32_10 : decode (pB 32) 10 = .ok (.iload_n 1, 1) := by decide +kernel
theorem d32_11 : decode (pB 32) 11 = .ok (.iconst 1, 1) := by decide +kernel
theorem d32_12 : decode (pB 32) 12 = .ok (.iadd, 1) := by decide +kernel
theorem d32_13 : decode (pB 32) 13 = .ok (.invokevirtual 63, 3) := by decide +kernel
theorem d32_16 : decode (pB 32) 16 = .ok (.iadd, 1) := by decide +kernel
theorem d32_17 : decode (pB 32) 17 = .ok (.istore_n 3, 1) := by decide +kernel
theorem d32_18 : decode (pB 32) 18 = .ok (.aload_n 0, 1) := by decide +kernel
theorem d32_19 : decode (pB 32) 19 = .ok (.iload_n 1, 1) := by decide +kernel
theorem d32_20 : decode (pB 32) 20 = .ok (.aload_n 2, 1) := by decide +kernel
theorem d32_21 : decode (pB 32) 21 = .ok (.iload_n 1, 1) := by decide +kernel
theorem d32_22 : decode (pB 32) 22 = .ok (.invokevirtual 72, 3) := by decide +kernel
theorem d32_25 : decode (pB 32) 25 = .ok (.invokevirtual 63, 3) := by decide +kernel
theorem d32_28 : decode (pB 32) 28 = .ok (.aload_n 0, 1) := by decide +kernel
theorem d32_29 : decode (pB 32) 29 = .ok (.iload_n 1, 1) := by decide +kernel
theorem d32_30 : decode (pB 32) 30 = .ok (.aload_n 2, 1) := by decide +kernel
theorem d32_31 : decode (pB 32) 31 = .ok (.iload_n 1, 1) := by decide +kernel
theorem d32_32 : decode (pB 32) 32 = .ok (.invokevirtual 58, 3) := by decide +kernel
theorem d32_35 : decode (pB 32) 35 = .ok (.invokevirtual 63, 3) := by decide +kernel
theorem d32_38 : decode (pB 32) 38 = .ok (.iadd, 1) := by decide +kernel
theorem d32_39 : decode (pB 32) 39 = .ok (.istore 4, 2) := by decide +kernel
theorem d32_41 : decode (pB 32) 41 = .ok (.iconst 5, 1) := by decide +kernel
theorem d32_42 : decode (pB 32) 42 = .ok (.aload_n 0, 1) := by decide +kernel
theorem d32_43 : decode (pB 32) 43 = .ok (.getfield 13, 3) := by decide +kernel
theorem d32_46 : decode (pB 32) 46 = .ok (.iconst 1, 1) := by decide +kernel
theorem d32_47 : decode (pB 32) 47 = .ok (.iaload, 1) := by decide +kernel
theorem d32_48 : decode (pB 32) 48 = .ok (.iload_n 3, 1) := by decide +kernel
theorem d32_49 : decode (pB 32) 49 = .ok (.imul, 1) := by decide +kernel
theorem d32_50 : decode (pB 32) 50 = .ok (.iadd, 1) := by decide +kernel
theorem d32_51 : decode (pB 32) 51 = .ok (.aload_n 0, 1) := by decide +kernel
theorem d32_52 : decode (pB 32) 52 = .ok (.getfield 13, 3) := by decide +kernel
theorem d32_55 : decode (pB 32) 55 = .ok (.iconst 2, 1) := by decide +kernel
theorem d32_56 : decode (pB 32) 56 = .ok (.iaload, 1) := by decide +kernel
theorem d32_57 : decode (pB 32) 57 = .ok (.iload 4, 2) := by decide +kernel
theorem d32_59 : decode (pB 32) 59 = .ok (.imul, 1) := by decide +kernel
theorem d32_60 : decode (pB 32) 60 = .ok (.iadd, 1) := by decide +kernel
theorem d32_61 : decode (pB 32) 61 = .ok (.istore 5, 2) := by decide +kernel
theorem d32_63 : decode (pB 32) 63 = .ok (.iconst 0, 1) := by decide +kernel
theorem d32_64 : decode (pB 32) 64 = .ok (.bipush 9, 2) := by decide +kernel
theorem d32_66 : decode (pB 32) 66 = .ok (.iload 5, 2) := by decide +kernel
theorem d32_68 : decode (pB 32) 68 = .ok (.invokestatic 75, 3) := by decide +kernel
theorem d32_71 : decode (pB 32) 71 = .ok (.invokestatic 80, 3) := by decide +kernel
theorem d32_74 : decode (pB 32) 74 = .ok (.ireturn, 1) := by decide +kernel
theorem st1_32_3 : p_st1 32 3 = true := by decide +kernel
theorem st1_32_4 : p_st1 32 4 = true := by decide +kernel
theorem st1_32_5 : p_st1 32 5 = true := by decide +kernel
/-- RX3.moodOn -/
def t32_0 : List (Nat × pO) := [(0, o_aload 0 1), (1, o_iload 1 2), (2, o_iload 1 3), (3, o_push (.int (nI 1)) 4), (4, o_isub 5), (5, o_invV 3 29 2 8), (8, o_aload 0 9), (9, o_iload 1 10), (10, o_iload 1 11), (11, o_push (.int (nI 1)) 12), (12, o_iadd 13), (13, o_invV 3 29 2 16), (16, o_iadd 17), (17, o_istore 3 18), (18, o_aload 0 19), (19, o_iload 1 20), (20, o_aload 2 21), (21, o_iload 1 22), (22, o_invV 0 12 1 25), (25, o_invV 3 29 2 28), (28, o_aload 0 29), (29, o_iload 1 30), (30, o_aload 2 31), (31, o_iload 1 32), (32, o_invV 0 13 1 35), (35, o_invV 3 29 2 38), (38, o_iadd 39), (39, o_istore 4 41), (41, o_push (.int (nI 5)) 42), (42, o_aload 0 43), (43, o_getR 3 0 46), (46, o_push (.int (nI 1)) 47), (47, o_iald 48), (48, o_iload 3 49), (49, o_imul 50), (50, o_iadd 51), (51, o_aload 0 52), (52, o_getR 3 0 55), (55, o_push (.int (nI 2)) 56), (56, o_iald 57)]
theorem ok32_0 : ∀ q ∈ t32_0, p_Z 32 q := List.forall_mem_cons.mpr ⟨⟨s_aload_n d32_0 rfl, tl_aload _ _⟩, List.forall_mem_cons.mpr ⟨⟨s_iload_n d32_1 rfl, tl_iload _ _⟩, List.forall_mem_cons.mpr ⟨⟨s_iload_n d32_2 rfl, tl_iload _ _⟩, List.forall_mem_cons.mpr ⟨⟨s_iconst d32_3 rfl, tl_push _ _⟩, List.forall_mem_cons.mpr ⟨⟨s_isub d32_4, tl_isub _⟩, List.forall_mem_cons.mpr ⟨⟨q_invV_29 d32_5 wd_226, tl_invV _ _ _ _⟩, List.forall_mem_cons.mpr ⟨⟨s_aload_n d32_8 rfl, tl_aload _ _⟩, List.forall_mem_cons.mpr ⟨⟨s_iload_n d32_9 rfl, tl_iload _ _⟩, List.forall_mem_cons.mpr ⟨⟨s_iload_n d32_10 rfl, tl_iload _ _⟩, List.forall_mem_cons.mpr ⟨⟨s_iconst d32_11 rfl, tl_push _ _⟩, List.forall_mem_cons.mpr ⟨⟨s_iadd d32_12, tl_iadd _⟩, List.forall_mem_cons.mpr ⟨⟨q_invV_29 d32_13 wd_226, tl_invV _ _ _ _⟩, List.forall_mem_cons.mpr ⟨⟨s_iadd d32_16, tl_iadd _⟩, List.forall_mem_cons.mpr ⟨⟨s_istore_n d32_17 rfl st1_32_3, tl_istore _ _⟩, List.forall_mem_cons.mpr ⟨⟨s_aload_n d32_18 rfl, tl_aload _ _⟩, List.forall_mem_cons.mpr ⟨⟨s_iload_n d32_19 rfl, tl_iload _ _⟩, List.forall_mem_cons.mpr ⟨⟨s_aload_n d32_20 rfl, tl_aload _ _⟩, List.forall_mem_cons.mpr ⟨⟨s_iload_n d32_21 rfl, tl_iload _ _⟩, List.forall_mem_cons.mpr ⟨⟨q_invV_12 d32_22 wd_242, tl_invV _ _ _ _⟩, List.forall_mem_cons.mpr ⟨⟨q_invV_29 d32_25 wd_226, tl_invV _ _ _ _⟩, List.forall_mem_cons.mpr ⟨⟨s_aload_n d32_28 rfl, tl_aload _ _⟩, List.forall_mem_cons.mpr ⟨⟨s_iload_n d32_29 rfl, tl_iload _ _⟩, List.forall_mem_cons.mpr ⟨⟨s_aload_n d32_30 rfl, tl_aload _ _⟩, List.forall_mem_cons.mpr ⟨⟨s_iload_n d32_31 rfl, tl_iload _ _⟩, List.forall_mem_cons.mpr ⟨⟨q_invV_13 d32_32 wd_214, tl_invV _ _ _ _⟩, List.forall_mem_cons.mpr ⟨⟨q_invV_29 d32_35 wd_226, tl_invV _ _ _ _⟩, List.forall_mem_cons.mpr ⟨⟨s_iadd d32_38, tl_iadd _⟩, List.forall_mem_cons.mpr ⟨⟨s_istore d32_39 st1_32_4, tl_istore _ _⟩, List.forall_mem_cons.mpr ⟨⟨s_iconst d32_41 rfl, tl_push _ _⟩, List.forall_mem_cons.mpr ⟨⟨s_aload_n d32_42 rfl, tl_aload _ _⟩, List.forall_mem_cons.mpr ⟨⟨f_getR_3_0 d32_43 wd_41, tl_getR _ _ _⟩, List.forall_mem_cons.mpr ⟨⟨s_iconst d32_46 rfl, tl_push _ _⟩, List.forall_mem_cons.mpr ⟨⟨s_iald d32_47, tl_iald _⟩, List.forall_mem_cons.mpr ⟨⟨s_iload_n d32_48 rfl, tl_iload _ _⟩, List.forall_mem_cons.mpr ⟨⟨s_imul d32_49, tl_imul _⟩, List.forall_mem_cons.mpr ⟨⟨s_iadd d32_50, tl_iadd _⟩, List.forall_mem_cons.mpr ⟨⟨s_aload_n d32_51 rfl, tl_aload _ _⟩, List.forall_mem_cons.mpr ⟨⟨f_getR_3_0 d32_52 wd_41, tl_getR _ _ _⟩, List.forall_mem_cons.mpr ⟨⟨s_iconst d32_55 rfl, tl_push _ _⟩, List.forall_mem_cons.mpr ⟨⟨s_iald d32_56, tl_iald _⟩, fun _ h => absurd h List.not_mem_nil⟩⟩⟩⟩⟩⟩⟩⟩⟩⟩⟩⟩⟩⟩⟩⟩⟩⟩⟩⟩⟩⟩⟩⟩⟩⟩⟩⟩⟩⟩⟩⟩⟩⟩⟩⟩⟩⟩⟩⟩
/-- RX3.moodOn -/
def t32_1 : List (Nat × pO) := [(57, o_iload 4 59), (59, o_imul 60), (60, o_iadd 61), (61, o_istore 5 63), (63, o_push (.int (nI 0)) 64), (64, o_push (.int (nI 9)) 66), (66, o_iload 5 68), (68, o_min 71), (71, o_max 74), (74, o_iret)]
theorem ok32_1 : ∀ q ∈ t32_1, p_Z 32 q := List.forall_mem_cons.mpr ⟨⟨s_iload d32_57, tl_iload _ _⟩, List.forall_mem_cons.mpr ⟨⟨s_imul d32_59, tl_imul _⟩, List.forall_mem_cons.mpr ⟨⟨s_iadd d32_60, tl_iadd _⟩, List.forall_mem_cons.mpr ⟨⟨s_istore d32_61 st1_32_5, tl_istore _ _⟩, List.forall_mem_cons.mpr ⟨⟨s_iconst d32_63 rfl, tl_push _ _⟩, List.forall_mem_cons.mpr ⟨⟨s_bipush d32_64 rfl, tl_push _ _⟩, List.forall_mem_cons.mpr ⟨⟨s_iload d32_66, tl_iload _ _⟩, List.forall_mem_cons.mpr ⟨⟨s_min d32_68 wd_246 wd_247 wd_23 wd_248, tl_min _⟩, List.forall_mem_cons.mpr ⟨⟨s_max d32_71 wd_249 wd_250 wd_23 wd_251, tl_max _⟩, List.forall_mem_cons.mpr ⟨⟨s_iret d32_74 rfl, tl_iret⟩, fun _ h => absurd h List.not_mem_nil⟩⟩⟩⟩⟩⟩⟩⟩⟩⟩
def t32 : List (Nat × pO) := t32_0 ++ (t32_1)
theorem ok32 : ∀ q ∈ t32, p_Z 32 q := List.forall_mem_append.mpr ⟨ok32_0, ok32_1⟩
theorem d33_0 : decode (pB 33) 0 = .ok (.iconst 0, 1) := by decide +kernel
theorem d33_1 : decode (pB 33) 1 = .ok (.istore_n 2, 1) := by decide +kernel
theorem d33_2 : decode (pB 33) 2 = .ok (.iconst 0, 1) := by decide +kernel
theorem d33_3 : decode (pB 33) 3 = .ok (.istore_n 3, 1) := by decide +kernel
theorem d33_4 : decode (pB 33) 4 = .ok (.iload_n 3, 1) := by decide +kernel
theorem d33_5 : decode (pB 33) 5 = .ok (.aload_n 0, 1) := by decide +kernel
theorem d33_6 : decode (pB 33) 6 = .ok (.getfield 13, 3) := by decide +kernel
theorem d33_9 : decode (pB 33) 9 = .ok (.iconst 0, 1) := by decide +kernel
theorem d33_10 : decode (pB 33) 10 = .ok (.iaload, 1) := by decide +kernel
theorem d33_11 : decode (pB 33) 11 = .ok (.if_icmp .ge 29, 3) := by decide +kernel
theorem d33_14 : decode (pB 33) 14 = .ok (.aload_n 0, 1) := by decide +kernel
theorem d33_15 : decode (pB 33) 15 = .ok (.getfield 18, 3) := by decide +kernel
theorem d33_18 : decode (pB 33) 18 = .ok (.iload_n 3, 1) := by decide +kernel
theorem d33_19 : decode (pB 33) 19 = .ok (.iaload, 1) := by decide +kernel
theorem d33_20 : decode (pB 33) 20 = .ok (.bipush (-6), 2) := by decide +kernel
theorem d33_22 : decode (pB 33) 22 = .ok (.if_icmp .eq 12, 3) := by decide +kernel
theorem d33_25 : decode (pB 33) 25 = .ok (.iload_n 2, 1) := by decide +kernel
theorem d33_26 : decode (pB 33) 26 = .ok (.aload_n 0, 1) := by decide +kernel
theorem d33_27 : decode (pB 33) 27 = .ok (.iload_n 3, 1) := by decide +kernel
theorem d33_28 : decode (pB 33) 28 = .ok (.aload_n 1, 1) := by decide +kernel
theorem d33_29 : decode (pB 33) 29 = .ok (.invokevirtual 83, 3) := by decide +kernel
theorem d33_32 : decode (pB 33) 32 = .ok (.iadd, 1) := by decide +kernel
theorem d33_33 : decode (pB 33) 33 = .ok (.istore_n 2, 1) := by decide +kernel
theorem d33_34 : decode (pB 33) 34 = .ok (.iinc 3 1, 3) := by decide +kernel
theorem d33_37 : decode (pB 33) 37 = .ok (.goto (-33), 3) := by decide +kernel
theorem d33_40 : decode (pB 33) 40 = .ok (.iload_n 2, 1) := by decide +kernel
theorem d33_41 : decode (pB 33) 41 = .ok (.ireturn, 1) := by decide +kernel
theorem st1_33_2 : p_st1 33 2 = true := by decide +kernel
theorem st1_33_3 : p_st1 33 3 = true := by decide +kernel
/-- RX3.toast -/
def t33_0 : List (Nat × pO) := [(0, o_push (.int (nI 0)) 1), (1, o_istore 2 2), (2, o_push (.int (nI 0)) 3), (3, o_istore 3 4), (4, o_iload 3 5), (5, o_aload 0 6), (6, o_getR 3 0 9), (9, o_push (.int (nI 0)) 10), (10, o_iald 11), (11, o_icge 40 14), (14, o_aload 0 15), (15, o_getR 3 1 18), (18, o_iload 3 19), (19, o_iald 20), (20, o_push (.int (nM 6)) 22), (22, o_iceq 34 25), (25, o_iload 2 26), (26, o_aload 0 27), (27, o_iload 3 28), (28, o_aload 1 29), (29, o_invV 3 32 2 32), (32, o_iadd 33), (33, o_istore 2 34), (34, o_iinc 3 (nI 1) 37), (37, o_goto 4), (40, o_iload 2 41), (41, o_iret)]
theorem ok33_0 : ∀ q ∈ t33_0, p_Z 33 q := List.forall_mem_cons.mpr ⟨⟨s_iconst d33_0 rfl, tl_push _ _⟩, List.forall_mem_cons.mpr ⟨⟨s_istore_n d33_1 rfl st1_33_2, tl_istore _ _⟩, List.forall_mem_cons.mpr ⟨⟨s_iconst d33_2 rfl, tl_push _ _⟩, List.forall_mem_cons.mpr ⟨⟨s_istore_n d33_3 rfl st1_33_3, tl_istore _ _⟩, List.forall_mem_cons.mpr ⟨⟨s_iload_n d33_4 rfl, tl_iload _ _⟩, List.forall_mem_cons.mpr ⟨⟨s_aload_n d33_5 rfl, tl_aload _ _⟩, List.forall_mem_cons.mpr ⟨⟨f_getR_3_0 d33_6 wd_41, tl_getR _ _ _⟩, List.forall_mem_cons.mpr ⟨⟨s_iconst d33_9 rfl, tl_push _ _⟩, List.forall_mem_cons.mpr ⟨⟨s_iald d33_10, tl_iald _⟩, List.forall_mem_cons.mpr ⟨⟨s_icge d33_11 rfl, tl_icge _ _⟩, List.forall_mem_cons.mpr ⟨⟨s_aload_n d33_14 rfl, tl_aload _ _⟩, List.forall_mem_cons.mpr ⟨⟨f_getR_3_1 d33_15 wd_43, tl_getR _ _ _⟩, List.forall_mem_cons.mpr ⟨⟨s_iload_n d33_18 rfl, tl_iload _ _⟩, List.forall_mem_cons.mpr ⟨⟨s_iald d33_19, tl_iald _⟩, List.forall_mem_cons.mpr ⟨⟨s_bipush d33_20 rfl, tl_push _ _⟩, List.forall_mem_cons.mpr ⟨⟨s_iceq d33_22 rfl, tl_iceq _ _⟩, List.forall_mem_cons.mpr ⟨⟨s_iload_n d33_25 rfl, tl_iload _ _⟩, List.forall_mem_cons.mpr ⟨⟨s_aload_n d33_26 rfl, tl_aload _ _⟩, List.forall_mem_cons.mpr ⟨⟨s_iload_n d33_27 rfl, tl_iload _ _⟩, List.forall_mem_cons.mpr ⟨⟨s_aload_n d33_28 rfl, tl_aload _ _⟩, List.forall_mem_cons.mpr ⟨⟨q_invV_32 d33_29 wd_238, tl_invV _ _ _ _⟩, List.forall_mem_cons.mpr ⟨⟨s_iadd d33_32, tl_iadd _⟩, List.forall_mem_cons.mpr ⟨⟨s_istore_n d33_33 rfl st1_33_2, tl_istore _ _⟩, List.forall_mem_cons.mpr ⟨⟨s_iinc d33_34 rfl st1_33_3, tl_iinc _ _ _⟩, List.forall_mem_cons.mpr ⟨⟨s_goto d33_37 rfl, tl_goto _⟩, List.forall_mem_cons.mpr ⟨⟨s_iload_n d33_40 rfl, tl_iload _ _⟩, List.forall_mem_cons.mpr ⟨⟨s_iret d33_41 rfl, tl_iret⟩, fun _ h => absurd h List.not_mem_nil⟩⟩⟩⟩⟩⟩⟩⟩⟩⟩⟩⟩⟩⟩⟩⟩⟩⟩⟩⟩⟩⟩⟩⟩⟩⟩⟩
def t33 : List (Nat × pO) := t33_0
theorem ok33 : ∀ q ∈ t33, p_Z 33 q := ok33_0
theorem d34_0 : decode (pB 34) 0 = .ok (.aload_n 0, 1) := by decide +kernel
theorem d34_1 : decode (pB 34) 1 = .ok (.getfield 27, 3) := by decide +kernel
theorem d34_4 : decode (pB 34) 4 = .ok (.aload_n 0, 1) := by decide +kernel
theorem d34_5 : decode (pB 34) 5 = .ok (.getfield 34, 3) := by decide +kernel
theorem d34_8 : decode (pB 34) 8 = .ok (.iload_n 1, 1) := by decide +kernel
theorem d34_9 : decode (pB 34) 9 = .ok (.iastore, 1) := by decide +kernel
theorem d34_10 : decode (pB 34) 10 = .ok (.aload_n 0, 1) := by decide +kernel
theorem d34_11 : decode (pB 34) 11 = .ok (.dup, 1) := by decide +kernel
theorem d34_12 : decode (pB 34) 12 = .ok (.getfield 34, 3) := by decide +kernel
theorem d34_15 : decode (pB 34) 15 = .ok (.iconst 1, 1) := by decide +kernel
theorem d34_16 : decode (pB 34) 16 = .ok (.iadd, 1) := by decide +kernel
theorem d34_17 : decode (pB 34) 17 = .ok (.putfield 34, 3) := by decide +kernel
theorem d34_20 : decode (pB 34) 20 = .ok (.return_, 1) := by decide +kernel
/-- RX3.addFold -/
def t34_0 : List (Nat × pO) := [(0, o_aload 0 1), (1, o_getR 3 4 4), (4, o_aload 0 5), (5, o_getI 3 6 8), (8, o_iload 1 9), (9, o_iast 10), (10, o_aload 0 11), (11, o_dupr 12), (12, o_getI 3 6 15), (15, o_push (.int (nI 1)) 16), (16, o_iadd 17), (17, o_putI 3 6 20), (20, o_vret)]
theorem ok34_0 : ∀ q ∈ t34_0, p_Z 34 q := List.forall_mem_cons.mpr ⟨⟨s_aload_n d34_0 rfl, tl_aload _ _⟩, List.forall_mem_cons.mpr ⟨⟨f_getR_3_4 d34_1 wd_49, tl_getR _ _ _⟩, List.forall_mem_cons.mpr ⟨⟨s_aload_n d34_4 rfl, tl_aload _ _⟩, List.forall_mem_cons.mpr ⟨⟨f_getI_3_6 d34_5 wd_53, tl_getI _ _ _⟩, List.forall_mem_cons.mpr ⟨⟨s_iload_n d34_8 rfl, tl_iload _ _⟩, List.forall_mem_cons.mpr ⟨⟨s_iast d34_9, tl_iast _⟩, List.forall_mem_cons.mpr ⟨⟨s_aload_n d34_10 rfl, tl_aload _ _⟩, List.forall_mem_cons.mpr ⟨⟨s_dupr d34_11, tl_dupr _⟩, List.forall_mem_cons.mpr ⟨⟨f_getI_3_6 d34_12 wd_53, tl_getI _ _ _⟩, List.forall_mem_cons.mpr ⟨⟨s_iconst d34_15 rfl, tl_push _ _⟩, List.forall_mem_cons.mpr ⟨⟨s_iadd d34_16, tl_iadd _⟩, List.forall_mem_cons.mpr ⟨⟨f_putI_3_6 d34_17 wd_53, tl_putI _ _ _⟩, List.forall_mem_cons.mpr ⟨⟨s_vret d34_20 rfl, tl_vret⟩, fun _ h => absurd h List.not_mem_nil⟩⟩⟩⟩⟩⟩⟩⟩⟩⟩⟩⟩⟩
def t34 : List (Nat × pO) := t34_0
theorem ok34 : ∀ q ∈ t34, p_Z 34 q := ok34_0
