/-! ops of each method, and that each is sound -/
theorem d72_0 : decode (pB 72) 0 = .ok (.iload_n 0, 1) := by decide +kernel
theorem d72_1 : decode (pB 72) 1 = .ok (.iload_n 0, 1) := by decide +kernel
theorem d72_2 : decode (pB 72) 2 = .ok (.iconst 1, 1) := by decide +kernel
theorem d72_3 : decode (pB 72) 3 = .ok (.iushr, 1) := by decide +kernel
theorem d72_4 : decode (pB 72) 4 = .ok (.ldc_w 265, 3) := by decide +kernel
theorem d72_7 : decode (pB 72) 7 = .ok (.iand, 1) := by decide +kernel
theorem d72_8 : decode (pB 72) 8 = .ok (.isub, 1) := by decide +kernel
theorem d72_9 : decode (pB 72) 9 = .ok (.istore_n 0, 1) := by decide +kernel
theorem d72_10 : decode (pB 72) 10 = .ok (.iload_n 0, 1) := by decide +kernel
theorem d72_11 : decode (pB 72) 11 = .ok (.ldc_w 266, 3) := by decide +kernel
theorem d72_14 : decode (pB 72) 14 = .ok (.iand, 1) := by decide +kernel
theorem d72_15 : decode (pB 72) 15 = .ok (.iload_n 0, 1) := by decide +kernel
theorem d72_16 : decode (pB 72) 16 = .ok (.iconst 2, 1) := by decide +kernel
theorem d72_17 : decode (pB 72) 17 = .ok (.iushr, 1) := by decide +kernel
theorem d72_18 : decode (pB 72) 18 = .ok (.ldc_w 266, 3) := by decide +kernel
theorem d72_21 : decode (pB 72) 21 = .ok (.iand, 1) := by decide +kernel
theorem d72_22 : decode (pB 72) 22 = .ok (.iadd, 1) := by decide +kernel
theorem d72_23 : decode (pB 72) 23 = .ok (.istore_n 0, 1) := by decide +kernel
theorem d72_24 : decode (pB 72) 24 = .ok (.iload_n 0, 1) := by decide +kernel
theorem d72_25 : decode (pB 72) 25 = .ok (.iload_n 0, 1) := by decide +kernel
theorem d72_26 : decode (pB 72) 26 = .ok (.iconst 4, 1) := by decide +kernel
theorem d72_27 : decode (pB 72) 27 = .ok (.iushr, 1) := by decide +kernel
theorem d72_28 : decode (pB 72) 28 = .ok (.iadd, 1) := by decide +kernel
theorem d72_29 : decode (pB 72) 29 = .ok (.ldc_w 267, 3) := by decide +kernel
theorem d72_32 : decode (pB 72) 32 = .ok (.iand, 1) := by decide +kernel
theorem d72_33 : decode (pB 72) 33 = .ok (.istore_n 0, 1) := by decide +kernel
theorem d72_34 : decode (pB 72) 34 = .ok (.iload_n 0, 1) := by decide +kernel
theorem d72_35 : decode (pB 72) 35 = .ok (.iload_n 0, 1) := by decide +kernel
theorem d72_36 : decode (pB 72) 36 = .ok (.bipush 8, 2) := by decide +kernel
theorem d72_38 : decode (pB 72) 38 = .ok (.iushr, 1) := by decide +kernel
theorem d72_39 : decode (pB 72) 39 = .ok (.iadd, 1) := by decide +kernel
theorem d72_40 : decode (pB 72) 40 = .ok (.istore_n 0, 1) := by decide +kernel
theorem d72_41 : decode (pB 72) 41 = .ok (.iload_n 0, 1) := by decide +kernel
theorem d72_42 : decode (pB 72) 42 = .ok (.iload_n 0, 1) := by decide +kernel
theorem d72_43 : decode (pB 72) 43 = .ok (.bipush 16, 2) := by decide +kernel
theorem d72_45 : decode (pB 72) 45 = .ok (.iushr, 1) := by decide +kernel
theorem d72_46 : decode (pB 72) 46 = .ok (.iadd, 1) := by decide +kernel
theorem d72_47 : decode (pB 72) 47 = .ok (.istore_n 0, 1) := by decide +kernel
theorem d72_48 : decode (pB 72) 48 = .ok (.iload_n 0, 1) := by decide +kernel
theorem d72_49 : decode (pB 72) 49 = .ok (.bipush 63, 2) := by decide +kernel
theorem d72_51 : decode (pB 72) 51 = .ok (.iand, 1) := by decide +kernel
theorem d72_52 : decode (pB 72) 52 = .ok (.ireturn, 1) := by decide +kernel
theorem st1_72_0 : p_st1 72 0 = true := by decide +kernel
/-- RJ6.bitCount -/
def t72_0 : List (Nat × pO) := [(0, o_iload 0 1), (1, o_iload 0 2), (2, o_push (.int (nI 1)) 3), (3, o_iushr 4), (4, o_push (.int (1431655765 : Int32)) 7), (7, o_iand 8), (8, o_isub 9), (9, o_istore 0 10), (10, o_iload 0 11), (11, o_push (.int (858993459 : Int32)) 14), (14, o_iand 15), (15, o_iload 0 16), (16, o_push (.int (nI 2)) 17), (17, o_iushr 18), (18, o_push (.int (858993459 : Int32)) 21), (21, o_iand 22), (22, o_iadd 23), (23, o_istore 0 24), (24, o_iload 0 25), (25, o_iload 0 26), (26, o_push (.int (nI 4)) 27), (27, o_iushr 28), (28, o_iadd 29), (29, o_push (.int (252645135 : Int32)) 32), (32, o_iand 33), (33, o_istore 0 34), (34, o_iload 0 35), (35, o_iload 0 36), (36, o_push (.int (nI 8)) 38), (38, o_iushr 39), (39, o_iadd 40), (40, o_istore 0 41), (41, o_iload 0 42), (42, o_iload 0 43), (43, o_push (.int (nI 16)) 45), (45, o_iushr 46), (46, o_iadd 47), (47, o_istore 0 48), (48, o_iload 0 49), (49, o_push (.int (nI 63)) 51)]
theorem ok72_0 : ∀ q ∈ t72_0, p_Z 72 q := List.forall_mem_cons.mpr ⟨⟨s_iload_n d72_0 rfl, tl_iload _ _⟩, List.forall_mem_cons.mpr ⟨⟨s_iload_n d72_1 rfl, tl_iload _ _⟩, List.forall_mem_cons.mpr ⟨⟨s_iconst d72_2 rfl, tl_push _ _⟩, List.forall_mem_cons.mpr ⟨⟨s_iushr d72_3, tl_iushr _⟩, List.forall_mem_cons.mpr ⟨⟨s_ldcw wd_402 d72_4, tl_push _ _⟩, List.forall_mem_cons.mpr ⟨⟨s_iand d72_7, tl_iand _⟩, List.forall_mem_cons.mpr ⟨⟨s_isub d72_8, tl_isub _⟩, List.forall_mem_cons.mpr ⟨⟨s_istore_n d72_9 rfl st1_72_0, tl_istore _ _⟩, List.forall_mem_cons.mpr ⟨⟨s_iload_n d72_10 rfl, tl_iload _ _⟩, List.forall_mem_cons.mpr ⟨⟨s_ldcw wd_403 d72_11, tl_push _ _⟩, List.forall_mem_cons.mpr ⟨⟨s_iand d72_14, tl_iand _⟩, List.forall_mem_cons.mpr ⟨⟨s_iload_n d72_15 rfl, tl_iload _ _⟩, List.forall_mem_cons.mpr ⟨⟨s_iconst d72_16 rfl, tl_push _ _⟩, List.forall_mem_cons.mpr ⟨⟨s_iushr d72_17, tl_iushr _⟩, List.forall_mem_cons.mpr ⟨⟨s_ldcw wd_403 d72_18, tl_push _ _⟩, List.forall_mem_cons.mpr ⟨⟨s_iand d72_21, tl_iand _⟩, List.forall_mem_cons.mpr ⟨⟨s_iadd d72_22, tl_iadd _⟩, List.forall_mem_cons.mpr ⟨⟨s_istore_n d72_23 rfl st1_72_0, tl_istore _ _⟩, List.forall_mem_cons.mpr ⟨⟨s_iload_n d72_24 rfl, tl_iload _ _⟩, List.forall_mem_cons.mpr ⟨⟨s_iload_n d72_25 rfl, tl_iload _ _⟩, List.forall_mem_cons.mpr ⟨⟨s_iconst d72_26 rfl, tl_push _ _⟩, List.forall_mem_cons.mpr ⟨⟨s_iushr d72_27, tl_iushr _⟩, List.forall_mem_cons.mpr ⟨⟨s_iadd d72_28, tl_iadd _⟩, List.forall_mem_cons.mpr ⟨⟨s_ldcw wd_404 d72_29, tl_push _ _⟩, List.forall_mem_cons.mpr ⟨⟨s_iand d72_32, tl_iand _⟩, List.forall_mem_cons.mpr ⟨⟨s_istore_n d72_33 rfl st1_72_0, tl_istore _ _⟩, List.forall_mem_cons.mpr ⟨⟨s_iload_n d72_34 rfl, tl_iload _ _⟩, List.forall_mem_cons.mpr ⟨⟨s_iload_n d72_35 rfl, tl_iload _ _⟩, List.forall_mem_cons.mpr ⟨⟨s_bipush d72_36 rfl, tl_push _ _⟩, List.forall_mem_cons.mpr ⟨⟨s_iushr d72_38, tl_iushr _⟩, List.forall_mem_cons.mpr ⟨⟨s_iadd d72_39, tl_iadd _⟩, List.forall_mem_cons.mpr ⟨⟨s_istore_n d72_40 rfl st1_72_0, tl_istore _ _⟩, List.forall_mem_cons.mpr ⟨⟨s_iload_n d72_41 rfl, tl_iload _ _⟩, List.forall_mem_cons.mpr ⟨⟨s_iload_n d72_42 rfl, tl_iload _ _⟩, List.forall_mem_cons.mpr ⟨⟨s_bipush d72_43 rfl, tl_push _ _⟩, List.forall_mem_cons.mpr ⟨⟨s_iushr d72_45, tl_iushr _⟩, List.forall_mem_cons.mpr ⟨⟨s_iadd d72_46, tl_iadd _⟩, List.forall_mem_cons.mpr ⟨⟨s_istore_n d72_47 rfl st1_72_0, tl_istore _ _⟩, List.forall_mem_cons.mpr ⟨⟨s_iload_n d72_48 rfl, tl_iload _ _⟩, List.forall_mem_cons.mpr ⟨⟨s_bipush d72_49 rfl, tl_push _ _⟩, fun _ h => absurd h List.not_mem_nil⟩⟩⟩⟩⟩⟩⟩⟩⟩⟩⟩⟩⟩⟩⟩⟩⟩⟩⟩⟩⟩⟩⟩⟩⟩⟩⟩⟩⟩⟩⟩⟩⟩⟩⟩⟩⟩⟩⟩⟩
/-- RJ6.bitCount -/
def t72_1 : List (Nat × pO) := [(51, o_iand 52), (52, o_iret)]
theorem ok72_1 : ∀ q ∈ t72_1, p_Z 72 q := List.forall_mem_cons.mpr ⟨⟨s_iand d72_51, tl_iand _⟩, List.forall_mem_cons.mpr ⟨⟨s_iret d72_52 rfl, tl_iret⟩, fun _ h => absurd h List.not_mem_nil⟩⟩
def t72 : List (Nat × pO) := t72_0 ++ (t72_1)
theorem ok72 : ∀ q ∈ t72, p_Z 72 q := List.forall_mem_append.mpr ⟨ok72_0, ok72_1⟩
theorem d73_0 : decode (pB 73) 0 = .ok (.iload_n 1, 1) := by decide +kernel
theorem d73_1 : decode (pB 73) 1 = .ok (.aload_n 0, 1) := by decide +kernel
theorem d73_2 : decode (pB 73) 2 = .ok (.arraylength, 1) := by decide +kernel
theorem d73_3 : decode (pB 73) 3 = .ok (.if_icmp .ge 9, 3) := by decide +kernel
theorem d73_6 : decode (pB 73) 6 = .ok (.aload_n 0, 1) := by decide +kernel
theorem d73_7 : decode (pB 73) 7 = .ok (.iload_n 1, 1) := by decide +kernel
theorem d73_8 : decode (pB 73) 8 = .ok (.iaload, 1) := by decide +kernel
theorem d73_9 : decode (pB 73) 9 = .ok (.goto 15, 3) := by decide +kernel
theorem d73_12 : decode (pB 73) 12 = .ok (.sipush 7919, 3) := by decide +kernel
theorem d73_15 : decode (pB 73) 15 = .ok (.iload_n 1, 1) := by decide +kernel
theorem d73_16 : decode (pB 73) 16 = .ok (.iconst 3, 1) := by decide +kernel
theorem d73_17 : decode (pB 73) 17 = .ok (.iadd, 1) := by decide +kernel
theorem d73_18 : decode (pB 73) 18 = .ok (.imul, 1) := by decide +kernel
theorem d73_19 : decode (pB 73) 19 = .ok (.iload_n 1, 1) := by decide +kernel
theorem d73_20 : decode (pB 73) 20 = .ok (.bipush 11, 2) := by decide +kernel
theorem d73_22 : decode (pB 73) 22 = .ok (.iadd, 1) := by decide +kernel
theorem d73_23 : decode (pB 73) 23 = .ok (.imul, 1) := by decide +kernel
theorem d73_24 : decode (pB 73) 24 = .ok (.ireturn, 1) := by decide +kernel
/-- RL.cell -/
def t73_0 : List (Nat × pO) := [(0, o_iload 1 1), (1, o_aload 0 2), (2, o_alen 3), (3, o_icge 12 6), (6, o_aload 0 7), (7, o_iload 1 8), (8, o_iald 9), (9, o_goto 24), (12, o_push (.int (nI 7919)) 15), (15, o_iload 1 16), (16, o_push (.int (nI 3)) 17), (17, o_iadd 18), (18, o_imul 19), (19, o_iload 1 20), (20, o_push (.int (nI 11)) 22), (22, o_iadd 23), (23, o_imul 24), (24, o_iret)]
theorem ok73_0 : ∀ q ∈ t73_0, p_Z 73 q := List.forall_mem_cons.mpr ⟨⟨s_iload_n d73_0 rfl, tl_iload _ _⟩, List.forall_mem_cons.mpr ⟨⟨s_aload_n d73_1 rfl, tl_aload _ _⟩, List.forall_mem_cons.mpr ⟨⟨s_alen d73_2, tl_alen _⟩, List.forall_mem_cons.mpr ⟨⟨s_icge d73_3 rfl, tl_icge _ _⟩, List.forall_mem_cons.mpr ⟨⟨s_aload_n d73_6 rfl, tl_aload _ _⟩, List.forall_mem_cons.mpr ⟨⟨s_iload_n d73_7 rfl, tl_iload _ _⟩, List.forall_mem_cons.mpr ⟨⟨s_iald d73_8, tl_iald _⟩, List.forall_mem_cons.mpr ⟨⟨s_goto d73_9 rfl, tl_goto _⟩, List.forall_mem_cons.mpr ⟨⟨s_sipush d73_12 rfl, tl_push _ _⟩, List.forall_mem_cons.mpr ⟨⟨s_iload_n d73_15 rfl, tl_iload _ _⟩, List.forall_mem_cons.mpr ⟨⟨s_iconst d73_16 rfl, tl_push _ _⟩, List.forall_mem_cons.mpr ⟨⟨s_iadd d73_17, tl_iadd _⟩, List.forall_mem_cons.mpr ⟨⟨s_imul d73_18, tl_imul _⟩, List.forall_mem_cons.mpr ⟨⟨s_iload_n d73_19 rfl, tl_iload _ _⟩, List.forall_mem_cons.mpr ⟨⟨s_bipush d73_20 rfl, tl_push _ _⟩, List.forall_mem_cons.mpr ⟨⟨s_iadd d73_22, tl_iadd _⟩, List.forall_mem_cons.mpr ⟨⟨s_imul d73_23, tl_imul _⟩, List.forall_mem_cons.mpr ⟨⟨s_iret d73_24 rfl, tl_iret⟩, fun _ h => absurd h List.not_mem_nil⟩⟩⟩⟩⟩⟩⟩⟩⟩⟩⟩⟩⟩⟩⟩⟩⟩⟩
def t73 : List (Nat × pO) := t73_0
theorem ok73 : ∀ q ∈ t73, p_Z 73 q := ok73_0
theorem d74_0 : decode (pB 74) 0 = .ok (.iload_n 0, 1) := by decide +kernel
theorem d74_1 : decode (pB 74) 1 = .ok (.ldc 7, 2) := by decide +kernel
theorem d74_3 : decode (pB 74) 3 = .ok (.iand, 1) := by decide +kernel
theorem d74_4 : decode (pB 74) 4 = .ok (.iload_n 1, 1) := by decide +kernel
theorem d74_5 : decode (pB 74) 5 = .ok (.irem, 1) := by decide +kernel
theorem d74_6 : decode (pB 74) 6 = .ok (.ireturn, 1) := by decide +kernel
/-- RL.low -/
def t74_0 : List (Nat × pO) := [(0, o_iload 0 1), (1, o_push (.int (2147483647 : Int32)) 3), (3, o_iand 4), (4, o_iload 1 5), (5, o_irem 6), (6, o_iret)]
theorem ok74_0 : ∀ q ∈ t74_0, p_Z 74 q := List.forall_mem_cons.mpr ⟨⟨s_iload_n d74_0 rfl, tl_iload _ _⟩, List.forall_mem_cons.mpr ⟨⟨s_ldc wd_313 d74_1, tl_push _ _⟩, List.forall_mem_cons.mpr ⟨⟨s_iand d74_3, tl_iand _⟩, List.forall_mem_cons.mpr ⟨⟨s_iload_n d74_4 rfl, tl_iload _ _⟩, List.forall_mem_cons.mpr ⟨⟨s_irem d74_5, tl_irem _⟩, List.forall_mem_cons.mpr ⟨⟨s_iret d74_6 rfl, tl_iret⟩, fun _ h => absurd h List.not_mem_nil⟩⟩⟩⟩⟩⟩
def t74 : List (Nat × pO) := t74_0
theorem ok74 : ∀ q ∈ t74, p_Z 74 q := ok74_0
theorem d75_0 : decode (pB 75) 0 = .ok (.ldc2_w 8, 3) := by decide +kernel
theorem d75_3 : decode (pB 75) 3 = .ok (.lstore_n 1, 1) := by decide +kernel
theorem d75_4 : decode (pB 75) 4 = .ok (.iconst 0, 1) := by decide +kernel
theorem d75_5 : decode (pB 75) 5 = .ok (.istore_n 3, 1) := by decide +kernel
theorem d75_6 : decode (pB 75) 6 = .ok (.iload_n 3, 1) := by decide +kernel
theorem d75_7 : decode (pB 75) 7 = .ok (.bipush 11, 2) := by decide +kernel
theorem d75_9 : decode (pB 75) 9 = .ok (.if_icmp .ge 22, 3) := by decide +kernel
theorem d75_12 : decode (pB 75) 12 = .ok (.ldc2_w 10, 3) := by decide +kernel
theorem d75_15 : decode (pB 75) 15 = .ok (.lload_n 1, 1) := by decide +kernel
theorem d75_16 : decode (pB 75) 16 = .ok (.lmul, 1) := by decide +kernel
theorem d75_17 : decode (pB 75) 17 = .ok (.aload_n 0, 1) := by decide +kernel
theorem d75_18 : decode (pB 75) 18 = .ok (.iload_n 3, 1) := by decide +kernel
theorem d75_19 : decode (pB 75) 19 = .ok (.invokevirtual 12, 3) := by decide +kernel
theorem d75_22 : decode (pB 75) 22 = .ok (.i2l, 1) := by decide +kernel
theorem d75_23 : decode (pB 75) 23 = .ok (.ladd, 1) := by decide +kernel
theorem d75_24 : decode (pB 75) 24 = .ok (.lstore_n 1, 1) := by decide +kernel
theorem d75_25 : decode (pB 75) 25 = .ok (.iinc 3 1, 3) := by decide +kernel
theorem d75_28 : decode (pB 75) 28 = .ok (.goto (-22), 3) := by decide +kernel
theorem d75_31 : decode (pB 75) 31 = .ok (.iconst 0, 1) := by decide +kernel
theorem d75_32 : decode (pB 75) 32 = .ok (.istore_n 3, 1) := by decide +kernel
theorem d75_33 : decode (pB 75) 33 = .ok (.iload_n 3, 1) := by decide +kernel
theorem d75_34 : decode (pB 75) 34 = .ok (.aload_n 0, 1) := by decide +kernel
theorem d75_35 : decode (pB 75) 35 = .ok (.iconst 0, 1) := by decide +kernel
theorem d75_36 : decode (pB 75) 36 = .ok (.invokevirtual 12, 3) := by decide +kernel
theorem d75_39 : decode (pB 75) 39 = .ok (.if_icmp .ge 40, 3) := by decide +kernel
theorem d75_42 : decode (pB 75) 42 = .ok (.iconst 0, 1) := by decide +kernel
theorem d75_43 : decode (pB 75) 43 = .ok (.istore 4, 2) := by decide +kernel
theorem d75_45 : decode (pB 75) 45 = .ok (.iload 4, 2) := by decide +kernel
theorem d75_47 : decode (pB 75) 47 = .ok (.bipush 6, 2) := by decide +kernel
theorem d75_49 : decode (pB 75) 49 = .ok (.if_icmp .ge 24, 3) := by decide +kernel
theorem d75_52 : decode (pB 75) 52 = .ok (.ldc2_w 10, 3) := by decide +kernel
theorem d75_55 : decode (pB 75) 55 = .ok (.lload_n 1, 1) := by decide +kernel
theorem d75_56 : decode (pB 75) 56 = .ok (.lmul, 1) := by decide +kernel
theorem d75_57 : decode (pB 75) 57 = .ok (.aload_n 0, 1) := by decide +kernel
theorem d75_58 : decode (pB 75) 58 = .ok (.iload_n 3, 1) := by decide +kernel
theorem d75_59 : decode (pB 75) 59 = .ok (.iload 4, 2) := by decide +kernel
theorem d75_61 : decode (pB 75) 61 = .ok (.invokevirtual 18, 3) := by decide +kernel
theorem d75_64 : decode (pB 75) 64 = .ok (.i2l, 1) := by decide +kernel
theorem d75_65 : decode (pB 75) 65 = .ok (.ladd, 1) := by decide +kernel
theorem d75_66 : decode (pB 75) 66 = .ok (.lstore_n 1, 1) := by decide +kernel
theorem d75_67 : decode (pB 75) 67 = .ok (.iinc 4 1, 3) := by decide +kernel
theorem d75_70 : decode (pB 75) 70 = .ok (.goto (-25), 3) := by decide +kernel
theorem d75_73 : decode (pB 75) 73 = .ok (.iinc 3 1, 3) := by decide +kernel
theorem d75_76 : decode (pB 75) 76 = .ok (.goto (-43), 3) := by decide +kernel
theorem d75_79 : decode (pB 75) 79 = .ok (.iconst 0, 1) := by decide +kernel
theorem d75_80 : decode (pB 75) 80 = .ok (.istore_n 3, 1) := by decide +kernel
theorem d75_81 : decode (pB 75) 81 = .ok (.iload_n 3, 1) := by decide +kernel
theorem d75_82 : decode (pB 75) 82 = .ok (.aload_n 0, 1) := by decide +kernel
theorem d75_83 : decode (pB 75) 83 = .ok (.bipush 8, 2) := by decide +kernel
theorem d75_85 : decode (pB 75) 85 = .ok (.invokevirtual 12, 3) := by decide +kernel
theorem d75_88 : decode (pB 75) 88 = .ok (.if_icmp .ge 39, 3) := by decide +kernel
theorem d75_91 : decode (pB 75) 91 = .ok (.iconst 0, 1) := by decide +kernel
theorem d75_92 : decode (pB 75) 92 = .ok (.istore 4, 2) := by decide +kernel
theorem d75_94 : decode (pB 75) 94 = .ok (.iload 4, 2) := by decide +kernel
theorem d75_96 : decode (pB 75) 96 = .ok (.iconst 5, 1) := by decide +kernel
theorem d75_97 : decode (pB 75) 97 = .ok (.if_icmp .ge 24, 3) := by decide +kernel
theorem d75_100 : decode (pB 75) 100 = .ok (.ldc2_w 10, 3) := by decide +kernel
theorem d75_103 : decode (pB 75) 103 = .ok (.lload_n 1, 1) := by decide +kernel
theorem d75_104 : decode (pB 75) 104 = .ok (.lmul, 1) := by decide +kernel
theorem d75_105 : decode (pB 75) 105 = .ok (.aload_n 0, 1) := by decide +kernel
theorem d75_106 : decode (pB 75) 106 = .ok (.iload_n 3, 1) := by decide +kernel
theorem d75_107 : decode (pB 75) 107 = .ok (.iload 4, 2) := by decide +kernel
theorem d75_109 : decode (pB 75) 109 = .ok (.invokevirtual 22, 3) := by decide +kernel
theorem d75_112 : decode (pB 75) 112 = .ok (.i2l, 1) := by decide +kernel
theorem d75_113 : decode (pB 75) 113 = .ok (.ladd, 1) := by decide +kernel
theorem d75_114 : decode (pB 75) 114 = .ok (.lstore_n 1, 1) := by decide +kernel
theorem d75_115 : decode (pB 75) 115 = .ok (.iinc 4 1, 3) := by decide +kernel
theorem d75_118 : decode (pB 75) 118 = .ok (.goto (-24), 3) := by decide +kernel
theorem d75_121 : decode (pB 75) 121 = .ok (.iinc 3 1, 3) := by decide +kernel
theorem d75_124 : decode (pB 75) 124 = .ok (.goto (-43), 3) := by decide +kernel
theorem d75_127 : decode (pB 75) 127 = .ok (.lload_n 1, 1) := by decide +kernel
theorem d75_128 : decode (pB 75) 128 = .ok (.lreturn, 1) := by decide +kernel
theorem st1_75_3 : p_st1 75 3 = true := by decide +kernel
theorem st1_75_4 : p_st1 75 4 = true := by decide +kernel
theorem st2_75_1 : p_st2 75 1 = true := by decide +kernel
/-- RL.told -/
def t75_0 : List (Nat × pO) := [(0, o_push (.long (3 : Int64)) 3), (3, o_lstore 1 4), (4, o_push (.int (nI 0)) 5), (5, o_istore 3 6), (6, o_iload 3 7), (7, o_push (.int (nI 11)) 9), (9, o_icge 31 12), (12, o_push (.long (31 : Int64)) 15), (15, o_lload 1 16), (16, o_lmul 17), (17, o_aload 0 18), (18, o_iload 3 19), (19, o_invV 4 48 1 22), (22, o_i2l 23), (23, o_ladd 24), (24, o_lstore 1 25), (25, o_iinc 3 (nI 1) 28), (28, o_goto 6), (31, o_push (.int (nI 0)) 32), (32, o_istore 3 33), (33, o_iload 3 34), (34, o_aload 0 35), (35, o_push (.int (nI 0)) 36), (36, o_invV 4 48 1 39), (39, o_icge 79 42), (42, o_push (.int (nI 0)) 43), (43, o_istore 4 45), (45, o_iload 4 47), (47, o_push (.int (nI 6)) 49), (49, o_icge 73 52), (52, o_push (.long (31 : Int64)) 55), (55, o_lload 1 56), (56, o_lmul 57), (57, o_aload 0 58), (58, o_iload 3 59), (59, o_iload 4 61), (61, o_invV 4 45 2 64), (64, o_i2l 65), (65, o_ladd 66), (66, o_lstore 1 67)]
theorem ok75_0 : ∀ q ∈ t75_0, p_Z 75 q := List.forall_mem_cons.mpr ⟨⟨s_ldc2 wd_317 d75_0, tl_push _ _⟩, List.forall_mem_cons.mpr ⟨⟨s_lstore_n d75_3 rfl st2_75_1, tl_lstore _ _⟩, List.forall_mem_cons.mpr ⟨⟨s_iconst d75_4 rfl, tl_push _ _⟩, List.forall_mem_cons.mpr ⟨⟨s_istore_n d75_5 rfl st1_75_3, tl_istore _ _⟩, List.forall_mem_cons.mpr ⟨⟨s_iload_n d75_6 rfl, tl_iload _ _⟩, List.forall_mem_cons.mpr ⟨⟨s_bipush d75_7 rfl, tl_push _ _⟩, List.forall_mem_cons.mpr ⟨⟨s_icge d75_9 rfl, tl_icge _ _⟩, List.forall_mem_cons.mpr ⟨⟨s_ldc2 wd_318 d75_12, tl_push _ _⟩, List.forall_mem_cons.mpr ⟨⟨s_lload_n d75_15 rfl, tl_lload _ _⟩, List.forall_mem_cons.mpr ⟨⟨s_lmul d75_16, tl_lmul _⟩, List.forall_mem_cons.mpr ⟨⟨s_aload_n d75_17 rfl, tl_aload _ _⟩, List.forall_mem_cons.mpr ⟨⟨s_iload_n d75_18 rfl, tl_iload _ _⟩, List.forall_mem_cons.mpr ⟨⟨q_invV_48 d75_19 wd_186, tl_invV _ _ _ _⟩, List.forall_mem_cons.mpr ⟨⟨s_i2l d75_22, tl_i2l _⟩, List.forall_mem_cons.mpr ⟨⟨s_ladd d75_23, tl_ladd _⟩, List.forall_mem_cons.mpr ⟨⟨s_lstore_n d75_24 rfl st2_75_1, tl_lstore _ _⟩, List.forall_mem_cons.mpr ⟨⟨s_iinc d75_25 rfl st1_75_3, tl_iinc _ _ _⟩, List.forall_mem_cons.mpr ⟨⟨s_goto d75_28 rfl, tl_goto _⟩, List.forall_mem_cons.mpr ⟨⟨s_iconst d75_31 rfl, tl_push _ _⟩, List.forall_mem_cons.mpr ⟨⟨s_istore_n d75_32 rfl st1_75_3, tl_istore _ _⟩, List.forall_mem_cons.mpr ⟨⟨s_iload_n d75_33 rfl, tl_iload _ _⟩, List.forall_mem_cons.mpr ⟨⟨s_aload_n d75_34 rfl, tl_aload _ _⟩, List.forall_mem_cons.mpr ⟨⟨s_iconst d75_35 rfl, tl_push _ _⟩, List.forall_mem_cons.mpr ⟨⟨q_invV_48 d75_36 wd_186, tl_invV _ _ _ _⟩, List.forall_mem_cons.mpr ⟨⟨s_icge d75_39 rfl, tl_icge _ _⟩, List.forall_mem_cons.mpr ⟨⟨s_iconst d75_42 rfl, tl_push _ _⟩, List.forall_mem_cons.mpr ⟨⟨s_istore d75_43 st1_75_4, tl_istore _ _⟩, List.forall_mem_cons.mpr ⟨⟨s_iload d75_45, tl_iload _ _⟩, List.forall_mem_cons.mpr ⟨⟨s_bipush d75_47 rfl, tl_push _ _⟩, List.forall_mem_cons.mpr ⟨⟨s_icge d75_49 rfl, tl_icge _ _⟩, List.forall_mem_cons.mpr ⟨⟨s_ldc2 wd_318 d75_52, tl_push _ _⟩, List.forall_mem_cons.mpr ⟨⟨s_lload_n d75_55 rfl, tl_lload _ _⟩, List.forall_mem_cons.mpr ⟨⟨s_lmul d75_56, tl_lmul _⟩, List.forall_mem_cons.mpr ⟨⟨s_aload_n d75_57 rfl, tl_aload _ _⟩, List.forall_mem_cons.mpr ⟨⟨s_iload_n d75_58 rfl, tl_iload _ _⟩, List.forall_mem_cons.mpr ⟨⟨s_iload d75_59, tl_iload _ _⟩, List.forall_mem_cons.mpr ⟨⟨q_invV_45 d75_61 wd_319, tl_invV _ _ _ _⟩, List.forall_mem_cons.mpr ⟨⟨s_i2l d75_64, tl_i2l _⟩, List.forall_mem_cons.mpr ⟨⟨s_ladd d75_65, tl_ladd _⟩, List.forall_mem_cons.mpr ⟨⟨s_lstore_n d75_66 rfl st2_75_1, tl_lstore _ _⟩, fun _ h => absurd h List.not_mem_nil⟩⟩⟩⟩⟩⟩⟩⟩⟩⟩⟩⟩⟩⟩⟩⟩⟩⟩⟩⟩⟩⟩⟩⟩⟩⟩⟩⟩⟩⟩⟩⟩⟩⟩⟩⟩⟩⟩⟩⟩
/-- RL.told -/
def t75_1 : List (Nat × pO) := [(67, o_iinc 4 (nI 1) 70), (70, o_goto 45), (73, o_iinc 3 (nI 1) 76), (76, o_goto 33), (79, o_push (.int (nI 0)) 80), (80, o_istore 3 81), (81, o_iload 3 82), (82, o_aload 0 83), (83, o_push (.int (nI 8)) 85), (85, o_invV 4 48 1 88), (88, o_icge 127 91), (91, o_push (.int (nI 0)) 92), (92, o_istore 4 94), (94, o_iload 4 96), (96, o_push (.int (nI 5)) 97), (97, o_icge 121 100), (100, o_push (.long (31 : Int64)) 103), (103, o_lload 1 104), (104, o_lmul 105), (105, o_aload 0 106), (106, o_iload 3 107), (107, o_iload 4 109), (109, o_invV 4 46 2 112), (112, o_i2l 113), (113, o_ladd 114), (114, o_lstore 1 115), (115, o_iinc 4 (nI 1) 118), (118, o_goto 94), (121, o_iinc 3 (nI 1) 124), (124, o_goto 81), (127, o_lload 1 128), (128, o_lret)]
theorem ok75_1 : ∀ q ∈ t75_1, p_Z 75 q := List.forall_mem_cons.mpr ⟨⟨s_iinc d75_67 rfl st1_75_4, tl_iinc _ _ _⟩, List.forall_mem_cons.mpr ⟨⟨s_goto d75_70 rfl, tl_goto _⟩, List.forall_mem_cons.mpr ⟨⟨s_iinc d75_73 rfl st1_75_3, tl_iinc _ _ _⟩, List.forall_mem_cons.mpr ⟨⟨s_goto d75_76 rfl, tl_goto _⟩, List.forall_mem_cons.mpr ⟨⟨s_iconst d75_79 rfl, tl_push _ _⟩, List.forall_mem_cons.mpr ⟨⟨s_istore_n d75_80 rfl st1_75_3, tl_istore _ _⟩, List.forall_mem_cons.mpr ⟨⟨s_iload_n d75_81 rfl, tl_iload _ _⟩, List.forall_mem_cons.mpr ⟨⟨s_aload_n d75_82 rfl, tl_aload _ _⟩, List.forall_mem_cons.mpr ⟨⟨s_bipush d75_83 rfl, tl_push _ _⟩, List.forall_mem_cons.mpr ⟨⟨q_invV_48 d75_85 wd_186, tl_invV _ _ _ _⟩, List.forall_mem_cons.mpr ⟨⟨s_icge d75_88 rfl, tl_icge _ _⟩, List.forall_mem_cons.mpr ⟨⟨s_iconst d75_91 rfl, tl_push _ _⟩, List.forall_mem_cons.mpr ⟨⟨s_istore d75_92 st1_75_4, tl_istore _ _⟩, List.forall_mem_cons.mpr ⟨⟨s_iload d75_94, tl_iload _ _⟩, List.forall_mem_cons.mpr ⟨⟨s_iconst d75_96 rfl, tl_push _ _⟩, List.forall_mem_cons.mpr ⟨⟨s_icge d75_97 rfl, tl_icge _ _⟩, List.forall_mem_cons.mpr ⟨⟨s_ldc2 wd_318 d75_100, tl_push _ _⟩, List.forall_mem_cons.mpr ⟨⟨s_lload_n d75_103 rfl, tl_lload _ _⟩, List.forall_mem_cons.mpr ⟨⟨s_lmul d75_104, tl_lmul _⟩, List.forall_mem_cons.mpr ⟨⟨s_aload_n d75_105 rfl, tl_aload _ _⟩, List.forall_mem_cons.mpr ⟨⟨s_iload_n d75_106 rfl, tl_iload _ _⟩, List.forall_mem_cons.mpr ⟨⟨s_iload d75_107, tl_iload _ _⟩, List.forall_mem_cons.mpr ⟨⟨q_invV_46 d75_109 wd_338, tl_invV _ _ _ _⟩, List.forall_mem_cons.mpr ⟨⟨s_i2l d75_112, tl_i2l _⟩, List.forall_mem_cons.mpr ⟨⟨s_ladd d75_113, tl_ladd _⟩, List.forall_mem_cons.mpr ⟨⟨s_lstore_n d75_114 rfl st2_75_1, tl_lstore _ _⟩, List.forall_mem_cons.mpr ⟨⟨s_iinc d75_115 rfl st1_75_4, tl_iinc _ _ _⟩, List.forall_mem_cons.mpr ⟨⟨s_goto d75_118 rfl, tl_goto _⟩, List.forall_mem_cons.mpr ⟨⟨s_iinc d75_121 rfl st1_75_3, tl_iinc _ _ _⟩, List.forall_mem_cons.mpr ⟨⟨s_goto d75_124 rfl, tl_goto _⟩, List.forall_mem_cons.mpr ⟨⟨s_lload_n d75_127 rfl, tl_lload _ _⟩, List.forall_mem_cons.mpr ⟨⟨s_lret d75_128 rfl, tl_lret⟩, fun _ h => absurd h List.not_mem_nil⟩⟩⟩⟩⟩⟩⟩⟩⟩⟩⟩⟩⟩⟩⟩⟩⟩⟩⟩⟩⟩⟩⟩⟩⟩⟩⟩⟩⟩⟩⟩⟩
def t75 : List (Nat × pO) := t75_0 ++ (t75_1)
theorem ok75 : ∀ q ∈ t75, p_Z 75 q := List.forall_mem_append.mpr ⟨ok75_0, ok75_1⟩
theorem d76_0 : decode (pB 76) 0 = .ok (.aload_n 0, 1) := by decide +kernel
theorem d76_1 : decode (pB 76) 1 = .ok (.iconst 0, 1) := by decide +kernel
theorem d76_2 : decode (pB 76) 2 = .ok (.invokevirtual 12, 3) := by decide +kernel
theorem d76_5 : decode (pB 76) 5 = .ok (.istore_n 3, 1) := by decide +kernel
theorem d76_6 : decode (pB 76) 6 = .ok (.iload_n 1, 1) := by decide +kernel
theorem d76_7 : decode (pB 76) 7 = .ok (.iconst 4, 1) := by decide +kernel
theorem d76_8 : decode (pB 76) 8 = .ok (.ishr, 1) := by decide +kernel
theorem d76_9 : decode (pB 76) 9 = .ok (.iload_n 3, 1) := by decide +kernel
theorem d76_10 : decode (pB 76) 10 = .ok (.iconst 1, 1) := by decide +kernel
theorem d76_11 : decode (pB 76) 11 = .ok (.iadd, 1) := by decide +kernel
theorem d76_12 : decode (pB 76) 12 = .ok (.invokestatic 25, 3) := by decide +kernel
theorem d76_15 : decode (pB 76) 15 = .ok (.istore 4, 2) := by decide +kernel
theorem d76_17 : decode (pB 76) 17 = .ok (.iload_n 1, 1) := by decide +kernel
theorem d76_18 : decode (pB 76) 18 = .ok (.bipush 15, 2) := by decide +kernel
theorem d76_20 : decode (pB 76) 20 = .ok (.iand, 1) := by decide +kernel
theorem d76_21 : decode (pB 76) 21 = .ok (.tableswitch 231 0 12 #[67, 85, 85, 90, 90, 90, 125, 170, 170, 193, 193, 198, 212], 67) := by decide +kernel
theorem d76_88 : decode (pB 76) 88 = .ok (.aload_n 0, 1) := by decide +kernel
theorem d76_89 : decode (pB 76) 89 = .ok (.iload_n 2, 1) := by decide +kernel
theorem d76_90 : decode (pB 76) 90 = .ok (.iconst 3, 1) := by decide +kernel
theorem d76_91 : decode (pB 76) 91 = .ok (.invokestatic 25, 3) := by decide +kernel
theorem d76_94 : decode (pB 76) 94 = .ok (.iload_n 2, 1) := by decide +kernel
theorem d76_95 : decode (pB 76) 95 = .ok (.iconst 2, 1) := by decide +kernel
theorem d76_96 : decode (pB 76) 96 = .ok (.ishr, 1) := by decide +kernel
theorem d76_97 : decode (pB 76) 97 = .ok (.bipush 18, 2) := by decide +kernel
theorem d76_99 : decode (pB 76) 99 = .ok (.invokestatic 25, 3) := by decide +kernel
theorem d76_102 : decode (pB 76) 102 = .ok (.invokevirtual 30, 3) := by decide +kernel
theorem d76_105 : decode (pB 76) 105 = .ok (.ireturn, 1) := by decide +kernel
theorem d76_106 : decode (pB 76) 106 = .ok (.aload_n 0, 1) := by decide +kernel
theorem d76_107 : decode (pB 76) 107 = .ok (.invokevirtual 33, 3) := by decide +kernel
theorem d76_110 : decode (pB 76) 110 = .ok (.ireturn, 1) := by decide +kernel
theorem d76_111 : decode (pB 76) 111 = .ok (.aload_n 0, 1) := by decide +kernel
theorem d76_112 : decode (pB 76) 112 = .ok (.iload 4, 2) := by decide +kernel
theorem d76_114 : decode (pB 76) 114 = .ok (.iload_n 2, 1) := by decide +kernel
theorem d76_115 : decode (pB 76) 115 = .ok (.aload_n 0, 1) := by decide +kernel
theorem d76_116 : decode (pB 76) 116 = .ok (.bipush 8, 2) := by decide +kernel
theorem d76_118 : decode (pB 76) 118 = .ok (.invokevirtual 12, 3) := by decide +kernel
theorem d76_121 : decode (pB 76) 121 = .ok (.iconst 1, 1) := by decide +kernel
theorem d76_122 : decode (pB 76) 122 = .ok (.iadd, 1) := by decide +kernel
theorem d76_123 : decode (pB 76) 123 = .ok (.invokestatic 25, 3) := by decide +kernel
theorem d76_126 : decode (pB 76) 126 = .ok (.invokevirtual 37, 3) := by decide +kernel
theorem d76_129 : decode (pB 76) 129 = .ok (.istore 5, 2) := by decide +kernel
theorem d76_131 : decode (pB 76) 131 = .ok (.iload 5, 2) := by decide +kernel
theorem d76_133 : decode (pB 76) 133 = .ok (.bipush (-6), 2) := by decide +kernel
theorem d76_135 : decode (pB 76) 135 = .ok (.if_icmp .ne 8, 3) := by decide +kernel
theorem d76_138 : decode (pB 76) 138 = .ok (.bipush 99, 2) := by decide +kernel
theorem d76_140 : decode (pB 76) 140 = .ok (.goto 5, 3) := by decide +kernel
theorem d76_143 : decode (pB 76) 143 = .ok (.iload 5, 2) := by decide +kernel
theorem d76_145 : decode (pB 76) 145 = .ok (.ireturn, 1) := by decide +kernel
theorem d76_146 : decode (pB 76) 146 = .ok (.iload_n 2, 1) := by decide +kernel
theorem d76_147 : decode (pB 76) 147 = .ok (.iconst 3, 1) := by decide +kernel
theorem d76_148 : decode (pB 76) 148 = .ok (.iand, 1) := by decide +kernel
theorem d76_149 : decode (pB 76) 149 = .ok (.ifCond .ne 12, 3) := by decide +kernel
theorem d76_152 : decode (pB 76) 152 = .ok (.aload_n 0, 1) := by decide +kernel
theorem d76_153 : decode (pB 76) 153 = .ok (.iload 4, 2) := by decide +kernel
theorem d76_155 : decode (pB 76) 155 = .ok (.invokevirtual 40, 3) := by decide +kernel
theorem d76_158 : decode (pB 76) 158 = .ok (.goto 32, 3) := by decide +kernel
theorem d76_161 : decode (pB 76) 161 = .ok (.aload_n 0, 1) := by decide +kernel
theorem d76_162 : decode (pB 76) 162 = .ok (.iload_n 2, 1) := by decide +kernel
theorem d76_163 : decode (pB 76) 163 = .ok (.iconst 2, 1) := by decide +kernel
theorem d76_164 : decode (pB 76) 164 = .ok (.ishr, 1) := by decide +kernel
theorem d76_165 : decode (pB 76) 165 = .ok (.aload_n 0, 1) := by decide +kernel
theorem d76_166 : decode (pB 76) 166 = .ok (.bipush 8, 2) := by decide +kernel
theorem d76_168 : decode (pB 76) 168 = .ok (.invokevirtual 12, 3) := by decide +kernel
theorem d76_171 : decode (pB 76) 171 = .ok (.invokestatic 25, 3) := by decide +kernel
theorem d76_174 : decode (pB 76) 174 = .ok (.iload_n 2, 1) := by decide +kernel
theorem d76_175 : decode (pB 76) 175 = .ok (.bipush 6, 2) := by decide +kernel
theorem d76_177 : decode (pB 76) 177 = .ok (.ishr, 1) := by decide +kernel
theorem d76_178 : decode (pB 76) 178 = .ok (.aload_n 0, 1) := by decide +kernel
theorem d76_179 : decode (pB 76) 179 = .ok (.bipush 8, 2) := by decide +kernel
theorem d76_181 : decode (pB 76) 181 = .ok (.invokevirtual 12, 3) := by decide +kernel
theorem d76_184 : decode (pB 76) 184 = .ok (.invokestatic 25, 3) := by decide +kernel
theorem d76_187 : decode (pB 76) 187 = .ok (.invokevirtual 43, 3) := by decide +kernel
theorem d76_190 : decode (pB 76) 190 = .ok (.ireturn, 1) := by decide +kernel
theorem d76_191 : decode (pB 76) 191 = .ok (.aload_n 0, 1) := by decide +kernel
theorem d76_192 : decode (pB 76) 192 = .ok (.iload 4, 2) := by decide +kernel
theorem d76_194 : decode (pB 76) 194 = .ok (.iload_n 2, 1) := by decide +kernel
theorem d76_195 : decode (pB 76) 195 = .ok (.iload_n 3, 1) := by decide +kernel
theorem d76_196 : decode (pB 76) 196 = .ok (.iconst 1, 1) := by decide +kernel
theorem d76_197 : decode (pB 76) 197 = .ok (.iadd, 1) := by decide +kernel
theorem d76_198 : decode (pB 76) 198 = .ok (.invokestatic 25, 3) := by decide +kernel
theorem d76_201 : decode (pB 76) 201 = .ok (.iload_n 2, 1) := by decide +kernel
theorem d76_202 : decode (pB 76) 202 = .ok (.iconst 4, 1) := by decide +kernel
theorem d76_203 : decode (pB 76) 203 = .ok (.ishr, 1) := by decide +kernel
theorem d76_204 : decode (pB 76) 204 = .ok (.iconst 4, 1) := by decide +kernel
theorem d76_205 : decode (pB 76) 205 = .ok (.invokestatic 25, 3) := by decide +kernel
theorem d76_208 : decode (pB 76) 208 = .ok (.iconst 1, 1) := by decide +kernel
theorem d76_209 : decode (pB 76) 209 = .ok (.isub, 1) := by decide +kernel
theorem d76_210 : decode (pB 76) 210 = .ok (.invokevirtual 46, 3) := by decide +kernel
theorem d76_213 : decode (pB 76) 213 = .ok (.ireturn, 1) := by decide +kernel
theorem d76_214 : decode (pB 76) 214 = .ok (.aload_n 0, 1) := by decide +kernel
theorem d76_215 : decode (pB 76) 215 = .ok (.invokevirtual 50, 3) := by decide +kernel
theorem d76_218 : decode (pB 76) 218 = .ok (.ireturn, 1) := by decide +kernel
theorem d76_219 : decode (pB 76) 219 = .ok (.aload_n 0, 1) := by decide +kernel
theorem d76_220 : decode (pB 76) 220 = .ok (.iload_n 2, 1) := by decide +kernel
theorem d76_221 : decode (pB 76) 221 = .ok (.aload_n 0, 1) := by decide +kernel
theorem d76_222 : decode (pB 76) 222 = .ok (.iconst 2, 1) := by decide +kernel
theorem d76_223 : decode (pB 76) 223 = .ok (.invokevirtual 12, 3) := by decide +kernel
theorem d76_226 : decode (pB 76) 226 = .ok (.invokestatic 25, 3) := by decide +kernel
theorem d76_229 : decode (pB 76) 229 = .ok (.invokevirtual 53, 3) := by decide +kernel
theorem d76_232 : decode (pB 76) 232 = .ok (.ireturn, 1) := by decide +kernel
theorem d76_233 : decode (pB 76) 233 = .ok (.iload_n 2, 1) := by decide +kernel
theorem d76_234 : decode (pB 76) 234 = .ok (.iconst 3, 1) := by decide +kernel
theorem d76_235 : decode (pB 76) 235 = .ok (.iand, 1) := by decide +kernel
theorem d76_236 : decode (pB 76) 236 = .ok (.ifCond .ne 11, 3) := by decide +kernel
theorem d76_239 : decode (pB 76) 239 = .ok (.aload_n 0, 1) := by decide +kernel
theorem d76_240 : decode (pB 76) 240 = .ok (.iconst 0, 1) := by decide +kernel
theorem d76_241 : decode (pB 76) 241 = .ok (.invokevirtual 56, 3) := by decide +kernel
theorem d76_244 : decode (pB 76) 244 = .ok (.goto 7, 3) := by decide +kernel
theorem d76_247 : decode (pB 76) 247 = .ok (.aload_n 0, 1) := by decide +kernel
theorem d76_248 : decode (pB 76) 248 = .ok (.invokevirtual 50, 3) := by decide +kernel
theorem d76_251 : decode (pB 76) 251 = .ok (.ireturn, 1) := by decide +kernel
theorem d76_252 : decode (pB 76) 252 = .ok (.aload_n 0, 1) := by decide +kernel
theorem d76_253 : decode (pB 76) 253 = .ok (.iload_n 2, 1) := by decide +kernel
theorem d76_254 : decode (pB 76) 254 = .ok (.aload_n 0, 1) := by decide +kernel
theorem d76_255 : decode (pB 76) 255 = .ok (.iconst 2, 1) := by decide +kernel
theorem d76_256 : decode (pB 76) 256 = .ok (.invokevirtual 12, 3) := by decide +kernel
theorem d76_259 : decode (pB 76) 259 = .ok (.iconst 1, 1) := by decide +kernel
theorem d76_260 : decode (pB 76) 260 = .ok (.iadd, 1) := by decide +kernel
theorem d76_261 : decode (pB 76) 261 = .ok (.invokestatic 25, 3) := by decide +kernel
theorem d76_264 : decode (pB 76) 264 = .ok (.invokevirtual 59, 3) := by decide +kernel
theorem d76_267 : decode (pB 76) 267 = .ok (.ireturn, 1) := by decide +kernel
theorem st1_76_3 : p_st1 76 3 = true := by decide +kernel
theorem st1_76_4 : p_st1 76 4 = true := by decide +kernel
theorem st1_76_5 : p_st1 76 5 = true := by decide +kernel
/-- RL.act -/
def t76_0 : List (Nat × pO) := [(0, o_aload 0 1), (1, o_push (.int (nI 0)) 2), (2, o_invV 4 48 1 5), (5, o_istore 3 6), (6, o_iload 1 7), (7, o_push (.int (nI 4)) 8), (8, o_ishr 9), (9, o_iload 3 10), (10, o_push (.int (nI 1)) 11), (11, o_iadd 12), (12, o_invS 74 2 15), (15, o_istore 4 17), (17, o_iload 1 18), (18, o_push (.int (nI 15)) 20), (20, o_iand 21), (21, o_switch [((nI 0), 88), ((nI 1), 106), ((nI 2), 106), ((nI 3), 111), ((nI 4), 111), ((nI 5), 111), ((nI 6), 146), ((nI 7), 191), ((nI 8), 191), ((nI 9), 214), ((nI 10), 214), ((nI 11), 219), ((nI 12), 233)] 252), (88, o_aload 0 89), (89, o_iload 2 90), (90, o_push (.int (nI 3)) 91), (91, o_invS 74 2 94), (94, o_iload 2 95), (95, o_push (.int (nI 2)) 96), (96, o_ishr 97), (97, o_push (.int (nI 18)) 99), (99, o_invS 74 2 102), (102, o_invV 4 36 2 105), (105, o_iret), (106, o_aload 0 107), (107, o_invV 4 37 0 110), (110, o_iret), (111, o_aload 0 112), (112, o_iload 4 114), (114, o_iload 2 115), (115, o_aload 0 116), (116, o_push (.int (nI 8)) 118), (118, o_invV 4 48 1 121), (121, o_push (.int (nI 1)) 122), (122, o_iadd 123), (123, o_invS 74 2 126), (126, o_invV 4 38 2 129)]
theorem ok76_0 : ∀ q ∈ t76_0, p_Z 76 q := List.forall_mem_cons.mpr ⟨⟨s_aload_n d76_0 rfl, tl_aload _ _⟩, List.forall_mem_cons.mpr ⟨⟨s_iconst d76_1 rfl, tl_push _ _⟩, List.forall_mem_cons.mpr ⟨⟨q_invV_48 d76_2 wd_186, tl_invV _ _ _ _⟩, List.forall_mem_cons.mpr ⟨⟨s_istore_n d76_5 rfl st1_76_3, tl_istore _ _⟩, List.forall_mem_cons.mpr ⟨⟨s_iload_n d76_6 rfl, tl_iload _ _⟩, List.forall_mem_cons.mpr ⟨⟨s_iconst d76_7 rfl, tl_push _ _⟩, List.forall_mem_cons.mpr ⟨⟨s_ishr d76_8, tl_ishr _⟩, List.forall_mem_cons.mpr ⟨⟨s_iload_n d76_9 rfl, tl_iload _ _⟩, List.forall_mem_cons.mpr ⟨⟨s_iconst d76_10 rfl, tl_push _ _⟩, List.forall_mem_cons.mpr ⟨⟨s_iadd d76_11, tl_iadd _⟩, List.forall_mem_cons.mpr ⟨⟨q_invS_74 d76_12 wd_310, tl_invS _ _ _⟩, List.forall_mem_cons.mpr ⟨⟨s_istore d76_15 st1_76_4, tl_istore _ _⟩, List.forall_mem_cons.mpr ⟨⟨s_iload_n d76_17 rfl, tl_iload _ _⟩, List.forall_mem_cons.mpr ⟨⟨s_bipush d76_18 rfl, tl_push _ _⟩, List.forall_mem_cons.mpr ⟨⟨s_iand d76_20, tl_iand _⟩, List.forall_mem_cons.mpr ⟨⟨s_table d76_21 rfl (by decide +kernel) (by decide +kernel), tl_switch _ _⟩, List.forall_mem_cons.mpr ⟨⟨s_aload_n d76_88 rfl, tl_aload _ _⟩, List.forall_mem_cons.mpr ⟨⟨s_iload_n d76_89 rfl, tl_iload _ _⟩, List.forall_mem_cons.mpr ⟨⟨s_iconst d76_90 rfl, tl_push _ _⟩, List.forall_mem_cons.mpr ⟨⟨q_invS_74 d76_91 wd_310, tl_invS _ _ _⟩, List.forall_mem_cons.mpr ⟨⟨s_iload_n d76_94 rfl, tl_iload _ _⟩, List.forall_mem_cons.mpr ⟨⟨s_iconst d76_95 rfl, tl_push _ _⟩, List.forall_mem_cons.mpr ⟨⟨s_ishr d76_96, tl_ishr _⟩, List.forall_mem_cons.mpr ⟨⟨s_bipush d76_97 rfl, tl_push _ _⟩, List.forall_mem_cons.mpr ⟨⟨q_invS_74 d76_99 wd_310, tl_invS _ _ _⟩, List.forall_mem_cons.mpr ⟨⟨q_invV_36 d76_102 wd_347, tl_invV _ _ _ _⟩, List.forall_mem_cons.mpr ⟨⟨s_iret d76_105 rfl, tl_iret⟩, List.forall_mem_cons.mpr ⟨⟨s_aload_n d76_106 rfl, tl_aload _ _⟩, List.forall_mem_cons.mpr ⟨⟨q_invV_37 d76_107 wd_363, tl_invV _ _ _ _⟩, List.forall_mem_cons.mpr ⟨⟨s_iret d76_110 rfl, tl_iret⟩, List.forall_mem_cons.mpr ⟨⟨s_aload_n d76_111 rfl, tl_aload _ _⟩, List.forall_mem_cons.mpr ⟨⟨s_iload d76_112, tl_iload _ _⟩, List.forall_mem_cons.mpr ⟨⟨s_iload_n d76_114 rfl, tl_iload _ _⟩, List.forall_mem_cons.mpr ⟨⟨s_aload_n d76_115 rfl, tl_aload _ _⟩, List.forall_mem_cons.mpr ⟨⟨s_bipush d76_116 rfl, tl_push _ _⟩, List.forall_mem_cons.mpr ⟨⟨q_invV_48 d76_118 wd_186, tl_invV _ _ _ _⟩, List.forall_mem_cons.mpr ⟨⟨s_iconst d76_121 rfl, tl_push _ _⟩, List.forall_mem_cons.mpr ⟨⟨s_iadd d76_122, tl_iadd _⟩, List.forall_mem_cons.mpr ⟨⟨q_invS_74 d76_123 wd_310, tl_invS _ _ _⟩, List.forall_mem_cons.mpr ⟨⟨q_invV_38 d76_126 wd_371, tl_invV _ _ _ _⟩, fun _ h => absurd h List.not_mem_nil⟩⟩⟩⟩⟩⟩⟩⟩⟩⟩⟩⟩⟩⟩⟩⟩⟩⟩⟩⟩⟩⟩⟩⟩⟩⟩⟩⟩⟩⟩⟩⟩⟩⟩⟩⟩⟩⟩⟩⟩
/-- RL.act -/
def t76_1 : List (Nat × pO) := [(129, o_istore 5 131), (131, o_iload 5 133), (133, o_push (.int (nM 6)) 135), (135, o_icne 143 138), (138, o_push (.int (nI 99)) 140), (140, o_goto 145), (143, o_iload 5 145), (145, o_iret), (146, o_iload 2 147), (147, o_push (.int (nI 3)) 148), (148, o_iand 149), (149, o_ifne 161 152), (152, o_aload 0 153), (153, o_iload 4 155), (155, o_invV 4 39 1 158), (158, o_goto 190), (161, o_aload 0 162), (162, o_iload 2 163), (163, o_push (.int (nI 2)) 164), (164, o_ishr 165), (165, o_aload 0 166), (166, o_push (.int (nI 8)) 168), (168, o_invV 4 48 1 171), (171, o_invS 74 2 174), (174, o_iload 2 175), (175, o_push (.int (nI 6)) 177), (177, o_ishr 178), (178, o_aload 0 179), (179, o_push (.int (nI 8)) 181), (181, o_invV 4 48 1 184), (184, o_invS 74 2 187), (187, o_invV 4 40 2 190), (190, o_iret), (191, o_aload 0 192), (192, o_iload 4 194), (194, o_iload 2 195), (195, o_iload 3 196), (196, o_push (.int (nI 1)) 197), (197, o_iadd 198), (198, o_invS 74 2 201)]
theorem ok76_1 : ∀ q ∈ t76_1, p_Z 76 q := List.forall_mem_cons.mpr ⟨⟨s_istore d76_129 st1_76_5, tl_istore _ _⟩, List.forall_mem_cons.mpr ⟨⟨s_iload d76_131, tl_iload _ _⟩, List.forall_mem_cons.mpr ⟨⟨s_bipush d76_133 rfl, tl_push _ _⟩, List.forall_mem_cons.mpr ⟨⟨s_icne d76_135 rfl, tl_icne _ _⟩, List.forall_mem_cons.mpr ⟨⟨s_bipush d76_138 rfl, tl_push _ _⟩, List.forall_mem_cons.mpr ⟨⟨s_goto d76_140 rfl, tl_goto _⟩, List.forall_mem_cons.mpr ⟨⟨s_iload d76_143, tl_iload _ _⟩, List.forall_mem_cons.mpr ⟨⟨s_iret d76_145 rfl, tl_iret⟩, List.forall_mem_cons.mpr ⟨⟨s_iload_n d76_146 rfl, tl_iload _ _⟩, List.forall_mem_cons.mpr ⟨⟨s_iconst d76_147 rfl, tl_push _ _⟩, List.forall_mem_cons.mpr ⟨⟨s_iand d76_148, tl_iand _⟩, List.forall_mem_cons.mpr ⟨⟨s_ifne d76_149 rfl, tl_ifne _ _⟩, List.forall_mem_cons.mpr ⟨⟨s_aload_n d76_152 rfl, tl_aload _ _⟩, List.forall_mem_cons.mpr ⟨⟨s_iload d76_153, tl_iload _ _⟩, List.forall_mem_cons.mpr ⟨⟨q_invV_39 d76_155 wd_379, tl_invV _ _ _ _⟩, List.forall_mem_cons.mpr ⟨⟨s_goto d76_158 rfl, tl_goto _⟩, List.forall_mem_cons.mpr ⟨⟨s_aload_n d76_161 rfl, tl_aload _ _⟩, List.forall_mem_cons.mpr ⟨⟨s_iload_n d76_162 rfl, tl_iload _ _⟩, List.forall_mem_cons.mpr ⟨⟨s_iconst d76_163 rfl, tl_push _ _⟩, List.forall_mem_cons.mpr ⟨⟨s_ishr d76_164, tl_ishr _⟩, List.forall_mem_cons.mpr ⟨⟨s_aload_n d76_165 rfl, tl_aload _ _⟩, List.forall_mem_cons.mpr ⟨⟨s_bipush d76_166 rfl, tl_push _ _⟩, List.forall_mem_cons.mpr ⟨⟨q_invV_48 d76_168 wd_186, tl_invV _ _ _ _⟩, List.forall_mem_cons.mpr ⟨⟨q_invS_74 d76_171 wd_310, tl_invS _ _ _⟩, List.forall_mem_cons.mpr ⟨⟨s_iload_n d76_174 rfl, tl_iload _ _⟩, List.forall_mem_cons.mpr ⟨⟨s_bipush d76_175 rfl, tl_push _ _⟩, List.forall_mem_cons.mpr ⟨⟨s_ishr d76_177, tl_ishr _⟩, List.forall_mem_cons.mpr ⟨⟨s_aload_n d76_178 rfl, tl_aload _ _⟩, List.forall_mem_cons.mpr ⟨⟨s_bipush d76_179 rfl, tl_push _ _⟩, List.forall_mem_cons.mpr ⟨⟨q_invV_48 d76_181 wd_186, tl_invV _ _ _ _⟩, List.forall_mem_cons.mpr ⟨⟨q_invS_74 d76_184 wd_310, tl_invS _ _ _⟩, List.forall_mem_cons.mpr ⟨⟨q_invV_40 d76_187 wd_387, tl_invV _ _ _ _⟩, List.forall_mem_cons.mpr ⟨⟨s_iret d76_190 rfl, tl_iret⟩, List.forall_mem_cons.mpr ⟨⟨s_aload_n d76_191 rfl, tl_aload _ _⟩, List.forall_mem_cons.mpr ⟨⟨s_iload d76_192, tl_iload _ _⟩, List.forall_mem_cons.mpr ⟨⟨s_iload_n d76_194 rfl, tl_iload _ _⟩, List.forall_mem_cons.mpr ⟨⟨s_iload_n d76_195 rfl, tl_iload _ _⟩, List.forall_mem_cons.mpr ⟨⟨s_iconst d76_196 rfl, tl_push _ _⟩, List.forall_mem_cons.mpr ⟨⟨s_iadd d76_197, tl_iadd _⟩, List.forall_mem_cons.mpr ⟨⟨q_invS_74 d76_198 wd_310, tl_invS _ _ _⟩, fun _ h => absurd h List.not_mem_nil⟩⟩⟩⟩⟩⟩⟩⟩⟩⟩⟩⟩⟩⟩⟩⟩⟩⟩⟩⟩⟩⟩⟩⟩⟩⟩⟩⟩⟩⟩⟩⟩⟩⟩⟩⟩⟩⟩⟩⟩
/-- RL.act -/
def t76_2 : List (Nat × pO) := [(201, o_iload 2 202), (202, o_push (.int (nI 4)) 203), (203, o_ishr 204), (204, o_push (.int (nI 4)) 205), (205, o_invS 74 2 208), (208, o_push (.int (nI 1)) 209), (209, o_isub 210), (210, o_invV 4 41 3 213), (213, o_iret), (214, o_aload 0 215), (215, o_invV 4 44 0 218), (218, o_iret), (219, o_aload 0 220), (220, o_iload 2 221), (221, o_aload 0 222), (222, o_push (.int (nI 2)) 223), (223, o_invV 4 48 1 226), (226, o_invS 74 2 229), (229, o_invV 4 43 1 232), (232, o_iret), (233, o_iload 2 234), (234, o_push (.int (nI 3)) 235), (235, o_iand 236), (236, o_ifne 247 239), (239, o_aload 0 240), (240, o_push (.int (nI 0)) 241), (241, o_invV 4 53 1 244), (244, o_goto 251), (247, o_aload 0 248), (248, o_invV 4 44 0 251), (251, o_iret), (252, o_aload 0 253), (253, o_iload 2 254), (254, o_aload 0 255), (255, o_push (.int (nI 2)) 256), (256, o_invV 4 48 1 259), (259, o_push (.int (nI 1)) 260), (260, o_iadd 261), (261, o_invS 74 2 264), (264, o_invV 4 42 1 267)]
theorem ok76_2 : ∀ q ∈ t76_2, p_Z 76 q := List.forall_mem_cons.mpr ⟨⟨s_iload_n d76_201 rfl, tl_iload _ _⟩, List.forall_mem_cons.mpr ⟨⟨s_iconst d76_202 rfl, tl_push _ _⟩, List.forall_mem_cons.mpr ⟨⟨s_ishr d76_203, tl_ishr _⟩, List.forall_mem_cons.mpr ⟨⟨s_iconst d76_204 rfl, tl_push _ _⟩, List.forall_mem_cons.mpr ⟨⟨q_invS_74 d76_205 wd_310, tl_invS _ _ _⟩, List.forall_mem_cons.mpr ⟨⟨s_iconst d76_208 rfl, tl_push _ _⟩, List.forall_mem_cons.mpr ⟨⟨s_isub d76_209, tl_isub _⟩, List.forall_mem_cons.mpr ⟨⟨q_invV_41 d76_210 wd_405, tl_invV _ _ _ _⟩, List.forall_mem_cons.mpr ⟨⟨s_iret d76_213 rfl, tl_iret⟩, List.forall_mem_cons.mpr ⟨⟨s_aload_n d76_214 rfl, tl_aload _ _⟩, List.forall_mem_cons.mpr ⟨⟨q_invV_44 d76_215 wd_418, tl_invV _ _ _ _⟩, List.forall_mem_cons.mpr ⟨⟨s_iret d76_218 rfl, tl_iret⟩, List.forall_mem_cons.mpr ⟨⟨s_aload_n d76_219 rfl, tl_aload _ _⟩, List.forall_mem_cons.mpr ⟨⟨s_iload_n d76_220 rfl, tl_iload _ _⟩, List.forall_mem_cons.mpr ⟨⟨s_aload_n d76_221 rfl, tl_aload _ _⟩, List.forall_mem_cons.mpr ⟨⟨s_iconst d76_222 rfl, tl_push _ _⟩, List.forall_mem_cons.mpr ⟨⟨q_invV_48 d76_223 wd_186, tl_invV _ _ _ _⟩, List.forall_mem_cons.mpr ⟨⟨q_invS_74 d76_226 wd_310, tl_invS _ _ _⟩, List.forall_mem_cons.mpr ⟨⟨q_invV_43 d76_229 wd_426, tl_invV _ _ _ _⟩, List.forall_mem_cons.mpr ⟨⟨s_iret d76_232 rfl, tl_iret⟩, List.forall_mem_cons.mpr ⟨⟨s_iload_n d76_233 rfl, tl_iload _ _⟩, List.forall_mem_cons.mpr ⟨⟨s_iconst d76_234 rfl, tl_push _ _⟩, List.forall_mem_cons.mpr ⟨⟨s_iand d76_235, tl_iand _⟩, List.forall_mem_cons.mpr ⟨⟨s_ifne d76_236 rfl, tl_ifne _ _⟩, List.forall_mem_cons.mpr ⟨⟨s_aload_n d76_239 rfl, tl_aload _ _⟩, List.forall_mem_cons.mpr ⟨⟨s_iconst d76_240 rfl, tl_push _ _⟩, List.forall_mem_cons.mpr ⟨⟨q_invV_53 d76_241 wd_288, tl_invV _ _ _ _⟩, List.forall_mem_cons.mpr ⟨⟨s_goto d76_244 rfl, tl_goto _⟩, List.forall_mem_cons.mpr ⟨⟨s_aload_n d76_247 rfl, tl_aload _ _⟩, List.forall_mem_cons.mpr ⟨⟨q_invV_44 d76_248 wd_418, tl_invV _ _ _ _⟩, List.forall_mem_cons.mpr ⟨⟨s_iret d76_251 rfl, tl_iret⟩, List.forall_mem_cons.mpr ⟨⟨s_aload_n d76_252 rfl, tl_aload _ _⟩, List.forall_mem_cons.mpr ⟨⟨s_iload_n d76_253 rfl, tl_iload _ _⟩, List.forall_mem_cons.mpr ⟨⟨s_aload_n d76_254 rfl, tl_aload _ _⟩, List.forall_mem_cons.mpr ⟨⟨s_iconst d76_255 rfl, tl_push _ _⟩, List.forall_mem_cons.mpr ⟨⟨q_invV_48 d76_256 wd_186, tl_invV _ _ _ _⟩, List.forall_mem_cons.mpr ⟨⟨s_iconst d76_259 rfl, tl_push _ _⟩, List.forall_mem_cons.mpr ⟨⟨s_iadd d76_260, tl_iadd _⟩, List.forall_mem_cons.mpr ⟨⟨q_invS_74 d76_261 wd_310, tl_invS _ _ _⟩, List.forall_mem_cons.mpr ⟨⟨q_invV_42 d76_264 wd_446, tl_invV _ _ _ _⟩, fun _ h => absurd h List.not_mem_nil⟩⟩⟩⟩⟩⟩⟩⟩⟩⟩⟩⟩⟩⟩⟩⟩⟩⟩⟩⟩⟩⟩⟩⟩⟩⟩⟩⟩⟩⟩⟩⟩⟩⟩⟩⟩⟩⟩⟩⟩
/-- RL.act -/
def t76_3 : List (Nat × pO) := [(267, o_iret)]
theorem ok76_3 : ∀ q ∈ t76_3, p_Z 76 q := List.forall_mem_cons.mpr ⟨⟨s_iret d76_267 rfl, tl_iret⟩, fun _ h => absurd h List.not_mem_nil⟩
def t76 : List (Nat × pO) := t76_0 ++ (t76_1 ++ (t76_2 ++ (t76_3)))
theorem ok76 : ∀ q ∈ t76, p_Z 76 q := List.forall_mem_append.mpr ⟨ok76_0, List.forall_mem_append.mpr ⟨ok76_1, List.forall_mem_append.mpr ⟨ok76_2, ok76_3⟩⟩⟩
theorem d77_0 : decode (pB 77) 0 = .ok (.iconst 0, 1) := by decide +kernel
theorem d77_1 : decode (pB 77) 1 = .ok (.istore_n 1, 1) := by decide +kernel
theorem d77_2 : decode (pB 77) 2 = .ok (.iconst 0, 1) := by decide +kernel
theorem d77_3 : decode (pB 77) 3 = .ok (.istore_n 2, 1) := by decide +kernel
theorem d77_4 : decode (pB 77) 4 = .ok (.aload_n 0, 1) := by decide +kernel
theorem d77_5 : decode (pB 77) 5 = .ok (.iconst 2, 1) := by decide +kernel
theorem d77_6 : decode (pB 77) 6 = .ok (.invokevirtual 12, 3) := by decide +kernel
theorem d77_9 : decode (pB 77) 9 = .ok (.istore_n 3, 1) := by decide +kernel
theorem d77_10 : decode (pB 77) 10 = .ok (.iconst 0, 1) := by decide +kernel
theorem d77_11 : decode (pB 77) 11 = .ok (.istore 4, 2) := by decide +kernel
theorem d77_13 : decode (pB 77) 13 = .ok (.iconst 0, 1) := by decide +kernel
theorem d77_14 : decode (pB 77) 14 = .ok (.istore 5, 2) := by decide +kernel
theorem d77_16 : decode (pB 77) 16 = .ok (.iload 5, 2) := by decide +kernel
theorem d77_18 : decode (pB 77) 18 = .ok (.iload_n 3, 1) := by decide +kernel
theorem d77_19 : decode (pB 77) 19 = .ok (.if_icmp .ge 161, 3) := by decide +kernel
theorem d77_22 : decode (pB 77) 22 = .ok (.iconst 0, 1) := by decide +kernel
theorem d77_23 : decode (pB 77) 23 = .ok (.istore 6, 2) := by decide +kernel
theorem d77_25 : decode (pB 77) 25 = .ok (.aload_n 0, 1) := by decide +kernel
theorem d77_26 : decode (pB 77) 26 = .ok (.iload 5, 2) := by decide +kernel
theorem d77_28 : decode (pB 77) 28 = .ok (.iload 6, 2) := by decide +kernel
theorem d77_30 : decode (pB 77) 30 = .ok (.invokevirtual 62, 3) := by decide +kernel
theorem d77_33 : decode (pB 77) 33 = .ok (.ifCond .lt 120, 3) := by decide +kernel
theorem d77_36 : decode (pB 77) 36 = .ok (.aload_n 0, 1) := by decide +kernel
theorem d77_37 : decode (pB 77) 37 = .ok (.iload 5, 2) := by decide +kernel
theorem d77_39 : decode (pB 77) 39 = .ok (.iload 6, 2) := by decide +kernel
theorem d77_41 : decode (pB 77) 41 = .ok (.invokevirtual 62, 3) := by decide +kernel
theorem d77_44 : decode (pB 77) 44 = .ok (.istore 7, 2) := by decide +kernel
theorem d77_46 : decode (pB 77) 46 = .ok (.iload_n 1, 1) := by decide +kernel
theorem d77_47 : decode (pB 77) 47 = .ok (.iconst 1, 1) := by decide +kernel
theorem d77_48 : decode (pB 77) 48 = .ok (.iload 7, 2) := by decide +kernel
theorem d77_50 : decode (pB 77) 50 = .ok (.ishl, 1) := by decide +kernel
theorem d77_51 : decode (pB 77) 51 = .ok (.ior, 1) := by decide +kernel
theorem d77_52 : decode (pB 77) 52 = .ok (.istore_n 1, 1) := by decide +kernel
theorem d77_53 : decode (pB 77) 53 = .ok (.aload_n 0, 1) := by decide +kernel
theorem d77_54 : decode (pB 77) 54 = .ok (.iload 7, 2) := by decide +kernel
theorem d77_56 : decode (pB 77) 56 = .ok (.iconst 1, 1) := by decide +kernel
theorem d77_57 : decode (pB 77) 57 = .ok (.invokevirtual 22, 3) := by decide +kernel
theorem d77_60 : decode (pB 77) 60 = .ok (.iload 5, 2) := by decide +kernel
theorem d77_62 : decode (pB 77) 62 = .ok (.if_icmp .ne 83, 3) := by decide +kernel
theorem d77_65 : decode (pB 77) 65 = .ok (.aload_n 0, 1) := by decide +kernel
theorem d77_66 : decode (pB 77) 66 = .ok (.iload 7, 2) := by decide +kernel
theorem d77_68 : decode (pB 77) 68 = .ok (.iconst 2, 1) := by decide +kernel
theorem d77_69 : decode (pB 77) 69 = .ok (.invokevirtual 22, 3) := by decide +kernel
theorem d77_72 : decode (pB 77) 72 = .ok (.iload 6, 2) := by decide +kernel
theorem d77_74 : decode (pB 77) 74 = .ok (.if_icmp .ne 71, 3) := by decide +kernel
theorem d77_77 : decode (pB 77) 77 = .ok (.aload_n 0, 1) := by decide +kernel
theorem d77_78 : decode (pB 77) 78 = .ok (.iload 7, 2) := by decide +kernel
theorem d77_80 : decode (pB 77) 80 = .ok (.iconst 3, 1) := by decide +kernel
theorem d77_81 : decode (pB 77) 81 = .ok (.invokevirtual 22, 3) := by decide +kernel
theorem d77_84 : decode (pB 77) 84 = .ok (.iload 6, 2) := by decide +kernel
theorem d77_86 : decode (pB 77) 86 = .ok (.ifCond .ne 8, 3) := by decide +kernel
theorem d77_89 : decode (pB 77) 89 = .ok (.bipush (-6), 2) := by decide +kernel
theorem d77_91 : decode (pB 77) 91 = .ok (.goto 13, 3) := by decide +kernel
theorem d77_94 : decode (pB 77) 94 = .ok (.aload_n 0, 1) := by decide +kernel
theorem d77_95 : decode (pB 77) 95 = .ok (.iload 5, 2) := by decide +kernel
theorem d77_97 : decode (pB 77) 97 = .ok (.iload 6, 2) := by decide +kernel
theorem d77_99 : decode (pB 77) 99 = .ok (.iconst 1, 1) := by decide +kernel
theorem d77_100 : decode (pB 77) 100 = .ok (.isub, 1) := by decide +kernel
theorem d77_101 : decode (pB 77) 101 = .ok (.invokevirtual 62, 3) := by decide +kernel
theorem d77_104 : decode (pB 77) 104 = .ok (.if_icmp .ne 41, 3) := by decide +kernel
theorem d77_107 : decode (pB 77) 107 = .ok (.aload_n 0, 1) := by decide +kernel
theorem d77_108 : decode (pB 77) 108 = .ok (.iload 7, 2) := by decide +kernel
theorem d77_110 : decode (pB 77) 110 = .ok (.iconst 4, 1) := by decide +kernel
theorem d77_111 : decode (pB 77) 111 = .ok (.invokevirtual 22, 3) := by decide +kernel
theorem d77_114 : decode (pB 77) 114 = .ok (.aload_n 0, 1) := by decide +kernel
theorem d77_115 : decode (pB 77) 115 = .ok (.iload 5, 2) := by decide +kernel
theorem d77_117 : decode (pB 77) 117 = .ok (.iload 6, 2) := by decide +kernel
theorem d77_119 : decode (pB 77) 119 = .ok (.iconst 1, 1) := by decide +kernel
theorem d77_120 : decode (pB 77) 120 = .ok (.iadd, 1) := by decide +kernel
theorem d77_121 : decode (pB 77) 121 = .ok (.invokevirtual 62, 3) := by decide +kernel
theorem d77_124 : decode (pB 77) 124 = .ok (.ifCond .ge 8, 3) := by decide +kernel
theorem d77_127 : decode (pB 77) 127 = .ok (.bipush (-6), 2) := by decide +kernel
theorem d77_129 : decode (pB 77) 129 = .ok (.goto 13, 3) := by decide +kernel
theorem d77_132 : decode (pB 77) 132 = .ok (.aload_n 0, 1) := by decide +kernel
theorem d77_133 : decode (pB 77) 133 = .ok (.iload 5, 2) := by decide +kernel
theorem d77_135 : decode (pB 77) 135 = .ok (.iload 6, 2) := by decide +kernel
theorem d77_137 : decode (pB 77) 137 = .ok (.iconst 1, 1) := by decide +kernel
theorem d77_138 : decode (pB 77) 138 = .ok (.iadd, 1) := by decide +kernel
theorem d77_139 : decode (pB 77) 139 = .ok (.invokevirtual 62, 3) := by decide +kernel
theorem d77_142 : decode (pB 77) 142 = .ok (.if_icmp .eq 5, 3) := by decide +kernel
theorem d77_145 : decode (pB 77) 145 = .ok (.iconst 0, 1) := by decide +kernel
theorem d77_146 : decode (pB 77) 146 = .ok (.ireturn, 1) := by decide +kernel
theorem d77_147 : decode (pB 77) 147 = .ok (.iinc 6 1, 3) := by decide +kernel
theorem d77_150 : decode (pB 77) 150 = .ok (.goto (-125), 3) := by decide +kernel
theorem d77_153 : decode (pB 77) 153 = .ok (.iload_n 2, 1) := by decide +kernel
theorem d77_154 : decode (pB 77) 154 = .ok (.iload 6, 2) := by decide +kernel
theorem d77_156 : decode (pB 77) 156 = .ok (.iadd, 1) := by decide +kernel
theorem d77_157 : decode (pB 77) 157 = .ok (.istore_n 2, 1) := by decide +kernel
theorem d77_158 : decode (pB 77) 158 = .ok (.iload 6, 2) := by decide +kernel
theorem d77_160 : decode (pB 77) 160 = .ok (.iload 4, 2) := by decide +kernel
theorem d77_162 : decode (pB 77) 162 = .ok (.if_icmp .le 8, 3) := by decide +kernel
theorem d77_165 : decode (pB 77) 165 = .ok (.iload 6, 2) := by decide +kernel
theorem d77_167 : decode (pB 77) 167 = .ok (.goto 5, 3) := by decide +kernel
theorem d77_170 : decode (pB 77) 170 = .ok (.iload 4, 2) := by decide +kernel
theorem d77_172 : decode (pB 77) 172 = .ok (.istore 4, 2) := by decide +kernel
theorem d77_174 : decode (pB 77) 174 = .ok (.iinc 5 1, 3) := by decide +kernel
theorem d77_177 : decode (pB 77) 177 = .ok (.goto (-161), 3) := by decide +kernel
theorem d77_180 : decode (pB 77) 180 = .ok (.aload_n 0, 1) := by decide +kernel
theorem d77_181 : decode (pB 77) 181 = .ok (.iconst 0, 1) := by decide +kernel
theorem d77_182 : decode (pB 77) 182 = .ok (.invokevirtual 12, 3) := by decide +kernel
theorem d77_185 : decode (pB 77) 185 = .ok (.istore 5, 2) := by decide +kernel
theorem d77_187 : decode (pB 77) 187 = .ok (.iconst 0, 1) := by decide +kernel
theorem d77_188 : decode (pB 77) 188 = .ok (.istore 6, 2) := by decide +kernel
theorem d77_190 : decode (pB 77) 190 = .ok (.iconst 0, 1) := by decide +kernel
theorem d77_191 : decode (pB 77) 191 = .ok (.istore 7, 2) := by decide +kernel
theorem d77_193 : decode (pB 77) 193 = .ok (.iconst 0, 1) := by decide +kernel
theorem d77_194 : decode (pB 77) 194 = .ok (.istore 8, 2) := by decide +kernel
theorem d77_196 : decode (pB 77) 196 = .ok (.iconst 0, 1) := by decide +kernel
theorem d77_197 : decode (pB 77) 197 = .ok (.istore 9, 2) := by decide +kernel
theorem d77_199 : decode (pB 77) 199 = .ok (.iload 9, 2) := by decide +kernel
theorem d77_201 : decode (pB 77) 201 = .ok (.iload 5, 2) := by decide +kernel
theorem d77_203 : decode (pB 77) 203 = .ok (.if_icmp .ge 261, 3) := by decide +kernel
theorem d77_206 : decode (pB 77) 206 = .ok (.aload_n 0, 1) := by decide +kernel
theorem d77_207 : decode (pB 77) 207 = .ok (.iload 9, 2) := by decide +kernel
theorem d77_209 : decode (pB 77) 209 = .ok (.iconst 1, 1) := by decide +kernel
theorem d77_210 : decode (pB 77) 210 = .ok (.invokevirtual 18, 3) := by decide +kernel
theorem d77_213 : decode (pB 77) 213 = .ok (.istore 10, 2) := by decide +kernel
theorem d77_215 : decode (pB 77) 215 = .ok (.iload 8, 2) := by decide +kernel
theorem d77_217 : decode (pB 77) 217 = .ok (.iload 10, 2) := by decide +kernel
theorem d77_219 : decode (pB 77) 219 = .ok (.ifCond .ge 7, 3) := by decide +kernel
theorem d77_222 : decode (pB 77) 222 = .ok (.iconst 0, 1) := by decide +kernel
theorem d77_223 : decode (pB 77) 223 = .ok (.goto 5, 3) := by decide +kernel
theorem d77_226 : decode (pB 77) 226 = .ok (.iload 10, 2) := by decide +kernel
theorem d77_228 : decode (pB 77) 228 = .ok (.iadd, 1) := by decide +kernel
theorem d77_229 : decode (pB 77) 229 = .ok (.istore 8, 2) := by decide +kernel
theorem d77_231 : decode (pB 77) 231 = .ok (.aload_n 0, 1) := by decide +kernel
theorem d77_232 : decode (pB 77) 232 = .ok (.iload 9, 2) := by decide +kernel
theorem d77_234 : decode (pB 77) 234 = .ok (.iconst 0, 1) := by decide +kernel
theorem d77_235 : decode (pB 77) 235 = .ok (.invokevirtual 18, 3) := by decide +kernel
theorem d77_238 : decode (pB 77) 238 = .ok (.ifCond .ge 7, 3) := by decide +kernel
theorem d77_241 : decode (pB 77) 241 = .ok (.iconst 1, 1) := by decide +kernel
theorem d77_242 : decode (pB 77) 242 = .ok (.goto 4, 3) := by decide +kernel
theorem d77_245 : decode (pB 77) 245 = .ok (.iconst 0, 1) := by decide +kernel
theorem d77_246 : decode (pB 77) 246 = .ok (.iload 10, 2) := by decide +kernel
theorem d77_248 : decode (pB 77) 248 = .ok (.ifCond .ge 7, 3) := by decide +kernel
theorem d77_251 : decode (pB 77) 251 = .ok (.iconst 1, 1) := by decide +kernel
theorem d77_252 : decode (pB 77) 252 = .ok (.goto 4, 3) := by decide +kernel
theorem d77_255 : decode (pB 77) 255 = .ok (.iconst 0, 1) := by decide +kernel
theorem d77_256 : decode (pB 77) 256 = .ok (.if_icmp .ne 52, 3) := by decide +kernel
theorem d77_259 : decode (pB 77) 259 = .ok (.iload 10, 2) := by decide +kernel
theorem d77_261 : decode (pB 77) 261 = .ok (.bipush 9, 2) := by decide +kernel
theorem d77_263 : decode (pB 77) 263 = .ok (.if_icmp .gt 45, 3) := by decide +kernel
theorem d77_266 : decode (pB 77) 266 = .ok (.aload_n 0, 1) := by decide +kernel
theorem d77_267 : decode (pB 77) 267 = .ok (.iload 9, 2) := by decide +kernel
theorem d77_269 : decode (pB 77) 269 = .ok (.iconst 2, 1) := by decide +kernel
theorem d77_270 : decode (pB 77) 270 = .ok (.invokevirtual 18, 3) := by decide +kernel
theorem d77_273 : decode (pB 77) 273 = .ok (.aload_n 0, 1) := by decide +kernel
theorem d77_274 : decode (pB 77) 274 = .ok (.iload 9, 2) := by decide +kernel
theorem d77_276 : decode (pB 77) 276 = .ok (.iconst 3, 1) := by decide +kernel
theorem d77_277 : decode (pB 77) 277 = .ok (.invokevirtual 18, 3) := by decide +kernel
theorem d77_280 : decode (pB 77) 280 = .ok (.iand, 1) := by decide +kernel
theorem d77_281 : decode (pB 77) 281 = .ok (.ifCond .ne 27, 3) := by decide +kernel
theorem d77_284 : decode (pB 77) 284 = .ok (.aload_n 0, 1) := by decide +kernel
theorem d77_285 : decode (pB 77) 285 = .ok (.iload 9, 2) := by decide +kernel
theorem d77_287 : decode (pB 77) 287 = .ok (.iconst 2, 1) := by decide +kernel
theorem d77_288 : decode (pB 77) 288 = .ok (.invokevirtual 18, 3) := by decide +kernel
theorem d77_291 : decode (pB 77) 291 = .ok (.aload_n 0, 1) := by decide +kernel
theorem d77_292 : decode (pB 77) 292 = .ok (.iload 9, 2) := by decide +kernel
theorem d77_294 : decode (pB 77) 294 = .ok (.iconst 3, 1) := by decide +kernel
theorem d77_295 : decode (pB 77) 295 = .ok (.invokevirtual 18, 3) := by decide +kernel
theorem d77_298 : decode (pB 77) 298 = .ok (.ior, 1) := by decide +kernel
theorem d77_299 : decode (pB 77) 299 = .ok (.iload 9, 2) := by decide +kernel
theorem d77_301 : decode (pB 77) 301 = .ok (.ishr, 1) := by decide +kernel
theorem d77_302 : decode (pB 77) 302 = .ok (.iconst 1, 1) := by decide +kernel
theorem d77_303 : decode (pB 77) 303 = .ok (.iand, 1) := by decide +kernel
theorem d77_304 : decode (pB 77) 304 = .ok (.iconst 1, 1) := by decide +kernel
theorem d77_305 : decode (pB 77) 305 = .ok (.if_icmp .ne 5, 3) := by decide +kernel
theorem d77_308 : decode (pB 77) 308 = .ok (.iconst 0, 1) := by decide +kernel
theorem d77_309 : decode (pB 77) 309 = .ok (.ireturn, 1) := by decide +kernel
theorem d77_310 : decode (pB 77) 310 = .ok (.iconst 0, 1) := by decide +kernel
theorem d77_311 : decode (pB 77) 311 = .ok (.istore 11, 2) := by decide +kernel
theorem d77_313 : decode (pB 77) 313 = .ok (.iload 11, 2) := by decide +kernel
theorem d77_315 : decode (pB 77) 315 = .ok (.iload 5, 2) := by decide +kernel
theorem d77_317 : decode (pB 77) 317 = .ok (.if_icmp .ge 141, 3) := by decide +kernel
theorem d77_320 : decode (pB 77) 320 = .ok (.aload_n 0, 1) := by decide +kernel
theorem d77_321 : decode (pB 77) 321 = .ok (.iload 9, 2) := by decide +kernel
theorem d77_323 : decode (pB 77) 323 = .ok (.iconst 5, 1) := by decide +kernel
theorem d77_324 : decode (pB 77) 324 = .ok (.invokevirtual 18, 3) := by decide +kernel
theorem d77_327 : decode (pB 77) 327 = .ok (.iload 11, 2) := by decide +kernel
theorem d77_329 : decode (pB 77) 329 = .ok (.ishr, 1) := by decide +kernel
theorem d77_330 : decode (pB 77) 330 = .ok (.iconst 1, 1) := by decide +kernel
theorem d77_331 : decode (pB 77) 331 = .ok (.iand, 1) := by decide +kernel
theorem d77_332 : decode (pB 77) 332 = .ok (.iconst 1, 1) := by decide +kernel
theorem d77_333 : decode (pB 77) 333 = .ok (.if_icmp .ne 7, 3) := by decide +kernel
theorem d77_336 : decode (pB 77) 336 = .ok (.iconst 1, 1) := by decide +kernel
theorem d77_337 : decode (pB 77) 337 = .ok (.goto 4, 3) := by decide +kernel
theorem d77_340 : decode (pB 77) 340 = .ok (.iconst 0, 1) := by decide +kernel
theorem d77_341 : decode (pB 77) 341 = .ok (.istore 12, 2) := by decide +kernel
theorem d77_343 : decode (pB 77) 343 = .ok (.iload 6, 2) := by decide +kernel
theorem d77_345 : decode (pB 77) 345 = .ok (.iload 12, 2) := by decide +kernel
theorem d77_347 : decode (pB 77) 347 = .ok (.ifCond .eq 23, 3) := by decide +kernel
theorem d77_350 : decode (pB 77) 350 = .ok (.aload_n 0, 1) := by decide +kernel
theorem d77_351 : decode (pB 77) 351 = .ok (.iload 9, 2) := by decide +kernel
theorem d77_353 : decode (pB 77) 353 = .ok (.iconst 3, 1) := by decide +kernel
theorem d77_354 : decode (pB 77) 354 = .ok (.invokevirtual 18, 3) := by decide +kernel
theorem d77_357 : decode (pB 77) 357 = .ok (.iload 11, 2) := by decide +kernel
theorem d77_359 : decode (pB 77) 359 = .ok (.ishr, 1) := by decide +kernel
theorem d77_360 : decode (pB 77) 360 = .ok (.iconst 1, 1) := by decide +kernel
theorem d77_361 : decode (pB 77) 361 = .ok (.iand, 1) := by decide +kernel
theorem d77_362 : decode (pB 77) 362 = .ok (.iconst 1, 1) := by decide +kernel
theorem d77_363 : decode (pB 77) 363 = .ok (.if_icmp .ne 7, 3) := by decide +kernel
theorem d77_366 : decode (pB 77) 366 = .ok (.iconst 1, 1) := by decide +kernel
theorem d77_367 : decode (pB 77) 367 = .ok (.goto 4, 3) := by decide +kernel
theorem d77_370 : decode (pB 77) 370 = .ok (.iconst 0, 1) := by decide +kernel
theorem d77_371 : decode (pB 77) 371 = .ok (.iadd, 1) := by decide +kernel
theorem d77_372 : decode (pB 77) 372 = .ok (.istore 6, 2) := by decide +kernel
theorem d77_374 : decode (pB 77) 374 = .ok (.iload 7, 2) := by decide +kernel
theorem d77_376 : decode (pB 77) 376 = .ok (.iload 12, 2) := by decide +kernel
theorem d77_378 : decode (pB 77) 378 = .ok (.ifCond .eq 23, 3) := by decide +kernel
theorem d77_381 : decode (pB 77) 381 = .ok (.aload_n 0, 1) := by decide +kernel
theorem d77_382 : decode (pB 77) 382 = .ok (.iload 9, 2) := by decide +kernel
theorem d77_384 : decode (pB 77) 384 = .ok (.iconst 2, 1) := by decide +kernel
theorem d77_385 : decode (pB 77) 385 = .ok (.invokevirtual 18, 3) := by decide +kernel
theorem d77_388 : decode (pB 77) 388 = .ok (.iload 11, 2) := by decide +kernel
theorem d77_390 : decode (pB 77) 390 = .ok (.ishr, 1) := by decide +kernel
theorem d77_391 : decode (pB 77) 391 = .ok (.iconst 1, 1) := by decide +kernel
theorem d77_392 : decode (pB 77) 392 = .ok (.iand, 1) := by decide +kernel
theorem d77_393 : decode (pB 77) 393 = .ok (.iconst 1, 1) := by decide +kernel
theorem d77_394 : decode (pB 77) 394 = .ok (.if_icmp .ne 7, 3) := by decide +kernel
theorem d77_397 : decode (pB 77) 397 = .ok (.iconst 1, 1) := by decide +kernel
theorem d77_398 : decode (pB 77) 398 = .ok (.goto 4, 3) := by decide +kernel
theorem d77_401 : decode (pB 77) 401 = .ok (.iconst 0, 1) := by decide +kernel
theorem d77_402 : decode (pB 77) 402 = .ok (.iadd, 1) := by decide +kernel
theorem d77_403 : decode (pB 77) 403 = .ok (.istore 7, 2) := by decide +kernel
theorem d77_405 : decode (pB 77) 405 = .ok (.iconst 2, 1) := by decide +kernel
theorem d77_406 : decode (pB 77) 406 = .ok (.istore 13, 2) := by decide +kernel
theorem d77_408 : decode (pB 77) 408 = .ok (.iload 13, 2) := by decide +kernel
theorem d77_410 : decode (pB 77) 410 = .ok (.bipush 6, 2) := by decide +kernel
theorem d77_412 : decode (pB 77) 412 = .ok (.if_icmp .ge 40, 3) := by decide +kernel
theorem d77_415 : decode (pB 77) 415 = .ok (.aload_n 0, 1) := by decide +kernel
theorem d77_416 : decode (pB 77) 416 = .ok (.iload 9, 2) := by decide +kernel
theorem d77_418 : decode (pB 77) 418 = .ok (.iload 13, 2) := by decide +kernel
theorem d77_420 : decode (pB 77) 420 = .ok (.invokevirtual 18, 3) := by decide +kernel
theorem d77_423 : decode (pB 77) 423 = .ok (.iload 11, 2) := by decide +kernel
theorem d77_425 : decode (pB 77) 425 = .ok (.ishr, 1) := by decide +kernel
theorem d77_426 : decode (pB 77) 426 = .ok (.iconst 1, 1) := by decide +kernel
theorem d77_427 : decode (pB 77) 427 = .ok (.iand, 1) := by decide +kernel
theorem d77_428 : decode (pB 77) 428 = .ok (.aload_n 0, 1) := by decide +kernel
theorem d77_429 : decode (pB 77) 429 = .ok (.iload 11, 2) := by decide +kernel
theorem d77_431 : decode (pB 77) 431 = .ok (.iload 13, 2) := by decide +kernel
theorem d77_433 : decode (pB 77) 433 = .ok (.invokevirtual 18, 3) := by decide +kernel
theorem d77_436 : decode (pB 77) 436 = .ok (.iload 9, 2) := by decide +kernel
theorem d77_438 : decode (pB 77) 438 = .ok (.ishr, 1) := by decide +kernel
theorem d77_439 : decode (pB 77) 439 = .ok (.iconst 1, 1) := by decide +kernel
theorem d77_440 : decode (pB 77) 440 = .ok (.iand, 1) := by decide +kernel
theorem d77_441 : decode (pB 77) 441 = .ok (.if_icmp .eq 5, 3) := by decide +kernel
theorem d77_444 : decode (pB 77) 444 = .ok (.iconst 0, 1) := by decide +kernel
theorem d77_445 : decode (pB 77) 445 = .ok (.ireturn, 1) := by decide +kernel
theorem d77_446 : decode (pB 77) 446 = .ok (.iinc 13 1, 3) := by decide +kernel
theorem d77_449 : decode (pB 77) 449 = .ok (.goto (-41), 3) := by decide +kernel
theorem d77_452 : decode (pB 77) 452 = .ok (.iinc 11 1, 3) := by decide +kernel
theorem d77_455 : decode (pB 77) 455 = .ok (.goto (-142), 3) := by decide +kernel
theorem d77_458 : decode (pB 77) 458 = .ok (.iinc 9 1, 3) := by decide +kernel
theorem d77_461 : decode (pB 77) 461 = .ok (.goto (-262), 3) := by decide +kernel
theorem d77_464 : decode (pB 77) 464 = .ok (.iload_n 2, 1) := by decide +kernel
theorem d77_465 : decode (pB 77) 465 = .ok (.aload_n 0, 1) := by decide +kernel
theorem d77_466 : decode (pB 77) 466 = .ok (.bipush 8, 2) := by decide +kernel
theorem d77_468 : decode (pB 77) 468 = .ok (.invokevirtual 12, 3) := by decide +kernel
theorem d77_471 : decode (pB 77) 471 = .ok (.if_icmp .ne 39, 3) := by decide +kernel
theorem d77_474 : decode (pB 77) 474 = .ok (.iload_n 1, 1) := by decide +kernel
theorem d77_475 : decode (pB 77) 475 = .ok (.iconst 1, 1) := by decide +kernel
theorem d77_476 : decode (pB 77) 476 = .ok (.iload_n 2, 1) := by decide +kernel
theorem d77_477 : decode (pB 77) 477 = .ok (.ishl, 1) := by decide +kernel
theorem d77_478 : decode (pB 77) 478 = .ok (.iconst 1, 1) := by decide +kernel
theorem d77_479 : decode (pB 77) 479 = .ok (.isub, 1) := by decide +kernel
theorem d77_480 : decode (pB 77) 480 = .ok (.if_icmp .ne 30, 3) := by decide +kernel
theorem d77_483 : decode (pB 77) 483 = .ok (.iload 4, 2) := by decide +kernel
theorem d77_485 : decode (pB 77) 485 = .ok (.aload_n 0, 1) := by decide +kernel
theorem d77_486 : decode (pB 77) 486 = .ok (.bipush 7, 2) := by decide +kernel
theorem d77_488 : decode (pB 77) 488 = .ok (.invokevirtual 12, 3) := by decide +kernel
theorem d77_491 : decode (pB 77) 491 = .ok (.if_icmp .ne 19, 3) := by decide +kernel
theorem d77_494 : decode (pB 77) 494 = .ok (.iload 4, 2) := by decide +kernel
theorem d77_496 : decode (pB 77) 496 = .ok (.iconst 1, 1) := by decide +kernel
theorem d77_497 : decode (pB 77) 497 = .ok (.aload_n 0, 1) := by decide +kernel
theorem d77_498 : decode (pB 77) 498 = .ok (.iconst 3, 1) := by decide +kernel
theorem d77_499 : decode (pB 77) 499 = .ok (.invokevirtual 12, 3) := by decide +kernel
theorem d77_502 : decode (pB 77) 502 = .ok (.ishl, 1) := by decide +kernel
theorem d77_503 : decode (pB 77) 503 = .ok (.if_icmp .gt 7, 3) := by decide +kernel
theorem d77_506 : decode (pB 77) 506 = .ok (.iconst 1, 1) := by decide +kernel
theorem d77_507 : decode (pB 77) 507 = .ok (.goto 4, 3) := by decide +kernel
theorem d77_510 : decode (pB 77) 510 = .ok (.iconst 0, 1) := by decide +kernel
theorem d77_511 : decode (pB 77) 511 = .ok (.istore 9, 2) := by decide +kernel
theorem d77_513 : decode (pB 77) 513 = .ok (.iload 9, 2) := by decide +kernel
theorem d77_515 : decode (pB 77) 515 = .ok (.ifCond .eq 67, 3) := by decide +kernel
theorem d77_518 : decode (pB 77) 518 = .ok (.iload 6, 2) := by decide +kernel
theorem d77_520 : decode (pB 77) 520 = .ok (.iconst 2, 1) := by decide +kernel
theorem d77_521 : decode (pB 77) 521 = .ok (.aload_n 0, 1) := by decide +kernel
theorem d77_522 : decode (pB 77) 522 = .ok (.iconst 4, 1) := by decide +kernel
theorem d77_523 : decode (pB 77) 523 = .ok (.invokevirtual 12, 3) := by decide +kernel
theorem d77_526 : decode (pB 77) 526 = .ok (.imul, 1) := by decide +kernel
theorem d77_527 : decode (pB 77) 527 = .ok (.if_icmp .ne 55, 3) := by decide +kernel
theorem d77_530 : decode (pB 77) 530 = .ok (.iload 7, 2) := by decide +kernel
theorem d77_532 : decode (pB 77) 532 = .ok (.iconst 2, 1) := by decide +kernel
theorem d77_533 : decode (pB 77) 533 = .ok (.aload_n 0, 1) := by decide +kernel
theorem d77_534 : decode (pB 77) 534 = .ok (.iconst 5, 1) := by decide +kernel
theorem d77_535 : decode (pB 77) 535 = .ok (.invokevirtual 12, 3) := by decide +kernel
theorem d77_538 : decode (pB 77) 538 = .ok (.imul, 1) := by decide +kernel
theorem d77_539 : decode (pB 77) 539 = .ok (.if_icmp .ne 43, 3) := by decide +kernel
theorem d77_542 : decode (pB 77) 542 = .ok (.iload 8, 2) := by decide +kernel
theorem d77_544 : decode (pB 77) 544 = .ok (.aload_n 0, 1) := by decide +kernel
theorem d77_545 : decode (pB 77) 545 = .ok (.bipush 6, 2) := by decide +kernel
theorem d77_547 : decode (pB 77) 547 = .ok (.invokevirtual 12, 3) := by decide +kernel
theorem d77_550 : decode (pB 77) 550 = .ok (.if_icmp .ne 32, 3) := by decide +kernel
theorem d77_553 : decode (pB 77) 553 = .ok (.aload_n 0, 1) := by decide +kernel
theorem d77_554 : decode (pB 77) 554 = .ok (.invokevirtual 65, 3) := by decide +kernel
theorem d77_557 : decode (pB 77) 557 = .ok (.ifCond .ne 7, 3) := by decide +kernel
theorem d77_560 : decode (pB 77) 560 = .ok (.iconst 1, 1) := by decide +kernel
theorem d77_561 : decode (pB 77) 561 = .ok (.goto 4, 3) := by decide +kernel
theorem d77_564 : decode (pB 77) 564 = .ok (.iconst 0, 1) := by decide +kernel
theorem d77_565 : decode (pB 77) 565 = .ok (.iload_n 3, 1) := by decide +kernel
theorem d77_566 : decode (pB 77) 566 = .ok (.iconst 1, 1) := by decide +kernel
theorem d77_567 : decode (pB 77) 567 = .ok (.if_icmp .ne 7, 3) := by decide +kernel
theorem d77_570 : decode (pB 77) 570 = .ok (.iconst 1, 1) := by decide +kernel
theorem d77_571 : decode (pB 77) 571 = .ok (.goto 4, 3) := by decide +kernel
theorem d77_574 : decode (pB 77) 574 = .ok (.iconst 0, 1) := by decide +kernel
theorem d77_575 : decode (pB 77) 575 = .ok (.if_icmp .ne 7, 3) := by decide +kernel
theorem d77_578 : decode (pB 77) 578 = .ok (.iconst 1, 1) := by decide +kernel
theorem d77_579 : decode (pB 77) 579 = .ok (.goto 4, 3) := by decide +kernel
theorem d77_582 : decode (pB 77) 582 = .ok (.iconst 0, 1) := by decide +kernel
theorem d77_583 : decode (pB 77) 583 = .ok (.ireturn, 1) := by decide +kernel
theorem st1_77_1 : p_st1 77 1 = true := by decide +kernel
theorem st1_77_10 : p_st1 77 10 = true := by decide +kernel
theorem st1_77_11 : p_st1 77 11 = true := by decide +kernel
theorem st1_77_12 : p_st1 77 12 = true := by decide +kernel
theorem st1_77_13 : p_st1 77 13 = true := by decide +kernel
theorem st1_77_2 : p_st1 77 2 = true := by decide +kernel
theorem st1_77_3 : p_st1 77 3 = true := by decide +kernel
theorem st1_77_4 : p_st1 77 4 = true := by decide +kernel
theorem st1_77_5 : p_st1 77 5 = true := by decide +kernel
theorem st1_77_6 : p_st1 77 6 = true := by decide +kernel
theorem st1_77_7 : p_st1 77 7 = true := by decide +kernel
theorem st1_77_8 : p_st1 77 8 = true := by decide +kernel
theorem st1_77_9 : p_st1 77 9 = true := by decide +kernel
/-- RL.holds -/
def t77_0 : List (Nat × pO) := [(0, o_push (.int (nI 0)) 1), (1, o_istore 1 2), (2, o_push (.int (nI 0)) 3), (3, o_istore 2 4), (4, o_aload 0 5), (5, o_push (.int (nI 2)) 6), (6, o_invV 4 48 1 9), (9, o_istore 3 10), (10, o_push (.int (nI 0)) 11), (11, o_istore 4 13), (13, o_push (.int (nI 0)) 14), (14, o_istore 5 16), (16, o_iload 5 18), (18, o_iload 3 19), (19, o_icge 180 22), (22, o_push (.int (nI 0)) 23), (23, o_istore 6 25), (25, o_aload 0 26), (26, o_iload 5 28), (28, o_iload 6 30), (30, o_invV 4 47 2 33), (33, o_iflt 153 36), (36, o_aload 0 37), (37, o_iload 5 39), (39, o_iload 6 41), (41, o_invV 4 47 2 44), (44, o_istore 7 46), (46, o_iload 1 47), (47, o_push (.int (nI 1)) 48), (48, o_iload 7 50), (50, o_ishl 51), (51, o_ior 52), (52, o_istore 1 53), (53, o_aload 0 54), (54, o_iload 7 56), (56, o_push (.int (nI 1)) 57), (57, o_invV 4 46 2 60), (60, o_iload 5 62), (62, o_icne 145 65), (65, o_aload 0 66)]
theorem ok77_0 : ∀ q ∈ t77_0, p_Z 77 q := List.forall_mem_cons.mpr ⟨⟨s_iconst d77_0 rfl, tl_push _ _⟩, List.forall_mem_cons.mpr ⟨⟨s_istore_n d77_1 rfl st1_77_1, tl_istore _ _⟩, List.forall_mem_cons.mpr ⟨⟨s_iconst d77_2 rfl, tl_push _ _⟩, List.forall_mem_cons.mpr ⟨⟨s_istore_n d77_3 rfl st1_77_2, tl_istore _ _⟩, List.forall_mem_cons.mpr ⟨⟨s_aload_n d77_4 rfl, tl_aload _ _⟩, List.forall_mem_cons.mpr ⟨⟨s_iconst d77_5 rfl, tl_push _ _⟩, List.forall_mem_cons.mpr ⟨⟨q_invV_48 d77_6 wd_186, tl_invV _ _ _ _⟩, List.forall_mem_cons.mpr ⟨⟨s_istore_n d77_9 rfl st1_77_3, tl_istore _ _⟩, List.forall_mem_cons.mpr ⟨⟨s_iconst d77_10 rfl, tl_push _ _⟩, List.forall_mem_cons.mpr ⟨⟨s_istore d77_11 st1_77_4, tl_istore _ _⟩, List.forall_mem_cons.mpr ⟨⟨s_iconst d77_13 rfl, tl_push _ _⟩, List.forall_mem_cons.mpr ⟨⟨s_istore d77_14 st1_77_5, tl_istore _ _⟩, List.forall_mem_cons.mpr ⟨⟨s_iload d77_16, tl_iload _ _⟩, List.forall_mem_cons.mpr ⟨⟨s_iload_n d77_18 rfl, tl_iload _ _⟩, List.forall_mem_cons.mpr ⟨⟨s_icge d77_19 rfl, tl_icge _ _⟩, List.forall_mem_cons.mpr ⟨⟨s_iconst d77_22 rfl, tl_push _ _⟩, List.forall_mem_cons.mpr ⟨⟨s_istore d77_23 st1_77_6, tl_istore _ _⟩, List.forall_mem_cons.mpr ⟨⟨s_aload_n d77_25 rfl, tl_aload _ _⟩, List.forall_mem_cons.mpr ⟨⟨s_iload d77_26, tl_iload _ _⟩, List.forall_mem_cons.mpr ⟨⟨s_iload d77_28, tl_iload _ _⟩, List.forall_mem_cons.mpr ⟨⟨q_invV_47 d77_30 wd_457, tl_invV _ _ _ _⟩, List.forall_mem_cons.mpr ⟨⟨s_iflt d77_33 rfl, tl_iflt _ _⟩, List.forall_mem_cons.mpr ⟨⟨s_aload_n d77_36 rfl, tl_aload _ _⟩, List.forall_mem_cons.mpr ⟨⟨s_iload d77_37, tl_iload _ _⟩, List.forall_mem_cons.mpr ⟨⟨s_iload d77_39, tl_iload _ _⟩, List.forall_mem_cons.mpr ⟨⟨q_invV_47 d77_41 wd_457, tl_invV _ _ _ _⟩, List.forall_mem_cons.mpr ⟨⟨s_istore d77_44 st1_77_7, tl_istore _ _⟩, List.forall_mem_cons.mpr ⟨⟨s_iload_n d77_46 rfl, tl_iload _ _⟩, List.forall_mem_cons.mpr ⟨⟨s_iconst d77_47 rfl, tl_push _ _⟩, List.forall_mem_cons.mpr ⟨⟨s_iload d77_48, tl_iload _ _⟩, List.forall_mem_cons.mpr ⟨⟨s_ishl d77_50, tl_ishl _⟩, List.forall_mem_cons.mpr ⟨⟨s_ior d77_51, tl_ior _⟩, List.forall_mem_cons.mpr ⟨⟨s_istore_n d77_52 rfl st1_77_1, tl_istore _ _⟩, List.forall_mem_cons.mpr ⟨⟨s_aload_n d77_53 rfl, tl_aload _ _⟩, List.forall_mem_cons.mpr ⟨⟨s_iload d77_54, tl_iload _ _⟩, List.forall_mem_cons.mpr ⟨⟨s_iconst d77_56 rfl, tl_push _ _⟩, List.forall_mem_cons.mpr ⟨⟨q_invV_46 d77_57 wd_338, tl_invV _ _ _ _⟩, List.forall_mem_cons.mpr ⟨⟨s_iload d77_60, tl_iload _ _⟩, List.forall_mem_cons.mpr ⟨⟨s_icne d77_62 rfl, tl_icne _ _⟩, List.forall_mem_cons.mpr ⟨⟨s_aload_n d77_65 rfl, tl_aload _ _⟩, fun _ h => absurd h List.not_mem_nil⟩⟩⟩⟩⟩⟩⟩⟩⟩⟩⟩⟩⟩⟩⟩⟩⟩⟩⟩⟩⟩⟩⟩⟩⟩⟩⟩⟩⟩⟩⟩⟩⟩⟩⟩⟩⟩⟩⟩⟩
/-- RL.holds -/
def t77_1 : List (Nat × pO) := [(66, o_iload 7 68), (68, o_push (.int (nI 2)) 69), (69, o_invV 4 46 2 72), (72, o_iload 6 74), (74, o_icne 145 77), (77, o_aload 0 78), (78, o_iload 7 80), (80, o_push (.int (nI 3)) 81), (81, o_invV 4 46 2 84), (84, o_iload 6 86), (86, o_ifne 94 89), (89, o_push (.int (nM 6)) 91), (91, o_goto 104), (94, o_aload 0 95), (95, o_iload 5 97), (97, o_iload 6 99), (99, o_push (.int (nI 1)) 100), (100, o_isub 101), (101, o_invV 4 47 2 104), (104, o_icne 145 107), (107, o_aload 0 108), (108, o_iload 7 110), (110, o_push (.int (nI 4)) 111), (111, o_invV 4 46 2 114), (114, o_aload 0 115), (115, o_iload 5 117), (117, o_iload 6 119), (119, o_push (.int (nI 1)) 120), (120, o_iadd 121), (121, o_invV 4 47 2 124), (124, o_ifge 132 127), (127, o_push (.int (nM 6)) 129), (129, o_goto 142), (132, o_aload 0 133), (133, o_iload 5 135), (135, o_iload 6 137), (137, o_push (.int (nI 1)) 138), (138, o_iadd 139), (139, o_invV 4 47 2 142), (142, o_iceq 147 145)]
theorem ok77_1 : ∀ q ∈ t77_1, p_Z 77 q := List.forall_mem_cons.mpr ⟨⟨s_iload d77_66, tl_iload _ _⟩, List.forall_mem_cons.mpr ⟨⟨s_iconst d77_68 rfl, tl_push _ _⟩, List.forall_mem_cons.mpr ⟨⟨q_invV_46 d77_69 wd_338, tl_invV _ _ _ _⟩, List.forall_mem_cons.mpr ⟨⟨s_iload d77_72, tl_iload _ _⟩, List.forall_mem_cons.mpr ⟨⟨s_icne d77_74 rfl, tl_icne _ _⟩, List.forall_mem_cons.mpr ⟨⟨s_aload_n d77_77 rfl, tl_aload _ _⟩, List.forall_mem_cons.mpr ⟨⟨s_iload d77_78, tl_iload _ _⟩, List.forall_mem_cons.mpr ⟨⟨s_iconst d77_80 rfl, tl_push _ _⟩, List.forall_mem_cons.mpr ⟨⟨q_invV_46 d77_81 wd_338, tl_invV _ _ _ _⟩, List.forall_mem_cons.mpr ⟨⟨s_iload d77_84, tl_iload _ _⟩, List.forall_mem_cons.mpr ⟨⟨s_ifne d77_86 rfl, tl_ifne _ _⟩, List.forall_mem_cons.mpr ⟨⟨s_bipush d77_89 rfl, tl_push _ _⟩, List.forall_mem_cons.mpr ⟨⟨s_goto d77_91 rfl, tl_goto _⟩, List.forall_mem_cons.mpr ⟨⟨s_aload_n d77_94 rfl, tl_aload _ _⟩, List.forall_mem_cons.mpr ⟨⟨s_iload d77_95, tl_iload _ _⟩, List.forall_mem_cons.mpr ⟨⟨s_iload d77_97, tl_iload _ _⟩, List.forall_mem_cons.mpr ⟨⟨s_iconst d77_99 rfl, tl_push _ _⟩, List.forall_mem_cons.mpr ⟨⟨s_isub d77_100, tl_isub _⟩, List.forall_mem_cons.mpr ⟨⟨q_invV_47 d77_101 wd_457, tl_invV _ _ _ _⟩, List.forall_mem_cons.mpr ⟨⟨s_icne d77_104 rfl, tl_icne _ _⟩, List.forall_mem_cons.mpr ⟨⟨s_aload_n d77_107 rfl, tl_aload _ _⟩, List.forall_mem_cons.mpr ⟨⟨s_iload d77_108, tl_iload _ _⟩, List.forall_mem_cons.mpr ⟨⟨s_iconst d77_110 rfl, tl_push _ _⟩, List.forall_mem_cons.mpr ⟨⟨q_invV_46 d77_111 wd_338, tl_invV _ _ _ _⟩, List.forall_mem_cons.mpr ⟨⟨s_aload_n d77_114 rfl, tl_aload _ _⟩, List.forall_mem_cons.mpr ⟨⟨s_iload d77_115, tl_iload _ _⟩, List.forall_mem_cons.mpr ⟨⟨s_iload d77_117, tl_iload _ _⟩, List.forall_mem_cons.mpr ⟨⟨s_iconst d77_119 rfl, tl_push _ _⟩, List.forall_mem_cons.mpr ⟨⟨s_iadd d77_120, tl_iadd _⟩, List.forall_mem_cons.mpr ⟨⟨q_invV_47 d77_121 wd_457, tl_invV _ _ _ _⟩, List.forall_mem_cons.mpr ⟨⟨s_ifge d77_124 rfl, tl_ifge _ _⟩, List.forall_mem_cons.mpr ⟨⟨s_bipush d77_127 rfl, tl_push _ _⟩, List.forall_mem_cons.mpr ⟨⟨s_goto d77_129 rfl, tl_goto _⟩, List.forall_mem_cons.mpr ⟨⟨s_aload_n d77_132 rfl, tl_aload _ _⟩, List.forall_mem_cons.mpr ⟨⟨s_iload d77_133, tl_iload _ _⟩, List.forall_mem_cons.mpr ⟨⟨s_iload d77_135, tl_iload _ _⟩, List.forall_mem_cons.mpr ⟨⟨s_iconst d77_137 rfl, tl_push _ _⟩, List.forall_mem_cons.mpr ⟨⟨s_iadd d77_138, tl_iadd _⟩, List.forall_mem_cons.mpr ⟨⟨q_invV_47 d77_139 wd_457, tl_invV _ _ _ _⟩, List.forall_mem_cons.mpr ⟨⟨s_iceq d77_142 rfl, tl_iceq _ _⟩, fun _ h => absurd h List.not_mem_nil⟩⟩⟩⟩⟩⟩⟩⟩⟩⟩⟩⟩⟩⟩⟩⟩⟩⟩⟩⟩⟩⟩⟩⟩⟩⟩⟩⟩⟩⟩⟩⟩⟩⟩⟩⟩⟩⟩⟩⟩
/-- RL.holds -/
def t77_2 : List (Nat × pO) := [(145, o_push (.int (nI 0)) 146), (146, o_zret), (147, o_iinc 6 (nI 1) 150), (150, o_goto 25), (153, o_iload 2 154), (154, o_iload 6 156), (156, o_iadd 157), (157, o_istore 2 158), (158, o_iload 6 160), (160, o_iload 4 162), (162, o_icle 170 165), (165, o_iload 6 167), (167, o_goto 172), (170, o_iload 4 172), (172, o_istore 4 174), (174, o_iinc 5 (nI 1) 177), (177, o_goto 16), (180, o_aload 0 181), (181, o_push (.int (nI 0)) 182), (182, o_invV 4 48 1 185), (185, o_istore 5 187), (187, o_push (.int (nI 0)) 188), (188, o_istore 6 190), (190, o_push (.int (nI 0)) 191), (191, o_istore 7 193), (193, o_push (.int (nI 0)) 194), (194, o_istore 8 196), (196, o_push (.int (nI 0)) 197), (197, o_istore 9 199), (199, o_iload 9 201), (201, o_iload 5 203), (203, o_icge 464 206), (206, o_aload 0 207), (207, o_iload 9 209), (209, o_push (.int (nI 1)) 210), (210, o_invV 4 45 2 213), (213, o_istore 10 215), (215, o_iload 8 217), (217, o_iload 10 219), (219, o_ifge 226 222)]
theorem ok77_2 : ∀ q ∈ t77_2, p_Z 77 q := List.forall_mem_cons.mpr ⟨⟨s_iconst d77_145 rfl, tl_push _ _⟩, List.forall_mem_cons.mpr ⟨⟨s_zret d77_146 rfl, tl_zret⟩, List.forall_mem_cons.mpr ⟨⟨s_iinc d77_147 rfl st1_77_6, tl_iinc _ _ _⟩, List.forall_mem_cons.mpr ⟨⟨s_goto d77_150 rfl, tl_goto _⟩, List.forall_mem_cons.mpr ⟨⟨s_iload_n d77_153 rfl, tl_iload _ _⟩, List.forall_mem_cons.mpr ⟨⟨s_iload d77_154, tl_iload _ _⟩, List.forall_mem_cons.mpr ⟨⟨s_iadd d77_156, tl_iadd _⟩, List.forall_mem_cons.mpr ⟨⟨s_istore_n d77_157 rfl st1_77_2, tl_istore _ _⟩, List.forall_mem_cons.mpr ⟨⟨s_iload d77_158, tl_iload _ _⟩, List.forall_mem_cons.mpr ⟨⟨s_iload d77_160, tl_iload _ _⟩, List.forall_mem_cons.mpr ⟨⟨s_icle d77_162 rfl, tl_icle _ _⟩, List.forall_mem_cons.mpr ⟨⟨s_iload d77_165, tl_iload _ _⟩, List.forall_mem_cons.mpr ⟨⟨s_goto d77_167 rfl, tl_goto _⟩, List.forall_mem_cons.mpr ⟨⟨s_iload d77_170, tl_iload _ _⟩, List.forall_mem_cons.mpr ⟨⟨s_istore d77_172 st1_77_4, tl_istore _ _⟩, List.forall_mem_cons.mpr ⟨⟨s_iinc d77_174 rfl st1_77_5, tl_iinc _ _ _⟩, List.forall_mem_cons.mpr ⟨⟨s_goto d77_177 rfl, tl_goto _⟩, List.forall_mem_cons.mpr ⟨⟨s_aload_n d77_180 rfl, tl_aload _ _⟩, List.forall_mem_cons.mpr ⟨⟨s_iconst d77_181 rfl, tl_push _ _⟩, List.forall_mem_cons.mpr ⟨⟨q_invV_48 d77_182 wd_186, tl_invV _ _ _ _⟩, List.forall_mem_cons.mpr ⟨⟨s_istore d77_185 st1_77_5, tl_istore _ _⟩, List.forall_mem_cons.mpr ⟨⟨s_iconst d77_187 rfl, tl_push _ _⟩, List.forall_mem_cons.mpr ⟨⟨s_istore d77_188 st1_77_6, tl_istore _ _⟩, List.forall_mem_cons.mpr ⟨⟨s_iconst d77_190 rfl, tl_push _ _⟩, List.forall_mem_cons.mpr ⟨⟨s_istore d77_191 st1_77_7, tl_istore _ _⟩, List.forall_mem_cons.mpr ⟨⟨s_iconst d77_193 rfl, tl_push _ _⟩, List.forall_mem_cons.mpr ⟨⟨s_istore d77_194 st1_77_8, tl_istore _ _⟩, List.forall_mem_cons.mpr ⟨⟨s_iconst d77_196 rfl, tl_push _ _⟩, List.forall_mem_cons.mpr ⟨⟨s_istore d77_197 st1_77_9, tl_istore _ _⟩, List.forall_mem_cons.mpr ⟨⟨s_iload d77_199, tl_iload _ _⟩, List.forall_mem_cons.mpr ⟨⟨s_iload d77_201, tl_iload _ _⟩, List.forall_mem_cons.mpr ⟨⟨s_icge d77_203 rfl, tl_icge _ _⟩, List.forall_mem_cons.mpr ⟨⟨s_aload_n d77_206 rfl, tl_aload _ _⟩, List.forall_mem_cons.mpr ⟨⟨s_iload d77_207, tl_iload _ _⟩, List.forall_mem_cons.mpr ⟨⟨s_iconst d77_209 rfl, tl_push _ _⟩, List.forall_mem_cons.mpr ⟨⟨q_invV_45 d77_210 wd_319, tl_invV _ _ _ _⟩, List.forall_mem_cons.mpr ⟨⟨s_istore d77_213 st1_77_10, tl_istore _ _⟩, List.forall_mem_cons.mpr ⟨⟨s_iload d77_215, tl_iload _ _⟩, List.forall_mem_cons.mpr ⟨⟨s_iload d77_217, tl_iload _ _⟩, List.forall_mem_cons.mpr ⟨⟨s_ifge d77_219 rfl, tl_ifge _ _⟩, fun _ h => absurd h List.not_mem_nil⟩⟩⟩⟩⟩⟩⟩⟩⟩⟩⟩⟩⟩⟩⟩⟩⟩⟩⟩⟩⟩⟩⟩⟩⟩⟩⟩⟩⟩⟩⟩⟩⟩⟩⟩⟩⟩⟩⟩⟩
/-- RL.holds -/
def t77_3 : List (Nat × pO) := [(222, o_push (.int (nI 0)) 223), (223, o_goto 228), (226, o_iload 10 228), (228, o_iadd 229), (229, o_istore 8 231), (231, o_aload 0 232), (232, o_iload 9 234), (234, o_push (.int (nI 0)) 235), (235, o_invV 4 45 2 238), (238, o_ifge 245 241), (241, o_push (.int (nI 1)) 242), (242, o_goto 246), (245, o_push (.int (nI 0)) 246), (246, o_iload 10 248), (248, o_ifge 255 251), (251, o_push (.int (nI 1)) 252), (252, o_goto 256), (255, o_push (.int (nI 0)) 256), (256, o_icne 308 259), (259, o_iload 10 261), (261, o_push (.int (nI 9)) 263), (263, o_icgt 308 266), (266, o_aload 0 267), (267, o_iload 9 269), (269, o_push (.int (nI 2)) 270), (270, o_invV 4 45 2 273), (273, o_aload 0 274), (274, o_iload 9 276), (276, o_push (.int (nI 3)) 277), (277, o_invV 4 45 2 280), (280, o_iand 281), (281, o_ifne 308 284), (284, o_aload 0 285), (285, o_iload 9 287), (287, o_push (.int (nI 2)) 288), (288, o_invV 4 45 2 291), (291, o_aload 0 292), (292, o_iload 9 294), (294, o_push (.int (nI 3)) 295), (295, o_invV 4 45 2 298)]
theorem ok77_3 : ∀ q ∈ t77_3, p_Z 77 q := List.forall_mem_cons.mpr ⟨⟨s_iconst d77_222 rfl, tl_push _ _⟩, List.forall_mem_cons.mpr ⟨⟨s_goto d77_223 rfl, tl_goto _⟩, List.forall_mem_cons.mpr ⟨⟨s_iload d77_226, tl_iload _ _⟩, List.forall_mem_cons.mpr ⟨⟨s_iadd d77_228, tl_iadd _⟩, List.forall_mem_cons.mpr ⟨⟨s_istore d77_229 st1_77_8, tl_istore _ _⟩, List.forall_mem_cons.mpr ⟨⟨s_aload_n d77_231 rfl, tl_aload _ _⟩, List.forall_mem_cons.mpr ⟨⟨s_iload d77_232, tl_iload _ _⟩, List.forall_mem_cons.mpr ⟨⟨s_iconst d77_234 rfl, tl_push _ _⟩, List.forall_mem_cons.mpr ⟨⟨q_invV_45 d77_235 wd_319, tl_invV _ _ _ _⟩, List.forall_mem_cons.mpr ⟨⟨s_ifge d77_238 rfl, tl_ifge _ _⟩, List.forall_mem_cons.mpr ⟨⟨s_iconst d77_241 rfl, tl_push _ _⟩, List.forall_mem_cons.mpr ⟨⟨s_goto d77_242 rfl, tl_goto _⟩, List.forall_mem_cons.mpr ⟨⟨s_iconst d77_245 rfl, tl_push _ _⟩, List.forall_mem_cons.mpr ⟨⟨s_iload d77_246, tl_iload _ _⟩, List.forall_mem_cons.mpr ⟨⟨s_ifge d77_248 rfl, tl_ifge _ _⟩, List.forall_mem_cons.mpr ⟨⟨s_iconst d77_251 rfl, tl_push _ _⟩, List.forall_mem_cons.mpr ⟨⟨s_goto d77_252 rfl, tl_goto _⟩, List.forall_mem_cons.mpr ⟨⟨s_iconst d77_255 rfl, tl_push _ _⟩, List.forall_mem_cons.mpr ⟨⟨s_icne d77_256 rfl, tl_icne _ _⟩, List.forall_mem_cons.mpr ⟨⟨s_iload d77_259, tl_iload _ _⟩, List.forall_mem_cons.mpr ⟨⟨s_bipush d77_261 rfl, tl_push _ _⟩, List.forall_mem_cons.mpr ⟨⟨s_icgt d77_263 rfl, tl_icgt _ _⟩, List.forall_mem_cons.mpr ⟨⟨s_aload_n d77_266 rfl, tl_aload _ _⟩, List.forall_mem_cons.mpr ⟨⟨s_iload d77_267, tl_iload _ _⟩, List.forall_mem_cons.mpr ⟨⟨s_iconst d77_269 rfl, tl_push _ _⟩, List.forall_mem_cons.mpr ⟨⟨q_invV_45 d77_270 wd_319, tl_invV _ _ _ _⟩, List.forall_mem_cons.mpr ⟨⟨s_aload_n d77_273 rfl, tl_aload _ _⟩, List.forall_mem_cons.mpr ⟨⟨s_iload d77_274, tl_iload _ _⟩, List.forall_mem_cons.mpr ⟨⟨s_iconst d77_276 rfl, tl_push _ _⟩, List.forall_mem_cons.mpr ⟨⟨q_invV_45 d77_277 wd_319, tl_invV _ _ _ _⟩, List.forall_mem_cons.mpr ⟨⟨s_iand d77_280, tl_iand _⟩, List.forall_mem_cons.mpr ⟨⟨s_ifne d77_281 rfl, tl_ifne _ _⟩, List.forall_mem_cons.mpr ⟨⟨s_aload_n d77_284 rfl, tl_aload _ _⟩, List.forall_mem_cons.mpr ⟨⟨s_iload d77_285, tl_iload _ _⟩, List.forall_mem_cons.mpr ⟨⟨s_iconst d77_287 rfl, tl_push _ _⟩, List.forall_mem_cons.mpr ⟨⟨q_invV_45 d77_288 wd_319, tl_invV _ _ _ _⟩, List.forall_mem_cons.mpr ⟨⟨s_aload_n d77_291 rfl, tl_aload _ _⟩, List.forall_mem_cons.mpr ⟨⟨s_iload d77_292, tl_iload _ _⟩, List.forall_mem_cons.mpr ⟨⟨s_iconst d77_294 rfl, tl_push _ _⟩, List.forall_mem_cons.mpr ⟨⟨q_invV_45 d77_295 wd_319, tl_invV _ _ _ _⟩, fun _ h => absurd h List.not_mem_nil⟩⟩⟩⟩⟩⟩⟩⟩⟩⟩⟩⟩⟩⟩⟩⟩⟩⟩⟩⟩⟩⟩⟩⟩⟩⟩⟩⟩⟩⟩⟩⟩⟩⟩⟩⟩⟩⟩⟩⟩
/-- RL.holds -/
def t77_4 : List (Nat × pO) := [(298, o_ior 299), (299, o_iload 9 301), (301, o_ishr 302), (302, o_push (.int (nI 1)) 303), (303, o_iand 304), (304, o_push (.int (nI 1)) 305), (305, o_icne 310 308), (308, o_push (.int (nI 0)) 309), (309, o_zret), (310, o_push (.int (nI 0)) 311), (311, o_istore 11 313), (313, o_iload 11 315), (315, o_iload 5 317), (317, o_icge 458 320), (320, o_aload 0 321), (321, o_iload 9 323), (323, o_push (.int (nI 5)) 324), (324, o_invV 4 45 2 327), (327, o_iload 11 329), (329, o_ishr 330), (330, o_push (.int (nI 1)) 331), (331, o_iand 332), (332, o_push (.int (nI 1)) 333), (333, o_icne 340 336), (336, o_push (.int (nI 1)) 337), (337, o_goto 341), (340, o_push (.int (nI 0)) 341), (341, o_istore 12 343), (343, o_iload 6 345), (345, o_iload 12 347), (347, o_ifeq 370 350), (350, o_aload 0 351), (351, o_iload 9 353), (353, o_push (.int (nI 3)) 354), (354, o_invV 4 45 2 357), (357, o_iload 11 359), (359, o_ishr 360), (360, o_push (.int (nI 1)) 361), (361, o_iand 362), (362, o_push (.int (nI 1)) 363)]
theorem ok77_4 : ∀ q ∈ t77_4, p_Z 77 q := List.forall_mem_cons.mpr ⟨⟨s_ior d77_298, tl_ior _⟩, List.forall_mem_cons.mpr ⟨⟨s_iload d77_299, tl_iload _ _⟩, List.forall_mem_cons.mpr ⟨⟨s_ishr d77_301, tl_ishr _⟩, List.forall_mem_cons.mpr ⟨⟨s_iconst d77_302 rfl, tl_push _ _⟩, List.forall_mem_cons.mpr ⟨⟨s_iand d77_303, tl_iand _⟩, List.forall_mem_cons.mpr ⟨⟨s_iconst d77_304 rfl, tl_push _ _⟩, List.forall_mem_cons.mpr ⟨⟨s_icne d77_305 rfl, tl_icne _ _⟩, List.forall_mem_cons.mpr ⟨⟨s_iconst d77_308 rfl, tl_push _ _⟩, List.forall_mem_cons.mpr ⟨⟨s_zret d77_309 rfl, tl_zret⟩, List.forall_mem_cons.mpr ⟨⟨s_iconst d77_310 rfl, tl_push _ _⟩, List.forall_mem_cons.mpr ⟨⟨s_istore d77_311 st1_77_11, tl_istore _ _⟩, List.forall_mem_cons.mpr ⟨⟨s_iload d77_313, tl_iload _ _⟩, List.forall_mem_cons.mpr ⟨⟨s_iload d77_315, tl_iload _ _⟩, List.forall_mem_cons.mpr ⟨⟨s_icge d77_317 rfl, tl_icge _ _⟩, List.forall_mem_cons.mpr ⟨⟨s_aload_n d77_320 rfl, tl_aload _ _⟩, List.forall_mem_cons.mpr ⟨⟨s_iload d77_321, tl_iload _ _⟩, List.forall_mem_cons.mpr ⟨⟨s_iconst d77_323 rfl, tl_push _ _⟩, List.forall_mem_cons.mpr ⟨⟨q_invV_45 d77_324 wd_319, tl_invV _ _ _ _⟩, List.forall_mem_cons.mpr ⟨⟨s_iload d77_327, tl_iload _ _⟩, List.forall_mem_cons.mpr ⟨⟨s_ishr d77_329, tl_ishr _⟩, List.forall_mem_cons.mpr ⟨⟨s_iconst d77_330 rfl, tl_push _ _⟩, List.forall_mem_cons.mpr ⟨⟨s_iand d77_331, tl_iand _⟩, List.forall_mem_cons.mpr ⟨⟨s_iconst d77_332 rfl, tl_push _ _⟩, List.forall_mem_cons.mpr ⟨⟨s_icne d77_333 rfl, tl_icne _ _⟩, List.forall_mem_cons.mpr ⟨⟨s_iconst d77_336 rfl, tl_push _ _⟩, List.forall_mem_cons.mpr ⟨⟨s_goto d77_337 rfl, tl_goto _⟩, List.forall_mem_cons.mpr ⟨⟨s_iconst d77_340 rfl, tl_push _ _⟩, List.forall_mem_cons.mpr ⟨⟨s_istore d77_341 st1_77_12, tl_istore _ _⟩, List.forall_mem_cons.mpr ⟨⟨s_iload d77_343, tl_iload _ _⟩, List.forall_mem_cons.mpr ⟨⟨s_iload d77_345, tl_iload _ _⟩, List.forall_mem_cons.mpr ⟨⟨s_ifeq d77_347 rfl, tl_ifeq _ _⟩, List.forall_mem_cons.mpr ⟨⟨s_aload_n d77_350 rfl, tl_aload _ _⟩, List.forall_mem_cons.mpr ⟨⟨s_iload d77_351, tl_iload _ _⟩, List.forall_mem_cons.mpr ⟨⟨s_iconst d77_353 rfl, tl_push _ _⟩, List.forall_mem_cons.mpr ⟨⟨q_invV_45 d77_354 wd_319, tl_invV _ _ _ _⟩, List.forall_mem_cons.mpr ⟨⟨s_iload d77_357, tl_iload _ _⟩, List.forall_mem_cons.mpr ⟨⟨s_ishr d77_359, tl_ishr _⟩, List.forall_mem_cons.mpr ⟨⟨s_iconst d77_360 rfl, tl_push _ _⟩, List.forall_mem_cons.mpr ⟨⟨s_iand d77_361, tl_iand _⟩, List.forall_mem_cons.mpr ⟨⟨s_iconst d77_362 rfl, tl_push _ _⟩, fun _ h => absurd h List.not_mem_nil⟩⟩⟩⟩⟩⟩⟩⟩⟩⟩⟩⟩⟩⟩⟩⟩⟩⟩⟩⟩⟩⟩⟩⟩⟩⟩⟩⟩⟩⟩⟩⟩⟩⟩⟩⟩⟩⟩⟩⟩
/-- RL.holds -/
def t77_5 : List (Nat × pO) := [(363, o_icne 370 366), (366, o_push (.int (nI 1)) 367), (367, o_goto 371), (370, o_push (.int (nI 0)) 371), (371, o_iadd 372), (372, o_istore 6 374), (374, o_iload 7 376), (376, o_iload 12 378), (378, o_ifeq 401 381), (381, o_aload 0 382), (382, o_iload 9 384), (384, o_push (.int (nI 2)) 385), (385, o_invV 4 45 2 388), (388, o_iload 11 390), (390, o_ishr 391), (391, o_push (.int (nI 1)) 392), (392, o_iand 393), (393, o_push (.int (nI 1)) 394), (394, o_icne 401 397), (397, o_push (.int (nI 1)) 398), (398, o_goto 402), (401, o_push (.int (nI 0)) 402), (402, o_iadd 403), (403, o_istore 7 405), (405, o_push (.int (nI 2)) 406), (406, o_istore 13 408), (408, o_iload 13 410), (410, o_push (.int (nI 6)) 412), (412, o_icge 452 415), (415, o_aload 0 416), (416, o_iload 9 418), (418, o_iload 13 420), (420, o_invV 4 45 2 423), (423, o_iload 11 425), (425, o_ishr 426), (426, o_push (.int (nI 1)) 427), (427, o_iand 428), (428, o_aload 0 429), (429, o_iload 11 431), (431, o_iload 13 433)]
theorem ok77_5 : ∀ q ∈ t77_5, p_Z 77 q := List.forall_mem_cons.mpr ⟨⟨s_icne d77_363 rfl, tl_icne _ _⟩, List.forall_mem_cons.mpr ⟨⟨s_iconst d77_366 rfl, tl_push _ _⟩, List.forall_mem_cons.mpr ⟨⟨s_goto d77_367 rfl, tl_goto _⟩, List.forall_mem_cons.mpr ⟨⟨s_iconst d77_370 rfl, tl_push _ _⟩, List.forall_mem_cons.mpr ⟨⟨s_iadd d77_371, tl_iadd _⟩, List.forall_mem_cons.mpr ⟨⟨s_istore d77_372 st1_77_6, tl_istore _ _⟩, List.forall_mem_cons.mpr ⟨⟨s_iload d77_374, tl_iload _ _⟩, List.forall_mem_cons.mpr ⟨⟨s_iload d77_376, tl_iload _ _⟩, List.forall_mem_cons.mpr ⟨⟨s_ifeq d77_378 rfl, tl_ifeq _ _⟩, List.forall_mem_cons.mpr ⟨⟨s_aload_n d77_381 rfl, tl_aload _ _⟩, List.forall_mem_cons.mpr ⟨⟨s_iload d77_382, tl_iload _ _⟩, List.forall_mem_cons.mpr ⟨⟨s_iconst d77_384 rfl, tl_push _ _⟩, List.forall_mem_cons.mpr ⟨⟨q_invV_45 d77_385 wd_319, tl_invV _ _ _ _⟩, List.forall_mem_cons.mpr ⟨⟨s_iload d77_388, tl_iload _ _⟩, List.forall_mem_cons.mpr ⟨⟨s_ishr d77_390, tl_ishr _⟩, List.forall_mem_cons.mpr ⟨⟨s_iconst d77_391 rfl, tl_push _ _⟩, List.forall_mem_cons.mpr ⟨⟨s_iand d77_392, tl_iand _⟩, List.forall_mem_cons.mpr ⟨⟨s_iconst d77_393 rfl, tl_push _ _⟩, List.forall_mem_cons.mpr ⟨⟨s_icne d77_394 rfl, tl_icne _ _⟩, List.forall_mem_cons.mpr ⟨⟨s_iconst d77_397 rfl, tl_push _ _⟩, List.forall_mem_cons.mpr ⟨⟨s_goto d77_398 rfl, tl_goto _⟩, List.forall_mem_cons.mpr ⟨⟨s_iconst d77_401 rfl, tl_push _ _⟩, List.forall_mem_cons.mpr ⟨⟨s_iadd d77_402, tl_iadd _⟩, List.forall_mem_cons.mpr ⟨⟨s_istore d77_403 st1_77_7, tl_istore _ _⟩, List.forall_mem_cons.mpr ⟨⟨s_iconst d77_405 rfl, tl_push _ _⟩, List.forall_mem_cons.mpr ⟨⟨s_istore d77_406 st1_77_13, tl_istore _ _⟩, List.forall_mem_cons.mpr ⟨⟨s_iload d77_408, tl_iload _ _⟩, List.forall_mem_cons.mpr ⟨⟨s_bipush d77_410 rfl, tl_push _ _⟩, List.forall_mem_cons.mpr ⟨⟨s_icge d77_412 rfl, tl_icge _ _⟩, List.forall_mem_cons.mpr ⟨⟨s_aload_n d77_415 rfl, tl_aload _ _⟩, List.forall_mem_cons.mpr ⟨⟨s_iload d77_416, tl_iload _ _⟩, List.forall_mem_cons.mpr ⟨⟨s_iload d77_418, tl_iload _ _⟩, List.forall_mem_cons.mpr ⟨⟨q_invV_45 d77_420 wd_319, tl_invV _ _ _ _⟩, List.forall_mem_cons.mpr ⟨⟨s_iload d77_423, tl_iload _ _⟩, List.forall_mem_cons.mpr ⟨⟨s_ishr d77_425, tl_ishr _⟩, List.forall_mem_cons.mpr ⟨⟨s_iconst d77_426 rfl, tl_push _ _⟩, List.forall_mem_cons.mpr ⟨⟨s_iand d77_427, tl_iand _⟩, List.forall_mem_cons.mpr ⟨⟨s_aload_n d77_428 rfl, tl_aload _ _⟩, List.forall_mem_cons.mpr ⟨⟨s_iload d77_429, tl_iload _ _⟩, List.forall_mem_cons.mpr ⟨⟨s_iload d77_431, tl_iload _ _⟩, fun _ h => absurd h List.not_mem_nil⟩⟩⟩⟩⟩⟩⟩⟩⟩⟩⟩⟩⟩⟩⟩⟩⟩⟩⟩⟩⟩⟩⟩⟩⟩⟩⟩⟩⟩⟩⟩⟩⟩⟩⟩⟩⟩⟩⟩⟩
/-- RL.holds -/
def t77_6 : List (Nat × pO) := [(433, o_invV 4 45 2 436), (436, o_iload 9 438), (438, o_ishr 439), (439, o_push (.int (nI 1)) 440), (440, o_iand 441), (441, o_iceq 446 444), (444, o_push (.int (nI 0)) 445), (445, o_zret), (446, o_iinc 13 (nI 1) 449), (449, o_goto 408), (452, o_iinc 11 (nI 1) 455), (455, o_goto 313), (458, o_iinc 9 (nI 1) 461), (461, o_goto 199), (464, o_iload 2 465), (465, o_aload 0 466), (466, o_push (.int (nI 8)) 468), (468, o_invV 4 48 1 471), (471, o_icne 510 474), (474, o_iload 1 475), (475, o_push (.int (nI 1)) 476), (476, o_iload 2 477), (477, o_ishl 478), (478, o_push (.int (nI 1)) 479), (479, o_isub 480), (480, o_icne 510 483), (483, o_iload 4 485), (485, o_aload 0 486), (486, o_push (.int (nI 7)) 488), (488, o_invV 4 48 1 491), (491, o_icne 510 494), (494, o_iload 4 496), (496, o_push (.int (nI 1)) 497), (497, o_aload 0 498), (498, o_push (.int (nI 3)) 499), (499, o_invV 4 48 1 502), (502, o_ishl 503), (503, o_icgt 510 506), (506, o_push (.int (nI 1)) 507), (507, o_goto 511)]
theorem ok77_6 : ∀ q ∈ t77_6, p_Z 77 q := List.forall_mem_cons.mpr ⟨⟨q_invV_45 d77_433 wd_319, tl_invV _ _ _ _⟩, List.forall_mem_cons.mpr ⟨⟨s_iload d77_436, tl_iload _ _⟩, List.forall_mem_cons.mpr ⟨⟨s_ishr d77_438, tl_ishr _⟩, List.forall_mem_cons.mpr ⟨⟨s_iconst d77_439 rfl, tl_push _ _⟩, List.forall_mem_cons.mpr ⟨⟨s_iand d77_440, tl_iand _⟩, List.forall_mem_cons.mpr ⟨⟨s_iceq d77_441 rfl, tl_iceq _ _⟩, List.forall_mem_cons.mpr ⟨⟨s_iconst d77_444 rfl, tl_push _ _⟩, List.forall_mem_cons.mpr ⟨⟨s_zret d77_445 rfl, tl_zret⟩, List.forall_mem_cons.mpr ⟨⟨s_iinc d77_446 rfl st1_77_13, tl_iinc _ _ _⟩, List.forall_mem_cons.mpr ⟨⟨s_goto d77_449 rfl, tl_goto _⟩, List.forall_mem_cons.mpr ⟨⟨s_iinc d77_452 rfl st1_77_11, tl_iinc _ _ _⟩, List.forall_mem_cons.mpr ⟨⟨s_goto d77_455 rfl, tl_goto _⟩, List.forall_mem_cons.mpr ⟨⟨s_iinc d77_458 rfl st1_77_9, tl_iinc _ _ _⟩, List.forall_mem_cons.mpr ⟨⟨s_goto d77_461 rfl, tl_goto _⟩, List.forall_mem_cons.mpr ⟨⟨s_iload_n d77_464 rfl, tl_iload _ _⟩, List.forall_mem_cons.mpr ⟨⟨s_aload_n d77_465 rfl, tl_aload _ _⟩, List.forall_mem_cons.mpr ⟨⟨s_bipush d77_466 rfl, tl_push _ _⟩, List.forall_mem_cons.mpr ⟨⟨q_invV_48 d77_468 wd_186, tl_invV _ _ _ _⟩, List.forall_mem_cons.mpr ⟨⟨s_icne d77_471 rfl, tl_icne _ _⟩, List.forall_mem_cons.mpr ⟨⟨s_iload_n d77_474 rfl, tl_iload _ _⟩, List.forall_mem_cons.mpr ⟨⟨s_iconst d77_475 rfl, tl_push _ _⟩, List.forall_mem_cons.mpr ⟨⟨s_iload_n d77_476 rfl, tl_iload _ _⟩, List.forall_mem_cons.mpr ⟨⟨s_ishl d77_477, tl_ishl _⟩, List.forall_mem_cons.mpr ⟨⟨s_iconst d77_478 rfl, tl_push _ _⟩, List.forall_mem_cons.mpr ⟨⟨s_isub d77_479, tl_isub _⟩, List.forall_mem_cons.mpr ⟨⟨s_icne d77_480 rfl, tl_icne _ _⟩, List.forall_mem_cons.mpr ⟨⟨s_iload d77_483, tl_iload _ _⟩, List.forall_mem_cons.mpr ⟨⟨s_aload_n d77_485 rfl, tl_aload _ _⟩, List.forall_mem_cons.mpr ⟨⟨s_bipush d77_486 rfl, tl_push _ _⟩, List.forall_mem_cons.mpr ⟨⟨q_invV_48 d77_488 wd_186, tl_invV _ _ _ _⟩, List.forall_mem_cons.mpr ⟨⟨s_icne d77_491 rfl, tl_icne _ _⟩, List.forall_mem_cons.mpr ⟨⟨s_iload d77_494, tl_iload _ _⟩, List.forall_mem_cons.mpr ⟨⟨s_iconst d77_496 rfl, tl_push _ _⟩, List.forall_mem_cons.mpr ⟨⟨s_aload_n d77_497 rfl, tl_aload _ _⟩, List.forall_mem_cons.mpr ⟨⟨s_iconst d77_498 rfl, tl_push _ _⟩, List.forall_mem_cons.mpr ⟨⟨q_invV_48 d77_499 wd_186, tl_invV _ _ _ _⟩, List.forall_mem_cons.mpr ⟨⟨s_ishl d77_502, tl_ishl _⟩, List.forall_mem_cons.mpr ⟨⟨s_icgt d77_503 rfl, tl_icgt _ _⟩, List.forall_mem_cons.mpr ⟨⟨s_iconst d77_506 rfl, tl_push _ _⟩, List.forall_mem_cons.mpr ⟨⟨s_goto d77_507 rfl, tl_goto _⟩, fun _ h => absurd h List.not_mem_nil⟩⟩⟩⟩⟩⟩⟩⟩⟩⟩⟩⟩⟩⟩⟩⟩⟩⟩⟩⟩⟩⟩⟩⟩⟩⟩⟩⟩⟩⟩⟩⟩⟩⟩⟩⟩⟩⟩⟩⟩
/-- RL.holds -/
def t77_7 : List (Nat × pO) := [(510, o_push (.int (nI 0)) 511), (511, o_istore 9 513), (513, o_iload 9 515), (515, o_ifeq 582 518), (518, o_iload 6 520), (520, o_push (.int (nI 2)) 521), (521, o_aload 0 522), (522, o_push (.int (nI 4)) 523), (523, o_invV 4 48 1 526), (526, o_imul 527), (527, o_icne 582 530), (530, o_iload 7 532), (532, o_push (.int (nI 2)) 533), (533, o_aload 0 534), (534, o_push (.int (nI 5)) 535), (535, o_invV 4 48 1 538), (538, o_imul 539), (539, o_icne 582 542), (542, o_iload 8 544), (544, o_aload 0 545), (545, o_push (.int (nI 6)) 547), (547, o_invV 4 48 1 550), (550, o_icne 582 553), (553, o_aload 0 554), (554, o_invV 4 50 0 557), (557, o_ifne 564 560), (560, o_push (.int (nI 1)) 561), (561, o_goto 565), (564, o_push (.int (nI 0)) 565), (565, o_iload 3 566), (566, o_push (.int (nI 1)) 567), (567, o_icne 574 570), (570, o_push (.int (nI 1)) 571), (571, o_goto 575), (574, o_push (.int (nI 0)) 575), (575, o_icne 582 578), (578, o_push (.int (nI 1)) 579), (579, o_goto 583), (582, o_push (.int (nI 0)) 583), (583, o_zret)]
theorem ok77_7 : ∀ q ∈ t77_7, p_Z 77 q := List.forall_mem_cons.mpr ⟨⟨s_iconst d77_510 rfl, tl_push _ _⟩, List.forall_mem_cons.mpr ⟨⟨s_istore d77_511 st1_77_9, tl_istore _ _⟩, List.forall_mem_cons.mpr ⟨⟨s_iload d77_513, tl_iload _ _⟩, List.forall_mem_cons.mpr ⟨⟨s_ifeq d77_515 rfl, tl_ifeq _ _⟩, List.forall_mem_cons.mpr ⟨⟨s_iload d77_518, tl_iload _ _⟩, List.forall_mem_cons.mpr ⟨⟨s_iconst d77_520 rfl, tl_push _ _⟩, List.forall_mem_cons.mpr ⟨⟨s_aload_n d77_521 rfl, tl_aload _ _⟩, List.forall_mem_cons.mpr ⟨⟨s_iconst d77_522 rfl, tl_push _ _⟩, List.forall_mem_cons.mpr ⟨⟨q_invV_48 d77_523 wd_186, tl_invV _ _ _ _⟩, List.forall_mem_cons.mpr ⟨⟨s_imul d77_526, tl_imul _⟩, List.forall_mem_cons.mpr ⟨⟨s_icne d77_527 rfl, tl_icne _ _⟩, List.forall_mem_cons.mpr ⟨⟨s_iload d77_530, tl_iload _ _⟩, List.forall_mem_cons.mpr ⟨⟨s_iconst d77_532 rfl, tl_push _ _⟩, List.forall_mem_cons.mpr ⟨⟨s_aload_n d77_533 rfl, tl_aload _ _⟩, List.forall_mem_cons.mpr ⟨⟨s_iconst d77_534 rfl, tl_push _ _⟩, List.forall_mem_cons.mpr ⟨⟨q_invV_48 d77_535 wd_186, tl_invV _ _ _ _⟩, List.forall_mem_cons.mpr ⟨⟨s_imul d77_538, tl_imul _⟩, List.forall_mem_cons.mpr ⟨⟨s_icne d77_539 rfl, tl_icne _ _⟩, List.forall_mem_cons.mpr ⟨⟨s_iload d77_542, tl_iload _ _⟩, List.forall_mem_cons.mpr ⟨⟨s_aload_n d77_544 rfl, tl_aload _ _⟩, List.forall_mem_cons.mpr ⟨⟨s_bipush d77_545 rfl, tl_push _ _⟩, List.forall_mem_cons.mpr ⟨⟨q_invV_48 d77_547 wd_186, tl_invV _ _ _ _⟩, List.forall_mem_cons.mpr ⟨⟨s_icne d77_550 rfl, tl_icne _ _⟩, List.forall_mem_cons.mpr ⟨⟨s_aload_n d77_553 rfl, tl_aload _ _⟩, List.forall_mem_cons.mpr ⟨⟨q_invV_50 d77_554 wd_462, tl_invV _ _ _ _⟩, List.forall_mem_cons.mpr ⟨⟨s_ifne d77_557 rfl, tl_ifne _ _⟩, List.forall_mem_cons.mpr ⟨⟨s_iconst d77_560 rfl, tl_push _ _⟩, List.forall_mem_cons.mpr ⟨⟨s_goto d77_561 rfl, tl_goto _⟩, List.forall_mem_cons.mpr ⟨⟨s_iconst d77_564 rfl, tl_push _ _⟩, List.forall_mem_cons.mpr ⟨⟨s_iload_n d77_565 rfl, tl_iload _ _⟩, List.forall_mem_cons.mpr ⟨⟨s_iconst d77_566 rfl, tl_push _ _⟩, List.forall_mem_cons.mpr ⟨⟨s_icne d77_567 rfl, tl_icne _ _⟩, List.forall_mem_cons.mpr ⟨⟨s_iconst d77_570 rfl, tl_push _ _⟩, List.forall_mem_cons.mpr ⟨⟨s_goto d77_571 rfl, tl_goto _⟩, List.forall_mem_cons.mpr ⟨⟨s_iconst d77_574 rfl, tl_push _ _⟩, List.forall_mem_cons.mpr ⟨⟨s_icne d77_575 rfl, tl_icne _ _⟩, List.forall_mem_cons.mpr ⟨⟨s_iconst d77_578 rfl, tl_push _ _⟩, List.forall_mem_cons.mpr ⟨⟨s_goto d77_579 rfl, tl_goto _⟩, List.forall_mem_cons.mpr ⟨⟨s_iconst d77_582 rfl, tl_push _ _⟩, List.forall_mem_cons.mpr ⟨⟨s_zret d77_583 rfl, tl_zret⟩, fun _ h => absurd h List.not_mem_nil⟩⟩⟩⟩⟩⟩⟩⟩⟩⟩⟩⟩⟩⟩⟩⟩⟩⟩⟩⟩⟩⟩⟩⟩⟩⟩⟩⟩⟩⟩⟩⟩⟩⟩⟩⟩⟩⟩⟩⟩
def t77 : List (Nat × pO) := t77_0 ++ (t77_1 ++ (t77_2 ++ (t77_3 ++ (t77_4 ++ (t77_5 ++ (t77_6 ++ (t77_7)))))))
theorem ok77 : ∀ q ∈ t77, p_Z 77 q := List.forall_mem_append.mpr ⟨ok77_0, List.forall_mem_append.mpr ⟨ok77_1, List.forall_mem_append.mpr ⟨ok77_2, List.forall_mem_append.mpr ⟨ok77_3, List.forall_mem_append.mpr ⟨ok77_4, List.forall_mem_append.mpr ⟨ok77_5, List.forall_mem_append.mpr ⟨ok77_6, ok77_7⟩⟩⟩⟩⟩⟩⟩
theorem d78_0 : decode (pB 78) 0 = .ok (.aload_n 0, 1) := by decide +kernel
theorem d78_1 : decode (pB 78) 1 = .ok (.invokestatic 68, 3) := by decide +kernel
theorem d78_4 : decode (pB 78) 4 = .ok (.lstore_n 2, 1) := by decide +kernel
theorem d78_5 : decode (pB 78) 5 = .ok (.aload_n 0, 1) := by decide +kernel
theorem d78_6 : decode (pB 78) 6 = .ok (.iconst 2, 1) := by decide +kernel
theorem d78_7 : decode (pB 78) 7 = .ok (.invokevirtual 12, 3) := by decide +kernel
theorem d78_10 : decode (pB 78) 10 = .ok (.istore 4, 2) := by decide +kernel
theorem d78_12 : decode (pB 78) 12 = .ok (.iload_n 1, 1) := by decide +kernel
theorem d78_13 : decode (pB 78) 13 = .ok (.iconst 1, 1) := by decide +kernel
theorem d78_14 : decode (pB 78) 14 = .ok (.if_icmp .lt 18, 3) := by decide +kernel
theorem d78_17 : decode (pB 78) 17 = .ok (.iload_n 1, 1) := by decide +kernel
theorem d78_18 : decode (pB 78) 18 = .ok (.iload 4, 2) := by decide +kernel
theorem d78_20 : decode (pB 78) 20 = .ok (.if_icmp .ge 12, 3) := by decide +kernel
theorem d78_23 : decode (pB 78) 23 = .ok (.aload_n 0, 1) := by decide +kernel
theorem d78_24 : decode (pB 78) 24 = .ok (.iconst 3, 1) := by decide +kernel
theorem d78_25 : decode (pB 78) 25 = .ok (.invokevirtual 12, 3) := by decide +kernel
theorem d78_28 : decode (pB 78) 28 = .ok (.iconst 5, 1) := by decide +kernel
theorem d78_29 : decode (pB 78) 29 = .ok (.if_icmp .ne 8, 3) := by decide +kernel
theorem d78_32 : decode (pB 78) 32 = .ok (.bipush (-9), 2) := by decide +kernel
theorem d78_34 : decode (pB 78) 34 = .ok (.goto 9, 3) := by decide +kernel
theorem d78_37 : decode (pB 78) 37 = .ok (.aload_n 0, 1) := by decide +kernel
theorem d78_38 : decode (pB 78) 38 = .ok (.iload_n 1, 1) := by decide +kernel
theorem d78_39 : decode (pB 78) 39 = .ok (.iconst 0, 1) := by decide +kernel
theorem d78_40 : decode (pB 78) 40 = .ok (.invokevirtual 72, 3) := by decide +kernel
theorem d78_43 : decode (pB 78) 43 = .ok (.istore 5, 2) := by decide +kernel
theorem d78_45 : decode (pB 78) 45 = .ok (.aload_n 0, 1) := by decide +kernel
theorem d78_46 : decode (pB 78) 46 = .ok (.iload_n 1, 1) := by decide +kernel
theorem d78_47 : decode (pB 78) 47 = .ok (.invokevirtual 59, 3) := by decide +kernel
theorem d78_50 : decode (pB 78) 50 = .ok (.istore 6, 2) := by decide +kernel
theorem d78_52 : decode (pB 78) 52 = .ok (.iload 6, 2) := by decide +kernel
theorem d78_54 : decode (pB 78) 54 = .ok (.ifCond .ge 54, 3) := by decide +kernel
theorem d78_57 : decode (pB 78) 57 = .ok (.aload_n 0, 1) := by decide +kernel
theorem d78_58 : decode (pB 78) 58 = .ok (.invokestatic 68, 3) := by decide +kernel
theorem d78_61 : decode (pB 78) 61 = .ok (.lload_n 2, 1) := by decide +kernel
theorem d78_62 : decode (pB 78) 62 = .ok (.lcmp, 1) := by decide +kernel
theorem d78_63 : decode (pB 78) 63 = .ok (.ifCond .ne 43, 3) := by decide +kernel
theorem d78_66 : decode (pB 78) 66 = .ok (.iload 5, 2) := by decide +kernel
theorem d78_68 : decode (pB 78) 68 = .ok (.bipush (-9), 2) := by decide +kernel
theorem d78_70 : decode (pB 78) 70 = .ok (.if_icmp .ne 20, 3) := by decide +kernel
theorem d78_73 : decode (pB 78) 73 = .ok (.iload 6, 2) := by decide +kernel
theorem d78_75 : decode (pB 78) 75 = .ok (.bipush (-2), 2) := by decide +kernel
theorem d78_77 : decode (pB 78) 77 = .ok (.if_icmp .eq 25, 3) := by decide +kernel
theorem d78_80 : decode (pB 78) 80 = .ok (.iload 6, 2) := by decide +kernel
theorem d78_82 : decode (pB 78) 82 = .ok (.bipush (-4), 2) := by decide +kernel
theorem d78_84 : decode (pB 78) 84 = .ok (.if_icmp .ne 22, 3) := by decide +kernel
theorem d78_87 : decode (pB 78) 87 = .ok (.goto 15, 3) := by decide +kernel
theorem d78_90 : decode (pB 78) 90 = .ok (.iload 5, 2) := by decide +kernel
theorem d78_92 : decode (pB 78) 92 = .ok (.ifCond .le 14, 3) := by decide +kernel
theorem d78_95 : decode (pB 78) 95 = .ok (.iload 6, 2) := by decide +kernel
theorem d78_97 : decode (pB 78) 97 = .ok (.bipush (-5), 2) := by decide +kernel
theorem d78_99 : decode (pB 78) 99 = .ok (.if_icmp .ne 7, 3) := by decide +kernel
theorem d78_102 : decode (pB 78) 102 = .ok (.iconst 1, 1) := by decide +kernel
theorem d78_103 : decode (pB 78) 103 = .ok (.goto 4, 3) := by decide +kernel
theorem d78_106 : decode (pB 78) 106 = .ok (.iconst 0, 1) := by decide +kernel
theorem d78_107 : decode (pB 78) 107 = .ok (.ireturn, 1) := by decide +kernel
theorem d78_108 : decode (pB 78) 108 = .ok (.iload 5, 2) := by decide +kernel
theorem d78_110 : decode (pB 78) 110 = .ok (.ifCond .ne 42, 3) := by decide +kernel
theorem d78_113 : decode (pB 78) 113 = .ok (.aload_n 0, 1) := by decide +kernel
theorem d78_114 : decode (pB 78) 114 = .ok (.iconst 4, 1) := by decide +kernel
theorem d78_115 : decode (pB 78) 115 = .ok (.invokevirtual 12, 3) := by decide +kernel
theorem d78_118 : decode (pB 78) 118 = .ok (.ifCond .ne 34, 3) := by decide +kernel
theorem d78_121 : decode (pB 78) 121 = .ok (.iload 6, 2) := by decide +kernel
theorem d78_123 : decode (pB 78) 123 = .ok (.aload_n 0, 1) := by decide +kernel
theorem d78_124 : decode (pB 78) 124 = .ok (.iconst 2, 1) := by decide +kernel
theorem d78_125 : decode (pB 78) 125 = .ok (.invokevirtual 12, 3) := by decide +kernel
theorem d78_128 : decode (pB 78) 128 = .ok (.if_icmp .ne 24, 3) := by decide +kernel
theorem d78_131 : decode (pB 78) 131 = .ok (.aload_n 0, 1) := by decide +kernel
theorem d78_132 : decode (pB 78) 132 = .ok (.invokevirtual 50, 3) := by decide +kernel
theorem d78_135 : decode (pB 78) 135 = .ok (.iload_n 1, 1) := by decide +kernel
theorem d78_136 : decode (pB 78) 136 = .ok (.if_icmp .ne 16, 3) := by decide +kernel
theorem d78_139 : decode (pB 78) 139 = .ok (.aload_n 0, 1) := by decide +kernel
theorem d78_140 : decode (pB 78) 140 = .ok (.invokestatic 68, 3) := by decide +kernel
theorem d78_143 : decode (pB 78) 143 = .ok (.lload_n 2, 1) := by decide +kernel
theorem d78_144 : decode (pB 78) 144 = .ok (.lcmp, 1) := by decide +kernel
theorem d78_145 : decode (pB 78) 145 = .ok (.ifCond .ne 7, 3) := by decide +kernel
theorem d78_148 : decode (pB 78) 148 = .ok (.iconst 1, 1) := by decide +kernel
theorem d78_149 : decode (pB 78) 149 = .ok (.goto 4, 3) := by decide +kernel
theorem d78_152 : decode (pB 78) 152 = .ok (.iconst 0, 1) := by decide +kernel
theorem d78_153 : decode (pB 78) 153 = .ok (.istore 7, 2) := by decide +kernel
theorem d78_155 : decode (pB 78) 155 = .ok (.aload_n 0, 1) := by decide +kernel
theorem d78_156 : decode (pB 78) 156 = .ok (.invokevirtual 75, 3) := by decide +kernel
theorem d78_159 : decode (pB 78) 159 = .ok (.pop, 1) := by decide +kernel
theorem d78_160 : decode (pB 78) 160 = .ok (.aload_n 0, 1) := by decide +kernel
theorem d78_161 : decode (pB 78) 161 = .ok (.invokevirtual 75, 3) := by decide +kernel
theorem d78_164 : decode (pB 78) 164 = .ok (.pop, 1) := by decide +kernel
theorem d78_165 : decode (pB 78) 165 = .ok (.iload 7, 2) := by decide +kernel
theorem d78_167 : decode (pB 78) 167 = .ok (.ifCond .eq 16, 3) := by decide +kernel
theorem d78_170 : decode (pB 78) 170 = .ok (.aload_n 0, 1) := by decide +kernel
theorem d78_171 : decode (pB 78) 171 = .ok (.invokestatic 68, 3) := by decide +kernel
theorem d78_174 : decode (pB 78) 174 = .ok (.lload_n 2, 1) := by decide +kernel
theorem d78_175 : decode (pB 78) 175 = .ok (.lcmp, 1) := by decide +kernel
theorem d78_176 : decode (pB 78) 176 = .ok (.ifCond .ne 7, 3) := by decide +kernel
theorem d78_179 : decode (pB 78) 179 = .ok (.iconst 1, 1) := by decide +kernel
theorem d78_180 : decode (pB 78) 180 = .ok (.goto 4, 3) := by decide +kernel
theorem d78_183 : decode (pB 78) 183 = .ok (.iconst 0, 1) := by decide +kernel
theorem d78_184 : decode (pB 78) 184 = .ok (.ireturn, 1) := by decide +kernel
theorem st1_78_4 : p_st1 78 4 = true := by decide +kernel
theorem st1_78_5 : p_st1 78 5 = true := by decide +kernel
theorem st1_78_6 : p_st1 78 6 = true := by decide +kernel
theorem st1_78_7 : p_st1 78 7 = true := by decide +kernel
theorem st2_78_2 : p_st2 78 2 = true := by decide +kernel
/-- RL.isFolded -/
def t78_0 : List (Nat × pO) := [(0, o_aload 0 1), (1, o_invS 75 1 4), (4, o_lstore 2 5), (5, o_aload 0 6), (6, o_push (.int (nI 2)) 7), (7, o_invV 4 48 1 10), (10, o_istore 4 12), (12, o_iload 1 13), (13, o_push (.int (nI 1)) 14), (14, o_iclt 32 17), (17, o_iload 1 18), (18, o_iload 4 20), (20, o_icge 32 23), (23, o_aload 0 24), (24, o_push (.int (nI 3)) 25), (25, o_invV 4 48 1 28), (28, o_push (.int (nI 5)) 29), (29, o_icne 37 32), (32, o_push (.int (nM 9)) 34), (34, o_goto 43), (37, o_aload 0 38), (38, o_iload 1 39), (39, o_push (.int (nI 0)) 40), (40, o_invV 4 49 2 43), (43, o_istore 5 45), (45, o_aload 0 46), (46, o_iload 1 47), (47, o_invV 4 42 1 50), (50, o_istore 6 52), (52, o_iload 6 54), (54, o_ifge 108 57), (57, o_aload 0 58), (58, o_invS 75 1 61), (61, o_lload 2 62), (62, o_lcmp 63), (63, o_ifne 106 66), (66, o_iload 5 68), (68, o_push (.int (nM 9)) 70), (70, o_icne 90 73), (73, o_iload 6 75)]
theorem ok78_0 : ∀ q ∈ t78_0, p_Z 78 q := List.forall_mem_cons.mpr ⟨⟨s_aload_n d78_0 rfl, tl_aload _ _⟩, List.forall_mem_cons.mpr ⟨⟨q_invS_75 d78_1 wd_314, tl_invS _ _ _⟩, List.forall_mem_cons.mpr ⟨⟨s_lstore_n d78_4 rfl st2_78_2, tl_lstore _ _⟩, List.forall_mem_cons.mpr ⟨⟨s_aload_n d78_5 rfl, tl_aload _ _⟩, List.forall_mem_cons.mpr ⟨⟨s_iconst d78_6 rfl, tl_push _ _⟩, List.forall_mem_cons.mpr ⟨⟨q_invV_48 d78_7 wd_186, tl_invV _ _ _ _⟩, List.forall_mem_cons.mpr ⟨⟨s_istore d78_10 st1_78_4, tl_istore _ _⟩, List.forall_mem_cons.mpr ⟨⟨s_iload_n d78_12 rfl, tl_iload _ _⟩, List.forall_mem_cons.mpr ⟨⟨s_iconst d78_13 rfl, tl_push _ _⟩, List.forall_mem_cons.mpr ⟨⟨s_iclt d78_14 rfl, tl_iclt _ _⟩, List.forall_mem_cons.mpr ⟨⟨s_iload_n d78_17 rfl, tl_iload _ _⟩, List.forall_mem_cons.mpr ⟨⟨s_iload d78_18, tl_iload _ _⟩, List.forall_mem_cons.mpr ⟨⟨s_icge d78_20 rfl, tl_icge _ _⟩, List.forall_mem_cons.mpr ⟨⟨s_aload_n d78_23 rfl, tl_aload _ _⟩, List.forall_mem_cons.mpr ⟨⟨s_iconst d78_24 rfl, tl_push _ _⟩, List.forall_mem_cons.mpr ⟨⟨q_invV_48 d78_25 wd_186, tl_invV _ _ _ _⟩, List.forall_mem_cons.mpr ⟨⟨s_iconst d78_28 rfl, tl_push _ _⟩, List.forall_mem_cons.mpr ⟨⟨s_icne d78_29 rfl, tl_icne _ _⟩, List.forall_mem_cons.mpr ⟨⟨s_bipush d78_32 rfl, tl_push _ _⟩, List.forall_mem_cons.mpr ⟨⟨s_goto d78_34 rfl, tl_goto _⟩, List.forall_mem_cons.mpr ⟨⟨s_aload_n d78_37 rfl, tl_aload _ _⟩, List.forall_mem_cons.mpr ⟨⟨s_iload_n d78_38 rfl, tl_iload _ _⟩, List.forall_mem_cons.mpr ⟨⟨s_iconst d78_39 rfl, tl_push _ _⟩, List.forall_mem_cons.mpr ⟨⟨q_invV_49 d78_40 wd_480, tl_invV _ _ _ _⟩, List.forall_mem_cons.mpr ⟨⟨s_istore d78_43 st1_78_5, tl_istore _ _⟩, List.forall_mem_cons.mpr ⟨⟨s_aload_n d78_45 rfl, tl_aload _ _⟩, List.forall_mem_cons.mpr ⟨⟨s_iload_n d78_46 rfl, tl_iload _ _⟩, List.forall_mem_cons.mpr ⟨⟨q_invV_42 d78_47 wd_446, tl_invV _ _ _ _⟩, List.forall_mem_cons.mpr ⟨⟨s_istore d78_50 st1_78_6, tl_istore _ _⟩, List.forall_mem_cons.mpr ⟨⟨s_iload d78_52, tl_iload _ _⟩, List.forall_mem_cons.mpr ⟨⟨s_ifge d78_54 rfl, tl_ifge _ _⟩, List.forall_mem_cons.mpr ⟨⟨s_aload_n d78_57 rfl, tl_aload _ _⟩, List.forall_mem_cons.mpr ⟨⟨q_invS_75 d78_58 wd_314, tl_invS _ _ _⟩, List.forall_mem_cons.mpr ⟨⟨s_lload_n d78_61 rfl, tl_lload _ _⟩, List.forall_mem_cons.mpr ⟨⟨s_lcmp d78_62, tl_lcmp _⟩, List.forall_mem_cons.mpr ⟨⟨s_ifne d78_63 rfl, tl_ifne _ _⟩, List.forall_mem_cons.mpr ⟨⟨s_iload d78_66, tl_iload _ _⟩, List.forall_mem_cons.mpr ⟨⟨s_bipush d78_68 rfl, tl_push _ _⟩, List.forall_mem_cons.mpr ⟨⟨s_icne d78_70 rfl, tl_icne _ _⟩, List.forall_mem_cons.mpr ⟨⟨s_iload d78_73, tl_iload _ _⟩, fun _ h => absurd h List.not_mem_nil⟩⟩⟩⟩⟩⟩⟩⟩⟩⟩⟩⟩⟩⟩⟩⟩⟩⟩⟩⟩⟩⟩⟩⟩⟩⟩⟩⟩⟩⟩⟩⟩⟩⟩⟩⟩⟩⟩⟩⟩
/-- RL.isFolded -/
def t78_1 : List (Nat × pO) := [(75, o_push (.int (nM 2)) 77), (77, o_iceq 102 80), (80, o_iload 6 82), (82, o_push (.int (nM 4)) 84), (84, o_icne 106 87), (87, o_goto 102), (90, o_iload 5 92), (92, o_ifle 106 95), (95, o_iload 6 97), (97, o_push (.int (nM 5)) 99), (99, o_icne 106 102), (102, o_push (.int (nI 1)) 103), (103, o_goto 107), (106, o_push (.int (nI 0)) 107), (107, o_zret), (108, o_iload 5 110), (110, o_ifne 152 113), (113, o_aload 0 114), (114, o_push (.int (nI 4)) 115), (115, o_invV 4 48 1 118), (118, o_ifne 152 121), (121, o_iload 6 123), (123, o_aload 0 124), (124, o_push (.int (nI 2)) 125), (125, o_invV 4 48 1 128), (128, o_icne 152 131), (131, o_aload 0 132), (132, o_invV 4 44 0 135), (135, o_iload 1 136), (136, o_icne 152 139), (139, o_aload 0 140), (140, o_invS 75 1 143), (143, o_lload 2 144), (144, o_lcmp 145), (145, o_ifne 152 148), (148, o_push (.int (nI 1)) 149), (149, o_goto 153), (152, o_push (.int (nI 0)) 153), (153, o_istore 7 155), (155, o_aload 0 156)]
theorem ok78_1 : ∀ q ∈ t78_1, p_Z 78 q := List.forall_mem_cons.mpr ⟨⟨s_bipush d78_75 rfl, tl_push _ _⟩, List.forall_mem_cons.mpr ⟨⟨s_iceq d78_77 rfl, tl_iceq _ _⟩, List.forall_mem_cons.mpr ⟨⟨s_iload d78_80, tl_iload _ _⟩, List.forall_mem_cons.mpr ⟨⟨s_bipush d78_82 rfl, tl_push _ _⟩, List.forall_mem_cons.mpr ⟨⟨s_icne d78_84 rfl, tl_icne _ _⟩, List.forall_mem_cons.mpr ⟨⟨s_goto d78_87 rfl, tl_goto _⟩, List.forall_mem_cons.mpr ⟨⟨s_iload d78_90, tl_iload _ _⟩, List.forall_mem_cons.mpr ⟨⟨s_ifle d78_92 rfl, tl_ifle _ _⟩, List.forall_mem_cons.mpr ⟨⟨s_iload d78_95, tl_iload _ _⟩, List.forall_mem_cons.mpr ⟨⟨s_bipush d78_97 rfl, tl_push _ _⟩, List.forall_mem_cons.mpr ⟨⟨s_icne d78_99 rfl, tl_icne _ _⟩, List.forall_mem_cons.mpr ⟨⟨s_iconst d78_102 rfl, tl_push _ _⟩, List.forall_mem_cons.mpr ⟨⟨s_goto d78_103 rfl, tl_goto _⟩, List.forall_mem_cons.mpr ⟨⟨s_iconst d78_106 rfl, tl_push _ _⟩, List.forall_mem_cons.mpr ⟨⟨s_zret d78_107 rfl, tl_zret⟩, List.forall_mem_cons.mpr ⟨⟨s_iload d78_108, tl_iload _ _⟩, List.forall_mem_cons.mpr ⟨⟨s_ifne d78_110 rfl, tl_ifne _ _⟩, List.forall_mem_cons.mpr ⟨⟨s_aload_n d78_113 rfl, tl_aload _ _⟩, List.forall_mem_cons.mpr ⟨⟨s_iconst d78_114 rfl, tl_push _ _⟩, List.forall_mem_cons.mpr ⟨⟨q_invV_48 d78_115 wd_186, tl_invV _ _ _ _⟩, List.forall_mem_cons.mpr ⟨⟨s_ifne d78_118 rfl, tl_ifne _ _⟩, List.forall_mem_cons.mpr ⟨⟨s_iload d78_121, tl_iload _ _⟩, List.forall_mem_cons.mpr ⟨⟨s_aload_n d78_123 rfl, tl_aload _ _⟩, List.forall_mem_cons.mpr ⟨⟨s_iconst d78_124 rfl, tl_push _ _⟩, List.forall_mem_cons.mpr ⟨⟨q_invV_48 d78_125 wd_186, tl_invV _ _ _ _⟩, List.forall_mem_cons.mpr ⟨⟨s_icne d78_128 rfl, tl_icne _ _⟩, List.forall_mem_cons.mpr ⟨⟨s_aload_n d78_131 rfl, tl_aload _ _⟩, List.forall_mem_cons.mpr ⟨⟨q_invV_44 d78_132 wd_418, tl_invV _ _ _ _⟩, List.forall_mem_cons.mpr ⟨⟨s_iload_n d78_135 rfl, tl_iload _ _⟩, List.forall_mem_cons.mpr ⟨⟨s_icne d78_136 rfl, tl_icne _ _⟩, List.forall_mem_cons.mpr ⟨⟨s_aload_n d78_139 rfl, tl_aload _ _⟩, List.forall_mem_cons.mpr ⟨⟨q_invS_75 d78_140 wd_314, tl_invS _ _ _⟩, List.forall_mem_cons.mpr ⟨⟨s_lload_n d78_143 rfl, tl_lload _ _⟩, List.forall_mem_cons.mpr ⟨⟨s_lcmp d78_144, tl_lcmp _⟩, List.forall_mem_cons.mpr ⟨⟨s_ifne d78_145 rfl, tl_ifne _ _⟩, List.forall_mem_cons.mpr ⟨⟨s_iconst d78_148 rfl, tl_push _ _⟩, List.forall_mem_cons.mpr ⟨⟨s_goto d78_149 rfl, tl_goto _⟩, List.forall_mem_cons.mpr ⟨⟨s_iconst d78_152 rfl, tl_push _ _⟩, List.forall_mem_cons.mpr ⟨⟨s_istore d78_153 st1_78_7, tl_istore _ _⟩, List.forall_mem_cons.mpr ⟨⟨s_aload_n d78_155 rfl, tl_aload _ _⟩, fun _ h => absurd h List.not_mem_nil⟩⟩⟩⟩⟩⟩⟩⟩⟩⟩⟩⟩⟩⟩⟩⟩⟩⟩⟩⟩⟩⟩⟩⟩⟩⟩⟩⟩⟩⟩⟩⟩⟩⟩⟩⟩⟩⟩⟩⟩
/-- RL.isFolded -/
def t78_2 : List (Nat × pO) := [(156, o_invV 4 51 0 159), (159, o_popi 160), (160, o_aload 0 161), (161, o_invV 4 51 0 164), (164, o_popi 165), (165, o_iload 7 167), (167, o_ifeq 183 170), (170, o_aload 0 171), (171, o_invS 75 1 174), (174, o_lload 2 175), (175, o_lcmp 176), (176, o_ifne 183 179), (179, o_push (.int (nI 1)) 180), (180, o_goto 184), (183, o_push (.int (nI 0)) 184), (184, o_zret)]
theorem ok78_2 : ∀ q ∈ t78_2, p_Z 78 q := List.forall_mem_cons.mpr ⟨⟨q_invV_51 d78_156 wd_257, tl_invV _ _ _ _⟩, List.forall_mem_cons.mpr ⟨⟨s_popi d78_159, tl_popi _⟩, List.forall_mem_cons.mpr ⟨⟨s_aload_n d78_160 rfl, tl_aload _ _⟩, List.forall_mem_cons.mpr ⟨⟨q_invV_51 d78_161 wd_257, tl_invV _ _ _ _⟩, List.forall_mem_cons.mpr ⟨⟨s_popi d78_164, tl_popi _⟩, List.forall_mem_cons.mpr ⟨⟨s_iload d78_165, tl_iload _ _⟩, List.forall_mem_cons.mpr ⟨⟨s_ifeq d78_167 rfl, tl_ifeq _ _⟩, List.forall_mem_cons.mpr ⟨⟨s_aload_n d78_170 rfl, tl_aload _ _⟩, List.forall_mem_cons.mpr ⟨⟨q_invS_75 d78_171 wd_314, tl_invS _ _ _⟩, List.forall_mem_cons.mpr ⟨⟨s_lload_n d78_174 rfl, tl_lload _ _⟩, List.forall_mem_cons.mpr ⟨⟨s_lcmp d78_175, tl_lcmp _⟩, List.forall_mem_cons.mpr ⟨⟨s_ifne d78_176 rfl, tl_ifne _ _⟩, List.forall_mem_cons.mpr ⟨⟨s_iconst d78_179 rfl, tl_push _ _⟩, List.forall_mem_cons.mpr ⟨⟨s_goto d78_180 rfl, tl_goto _⟩, List.forall_mem_cons.mpr ⟨⟨s_iconst d78_183 rfl, tl_push _ _⟩, List.forall_mem_cons.mpr ⟨⟨s_zret d78_184 rfl, tl_zret⟩, fun _ h => absurd h List.not_mem_nil⟩⟩⟩⟩⟩⟩⟩⟩⟩⟩⟩⟩⟩⟩⟩⟩
def t78 : List (Nat × pO) := t78_0 ++ (t78_1 ++ (t78_2))
theorem ok78 : ∀ q ∈ t78, p_Z 78 q := List.forall_mem_append.mpr ⟨ok78_0, List.forall_mem_append.mpr ⟨ok78_1, ok78_2⟩⟩
theorem d79_0 : decode (pB 79) 0 = .ok (.new 13, 3) := by decide +kernel
theorem d79_3 : decode (pB 79) 3 = .ok (.dup, 1) := by decide +kernel
theorem d79_4 : decode (pB 79) 4 = .ok (.invokespecial 78, 3) := by decide +kernel
theorem d79_7 : decode (pB 79) 7 = .ok (.astore_n 1, 1) := by decide +kernel
theorem d79_8 : decode (pB 79) 8 = .ok (.aload_n 1, 1) := by decide +kernel
theorem d79_9 : decode (pB 79) 9 = .ok (.invokevirtual 75, 3) := by decide +kernel
theorem d79_12 : decode (pB 79) 12 = .ok (.bipush (-5), 2) := by decide +kernel
theorem d79_14 : decode (pB 79) 14 = .ok (.if_icmp .ne 21, 3) := by decide +kernel
theorem d79_17 : decode (pB 79) 17 = .ok (.aload_n 1, 1) := by decide +kernel
theorem d79_18 : decode (pB 79) 18 = .ok (.iconst 1, 1) := by decide +kernel
theorem d79_19 : decode (pB 79) 19 = .ok (.invokevirtual 56, 3) := by decide +kernel
theorem d79_22 : decode (pB 79) 22 = .ok (.bipush (-5), 2) := by decide +kernel
theorem d79_24 : decode (pB 79) 24 = .ok (.if_icmp .ne 11, 3) := by decide +kernel
theorem d79_27 : decode (pB 79) 27 = .ok (.aload_n 1, 1) := by decide +kernel
theorem d79_28 : decode (pB 79) 28 = .ok (.iconst 0, 1) := by decide +kernel
theorem d79_29 : decode (pB 79) 29 = .ok (.invokevirtual 79, 3) := by decide +kernel
theorem d79_32 : decode (pB 79) 32 = .ok (.ifCond .eq 5, 3) := by decide +kernel
theorem d79_35 : decode (pB 79) 35 = .ok (.iconst 0, 1) := by decide +kernel
theorem d79_36 : decode (pB 79) 36 = .ok (.ireturn, 1) := by decide +kernel
theorem d79_37 : decode (pB 79) 37 = .ok (.iconst 0, 1) := by decide +kernel
theorem d79_38 : decode (pB 79) 38 = .ok (.istore_n 2, 1) := by decide +kernel
theorem d79_39 : decode (pB 79) 39 = .ok (.iload_n 2, 1) := by decide +kernel
theorem d79_40 : decode (pB 79) 40 = .ok (.bipush 32, 2) := by decide +kernel
theorem d79_42 : decode (pB 79) 42 = .ok (.if_icmp .ge 238, 3) := by decide +kernel
theorem d79_45 : decode (pB 79) 45 = .ok (.iload_n 2, 1) := by decide +kernel
theorem d79_46 : decode (pB 79) 46 = .ok (.iconst 4, 1) := by decide +kernel
theorem d79_47 : decode (pB 79) 47 = .ok (.if_icmp .ge 7, 3) := by decide +kernel
theorem d79_50 : decode (pB 79) 50 = .ok (.iconst 1, 1) := by decide +kernel
theorem d79_51 : decode (pB 79) 51 = .ok (.goto 24, 3) := by decide +kernel
theorem d79_54 : decode (pB 79) 54 = .ok (.iload_n 2, 1) := by decide +kernel
theorem d79_55 : decode (pB 79) 55 = .ok (.bipush 8, 2) := by decide +kernel
theorem d79_57 : decode (pB 79) 57 = .ok (.if_icmp .ge 11, 3) := by decide +kernel
theorem d79_60 : decode (pB 79) 60 = .ok (.iconst 3, 1) := by decide +kernel
theorem d79_61 : decode (pB 79) 61 = .ok (.iload_n 2, 1) := by decide +kernel
theorem d79_62 : decode (pB 79) 62 = .ok (.iconst 4, 1) := by decide +kernel
theorem d79_63 : decode (pB 79) 63 = .ok (.ishl, 1) := by decide +kernel
theorem d79_64 : decode (pB 79) 64 = .ok (.iadd, 1) := by decide +kernel
theorem d79_65 : decode (pB 79) 65 = .ok (.goto 10, 3) := by decide +kernel
theorem d79_68 : decode (pB 79) 68 = .ok (.aload_n 0, 1) := by decide +kernel
theorem d79_69 : decode (pB 79) 69 = .ok (.iconst 2, 1) := by decide +kernel
theorem d79_70 : decode (pB 79) 70 = .ok (.iload_n 2, 1) := by decide +kernel
theorem d79_71 : decode (pB 79) 71 = .ok (.imul, 1) := by decide +kernel
theorem d79_72 : decode (pB 79) 72 = .ok (.invokestatic 82, 3) := by decide +kernel
theorem d79_75 : decode (pB 79) 75 = .ok (.istore_n 3, 1) := by decide +kernel
theorem d79_76 : decode (pB 79) 76 = .ok (.aload_n 0, 1) := by decide +kernel
theorem d79_77 : decode (pB 79) 77 = .ok (.iconst 2, 1) := by decide +kernel
theorem d79_78 : decode (pB 79) 78 = .ok (.iload_n 2, 1) := by decide +kernel
theorem d79_79 : decode (pB 79) 79 = .ok (.imul, 1) := by decide +kernel
theorem d79_80 : decode (pB 79) 80 = .ok (.iconst 1, 1) := by decide +kernel
theorem d79_81 : decode (pB 79) 81 = .ok (.iadd, 1) := by decide +kernel
theorem d79_82 : decode (pB 79) 82 = .ok (.invokestatic 82, 3) := by decide +kernel
theorem d79_85 : decode (pB 79) 85 = .ok (.istore 4, 2) := by decide +kernel
theorem d79_87 : decode (pB 79) 87 = .ok (.aload_n 1, 1) := by decide +kernel
theorem d79_88 : decode (pB 79) 88 = .ok (.invokestatic 68, 3) := by decide +kernel
theorem d79_91 : decode (pB 79) 91 = .ok (.lstore 5, 2) := by decide +kernel
theorem d79_93 : decode (pB 79) 93 = .ok (.aload_n 1, 1) := by decide +kernel
theorem d79_94 : decode (pB 79) 94 = .ok (.bipush 12, 2) := by decide +kernel
theorem d79_96 : decode (pB 79) 96 = .ok (.invokevirtual 12, 3) := by decide +kernel
theorem d79_99 : decode (pB 79) 99 = .ok (.istore 7, 2) := by decide +kernel
theorem d79_101 : decode (pB 79) 101 = .ok (.aload_n 1, 1) := by decide +kernel
theorem d79_102 : decode (pB 79) 102 = .ok (.iload_n 3, 1) := by decide +kernel
theorem d79_103 : decode (pB 79) 103 = .ok (.iload 4, 2) := by decide +kernel
theorem d79_105 : decode (pB 79) 105 = .ok (.invokestatic 86, 3) := by decide +kernel
theorem d79_108 : decode (pB 79) 108 = .ok (.istore 8, 2) := by decide +kernel
theorem d79_110 : decode (pB 79) 110 = .ok (.aload_n 1, 1) := by decide +kernel
theorem d79_111 : decode (pB 79) 111 = .ok (.invokestatic 68, 3) := by decide +kernel
theorem d79_114 : decode (pB 79) 114 = .ok (.lstore 9, 2) := by decide +kernel
theorem d79_116 : decode (pB 79) 116 = .ok (.iload 8, 2) := by decide +kernel
theorem d79_118 : decode (pB 79) 118 = .ok (.ifCond .ge 25, 3) := by decide +kernel
theorem d79_121 : decode (pB 79) 121 = .ok (.lload 9, 2) := by decide +kernel
theorem d79_123 : decode (pB 79) 123 = .ok (.lload 5, 2) := by decide +kernel
theorem d79_125 : decode (pB 79) 125 = .ok (.lcmp, 1) := by decide +kernel
theorem d79_126 : decode (pB 79) 126 = .ok (.ifCond .ne 42, 3) := by decide +kernel
theorem d79_129 : decode (pB 79) 129 = .ok (.aload_n 1, 1) := by decide +kernel
theorem d79_130 : decode (pB 79) 130 = .ok (.bipush 12, 2) := by decide +kernel
theorem d79_132 : decode (pB 79) 132 = .ok (.invokevirtual 12, 3) := by decide +kernel
theorem d79_135 : decode (pB 79) 135 = .ok (.iload 7, 2) := by decide +kernel
theorem d79_137 : decode (pB 79) 137 = .ok (.if_icmp .eq 33, 3) := by decide +kernel
theorem d79_140 : decode (pB 79) 140 = .ok (.goto 28, 3) := by decide +kernel
theorem d79_143 : decode (pB 79) 143 = .ok (.aload_n 1, 1) := by decide +kernel
theorem d79_144 : decode (pB 79) 144 = .ok (.bipush 12, 2) := by decide +kernel
theorem d79_146 : decode (pB 79) 146 = .ok (.invokevirtual 12, 3) := by decide +kernel
theorem d79_149 : decode (pB 79) 149 = .ok (.iload 7, 2) := by decide +kernel
theorem d79_151 : decode (pB 79) 151 = .ok (.bipush 6, 2) := by decide +kernel
theorem d79_153 : decode (pB 79) 153 = .ok (.if_icmp .ge 10, 3) := by decide +kernel
theorem d79_156 : decode (pB 79) 156 = .ok (.iload 7, 2) := by decide +kernel
theorem d79_158 : decode (pB 79) 158 = .ok (.iconst 1, 1) := by decide +kernel
theorem d79_159 : decode (pB 79) 159 = .ok (.iadd, 1) := by decide +kernel
theorem d79_160 : decode (pB 79) 160 = .ok (.goto 5, 3) := by decide +kernel
theorem d79_163 : decode (pB 79) 163 = .ok (.bipush 6, 2) := by decide +kernel
theorem d79_165 : decode (pB 79) 165 = .ok (.if_icmp .eq 5, 3) := by decide +kernel
theorem d79_168 : decode (pB 79) 168 = .ok (.iconst 0, 1) := by decide +kernel
theorem d79_169 : decode (pB 79) 169 = .ok (.ireturn, 1) := by decide +kernel
theorem d79_170 : decode (pB 79) 170 = .ok (.iload 8, 2) := by decide +kernel
theorem d79_172 : decode (pB 79) 172 = .ok (.ifCond .lt 65, 3) := by decide +kernel
theorem d79_175 : decode (pB 79) 175 = .ok (.iload_n 3, 1) := by decide +kernel
theorem d79_176 : decode (pB 79) 176 = .ok (.bipush 10, 2) := by decide +kernel
theorem d79_178 : decode (pB 79) 178 = .ok (.ishr, 1) := by decide +kernel
theorem d79_179 : decode (pB 79) 179 = .ok (.iconst 1, 1) := by decide +kernel
theorem d79_180 : decode (pB 79) 180 = .ok (.iand, 1) := by decide +kernel
theorem d79_181 : decode (pB 79) 181 = .ok (.ifCond .ne 56, 3) := by decide +kernel
theorem d79_184 : decode (pB 79) 184 = .ok (.aload_n 1, 1) := by decide +kernel
theorem d79_185 : decode (pB 79) 185 = .ok (.bipush 12, 2) := by decide +kernel
theorem d79_187 : decode (pB 79) 187 = .ok (.invokevirtual 12, 3) := by decide +kernel
theorem d79_190 : decode (pB 79) 190 = .ok (.iconst 1, 1) := by decide +kernel
theorem d79_191 : decode (pB 79) 191 = .ok (.isub, 1) := by decide +kernel
theorem d79_192 : decode (pB 79) 192 = .ok (.istore 11, 2) := by decide +kernel
theorem d79_194 : decode (pB 79) 194 = .ok (.aload_n 1, 1) := by decide +kernel
theorem d79_195 : decode (pB 79) 195 = .ok (.invokevirtual 75, 3) := by decide +kernel
theorem d79_198 : decode (pB 79) 198 = .ok (.iload 11, 2) := by decide +kernel
theorem d79_200 : decode (pB 79) 200 = .ok (.if_icmp .ne 35, 3) := by decide +kernel
theorem d79_203 : decode (pB 79) 203 = .ok (.aload_n 1, 1) := by decide +kernel
theorem d79_204 : decode (pB 79) 204 = .ok (.invokestatic 68, 3) := by decide +kernel
theorem d79_207 : decode (pB 79) 207 = .ok (.lload 5, 2) := by decide +kernel
theorem d79_209 : decode (pB 79) 209 = .ok (.lcmp, 1) := by decide +kernel
theorem d79_210 : decode (pB 79) 210 = .ok (.ifCond .ne 25, 3) := by decide +kernel
theorem d79_213 : decode (pB 79) 213 = .ok (.aload_n 1, 1) := by decide +kernel
theorem d79_214 : decode (pB 79) 214 = .ok (.iload_n 3, 1) := by decide +kernel
theorem d79_215 : decode (pB 79) 215 = .ok (.iload 4, 2) := by decide +kernel
theorem d79_217 : decode (pB 79) 217 = .ok (.invokestatic 86, 3) := by decide +kernel
theorem d79_220 : decode (pB 79) 220 = .ok (.iload 8, 2) := by decide +kernel
theorem d79_222 : decode (pB 79) 222 = .ok (.if_icmp .ne 13, 3) := by decide +kernel
theorem d79_225 : decode (pB 79) 225 = .ok (.aload_n 1, 1) := by decide +kernel
theorem d79_226 : decode (pB 79) 226 = .ok (.invokestatic 68, 3) := by decide +kernel
theorem d79_229 : decode (pB 79) 229 = .ok (.lload 9, 2) := by decide +kernel
theorem d79_231 : decode (pB 79) 231 = .ok (.lcmp, 1) := by decide +kernel
theorem d79_232 : decode (pB 79) 232 = .ok (.ifCond .eq 5, 3) := by decide +kernel
theorem d79_235 : decode (pB 79) 235 = .ok (.iconst 0, 1) := by decide +kernel
theorem d79_236 : decode (pB 79) 236 = .ok (.ireturn, 1) := by decide +kernel
theorem d79_237 : decode (pB 79) 237 = .ok (.iload_n 2, 1) := by decide +kernel
theorem d79_238 : decode (pB 79) 238 = .ok (.iconst 3, 1) := by decide +kernel
theorem d79_239 : decode (pB 79) 239 = .ok (.irem, 1) := by decide +kernel
theorem d79_240 : decode (pB 79) 240 = .ok (.iconst 2, 1) := by decide +kernel
theorem d79_241 : decode (pB 79) 241 = .ok (.if_icmp .ne 33, 3) := by decide +kernel
theorem d79_244 : decode (pB 79) 244 = .ok (.aload_n 1, 1) := by decide +kernel
theorem d79_245 : decode (pB 79) 245 = .ok (.invokestatic 90, 3) := by decide +kernel
theorem d79_248 : decode (pB 79) 248 = .ok (.ifCond .eq 24, 3) := by decide +kernel
theorem d79_251 : decode (pB 79) 251 = .ok (.aload_n 1, 1) := by decide +kernel
theorem d79_252 : decode (pB 79) 252 = .ok (.iload 4, 2) := by decide +kernel
theorem d79_254 : decode (pB 79) 254 = .ok (.iconst 3, 1) := by decide +kernel
theorem d79_255 : decode (pB 79) 255 = .ok (.ishr, 1) := by decide +kernel
theorem d79_256 : decode (pB 79) 256 = .ok (.aload_n 1, 1) := by decide +kernel
theorem d79_257 : decode (pB 79) 257 = .ok (.iconst 2, 1) := by decide +kernel
theorem d79_258 : decode (pB 79) 258 = .ok (.invokevirtual 12, 3) := by decide +kernel
theorem d79_261 : decode (pB 79) 261 = .ok (.iconst 1, 1) := by decide +kernel
theorem d79_262 : decode (pB 79) 262 = .ok (.iadd, 1) := by decide +kernel
theorem d79_263 : decode (pB 79) 263 = .ok (.invokestatic 25, 3) := by decide +kernel
theorem d79_266 : decode (pB 79) 266 = .ok (.invokestatic 94, 3) := by decide +kernel
theorem d79_269 : decode (pB 79) 269 = .ok (.ifCond .ne 5, 3) := by decide +kernel
theorem d79_272 : decode (pB 79) 272 = .ok (.iconst 0, 1) := by decide +kernel
theorem d79_273 : decode (pB 79) 273 = .ok (.ireturn, 1) := by decide +kernel
theorem d79_274 : decode (pB 79) 274 = .ok (.iinc 2 1, 3) := by decide +kernel
theorem d79_277 : decode (pB 79) 277 = .ok (.goto (-238), 3) := by decide +kernel
theorem d79_280 : decode (pB 79) 280 = .ok (.iconst 1, 1) := by decide +kernel
theorem d79_281 : decode (pB 79) 281 = .ok (.ireturn, 1) := by decide +kernel
theorem st1_79_1 : p_st1 79 1 = true := by decide +kernel
theorem st1_79_11 : p_st1 79 11 = true := by decide +kernel
theorem st1_79_2 : p_st1 79 2 = true := by decide +kernel
theorem st1_79_3 : p_st1 79 3 = true := by decide +kernel
theorem st1_79_4 : p_st1 79 4 = true := by decide +kernel
theorem st1_79_7 : p_st1 79 7 = true := by decide +kernel
theorem st1_79_8 : p_st1 79 8 = true := by decide +kernel
theorem st2_79_5 : p_st2 79 5 = true := by decide +kernel
theorem st2_79_9 : p_st2 79 9 = true := by decide +kernel
/-- RL.law -/
def t79_0 : List (Nat × pO) := [(0, o_new 4 [.null, .null, .int 0, .null, .null, .null, .null, .null] 3), (3, o_dupr 4), (4, o_invI 35 0 7), (7, o_astore 1 8), (8, o_aload 1 9), (9, o_invV 4 51 0 12), (12, o_push (.int (nM 5)) 14), (14, o_icne 35 17), (17, o_aload 1 18), (18, o_push (.int (nI 1)) 19), (19, o_invV 4 53 1 22), (22, o_push (.int (nM 5)) 24), (24, o_icne 35 27), (27, o_aload 1 28), (28, o_push (.int (nI 0)) 29), (29, o_invV 4 52 1 32), (32, o_ifeq 37 35), (35, o_push (.int (nI 0)) 36), (36, o_zret), (37, o_push (.int (nI 0)) 38), (38, o_istore 2 39), (39, o_iload 2 40), (40, o_push (.int (nI 32)) 42), (42, o_icge 280 45), (45, o_iload 2 46), (46, o_push (.int (nI 4)) 47), (47, o_icge 54 50), (50, o_push (.int (nI 1)) 51), (51, o_goto 75), (54, o_iload 2 55), (55, o_push (.int (nI 8)) 57), (57, o_icge 68 60), (60, o_push (.int (nI 3)) 61), (61, o_iload 2 62), (62, o_push (.int (nI 4)) 63), (63, o_ishl 64), (64, o_iadd 65), (65, o_goto 75), (68, o_aload 0 69), (69, o_push (.int (nI 2)) 70)]
theorem ok79_0 : ∀ q ∈ t79_0, p_Z 79 q := List.forall_mem_cons.mpr ⟨⟨s_new d79_0 rfl inp4 tyX4_ok rfl ⟨rfl, by simp⟩ wd_25 wd_26 wd_17, tl_new _ _ _⟩, List.forall_mem_cons.mpr ⟨⟨s_dupr d79_3, tl_dupr _⟩, List.forall_mem_cons.mpr ⟨⟨q_invI_35 d79_4 wd_27, tl_invI _ _ _⟩, List.forall_mem_cons.mpr ⟨⟨s_astore_n d79_7 rfl st1_79_1, tl_astore _ _⟩, List.forall_mem_cons.mpr ⟨⟨s_aload_n d79_8 rfl, tl_aload _ _⟩, List.forall_mem_cons.mpr ⟨⟨q_invV_51 d79_9 wd_257, tl_invV _ _ _ _⟩, List.forall_mem_cons.mpr ⟨⟨s_bipush d79_12 rfl, tl_push _ _⟩, List.forall_mem_cons.mpr ⟨⟨s_icne d79_14 rfl, tl_icne _ _⟩, List.forall_mem_cons.mpr ⟨⟨s_aload_n d79_17 rfl, tl_aload _ _⟩, List.forall_mem_cons.mpr ⟨⟨s_iconst d79_18 rfl, tl_push _ _⟩, List.forall_mem_cons.mpr ⟨⟨q_invV_53 d79_19 wd_288, tl_invV _ _ _ _⟩, List.forall_mem_cons.mpr ⟨⟨s_bipush d79_22 rfl, tl_push _ _⟩, List.forall_mem_cons.mpr ⟨⟨s_icne d79_24 rfl, tl_icne _ _⟩, List.forall_mem_cons.mpr ⟨⟨s_aload_n d79_27 rfl, tl_aload _ _⟩, List.forall_mem_cons.mpr ⟨⟨s_iconst d79_28 rfl, tl_push _ _⟩, List.forall_mem_cons.mpr ⟨⟨q_invV_52 d79_29 wd_284, tl_invV _ _ _ _⟩, List.forall_mem_cons.mpr ⟨⟨s_ifeq d79_32 rfl, tl_ifeq _ _⟩, List.forall_mem_cons.mpr ⟨⟨s_iconst d79_35 rfl, tl_push _ _⟩, List.forall_mem_cons.mpr ⟨⟨s_zret d79_36 rfl, tl_zret⟩, List.forall_mem_cons.mpr ⟨⟨s_iconst d79_37 rfl, tl_push _ _⟩, List.forall_mem_cons.mpr ⟨⟨s_istore_n d79_38 rfl st1_79_2, tl_istore _ _⟩, List.forall_mem_cons.mpr ⟨⟨s_iload_n d79_39 rfl, tl_iload _ _⟩, List.forall_mem_cons.mpr ⟨⟨s_bipush d79_40 rfl, tl_push _ _⟩, List.forall_mem_cons.mpr ⟨⟨s_icge d79_42 rfl, tl_icge _ _⟩, List.forall_mem_cons.mpr ⟨⟨s_iload_n d79_45 rfl, tl_iload _ _⟩, List.forall_mem_cons.mpr ⟨⟨s_iconst d79_46 rfl, tl_push _ _⟩, List.forall_mem_cons.mpr ⟨⟨s_icge d79_47 rfl, tl_icge _ _⟩, List.forall_mem_cons.mpr ⟨⟨s_iconst d79_50 rfl, tl_push _ _⟩, List.forall_mem_cons.mpr ⟨⟨s_goto d79_51 rfl, tl_goto _⟩, List.forall_mem_cons.mpr ⟨⟨s_iload_n d79_54 rfl, tl_iload _ _⟩, List.forall_mem_cons.mpr ⟨⟨s_bipush d79_55 rfl, tl_push _ _⟩, List.forall_mem_cons.mpr ⟨⟨s_icge d79_57 rfl, tl_icge _ _⟩, List.forall_mem_cons.mpr ⟨⟨s_iconst d79_60 rfl, tl_push _ _⟩, List.forall_mem_cons.mpr ⟨⟨s_iload_n d79_61 rfl, tl_iload _ _⟩, List.forall_mem_cons.mpr ⟨⟨s_iconst d79_62 rfl, tl_push _ _⟩, List.forall_mem_cons.mpr ⟨⟨s_ishl d79_63, tl_ishl _⟩, List.forall_mem_cons.mpr ⟨⟨s_iadd d79_64, tl_iadd _⟩, List.forall_mem_cons.mpr ⟨⟨s_goto d79_65 rfl, tl_goto _⟩, List.forall_mem_cons.mpr ⟨⟨s_aload_n d79_68 rfl, tl_aload _ _⟩, List.forall_mem_cons.mpr ⟨⟨s_iconst d79_69 rfl, tl_push _ _⟩, fun _ h => absurd h List.not_mem_nil⟩⟩⟩⟩⟩⟩⟩⟩⟩⟩⟩⟩⟩⟩⟩⟩⟩⟩⟩⟩⟩⟩⟩⟩⟩⟩⟩⟩⟩⟩⟩⟩⟩⟩⟩⟩⟩⟩⟩⟩
/-- RL.law -/
def t79_1 : List (Nat × pO) := [(70, o_iload 2 71), (71, o_imul 72), (72, o_invS 73 2 75), (75, o_istore 3 76), (76, o_aload 0 77), (77, o_push (.int (nI 2)) 78), (78, o_iload 2 79), (79, o_imul 80), (80, o_push (.int (nI 1)) 81), (81, o_iadd 82), (82, o_invS 73 2 85), (85, o_istore 4 87), (87, o_aload 1 88), (88, o_invS 75 1 91), (91, o_lstore 5 93), (93, o_aload 1 94), (94, o_push (.int (nI 12)) 96), (96, o_invV 4 48 1 99), (99, o_istore 7 101), (101, o_aload 1 102), (102, o_iload 3 103), (103, o_iload 4 105), (105, o_invS 76 3 108), (108, o_istore 8 110), (110, o_aload 1 111), (111, o_invS 75 1 114), (114, o_lstore 9 116), (116, o_iload 8 118), (118, o_ifge 143 121), (121, o_lload 9 123), (123, o_lload 5 125), (125, o_lcmp 126), (126, o_ifne 168 129), (129, o_aload 1 130), (130, o_push (.int (nI 12)) 132), (132, o_invV 4 48 1 135), (135, o_iload 7 137), (137, o_iceq 170 140), (140, o_goto 168), (143, o_aload 1 144)]
theorem ok79_1 : ∀ q ∈ t79_1, p_Z 79 q := List.forall_mem_cons.mpr ⟨⟨s_iload_n d79_70 rfl, tl_iload _ _⟩, List.forall_mem_cons.mpr ⟨⟨s_imul d79_71, tl_imul _⟩, List.forall_mem_cons.mpr ⟨⟨q_invS_73 d79_72 wd_307, tl_invS _ _ _⟩, List.forall_mem_cons.mpr ⟨⟨s_istore_n d79_75 rfl st1_79_3, tl_istore _ _⟩, List.forall_mem_cons.mpr ⟨⟨s_aload_n d79_76 rfl, tl_aload _ _⟩, List.forall_mem_cons.mpr ⟨⟨s_iconst d79_77 rfl, tl_push _ _⟩, List.forall_mem_cons.mpr ⟨⟨s_iload_n d79_78 rfl, tl_iload _ _⟩, List.forall_mem_cons.mpr ⟨⟨s_imul d79_79, tl_imul _⟩, List.forall_mem_cons.mpr ⟨⟨s_iconst d79_80 rfl, tl_push _ _⟩, List.forall_mem_cons.mpr ⟨⟨s_iadd d79_81, tl_iadd _⟩, List.forall_mem_cons.mpr ⟨⟨q_invS_73 d79_82 wd_307, tl_invS _ _ _⟩, List.forall_mem_cons.mpr ⟨⟨s_istore d79_85 st1_79_4, tl_istore _ _⟩, List.forall_mem_cons.mpr ⟨⟨s_aload_n d79_87 rfl, tl_aload _ _⟩, List.forall_mem_cons.mpr ⟨⟨q_invS_75 d79_88 wd_314, tl_invS _ _ _⟩, List.forall_mem_cons.mpr ⟨⟨s_lstore d79_91 st2_79_5, tl_lstore _ _⟩, List.forall_mem_cons.mpr ⟨⟨s_aload_n d79_93 rfl, tl_aload _ _⟩, List.forall_mem_cons.mpr ⟨⟨s_bipush d79_94 rfl, tl_push _ _⟩, List.forall_mem_cons.mpr ⟨⟨q_invV_48 d79_96 wd_186, tl_invV _ _ _ _⟩, List.forall_mem_cons.mpr ⟨⟨s_istore d79_99 st1_79_7, tl_istore _ _⟩, List.forall_mem_cons.mpr ⟨⟨s_aload_n d79_101 rfl, tl_aload _ _⟩, List.forall_mem_cons.mpr ⟨⟨s_iload_n d79_102 rfl, tl_iload _ _⟩, List.forall_mem_cons.mpr ⟨⟨s_iload d79_103, tl_iload _ _⟩, List.forall_mem_cons.mpr ⟨⟨q_invS_76 d79_105 wd_344, tl_invS _ _ _⟩, List.forall_mem_cons.mpr ⟨⟨s_istore d79_108 st1_79_8, tl_istore _ _⟩, List.forall_mem_cons.mpr ⟨⟨s_aload_n d79_110 rfl, tl_aload _ _⟩, List.forall_mem_cons.mpr ⟨⟨q_invS_75 d79_111 wd_314, tl_invS _ _ _⟩, List.forall_mem_cons.mpr ⟨⟨s_lstore d79_114 st2_79_9, tl_lstore _ _⟩, List.forall_mem_cons.mpr ⟨⟨s_iload d79_116, tl_iload _ _⟩, List.forall_mem_cons.mpr ⟨⟨s_ifge d79_118 rfl, tl_ifge _ _⟩, List.forall_mem_cons.mpr ⟨⟨s_lload d79_121, tl_lload _ _⟩, List.forall_mem_cons.mpr ⟨⟨s_lload d79_123, tl_lload _ _⟩, List.forall_mem_cons.mpr ⟨⟨s_lcmp d79_125, tl_lcmp _⟩, List.forall_mem_cons.mpr ⟨⟨s_ifne d79_126 rfl, tl_ifne _ _⟩, List.forall_mem_cons.mpr ⟨⟨s_aload_n d79_129 rfl, tl_aload _ _⟩, List.forall_mem_cons.mpr ⟨⟨s_bipush d79_130 rfl, tl_push _ _⟩, List.forall_mem_cons.mpr ⟨⟨q_invV_48 d79_132 wd_186, tl_invV _ _ _ _⟩, List.forall_mem_cons.mpr ⟨⟨s_iload d79_135, tl_iload _ _⟩, List.forall_mem_cons.mpr ⟨⟨s_iceq d79_137 rfl, tl_iceq _ _⟩, List.forall_mem_cons.mpr ⟨⟨s_goto d79_140 rfl, tl_goto _⟩, List.forall_mem_cons.mpr ⟨⟨s_aload_n d79_143 rfl, tl_aload _ _⟩, fun _ h => absurd h List.not_mem_nil⟩⟩⟩⟩⟩⟩⟩⟩⟩⟩⟩⟩⟩⟩⟩⟩⟩⟩⟩⟩⟩⟩⟩⟩⟩⟩⟩⟩⟩⟩⟩⟩⟩⟩⟩⟩⟩⟩⟩⟩
/-- RL.law -/
def t79_2 : List (Nat × pO) := [(144, o_push (.int (nI 12)) 146), (146, o_invV 4 48 1 149), (149, o_iload 7 151), (151, o_push (.int (nI 6)) 153), (153, o_icge 163 156), (156, o_iload 7 158), (158, o_push (.int (nI 1)) 159), (159, o_iadd 160), (160, o_goto 165), (163, o_push (.int (nI 6)) 165), (165, o_iceq 170 168), (168, o_push (.int (nI 0)) 169), (169, o_zret), (170, o_iload 8 172), (172, o_iflt 237 175), (175, o_iload 3 176), (176, o_push (.int (nI 10)) 178), (178, o_ishr 179), (179, o_push (.int (nI 1)) 180), (180, o_iand 181), (181, o_ifne 237 184), (184, o_aload 1 185), (185, o_push (.int (nI 12)) 187), (187, o_invV 4 48 1 190), (190, o_push (.int (nI 1)) 191), (191, o_isub 192), (192, o_istore 11 194), (194, o_aload 1 195), (195, o_invV 4 51 0 198), (198, o_iload 11 200), (200, o_icne 235 203), (203, o_aload 1 204), (204, o_invS 75 1 207), (207, o_lload 5 209), (209, o_lcmp 210), (210, o_ifne 235 213), (213, o_aload 1 214), (214, o_iload 3 215), (215, o_iload 4 217), (217, o_invS 76 3 220)]
theorem ok79_2 : ∀ q ∈ t79_2, p_Z 79 q := List.forall_mem_cons.mpr ⟨⟨s_bipush d79_144 rfl, tl_push _ _⟩, List.forall_mem_cons.mpr ⟨⟨q_invV_48 d79_146 wd_186, tl_invV _ _ _ _⟩, List.forall_mem_cons.mpr ⟨⟨s_iload d79_149, tl_iload _ _⟩, List.forall_mem_cons.mpr ⟨⟨s_bipush d79_151 rfl, tl_push _ _⟩, List.forall_mem_cons.mpr ⟨⟨s_icge d79_153 rfl, tl_icge _ _⟩, List.forall_mem_cons.mpr ⟨⟨s_iload d79_156, tl_iload _ _⟩, List.forall_mem_cons.mpr ⟨⟨s_iconst d79_158 rfl, tl_push _ _⟩, List.forall_mem_cons.mpr ⟨⟨s_iadd d79_159, tl_iadd _⟩, List.forall_mem_cons.mpr ⟨⟨s_goto d79_160 rfl, tl_goto _⟩, List.forall_mem_cons.mpr ⟨⟨s_bipush d79_163 rfl, tl_push _ _⟩, List.forall_mem_cons.mpr ⟨⟨s_iceq d79_165 rfl, tl_iceq _ _⟩, List.forall_mem_cons.mpr ⟨⟨s_iconst d79_168 rfl, tl_push _ _⟩, List.forall_mem_cons.mpr ⟨⟨s_zret d79_169 rfl, tl_zret⟩, List.forall_mem_cons.mpr ⟨⟨s_iload d79_170, tl_iload _ _⟩, List.forall_mem_cons.mpr ⟨⟨s_iflt d79_172 rfl, tl_iflt _ _⟩, List.forall_mem_cons.mpr ⟨⟨s_iload_n d79_175 rfl, tl_iload _ _⟩, List.forall_mem_cons.mpr ⟨⟨s_bipush d79_176 rfl, tl_push _ _⟩, List.forall_mem_cons.mpr ⟨⟨s_ishr d79_178, tl_ishr _⟩, List.forall_mem_cons.mpr ⟨⟨s_iconst d79_179 rfl, tl_push _ _⟩, List.forall_mem_cons.mpr ⟨⟨s_iand d79_180, tl_iand _⟩, List.forall_mem_cons.mpr ⟨⟨s_ifne d79_181 rfl, tl_ifne _ _⟩, List.forall_mem_cons.mpr ⟨⟨s_aload_n d79_184 rfl, tl_aload _ _⟩, List.forall_mem_cons.mpr ⟨⟨s_bipush d79_185 rfl, tl_push _ _⟩, List.forall_mem_cons.mpr ⟨⟨q_invV_48 d79_187 wd_186, tl_invV _ _ _ _⟩, List.forall_mem_cons.mpr ⟨⟨s_iconst d79_190 rfl, tl_push _ _⟩, List.forall_mem_cons.mpr ⟨⟨s_isub d79_191, tl_isub _⟩, List.forall_mem_cons.mpr ⟨⟨s_istore d79_192 st1_79_11, tl_istore _ _⟩, List.forall_mem_cons.mpr ⟨⟨s_aload_n d79_194 rfl, tl_aload _ _⟩, List.forall_mem_cons.mpr ⟨⟨q_invV_51 d79_195 wd_257, tl_invV _ _ _ _⟩, List.forall_mem_cons.mpr ⟨⟨s_iload d79_198, tl_iload _ _⟩, List.forall_mem_cons.mpr ⟨⟨s_icne d79_200 rfl, tl_icne _ _⟩, List.forall_mem_cons.mpr ⟨⟨s_aload_n d79_203 rfl, tl_aload _ _⟩, List.forall_mem_cons.mpr ⟨⟨q_invS_75 d79_204 wd_314, tl_invS _ _ _⟩, List.forall_mem_cons.mpr ⟨⟨s_lload d79_207, tl_lload _ _⟩, List.forall_mem_cons.mpr ⟨⟨s_lcmp d79_209, tl_lcmp _⟩, List.forall_mem_cons.mpr ⟨⟨s_ifne d79_210 rfl, tl_ifne _ _⟩, List.forall_mem_cons.mpr ⟨⟨s_aload_n d79_213 rfl, tl_aload _ _⟩, List.forall_mem_cons.mpr ⟨⟨s_iload_n d79_214 rfl, tl_iload _ _⟩, List.forall_mem_cons.mpr ⟨⟨s_iload d79_215, tl_iload _ _⟩, List.forall_mem_cons.mpr ⟨⟨q_invS_76 d79_217 wd_344, tl_invS _ _ _⟩, fun _ h => absurd h List.not_mem_nil⟩⟩⟩⟩⟩⟩⟩⟩⟩⟩⟩⟩⟩⟩⟩⟩⟩⟩⟩⟩⟩⟩⟩⟩⟩⟩⟩⟩⟩⟩⟩⟩⟩⟩⟩⟩⟩⟩⟩⟩
/-- RL.law -/
def t79_3 : List (Nat × pO) := [(220, o_iload 8 222), (222, o_icne 235 225), (225, o_aload 1 226), (226, o_invS 75 1 229), (229, o_lload 9 231), (231, o_lcmp 232), (232, o_ifeq 237 235), (235, o_push (.int (nI 0)) 236), (236, o_zret), (237, o_iload 2 238), (238, o_push (.int (nI 3)) 239), (239, o_irem 240), (240, o_push (.int (nI 2)) 241), (241, o_icne 274 244), (244, o_aload 1 245), (245, o_invS 77 1 248), (248, o_ifeq 272 251), (251, o_aload 1 252), (252, o_iload 4 254), (254, o_push (.int (nI 3)) 255), (255, o_ishr 256), (256, o_aload 1 257), (257, o_push (.int (nI 2)) 258), (258, o_invV 4 48 1 261), (261, o_push (.int (nI 1)) 262), (262, o_iadd 263), (263, o_invS 74 2 266), (266, o_invS 78 2 269), (269, o_ifne 274 272), (272, o_push (.int (nI 0)) 273), (273, o_zret), (274, o_iinc 2 (nI 1) 277), (277, o_goto 39), (280, o_push (.int (nI 1)) 281), (281, o_zret)]
theorem ok79_3 : ∀ q ∈ t79_3, p_Z 79 q := List.forall_mem_cons.mpr ⟨⟨s_iload d79_220, tl_iload _ _⟩, List.forall_mem_cons.mpr ⟨⟨s_icne d79_222 rfl, tl_icne _ _⟩, List.forall_mem_cons.mpr ⟨⟨s_aload_n d79_225 rfl, tl_aload _ _⟩, List.forall_mem_cons.mpr ⟨⟨q_invS_75 d79_226 wd_314, tl_invS _ _ _⟩, List.forall_mem_cons.mpr ⟨⟨s_lload d79_229, tl_lload _ _⟩, List.forall_mem_cons.mpr ⟨⟨s_lcmp d79_231, tl_lcmp _⟩, List.forall_mem_cons.mpr ⟨⟨s_ifeq d79_232 rfl, tl_ifeq _ _⟩, List.forall_mem_cons.mpr ⟨⟨s_iconst d79_235 rfl, tl_push _ _⟩, List.forall_mem_cons.mpr ⟨⟨s_zret d79_236 rfl, tl_zret⟩, List.forall_mem_cons.mpr ⟨⟨s_iload_n d79_237 rfl, tl_iload _ _⟩, List.forall_mem_cons.mpr ⟨⟨s_iconst d79_238 rfl, tl_push _ _⟩, List.forall_mem_cons.mpr ⟨⟨s_irem d79_239, tl_irem _⟩, List.forall_mem_cons.mpr ⟨⟨s_iconst d79_240 rfl, tl_push _ _⟩, List.forall_mem_cons.mpr ⟨⟨s_icne d79_241 rfl, tl_icne _ _⟩, List.forall_mem_cons.mpr ⟨⟨s_aload_n d79_244 rfl, tl_aload _ _⟩, List.forall_mem_cons.mpr ⟨⟨q_invS_77 d79_245 wd_454, tl_invS _ _ _⟩, List.forall_mem_cons.mpr ⟨⟨s_ifeq d79_248 rfl, tl_ifeq _ _⟩, List.forall_mem_cons.mpr ⟨⟨s_aload_n d79_251 rfl, tl_aload _ _⟩, List.forall_mem_cons.mpr ⟨⟨s_iload d79_252, tl_iload _ _⟩, List.forall_mem_cons.mpr ⟨⟨s_iconst d79_254 rfl, tl_push _ _⟩, List.forall_mem_cons.mpr ⟨⟨s_ishr d79_255, tl_ishr _⟩, List.forall_mem_cons.mpr ⟨⟨s_aload_n d79_256 rfl, tl_aload _ _⟩, List.forall_mem_cons.mpr ⟨⟨s_iconst d79_257 rfl, tl_push _ _⟩, List.forall_mem_cons.mpr ⟨⟨q_invV_48 d79_258 wd_186, tl_invV _ _ _ _⟩, List.forall_mem_cons.mpr ⟨⟨s_iconst d79_261 rfl, tl_push _ _⟩, List.forall_mem_cons.mpr ⟨⟨s_iadd d79_262, tl_iadd _⟩, List.forall_mem_cons.mpr ⟨⟨q_invS_74 d79_263 wd_310, tl_invS _ _ _⟩, List.forall_mem_cons.mpr ⟨⟨q_invS_78 d79_266 wd_477, tl_invS _ _ _⟩, List.forall_mem_cons.mpr ⟨⟨s_ifne d79_269 rfl, tl_ifne _ _⟩, List.forall_mem_cons.mpr ⟨⟨s_iconst d79_272 rfl, tl_push _ _⟩, List.forall_mem_cons.mpr ⟨⟨s_zret d79_273 rfl, tl_zret⟩, List.forall_mem_cons.mpr ⟨⟨s_iinc d79_274 rfl st1_79_2, tl_iinc _ _ _⟩, List.forall_mem_cons.mpr ⟨⟨s_goto d79_277 rfl, tl_goto _⟩, List.forall_mem_cons.mpr ⟨⟨s_iconst d79_280 rfl, tl_push _ _⟩, List.forall_mem_cons.mpr ⟨⟨s_zret d79_281 rfl, tl_zret⟩, fun _ h => absurd h List.not_mem_nil⟩⟩⟩⟩⟩⟩⟩⟩⟩⟩⟩⟩⟩⟩⟩⟩⟩⟩⟩⟩⟩⟩⟩⟩⟩⟩⟩⟩⟩⟩⟩⟩⟩⟩⟩
def t79 : List (Nat × pO) := t79_0 ++ (t79_1 ++ (t79_2 ++ (t79_3)))
theorem ok79 : ∀ q ∈ t79, p_Z 79 q := List.forall_mem_append.mpr ⟨ok79_0, List.forall_mem_append.mpr ⟨ok79_1, List.forall_mem_append.mpr ⟨ok79_2, ok79_3⟩⟩⟩
