/-! the constructor of the model; the first state of both -/
def fCa : Nat → Nat → Int32
  | 0 => upd (upd (upd fz 0 (nI 8)) 1 (nI 1)) 2 (nI 3)
  | c + 1 => upd (fCa c) (10 + c) (nM 6)
def mdV (a : Nat) : List Value := [.int (nI 0), .ref (a + 1), .ref (a + 2), .int 0, .ref (a + 3), .ref (a + 4), .ref (a + 5), .int 0, .int 0, .int 0, .ref (a + 6), .int 0, .ref (a + 7), .ref (a + 8), .int 0, .ref (a + 9), .ref (a + 10), .ref (a + 11)]
def mdL (a : Nat) (f : Nat → Int32) : pH := [cO 5 (mdV a), cI 166 f, cI 996 fz, cI 332 fz, .inl (1, 2, fz), cI 80 fz, cI 168 fz, cI 256 fz, cI 16 fz, cI 256 fz, cI 16 fz, cI 5 fz]
section minit
variable {L : Nat} {xs : Nat → Int32} {ρ : pH} {a : Nat}
theorem k_MD (dd : Nat) (hρ : ρ.length = a) (h4 : 4 ≤ a) : p_K (dd + 1) 95 [.ref a] (ρ ++ [cO 5 [.int 0, .null, .null, .int 0, .null, .null, .null, .int 0, .int 0, .int 0, .null, .int 0, .null, .null, .int 0, .null, .null, .null]]) = some (none, ρ ++ mdL a (fCa 12)) := by
  have r1' : ∀ t : pH, p_gR (ρ ++ (cO 5 (mdV a) :: t)) 5 a 1 = some (a + 1) := fun t => yg_gR hρ rfl
  have loop : ∀ (j c : Nat), c + j = 12 → p_Y 95 (p_K dd) 125 [some (.ref a), some (.int (nI c))] [] (ρ ++ mdL a (fCa c)) = some (none, ρ ++ mdL a (fCa 12)) := by
    intro j
    induction j with
    | zero =>
      intro c hcj
      have hc : c = 12 := by omega
      subst hc
      rw [e95_125]
      simp only [R95_125, u_push, u_goto, u_gets, u_iadd, u_isub, u_imul, u_iand, u_ior, u_ixor, u_ishl, u_ishr, u_iushr, u_land, u_lor, u_lcmp, u_lushr, u_lshl, u_i2l, u_l2i, u_dupr, u_dup2i, u_popi, u_idiv, u_irem, u_ifeq, u_iceq, u_ifne, u_icne, u_iflt, u_iclt, u_ifge, u_icge, u_ifgt, u_icgt, u_ifle, u_icle, u_switch, u_iload_0, u_istore_0, u_aload_0, u_astore_0, u_iinc_0, u_iload_1, u_istore_1, u_aload_1, u_astore_1, u_lload_1, u_lstore_1, u_iinc_1, u_iload_2, u_istore_2, u_aload_2, u_astore_2, u_lload_2, u_lstore_2, u_iinc_2, u_iload_3, u_istore_3, u_aload_3, u_astore_3, u_lload_3, u_lstore_3, u_iinc_3, u_iload_4, u_istore_4, u_aload_4, u_astore_4, u_lload_4, u_lstore_4, u_iinc_4, u_iload_5, u_istore_5, u_aload_5, u_astore_5, u_lload_5, u_lstore_5, u_iinc_5, u_iload_6, u_istore_6, u_aload_6, u_astore_6, u_iinc_6, u_iload_7, u_istore_7, u_aload_7, u_astore_7, u_iinc_7, u_iload_8, u_istore_8, u_aload_8, u_astore_8, u_iinc_8, u_iload_9, u_istore_9, u_aload_9, u_astore_9, u_iinc_9, u_iload_10, u_istore_10, u_aload_10, u_astore_10, u_iinc_10, u_iload_11, u_istore_11, u_aload_11, u_astore_11, u_iinc_11, u_iload_12, u_istore_12, u_aload_12, u_astore_12, u_iinc_12, u_iret, u_zret, u_aret, u_vret, u_getI, u_getR, u_putI, u_putZ, u_putR, u_iald, u_zald, u_aald, u_iast, u_zast, u_aast, u_alen, u_newa, u_newq, u_new, u_oinit_0, u_max_0, u_min_0, u_copy_0, u_invV_0_0, u_invI_0_0, u_invV_1_0, u_invI_1_0, u_invS_1_0, u_invV_2_0, u_invS_2_0, u_invV_3_0, u_invS_3_0, u_invV_4_0, u_invS_4_0, u_oinit_1, u_max_1, u_min_1, u_invV_0_1, u_invI_0_1, u_invV_1_1, u_invI_1_1, u_invS_1_1, u_invV_2_1, u_invS_2_1, u_invV_3_1, u_invS_3_1, u_invV_4_1, u_invS_4_1, u_oinit_2, u_max_2, u_min_2, u_invV_0_2, u_invI_0_2, u_invV_1_2, u_invI_1_2, u_invS_1_2, u_invV_2_2, u_invS_2_2, u_invV_3_2, u_invS_3_2, u_invV_4_2, u_invS_4_2, u_oinit_3, u_max_3, u_min_3, u_invV_0_3, u_invI_0_3, u_invV_1_3, u_invI_1_3, u_invS_1_3, u_invV_2_3, u_invS_2_3, u_invV_3_3, u_invS_3_3, u_invV_4_3, u_invS_4_3, u_oinit_4, u_max_4, u_min_4, u_invV_0_4, u_invI_0_4, u_invV_1_4, u_invI_1_4, u_invS_1_4, u_invV_2_4, u_invS_2_4, u_invV_3_4, u_invS_3_4, u_invV_4_4, u_invS_4_4, u_ret1, u_ret0, u_bs, ↓reduceIte, if_true, if_false, Option.toList_none, Option.toList_some, List.nil_append, List.cons_append, true_or, or_true, false_or, or_false, not_true_eq_false, not_false_eq_true, and_true, true_and, and_false, false_and, p_sw, Nat.reduceEqDiff, Nat.reduceLeDiff, Nat.reduceAdd, Nat.reduceSub, Nat.reduceMul, eq_self, Int32.le_refl]
    | succ j ih =>
      intro c hcj
      have hle : ¬ nI 12 ≤ nI c := by rw [aLe (by omega) (by omega)]; omega
      have next := ih (c + 1) (by omega)
      unfold mdL at next ⊢
      rw [e95_125]
      simp only [R95_125, u_push, u_goto, u_gets, u_iadd, u_isub, u_imul, u_iand, u_ior, u_ixor, u_ishl, u_ishr, u_iushr, u_land, u_lor, u_lcmp, u_lushr, u_lshl, u_i2l, u_l2i, u_dupr, u_dup2i, u_popi, u_idiv, u_irem, u_ifeq, u_iceq, u_ifne, u_icne, u_iflt, u_iclt, u_ifge, u_icge, u_ifgt, u_icgt, u_ifle, u_icle, u_switch, u_iload_0, u_istore_0, u_aload_0, u_astore_0, u_iinc_0, u_iload_1, u_istore_1, u_aload_1, u_astore_1, u_lload_1, u_lstore_1, u_iinc_1, u_iload_2, u_istore_2, u_aload_2, u_astore_2, u_lload_2, u_lstore_2, u_iinc_2, u_iload_3, u_istore_3, u_aload_3, u_astore_3, u_lload_3, u_lstore_3, u_iinc_3, u_iload_4, u_istore_4, u_aload_4, u_astore_4, u_lload_4, u_lstore_4, u_iinc_4, u_iload_5, u_istore_5, u_aload_5, u_astore_5, u_lload_5, u_lstore_5, u_iinc_5, u_iload_6, u_istore_6, u_aload_6, u_astore_6, u_iinc_6, u_iload_7, u_istore_7, u_aload_7, u_astore_7, u_iinc_7, u_iload_8, u_istore_8, u_aload_8, u_astore_8, u_iinc_8, u_iload_9, u_istore_9, u_aload_9, u_astore_9, u_iinc_9, u_iload_10, u_istore_10, u_aload_10, u_astore_10, u_iinc_10, u_iload_11, u_istore_11, u_aload_11, u_astore_11, u_iinc_11, u_iload_12, u_istore_12, u_aload_12, u_astore_12, u_iinc_12, u_iret, u_zret, u_aret, u_vret, u_getI, u_getR, u_putI, u_putZ, u_putR, u_iald, u_zald, u_aald, u_iast, u_zast, u_aast, u_alen, u_newa, u_newq, u_new, u_oinit_0, u_max_0, u_min_0, u_copy_0, u_invV_0_0, u_invI_0_0, u_invV_1_0, u_invI_1_0, u_invS_1_0, u_invV_2_0, u_invS_2_0, u_invV_3_0, u_invS_3_0, u_invV_4_0, u_invS_4_0, u_oinit_1, u_max_1, u_min_1, u_invV_0_1, u_invI_0_1, u_invV_1_1, u_invI_1_1, u_invS_1_1, u_invV_2_1, u_invS_2_1, u_invV_3_1, u_invS_3_1, u_invV_4_1, u_invS_4_1, u_oinit_2, u_max_2, u_min_2, u_invV_0_2, u_invI_0_2, u_invV_1_2, u_invI_1_2, u_invS_1_2, u_invV_2_2, u_invS_2_2, u_invV_3_2, u_invS_3_2, u_invV_4_2, u_invS_4_2, u_oinit_3, u_max_3, u_min_3, u_invV_0_3, u_invI_0_3, u_invV_1_3, u_invI_1_3, u_invS_1_3, u_invV_2_3, u_invS_2_3, u_invV_3_3, u_invS_3_3, u_invV_4_3, u_invS_4_3, u_oinit_4, u_max_4, u_min_4, u_invV_0_4, u_invI_0_4, u_invV_1_4, u_invI_1_4, u_invS_1_4, u_invV_2_4, u_invS_2_4, u_invV_3_4, u_invS_3_4, u_invV_4_4, u_invS_4_4, u_ret1, u_ret0, u_bs, ↓reduceIte, if_true, if_false, Option.toList_none, Option.toList_some, List.nil_append, List.cons_append, true_or, or_true, false_or, or_false, not_true_eq_false, not_false_eq_true, and_true, true_and, and_false, false_and, p_sw, Nat.reduceEqDiff, Nat.reduceLeDiff, Nat.reduceAdd, Nat.reduceSub, Nat.reduceMul, eq_self, hle, r1', aAdd, yg_st1 hρ h4 _ (nM 6) (show 10 + c < 166 by omega) (show 166 ≤ 2000 by omega)]
      exact next
  have st := loop 12 0 (by omega)
  have e0 : fCa 0 = upd (upd (upd fz 0 (nI 8)) 1 (nI 1)) 2 (nI 3) := rfl
  unfold mdL at st ⊢
  rw [e0] at st
  unfold mdV at r1' st ⊢
  rw [k95]
  simp only [S95_0, u_push, u_goto, u_gets, u_iadd, u_isub, u_imul, u_iand, u_ior, u_ixor, u_ishl, u_ishr, u_iushr, u_land, u_lor, u_lcmp, u_lushr, u_lshl, u_i2l, u_l2i, u_dupr, u_dup2i, u_popi, u_idiv, u_irem, u_ifeq, u_iceq, u_ifne, u_icne, u_iflt, u_iclt, u_ifge, u_icge, u_ifgt, u_icgt, u_ifle, u_icle, u_switch, u_iload_0, u_istore_0, u_aload_0, u_astore_0, u_iinc_0, u_iload_1, u_istore_1, u_aload_1, u_astore_1, u_lload_1, u_lstore_1, u_iinc_1, u_iload_2, u_istore_2, u_aload_2, u_astore_2, u_lload_2, u_lstore_2, u_iinc_2, u_iload_3, u_istore_3, u_aload_3, u_astore_3, u_lload_3, u_lstore_3, u_iinc_3, u_iload_4, u_istore_4, u_aload_4, u_astore_4, u_lload_4, u_lstore_4, u_iinc_4, u_iload_5, u_istore_5, u_aload_5, u_astore_5, u_lload_5, u_lstore_5, u_iinc_5, u_iload_6, u_istore_6, u_aload_6, u_astore_6, u_iinc_6, u_iload_7, u_istore_7, u_aload_7, u_astore_7, u_iinc_7, u_iload_8, u_istore_8, u_aload_8, u_astore_8, u_iinc_8, u_iload_9, u_istore_9, u_aload_9, u_astore_9, u_iinc_9, u_iload_10, u_istore_10, u_aload_10, u_astore_10, u_iinc_10, u_iload_11, u_istore_11, u_aload_11, u_astore_11, u_iinc_11, u_iload_12, u_istore_12, u_aload_12, u_astore_12, u_iinc_12, u_iret, u_zret, u_aret, u_vret, u_getI, u_getR, u_putI, u_putZ, u_putR, u_iald, u_zald, u_aald, u_iast, u_zast, u_aast, u_alen, u_newa, u_newq, u_new, u_oinit_0, u_max_0, u_min_0, u_copy_0, u_invV_0_0, u_invI_0_0, u_invV_1_0, u_invI_1_0, u_invS_1_0, u_invV_2_0, u_invS_2_0, u_invV_3_0, u_invS_3_0, u_invV_4_0, u_invS_4_0, u_oinit_1, u_max_1, u_min_1, u_invV_0_1, u_invI_0_1, u_invV_1_1, u_invI_1_1, u_invS_1_1, u_invV_2_1, u_invS_2_1, u_invV_3_1, u_invS_3_1, u_invV_4_1, u_invS_4_1, u_oinit_2, u_max_2, u_min_2, u_invV_0_2, u_invI_0_2, u_invV_1_2, u_invI_1_2, u_invS_1_2, u_invV_2_2, u_invS_2_2, u_invV_3_2, u_invS_3_2, u_invV_4_2, u_invS_4_2, u_oinit_3, u_max_3, u_min_3, u_invV_0_3, u_invI_0_3, u_invV_1_3, u_invI_1_3, u_invS_1_3, u_invV_2_3, u_invS_2_3, u_invV_3_3, u_invS_3_3, u_invV_4_3, u_invS_4_3, u_oinit_4, u_max_4, u_min_4, u_invV_0_4, u_invI_0_4, u_invV_1_4, u_invI_1_4, u_invS_1_4, u_invV_2_4, u_invS_2_4, u_invV_3_4, u_invS_3_4, u_invV_4_4, u_invS_4_4, u_ret1, u_ret0, u_bs, ↓reduceIte, if_true, if_false, Option.toList_none, Option.toList_some, List.nil_append, List.cons_append, true_or, or_true, false_or, or_false, not_true_eq_false, not_false_eq_true, and_true, true_and, and_false, false_and, p_sw, Nat.reduceEqDiff, Nat.reduceLeDiff, Nat.reduceAdd, Nat.reduceSub, Nat.reduceMul, eq_self, yn_newa 0 (show 166 ≤ 1000 by omega), yn_newa 0 (show 996 ≤ 1000 by omega), yn_newa 0 (show 332 ≤ 1000 by omega), yn_newa 1 (show 2 ≤ 1000 by omega), yn_newa 0 (show 80 ≤ 1000 by omega), yn_newa 0 (show 168 ≤ 1000 by omega), yn_newa 0 (show 256 ≤ 1000 by omega), yn_newa 0 (show 16 ≤ 1000 by omega), yn_newa 0 (show 5 ≤ 1000 by omega), yp_M_0 hρ, yp_M_1 hρ, yp_M_2 hρ, yp_M_4 hρ, yp_M_5 hρ, yp_M_6 hρ, yp_M_10 hρ, yp_M_12 hρ, yp_M_13 hρ, yp_M_15 hρ, yp_M_16 hρ, yp_M_17 hρ, List.append_assoc, List.length_append, List.length_cons, List.length_nil, Nat.zero_add, hρ, r1', yg_st1 hρ h4 _ (nI 8) (show 0 < 166 by omega) (show 166 ≤ 2000 by omega), yg_st1 hρ h4 _ (nI 1) (show 1 < 166 by omega) (show 166 ≤ 2000 by omega), yg_st1 hρ h4 _ (nI 3) (show 2 < 166 by omega) (show 166 ≤ 2000 by omega)]
  exact st
end minit
/-- what the cells hold behind the two constructors -/
def wS : Nat → Nat → Int32 := fun c => if c = 6 ∨ (18 < c ∧ c < 72 ∧ c % 6 = 1) then fTa 3 else if c = 7 ∨ (18 < c ∧ c < 72 ∧ c % 6 = 2) then fNa 16 else if c = 72 then (fun _ => nI 8) else if c = 73 ∨ c = 75 ∨ c = 76 then fAa 8 else if c = 74 then fBa 8 else if c = 103 then fCa 12 else fz
theorem wS_4 : wS 4 = (fz) := rfl
theorem wS_5 : wS 5 = (fz) := rfl
theorem wS_6 : wS 6 = (fTa 3) := rfl
theorem wS_7 : wS 7 = (fNa 16) := rfl
theorem wS_8 : wS 8 = (fz) := rfl
theorem wS_9 : wS 9 = (fz) := rfl
theorem wS_10 : wS 10 = (fz) := rfl
theorem wS_13 : wS 13 = (fz) := rfl
theorem wS_15 : wS 15 = (fz) := rfl
theorem wS_16 : wS 16 = (fz) := rfl
theorem wS_17 : wS 17 = (fz) := rfl
theorem wS_18 : wS 18 = (fz) := rfl
theorem wS_19 : wS 19 = (fTa 3) := rfl
theorem wS_20 : wS 20 = (fNa 16) := rfl
theorem wS_21 : wS 21 = (fz) := rfl
theorem wS_22 : wS 22 = (fz) := rfl
theorem wS_23 : wS 23 = (fz) := rfl
theorem wS_24 : wS 24 = (fz) := rfl
theorem wS_25 : wS 25 = (fTa 3) := rfl
theorem wS_26 : wS 26 = (fNa 16) := rfl
theorem wS_27 : wS 27 = (fz) := rfl
theorem wS_28 : wS 28 = (fz) := rfl
theorem wS_29 : wS 29 = (fz) := rfl
theorem wS_30 : wS 30 = (fz) := rfl
theorem wS_31 : wS 31 = (fTa 3) := rfl
theorem wS_32 : wS 32 = (fNa 16) := rfl
theorem wS_33 : wS 33 = (fz) := rfl
theorem wS_34 : wS 34 = (fz) := rfl
theorem wS_35 : wS 35 = (fz) := rfl
theorem wS_36 : wS 36 = (fz) := rfl
theorem wS_37 : wS 37 = (fTa 3) := rfl
theorem wS_38 : wS 38 = (fNa 16) := rfl
theorem wS_39 : wS 39 = (fz) := rfl
theorem wS_40 : wS 40 = (fz) := rfl
theorem wS_41 : wS 41 = (fz) := rfl
theorem wS_42 : wS 42 = (fz) := rfl
theorem wS_43 : wS 43 = (fTa 3) := rfl
theorem wS_44 : wS 44 = (fNa 16) := rfl
theorem wS_45 : wS 45 = (fz) := rfl
theorem wS_46 : wS 46 = (fz) := rfl
theorem wS_47 : wS 47 = (fz) := rfl
theorem wS_48 : wS 48 = (fz) := rfl
theorem wS_49 : wS 49 = (fTa 3) := rfl
theorem wS_50 : wS 50 = (fNa 16) := rfl
theorem wS_51 : wS 51 = (fz) := rfl
theorem wS_52 : wS 52 = (fz) := rfl
theorem wS_53 : wS 53 = (fz) := rfl
theorem wS_54 : wS 54 = (fz) := rfl
theorem wS_55 : wS 55 = (fTa 3) := rfl
theorem wS_56 : wS 56 = (fNa 16) := rfl
theorem wS_57 : wS 57 = (fz) := rfl
theorem wS_58 : wS 58 = (fz) := rfl
theorem wS_59 : wS 59 = (fz) := rfl
theorem wS_60 : wS 60 = (fz) := rfl
theorem wS_61 : wS 61 = (fTa 3) := rfl
theorem wS_62 : wS 62 = (fNa 16) := rfl
theorem wS_63 : wS 63 = (fz) := rfl
theorem wS_64 : wS 64 = (fz) := rfl
theorem wS_65 : wS 65 = (fz) := rfl
theorem wS_66 : wS 66 = (fz) := rfl
theorem wS_67 : wS 67 = (fTa 3) := rfl
theorem wS_68 : wS 68 = (fNa 16) := rfl
theorem wS_69 : wS 69 = (fz) := rfl
theorem wS_70 : wS 70 = (fz) := rfl
theorem wS_71 : wS 71 = (fz) := rfl
theorem wS_72 : wS 72 = (fun _ => nI 8) := rfl
theorem wS_73 : wS 73 = (fAa 8) := rfl
theorem wS_74 : wS 74 = (fBa 8) := rfl
theorem wS_75 : wS 75 = (fAa 8) := rfl
theorem wS_76 : wS 76 = (fAa 8) := rfl
theorem wS_77 : wS 77 = (fz) := rfl
theorem wS_78 : wS 78 = (fz) := rfl
theorem wS_79 : wS 79 = (fz) := rfl
theorem wS_80 : wS 80 = (fz) := rfl
theorem wS_81 : wS 81 = (fz) := rfl
theorem wS_82 : wS 82 = (fz) := rfl
theorem wS_83 : wS 83 = (fz) := rfl
theorem wS_84 : wS 84 = (fz) := rfl
theorem wS_85 : wS 85 = (fz) := rfl
theorem wS_86 : wS 86 = (fz) := rfl
theorem wS_87 : wS 87 = (fz) := rfl
theorem wS_88 : wS 88 = (fz) := rfl
theorem wS_89 : wS 89 = (fz) := rfl
theorem wS_90 : wS 90 = (fz) := rfl
theorem wS_91 : wS 91 = (fz) := rfl
theorem wS_92 : wS 92 = (fz) := rfl
theorem wS_93 : wS 93 = (fz) := rfl
theorem wS_94 : wS 94 = (fz) := rfl
theorem wS_95 : wS 95 = (fz) := rfl
theorem wS_96 : wS 96 = (fz) := rfl
theorem wS_97 : wS 97 = (fz) := rfl
theorem wS_98 : wS 98 = (fz) := rfl
theorem wS_99 : wS 99 = (fz) := rfl
theorem wS_100 : wS 100 = (fz) := rfl
theorem wS_101 : wS 101 = (fz) := rfl
theorem wS_102 : wS 102 = (fz) := rfl
theorem wS_103 : wS 103 = (fCa 12) := rfl
theorem wS_104 : wS 104 = (fz) := rfl
theorem wS_105 : wS 105 = (fz) := rfl
theorem wS_106 : wS 106 = (fz) := rfl
theorem wS_107 : wS 107 = (fz) := rfl
theorem wS_108 : wS 108 = (fz) := rfl
theorem wS_109 : wS 109 = (fz) := rfl
theorem wS_110 : wS 110 = (fz) := rfl
theorem wS_111 : wS 111 = (fz) := rfl
theorem wS_112 : wS 112 = (fz) := rfl
theorem wS_113 : wS 113 = (fz) := rfl
theorem r1_hp (L : Nat) (xs : Nat → Int32) : r1a L xs ++ mdL 102 (fCa 12) = hp L xs wS hH0 := by
  unfold hp
  simp only [wS_4, wS_5, wS_6, wS_7, wS_8, wS_9, wS_10, wS_13, wS_15, wS_16, wS_17, wS_18, wS_19, wS_20, wS_21, wS_22, wS_23, wS_24, wS_25, wS_26, wS_27, wS_28, wS_29, wS_30, wS_31, wS_32, wS_33, wS_34, wS_35, wS_36, wS_37, wS_38, wS_39, wS_40, wS_41, wS_42, wS_43, wS_44, wS_45, wS_46, wS_47, wS_48, wS_49, wS_50, wS_51, wS_52, wS_53, wS_54, wS_55, wS_56, wS_57, wS_58, wS_59, wS_60, wS_61, wS_62, wS_63, wS_64, wS_65, wS_66, wS_67, wS_68, wS_69, wS_70, wS_71, wS_72, wS_73, wS_74, wS_75, wS_76, wS_77, wS_78, wS_79, wS_80, wS_81, wS_82, wS_83, wS_84, wS_85, wS_86, wS_87, wS_88, wS_89, wS_90, wS_91, wS_92, wS_93, wS_94, wS_95, wS_96, wS_97, wS_98, wS_99, wS_100, wS_101, wS_102, wS_103, wS_104, wS_105, wS_106, wS_107, wS_108, wS_109, wS_110, wS_111, wS_112, wS_113]
  rfl
theorem r1_len (L : Nat) (xs : Nat → Int32) : (r1a L xs).length = 102 := rfl
theorem fN_k : ∀ k s, s < k → fNa k s = nM 6
  | 0, s, h => absurd h (Nat.not_lt_zero s)
  | k + 1, s, h => by
    show upd (fNa k) k (nM 6) s = nM 6
    by_cases z : s = k
    · rw [z, upd_s]
    · rw [upd_n _ _ z]
      exact fN_k k s (by omega)
theorem fA_k : ∀ k s, s < k → fAa k s = nI s
  | 0, s, h => absurd h (Nat.not_lt_zero s)
  | k + 1, s, h => by
    show upd (fAa k) k (nI k) s = nI s
    by_cases z : s = k
    · rw [z, upd_s]
    · rw [upd_n _ _ z]
      exact fA_k k s (by omega)
theorem fB_k : ∀ k s, s ≤ k → fBa k s = nI s
  | 0, s, h => by
    rw [show s = 0 by omega]
    rfl
  | k + 1, s, h => by
    show upd (fBa k) (k + 1) (nI (k + 1)) s = nI s
    by_cases z : s = k + 1
    · rw [z, upd_s]
    · rw [upd_n _ _ z]
      exact fB_k k s (by omega)
theorem fC_lo : ∀ k j, j < 10 → fCa k j = fCa 0 j
  | 0, j, h => rfl
  | k + 1, j, h => by
    show upd (fCa k) (10 + k) (nM 6) j = _
    rw [upd_n _ _ (by omega)]
    exact fC_lo k j h
theorem fC_hi : ∀ k j, k ≤ 12 → 22 ≤ j → fCa k j = nI 0
  | 0, j, h, h2 => by
    show upd (upd (upd fz 0 (nI 8)) 1 (nI 1)) 2 (nI 3) j = nI 0
    rw [upd_n _ _ (by omega), upd_n _ _ (by omega), upd_n _ _ (by omega)]
    rfl
  | k + 1, j, h, h2 => by
    show upd (fCa k) (10 + k) (nM 6) j = _
    rw [upd_n _ _ (by omega)]
    exact fC_hi k j (by omega) h2
theorem fC_k : ∀ k c, c < k → fCa k (10 + c) = nM 6
  | 0, c, h => absurd h (Nat.not_lt_zero c)
  | k + 1, c, h => by
    show upd (fCa k) (10 + k) (nM 6) (10 + c) = nM 6
    by_cases z : c = k
    · rw [z, upd_s]
    · rw [upd_n _ _ (by omega)]
      exact fC_k k c (by omega)
def b0a : Bn := mB 8 1 3 0 0 (fun _ => 0) (fun _ => none) (fun _ => none) (fun _ _ => nI 0)
def S0a : Ob := mO b0a 0 (fun _ => b0a) (fun _ => none) 0 (fun _ => 0)
theorem V0a : BVB b0a := ⟨⟨show 2 ≤ 8 by omega, show 8 ≤ 16 by omega, show 1 ≤ 5 by omega, show 3 ≤ 9 by omega, show 0 ≤ 12 by omega, show 0 ≤ 5 by omega⟩, fun s c => ⟨fun q => absurd (show (none : Option Nat) = some c from q) (by simp), fun q => absurd (show (none : Option Nat) = some s from q) (by simp)⟩, fun s c q => absurd (show (none : Option Nat) = some c from q) (by simp), fun c o => Or.inr (Or.inl rfl), fun c o => rfl, fun c o _ => rfl, fun k hk => absurd hk (Nat.not_lt_zero k)⟩
theorem hH0_i {i : Nat} (hi : i < 7) : hH0 i = some (18 + 6 * i) := by
  rcases (show i = 0 ∨ i = 1 ∨ i = 2 ∨ i = 3 ∨ i = 4 ∨ i = 5 ∨ i = 6 by omega) with rfl | rfl | rfl | rfl | rfl | rfl | rfl <;> rfl
theorem OI_first : OI wS hH0 S0a := by
  have z8 : ∀ c i : Nat, bt (fz c) i = false := fun c i => bt_0 i
  refine ⟨⟨V0a, ⟨⟨rfl, rfl, rfl⟩, fun s hs => fN_k 16 s hs, fun c hc => ⟨fun i hi => ?_, fun i hi => ?_⟩, fun k hk => absurd hk (Nat.not_lt_zero k), rfl, rfl⟩, fun f hf => ?_, fun f hf => ?_⟩, ⟨rfl, show 0 ≤ 6 by omega, ⟨fun i hi => ⟨18 + 6 * i, hH0_i hi, i, hi, rfl⟩, fun i j x hi hj h1 h2 => ?_⟩, fun i hi => absurd hi (Nat.not_lt_zero i)⟩, fun j hj => ⟨fun _ => ?_, fun B hB => absurd (show (none : Option Bn) = some B from hB) (by simp)⟩, ⟨⟨rfl, show 0 ≤ 80 by omega⟩, fun i hi => absurd hi (Nat.not_lt_zero i), fun i hi => absurd hi (Nat.not_lt_zero i)⟩⟩
  · show bt (wS 8 c) i = (decide (i < 12) && decide (nI 0 = nI 1))
    rw [wS_8, z8, decide_eq_false (show ¬ nI 0 = nI 1 by decide), Bool.and_false]
  · show bt (wS 9 c) i = (decide (i < 12) && decide (nI 0 = nM 1))
    rw [wS_9, z8, decide_eq_false (show ¬ nI 0 = nM 1 by decide), Bool.and_false]
  · have hf0 : f = 0 := by
      have : f ≤ 0 := hf
      omega
    subst hf0
    have s1 : ∀ c, sTo (fun _ => 1) c = c := sTo_one
    refine ⟨rfl, rfl, fun c hc => ?_, fun c k hck => ?_⟩
    · show wS 74 c = nI (sTo (fun _ => 1) c)
      rw [s1, wS_74]
      exact fB_k 8 c hc
    · show wS 73 (sTo (fun _ => 1) c + k) = nI c ∧ wS 75 c = nI c ∧ wS 76 c = nI (sTo (fun _ => 1) c + k)
      have hck' : c < 8 ∧ k < 1 := by
        rcases hck with ⟨q1, q2⟩ | ⟨q1, q2⟩
        · exact ⟨q1, q2⟩
        · exact absurd q2 (Nat.not_lt_zero k)
      have hk0 : k = 0 := by omega
      subst hk0
      rw [s1, wS_73, wS_75, wS_76, Nat.add_zero, fA_k 8 c hck'.1]
      exact ⟨rfl, rfl, rfl⟩
  · rcases (show f = 0 ∨ f = 1 ∨ f = 2 ∨ f = 3 ∨ f = 4 ∨ f = 5 by omega) with rfl | rfl | rfl | rfl | rfl | rfl <;> rfl
  · rw [hH0_i hi] at h1
    rw [hH0_i hj] at h2
    have e1 := Option.some.inj h1
    have e2 := Option.some.inj h2
    omega
  · show wS 13 j = nI 0
    rw [wS_13]
    rfl
theorem MI_first : MI wS S0a := by
  refine ⟨⟨V0a, ⟨?_, ?_, ?_, rfl, rfl⟩, fun k hk => absurd hk (Nat.not_lt_zero k), fun c hc => ?_, fun c o hc ho => ?_⟩, ⟨rfl, show 0 ≤ 6 by omega, fun j hj => absurd hj (Nat.not_lt_zero j)⟩, fun j hj => ⟨fun _ => ?_, fun B hB => absurd (show (none : Option Bn) = some B from hB) (by simp)⟩, ⟨⟨rfl, show 0 ≤ 80 by omega⟩, fun i hi => absurd hi (Nat.not_lt_zero i), fun i hi => absurd hi (Nat.not_lt_zero i)⟩⟩
  · rw [wS_103, fC_lo 12 0 (by omega)]
    rfl
  · rw [wS_103, fC_lo 12 1 (by omega)]
    rfl
  · rw [wS_103, fC_lo 12 2 (by omega)]
    rfl
  · rw [wS_103]
    exact fC_k 12 c hc
  · rw [wS_103]
    exact fC_hi 12 _ (Nat.le_refl _) (by omega)
  · rw [wS_106]
    rfl
