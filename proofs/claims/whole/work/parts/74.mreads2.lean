/-! the model: an order, and the whole text, read -/
def kdB (c : Nat) : Bool := decide (c = 99 ∨ c = 115 ∨ c = 117 ∨ c = 120 ∨ c = 102 ∨ c = 111)
section mreads2
variable {L : Nat} {xs : Nat → Int32} {wa w : Nat → Nat → Int32} {h : Nat → Option Nat} {P : Nat → Nat} {len : Nat}
theorem ro_head (dd : Nat) (hP : MP w P len) {n i : Nat} (hi : i < 1000) (h8 : w 102 8 = nI i) (h11 : w 102 11 = nI n) : p_K (dd + 3) 155 [.ref 102] (hp L xs w h) = p_Y 155 (p_K (dd + 2)) 74 [some (.ref 102), some (.int (nI (4 * n))), some (.int (nI (ch P len i)))] [.int (bI (kdB (ch P len i))), .int (nI i), .ref 102] (hp L xs (mUp w 102 9 (bI (kdB (ch P len i)))) h) := by
  have hc2 : ch P len i ≤ 126 := ch_lt hP.2.2
  have x1 := m_letter (L := L) (xs := xs) (h := h) (dd + 1) hP hi h8
  have e8 : ∀ x : Int32, mUp w 102 9 x 102 8 = nI i := fun x => (mUp_n _ _ _ (by omega)).trans h8
  have e9 : ∀ x : Int32, mUp w 102 9 x 102 9 = x := fun x => mUp_s _ _ _ _
  rw [k155]
  by_cases q : ch P len i = 99 ∨ ch P len i = 115 ∨ ch P len i = 117 ∨ ch P len i = 120 ∨ ch P len i = 102 ∨ ch P len i = 111
  · rw [show kdB (ch P len i) = true from decide_eq_true q, bI_t]
    rcases q with z | z | z | z | z | z <;> rw [z] at x1 ⊢ <;> simp (decide := true) only [S155_0, S155_49, S155_54, u_push, u_goto, u_gets, u_iadd, u_isub, u_imul, u_iand, u_ior, u_ixor, u_ishl, u_ishr, u_iushr, u_land, u_lor, u_lcmp, u_lushr, u_lshl, u_i2l, u_l2i, u_dupr, u_dup2i, u_popi, u_idiv, u_irem, u_ifeq, u_iceq, u_ifne, u_icne, u_iflt, u_iclt, u_ifge, u_icge, u_ifgt, u_icgt, u_ifle, u_icle, u_switch, u_iload_0, u_istore_0, u_aload_0, u_astore_0, u_iinc_0, u_iload_1, u_istore_1, u_aload_1, u_astore_1, u_lload_1, u_lstore_1, u_iinc_1, u_iload_2, u_istore_2, u_aload_2, u_astore_2, u_lload_2, u_lstore_2, u_iinc_2, u_iload_3, u_istore_3, u_aload_3, u_astore_3, u_lload_3, u_lstore_3, u_iinc_3, u_iload_4, u_istore_4, u_aload_4, u_astore_4, u_lload_4, u_lstore_4, u_iinc_4, u_iload_5, u_istore_5, u_aload_5, u_astore_5, u_lload_5, u_lstore_5, u_iinc_5, u_iload_6, u_istore_6, u_aload_6, u_astore_6, u_iinc_6, u_iload_7, u_istore_7, u_aload_7, u_astore_7, u_iinc_7, u_iload_8, u_istore_8, u_aload_8, u_astore_8, u_iinc_8, u_iload_9, u_istore_9, u_aload_9, u_astore_9, u_iinc_9, u_iload_10, u_istore_10, u_aload_10, u_astore_10, u_iinc_10, u_iload_11, u_istore_11, u_aload_11, u_astore_11, u_iinc_11, u_iload_12, u_istore_12, u_aload_12, u_astore_12, u_iinc_12, u_iret, u_zret, u_aret, u_vret, u_getI, u_getR, u_putI, u_putZ, u_putR, u_iald, u_zald, u_aald, u_iast, u_zast, u_aast, u_alen, u_newa, u_newq, u_new, u_oinit_0, u_max_0, u_min_0, u_copy_0, u_invV_0_0, u_invI_0_0, u_invV_1_0, u_invI_1_0, u_invS_1_0, u_invV_2_0, u_invS_2_0, u_invV_3_0, u_invS_3_0, u_invV_4_0, u_invS_4_0, u_oinit_1, u_max_1, u_min_1, u_invV_0_1, u_invI_0_1, u_invV_1_1, u_invI_1_1, u_invS_1_1, u_invV_2_1, u_invS_2_1, u_invV_3_1, u_invS_3_1, u_invV_4_1, u_invS_4_1, u_oinit_2, u_max_2, u_min_2, u_invV_0_2, u_invI_0_2, u_invV_1_2, u_invI_1_2, u_invS_1_2, u_invV_2_2, u_invS_2_2, u_invV_3_2, u_invS_3_2, u_invV_4_2, u_invS_4_2, u_oinit_3, u_max_3, u_min_3, u_invV_0_3, u_invI_0_3, u_invV_1_3, u_invI_1_3, u_invS_1_3, u_invV_2_3, u_invS_2_3, u_invV_3_3, u_invS_3_3, u_invV_4_3, u_invS_4_3, u_oinit_4, u_max_4, u_min_4, u_invV_0_4, u_invI_0_4, u_invV_1_4, u_invI_1_4, u_invS_1_4, u_invV_2_4, u_invS_2_4, u_invV_3_4, u_invS_3_4, u_invV_4_4, u_invS_4_4, u_ret1, u_ret0, u_bs, ↓reduceIte, if_true, if_false, Option.toList_none, Option.toList_some, List.nil_append, List.cons_append, true_or, or_true, false_or, or_false, not_true_eq_false, not_false_eq_true, and_true, true_and, and_false, false_and, p_sw, Nat.reduceEqDiff, Nat.reduceLeDiff, Nat.reduceAdd, Nat.reduceSub, Nat.reduceMul, eq_self, rv_4, gR_4_0, gR_4_1, gI_4_2, gR_4_3, gR_4_4, gR_4_5, gR_4_6, gR_4_7, rv_5, gR_5_0, gR_5_1, gR_5_2, gR_5_3, gR_5_4, gI_5_5, gI_5_6, rv_15, gR_15_0, gI_15_1, gI_15_2, gI_15_3, gI_15_4, gI_15_5, rv_16, gR_16_0, gI_16_1, rv_18, gR_18_0, gR_18_1, gR_18_2, gR_18_3, gR_18_4, gI_18_5, gI_18_6, rv_24, gR_24_0, gR_24_1, gR_24_2, gR_24_3, gR_24_4, gI_24_5, gI_24_6, rv_30, gR_30_0, gR_30_1, gR_30_2, gR_30_3, gR_30_4, gI_30_5, gI_30_6, rv_36, gR_36_0, gR_36_1, gR_36_2, gR_36_3, gR_36_4, gI_36_5, gI_36_6, rv_42, gR_42_0, gR_42_1, gR_42_2, gR_42_3, gR_42_4, gI_42_5, gI_42_6, rv_48, gR_48_0, gR_48_1, gR_48_2, gR_48_3, gR_48_4, gI_48_5, gI_48_6, rv_54, gR_54_0, gR_54_1, gR_54_2, gR_54_3, gR_54_4, gI_54_5, gI_54_6, rv_60, gR_60_0, gR_60_1, gR_60_2, gR_60_3, gR_60_4, gI_60_5, gI_60_6, rv_66, gR_66_0, gR_66_1, gR_66_2, gR_66_3, gR_66_4, gI_66_5, gI_66_6, rv_72, gI_72_0, gI_72_1, gR_72_2, gR_72_3, gR_72_4, gR_72_5, rv_77, gI_77_0, gI_77_1, gR_77_2, gR_77_3, gR_77_4, gR_77_5, rv_82, gI_82_0, gI_82_1, gR_82_2, gR_82_3, gR_82_4, gR_82_5, rv_87, gI_87_0, gI_87_1, gR_87_2, gR_87_3, gR_87_4, gR_87_5, rv_92, gI_92_0, gI_92_1, gR_92_2, gR_92_3, gR_92_4, gR_92_5, rv_97, gI_97_0, gI_97_1, gR_97_2, gR_97_3, gR_97_4, gR_97_5, rv_102, gI_102_0, gR_102_1, gR_102_2, gI_102_3, gR_102_4, gR_102_5, gR_102_6, gI_102_7, gI_102_8, gI_102_9, gR_102_10, gI_102_11, gR_102_12, gR_102_13, gI_102_14, gR_102_15, gR_102_16, gR_102_17, h11, aMul, x1, pt_102_9, e8, e9]
  · rw [show kdB (ch P len i) = false from decide_eq_false q, bI_f]
    have c1 : ¬ nI (ch P len i) = nI 99 := by rw [aEq (by omega) (by omega)]; omega
    have c2 : ¬ nI (ch P len i) = nI 115 := by rw [aEq (by omega) (by omega)]; omega
    have c3 : ¬ nI (ch P len i) = nI 117 := by rw [aEq (by omega) (by omega)]; omega
    have c4 : ¬ nI (ch P len i) = nI 120 := by rw [aEq (by omega) (by omega)]; omega
    have c5 : ¬ nI (ch P len i) = nI 102 := by rw [aEq (by omega) (by omega)]; omega
    have c6 : ¬ nI (ch P len i) = nI 111 := by rw [aEq (by omega) (by omega)]; omega
    simp only [S155_0, S155_49, S155_54, u_push, u_goto, u_gets, u_iadd, u_isub, u_imul, u_iand, u_ior, u_ixor, u_ishl, u_ishr, u_iushr, u_land, u_lor, u_lcmp, u_lushr, u_lshl, u_i2l, u_l2i, u_dupr, u_dup2i, u_popi, u_idiv, u_irem, u_ifeq, u_iceq, u_ifne, u_icne, u_iflt, u_iclt, u_ifge, u_icge, u_ifgt, u_icgt, u_ifle, u_icle, u_switch, u_iload_0, u_istore_0, u_aload_0, u_astore_0, u_iinc_0, u_iload_1, u_istore_1, u_aload_1, u_astore_1, u_lload_1, u_lstore_1, u_iinc_1, u_iload_2, u_istore_2, u_aload_2, u_astore_2, u_lload_2, u_lstore_2, u_iinc_2, u_iload_3, u_istore_3, u_aload_3, u_astore_3, u_lload_3, u_lstore_3, u_iinc_3, u_iload_4, u_istore_4, u_aload_4, u_astore_4, u_lload_4, u_lstore_4, u_iinc_4, u_iload_5, u_istore_5, u_aload_5, u_astore_5, u_lload_5, u_lstore_5, u_iinc_5, u_iload_6, u_istore_6, u_aload_6, u_astore_6, u_iinc_6, u_iload_7, u_istore_7, u_aload_7, u_astore_7, u_iinc_7, u_iload_8, u_istore_8, u_aload_8, u_astore_8, u_iinc_8, u_iload_9, u_istore_9, u_aload_9, u_astore_9, u_iinc_9, u_iload_10, u_istore_10, u_aload_10, u_astore_10, u_iinc_10, u_iload_11, u_istore_11, u_aload_11, u_astore_11, u_iinc_11, u_iload_12, u_istore_12, u_aload_12, u_astore_12, u_iinc_12, u_iret, u_zret, u_aret, u_vret, u_getI, u_getR, u_putI, u_putZ, u_putR, u_iald, u_zald, u_aald, u_iast, u_zast, u_aast, u_alen, u_newa, u_newq, u_new, u_oinit_0, u_max_0, u_min_0, u_copy_0, u_invV_0_0, u_invI_0_0, u_invV_1_0, u_invI_1_0, u_invS_1_0, u_invV_2_0, u_invS_2_0, u_invV_3_0, u_invS_3_0, u_invV_4_0, u_invS_4_0, u_oinit_1, u_max_1, u_min_1, u_invV_0_1, u_invI_0_1, u_invV_1_1, u_invI_1_1, u_invS_1_1, u_invV_2_1, u_invS_2_1, u_invV_3_1, u_invS_3_1, u_invV_4_1, u_invS_4_1, u_oinit_2, u_max_2, u_min_2, u_invV_0_2, u_invI_0_2, u_invV_1_2, u_invI_1_2, u_invS_1_2, u_invV_2_2, u_invS_2_2, u_invV_3_2, u_invS_3_2, u_invV_4_2, u_invS_4_2, u_oinit_3, u_max_3, u_min_3, u_invV_0_3, u_invI_0_3, u_invV_1_3, u_invI_1_3, u_invS_1_3, u_invV_2_3, u_invS_2_3, u_invV_3_3, u_invS_3_3, u_invV_4_3, u_invS_4_3, u_oinit_4, u_max_4, u_min_4, u_invV_0_4, u_invI_0_4, u_invV_1_4, u_invI_1_4, u_invS_1_4, u_invV_2_4, u_invS_2_4, u_invV_3_4, u_invS_3_4, u_invV_4_4, u_invS_4_4, u_ret1, u_ret0, u_bs, ↓reduceIte, if_true, if_false, Option.toList_none, Option.toList_some, List.nil_append, List.cons_append, true_or, or_true, false_or, or_false, not_true_eq_false, not_false_eq_true, and_true, true_and, and_false, false_and, p_sw, Nat.reduceEqDiff, Nat.reduceLeDiff, Nat.reduceAdd, Nat.reduceSub, Nat.reduceMul, eq_self, rv_4, gR_4_0, gR_4_1, gI_4_2, gR_4_3, gR_4_4, gR_4_5, gR_4_6, gR_4_7, rv_5, gR_5_0, gR_5_1, gR_5_2, gR_5_3, gR_5_4, gI_5_5, gI_5_6, rv_15, gR_15_0, gI_15_1, gI_15_2, gI_15_3, gI_15_4, gI_15_5, rv_16, gR_16_0, gI_16_1, rv_18, gR_18_0, gR_18_1, gR_18_2, gR_18_3, gR_18_4, gI_18_5, gI_18_6, rv_24, gR_24_0, gR_24_1, gR_24_2, gR_24_3, gR_24_4, gI_24_5, gI_24_6, rv_30, gR_30_0, gR_30_1, gR_30_2, gR_30_3, gR_30_4, gI_30_5, gI_30_6, rv_36, gR_36_0, gR_36_1, gR_36_2, gR_36_3, gR_36_4, gI_36_5, gI_36_6, rv_42, gR_42_0, gR_42_1, gR_42_2, gR_42_3, gR_42_4, gI_42_5, gI_42_6, rv_48, gR_48_0, gR_48_1, gR_48_2, gR_48_3, gR_48_4, gI_48_5, gI_48_6, rv_54, gR_54_0, gR_54_1, gR_54_2, gR_54_3, gR_54_4, gI_54_5, gI_54_6, rv_60, gR_60_0, gR_60_1, gR_60_2, gR_60_3, gR_60_4, gI_60_5, gI_60_6, rv_66, gR_66_0, gR_66_1, gR_66_2, gR_66_3, gR_66_4, gI_66_5, gI_66_6, rv_72, gI_72_0, gI_72_1, gR_72_2, gR_72_3, gR_72_4, gR_72_5, rv_77, gI_77_0, gI_77_1, gR_77_2, gR_77_3, gR_77_4, gR_77_5, rv_82, gI_82_0, gI_82_1, gR_82_2, gR_82_3, gR_82_4, gR_82_5, rv_87, gI_87_0, gI_87_1, gR_87_2, gR_87_3, gR_87_4, gR_87_5, rv_92, gI_92_0, gI_92_1, gR_92_2, gR_92_3, gR_92_4, gR_92_5, rv_97, gI_97_0, gI_97_1, gR_97_2, gR_97_3, gR_97_4, gR_97_5, rv_102, gI_102_0, gR_102_1, gR_102_2, gI_102_3, gR_102_4, gR_102_5, gR_102_6, gI_102_7, gI_102_8, gI_102_9, gR_102_10, gI_102_11, gR_102_12, gR_102_13, gI_102_14, gR_102_15, gR_102_16, gR_102_17, h11, aMul, x1, c1, c2, c3, c4, c5, c6, pt_102_9, e8, e9]
/-- behind the sign: it is stored -/
abbrev z2 (w : Nat → Nat → Int32) (n i c : Nat) (a : Bool) : Nat → Nat → Int32 := mUp (mUp (mUp w 102 9 (bI a)) 102 8 (nI (if a = true then i + 1 else i))) 108 (4 * n) (nI c)
theorem ST_z2 {n i : Nat} (c : Nat) (a : Bool) (h11 : w 102 11 = nI n) : ST w (z2 w n i c a) n a (if a = true then i + 1 else i) c := by
  refine ⟨⟨?_, ?_⟩, ?_, frO_t (frO_9 _ _) (frO_t (frO_8 _ _) (frO_108 _ _ _)), fun j hj => ?_, mUp_s _ _ _ _⟩
  · unfold z2
    rw [mUp_o _ _ _ (by omega)]
    exact (mUp_n _ _ _ (by omega)).trans (mUp_s _ _ _ _)
  · unfold z2
    rw [mUp_o _ _ _ (by omega)]
    exact mUp_s _ _ _ _
  · unfold z2
    rw [mUp_o _ _ _ (by omega)]
    exact (mUp_n _ _ _ (by omega)).trans ((mUp_n _ _ _ (by omega)).trans h11)
  · refine (mUp_n _ _ _ (by omega)).trans ?_
    rw [mUp_o _ _ _ (by omega), mUp_o _ _ _ (by omega)]
theorem ro_74a (dd : Nat) {n i c : Nat} (hn : n ≤ 40) (hc : c = 99 ∨ c = 111) : p_Y 155 (p_K (dd + 2)) 74 [some (.ref 102), some (.int (nI (4 * n))), some (.int (nI c))] [.int (bI true), .int (nI i), .ref 102] (hp L xs (mUp w 102 9 (bI true)) h) = p_Y 155 (p_K (dd + 2)) 112 [some (.ref 102), some (.int (nI (4 * n))), some (.int (nI c))] [.int (nI 0), .int (nI (4 * n + 1)), .ref 108] (hp L xs (z2 w n i c true) h) := by
  have s := st_108 L xs (mUp (mUp w 102 9 (nI 1)) 102 8 (nI (i + 1))) h (4 * n) (nI c) (by omega)
  unfold z2
  rw [bI_t, if_pos rfl]
  rcases hc with z | z
  · rw [z] at s ⊢
    simp only [S155_74, S155_104, u_push, u_goto, u_gets, u_iadd, u_isub, u_imul, u_iand, u_ior, u_ixor, u_ishl, u_ishr, u_iushr, u_land, u_lor, u_lcmp, u_lushr, u_lshl, u_i2l, u_l2i, u_dupr, u_dup2i, u_popi, u_idiv, u_irem, u_ifeq, u_iceq, u_ifne, u_icne, u_iflt, u_iclt, u_ifge, u_icge, u_ifgt, u_icgt, u_ifle, u_icle, u_switch, u_iload_0, u_istore_0, u_aload_0, u_astore_0, u_iinc_0, u_iload_1, u_istore_1, u_aload_1, u_astore_1, u_lload_1, u_lstore_1, u_iinc_1, u_iload_2, u_istore_2, u_aload_2, u_astore_2, u_lload_2, u_lstore_2, u_iinc_2, u_iload_3, u_istore_3, u_aload_3, u_astore_3, u_lload_3, u_lstore_3, u_iinc_3, u_iload_4, u_istore_4, u_aload_4, u_astore_4, u_lload_4, u_lstore_4, u_iinc_4, u_iload_5, u_istore_5, u_aload_5, u_astore_5, u_lload_5, u_lstore_5, u_iinc_5, u_iload_6, u_istore_6, u_aload_6, u_astore_6, u_iinc_6, u_iload_7, u_istore_7, u_aload_7, u_astore_7, u_iinc_7, u_iload_8, u_istore_8, u_aload_8, u_astore_8, u_iinc_8, u_iload_9, u_istore_9, u_aload_9, u_astore_9, u_iinc_9, u_iload_10, u_istore_10, u_aload_10, u_astore_10, u_iinc_10, u_iload_11, u_istore_11, u_aload_11, u_astore_11, u_iinc_11, u_iload_12, u_istore_12, u_aload_12, u_astore_12, u_iinc_12, u_iret, u_zret, u_aret, u_vret, u_getI, u_getR, u_putI, u_putZ, u_putR, u_iald, u_zald, u_aald, u_iast, u_zast, u_aast, u_alen, u_newa, u_newq, u_new, u_oinit_0, u_max_0, u_min_0, u_copy_0, u_invV_0_0, u_invI_0_0, u_invV_1_0, u_invI_1_0, u_invS_1_0, u_invV_2_0, u_invS_2_0, u_invV_3_0, u_invS_3_0, u_invV_4_0, u_invS_4_0, u_oinit_1, u_max_1, u_min_1, u_invV_0_1, u_invI_0_1, u_invV_1_1, u_invI_1_1, u_invS_1_1, u_invV_2_1, u_invS_2_1, u_invV_3_1, u_invS_3_1, u_invV_4_1, u_invS_4_1, u_oinit_2, u_max_2, u_min_2, u_invV_0_2, u_invI_0_2, u_invV_1_2, u_invI_1_2, u_invS_1_2, u_invV_2_2, u_invS_2_2, u_invV_3_2, u_invS_3_2, u_invV_4_2, u_invS_4_2, u_oinit_3, u_max_3, u_min_3, u_invV_0_3, u_invI_0_3, u_invV_1_3, u_invI_1_3, u_invS_1_3, u_invV_2_3, u_invS_2_3, u_invV_3_3, u_invS_3_3, u_invV_4_3, u_invS_4_3, u_oinit_4, u_max_4, u_min_4, u_invV_0_4, u_invI_0_4, u_invV_1_4, u_invI_1_4, u_invS_1_4, u_invV_2_4, u_invS_2_4, u_invV_3_4, u_invS_3_4, u_invV_4_4, u_invS_4_4, u_ret1, u_ret0, u_bs, ↓reduceIte, if_true, if_false, Option.toList_none, Option.toList_some, List.nil_append, List.cons_append, true_or, or_true, false_or, or_false, not_true_eq_false, not_false_eq_true, and_true, true_and, and_false, false_and, p_sw, Nat.reduceEqDiff, Nat.reduceLeDiff, Nat.reduceAdd, Nat.reduceSub, Nat.reduceMul, eq_self, rv_4, gR_4_0, gR_4_1, gI_4_2, gR_4_3, gR_4_4, gR_4_5, gR_4_6, gR_4_7, rv_5, gR_5_0, gR_5_1, gR_5_2, gR_5_3, gR_5_4, gI_5_5, gI_5_6, rv_15, gR_15_0, gI_15_1, gI_15_2, gI_15_3, gI_15_4, gI_15_5, rv_16, gR_16_0, gI_16_1, rv_18, gR_18_0, gR_18_1, gR_18_2, gR_18_3, gR_18_4, gI_18_5, gI_18_6, rv_24, gR_24_0, gR_24_1, gR_24_2, gR_24_3, gR_24_4, gI_24_5, gI_24_6, rv_30, gR_30_0, gR_30_1, gR_30_2, gR_30_3, gR_30_4, gI_30_5, gI_30_6, rv_36, gR_36_0, gR_36_1, gR_36_2, gR_36_3, gR_36_4, gI_36_5, gI_36_6, rv_42, gR_42_0, gR_42_1, gR_42_2, gR_42_3, gR_42_4, gI_42_5, gI_42_6, rv_48, gR_48_0, gR_48_1, gR_48_2, gR_48_3, gR_48_4, gI_48_5, gI_48_6, rv_54, gR_54_0, gR_54_1, gR_54_2, gR_54_3, gR_54_4, gI_54_5, gI_54_6, rv_60, gR_60_0, gR_60_1, gR_60_2, gR_60_3, gR_60_4, gI_60_5, gI_60_6, rv_66, gR_66_0, gR_66_1, gR_66_2, gR_66_3, gR_66_4, gI_66_5, gI_66_6, rv_72, gI_72_0, gI_72_1, gR_72_2, gR_72_3, gR_72_4, gR_72_5, rv_77, gI_77_0, gI_77_1, gR_77_2, gR_77_3, gR_77_4, gR_77_5, rv_82, gI_82_0, gI_82_1, gR_82_2, gR_82_3, gR_82_4, gR_82_5, rv_87, gI_87_0, gI_87_1, gR_87_2, gR_87_3, gR_87_4, gR_87_5, rv_92, gI_92_0, gI_92_1, gR_92_2, gR_92_3, gR_92_4, gR_92_5, rv_97, gI_97_0, gI_97_1, gR_97_2, gR_97_3, gR_97_4, gR_97_5, rv_102, gI_102_0, gR_102_1, gR_102_2, gI_102_3, gR_102_4, gR_102_5, gR_102_6, gI_102_7, gI_102_8, gI_102_9, gR_102_10, gI_102_11, gR_102_12, gR_102_13, gI_102_14, gR_102_15, gR_102_16, gR_102_17, aAdd, pt_102_8, s]
  · rw [z] at s ⊢
    simp only [S155_74, S155_104, u_push, u_goto, u_gets, u_iadd, u_isub, u_imul, u_iand, u_ior, u_ixor, u_ishl, u_ishr, u_iushr, u_land, u_lor, u_lcmp, u_lushr, u_lshl, u_i2l, u_l2i, u_dupr, u_dup2i, u_popi, u_idiv, u_irem, u_ifeq, u_iceq, u_ifne, u_icne, u_iflt, u_iclt, u_ifge, u_icge, u_ifgt, u_icgt, u_ifle, u_icle, u_switch, u_iload_0, u_istore_0, u_aload_0, u_astore_0, u_iinc_0, u_iload_1, u_istore_1, u_aload_1, u_astore_1, u_lload_1, u_lstore_1, u_iinc_1, u_iload_2, u_istore_2, u_aload_2, u_astore_2, u_lload_2, u_lstore_2, u_iinc_2, u_iload_3, u_istore_3, u_aload_3, u_astore_3, u_lload_3, u_lstore_3, u_iinc_3, u_iload_4, u_istore_4, u_aload_4, u_astore_4, u_lload_4, u_lstore_4, u_iinc_4, u_iload_5, u_istore_5, u_aload_5, u_astore_5, u_lload_5, u_lstore_5, u_iinc_5, u_iload_6, u_istore_6, u_aload_6, u_astore_6, u_iinc_6, u_iload_7, u_istore_7, u_aload_7, u_astore_7, u_iinc_7, u_iload_8, u_istore_8, u_aload_8, u_astore_8, u_iinc_8, u_iload_9, u_istore_9, u_aload_9, u_astore_9, u_iinc_9, u_iload_10, u_istore_10, u_aload_10, u_astore_10, u_iinc_10, u_iload_11, u_istore_11, u_aload_11, u_astore_11, u_iinc_11, u_iload_12, u_istore_12, u_aload_12, u_astore_12, u_iinc_12, u_iret, u_zret, u_aret, u_vret, u_getI, u_getR, u_putI, u_putZ, u_putR, u_iald, u_zald, u_aald, u_iast, u_zast, u_aast, u_alen, u_newa, u_newq, u_new, u_oinit_0, u_max_0, u_min_0, u_copy_0, u_invV_0_0, u_invI_0_0, u_invV_1_0, u_invI_1_0, u_invS_1_0, u_invV_2_0, u_invS_2_0, u_invV_3_0, u_invS_3_0, u_invV_4_0, u_invS_4_0, u_oinit_1, u_max_1, u_min_1, u_invV_0_1, u_invI_0_1, u_invV_1_1, u_invI_1_1, u_invS_1_1, u_invV_2_1, u_invS_2_1, u_invV_3_1, u_invS_3_1, u_invV_4_1, u_invS_4_1, u_oinit_2, u_max_2, u_min_2, u_invV_0_2, u_invI_0_2, u_invV_1_2, u_invI_1_2, u_invS_1_2, u_invV_2_2, u_invS_2_2, u_invV_3_2, u_invS_3_2, u_invV_4_2, u_invS_4_2, u_oinit_3, u_max_3, u_min_3, u_invV_0_3, u_invI_0_3, u_invV_1_3, u_invI_1_3, u_invS_1_3, u_invV_2_3, u_invS_2_3, u_invV_3_3, u_invS_3_3, u_invV_4_3, u_invS_4_3, u_oinit_4, u_max_4, u_min_4, u_invV_0_4, u_invI_0_4, u_invV_1_4, u_invI_1_4, u_invS_1_4, u_invV_2_4, u_invS_2_4, u_invV_3_4, u_invS_3_4, u_invV_4_4, u_invS_4_4, u_ret1, u_ret0, u_bs, ↓reduceIte, if_true, if_false, Option.toList_none, Option.toList_some, List.nil_append, List.cons_append, true_or, or_true, false_or, or_false, not_true_eq_false, not_false_eq_true, and_true, true_and, and_false, false_and, p_sw, Nat.reduceEqDiff, Nat.reduceLeDiff, Nat.reduceAdd, Nat.reduceSub, Nat.reduceMul, eq_self, rv_4, gR_4_0, gR_4_1, gI_4_2, gR_4_3, gR_4_4, gR_4_5, gR_4_6, gR_4_7, rv_5, gR_5_0, gR_5_1, gR_5_2, gR_5_3, gR_5_4, gI_5_5, gI_5_6, rv_15, gR_15_0, gI_15_1, gI_15_2, gI_15_3, gI_15_4, gI_15_5, rv_16, gR_16_0, gI_16_1, rv_18, gR_18_0, gR_18_1, gR_18_2, gR_18_3, gR_18_4, gI_18_5, gI_18_6, rv_24, gR_24_0, gR_24_1, gR_24_2, gR_24_3, gR_24_4, gI_24_5, gI_24_6, rv_30, gR_30_0, gR_30_1, gR_30_2, gR_30_3, gR_30_4, gI_30_5, gI_30_6, rv_36, gR_36_0, gR_36_1, gR_36_2, gR_36_3, gR_36_4, gI_36_5, gI_36_6, rv_42, gR_42_0, gR_42_1, gR_42_2, gR_42_3, gR_42_4, gI_42_5, gI_42_6, rv_48, gR_48_0, gR_48_1, gR_48_2, gR_48_3, gR_48_4, gI_48_5, gI_48_6, rv_54, gR_54_0, gR_54_1, gR_54_2, gR_54_3, gR_54_4, gI_54_5, gI_54_6, rv_60, gR_60_0, gR_60_1, gR_60_2, gR_60_3, gR_60_4, gI_60_5, gI_60_6, rv_66, gR_66_0, gR_66_1, gR_66_2, gR_66_3, gR_66_4, gI_66_5, gI_66_6, rv_72, gI_72_0, gI_72_1, gR_72_2, gR_72_3, gR_72_4, gR_72_5, rv_77, gI_77_0, gI_77_1, gR_77_2, gR_77_3, gR_77_4, gR_77_5, rv_82, gI_82_0, gI_82_1, gR_82_2, gR_82_3, gR_82_4, gR_82_5, rv_87, gI_87_0, gI_87_1, gR_87_2, gR_87_3, gR_87_4, gR_87_5, rv_92, gI_92_0, gI_92_1, gR_92_2, gR_92_3, gR_92_4, gR_92_5, rv_97, gI_97_0, gI_97_1, gR_97_2, gR_97_3, gR_97_4, gR_97_5, rv_102, gI_102_0, gR_102_1, gR_102_2, gI_102_3, gR_102_4, gR_102_5, gR_102_6, gI_102_7, gI_102_8, gI_102_9, gR_102_10, gI_102_11, gR_102_12, gR_102_13, gI_102_14, gR_102_15, gR_102_16, gR_102_17, aAdd, pt_102_8, s, show ¬ nI 111 = nI 99 by decide]
theorem ro_74b (dd : Nat) {n i c : Nat} {a : Bool} (hn : n ≤ 40) (hc : ¬ (c = 99 ∨ c = 111)) (hc2 : c ≤ 126) {x : Int32} {w' : Nat → Nat → Int32} (x2 : p_K (dd + 2) 154 [.ref 102] (hp L xs (z2 w n i c a) h) = some (some (.int x), hp L xs w' h)) : p_Y 155 (p_K (dd + 2)) 74 [some (.ref 102), some (.int (nI (4 * n))), some (.int (nI c))] [.int (bI a), .int (nI i), .ref 102] (hp L xs (mUp w 102 9 (bI a)) h) = p_Y 155 (p_K (dd + 2)) 112 [some (.ref 102), some (.int (nI (4 * n))), some (.int (nI c))] [.int x, .int (nI (4 * n + 1)), .ref 108] (hp L xs w' h) := by
  have c1 : ¬ nI c = nI 99 := by rw [aEq (by omega) (by omega)]; omega
  have c2 : ¬ nI c = nI 111 := by rw [aEq (by omega) (by omega)]; omega
  cases a with
  | true =>
    have s := st_108 L xs (mUp (mUp w 102 9 (nI 1)) 102 8 (nI (i + 1))) h (4 * n) (nI c) (by omega)
    unfold z2 at x2
    rw [bI_t, if_pos rfl] at x2
    rw [bI_t]
    simp only [S155_74, S155_104, u_push, u_goto, u_gets, u_iadd, u_isub, u_imul, u_iand, u_ior, u_ixor, u_ishl, u_ishr, u_iushr, u_land, u_lor, u_lcmp, u_lushr, u_lshl, u_i2l, u_l2i, u_dupr, u_dup2i, u_popi, u_idiv, u_irem, u_ifeq, u_iceq, u_ifne, u_icne, u_iflt, u_iclt, u_ifge, u_icge, u_ifgt, u_icgt, u_ifle, u_icle, u_switch, u_iload_0, u_istore_0, u_aload_0, u_astore_0, u_iinc_0, u_iload_1, u_istore_1, u_aload_1, u_astore_1, u_lload_1, u_lstore_1, u_iinc_1, u_iload_2, u_istore_2, u_aload_2, u_astore_2, u_lload_2, u_lstore_2, u_iinc_2, u_iload_3, u_istore_3, u_aload_3, u_astore_3, u_lload_3, u_lstore_3, u_iinc_3, u_iload_4, u_istore_4, u_aload_4, u_astore_4, u_lload_4, u_lstore_4, u_iinc_4, u_iload_5, u_istore_5, u_aload_5, u_astore_5, u_lload_5, u_lstore_5, u_iinc_5, u_iload_6, u_istore_6, u_aload_6, u_astore_6, u_iinc_6, u_iload_7, u_istore_7, u_aload_7, u_astore_7, u_iinc_7, u_iload_8, u_istore_8, u_aload_8, u_astore_8, u_iinc_8, u_iload_9, u_istore_9, u_aload_9, u_astore_9, u_iinc_9, u_iload_10, u_istore_10, u_aload_10, u_astore_10, u_iinc_10, u_iload_11, u_istore_11, u_aload_11, u_astore_11, u_iinc_11, u_iload_12, u_istore_12, u_aload_12, u_astore_12, u_iinc_12, u_iret, u_zret, u_aret, u_vret, u_getI, u_getR, u_putI, u_putZ, u_putR, u_iald, u_zald, u_aald, u_iast, u_zast, u_aast, u_alen, u_newa, u_newq, u_new, u_oinit_0, u_max_0, u_min_0, u_copy_0, u_invV_0_0, u_invI_0_0, u_invV_1_0, u_invI_1_0, u_invS_1_0, u_invV_2_0, u_invS_2_0, u_invV_3_0, u_invS_3_0, u_invV_4_0, u_invS_4_0, u_oinit_1, u_max_1, u_min_1, u_invV_0_1, u_invI_0_1, u_invV_1_1, u_invI_1_1, u_invS_1_1, u_invV_2_1, u_invS_2_1, u_invV_3_1, u_invS_3_1, u_invV_4_1, u_invS_4_1, u_oinit_2, u_max_2, u_min_2, u_invV_0_2, u_invI_0_2, u_invV_1_2, u_invI_1_2, u_invS_1_2, u_invV_2_2, u_invS_2_2, u_invV_3_2, u_invS_3_2, u_invV_4_2, u_invS_4_2, u_oinit_3, u_max_3, u_min_3, u_invV_0_3, u_invI_0_3, u_invV_1_3, u_invI_1_3, u_invS_1_3, u_invV_2_3, u_invS_2_3, u_invV_3_3, u_invS_3_3, u_invV_4_3, u_invS_4_3, u_oinit_4, u_max_4, u_min_4, u_invV_0_4, u_invI_0_4, u_invV_1_4, u_invI_1_4, u_invS_1_4, u_invV_2_4, u_invS_2_4, u_invV_3_4, u_invS_3_4, u_invV_4_4, u_invS_4_4, u_ret1, u_ret0, u_bs, ↓reduceIte, if_true, if_false, Option.toList_none, Option.toList_some, List.nil_append, List.cons_append, true_or, or_true, false_or, or_false, not_true_eq_false, not_false_eq_true, and_true, true_and, and_false, false_and, p_sw, Nat.reduceEqDiff, Nat.reduceLeDiff, Nat.reduceAdd, Nat.reduceSub, Nat.reduceMul, eq_self, rv_4, gR_4_0, gR_4_1, gI_4_2, gR_4_3, gR_4_4, gR_4_5, gR_4_6, gR_4_7, rv_5, gR_5_0, gR_5_1, gR_5_2, gR_5_3, gR_5_4, gI_5_5, gI_5_6, rv_15, gR_15_0, gI_15_1, gI_15_2, gI_15_3, gI_15_4, gI_15_5, rv_16, gR_16_0, gI_16_1, rv_18, gR_18_0, gR_18_1, gR_18_2, gR_18_3, gR_18_4, gI_18_5, gI_18_6, rv_24, gR_24_0, gR_24_1, gR_24_2, gR_24_3, gR_24_4, gI_24_5, gI_24_6, rv_30, gR_30_0, gR_30_1, gR_30_2, gR_30_3, gR_30_4, gI_30_5, gI_30_6, rv_36, gR_36_0, gR_36_1, gR_36_2, gR_36_3, gR_36_4, gI_36_5, gI_36_6, rv_42, gR_42_0, gR_42_1, gR_42_2, gR_42_3, gR_42_4, gI_42_5, gI_42_6, rv_48, gR_48_0, gR_48_1, gR_48_2, gR_48_3, gR_48_4, gI_48_5, gI_48_6, rv_54, gR_54_0, gR_54_1, gR_54_2, gR_54_3, gR_54_4, gI_54_5, gI_54_6, rv_60, gR_60_0, gR_60_1, gR_60_2, gR_60_3, gR_60_4, gI_60_5, gI_60_6, rv_66, gR_66_0, gR_66_1, gR_66_2, gR_66_3, gR_66_4, gI_66_5, gI_66_6, rv_72, gI_72_0, gI_72_1, gR_72_2, gR_72_3, gR_72_4, gR_72_5, rv_77, gI_77_0, gI_77_1, gR_77_2, gR_77_3, gR_77_4, gR_77_5, rv_82, gI_82_0, gI_82_1, gR_82_2, gR_82_3, gR_82_4, gR_82_5, rv_87, gI_87_0, gI_87_1, gR_87_2, gR_87_3, gR_87_4, gR_87_5, rv_92, gI_92_0, gI_92_1, gR_92_2, gR_92_3, gR_92_4, gR_92_5, rv_97, gI_97_0, gI_97_1, gR_97_2, gR_97_3, gR_97_4, gR_97_5, rv_102, gI_102_0, gR_102_1, gR_102_2, gI_102_3, gR_102_4, gR_102_5, gR_102_6, gI_102_7, gI_102_8, gI_102_9, gR_102_10, gI_102_11, gR_102_12, gR_102_13, gI_102_14, gR_102_15, gR_102_16, gR_102_17, aAdd, pt_102_8, s, c1, c2, x2]
  | false =>
    have s := st_108 L xs (mUp (mUp w 102 9 (nI 0)) 102 8 (nI i)) h (4 * n) (nI c) (by omega)
    unfold z2 at x2
    rw [bI_f, if_neg (by simp)] at x2
    rw [bI_f]
    simp only [S155_74, S155_104, u_push, u_goto, u_gets, u_iadd, u_isub, u_imul, u_iand, u_ior, u_ixor, u_ishl, u_ishr, u_iushr, u_land, u_lor, u_lcmp, u_lushr, u_lshl, u_i2l, u_l2i, u_dupr, u_dup2i, u_popi, u_idiv, u_irem, u_ifeq, u_iceq, u_ifne, u_icne, u_iflt, u_iclt, u_ifge, u_icge, u_ifgt, u_icgt, u_ifle, u_icle, u_switch, u_iload_0, u_istore_0, u_aload_0, u_astore_0, u_iinc_0, u_iload_1, u_istore_1, u_aload_1, u_astore_1, u_lload_1, u_lstore_1, u_iinc_1, u_iload_2, u_istore_2, u_aload_2, u_astore_2, u_lload_2, u_lstore_2, u_iinc_2, u_iload_3, u_istore_3, u_aload_3, u_astore_3, u_lload_3, u_lstore_3, u_iinc_3, u_iload_4, u_istore_4, u_aload_4, u_astore_4, u_lload_4, u_lstore_4, u_iinc_4, u_iload_5, u_istore_5, u_aload_5, u_astore_5, u_lload_5, u_lstore_5, u_iinc_5, u_iload_6, u_istore_6, u_aload_6, u_astore_6, u_iinc_6, u_iload_7, u_istore_7, u_aload_7, u_astore_7, u_iinc_7, u_iload_8, u_istore_8, u_aload_8, u_astore_8, u_iinc_8, u_iload_9, u_istore_9, u_aload_9, u_astore_9, u_iinc_9, u_iload_10, u_istore_10, u_aload_10, u_astore_10, u_iinc_10, u_iload_11, u_istore_11, u_aload_11, u_astore_11, u_iinc_11, u_iload_12, u_istore_12, u_aload_12, u_astore_12, u_iinc_12, u_iret, u_zret, u_aret, u_vret, u_getI, u_getR, u_putI, u_putZ, u_putR, u_iald, u_zald, u_aald, u_iast, u_zast, u_aast, u_alen, u_newa, u_newq, u_new, u_oinit_0, u_max_0, u_min_0, u_copy_0, u_invV_0_0, u_invI_0_0, u_invV_1_0, u_invI_1_0, u_invS_1_0, u_invV_2_0, u_invS_2_0, u_invV_3_0, u_invS_3_0, u_invV_4_0, u_invS_4_0, u_oinit_1, u_max_1, u_min_1, u_invV_0_1, u_invI_0_1, u_invV_1_1, u_invI_1_1, u_invS_1_1, u_invV_2_1, u_invS_2_1, u_invV_3_1, u_invS_3_1, u_invV_4_1, u_invS_4_1, u_oinit_2, u_max_2, u_min_2, u_invV_0_2, u_invI_0_2, u_invV_1_2, u_invI_1_2, u_invS_1_2, u_invV_2_2, u_invS_2_2, u_invV_3_2, u_invS_3_2, u_invV_4_2, u_invS_4_2, u_oinit_3, u_max_3, u_min_3, u_invV_0_3, u_invI_0_3, u_invV_1_3, u_invI_1_3, u_invS_1_3, u_invV_2_3, u_invS_2_3, u_invV_3_3, u_invS_3_3, u_invV_4_3, u_invS_4_3, u_oinit_4, u_max_4, u_min_4, u_invV_0_4, u_invI_0_4, u_invV_1_4, u_invI_1_4, u_invS_1_4, u_invV_2_4, u_invS_2_4, u_invV_3_4, u_invS_3_4, u_invV_4_4, u_invS_4_4, u_ret1, u_ret0, u_bs, ↓reduceIte, if_true, if_false, Option.toList_none, Option.toList_some, List.nil_append, List.cons_append, true_or, or_true, false_or, or_false, not_true_eq_false, not_false_eq_true, and_true, true_and, and_false, false_and, p_sw, Nat.reduceEqDiff, Nat.reduceLeDiff, Nat.reduceAdd, Nat.reduceSub, Nat.reduceMul, eq_self, rv_4, gR_4_0, gR_4_1, gI_4_2, gR_4_3, gR_4_4, gR_4_5, gR_4_6, gR_4_7, rv_5, gR_5_0, gR_5_1, gR_5_2, gR_5_3, gR_5_4, gI_5_5, gI_5_6, rv_15, gR_15_0, gI_15_1, gI_15_2, gI_15_3, gI_15_4, gI_15_5, rv_16, gR_16_0, gI_16_1, rv_18, gR_18_0, gR_18_1, gR_18_2, gR_18_3, gR_18_4, gI_18_5, gI_18_6, rv_24, gR_24_0, gR_24_1, gR_24_2, gR_24_3, gR_24_4, gI_24_5, gI_24_6, rv_30, gR_30_0, gR_30_1, gR_30_2, gR_30_3, gR_30_4, gI_30_5, gI_30_6, rv_36, gR_36_0, gR_36_1, gR_36_2, gR_36_3, gR_36_4, gI_36_5, gI_36_6, rv_42, gR_42_0, gR_42_1, gR_42_2, gR_42_3, gR_42_4, gI_42_5, gI_42_6, rv_48, gR_48_0, gR_48_1, gR_48_2, gR_48_3, gR_48_4, gI_48_5, gI_48_6, rv_54, gR_54_0, gR_54_1, gR_54_2, gR_54_3, gR_54_4, gI_54_5, gI_54_6, rv_60, gR_60_0, gR_60_1, gR_60_2, gR_60_3, gR_60_4, gI_60_5, gI_60_6, rv_66, gR_66_0, gR_66_1, gR_66_2, gR_66_3, gR_66_4, gI_66_5, gI_66_6, rv_72, gI_72_0, gI_72_1, gR_72_2, gR_72_3, gR_72_4, gR_72_5, rv_77, gI_77_0, gI_77_1, gR_77_2, gR_77_3, gR_77_4, gR_77_5, rv_82, gI_82_0, gI_82_1, gR_82_2, gR_82_3, gR_82_4, gR_82_5, rv_87, gI_87_0, gI_87_1, gR_87_2, gR_87_3, gR_87_4, gR_87_5, rv_92, gI_92_0, gI_92_1, gR_92_2, gR_92_3, gR_92_4, gR_92_5, rv_97, gI_97_0, gI_97_1, gR_97_2, gR_97_3, gR_97_4, gR_97_5, rv_102, gI_102_0, gR_102_1, gR_102_2, gI_102_3, gR_102_4, gR_102_5, gR_102_6, gI_102_7, gI_102_8, gI_102_9, gR_102_10, gI_102_11, gR_102_12, gR_102_13, gI_102_14, gR_102_15, gR_102_16, gR_102_17, aAdd, Nat.add_zero, pt_102_8, s, c1, c2, x2]
/-- the end of reading an order that takes no second number -/
theorem ro_fin (dd : Nat) {n c : Nat} (hn : n ≤ 40) (hc : c ≤ 126) (h1 : c ≠ 115) (h2 : c ≠ 120) {o : Bool × (Nat × oR)} (hS : ST wa w n o.1 o.2.1 c) (x : Int32) (hx : o.1 = true → nI c = nI o.2.2.1 ∧ x = nI o.2.2.2.1 ∧ nI 0 = nI o.2.2.2.2.1 ∧ nI 0 = o.2.2.2.2.2) : ∃ w', p_Y 155 (p_K (dd + 2)) 112 [some (.ref 102), some (.int (nI (4 * n))), some (.int (nI c))] [.int x, .int (nI (4 * n + 1)), .ref 108] (hp L xs w h) = some (none, hp L xs w' h) ∧ FZ wa w' n o := by
  obtain ⟨S1, e1, e2, e3⟩ := ST_z3 hS x
  obtain ⟨w', x1, F1⟩ := ro_172 (L := L) (xs := xs) (h := h) dd hc S1 (fun z => by
    obtain ⟨y1, y2, y3, y4⟩ := hx z
    exact ⟨h2, S1.2.2.2.2.trans y1, e1.trans y2, e2.trans y3, e3.trans y4⟩)
  refine ⟨w', ?_, F1⟩
  rw [ro_112 dd hn hc x, if_neg (by rintro (z | z); exact h1 z; exact h2 z)]
  exact x1
theorem m_readsOrder (dd : Nat) (hP : MP w P len) {n i : Nat} (hn : n ≤ 40) (hi : i ≤ len) (h8 : w 102 8 = nI i) (h11 : w 102 11 = nI n) : ∃ w', p_K (dd + 3) 155 [.ref 102] (hp L xs w h) = some (none, hp L xs w' h) ∧ FZ w w' n (ord P len i) := by
  have hl80 := hP.1.2
  have hc2 : ch P len i ≤ 126 := ch_lt hP.2.2
  have hd := ro_head (L := L) (xs := xs) (h := h) dd hP (show i < 1000 by omega) h8 h11
  obtain ⟨c, ec⟩ : ∃ c, c = ch P len i := ⟨_, rfl⟩
  rw [← ec] at hd hc2
  have S2 := fun a => ST_z2 (w := w) (n := n) (i := i) c a h11
  by_cases s1 : c = 99 ∨ c = 111
  · have ek : kdB c = true := decide_eq_true (by omega)
    rw [ek, ro_74a dd hn s1] at hd
    have eo : ord P len i = (true, (i + 1, (c, (0, (0, nI 0))))) := by
      unfold ord
      rw [← ec, if_pos s1]
    rw [eo]
    have St := S2 true
    rw [if_pos rfl] at St
    obtain ⟨w', x1, F1⟩ := ro_fin (L := L) (xs := xs) (h := h) dd hn hc2 (by omega) (by omega) (o := (true, (i + 1, (c, (0, (0, nI 0)))))) St (nI 0) (fun _ => ⟨rfl, rfl, rfl, rfl⟩)
    exact ⟨w', hd.trans x1, F1⟩
  · by_cases s2 : c = 117 ∨ c = 102
    · have ek : kdB c = true := decide_eq_true (by omega)
      rw [ek] at hd
      have St := S2 true
      rw [if_pos rfl] at St
      cases hb : nb P len (i + 1) with
      | none =>
        have eo : ord P len i = (false, (i + 1, (c, (0, (0, nI 0))))) := by
          unfold ord
          rw [← ec, if_neg s1, if_pos s2, hb]
        rw [eo]
        obtain ⟨w2, x, x2, R2, f2, g2, k2⟩ := m_number_n (L := L) (xs := xs) (h := h) dd (MP_O hP St.2.2.1) (show i + 1 < 1000 by omega) St.1 (fun _ => nb_none hb)
        rw [ro_74b dd hn s1 hc2 x2] at hd
        obtain ⟨w', x1, F1⟩ := ro_fin (L := L) (xs := xs) (h := h) dd hn hc2 (by omega) (by omega) (o := (false, (i + 1, (c, (0, (0, nI 0)))))) (ST_num St R2 f2 g2 k2) x (fun z => by cases z)
        exact ⟨w', hd.trans x1, F1⟩
      | some vq =>
        obtain ⟨v, q⟩ := vq
        have eo : ord P len i = (true, (q, (c, (v, (0, nI 0))))) := by
          unfold ord
          rw [← ec, if_neg s1, if_pos s2, hb]
        rw [eo]
        obtain ⟨w2, x2, R2, f2, g2, k2⟩ := m_number_s (L := L) (xs := xs) (h := h) dd (MP_O hP St.2.2.1) (show i + 1 < 1000 by omega) St.1 hb
        rw [ro_74b dd hn s1 hc2 x2] at hd
        obtain ⟨w', x1, F1⟩ := ro_fin (L := L) (xs := xs) (h := h) dd hn hc2 (by omega) (by omega) (o := (true, (q, (c, (v, (0, nI 0)))))) (ST_num St R2 f2 g2 k2) (nI v) (fun _ => ⟨rfl, rfl, rfl, rfl⟩)
        exact ⟨w', hd.trans x1, F1⟩
    · by_cases s3 : c = 115 ∨ c = 120
      · have ek : kdB c = true := decide_eq_true (by omega)
        rw [ek] at hd
        have St := S2 true
        rw [if_pos rfl] at St
        cases hb : nb P len (i + 1) with
        | none =>
          have eo : ord P len i = (false, (i + 1, (c, (0, (0, nI 0))))) := by
            unfold ord
            rw [← ec, if_neg s1, if_neg s2]
            rcases s3 with z | z
            · rw [if_pos z, hb]
            · rw [if_neg (by omega), if_pos z, hb]
          rw [eo]
          obtain ⟨w2, x, x2, R2, f2, g2, k2⟩ := m_number_n (L := L) (xs := xs) (h := h) dd (MP_O hP St.2.2.1) (show i + 1 < 1000 by omega) St.1 (fun _ => nb_none hb)
          rw [ro_74b dd hn s1 hc2 x2, ro_112 dd hn hc2 x, if_pos s3] at hd
          obtain ⟨S3, -, -, -⟩ := ST_z3 (ST_num St R2 f2 g2 k2) x
          obtain ⟨w3, b, j, x3, S4, -, -, y1, -⟩ := ro_143 (L := L) (xs := xs) (h := h) dd hP hn s3 (show i + 1 < 900 by omega) S3
          obtain ⟨rfl, rfl⟩ := y1 rfl
          obtain ⟨w', x4, F4⟩ := ro_172 (L := L) (xs := xs) (h := h) dd hc2 (o := (false, (i + 1, (c, (0, (0, nI 0)))))) S4 (fun z => by cases z)
          exact ⟨w', hd.trans (x3.trans x4), F4⟩
        | some vq =>
          obtain ⟨v, q⟩ := vq
          obtain ⟨b1, b2, b3⟩ := nb_99 hb
          obtain ⟨w2, x2, R2, f2, g2, k2⟩ := m_number_s (L := L) (xs := xs) (h := h) dd (MP_O hP St.2.2.1) (show i + 1 < 1000 by omega) St.1 hb
          rw [ro_74b dd hn s1 hc2 x2, ro_112 dd hn hc2 (nI v), if_pos s3] at hd
          obtain ⟨S3, e1, e2, e3⟩ := ST_z3 (ST_num St R2 f2 g2 k2) (nI v)
          obtain ⟨w3, b, j, x3, S4, u1, u3, -, y2, y3, y4⟩ := ro_143 (L := L) (xs := xs) (h := h) dd hP hn s3 (show q < 900 by omega) S3
          by_cases q4 : ch P len q = sgn c
          · cases hb2 : nb P len (q + 1) with
            | none =>
              have eo : ord P len i = (false, (q + 1, (c, (v, (0, nI 0))))) := by
                unfold ord
                rw [← ec, if_neg s1, if_neg s2]
                rcases s3 with z | z
                · rw [z] at q4
                  have q5 : ch P len q = 64 := q4
                  rw [if_pos z, hb]
                  simp only [q5, if_true, hb2]
                · rw [z] at q4
                  have q5 : ch P len q = 126 := q4
                  rw [if_neg (by omega), if_pos z, hb]
                  simp only [q5, if_true, hb2]
              rw [eo]
              obtain ⟨rfl, rfl⟩ := y3 rfl q4 hb2
              obtain ⟨w', x4, F4⟩ := ro_172 (L := L) (xs := xs) (h := h) dd hc2 (o := (false, (q + 1, (c, (v, (0, nI 0)))))) S4 (fun z => by cases z)
              exact ⟨w', hd.trans (x3.trans x4), F4⟩
            | some ut =>
              obtain ⟨u, t⟩ := ut
              obtain ⟨d1, d2, d3⟩ := nb_99 hb2
              obtain ⟨rfl, rfl, u2⟩ := y4 u t rfl q4 hb2
              rcases s3 with z | z
              · rw [z] at q4
                have q5 : ch P len q = 64 := q4
                have eo : ord P len i = (true, (j, (c, (v, (u, nI 0))))) := by
                  unfold ord
                  rw [← ec, if_neg s1, if_neg s2, if_pos z, hb]
                  simp only [q5, if_true, hb2]
                rw [eo]
                obtain ⟨w', x4, F4⟩ := ro_172 (L := L) (xs := xs) (h := h) dd hc2 (o := (true, (j, (c, (v, (u, nI 0)))))) S4 (fun _ => ⟨by omega, S4.2.2.2.2, u1.trans e1, u2, u3.trans e3⟩)
                exact ⟨w', hd.trans (x3.trans x4), F4⟩
              · have q4' := q4
                rw [z] at q4'
                have q5 : ch P len q = 126 := q4'
                have eo : ord P len i = (if ch P len j = 43 then (true, (j + 1, (120, (v, (u, nI 1))))) else if ch P len j = 45 then (true, (j + 1, (120, (v, (u, nM 1))))) else (true, (j, (120, (v, (u, nI 0)))))) := by
                  unfold ord
                  rw [← ec, if_neg s1, if_neg s2, if_neg (by omega), if_pos z, hb]
                  simp only [q5, if_true, hb2, z]
                rw [eo]
                rw [z] at S4 x3 hd
                obtain ⟨w', x4, F4⟩ := ro_172x (L := L) (xs := xs) (h := h) dd hP hn (show j < 1000 by omega) S4 (u1.trans e1) u2 (u3.trans e3)
                exact ⟨w', hd.trans (x3.trans x4), F4⟩
          · have eo : ord P len i = (false, (q, (c, (v, (0, nI 0))))) := by
              unfold ord
              rw [← ec, if_neg s1, if_neg s2]
              rcases s3 with z | z
              · rw [z] at q4
                have q5 : ¬ ch P len q = 64 := q4
                rw [if_pos z, hb]
                simp only [q5, if_false]
              · rw [z] at q4
                have q5 : ¬ ch P len q = 126 := q4
                rw [if_neg (by omega), if_pos z, hb]
                simp only [q5, if_false]
            rw [eo]
            obtain ⟨rfl, rfl⟩ := y2 rfl q4
            obtain ⟨w', x4, F4⟩ := ro_172 (L := L) (xs := xs) (h := h) dd hc2 (o := (false, (j, (c, (v, (0, nI 0)))))) S4 (fun z => by cases z)
            exact ⟨w', hd.trans (x3.trans x4), F4⟩
      · have ek : kdB c = false := decide_eq_false (by omega)
        rw [ek] at hd
        have St := S2 false
        rw [if_neg (by simp)] at St
        have eo : ord P len i = (false, (i, (c, (0, (0, nI 0))))) := by
          unfold ord
          rw [← ec, if_neg s1, if_neg s2, if_neg (by omega), if_neg (by omega)]
        rw [eo]
        obtain ⟨w2, x, x2, R2, f2, g2, k2⟩ := m_number_n (L := L) (xs := xs) (h := h) dd (MP_O hP St.2.2.1) (show i < 1000 by omega) St.1 (fun z => by cases z)
        rw [ro_74b dd hn s1 hc2 x2] at hd
        obtain ⟨w', x1, F1⟩ := ro_fin (L := L) (xs := xs) (h := h) dd hn hc2 (by omega) (by omega) (o := (false, (i, (c, (0, (0, nI 0)))))) (ST_num St R2 f2 g2 k2) x (fun z => by cases z)
        exact ⟨w', hd.trans x1, F1⟩
end mreads2
