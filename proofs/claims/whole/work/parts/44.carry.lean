/-! orders carried out -/
def sOrd (b : Bn) (o : oR) : Int32 × Bn := if o.1 = 99 then sCome b else if o.1 = 102 then sFold b (nI o.2.1) else if o.1 = 115 then sSit b (nI o.2.1) (nI o.2.2.1) else if o.1 = 117 then sUp b (nI o.2.1) else if o.1 = 120 then sTell b (nI o.2.1) (nI o.2.2.1) o.2.2.2 else sUnfold b
def carr (od : Nat → oR) : Nat → Nat → Bn → Nat × Bn
  | 0, k, b => (k, b)
  | j + 1, k, b => if errI (sOrd b (od k)).1 = true then (k, b) else carr od j (k + 1) (sOrd b (od k)).2
def sCarry (K : Nat) (S : Ob) : Int32 × Ob := (nI (carr (odP S.P S.len) K 0 S.b).1, mO (carr (odP S.P S.len) K 0 S.b).2 (pushK S.K) (pushB S.K S.hb S.b) S.sv 0 S.P)
theorem err_nI {k : Nat} (hk : k < 2147483648) : errI (nI k) = false := by
  unfold errI
  rw [show decide (nI k < nI 0) = false from decide_eq_false (nI_pos (by omega))]
  rfl
theorem err_oI {o : Option Nat} (ho : ∀ k, o = some k → k < 2147483648) : errI (oI o) = false := by
  cases o with
  | none => rfl
  | some k => exact err_nI (ho k rfl)
/-- what fails leaves the bench as it was -/
theorem ord_err {w : Nat → Nat → Int32} {b : Bn} (hB : BI w b) (o : oR) (he : errI (sOrd b o).1 = true) : (sOrd b o).2 = b := by
  have hm12 : b.m ≤ 12 := hB.1.1.2.2.2.2.1
  have hn16 : b.n ≤ 16 := hB.1.1.2.1
  have hv := hB.1.2.1
  have hv8 := hB.1.2.2.1
  have hst : ∀ c s, b.st c = some s → s < 16 := fun c s hs => by
    have := (hv8 s c ((hv s c).mpr hs)).1
    omega
  have h3 : r3 b.r := hB.1.2.2.2.1
  unfold sOrd at he ⊢
  split at he
  · rename_i q
    rw [if_pos q]
    unfold sCome at he ⊢
    split at he
    · rename_i q
      rw [if_pos q]
    · rename_i q
      rw [err_nI (by omega)] at he
      cases he
  · rename_i q0
    rw [if_neg q0]
    split at he
    · rename_i q
      rw [if_pos q]
      unfold sFold at he ⊢
      cases e : gapOf b (nI o.2.1) with
      | none => rfl
      | some g =>
        rw [e] at he
        have hl := BI_len hB
        obtain ⟨g1, g2, -⟩ := gapOf_some (by omega) e
        have hT : lOk b.n (lFold (BL b) g) := lOk_fold (CI_lok hB (Nat.le_refl _)) g1 g2
        have := hT.2.1
        dsimp only at he ⊢
        split at he
        · rename_i q
          rw [if_pos q]
        · rename_i q
          rw [if_neg q]
          split at he
          · rename_i q
            rw [if_pos q]
          · rename_i q
            rw [err_nI (by omega)] at he
            cases he
    · rename_i q1
      rw [if_neg q1]
      split at he
      · rename_i q
        rw [if_pos q]
        unfold sSit at he ⊢
        cases e1 : idx (nI o.2.1) b.m with
        | none => rfl
        | some c =>
          cases e2 : idx (nI o.2.2.1) b.n with
          | none => rfl
          | some s =>
            rw [e1, e2] at he
            dsimp only at he ⊢
            split at he
            · rename_i q
              rw [if_pos q]
            · rename_i q
              rw [err_oI (fun k hk => by have := hst c k hk; omega)] at he
              cases he
      · rename_i q2
        rw [if_neg q2]
        split at he
        · rename_i q
          rw [if_pos q]
          unfold sUp at he ⊢
          cases e1 : idx (nI o.2.1) b.m with
          | none => rfl
          | some c =>
            rw [e1] at he
            dsimp only at he ⊢
            cases e2 : b.st c with
            | none => rfl
            | some s =>
              rw [e2] at he
              have := hst c s e2
              dsimp only at he ⊢
              split at he
              · rename_i q
                rw [if_pos q]
              · rename_i q
                rw [err_nI (by omega)] at he
                cases he
        · rename_i q3
          rw [if_neg q3]
          split at he
          · rename_i q
            rw [if_pos q]
            unfold sTell at he ⊢
            cases e1 : idx (nI o.2.1) b.m with
            | none => rfl
            | some c =>
              cases e2 : idx (nI o.2.2.1) b.m with
              | none => rfl
              | some d =>
                rw [e1, e2] at he
                dsimp only at he ⊢
                split at he
                · rename_i q
                  rw [if_pos q]
                · rename_i q
                  have : errI (b.r c d + nI 1) = false := by
                    rcases h3 c d with z | z | z <;> rw [z] <;> decide
                  rw [this] at he
                  cases he
          · rename_i q4
            rw [if_neg q4]
            unfold sUnfold at he ⊢
            split at he
            · rename_i q
              rw [if_pos q]
            · rename_i q
              have hF5 : b.F ≤ 5 := hB.1.1.2.2.2.2.2
              have hg := hB.1.2.2.2.2.2.2 (b.F - 1) (by omega)
              have hl2 : lLen (lay b.n b.g (b.F - 1)) ≤ 16 := by
                have := (CI_lok hB (show b.F - 1 ≤ b.F by omega)).2.1
                omega
              rw [err_nI (by omega)] at he
              cases he
theorem ord_kind {P : Nat → Nat} {len i : Nat} (h : (ord P len i).1 = true) : (ord P len i).2.2.1 = 99 ∨ (ord P len i).2.2.1 = 111 ∨ (ord P len i).2.2.1 = 117 ∨ (ord P len i).2.2.1 = 102 ∨ (ord P len i).2.2.1 = 115 ∨ (ord P len i).2.2.1 = 120 := by
  by_cases hi : i ≤ len
  · rw [(ord_pos hi).2.2.2.1]
    unfold ord at h
    by_cases q1 : ch P len i = 99 ∨ ch P len i = 111
    · omega
    · rw [if_neg q1] at h
      by_cases q2 : ch P len i = 117 ∨ ch P len i = 102
      · omega
      · rw [if_neg q2] at h
        by_cases q3 : ch P len i = 115
        · omega
        · rw [if_neg q3] at h
          by_cases q4 : ch P len i = 120
          · omega
          · rw [if_neg q4] at h
            cases h
  · have e : ch P len i = 0 := if_neg (by omega)
    unfold ord at h
    rw [e] at h
    simp at h
section carry
variable {L : Nat} {xs : Nat → Int32} {w : Nat → Nat → Int32} {h : Nat → Option Nat} {S : Ob} {b : Bn}
theorem c_carryOne (dd : Nat) (hB : BI w b) {o : Bool × (Nat × oR)} (hk : o.2.2.1 = 99 ∨ o.2.2.1 = 111 ∨ o.2.2.1 = 117 ∨ o.2.2.1 = 102 ∨ o.2.2.1 = 115 ∨ o.2.2.1 = 120) (ho1 : o.1 = true) (ho : okO w o) : ∃ w', p_K (dd + 6) 90 [.ref 4] (hp L xs w h) = some (some (.int (sOrd b o.2.2).1), hp L xs w' h) ∧ BI w' (sOrd b o.2.2).2 ∧ frN w w' := by
  obtain ⟨h1, h2, h3⟩ := ho
  obtain ⟨h3, h4, h5⟩ := h3 ho1
  rw [k90]
  unfold sOrd
  rcases hk with q | q | q | q | q | q
  · rw [q] at h2
    obtain ⟨w', x1, B1, f1⟩ := c_come (L := L) (xs := xs) (h := h) (dd + 4) hB
    simp only [q, if_true]
    refine ⟨w', ?_, B1, f1⟩
    simp (decide := true) only [S90_0, u_push, u_goto, u_gets, u_iadd, u_isub, u_imul, u_iand, u_ior, u_ixor, u_ishl, u_ishr, u_iushr, u_land, u_lor, u_lcmp, u_lushr, u_lshl, u_i2l, u_l2i, u_dupr, u_dup2i, u_popi, u_idiv, u_irem, u_ifeq, u_iceq, u_ifne, u_icne, u_iflt, u_iclt, u_ifge, u_icge, u_ifgt, u_icgt, u_ifle, u_icle, u_switch, u_iload_0, u_istore_0, u_aload_0, u_astore_0, u_iinc_0, u_iload_1, u_istore_1, u_aload_1, u_astore_1, u_lload_1, u_lstore_1, u_iinc_1, u_iload_2, u_istore_2, u_aload_2, u_astore_2, u_lload_2, u_lstore_2, u_iinc_2, u_iload_3, u_istore_3, u_aload_3, u_astore_3, u_lload_3, u_lstore_3, u_iinc_3, u_iload_4, u_istore_4, u_aload_4, u_astore_4, u_lload_4, u_lstore_4, u_iinc_4, u_iload_5, u_istore_5, u_aload_5, u_astore_5, u_lload_5, u_lstore_5, u_iinc_5, u_iload_6, u_istore_6, u_aload_6, u_astore_6, u_iinc_6, u_iload_7, u_istore_7, u_aload_7, u_astore_7, u_iinc_7, u_iload_8, u_istore_8, u_aload_8, u_astore_8, u_iinc_8, u_iload_9, u_istore_9, u_aload_9, u_astore_9, u_iinc_9, u_iload_10, u_istore_10, u_aload_10, u_astore_10, u_iinc_10, u_iload_11, u_istore_11, u_aload_11, u_astore_11, u_iinc_11, u_iload_12, u_istore_12, u_aload_12, u_astore_12, u_iinc_12, u_iret, u_zret, u_aret, u_vret, u_getI, u_getR, u_putI, u_putZ, u_putR, u_iald, u_zald, u_aald, u_iast, u_zast, u_aast, u_alen, u_newa, u_newq, u_new, u_oinit_0, u_max_0, u_min_0, u_copy_0, u_invV_0_0, u_invI_0_0, u_invV_1_0, u_invI_1_0, u_invS_1_0, u_invV_2_0, u_invS_2_0, u_invV_3_0, u_invS_3_0, u_invV_4_0, u_invS_4_0, u_oinit_1, u_max_1, u_min_1, u_invV_0_1, u_invI_0_1, u_invV_1_1, u_invI_1_1, u_invS_1_1, u_invV_2_1, u_invS_2_1, u_invV_3_1, u_invS_3_1, u_invV_4_1, u_invS_4_1, u_oinit_2, u_max_2, u_min_2, u_invV_0_2, u_invI_0_2, u_invV_1_2, u_invI_1_2, u_invS_1_2, u_invV_2_2, u_invS_2_2, u_invV_3_2, u_invS_3_2, u_invV_4_2, u_invS_4_2, u_oinit_3, u_max_3, u_min_3, u_invV_0_3, u_invI_0_3, u_invV_1_3, u_invI_1_3, u_invS_1_3, u_invV_2_3, u_invS_2_3, u_invV_3_3, u_invS_3_3, u_invV_4_3, u_invS_4_3, u_oinit_4, u_max_4, u_min_4, u_invV_0_4, u_invI_0_4, u_invV_1_4, u_invI_1_4, u_invS_1_4, u_invV_2_4, u_invS_2_4, u_invV_3_4, u_invS_3_4, u_invV_4_4, u_invS_4_4, u_ret1, u_ret0, u_bs, ↓reduceIte, if_true, if_false, Option.toList_none, Option.toList_some, List.nil_append, List.cons_append, true_or, or_true, false_or, or_false, not_true_eq_false, not_false_eq_true, and_true, true_and, and_false, false_and, p_sw, Nat.reduceEqDiff, Nat.reduceLeDiff, Nat.reduceAdd, Nat.reduceSub, Nat.reduceMul, eq_self, rv_4, gR_4_0, gR_4_1, gI_4_2, gR_4_3, gR_4_4, gR_4_5, gR_4_6, gR_4_7, rv_5, gR_5_0, gR_5_1, gR_5_2, gR_5_3, gR_5_4, gI_5_5, gI_5_6, rv_15, gR_15_0, gI_15_1, gI_15_2, gI_15_3, gI_15_4, gI_15_5, rv_16, gR_16_0, gI_16_1, rv_18, gR_18_0, gR_18_1, gR_18_2, gR_18_3, gR_18_4, gI_18_5, gI_18_6, rv_24, gR_24_0, gR_24_1, gR_24_2, gR_24_3, gR_24_4, gI_24_5, gI_24_6, rv_30, gR_30_0, gR_30_1, gR_30_2, gR_30_3, gR_30_4, gI_30_5, gI_30_6, rv_36, gR_36_0, gR_36_1, gR_36_2, gR_36_3, gR_36_4, gI_36_5, gI_36_6, rv_42, gR_42_0, gR_42_1, gR_42_2, gR_42_3, gR_42_4, gI_42_5, gI_42_6, rv_48, gR_48_0, gR_48_1, gR_48_2, gR_48_3, gR_48_4, gI_48_5, gI_48_6, rv_54, gR_54_0, gR_54_1, gR_54_2, gR_54_3, gR_54_4, gI_54_5, gI_54_6, rv_60, gR_60_0, gR_60_1, gR_60_2, gR_60_3, gR_60_4, gI_60_5, gI_60_6, rv_66, gR_66_0, gR_66_1, gR_66_2, gR_66_3, gR_66_4, gI_66_5, gI_66_6, rv_72, gI_72_0, gI_72_1, gR_72_2, gR_72_3, gR_72_4, gR_72_5, rv_77, gI_77_0, gI_77_1, gR_77_2, gR_77_3, gR_77_4, gR_77_5, rv_82, gI_82_0, gI_82_1, gR_82_2, gR_82_3, gR_82_4, gR_82_5, rv_87, gI_87_0, gI_87_1, gR_87_2, gR_87_3, gR_87_4, gR_87_5, rv_92, gI_92_0, gI_92_1, gR_92_2, gR_92_3, gR_92_4, gR_92_5, rv_97, gI_97_0, gI_97_1, gR_97_2, gR_97_3, gR_97_4, gR_97_5, rv_102, gI_102_0, gR_102_1, gR_102_2, gI_102_3, gR_102_4, gR_102_5, gR_102_6, gI_102_7, gI_102_8, gI_102_9, gR_102_10, gI_102_11, gR_102_12, gR_102_13, gI_102_14, gR_102_15, gR_102_16, gR_102_17, h2, x1]
  · rw [q] at h2
    obtain ⟨w', x1, B1, f1⟩ := c_unfold (L := L) (xs := xs) (h := h) (dd + 4) hB
    simp (decide := true) only [q, if_true, if_false]
    refine ⟨w', ?_, B1, f1⟩
    simp (decide := true) only [S90_0, u_push, u_goto, u_gets, u_iadd, u_isub, u_imul, u_iand, u_ior, u_ixor, u_ishl, u_ishr, u_iushr, u_land, u_lor, u_lcmp, u_lushr, u_lshl, u_i2l, u_l2i, u_dupr, u_dup2i, u_popi, u_idiv, u_irem, u_ifeq, u_iceq, u_ifne, u_icne, u_iflt, u_iclt, u_ifge, u_icge, u_ifgt, u_icgt, u_ifle, u_icle, u_switch, u_iload_0, u_istore_0, u_aload_0, u_astore_0, u_iinc_0, u_iload_1, u_istore_1, u_aload_1, u_astore_1, u_lload_1, u_lstore_1, u_iinc_1, u_iload_2, u_istore_2, u_aload_2, u_astore_2, u_lload_2, u_lstore_2, u_iinc_2, u_iload_3, u_istore_3, u_aload_3, u_astore_3, u_lload_3, u_lstore_3, u_iinc_3, u_iload_4, u_istore_4, u_aload_4, u_astore_4, u_lload_4, u_lstore_4, u_iinc_4, u_iload_5, u_istore_5, u_aload_5, u_astore_5, u_lload_5, u_lstore_5, u_iinc_5, u_iload_6, u_istore_6, u_aload_6, u_astore_6, u_iinc_6, u_iload_7, u_istore_7, u_aload_7, u_astore_7, u_iinc_7, u_iload_8, u_istore_8, u_aload_8, u_astore_8, u_iinc_8, u_iload_9, u_istore_9, u_aload_9, u_astore_9, u_iinc_9, u_iload_10, u_istore_10, u_aload_10, u_astore_10, u_iinc_10, u_iload_11, u_istore_11, u_aload_11, u_astore_11, u_iinc_11, u_iload_12, u_istore_12, u_aload_12, u_astore_12, u_iinc_12, u_iret, u_zret, u_aret, u_vret, u_getI, u_getR, u_putI, u_putZ, u_putR, u_iald, u_zald, u_aald, u_iast, u_zast, u_aast, u_alen, u_newa, u_newq, u_new, u_oinit_0, u_max_0, u_min_0, u_copy_0, u_invV_0_0, u_invI_0_0, u_invV_1_0, u_invI_1_0, u_invS_1_0, u_invV_2_0, u_invS_2_0, u_invV_3_0, u_invS_3_0, u_invV_4_0, u_invS_4_0, u_oinit_1, u_max_1, u_min_1, u_invV_0_1, u_invI_0_1, u_invV_1_1, u_invI_1_1, u_invS_1_1, u_invV_2_1, u_invS_2_1, u_invV_3_1, u_invS_3_1, u_invV_4_1, u_invS_4_1, u_oinit_2, u_max_2, u_min_2, u_invV_0_2, u_invI_0_2, u_invV_1_2, u_invI_1_2, u_invS_1_2, u_invV_2_2, u_invS_2_2, u_invV_3_2, u_invS_3_2, u_invV_4_2, u_invS_4_2, u_oinit_3, u_max_3, u_min_3, u_invV_0_3, u_invI_0_3, u_invV_1_3, u_invI_1_3, u_invS_1_3, u_invV_2_3, u_invS_2_3, u_invV_3_3, u_invS_3_3, u_invV_4_3, u_invS_4_3, u_oinit_4, u_max_4, u_min_4, u_invV_0_4, u_invI_0_4, u_invV_1_4, u_invI_1_4, u_invS_1_4, u_invV_2_4, u_invS_2_4, u_invV_3_4, u_invS_3_4, u_invV_4_4, u_invS_4_4, u_ret1, u_ret0, u_bs, ↓reduceIte, if_true, if_false, Option.toList_none, Option.toList_some, List.nil_append, List.cons_append, true_or, or_true, false_or, or_false, not_true_eq_false, not_false_eq_true, and_true, true_and, and_false, false_and, p_sw, Nat.reduceEqDiff, Nat.reduceLeDiff, Nat.reduceAdd, Nat.reduceSub, Nat.reduceMul, eq_self, rv_4, gR_4_0, gR_4_1, gI_4_2, gR_4_3, gR_4_4, gR_4_5, gR_4_6, gR_4_7, rv_5, gR_5_0, gR_5_1, gR_5_2, gR_5_3, gR_5_4, gI_5_5, gI_5_6, rv_15, gR_15_0, gI_15_1, gI_15_2, gI_15_3, gI_15_4, gI_15_5, rv_16, gR_16_0, gI_16_1, rv_18, gR_18_0, gR_18_1, gR_18_2, gR_18_3, gR_18_4, gI_18_5, gI_18_6, rv_24, gR_24_0, gR_24_1, gR_24_2, gR_24_3, gR_24_4, gI_24_5, gI_24_6, rv_30, gR_30_0, gR_30_1, gR_30_2, gR_30_3, gR_30_4, gI_30_5, gI_30_6, rv_36, gR_36_0, gR_36_1, gR_36_2, gR_36_3, gR_36_4, gI_36_5, gI_36_6, rv_42, gR_42_0, gR_42_1, gR_42_2, gR_42_3, gR_42_4, gI_42_5, gI_42_6, rv_48, gR_48_0, gR_48_1, gR_48_2, gR_48_3, gR_48_4, gI_48_5, gI_48_6, rv_54, gR_54_0, gR_54_1, gR_54_2, gR_54_3, gR_54_4, gI_54_5, gI_54_6, rv_60, gR_60_0, gR_60_1, gR_60_2, gR_60_3, gR_60_4, gI_60_5, gI_60_6, rv_66, gR_66_0, gR_66_1, gR_66_2, gR_66_3, gR_66_4, gI_66_5, gI_66_6, rv_72, gI_72_0, gI_72_1, gR_72_2, gR_72_3, gR_72_4, gR_72_5, rv_77, gI_77_0, gI_77_1, gR_77_2, gR_77_3, gR_77_4, gR_77_5, rv_82, gI_82_0, gI_82_1, gR_82_2, gR_82_3, gR_82_4, gR_82_5, rv_87, gI_87_0, gI_87_1, gR_87_2, gR_87_3, gR_87_4, gR_87_5, rv_92, gI_92_0, gI_92_1, gR_92_2, gR_92_3, gR_92_4, gR_92_5, rv_97, gI_97_0, gI_97_1, gR_97_2, gR_97_3, gR_97_4, gR_97_5, rv_102, gI_102_0, gR_102_1, gR_102_2, gI_102_3, gR_102_4, gR_102_5, gR_102_6, gI_102_7, gI_102_8, gI_102_9, gR_102_10, gI_102_11, gR_102_12, gR_102_13, gI_102_14, gR_102_15, gR_102_16, gR_102_17, h2, x1]
  · rw [q] at h2
    have z3 := h3 (Or.inl q)
    obtain ⟨w', x1, B1, f1⟩ := c_up (L := L) (xs := xs) (h := h) (dd + 3) hB (nI o.2.2.2.1)
    simp (decide := true) only [q, if_true, if_false]
    refine ⟨w', ?_, B1, f1⟩
    simp (decide := true) only [S90_0, u_push, u_goto, u_gets, u_iadd, u_isub, u_imul, u_iand, u_ior, u_ixor, u_ishl, u_ishr, u_iushr, u_land, u_lor, u_lcmp, u_lushr, u_lshl, u_i2l, u_l2i, u_dupr, u_dup2i, u_popi, u_idiv, u_irem, u_ifeq, u_iceq, u_ifne, u_icne, u_iflt, u_iclt, u_ifge, u_icge, u_ifgt, u_icgt, u_ifle, u_icle, u_switch, u_iload_0, u_istore_0, u_aload_0, u_astore_0, u_iinc_0, u_iload_1, u_istore_1, u_aload_1, u_astore_1, u_lload_1, u_lstore_1, u_iinc_1, u_iload_2, u_istore_2, u_aload_2, u_astore_2, u_lload_2, u_lstore_2, u_iinc_2, u_iload_3, u_istore_3, u_aload_3, u_astore_3, u_lload_3, u_lstore_3, u_iinc_3, u_iload_4, u_istore_4, u_aload_4, u_astore_4, u_lload_4, u_lstore_4, u_iinc_4, u_iload_5, u_istore_5, u_aload_5, u_astore_5, u_lload_5, u_lstore_5, u_iinc_5, u_iload_6, u_istore_6, u_aload_6, u_astore_6, u_iinc_6, u_iload_7, u_istore_7, u_aload_7, u_astore_7, u_iinc_7, u_iload_8, u_istore_8, u_aload_8, u_astore_8, u_iinc_8, u_iload_9, u_istore_9, u_aload_9, u_astore_9, u_iinc_9, u_iload_10, u_istore_10, u_aload_10, u_astore_10, u_iinc_10, u_iload_11, u_istore_11, u_aload_11, u_astore_11, u_iinc_11, u_iload_12, u_istore_12, u_aload_12, u_astore_12, u_iinc_12, u_iret, u_zret, u_aret, u_vret, u_getI, u_getR, u_putI, u_putZ, u_putR, u_iald, u_zald, u_aald, u_iast, u_zast, u_aast, u_alen, u_newa, u_newq, u_new, u_oinit_0, u_max_0, u_min_0, u_copy_0, u_invV_0_0, u_invI_0_0, u_invV_1_0, u_invI_1_0, u_invS_1_0, u_invV_2_0, u_invS_2_0, u_invV_3_0, u_invS_3_0, u_invV_4_0, u_invS_4_0, u_oinit_1, u_max_1, u_min_1, u_invV_0_1, u_invI_0_1, u_invV_1_1, u_invI_1_1, u_invS_1_1, u_invV_2_1, u_invS_2_1, u_invV_3_1, u_invS_3_1, u_invV_4_1, u_invS_4_1, u_oinit_2, u_max_2, u_min_2, u_invV_0_2, u_invI_0_2, u_invV_1_2, u_invI_1_2, u_invS_1_2, u_invV_2_2, u_invS_2_2, u_invV_3_2, u_invS_3_2, u_invV_4_2, u_invS_4_2, u_oinit_3, u_max_3, u_min_3, u_invV_0_3, u_invI_0_3, u_invV_1_3, u_invI_1_3, u_invS_1_3, u_invV_2_3, u_invS_2_3, u_invV_3_3, u_invS_3_3, u_invV_4_3, u_invS_4_3, u_oinit_4, u_max_4, u_min_4, u_invV_0_4, u_invI_0_4, u_invV_1_4, u_invI_1_4, u_invS_1_4, u_invV_2_4, u_invS_2_4, u_invV_3_4, u_invS_3_4, u_invV_4_4, u_invS_4_4, u_ret1, u_ret0, u_bs, ↓reduceIte, if_true, if_false, Option.toList_none, Option.toList_some, List.nil_append, List.cons_append, true_or, or_true, false_or, or_false, not_true_eq_false, not_false_eq_true, and_true, true_and, and_false, false_and, p_sw, Nat.reduceEqDiff, Nat.reduceLeDiff, Nat.reduceAdd, Nat.reduceSub, Nat.reduceMul, eq_self, rv_4, gR_4_0, gR_4_1, gI_4_2, gR_4_3, gR_4_4, gR_4_5, gR_4_6, gR_4_7, rv_5, gR_5_0, gR_5_1, gR_5_2, gR_5_3, gR_5_4, gI_5_5, gI_5_6, rv_15, gR_15_0, gI_15_1, gI_15_2, gI_15_3, gI_15_4, gI_15_5, rv_16, gR_16_0, gI_16_1, rv_18, gR_18_0, gR_18_1, gR_18_2, gR_18_3, gR_18_4, gI_18_5, gI_18_6, rv_24, gR_24_0, gR_24_1, gR_24_2, gR_24_3, gR_24_4, gI_24_5, gI_24_6, rv_30, gR_30_0, gR_30_1, gR_30_2, gR_30_3, gR_30_4, gI_30_5, gI_30_6, rv_36, gR_36_0, gR_36_1, gR_36_2, gR_36_3, gR_36_4, gI_36_5, gI_36_6, rv_42, gR_42_0, gR_42_1, gR_42_2, gR_42_3, gR_42_4, gI_42_5, gI_42_6, rv_48, gR_48_0, gR_48_1, gR_48_2, gR_48_3, gR_48_4, gI_48_5, gI_48_6, rv_54, gR_54_0, gR_54_1, gR_54_2, gR_54_3, gR_54_4, gI_54_5, gI_54_6, rv_60, gR_60_0, gR_60_1, gR_60_2, gR_60_3, gR_60_4, gI_60_5, gI_60_6, rv_66, gR_66_0, gR_66_1, gR_66_2, gR_66_3, gR_66_4, gI_66_5, gI_66_6, rv_72, gI_72_0, gI_72_1, gR_72_2, gR_72_3, gR_72_4, gR_72_5, rv_77, gI_77_0, gI_77_1, gR_77_2, gR_77_3, gR_77_4, gR_77_5, rv_82, gI_82_0, gI_82_1, gR_82_2, gR_82_3, gR_82_4, gR_82_5, rv_87, gI_87_0, gI_87_1, gR_87_2, gR_87_3, gR_87_4, gR_87_5, rv_92, gI_92_0, gI_92_1, gR_92_2, gR_92_3, gR_92_4, gR_92_5, rv_97, gI_97_0, gI_97_1, gR_97_2, gR_97_3, gR_97_4, gR_97_5, rv_102, gI_102_0, gR_102_1, gR_102_2, gI_102_3, gR_102_4, gR_102_5, gR_102_6, gI_102_7, gI_102_8, gI_102_9, gR_102_10, gI_102_11, gR_102_12, gR_102_13, gI_102_14, gR_102_15, gR_102_16, gR_102_17, h2, z3, x1]
  · rw [q] at h2
    have z3 := h3 (Or.inr (Or.inl q))
    obtain ⟨w', x1, B1, f1⟩ := c_fold (L := L) (xs := xs) (h := h) dd hB (nI o.2.2.2.1)
    simp (decide := true) only [q, if_true, if_false]
    refine ⟨w', ?_, B1, f1⟩
    simp (decide := true) only [S90_0, u_push, u_goto, u_gets, u_iadd, u_isub, u_imul, u_iand, u_ior, u_ixor, u_ishl, u_ishr, u_iushr, u_land, u_lor, u_lcmp, u_lushr, u_lshl, u_i2l, u_l2i, u_dupr, u_dup2i, u_popi, u_idiv, u_irem, u_ifeq, u_iceq, u_ifne, u_icne, u_iflt, u_iclt, u_ifge, u_icge, u_ifgt, u_icgt, u_ifle, u_icle, u_switch, u_iload_0, u_istore_0, u_aload_0, u_astore_0, u_iinc_0, u_iload_1, u_istore_1, u_aload_1, u_astore_1, u_lload_1, u_lstore_1, u_iinc_1, u_iload_2, u_istore_2, u_aload_2, u_astore_2, u_lload_2, u_lstore_2, u_iinc_2, u_iload_3, u_istore_3, u_aload_3, u_astore_3, u_lload_3, u_lstore_3, u_iinc_3, u_iload_4, u_istore_4, u_aload_4, u_astore_4, u_lload_4, u_lstore_4, u_iinc_4, u_iload_5, u_istore_5, u_aload_5, u_astore_5, u_lload_5, u_lstore_5, u_iinc_5, u_iload_6, u_istore_6, u_aload_6, u_astore_6, u_iinc_6, u_iload_7, u_istore_7, u_aload_7, u_astore_7, u_iinc_7, u_iload_8, u_istore_8, u_aload_8, u_astore_8, u_iinc_8, u_iload_9, u_istore_9, u_aload_9, u_astore_9, u_iinc_9, u_iload_10, u_istore_10, u_aload_10, u_astore_10, u_iinc_10, u_iload_11, u_istore_11, u_aload_11, u_astore_11, u_iinc_11, u_iload_12, u_istore_12, u_aload_12, u_astore_12, u_iinc_12, u_iret, u_zret, u_aret, u_vret, u_getI, u_getR, u_putI, u_putZ, u_putR, u_iald, u_zald, u_aald, u_iast, u_zast, u_aast, u_alen, u_newa, u_newq, u_new, u_oinit_0, u_max_0, u_min_0, u_copy_0, u_invV_0_0, u_invI_0_0, u_invV_1_0, u_invI_1_0, u_invS_1_0, u_invV_2_0, u_invS_2_0, u_invV_3_0, u_invS_3_0, u_invV_4_0, u_invS_4_0, u_oinit_1, u_max_1, u_min_1, u_invV_0_1, u_invI_0_1, u_invV_1_1, u_invI_1_1, u_invS_1_1, u_invV_2_1, u_invS_2_1, u_invV_3_1, u_invS_3_1, u_invV_4_1, u_invS_4_1, u_oinit_2, u_max_2, u_min_2, u_invV_0_2, u_invI_0_2, u_invV_1_2, u_invI_1_2, u_invS_1_2, u_invV_2_2, u_invS_2_2, u_invV_3_2, u_invS_3_2, u_invV_4_2, u_invS_4_2, u_oinit_3, u_max_3, u_min_3, u_invV_0_3, u_invI_0_3, u_invV_1_3, u_invI_1_3, u_invS_1_3, u_invV_2_3, u_invS_2_3, u_invV_3_3, u_invS_3_3, u_invV_4_3, u_invS_4_3, u_oinit_4, u_max_4, u_min_4, u_invV_0_4, u_invI_0_4, u_invV_1_4, u_invI_1_4, u_invS_1_4, u_invV_2_4, u_invS_2_4, u_invV_3_4, u_invS_3_4, u_invV_4_4, u_invS_4_4, u_ret1, u_ret0, u_bs, ↓reduceIte, if_true, if_false, Option.toList_none, Option.toList_some, List.nil_append, List.cons_append, true_or, or_true, false_or, or_false, not_true_eq_false, not_false_eq_true, and_true, true_and, and_false, false_and, p_sw, Nat.reduceEqDiff, Nat.reduceLeDiff, Nat.reduceAdd, Nat.reduceSub, Nat.reduceMul, eq_self, rv_4, gR_4_0, gR_4_1, gI_4_2, gR_4_3, gR_4_4, gR_4_5, gR_4_6, gR_4_7, rv_5, gR_5_0, gR_5_1, gR_5_2, gR_5_3, gR_5_4, gI_5_5, gI_5_6, rv_15, gR_15_0, gI_15_1, gI_15_2, gI_15_3, gI_15_4, gI_15_5, rv_16, gR_16_0, gI_16_1, rv_18, gR_18_0, gR_18_1, gR_18_2, gR_18_3, gR_18_4, gI_18_5, gI_18_6, rv_24, gR_24_0, gR_24_1, gR_24_2, gR_24_3, gR_24_4, gI_24_5, gI_24_6, rv_30, gR_30_0, gR_30_1, gR_30_2, gR_30_3, gR_30_4, gI_30_5, gI_30_6, rv_36, gR_36_0, gR_36_1, gR_36_2, gR_36_3, gR_36_4, gI_36_5, gI_36_6, rv_42, gR_42_0, gR_42_1, gR_42_2, gR_42_3, gR_42_4, gI_42_5, gI_42_6, rv_48, gR_48_0, gR_48_1, gR_48_2, gR_48_3, gR_48_4, gI_48_5, gI_48_6, rv_54, gR_54_0, gR_54_1, gR_54_2, gR_54_3, gR_54_4, gI_54_5, gI_54_6, rv_60, gR_60_0, gR_60_1, gR_60_2, gR_60_3, gR_60_4, gI_60_5, gI_60_6, rv_66, gR_66_0, gR_66_1, gR_66_2, gR_66_3, gR_66_4, gI_66_5, gI_66_6, rv_72, gI_72_0, gI_72_1, gR_72_2, gR_72_3, gR_72_4, gR_72_5, rv_77, gI_77_0, gI_77_1, gR_77_2, gR_77_3, gR_77_4, gR_77_5, rv_82, gI_82_0, gI_82_1, gR_82_2, gR_82_3, gR_82_4, gR_82_5, rv_87, gI_87_0, gI_87_1, gR_87_2, gR_87_3, gR_87_4, gR_87_5, rv_92, gI_92_0, gI_92_1, gR_92_2, gR_92_3, gR_92_4, gR_92_5, rv_97, gI_97_0, gI_97_1, gR_97_2, gR_97_3, gR_97_4, gR_97_5, rv_102, gI_102_0, gR_102_1, gR_102_2, gI_102_3, gR_102_4, gR_102_5, gR_102_6, gI_102_7, gI_102_8, gI_102_9, gR_102_10, gI_102_11, gR_102_12, gR_102_13, gI_102_14, gR_102_15, gR_102_16, gR_102_17, h2, z3, x1]
  · rw [q] at h2
    have z3 := h3 (Or.inr (Or.inr (Or.inl q)))
    have z4 := h4 (Or.inl q)
    obtain ⟨w', x1, B1, f1⟩ := c_sit (L := L) (xs := xs) (h := h) (dd + 3) hB (nI o.2.2.2.1) (nI o.2.2.2.2.1)
    simp (decide := true) only [q, if_true, if_false]
    refine ⟨w', ?_, B1, f1⟩
    simp (decide := true) only [S90_0, u_push, u_goto, u_gets, u_iadd, u_isub, u_imul, u_iand, u_ior, u_ixor, u_ishl, u_ishr, u_iushr, u_land, u_lor, u_lcmp, u_lushr, u_lshl, u_i2l, u_l2i, u_dupr, u_dup2i, u_popi, u_idiv, u_irem, u_ifeq, u_iceq, u_ifne, u_icne, u_iflt, u_iclt, u_ifge, u_icge, u_ifgt, u_icgt, u_ifle, u_icle, u_switch, u_iload_0, u_istore_0, u_aload_0, u_astore_0, u_iinc_0, u_iload_1, u_istore_1, u_aload_1, u_astore_1, u_lload_1, u_lstore_1, u_iinc_1, u_iload_2, u_istore_2, u_aload_2, u_astore_2, u_lload_2, u_lstore_2, u_iinc_2, u_iload_3, u_istore_3, u_aload_3, u_astore_3, u_lload_3, u_lstore_3, u_iinc_3, u_iload_4, u_istore_4, u_aload_4, u_astore_4, u_lload_4, u_lstore_4, u_iinc_4, u_iload_5, u_istore_5, u_aload_5, u_astore_5, u_lload_5, u_lstore_5, u_iinc_5, u_iload_6, u_istore_6, u_aload_6, u_astore_6, u_iinc_6, u_iload_7, u_istore_7, u_aload_7, u_astore_7, u_iinc_7, u_iload_8, u_istore_8, u_aload_8, u_astore_8, u_iinc_8, u_iload_9, u_istore_9, u_aload_9, u_astore_9, u_iinc_9, u_iload_10, u_istore_10, u_aload_10, u_astore_10, u_iinc_10, u_iload_11, u_istore_11, u_aload_11, u_astore_11, u_iinc_11, u_iload_12, u_istore_12, u_aload_12, u_astore_12, u_iinc_12, u_iret, u_zret, u_aret, u_vret, u_getI, u_getR, u_putI, u_putZ, u_putR, u_iald, u_zald, u_aald, u_iast, u_zast, u_aast, u_alen, u_newa, u_newq, u_new, u_oinit_0, u_max_0, u_min_0, u_copy_0, u_invV_0_0, u_invI_0_0, u_invV_1_0, u_invI_1_0, u_invS_1_0, u_invV_2_0, u_invS_2_0, u_invV_3_0, u_invS_3_0, u_invV_4_0, u_invS_4_0, u_oinit_1, u_max_1, u_min_1, u_invV_0_1, u_invI_0_1, u_invV_1_1, u_invI_1_1, u_invS_1_1, u_invV_2_1, u_invS_2_1, u_invV_3_1, u_invS_3_1, u_invV_4_1, u_invS_4_1, u_oinit_2, u_max_2, u_min_2, u_invV_0_2, u_invI_0_2, u_invV_1_2, u_invI_1_2, u_invS_1_2, u_invV_2_2, u_invS_2_2, u_invV_3_2, u_invS_3_2, u_invV_4_2, u_invS_4_2, u_oinit_3, u_max_3, u_min_3, u_invV_0_3, u_invI_0_3, u_invV_1_3, u_invI_1_3, u_invS_1_3, u_invV_2_3, u_invS_2_3, u_invV_3_3, u_invS_3_3, u_invV_4_3, u_invS_4_3, u_oinit_4, u_max_4, u_min_4, u_invV_0_4, u_invI_0_4, u_invV_1_4, u_invI_1_4, u_invS_1_4, u_invV_2_4, u_invS_2_4, u_invV_3_4, u_invS_3_4, u_invV_4_4, u_invS_4_4, u_ret1, u_ret0, u_bs, ↓reduceIte, if_true, if_false, Option.toList_none, Option.toList_some, List.nil_append, List.cons_append, true_or, or_true, false_or, or_false, not_true_eq_false, not_false_eq_true, and_true, true_and, and_false, false_and, p_sw, Nat.reduceEqDiff, Nat.reduceLeDiff, Nat.reduceAdd, Nat.reduceSub, Nat.reduceMul, eq_self, rv_4, gR_4_0, gR_4_1, gI_4_2, gR_4_3, gR_4_4, gR_4_5, gR_4_6, gR_4_7, rv_5, gR_5_0, gR_5_1, gR_5_2, gR_5_3, gR_5_4, gI_5_5, gI_5_6, rv_15, gR_15_0, gI_15_1, gI_15_2, gI_15_3, gI_15_4, gI_15_5, rv_16, gR_16_0, gI_16_1, rv_18, gR_18_0, gR_18_1, gR_18_2, gR_18_3, gR_18_4, gI_18_5, gI_18_6, rv_24, gR_24_0, gR_24_1, gR_24_2, gR_24_3, gR_24_4, gI_24_5, gI_24_6, rv_30, gR_30_0, gR_30_1, gR_30_2, gR_30_3, gR_30_4, gI_30_5, gI_30_6, rv_36, gR_36_0, gR_36_1, gR_36_2, gR_36_3, gR_36_4, gI_36_5, gI_36_6, rv_42, gR_42_0, gR_42_1, gR_42_2, gR_42_3, gR_42_4, gI_42_5, gI_42_6, rv_48, gR_48_0, gR_48_1, gR_48_2, gR_48_3, gR_48_4, gI_48_5, gI_48_6, rv_54, gR_54_0, gR_54_1, gR_54_2, gR_54_3, gR_54_4, gI_54_5, gI_54_6, rv_60, gR_60_0, gR_60_1, gR_60_2, gR_60_3, gR_60_4, gI_60_5, gI_60_6, rv_66, gR_66_0, gR_66_1, gR_66_2, gR_66_3, gR_66_4, gI_66_5, gI_66_6, rv_72, gI_72_0, gI_72_1, gR_72_2, gR_72_3, gR_72_4, gR_72_5, rv_77, gI_77_0, gI_77_1, gR_77_2, gR_77_3, gR_77_4, gR_77_5, rv_82, gI_82_0, gI_82_1, gR_82_2, gR_82_3, gR_82_4, gR_82_5, rv_87, gI_87_0, gI_87_1, gR_87_2, gR_87_3, gR_87_4, gR_87_5, rv_92, gI_92_0, gI_92_1, gR_92_2, gR_92_3, gR_92_4, gR_92_5, rv_97, gI_97_0, gI_97_1, gR_97_2, gR_97_3, gR_97_4, gR_97_5, rv_102, gI_102_0, gR_102_1, gR_102_2, gI_102_3, gR_102_4, gR_102_5, gR_102_6, gI_102_7, gI_102_8, gI_102_9, gR_102_10, gI_102_11, gR_102_12, gR_102_13, gI_102_14, gR_102_15, gR_102_16, gR_102_17, h2, z3, z4, x1]
  · rw [q] at h2
    have z3 := h3 (Or.inr (Or.inr (Or.inr q)))
    have z4 := h4 (Or.inr q)
    have z5 := h5 q
    obtain ⟨w', x1, B1, f1⟩ := c_tell (L := L) (xs := xs) (h := h) (dd + 3) hB (nI o.2.2.2.1) (nI o.2.2.2.2.1) o.2.2.2.2.2
    simp (decide := true) only [q, if_true, if_false]
    refine ⟨w', ?_, B1, f1⟩
    simp (decide := true) only [S90_0, u_push, u_goto, u_gets, u_iadd, u_isub, u_imul, u_iand, u_ior, u_ixor, u_ishl, u_ishr, u_iushr, u_land, u_lor, u_lcmp, u_lushr, u_lshl, u_i2l, u_l2i, u_dupr, u_dup2i, u_popi, u_idiv, u_irem, u_ifeq, u_iceq, u_ifne, u_icne, u_iflt, u_iclt, u_ifge, u_icge, u_ifgt, u_icgt, u_ifle, u_icle, u_switch, u_iload_0, u_istore_0, u_aload_0, u_astore_0, u_iinc_0, u_iload_1, u_istore_1, u_aload_1, u_astore_1, u_lload_1, u_lstore_1, u_iinc_1, u_iload_2, u_istore_2, u_aload_2, u_astore_2, u_lload_2, u_lstore_2, u_iinc_2, u_iload_3, u_istore_3, u_aload_3, u_astore_3, u_lload_3, u_lstore_3, u_iinc_3, u_iload_4, u_istore_4, u_aload_4, u_astore_4, u_lload_4, u_lstore_4, u_iinc_4, u_iload_5, u_istore_5, u_aload_5, u_astore_5, u_lload_5, u_lstore_5, u_iinc_5, u_iload_6, u_istore_6, u_aload_6, u_astore_6, u_iinc_6, u_iload_7, u_istore_7, u_aload_7, u_astore_7, u_iinc_7, u_iload_8, u_istore_8, u_aload_8, u_astore_8, u_iinc_8, u_iload_9, u_istore_9, u_aload_9, u_astore_9, u_iinc_9, u_iload_10, u_istore_10, u_aload_10, u_astore_10, u_iinc_10, u_iload_11, u_istore_11, u_aload_11, u_astore_11, u_iinc_11, u_iload_12, u_istore_12, u_aload_12, u_astore_12, u_iinc_12, u_iret, u_zret, u_aret, u_vret, u_getI, u_getR, u_putI, u_putZ, u_putR, u_iald, u_zald, u_aald, u_iast, u_zast, u_aast, u_alen, u_newa, u_newq, u_new, u_oinit_0, u_max_0, u_min_0, u_copy_0, u_invV_0_0, u_invI_0_0, u_invV_1_0, u_invI_1_0, u_invS_1_0, u_invV_2_0, u_invS_2_0, u_invV_3_0, u_invS_3_0, u_invV_4_0, u_invS_4_0, u_oinit_1, u_max_1, u_min_1, u_invV_0_1, u_invI_0_1, u_invV_1_1, u_invI_1_1, u_invS_1_1, u_invV_2_1, u_invS_2_1, u_invV_3_1, u_invS_3_1, u_invV_4_1, u_invS_4_1, u_oinit_2, u_max_2, u_min_2, u_invV_0_2, u_invI_0_2, u_invV_1_2, u_invI_1_2, u_invS_1_2, u_invV_2_2, u_invS_2_2, u_invV_3_2, u_invS_3_2, u_invV_4_2, u_invS_4_2, u_oinit_3, u_max_3, u_min_3, u_invV_0_3, u_invI_0_3, u_invV_1_3, u_invI_1_3, u_invS_1_3, u_invV_2_3, u_invS_2_3, u_invV_3_3, u_invS_3_3, u_invV_4_3, u_invS_4_3, u_oinit_4, u_max_4, u_min_4, u_invV_0_4, u_invI_0_4, u_invV_1_4, u_invI_1_4, u_invS_1_4, u_invV_2_4, u_invS_2_4, u_invV_3_4, u_invS_3_4, u_invV_4_4, u_invS_4_4, u_ret1, u_ret0, u_bs, ↓reduceIte, if_true, if_false, Option.toList_none, Option.toList_some, List.nil_append, List.cons_append, true_or, or_true, false_or, or_false, not_true_eq_false, not_false_eq_true, and_true, true_and, and_false, false_and, p_sw, Nat.reduceEqDiff, Nat.reduceLeDiff, Nat.reduceAdd, Nat.reduceSub, Nat.reduceMul, eq_self, rv_4, gR_4_0, gR_4_1, gI_4_2, gR_4_3, gR_4_4, gR_4_5, gR_4_6, gR_4_7, rv_5, gR_5_0, gR_5_1, gR_5_2, gR_5_3, gR_5_4, gI_5_5, gI_5_6, rv_15, gR_15_0, gI_15_1, gI_15_2, gI_15_3, gI_15_4, gI_15_5, rv_16, gR_16_0, gI_16_1, rv_18, gR_18_0, gR_18_1, gR_18_2, gR_18_3, gR_18_4, gI_18_5, gI_18_6, rv_24, gR_24_0, gR_24_1, gR_24_2, gR_24_3, gR_24_4, gI_24_5, gI_24_6, rv_30, gR_30_0, gR_30_1, gR_30_2, gR_30_3, gR_30_4, gI_30_5, gI_30_6, rv_36, gR_36_0, gR_36_1, gR_36_2, gR_36_3, gR_36_4, gI_36_5, gI_36_6, rv_42, gR_42_0, gR_42_1, gR_42_2, gR_42_3, gR_42_4, gI_42_5, gI_42_6, rv_48, gR_48_0, gR_48_1, gR_48_2, gR_48_3, gR_48_4, gI_48_5, gI_48_6, rv_54, gR_54_0, gR_54_1, gR_54_2, gR_54_3, gR_54_4, gI_54_5, gI_54_6, rv_60, gR_60_0, gR_60_1, gR_60_2, gR_60_3, gR_60_4, gI_60_5, gI_60_6, rv_66, gR_66_0, gR_66_1, gR_66_2, gR_66_3, gR_66_4, gI_66_5, gI_66_6, rv_72, gI_72_0, gI_72_1, gR_72_2, gR_72_3, gR_72_4, gR_72_5, rv_77, gI_77_0, gI_77_1, gR_77_2, gR_77_3, gR_77_4, gR_77_5, rv_82, gI_82_0, gI_82_1, gR_82_2, gR_82_3, gR_82_4, gR_82_5, rv_87, gI_87_0, gI_87_1, gR_87_2, gR_87_3, gR_87_4, gR_87_5, rv_92, gI_92_0, gI_92_1, gR_92_2, gR_92_3, gR_92_4, gR_92_5, rv_97, gI_97_0, gI_97_1, gR_97_2, gR_97_3, gR_97_4, gR_97_5, rv_102, gI_102_0, gR_102_1, gR_102_2, gI_102_3, gR_102_4, gR_102_5, gR_102_6, gI_102_7, gI_102_8, gI_102_9, gR_102_10, gI_102_11, gR_102_12, gR_102_13, gI_102_14, gR_102_15, gR_102_16, gR_102_17, h2, z3, z4, z5, x1]
end carry
