/-! what undo brings back; folded and unfolded -/
theorem recS_err {S : Ob} {x : Int32 × Bn} (h1 : errI x.1 = true) (h2 : x.2 = S.b) : (recS S x).2 = S := by
  show mO x.2 (if errI x.1 = true then S.K else pushK S.K) (if errI x.1 = true then S.hb else pushB S.K S.hb S.b) S.sv S.len S.P = S
  rw [if_pos h1, if_pos h1, h2]
  rfl
theorem recS_ok {S : Ob} {x : Int32 × Bn} (h1 : errI x.1 = false) : (recS S x).2 = mO x.2 (pushK S.K) (pushB S.K S.hb S.b) S.sv S.len S.P := by
  have h2 : ¬ errI x.1 = true := by rw [h1]; exact Bool.false_ne_true
  show mO x.2 (if errI x.1 = true then S.K else pushK S.K) (if errI x.1 = true then S.hb else pushB S.K S.hb S.b) S.sv S.len S.P = _
  rw [if_neg h2, if_neg h2]
theorem pushK_b {K : Nat} (hK : K ≤ 6) : 1 ≤ pushK K ∧ pushK K ≤ 6 := by
  unfold pushK
  split <;> omega
theorem push_last (K : Nat) (hb : Nat → Bn) (b : Bn) : pushB K hb b (pushK K - 1) = b := by
  unfold pushB pushK
  by_cases z : K < 6
  · rw [if_pos z, if_pos z]
    exact if_pos (by omega)
  · rw [if_neg z, if_neg z]
    exact if_pos rfl
theorem push_prev {K : Nat} (h1 : 1 ≤ K) (h6 : K ≤ 6) (hb : Nat → Bn) (b : Bn) : pushB K hb b (pushK K - 1 - 1) = hb (K - 1) := by
  unfold pushB pushK
  by_cases z : K < 6
  · rw [if_pos z, if_pos z]
    exact if_neg (by omega)
  · have e : K = 6 := by omega
    subst e
    rw [if_neg z, if_neg z]
    rfl
theorem pushK_2 {K : Nat} (h1 : 1 ≤ K) : 2 ≤ pushK K := by
  unfold pushK
  split <;> omega
theorem err_nI {k : Nat} (hk : k < 2147483648) : errI (nI k) = false := by
  have h1 : ¬ nI k < nI 0 := nI_pos hk
  unfold errI
  rw [decide_eq_false h1]
  rfl
theorem err_bad {k : Nat} (h : k = 1 ∨ k = 2 ∨ k = 4 ∨ k = 5) : errI (nM k) = true := by
  rcases h with rfl | rfl | rfl | rfl <;> decide
/-- the slot 0 holds B0; nobody is a friend or foe of his own, now, before and in the slot -/
def IN (S : Ob) (B0 : Bn) : Prop := IRr S.b ∧ (∀ i, i < S.K → IRr (S.hb i)) ∧ S.sv 0 = some B0 ∧ IRr B0
theorem IN_rec {S : Ob} {B0 : Bn} (hI : IN S B0) {x : Int32 × Bn} (h1 : errI x.1 = false) (hx : IRr x.2) : IN (recS S x).2 B0 := by
  rw [recS_ok h1]
  obtain ⟨i1, i2, i3, i4⟩ := hI
  refine ⟨hx, fun i hi => ?_, i3, i4⟩
  have hi : i < pushK S.K := hi
  show IRr (pushB S.K S.hb S.b i)
  unfold pushB
  unfold pushK at hi
  by_cases z : S.K < 6
  · rw [if_pos z] at hi ⊢
    by_cases z2 : i = S.K
    · rw [if_pos z2]
      exact i1
    · rw [if_neg z2]
      exact i2 i (by omega)
  · rw [if_neg z] at hi ⊢
    by_cases z2 : i = 5
    · rw [if_pos z2]
      exact i1
    · rw [if_neg z2]
      exact i2 (i + 1) (by omega)
theorem IN_undo {S : Ob} {B0 : Bn} (hI : IN S B0) : IN (sUndo S).2 B0 := by
  obtain ⟨i1, i2, i3, i4⟩ := hI
  unfold sUndo
  by_cases z : S.K = 0
  · rw [if_pos z]
    exact ⟨i1, i2, i3, i4⟩
  · rw [if_neg z]
    exact ⟨i2 (S.K - 1) (by omega), fun i hi => i2 i (by have : i < S.K - 1 := hi; omega), i3, i4⟩
theorem undo_rec {S : Ob} {x : Int32 × Bn} (hK : S.K ≤ 6) (h1 : errI x.1 = false) : sUndo (recS S x).2 = (nI (pushK S.K - 1), mO S.b (pushK S.K - 1) (pushB S.K S.hb S.b) S.sv S.len S.P) := by
  have hb := pushK_b hK
  rw [recS_ok h1]
  show (if pushK S.K = 0 then _ else (nI (pushK S.K - 1), mO (pushB S.K S.hb S.b (pushK S.K - 1)) (pushK S.K - 1) (pushB S.K S.hb S.b) S.sv S.len S.P)) = _
  rw [if_neg (by omega), push_last]
theorem undo_two {S : Ob} {x y : Int32 × Bn} (hK : S.K ≤ 6) (h1 : errI x.1 = false) (h2 : errI y.1 = false) : (sUndo (sUndo (recS (recS S x).2 y).2).2).2.b = S.b := by
  have hb := pushK_b hK
  have eK : (recS S x).2.K = pushK S.K := by rw [recS_ok h1]; rfl
  have eh : (recS S x).2.hb = pushB S.K S.hb S.b := by rw [recS_ok h1]; rfl
  have hb2 := pushK_b hb.2
  rw [undo_rec (by rw [eK]; exact hb.2) h2, eK, eh]
  show (if pushK (pushK S.K) - 1 = 0 then _ else (nI (pushK (pushK S.K) - 1 - 1), mO (pushB (pushK S.K) (pushB S.K S.hb S.b) (recS S x).2.b (pushK (pushK S.K) - 1 - 1)) (pushK (pushK S.K) - 1 - 1) (pushB (pushK S.K) (pushB S.K S.hb S.b) (recS S x).2.b) _ _ _) : Int32 × Ob).2.b = S.b
  have h3 : ¬ pushK (pushK S.K) - 1 = 0 := by
    have := pushK_2 hb.1
    omega
  rw [if_neg h3]
  show pushB (pushK S.K) (pushB S.K S.hb S.b) (recS S x).2.b (pushK (pushK S.K) - 1 - 1) = S.b
  rw [push_prev hb.1 hb.2]
  exact push_last _ _ _
theorem lg_same (x : Int64) : lg_cmp x x = nI 0 := by
  unfold lg_cmp
  rw [if_neg (Int64.lt_irrefl), if_pos rfl]
  rfl
theorem gap_nI {b : Bn} {g : Nat} (hl : lLen (BL b) ≤ 16) (h1 : 1 ≤ g) (h2 : g < lLen (BL b)) : gapOf b (nI g) = some g := by
  unfold gapOf
  rw [idx_nI (by omega) (by omega), if_pos h2]
  show (if g = 0 then none else some g) = some g
  rw [if_neg (by omega)]
theorem gap_no {b : Bn} {g : Nat} (hl : lLen (BL b) ≤ 16) (hg : g ≤ 16) (h : g < 1 ∨ lLen (BL b) ≤ g) : gapOf b (nI g) = none := by
  unfold gapOf
  rw [idx_nI (by omega) (by omega)]
  by_cases z : g < lLen (BL b)
  · rw [if_pos z]
    show (if g = 0 then none else some g) = none
    rw [if_pos (by omega)]
  · rw [if_neg z]
theorem BL_more (b : Bn) (g : Nat) : BL (oneMore b g) = lFold (BL b) g := by
  show lFold (lay b.n (oneMore b g).g b.F) ((oneMore b g).g b.F) = lFold (lay b.n b.g b.F) g
  rw [lay_congr b.n b.F (g := (oneMore b g).g) (g' := b.g) (fun i hi => if_neg (by omega)), show (oneMore b g).g b.F = g from if_pos rfl]
theorem unf_more (b : Bn) (g : Nat) : (sUnfold (oneMore b g)).1 = nI g ∧ SB (sUnfold (oneMore b g)).2 b ∧ (sUnfold (oneMore b g)).2.r = b.r := by
  have e : sUnfold (oneMore b g) = (nI ((oneMore b g).g (b.F + 1 - 1)), mB b.n b.ne b.fa b.m (b.F + 1 - 1) (oneMore b g).g b.st b.si b.r) := if_neg (show ¬ b.F + 1 = 0 by omega)
  rw [e]
  refine ⟨?_, ⟨⟨rfl, rfl, rfl, rfl, ?_⟩, rfl, rfl, rfl, ?_⟩, rfl⟩
  · show nI ((oneMore b g).g (b.F + 1 - 1)) = nI g
    rw [Nat.add_sub_cancel, show (oneMore b g).g b.F = g from if_pos rfl]
  · show b.F + 1 - 1 = b.F
    omega
  · show lay b.n (oneMore b g).g (b.F + 1 - 1) = lay b.n b.g b.F
    rw [Nat.add_sub_cancel]
    exact lay_congr b.n b.F (fun i hi => if_neg (by omega))
section isf
variable {L : Nat} {xs : Nat → Int32} {w : Nat → Nat → Int32} {h : Nat → Option Nat} {S : Ob}
theorem c_isf (dd : Nat) (hO : OI w h S) {B0 : Bn} (hI : IN S B0) {g : Nat} (hg : g ≤ lLen (BL S.b)) : ∃ w' h' S', p_K (dd + 8) 78 [.ref 4, .int (nI g)] (hp L xs w h) = some (some (.int (nI 1)), hp L xs w' h') ∧ OI w' h' S' ∧ IN S' B0 := by
  have hV := hO.1.1
  have hF5 : S.b.F ≤ 5 := hV.1.2.2.2.2.2
  have hn16 : S.b.n ≤ 16 := hV.1.2.1
  have hT := BV_lok hV
  have hl := (BI_len hO.1).2
  have hK6 : S.K ≤ 6 := hO.2.1.2.1
  have T0 := c_told (L := L) (xs := xs) dd hO
  have q2 := q_count (L := L) (xs := xs) (dd + 1) hO (nI 2)
  rw [sc_2] at q2
  have q3 := q_count (L := L) (xs := xs) (dd + 1) hO (nI 3)
  rw [sc_3] at q3
  rw [k78]
  by_cases A : g < 1 ∨ lLen (BL S.b) ≤ g ∨ S.b.F = 5
  · -- no fold can be made there
    have hf : sFold S.b (nI g) = (nM 2, S.b) ∨ sFold S.b (nI g) = (nM 4, S.b) := by
      by_cases z : g < 1 ∨ lLen (BL S.b) ≤ g
      · left
        unfold sFold
        rw [gap_no hl (by omega) z]
      · right
        unfold sFold
        rw [gap_nI hl (by omega) (by omega)]
        exact if_pos (by omega)
    obtain ⟨w1, h1, X, O1, -⟩ := o_fold (L := L) (xs := xs) (dd + 1) hO (nI g)
    have e : (recS S (sFold S.b (nI g))).2 = S := by
      rcases hf with e | e
      · rw [e]
        exact recS_err (x := (nM 2, S.b)) (err_bad (k := 2) (by decide)) rfl
      · rw [e]
        exact recS_err (x := (nM 4, S.b)) (err_bad (k := 4) (by decide)) rfl
    rw [e] at O1
    have T1 := c_told (L := L) (xs := xs) dd O1
    have up : p_Y 78 (p_K (dd + 7)) 0 [some (.ref 4), some (.int (nI g)), none, none, none, none, none, none] [] (hp L xs w h) = p_Y 78 (p_K (dd + 7)) 43 [some (.ref 4), some (.int (nI g)), some (.long (sTold S)), none, some (.int (nI (lLen (BL S.b)))), none, none, none] [.int (nM 9)] (hp L xs w h) := by
      by_cases z1 : nI g < nI 1
      · simp only [S78_0, S78_32, u_push, u_goto, u_gets, u_iadd, u_isub, u_imul, u_iand, u_ior, u_ixor, u_ishl, u_ishr, u_iushr, u_land, u_lor, u_ladd, u_lmul, u_lcmp, u_lushr, u_lshl, u_i2l, u_l2i, u_dupr, u_dup2i, u_popi, u_idiv, u_irem, u_ifeq, u_iceq, u_ifne, u_icne, u_iflt, u_iclt, u_ifge, u_icge, u_ifgt, u_icgt, u_ifle, u_icle, u_switch, u_iload_0, u_istore_0, u_aload_0, u_astore_0, u_iinc_0, u_iload_1, u_istore_1, u_aload_1, u_astore_1, u_lload_1, u_lstore_1, u_iinc_1, u_iload_2, u_istore_2, u_aload_2, u_astore_2, u_lload_2, u_lstore_2, u_iinc_2, u_iload_3, u_istore_3, u_aload_3, u_astore_3, u_lload_3, u_lstore_3, u_iinc_3, u_iload_4, u_istore_4, u_aload_4, u_astore_4, u_lload_4, u_lstore_4, u_iinc_4, u_iload_5, u_istore_5, u_aload_5, u_astore_5, u_lload_5, u_lstore_5, u_iinc_5, u_iload_6, u_istore_6, u_aload_6, u_astore_6, u_iinc_6, u_iload_7, u_istore_7, u_aload_7, u_astore_7, u_iinc_7, u_iload_8, u_istore_8, u_aload_8, u_astore_8, u_iinc_8, u_iload_9, u_istore_9, u_aload_9, u_astore_9, u_lload_9, u_lstore_9, u_iinc_9, u_iload_10, u_istore_10, u_aload_10, u_astore_10, u_iinc_10, u_iload_11, u_istore_11, u_aload_11, u_astore_11, u_iinc_11, u_iload_12, u_istore_12, u_aload_12, u_astore_12, u_iinc_12, u_iload_13, u_istore_13, u_aload_13, u_astore_13, u_iinc_13, u_iret, u_zret, u_aret, u_vret, u_lret, u_getI, u_getR, u_putI, u_putZ, u_putR, u_iald, u_zald, u_aald, u_iast, u_zast, u_aast, u_alen, u_newa, u_newq, u_new, u_oinit_0, u_max_0, u_min_0, u_copy_0, u_invV_0_0, u_invI_0_0, u_invV_1_0, u_invI_1_0, u_invS_1_0, u_invV_2_0, u_invS_2_0, u_invV_3_0, u_invS_3_0, u_invV_4_0, u_invS_4_0, u_oinit_1, u_max_1, u_min_1, u_invV_0_1, u_invI_0_1, u_invV_1_1, u_invI_1_1, u_invS_1_1, u_invV_2_1, u_invS_2_1, u_invV_3_1, u_invS_3_1, u_invV_4_1, u_invS_4_1, u_oinit_2, u_max_2, u_min_2, u_invV_0_2, u_invI_0_2, u_invV_1_2, u_invI_1_2, u_invS_1_2, u_invV_2_2, u_invS_2_2, u_invV_3_2, u_invS_3_2, u_invV_4_2, u_invS_4_2, u_oinit_3, u_max_3, u_min_3, u_invV_0_3, u_invI_0_3, u_invV_1_3, u_invI_1_3, u_invS_1_3, u_invV_2_3, u_invS_2_3, u_invV_3_3, u_invS_3_3, u_invV_4_3, u_invS_4_3, u_oinit_4, u_max_4, u_min_4, u_invV_0_4, u_invI_0_4, u_invV_1_4, u_invI_1_4, u_invS_1_4, u_invV_2_4, u_invS_2_4, u_invV_3_4, u_invS_3_4, u_invV_4_4, u_invS_4_4, u_ret1, u_ret0, u_bs, ↓reduceIte, if_true, if_false, Option.toList_none, Option.toList_some, List.nil_append, List.cons_append, true_or, or_true, false_or, or_false, not_true_eq_false, not_false_eq_true, and_true, true_and, and_false, false_and, p_sw, Nat.reduceEqDiff, Nat.reduceLeDiff, Nat.reduceAdd, Nat.reduceSub, Nat.reduceMul, eq_self, rv_4, gR_4_0, gR_4_1, gI_4_2, gR_4_3, gR_4_4, gR_4_5, gR_4_6, gR_4_7, rv_5, gR_5_0, gR_5_1, gR_5_2, gR_5_3, gR_5_4, gI_5_5, gI_5_6, rv_15, gR_15_0, gI_15_1, gI_15_2, gI_15_3, gI_15_4, gI_15_5, rv_16, gR_16_0, gI_16_1, rv_18, gR_18_0, gR_18_1, gR_18_2, gR_18_3, gR_18_4, gI_18_5, gI_18_6, rv_24, gR_24_0, gR_24_1, gR_24_2, gR_24_3, gR_24_4, gI_24_5, gI_24_6, rv_30, gR_30_0, gR_30_1, gR_30_2, gR_30_3, gR_30_4, gI_30_5, gI_30_6, rv_36, gR_36_0, gR_36_1, gR_36_2, gR_36_3, gR_36_4, gI_36_5, gI_36_6, rv_42, gR_42_0, gR_42_1, gR_42_2, gR_42_3, gR_42_4, gI_42_5, gI_42_6, rv_48, gR_48_0, gR_48_1, gR_48_2, gR_48_3, gR_48_4, gI_48_5, gI_48_6, rv_54, gR_54_0, gR_54_1, gR_54_2, gR_54_3, gR_54_4, gI_54_5, gI_54_6, rv_60, gR_60_0, gR_60_1, gR_60_2, gR_60_3, gR_60_4, gI_60_5, gI_60_6, rv_66, gR_66_0, gR_66_1, gR_66_2, gR_66_3, gR_66_4, gI_66_5, gI_66_6, rv_72, gI_72_0, gI_72_1, gR_72_2, gR_72_3, gR_72_4, gR_72_5, rv_77, gI_77_0, gI_77_1, gR_77_2, gR_77_3, gR_77_4, gR_77_5, rv_82, gI_82_0, gI_82_1, gR_82_2, gR_82_3, gR_82_4, gR_82_5, rv_87, gI_87_0, gI_87_1, gR_87_2, gR_87_3, gR_87_4, gR_87_5, rv_92, gI_92_0, gI_92_1, gR_92_2, gR_92_3, gR_92_4, gR_92_5, rv_97, gI_97_0, gI_97_1, gR_97_2, gR_97_3, gR_97_4, gR_97_5, T0, q2, z1]
      · by_cases z2 : nI (lLen (BL S.b)) ≤ nI g
        · simp only [S78_0, S78_32, u_push, u_goto, u_gets, u_iadd, u_isub, u_imul, u_iand, u_ior, u_ixor, u_ishl, u_ishr, u_iushr, u_land, u_lor, u_ladd, u_lmul, u_lcmp, u_lushr, u_lshl, u_i2l, u_l2i, u_dupr, u_dup2i, u_popi, u_idiv, u_irem, u_ifeq, u_iceq, u_ifne, u_icne, u_iflt, u_iclt, u_ifge, u_icge, u_ifgt, u_icgt, u_ifle, u_icle, u_switch, u_iload_0, u_istore_0, u_aload_0, u_astore_0, u_iinc_0, u_iload_1, u_istore_1, u_aload_1, u_astore_1, u_lload_1, u_lstore_1, u_iinc_1, u_iload_2, u_istore_2, u_aload_2, u_astore_2, u_lload_2, u_lstore_2, u_iinc_2, u_iload_3, u_istore_3, u_aload_3, u_astore_3, u_lload_3, u_lstore_3, u_iinc_3, u_iload_4, u_istore_4, u_aload_4, u_astore_4, u_lload_4, u_lstore_4, u_iinc_4, u_iload_5, u_istore_5, u_aload_5, u_astore_5, u_lload_5, u_lstore_5, u_iinc_5, u_iload_6, u_istore_6, u_aload_6, u_astore_6, u_iinc_6, u_iload_7, u_istore_7, u_aload_7, u_astore_7, u_iinc_7, u_iload_8, u_istore_8, u_aload_8, u_astore_8, u_iinc_8, u_iload_9, u_istore_9, u_aload_9, u_astore_9, u_lload_9, u_lstore_9, u_iinc_9, u_iload_10, u_istore_10, u_aload_10, u_astore_10, u_iinc_10, u_iload_11, u_istore_11, u_aload_11, u_astore_11, u_iinc_11, u_iload_12, u_istore_12, u_aload_12, u_astore_12, u_iinc_12, u_iload_13, u_istore_13, u_aload_13, u_astore_13, u_iinc_13, u_iret, u_zret, u_aret, u_vret, u_lret, u_getI, u_getR, u_putI, u_putZ, u_putR, u_iald, u_zald, u_aald, u_iast, u_zast, u_aast, u_alen, u_newa, u_newq, u_new, u_oinit_0, u_max_0, u_min_0, u_copy_0, u_invV_0_0, u_invI_0_0, u_invV_1_0, u_invI_1_0, u_invS_1_0, u_invV_2_0, u_invS_2_0, u_invV_3_0, u_invS_3_0, u_invV_4_0, u_invS_4_0, u_oinit_1, u_max_1, u_min_1, u_invV_0_1, u_invI_0_1, u_invV_1_1, u_invI_1_1, u_invS_1_1, u_invV_2_1, u_invS_2_1, u_invV_3_1, u_invS_3_1, u_invV_4_1, u_invS_4_1, u_oinit_2, u_max_2, u_min_2, u_invV_0_2, u_invI_0_2, u_invV_1_2, u_invI_1_2, u_invS_1_2, u_invV_2_2, u_invS_2_2, u_invV_3_2, u_invS_3_2, u_invV_4_2, u_invS_4_2, u_oinit_3, u_max_3, u_min_3, u_invV_0_3, u_invI_0_3, u_invV_1_3, u_invI_1_3, u_invS_1_3, u_invV_2_3, u_invS_2_3, u_invV_3_3, u_invS_3_3, u_invV_4_3, u_invS_4_3, u_oinit_4, u_max_4, u_min_4, u_invV_0_4, u_invI_0_4, u_invV_1_4, u_invI_1_4, u_invS_1_4, u_invV_2_4, u_invS_2_4, u_invV_3_4, u_invS_3_4, u_invV_4_4, u_invS_4_4, u_ret1, u_ret0, u_bs, ↓reduceIte, if_true, if_false, Option.toList_none, Option.toList_some, List.nil_append, List.cons_append, true_or, or_true, false_or, or_false, not_true_eq_false, not_false_eq_true, and_true, true_and, and_false, false_and, p_sw, Nat.reduceEqDiff, Nat.reduceLeDiff, Nat.reduceAdd, Nat.reduceSub, Nat.reduceMul, eq_self, rv_4, gR_4_0, gR_4_1, gI_4_2, gR_4_3, gR_4_4, gR_4_5, gR_4_6, gR_4_7, rv_5, gR_5_0, gR_5_1, gR_5_2, gR_5_3, gR_5_4, gI_5_5, gI_5_6, rv_15, gR_15_0, gI_15_1, gI_15_2, gI_15_3, gI_15_4, gI_15_5, rv_16, gR_16_0, gI_16_1, rv_18, gR_18_0, gR_18_1, gR_18_2, gR_18_3, gR_18_4, gI_18_5, gI_18_6, rv_24, gR_24_0, gR_24_1, gR_24_2, gR_24_3, gR_24_4, gI_24_5, gI_24_6, rv_30, gR_30_0, gR_30_1, gR_30_2, gR_30_3, gR_30_4, gI_30_5, gI_30_6, rv_36, gR_36_0, gR_36_1, gR_36_2, gR_36_3, gR_36_4, gI_36_5, gI_36_6, rv_42, gR_42_0, gR_42_1, gR_42_2, gR_42_3, gR_42_4, gI_42_5, gI_42_6, rv_48, gR_48_0, gR_48_1, gR_48_2, gR_48_3, gR_48_4, gI_48_5, gI_48_6, rv_54, gR_54_0, gR_54_1, gR_54_2, gR_54_3, gR_54_4, gI_54_5, gI_54_6, rv_60, gR_60_0, gR_60_1, gR_60_2, gR_60_3, gR_60_4, gI_60_5, gI_60_6, rv_66, gR_66_0, gR_66_1, gR_66_2, gR_66_3, gR_66_4, gI_66_5, gI_66_6, rv_72, gI_72_0, gI_72_1, gR_72_2, gR_72_3, gR_72_4, gR_72_5, rv_77, gI_77_0, gI_77_1, gR_77_2, gR_77_3, gR_77_4, gR_77_5, rv_82, gI_82_0, gI_82_1, gR_82_2, gR_82_3, gR_82_4, gR_82_5, rv_87, gI_87_0, gI_87_1, gR_87_2, gR_87_3, gR_87_4, gR_87_5, rv_92, gI_92_0, gI_92_1, gR_92_2, gR_92_3, gR_92_4, gR_92_5, rv_97, gI_97_0, gI_97_1, gR_97_2, gR_97_3, gR_97_4, gR_97_5, T0, q2, z1, z2]
        · have z3 : S.b.F = 5 := by
            rw [aLt (by omega) (by omega)] at z1
            rw [aLe (by omega) (by omega)] at z2
            omega
          rw [z3] at q3
          simp only [S78_0, S78_32, u_push, u_goto, u_gets, u_iadd, u_isub, u_imul, u_iand, u_ior, u_ixor, u_ishl, u_ishr, u_iushr, u_land, u_lor, u_ladd, u_lmul, u_lcmp, u_lushr, u_lshl, u_i2l, u_l2i, u_dupr, u_dup2i, u_popi, u_idiv, u_irem, u_ifeq, u_iceq, u_ifne, u_icne, u_iflt, u_iclt, u_ifge, u_icge, u_ifgt, u_icgt, u_ifle, u_icle, u_switch, u_iload_0, u_istore_0, u_aload_0, u_astore_0, u_iinc_0, u_iload_1, u_istore_1, u_aload_1, u_astore_1, u_lload_1, u_lstore_1, u_iinc_1, u_iload_2, u_istore_2, u_aload_2, u_astore_2, u_lload_2, u_lstore_2, u_iinc_2, u_iload_3, u_istore_3, u_aload_3, u_astore_3, u_lload_3, u_lstore_3, u_iinc_3, u_iload_4, u_istore_4, u_aload_4, u_astore_4, u_lload_4, u_lstore_4, u_iinc_4, u_iload_5, u_istore_5, u_aload_5, u_astore_5, u_lload_5, u_lstore_5, u_iinc_5, u_iload_6, u_istore_6, u_aload_6, u_astore_6, u_iinc_6, u_iload_7, u_istore_7, u_aload_7, u_astore_7, u_iinc_7, u_iload_8, u_istore_8, u_aload_8, u_astore_8, u_iinc_8, u_iload_9, u_istore_9, u_aload_9, u_astore_9, u_lload_9, u_lstore_9, u_iinc_9, u_iload_10, u_istore_10, u_aload_10, u_astore_10, u_iinc_10, u_iload_11, u_istore_11, u_aload_11, u_astore_11, u_iinc_11, u_iload_12, u_istore_12, u_aload_12, u_astore_12, u_iinc_12, u_iload_13, u_istore_13, u_aload_13, u_astore_13, u_iinc_13, u_iret, u_zret, u_aret, u_vret, u_lret, u_getI, u_getR, u_putI, u_putZ, u_putR, u_iald, u_zald, u_aald, u_iast, u_zast, u_aast, u_alen, u_newa, u_newq, u_new, u_oinit_0, u_max_0, u_min_0, u_copy_0, u_invV_0_0, u_invI_0_0, u_invV_1_0, u_invI_1_0, u_invS_1_0, u_invV_2_0, u_invS_2_0, u_invV_3_0, u_invS_3_0, u_invV_4_0, u_invS_4_0, u_oinit_1, u_max_1, u_min_1, u_invV_0_1, u_invI_0_1, u_invV_1_1, u_invI_1_1, u_invS_1_1, u_invV_2_1, u_invS_2_1, u_invV_3_1, u_invS_3_1, u_invV_4_1, u_invS_4_1, u_oinit_2, u_max_2, u_min_2, u_invV_0_2, u_invI_0_2, u_invV_1_2, u_invI_1_2, u_invS_1_2, u_invV_2_2, u_invS_2_2, u_invV_3_2, u_invS_3_2, u_invV_4_2, u_invS_4_2, u_oinit_3, u_max_3, u_min_3, u_invV_0_3, u_invI_0_3, u_invV_1_3, u_invI_1_3, u_invS_1_3, u_invV_2_3, u_invS_2_3, u_invV_3_3, u_invS_3_3, u_invV_4_3, u_invS_4_3, u_oinit_4, u_max_4, u_min_4, u_invV_0_4, u_invI_0_4, u_invV_1_4, u_invI_1_4, u_invS_1_4, u_invV_2_4, u_invS_2_4, u_invV_3_4, u_invS_3_4, u_invV_4_4, u_invS_4_4, u_ret1, u_ret0, u_bs, ↓reduceIte, if_true, if_false, Option.toList_none, Option.toList_some, List.nil_append, List.cons_append, true_or, or_true, false_or, or_false, not_true_eq_false, not_false_eq_true, and_true, true_and, and_false, false_and, p_sw, Nat.reduceEqDiff, Nat.reduceLeDiff, Nat.reduceAdd, Nat.reduceSub, Nat.reduceMul, eq_self, rv_4, gR_4_0, gR_4_1, gI_4_2, gR_4_3, gR_4_4, gR_4_5, gR_4_6, gR_4_7, rv_5, gR_5_0, gR_5_1, gR_5_2, gR_5_3, gR_5_4, gI_5_5, gI_5_6, rv_15, gR_15_0, gI_15_1, gI_15_2, gI_15_3, gI_15_4, gI_15_5, rv_16, gR_16_0, gI_16_1, rv_18, gR_18_0, gR_18_1, gR_18_2, gR_18_3, gR_18_4, gI_18_5, gI_18_6, rv_24, gR_24_0, gR_24_1, gR_24_2, gR_24_3, gR_24_4, gI_24_5, gI_24_6, rv_30, gR_30_0, gR_30_1, gR_30_2, gR_30_3, gR_30_4, gI_30_5, gI_30_6, rv_36, gR_36_0, gR_36_1, gR_36_2, gR_36_3, gR_36_4, gI_36_5, gI_36_6, rv_42, gR_42_0, gR_42_1, gR_42_2, gR_42_3, gR_42_4, gI_42_5, gI_42_6, rv_48, gR_48_0, gR_48_1, gR_48_2, gR_48_3, gR_48_4, gI_48_5, gI_48_6, rv_54, gR_54_0, gR_54_1, gR_54_2, gR_54_3, gR_54_4, gI_54_5, gI_54_6, rv_60, gR_60_0, gR_60_1, gR_60_2, gR_60_3, gR_60_4, gI_60_5, gI_60_6, rv_66, gR_66_0, gR_66_1, gR_66_2, gR_66_3, gR_66_4, gI_66_5, gI_66_6, rv_72, gI_72_0, gI_72_1, gR_72_2, gR_72_3, gR_72_4, gR_72_5, rv_77, gI_77_0, gI_77_1, gR_77_2, gR_77_3, gR_77_4, gR_77_5, rv_82, gI_82_0, gI_82_1, gR_82_2, gR_82_3, gR_82_4, gR_82_5, rv_87, gI_87_0, gI_87_1, gR_87_2, gR_87_3, gR_87_4, gR_87_5, rv_92, gI_92_0, gI_92_1, gR_92_2, gR_92_3, gR_92_4, gR_92_5, rv_97, gI_97_0, gI_97_1, gR_97_2, gR_97_3, gR_97_4, gR_97_5, T0, q2, q3, z1, z2]
    refine ⟨w1, h1, S, ?_, O1, hI⟩
    rw [up]
    rcases hf with e2 | e2
    · rw [e2] at X
      have X : p_K (dd + 7) 42 [.ref 4, .int (nI g)] (hp L xs w h) = some (some (.int (nM 2)), hp L xs w1 h1) := X
      simp (decide := true) only [S78_43, S78_102, S78_106, S78_107, u_push, u_goto, u_gets, u_iadd, u_isub, u_imul, u_iand, u_ior, u_ixor, u_ishl, u_ishr, u_iushr, u_land, u_lor, u_ladd, u_lmul, u_lcmp, u_lushr, u_lshl, u_i2l, u_l2i, u_dupr, u_dup2i, u_popi, u_idiv, u_irem, u_ifeq, u_iceq, u_ifne, u_icne, u_iflt, u_iclt, u_ifge, u_icge, u_ifgt, u_icgt, u_ifle, u_icle, u_switch, u_iload_0, u_istore_0, u_aload_0, u_astore_0, u_iinc_0, u_iload_1, u_istore_1, u_aload_1, u_astore_1, u_lload_1, u_lstore_1, u_iinc_1, u_iload_2, u_istore_2, u_aload_2, u_astore_2, u_lload_2, u_lstore_2, u_iinc_2, u_iload_3, u_istore_3, u_aload_3, u_astore_3, u_lload_3, u_lstore_3, u_iinc_3, u_iload_4, u_istore_4, u_aload_4, u_astore_4, u_lload_4, u_lstore_4, u_iinc_4, u_iload_5, u_istore_5, u_aload_5, u_astore_5, u_lload_5, u_lstore_5, u_iinc_5, u_iload_6, u_istore_6, u_aload_6, u_astore_6, u_iinc_6, u_iload_7, u_istore_7, u_aload_7, u_astore_7, u_iinc_7, u_iload_8, u_istore_8, u_aload_8, u_astore_8, u_iinc_8, u_iload_9, u_istore_9, u_aload_9, u_astore_9, u_lload_9, u_lstore_9, u_iinc_9, u_iload_10, u_istore_10, u_aload_10, u_astore_10, u_iinc_10, u_iload_11, u_istore_11, u_aload_11, u_astore_11, u_iinc_11, u_iload_12, u_istore_12, u_aload_12, u_astore_12, u_iinc_12, u_iload_13, u_istore_13, u_aload_13, u_astore_13, u_iinc_13, u_iret, u_zret, u_aret, u_vret, u_lret, u_getI, u_getR, u_putI, u_putZ, u_putR, u_iald, u_zald, u_aald, u_iast, u_zast, u_aast, u_alen, u_newa, u_newq, u_new, u_oinit_0, u_max_0, u_min_0, u_copy_0, u_invV_0_0, u_invI_0_0, u_invV_1_0, u_invI_1_0, u_invS_1_0, u_invV_2_0, u_invS_2_0, u_invV_3_0, u_invS_3_0, u_invV_4_0, u_invS_4_0, u_oinit_1, u_max_1, u_min_1, u_invV_0_1, u_invI_0_1, u_invV_1_1, u_invI_1_1, u_invS_1_1, u_invV_2_1, u_invS_2_1, u_invV_3_1, u_invS_3_1, u_invV_4_1, u_invS_4_1, u_oinit_2, u_max_2, u_min_2, u_invV_0_2, u_invI_0_2, u_invV_1_2, u_invI_1_2, u_invS_1_2, u_invV_2_2, u_invS_2_2, u_invV_3_2, u_invS_3_2, u_invV_4_2, u_invS_4_2, u_oinit_3, u_max_3, u_min_3, u_invV_0_3, u_invI_0_3, u_invV_1_3, u_invI_1_3, u_invS_1_3, u_invV_2_3, u_invS_2_3, u_invV_3_3, u_invS_3_3, u_invV_4_3, u_invS_4_3, u_oinit_4, u_max_4, u_min_4, u_invV_0_4, u_invI_0_4, u_invV_1_4, u_invI_1_4, u_invS_1_4, u_invV_2_4, u_invS_2_4, u_invV_3_4, u_invS_3_4, u_invV_4_4, u_invS_4_4, u_ret1, u_ret0, u_bs, ↓reduceIte, if_true, if_false, Option.toList_none, Option.toList_some, List.nil_append, List.cons_append, true_or, or_true, false_or, or_false, not_true_eq_false, not_false_eq_true, and_true, true_and, and_false, false_and, p_sw, Nat.reduceEqDiff, Nat.reduceLeDiff, Nat.reduceAdd, Nat.reduceSub, Nat.reduceMul, eq_self, rv_4, gR_4_0, gR_4_1, gI_4_2, gR_4_3, gR_4_4, gR_4_5, gR_4_6, gR_4_7, rv_5, gR_5_0, gR_5_1, gR_5_2, gR_5_3, gR_5_4, gI_5_5, gI_5_6, rv_15, gR_15_0, gI_15_1, gI_15_2, gI_15_3, gI_15_4, gI_15_5, rv_16, gR_16_0, gI_16_1, rv_18, gR_18_0, gR_18_1, gR_18_2, gR_18_3, gR_18_4, gI_18_5, gI_18_6, rv_24, gR_24_0, gR_24_1, gR_24_2, gR_24_3, gR_24_4, gI_24_5, gI_24_6, rv_30, gR_30_0, gR_30_1, gR_30_2, gR_30_3, gR_30_4, gI_30_5, gI_30_6, rv_36, gR_36_0, gR_36_1, gR_36_2, gR_36_3, gR_36_4, gI_36_5, gI_36_6, rv_42, gR_42_0, gR_42_1, gR_42_2, gR_42_3, gR_42_4, gI_42_5, gI_42_6, rv_48, gR_48_0, gR_48_1, gR_48_2, gR_48_3, gR_48_4, gI_48_5, gI_48_6, rv_54, gR_54_0, gR_54_1, gR_54_2, gR_54_3, gR_54_4, gI_54_5, gI_54_6, rv_60, gR_60_0, gR_60_1, gR_60_2, gR_60_3, gR_60_4, gI_60_5, gI_60_6, rv_66, gR_66_0, gR_66_1, gR_66_2, gR_66_3, gR_66_4, gI_66_5, gI_66_6, rv_72, gI_72_0, gI_72_1, gR_72_2, gR_72_3, gR_72_4, gR_72_5, rv_77, gI_77_0, gI_77_1, gR_77_2, gR_77_3, gR_77_4, gR_77_5, rv_82, gI_82_0, gI_82_1, gR_82_2, gR_82_3, gR_82_4, gR_82_5, rv_87, gI_87_0, gI_87_1, gR_87_2, gR_87_3, gR_87_4, gR_87_5, rv_92, gI_92_0, gI_92_1, gR_92_2, gR_92_3, gR_92_4, gR_92_5, rv_97, gI_97_0, gI_97_1, gR_97_2, gR_97_3, gR_97_4, gR_97_5, X, T1, lg_same]
    · rw [e2] at X
      have X : p_K (dd + 7) 42 [.ref 4, .int (nI g)] (hp L xs w h) = some (some (.int (nM 4)), hp L xs w1 h1) := X
      simp (decide := true) only [S78_43, S78_102, S78_106, S78_107, u_push, u_goto, u_gets, u_iadd, u_isub, u_imul, u_iand, u_ior, u_ixor, u_ishl, u_ishr, u_iushr, u_land, u_lor, u_ladd, u_lmul, u_lcmp, u_lushr, u_lshl, u_i2l, u_l2i, u_dupr, u_dup2i, u_popi, u_idiv, u_irem, u_ifeq, u_iceq, u_ifne, u_icne, u_iflt, u_iclt, u_ifge, u_icge, u_ifgt, u_icgt, u_ifle, u_icle, u_switch, u_iload_0, u_istore_0, u_aload_0, u_astore_0, u_iinc_0, u_iload_1, u_istore_1, u_aload_1, u_astore_1, u_lload_1, u_lstore_1, u_iinc_1, u_iload_2, u_istore_2, u_aload_2, u_astore_2, u_lload_2, u_lstore_2, u_iinc_2, u_iload_3, u_istore_3, u_aload_3, u_astore_3, u_lload_3, u_lstore_3, u_iinc_3, u_iload_4, u_istore_4, u_aload_4, u_astore_4, u_lload_4, u_lstore_4, u_iinc_4, u_iload_5, u_istore_5, u_aload_5, u_astore_5, u_lload_5, u_lstore_5, u_iinc_5, u_iload_6, u_istore_6, u_aload_6, u_astore_6, u_iinc_6, u_iload_7, u_istore_7, u_aload_7, u_astore_7, u_iinc_7, u_iload_8, u_istore_8, u_aload_8, u_astore_8, u_iinc_8, u_iload_9, u_istore_9, u_aload_9, u_astore_9, u_lload_9, u_lstore_9, u_iinc_9, u_iload_10, u_istore_10, u_aload_10, u_astore_10, u_iinc_10, u_iload_11, u_istore_11, u_aload_11, u_astore_11, u_iinc_11, u_iload_12, u_istore_12, u_aload_12, u_astore_12, u_iinc_12, u_iload_13, u_istore_13, u_aload_13, u_astore_13, u_iinc_13, u_iret, u_zret, u_aret, u_vret, u_lret, u_getI, u_getR, u_putI, u_putZ, u_putR, u_iald, u_zald, u_aald, u_iast, u_zast, u_aast, u_alen, u_newa, u_newq, u_new, u_oinit_0, u_max_0, u_min_0, u_copy_0, u_invV_0_0, u_invI_0_0, u_invV_1_0, u_invI_1_0, u_invS_1_0, u_invV_2_0, u_invS_2_0, u_invV_3_0, u_invS_3_0, u_invV_4_0, u_invS_4_0, u_oinit_1, u_max_1, u_min_1, u_invV_0_1, u_invI_0_1, u_invV_1_1, u_invI_1_1, u_invS_1_1, u_invV_2_1, u_invS_2_1, u_invV_3_1, u_invS_3_1, u_invV_4_1, u_invS_4_1, u_oinit_2, u_max_2, u_min_2, u_invV_0_2, u_invI_0_2, u_invV_1_2, u_invI_1_2, u_invS_1_2, u_invV_2_2, u_invS_2_2, u_invV_3_2, u_invS_3_2, u_invV_4_2, u_invS_4_2, u_oinit_3, u_max_3, u_min_3, u_invV_0_3, u_invI_0_3, u_invV_1_3, u_invI_1_3, u_invS_1_3, u_invV_2_3, u_invS_2_3, u_invV_3_3, u_invS_3_3, u_invV_4_3, u_invS_4_3, u_oinit_4, u_max_4, u_min_4, u_invV_0_4, u_invI_0_4, u_invV_1_4, u_invI_1_4, u_invS_1_4, u_invV_2_4, u_invS_2_4, u_invV_3_4, u_invS_3_4, u_invV_4_4, u_invS_4_4, u_ret1, u_ret0, u_bs, ↓reduceIte, if_true, if_false, Option.toList_none, Option.toList_some, List.nil_append, List.cons_append, true_or, or_true, false_or, or_false, not_true_eq_false, not_false_eq_true, and_true, true_and, and_false, false_and, p_sw, Nat.reduceEqDiff, Nat.reduceLeDiff, Nat.reduceAdd, Nat.reduceSub, Nat.reduceMul, eq_self, rv_4, gR_4_0, gR_4_1, gI_4_2, gR_4_3, gR_4_4, gR_4_5, gR_4_6, gR_4_7, rv_5, gR_5_0, gR_5_1, gR_5_2, gR_5_3, gR_5_4, gI_5_5, gI_5_6, rv_15, gR_15_0, gI_15_1, gI_15_2, gI_15_3, gI_15_4, gI_15_5, rv_16, gR_16_0, gI_16_1, rv_18, gR_18_0, gR_18_1, gR_18_2, gR_18_3, gR_18_4, gI_18_5, gI_18_6, rv_24, gR_24_0, gR_24_1, gR_24_2, gR_24_3, gR_24_4, gI_24_5, gI_24_6, rv_30, gR_30_0, gR_30_1, gR_30_2, gR_30_3, gR_30_4, gI_30_5, gI_30_6, rv_36, gR_36_0, gR_36_1, gR_36_2, gR_36_3, gR_36_4, gI_36_5, gI_36_6, rv_42, gR_42_0, gR_42_1, gR_42_2, gR_42_3, gR_42_4, gI_42_5, gI_42_6, rv_48, gR_48_0, gR_48_1, gR_48_2, gR_48_3, gR_48_4, gI_48_5, gI_48_6, rv_54, gR_54_0, gR_54_1, gR_54_2, gR_54_3, gR_54_4, gI_54_5, gI_54_6, rv_60, gR_60_0, gR_60_1, gR_60_2, gR_60_3, gR_60_4, gI_60_5, gI_60_6, rv_66, gR_66_0, gR_66_1, gR_66_2, gR_66_3, gR_66_4, gI_66_5, gI_66_6, rv_72, gI_72_0, gI_72_1, gR_72_2, gR_72_3, gR_72_4, gR_72_5, rv_77, gI_77_0, gI_77_1, gR_77_2, gR_77_3, gR_77_4, gR_77_5, rv_82, gI_82_0, gI_82_1, gR_82_2, gR_82_3, gR_82_4, gR_82_5, rv_87, gI_87_0, gI_87_1, gR_87_2, gR_87_3, gR_87_4, gR_87_5, rv_92, gI_92_0, gI_92_1, gR_92_2, gR_92_3, gR_92_4, gR_92_5, rv_97, gI_97_0, gI_97_1, gR_97_2, gR_97_3, gR_97_4, gR_97_5, X, T1, lg_same]
  · -- a fold that there is
    have g1 : 1 ≤ g := by omega
    have g2 : g < lLen (BL S.b) := by omega
    have hF4 : S.b.F < 5 := by omega
    have hfo := foesIn_le S.b (lFold (BL S.b) g)
    obtain ⟨wi, hi, Xi, Oi, -⟩ := o_if (L := L) (xs := xs) (dd + 1) hO (nI g) (nI 0)
    have ei : sIf S.b (nI g) (nI 0) = nI (foesIn S.b (lFold (BL S.b) g)) := by
      unfold sIf
      rw [gap_nI hl g1 g2]
      show (if nI 0 < nI 0 ∨ nI 4 < nI 0 then nM 2 else if 5 ≤ S.b.F then nM 4 else if nI 0 = nI 0 then nI (foesIn S.b (lFold (BL S.b) g)) else _) = _
      rw [if_neg (by decide), if_neg (by omega), if_pos rfl]
    rw [ei] at Xi
    have Oi : OI wi hi S := Oi
    have up : p_Y 78 (p_K (dd + 7)) 0 [some (.ref 4), some (.int (nI g)), none, none, none, none, none, none] [] (hp L xs w h) = p_Y 78 (p_K (dd + 7)) 43 [some (.ref 4), some (.int (nI g)), some (.long (sTold S)), none, some (.int (nI (lLen (BL S.b)))), none, none, none] [.int (nI (foesIn S.b (lFold (BL S.b) g)))] (hp L xs wi hi) := by
      have z1 : ¬ nI g < nI 1 := by rw [aLt (by omega) (by omega)]; omega
      have z2 : ¬ nI (lLen (BL S.b)) ≤ nI g := by rw [aLe (by omega) (by omega)]; omega
      have z3 : ¬ nI S.b.F = nI 5 := by rw [aEq (by omega) (by omega)]; omega
      simp only [S78_0, S78_32, u_push, u_goto, u_gets, u_iadd, u_isub, u_imul, u_iand, u_ior, u_ixor, u_ishl, u_ishr, u_iushr, u_land, u_lor, u_ladd, u_lmul, u_lcmp, u_lushr, u_lshl, u_i2l, u_l2i, u_dupr, u_dup2i, u_popi, u_idiv, u_irem, u_ifeq, u_iceq, u_ifne, u_icne, u_iflt, u_iclt, u_ifge, u_icge, u_ifgt, u_icgt, u_ifle, u_icle, u_switch, u_iload_0, u_istore_0, u_aload_0, u_astore_0, u_iinc_0, u_iload_1, u_istore_1, u_aload_1, u_astore_1, u_lload_1, u_lstore_1, u_iinc_1, u_iload_2, u_istore_2, u_aload_2, u_astore_2, u_lload_2, u_lstore_2, u_iinc_2, u_iload_3, u_istore_3, u_aload_3, u_astore_3, u_lload_3, u_lstore_3, u_iinc_3, u_iload_4, u_istore_4, u_aload_4, u_astore_4, u_lload_4, u_lstore_4, u_iinc_4, u_iload_5, u_istore_5, u_aload_5, u_astore_5, u_lload_5, u_lstore_5, u_iinc_5, u_iload_6, u_istore_6, u_aload_6, u_astore_6, u_iinc_6, u_iload_7, u_istore_7, u_aload_7, u_astore_7, u_iinc_7, u_iload_8, u_istore_8, u_aload_8, u_astore_8, u_iinc_8, u_iload_9, u_istore_9, u_aload_9, u_astore_9, u_lload_9, u_lstore_9, u_iinc_9, u_iload_10, u_istore_10, u_aload_10, u_astore_10, u_iinc_10, u_iload_11, u_istore_11, u_aload_11, u_astore_11, u_iinc_11, u_iload_12, u_istore_12, u_aload_12, u_astore_12, u_iinc_12, u_iload_13, u_istore_13, u_aload_13, u_astore_13, u_iinc_13, u_iret, u_zret, u_aret, u_vret, u_lret, u_getI, u_getR, u_putI, u_putZ, u_putR, u_iald, u_zald, u_aald, u_iast, u_zast, u_aast, u_alen, u_newa, u_newq, u_new, u_oinit_0, u_max_0, u_min_0, u_copy_0, u_invV_0_0, u_invI_0_0, u_invV_1_0, u_invI_1_0, u_invS_1_0, u_invV_2_0, u_invS_2_0, u_invV_3_0, u_invS_3_0, u_invV_4_0, u_invS_4_0, u_oinit_1, u_max_1, u_min_1, u_invV_0_1, u_invI_0_1, u_invV_1_1, u_invI_1_1, u_invS_1_1, u_invV_2_1, u_invS_2_1, u_invV_3_1, u_invS_3_1, u_invV_4_1, u_invS_4_1, u_oinit_2, u_max_2, u_min_2, u_invV_0_2, u_invI_0_2, u_invV_1_2, u_invI_1_2, u_invS_1_2, u_invV_2_2, u_invS_2_2, u_invV_3_2, u_invS_3_2, u_invV_4_2, u_invS_4_2, u_oinit_3, u_max_3, u_min_3, u_invV_0_3, u_invI_0_3, u_invV_1_3, u_invI_1_3, u_invS_1_3, u_invV_2_3, u_invS_2_3, u_invV_3_3, u_invS_3_3, u_invV_4_3, u_invS_4_3, u_oinit_4, u_max_4, u_min_4, u_invV_0_4, u_invI_0_4, u_invV_1_4, u_invI_1_4, u_invS_1_4, u_invV_2_4, u_invS_2_4, u_invV_3_4, u_invS_3_4, u_invV_4_4, u_invS_4_4, u_ret1, u_ret0, u_bs, ↓reduceIte, if_true, if_false, Option.toList_none, Option.toList_some, List.nil_append, List.cons_append, true_or, or_true, false_or, or_false, not_true_eq_false, not_false_eq_true, and_true, true_and, and_false, false_and, p_sw, Nat.reduceEqDiff, Nat.reduceLeDiff, Nat.reduceAdd, Nat.reduceSub, Nat.reduceMul, eq_self, rv_4, gR_4_0, gR_4_1, gI_4_2, gR_4_3, gR_4_4, gR_4_5, gR_4_6, gR_4_7, rv_5, gR_5_0, gR_5_1, gR_5_2, gR_5_3, gR_5_4, gI_5_5, gI_5_6, rv_15, gR_15_0, gI_15_1, gI_15_2, gI_15_3, gI_15_4, gI_15_5, rv_16, gR_16_0, gI_16_1, rv_18, gR_18_0, gR_18_1, gR_18_2, gR_18_3, gR_18_4, gI_18_5, gI_18_6, rv_24, gR_24_0, gR_24_1, gR_24_2, gR_24_3, gR_24_4, gI_24_5, gI_24_6, rv_30, gR_30_0, gR_30_1, gR_30_2, gR_30_3, gR_30_4, gI_30_5, gI_30_6, rv_36, gR_36_0, gR_36_1, gR_36_2, gR_36_3, gR_36_4, gI_36_5, gI_36_6, rv_42, gR_42_0, gR_42_1, gR_42_2, gR_42_3, gR_42_4, gI_42_5, gI_42_6, rv_48, gR_48_0, gR_48_1, gR_48_2, gR_48_3, gR_48_4, gI_48_5, gI_48_6, rv_54, gR_54_0, gR_54_1, gR_54_2, gR_54_3, gR_54_4, gI_54_5, gI_54_6, rv_60, gR_60_0, gR_60_1, gR_60_2, gR_60_3, gR_60_4, gI_60_5, gI_60_6, rv_66, gR_66_0, gR_66_1, gR_66_2, gR_66_3, gR_66_4, gI_66_5, gI_66_6, rv_72, gI_72_0, gI_72_1, gR_72_2, gR_72_3, gR_72_4, gR_72_5, rv_77, gI_77_0, gI_77_1, gR_77_2, gR_77_3, gR_77_4, gR_77_5, rv_82, gI_82_0, gI_82_1, gR_82_2, gR_82_3, gR_82_4, gR_82_5, rv_87, gI_87_0, gI_87_1, gR_87_2, gR_87_3, gR_87_4, gR_87_5, rv_92, gI_92_0, gI_92_1, gR_92_2, gR_92_3, gR_92_4, gR_92_5, rv_97, gI_97_0, gI_97_1, gR_97_2, gR_97_3, gR_97_4, gR_97_5, T0, q2, q3, z1, z2, z3, Xi]
    obtain ⟨w1, h1, X, O1, -⟩ := o_fold (L := L) (xs := xs) (dd + 1) Oi (nI g)
    by_cases q : 0 < foesIn S.b (lFold (BL S.b) g)
    · -- foes would face
      have e2 : sFold S.b (nI g) = (nM 5, S.b) := by
        unfold sFold
        rw [gap_nI hl g1 g2]
        show (if 5 ≤ S.b.F then _ else if 0 < foesIn S.b (lFold (BL S.b) g) then (nM 5, S.b) else _) = _
        rw [if_neg (by omega), if_pos q]
      rw [e2] at X O1
      have ee : (recS S (nM 5, S.b)).2 = S := recS_err (x := (nM 5, S.b)) (err_bad (k := 5) (by decide)) rfl
      rw [ee] at O1
      have X : p_K (dd + 7) 42 [.ref 4, .int (nI g)] (hp L xs wi hi) = some (some (.int (nM 5)), hp L xs w1 h1) := X
      have T1 := c_told (L := L) (xs := xs) dd O1
      have z4 : ¬ nI (foesIn S.b (lFold (BL S.b) g)) ≤ nI 0 := by rw [aLe (by omega) (by omega)]; omega
      have z5 : ¬ nI (foesIn S.b (lFold (BL S.b) g)) = nM 9 := by rw [aNe (by omega) (by omega) (by omega)]; exact id
      refine ⟨w1, h1, S, ?_, O1, hI⟩
      rw [up]
      simp (decide := true) only [S78_43, S78_102, S78_106, S78_107, u_push, u_goto, u_gets, u_iadd, u_isub, u_imul, u_iand, u_ior, u_ixor, u_ishl, u_ishr, u_iushr, u_land, u_lor, u_ladd, u_lmul, u_lcmp, u_lushr, u_lshl, u_i2l, u_l2i, u_dupr, u_dup2i, u_popi, u_idiv, u_irem, u_ifeq, u_iceq, u_ifne, u_icne, u_iflt, u_iclt, u_ifge, u_icge, u_ifgt, u_icgt, u_ifle, u_icle, u_switch, u_iload_0, u_istore_0, u_aload_0, u_astore_0, u_iinc_0, u_iload_1, u_istore_1, u_aload_1, u_astore_1, u_lload_1, u_lstore_1, u_iinc_1, u_iload_2, u_istore_2, u_aload_2, u_astore_2, u_lload_2, u_lstore_2, u_iinc_2, u_iload_3, u_istore_3, u_aload_3, u_astore_3, u_lload_3, u_lstore_3, u_iinc_3, u_iload_4, u_istore_4, u_aload_4, u_astore_4, u_lload_4, u_lstore_4, u_iinc_4, u_iload_5, u_istore_5, u_aload_5, u_astore_5, u_lload_5, u_lstore_5, u_iinc_5, u_iload_6, u_istore_6, u_aload_6, u_astore_6, u_iinc_6, u_iload_7, u_istore_7, u_aload_7, u_astore_7, u_iinc_7, u_iload_8, u_istore_8, u_aload_8, u_astore_8, u_iinc_8, u_iload_9, u_istore_9, u_aload_9, u_astore_9, u_lload_9, u_lstore_9, u_iinc_9, u_iload_10, u_istore_10, u_aload_10, u_astore_10, u_iinc_10, u_iload_11, u_istore_11, u_aload_11, u_astore_11, u_iinc_11, u_iload_12, u_istore_12, u_aload_12, u_astore_12, u_iinc_12, u_iload_13, u_istore_13, u_aload_13, u_astore_13, u_iinc_13, u_iret, u_zret, u_aret, u_vret, u_lret, u_getI, u_getR, u_putI, u_putZ, u_putR, u_iald, u_zald, u_aald, u_iast, u_zast, u_aast, u_alen, u_newa, u_newq, u_new, u_oinit_0, u_max_0, u_min_0, u_copy_0, u_invV_0_0, u_invI_0_0, u_invV_1_0, u_invI_1_0, u_invS_1_0, u_invV_2_0, u_invS_2_0, u_invV_3_0, u_invS_3_0, u_invV_4_0, u_invS_4_0, u_oinit_1, u_max_1, u_min_1, u_invV_0_1, u_invI_0_1, u_invV_1_1, u_invI_1_1, u_invS_1_1, u_invV_2_1, u_invS_2_1, u_invV_3_1, u_invS_3_1, u_invV_4_1, u_invS_4_1, u_oinit_2, u_max_2, u_min_2, u_invV_0_2, u_invI_0_2, u_invV_1_2, u_invI_1_2, u_invS_1_2, u_invV_2_2, u_invS_2_2, u_invV_3_2, u_invS_3_2, u_invV_4_2, u_invS_4_2, u_oinit_3, u_max_3, u_min_3, u_invV_0_3, u_invI_0_3, u_invV_1_3, u_invI_1_3, u_invS_1_3, u_invV_2_3, u_invS_2_3, u_invV_3_3, u_invS_3_3, u_invV_4_3, u_invS_4_3, u_oinit_4, u_max_4, u_min_4, u_invV_0_4, u_invI_0_4, u_invV_1_4, u_invI_1_4, u_invS_1_4, u_invV_2_4, u_invS_2_4, u_invV_3_4, u_invS_3_4, u_invV_4_4, u_invS_4_4, u_ret1, u_ret0, u_bs, ↓reduceIte, if_true, if_false, Option.toList_none, Option.toList_some, List.nil_append, List.cons_append, true_or, or_true, false_or, or_false, not_true_eq_false, not_false_eq_true, and_true, true_and, and_false, false_and, p_sw, Nat.reduceEqDiff, Nat.reduceLeDiff, Nat.reduceAdd, Nat.reduceSub, Nat.reduceMul, eq_self, rv_4, gR_4_0, gR_4_1, gI_4_2, gR_4_3, gR_4_4, gR_4_5, gR_4_6, gR_4_7, rv_5, gR_5_0, gR_5_1, gR_5_2, gR_5_3, gR_5_4, gI_5_5, gI_5_6, rv_15, gR_15_0, gI_15_1, gI_15_2, gI_15_3, gI_15_4, gI_15_5, rv_16, gR_16_0, gI_16_1, rv_18, gR_18_0, gR_18_1, gR_18_2, gR_18_3, gR_18_4, gI_18_5, gI_18_6, rv_24, gR_24_0, gR_24_1, gR_24_2, gR_24_3, gR_24_4, gI_24_5, gI_24_6, rv_30, gR_30_0, gR_30_1, gR_30_2, gR_30_3, gR_30_4, gI_30_5, gI_30_6, rv_36, gR_36_0, gR_36_1, gR_36_2, gR_36_3, gR_36_4, gI_36_5, gI_36_6, rv_42, gR_42_0, gR_42_1, gR_42_2, gR_42_3, gR_42_4, gI_42_5, gI_42_6, rv_48, gR_48_0, gR_48_1, gR_48_2, gR_48_3, gR_48_4, gI_48_5, gI_48_6, rv_54, gR_54_0, gR_54_1, gR_54_2, gR_54_3, gR_54_4, gI_54_5, gI_54_6, rv_60, gR_60_0, gR_60_1, gR_60_2, gR_60_3, gR_60_4, gI_60_5, gI_60_6, rv_66, gR_66_0, gR_66_1, gR_66_2, gR_66_3, gR_66_4, gI_66_5, gI_66_6, rv_72, gI_72_0, gI_72_1, gR_72_2, gR_72_3, gR_72_4, gR_72_5, rv_77, gI_77_0, gI_77_1, gR_77_2, gR_77_3, gR_77_4, gR_77_5, rv_82, gI_82_0, gI_82_1, gR_82_2, gR_82_3, gR_82_4, gR_82_5, rv_87, gI_87_0, gI_87_1, gR_87_2, gR_87_3, gR_87_4, gR_87_5, rv_92, gI_92_0, gI_92_1, gR_92_2, gR_92_3, gR_92_4, gR_92_5, rv_97, gI_97_0, gI_97_1, gR_97_2, gR_97_3, gR_97_4, gR_97_5, X, T1, lg_same, z4, z5]
    · -- folded
      have hw := (lOk_fold hT g1 g2).2.1
      have q' : foesIn S.b (lFold (BL S.b) g) = 0 := by omega
      have e2 : sFold S.b (nI g) = (nI (lLen (lFold (BL S.b) g)), oneMore S.b g) := by
        unfold sFold
        rw [gap_nI hl g1 g2]
        show (if 5 ≤ S.b.F then _ else if 0 < foesIn S.b (lFold (BL S.b) g) then _ else (nI (lLen (lFold (BL S.b) g)), oneMore S.b g)) = _
        rw [if_neg (by omega), if_neg q]
      rw [e2] at X O1
      have k1 : errI (nI (lLen (lFold (BL S.b) g))) = false := err_nI (by omega)
      have k1' : ¬ nI (lLen (lFold (BL S.b) g)) < nI 0 := nI_pos (by omega)
      have k1'' : nI 0 ≤ nI (lLen (lFold (BL S.b) g)) := Int32.not_lt.mp k1'
      have X : p_K (dd + 7) 42 [.ref 4, .int (nI g)] (hp L xs wi hi) = some (some (.int (nI (lLen (lFold (BL S.b) g)))), hp L xs w1 h1) := X
      obtain ⟨u1, u2, u3⟩ := unf_more S.b g
      generalize hS1 : (recS S (nI (lLen (lFold (BL S.b) g)), oneMore S.b g)).2 = S1 at O1
      have b1 : S1.b = oneMore S.b g := by rw [← hS1]; rfl
      have p4 := q_count (L := L) (xs := xs) (dd + 1) O1 (nI 4)
      rw [sc_4, b1, BL_more] at p4
      have p4 : p_K (dd + 7) 48 [.ref 4, .int (nI 4)] (hp L xs w1 h1) = some (some (.int (nI (foesIn S.b (lFold (BL S.b) g)))), hp L xs w1 h1) := p4
      have p2 := q_count (L := L) (xs := xs) (dd + 1) O1 (nI 2)
      rw [sc_2, b1, BL_more] at p2
      obtain ⟨w2, h2, X2, O2, -⟩ := o_unfold (L := L) (xs := xs) (dd + 1) O1
      have hr1 : (recS S1 (sUnfold S1.b)).1 = nI g := by rw [b1]; exact u1
      rw [hr1] at X2
      have T2 := c_told (L := L) (xs := xs) dd O2
      have b2 : (recS S1 (sUnfold S1.b)).2.b = (sUnfold (oneMore S.b g)).2 := by rw [b1]; rfl
      have t2 : sTold (recS S1 (sUnfold S1.b)).2 = sTold S := sTold_c (by rw [b2]; exact u2)
      rw [t2] at T2
      have k2 : errI (sUnfold S1.b).1 = false := by
        rw [b1, u1]
        exact err_nI (by omega)
      have hI1 : IN S1 B0 := by
        rw [← hS1]
        exact IN_rec hI k1 hI.1
      have hI2 : IN (recS S1 (sUnfold S1.b)).2 B0 := IN_rec hI1 k2 (fun c => by rw [b1, u3]; exact hI.1 c)
      have b4 : (sUndo (sUndo (recS S1 (sUnfold S1.b)).2).2).2.b = S.b := by
        rw [← hS1]
        refine undo_two hK6 k1 ?_
        rw [hS1]
        exact k2
      generalize (recS S1 (sUnfold S1.b)).2 = S2 at O2 T2 t2 b2 hI2 b4
      obtain ⟨w3, h3, X3, O3, -⟩ := o_undo (L := L) (xs := xs) (dd + 1) O2
      have hI3 := IN_undo hI2
      obtain ⟨w4, h4, X4, O4, -⟩ := o_undo (L := L) (xs := xs) (dd + 1) O3
      have hI4 := IN_undo hI3
      have T4 := c_told (L := L) (xs := xs) dd O4
      have t4 : sTold (sUndo (sUndo S2).2).2 = sTold S := sTold_c (by rw [b4]; exact SB_r _)
      rw [t4] at T4
      refine ⟨w4, h4, _, ?_, O4, hI4⟩
      rw [up]
      rw [q'] at p4 ⊢
      simp (decide := true) only [S78_43, S78_152, S78_153, S78_183, S78_184, u_push, u_goto, u_gets, u_iadd, u_isub, u_imul, u_iand, u_ior, u_ixor, u_ishl, u_ishr, u_iushr, u_land, u_lor, u_ladd, u_lmul, u_lcmp, u_lushr, u_lshl, u_i2l, u_l2i, u_dupr, u_dup2i, u_popi, u_idiv, u_irem, u_ifeq, u_iceq, u_ifne, u_icne, u_iflt, u_iclt, u_ifge, u_icge, u_ifgt, u_icgt, u_ifle, u_icle, u_switch, u_iload_0, u_istore_0, u_aload_0, u_astore_0, u_iinc_0, u_iload_1, u_istore_1, u_aload_1, u_astore_1, u_lload_1, u_lstore_1, u_iinc_1, u_iload_2, u_istore_2, u_aload_2, u_astore_2, u_lload_2, u_lstore_2, u_iinc_2, u_iload_3, u_istore_3, u_aload_3, u_astore_3, u_lload_3, u_lstore_3, u_iinc_3, u_iload_4, u_istore_4, u_aload_4, u_astore_4, u_lload_4, u_lstore_4, u_iinc_4, u_iload_5, u_istore_5, u_aload_5, u_astore_5, u_lload_5, u_lstore_5, u_iinc_5, u_iload_6, u_istore_6, u_aload_6, u_astore_6, u_iinc_6, u_iload_7, u_istore_7, u_aload_7, u_astore_7, u_iinc_7, u_iload_8, u_istore_8, u_aload_8, u_astore_8, u_iinc_8, u_iload_9, u_istore_9, u_aload_9, u_astore_9, u_lload_9, u_lstore_9, u_iinc_9, u_iload_10, u_istore_10, u_aload_10, u_astore_10, u_iinc_10, u_iload_11, u_istore_11, u_aload_11, u_astore_11, u_iinc_11, u_iload_12, u_istore_12, u_aload_12, u_astore_12, u_iinc_12, u_iload_13, u_istore_13, u_aload_13, u_astore_13, u_iinc_13, u_iret, u_zret, u_aret, u_vret, u_lret, u_getI, u_getR, u_putI, u_putZ, u_putR, u_iald, u_zald, u_aald, u_iast, u_zast, u_aast, u_alen, u_newa, u_newq, u_new, u_oinit_0, u_max_0, u_min_0, u_copy_0, u_invV_0_0, u_invI_0_0, u_invV_1_0, u_invI_1_0, u_invS_1_0, u_invV_2_0, u_invS_2_0, u_invV_3_0, u_invS_3_0, u_invV_4_0, u_invS_4_0, u_oinit_1, u_max_1, u_min_1, u_invV_0_1, u_invI_0_1, u_invV_1_1, u_invI_1_1, u_invS_1_1, u_invV_2_1, u_invS_2_1, u_invV_3_1, u_invS_3_1, u_invV_4_1, u_invS_4_1, u_oinit_2, u_max_2, u_min_2, u_invV_0_2, u_invI_0_2, u_invV_1_2, u_invI_1_2, u_invS_1_2, u_invV_2_2, u_invS_2_2, u_invV_3_2, u_invS_3_2, u_invV_4_2, u_invS_4_2, u_oinit_3, u_max_3, u_min_3, u_invV_0_3, u_invI_0_3, u_invV_1_3, u_invI_1_3, u_invS_1_3, u_invV_2_3, u_invS_2_3, u_invV_3_3, u_invS_3_3, u_invV_4_3, u_invS_4_3, u_oinit_4, u_max_4, u_min_4, u_invV_0_4, u_invI_0_4, u_invV_1_4, u_invI_1_4, u_invS_1_4, u_invV_2_4, u_invS_2_4, u_invV_3_4, u_invS_3_4, u_invV_4_4, u_invS_4_4, u_ret1, u_ret0, u_bs, ↓reduceIte, if_true, if_false, Option.toList_none, Option.toList_some, List.nil_append, List.cons_append, true_or, or_true, false_or, or_false, not_true_eq_false, not_false_eq_true, and_true, true_and, and_false, false_and, p_sw, Nat.reduceEqDiff, Nat.reduceLeDiff, Nat.reduceAdd, Nat.reduceSub, Nat.reduceMul, eq_self, rv_4, gR_4_0, gR_4_1, gI_4_2, gR_4_3, gR_4_4, gR_4_5, gR_4_6, gR_4_7, rv_5, gR_5_0, gR_5_1, gR_5_2, gR_5_3, gR_5_4, gI_5_5, gI_5_6, rv_15, gR_15_0, gI_15_1, gI_15_2, gI_15_3, gI_15_4, gI_15_5, rv_16, gR_16_0, gI_16_1, rv_18, gR_18_0, gR_18_1, gR_18_2, gR_18_3, gR_18_4, gI_18_5, gI_18_6, rv_24, gR_24_0, gR_24_1, gR_24_2, gR_24_3, gR_24_4, gI_24_5, gI_24_6, rv_30, gR_30_0, gR_30_1, gR_30_2, gR_30_3, gR_30_4, gI_30_5, gI_30_6, rv_36, gR_36_0, gR_36_1, gR_36_2, gR_36_3, gR_36_4, gI_36_5, gI_36_6, rv_42, gR_42_0, gR_42_1, gR_42_2, gR_42_3, gR_42_4, gI_42_5, gI_42_6, rv_48, gR_48_0, gR_48_1, gR_48_2, gR_48_3, gR_48_4, gI_48_5, gI_48_6, rv_54, gR_54_0, gR_54_1, gR_54_2, gR_54_3, gR_54_4, gI_54_5, gI_54_6, rv_60, gR_60_0, gR_60_1, gR_60_2, gR_60_3, gR_60_4, gI_60_5, gI_60_6, rv_66, gR_66_0, gR_66_1, gR_66_2, gR_66_3, gR_66_4, gI_66_5, gI_66_6, rv_72, gI_72_0, gI_72_1, gR_72_2, gR_72_3, gR_72_4, gR_72_5, rv_77, gI_77_0, gI_77_1, gR_77_2, gR_77_3, gR_77_4, gR_77_5, rv_82, gI_82_0, gI_82_1, gR_82_2, gR_82_3, gR_82_4, gR_82_5, rv_87, gI_87_0, gI_87_1, gR_87_2, gR_87_3, gR_87_4, gR_87_5, rv_92, gI_92_0, gI_92_1, gR_92_2, gR_92_3, gR_92_4, gR_92_5, rv_97, gI_97_0, gI_97_1, gR_97_2, gR_97_3, gR_97_4, gR_97_5, X, p4, p2, X2, X3, X4, T2, T4, lg_same, k1', k1'']
end isf
