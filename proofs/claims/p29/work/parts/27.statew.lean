/-! the class State, written -/
def siX (si : Nat → Option Nat) (a b : Nat) : Nat → Option Nat := fun s => if s = a then si b else if s = b then si a else si s
def r1 (r : Nat → Nat → Int32) (c o : Nat) (how : Int32) : Nat → Nat → Int32 := fun a b => if a = c ∧ b = o then how else r a b
theorem bt_m1 : ∀ i, i < 32 → bt (nM 1) i = true := b_m1
theorem p_cp_at {σ : pH} {a0 a n0 n1 k : Nat} {f g : Nat → Int32} (h0 : σ[a0]? = some (.inl (0, n0, f))) (h1 : σ[a]? = some (.inl (0, n1, g))) (h4 : 4 ≤ a0) (h4' : 4 ≤ a) (hk0 : k ≤ n0) (hk1 : k ≤ n1) (hk : k ≤ 2000) : p_cp σ a0 (nI 0) a (nI 0) (nI k) = some (σ.set a (.inl (0, n1, va_cpy f g 0 0 k))) := by
  unfold p_cp
  rw [h0, h1]
  have e0 : (nI 0).toNatClampNeg = 0 := rfl
  have ek : (nI k).toNatClampNeg = k := nI_clamp (by omega)
  have z0 : ¬ nI 0 < 0 := by decide
  have zk : ¬ nI k < 0 := nI_pos (by omega)
  show (if 0 = 0 ∧ 0 = 0 ∧ 4 ≤ a0 ∧ 4 ≤ a ∧ ¬ nI 0 < 0 ∧ ¬ nI 0 < 0 ∧ ¬ nI k < 0 ∧ (nI 0).toNatClampNeg + (nI k).toNatClampNeg ≤ n0 ∧ (nI 0).toNatClampNeg + (nI k).toNatClampNeg ≤ n1 then _ else none) = _
  rw [e0, ek, if_pos ⟨rfl, rfl, h4, h4', z0, z0, zk, by omega, by omega⟩]
theorem p_len_at {σ : pH} {a n : Nat} {f : Nat → Int32} (h : σ[a]? = some (.inl (0, n, f))) : p_len σ a = some n := by
  unfold p_len
  rw [h]
  rfl
section stw
variable {L : Nat} {xs : Nat → Int32} {w : Nat → Nat → Int32} {h : Nat → Option Nat} {n : Nat} {si : Nat → Option Nat} {r : Nat → Nat → Int32}
theorem mSet2 (w : Nat → Nat → Int32) (a : Nat) (f f' : Nat → Int32) : mSet (mSet w a f) a f' = mSet w a f' := by
  funext b
  unfold mSet
  by_cases q : b = a
  · rw [if_pos q, if_pos q]
  · rw [if_neg q, if_neg q, if_neg q]
theorem mSet_id (w : Nat → Nat → Int32) (a : Nat) : mSet w a (w a) = w := by
  funext b
  unfold mSet
  by_cases q : b = a
  · rw [if_pos q, q]
  · rw [if_neg q]
/-- what an exchange leaves -/
def xW (w : Nat → Nat → Int32) (a b : Nat) : Nat → Nat → Int32 := mSet w 7 (upd (upd (w 7) a (w 7 b)) b (w 7 a))
theorem xW_xW (w : Nat → Nat → Int32) (a b : Nat) : xW (xW w a b) a b = w := by
  unfold xW
  rw [mSet2, mSet_s]
  have e : upd (upd (upd (upd (w 7) a (w 7 b)) b (w 7 a)) a (upd (upd (w 7) a (w 7 b)) b (w 7 a) b)) b (upd (upd (w 7) a (w 7 b)) b (w 7 a) a) = w 7 := by
    funext s
    unfold upd
    by_cases q1 : s = a <;> by_cases q2 : s = b <;> by_cases q3 : a = b <;> simp_all
  rw [e, mSet_id]
theorem c_exchange (dd : Nat) {a b : Nat} (ha : a < 16) (hb : b < 16) : p_K (dd + 1) 26 [.ref 5, .int (nI a), .int (nI b)] (hp L xs w h) = some (none, hp L xs (xW w a b) h) := by
  rw [k26]
  simp (disch := omega) only [S26_0, u_push, u_goto, u_gets, u_iadd, u_isub, u_imul, u_iand, u_ior, u_ixor, u_ishl, u_ishr, u_iushr, u_land, u_lor, u_ladd, u_lmul, u_lcmp, u_lushr, u_lshl, u_i2l, u_l2i, u_dupr, u_dup2i, u_popi, u_idiv, u_irem, u_ifeq, u_iceq, u_ifne, u_icne, u_iflt, u_iclt, u_ifge, u_icge, u_ifgt, u_icgt, u_ifle, u_icle, u_switch, u_iload_0, u_istore_0, u_aload_0, u_astore_0, u_iinc_0, u_iload_1, u_istore_1, u_aload_1, u_astore_1, u_lload_1, u_lstore_1, u_iinc_1, u_iload_2, u_istore_2, u_aload_2, u_astore_2, u_lload_2, u_lstore_2, u_iinc_2, u_iload_3, u_istore_3, u_aload_3, u_astore_3, u_lload_3, u_lstore_3, u_iinc_3, u_iload_4, u_istore_4, u_aload_4, u_astore_4, u_lload_4, u_lstore_4, u_iinc_4, u_iload_5, u_istore_5, u_aload_5, u_astore_5, u_lload_5, u_lstore_5, u_iinc_5, u_iload_6, u_istore_6, u_aload_6, u_astore_6, u_iinc_6, u_iload_7, u_istore_7, u_aload_7, u_astore_7, u_iinc_7, u_iload_8, u_istore_8, u_aload_8, u_astore_8, u_iinc_8, u_iload_9, u_istore_9, u_aload_9, u_astore_9, u_lload_9, u_lstore_9, u_iinc_9, u_iload_10, u_istore_10, u_aload_10, u_astore_10, u_iinc_10, u_iload_11, u_istore_11, u_aload_11, u_astore_11, u_iinc_11, u_iload_12, u_istore_12, u_aload_12, u_astore_12, u_iinc_12, u_iload_13, u_istore_13, u_aload_13, u_astore_13, u_iinc_13, u_iret, u_zret, u_aret, u_vret, u_lret, u_getI, u_getR, u_putI, u_putZ, u_putR, u_iald, u_zald, u_aald, u_iast, u_zast, u_aast, u_alen, u_newa, u_newq, u_new, u_oinit_0, u_max_0, u_min_0, u_copy_0, u_invV_0_0, u_invI_0_0, u_invV_1_0, u_invI_1_0, u_invS_1_0, u_invV_2_0, u_invS_2_0, u_invV_3_0, u_invS_3_0, u_invV_4_0, u_invS_4_0, u_oinit_1, u_max_1, u_min_1, u_invV_0_1, u_invI_0_1, u_invV_1_1, u_invI_1_1, u_invS_1_1, u_invV_2_1, u_invS_2_1, u_invV_3_1, u_invS_3_1, u_invV_4_1, u_invS_4_1, u_oinit_2, u_max_2, u_min_2, u_invV_0_2, u_invI_0_2, u_invV_1_2, u_invI_1_2, u_invS_1_2, u_invV_2_2, u_invS_2_2, u_invV_3_2, u_invS_3_2, u_invV_4_2, u_invS_4_2, u_oinit_3, u_max_3, u_min_3, u_invV_0_3, u_invI_0_3, u_invV_1_3, u_invI_1_3, u_invS_1_3, u_invV_2_3, u_invS_2_3, u_invV_3_3, u_invS_3_3, u_invV_4_3, u_invS_4_3, u_oinit_4, u_max_4, u_min_4, u_invV_0_4, u_invI_0_4, u_invV_1_4, u_invI_1_4, u_invS_1_4, u_invV_2_4, u_invS_2_4, u_invV_3_4, u_invS_3_4, u_invV_4_4, u_invS_4_4, u_ret1, u_ret0, u_bs, ↓reduceIte, if_true, if_false, Option.toList_none, Option.toList_some, List.nil_append, List.cons_append, true_or, or_true, false_or, or_false, not_true_eq_false, not_false_eq_true, and_true, true_and, and_false, false_and, p_sw, Nat.reduceEqDiff, Nat.reduceLeDiff, Nat.reduceAdd, Nat.reduceSub, Nat.reduceMul, eq_self, rv_4, gR_4_0, gR_4_1, gI_4_2, gR_4_3, gR_4_4, gR_4_5, gR_4_6, gR_4_7, rv_5, gR_5_0, gR_5_1, gR_5_2, gR_5_3, gR_5_4, gI_5_5, gI_5_6, rv_15, gR_15_0, gI_15_1, gI_15_2, gI_15_3, gI_15_4, gI_15_5, rv_16, gR_16_0, gI_16_1, rv_18, gR_18_0, gR_18_1, gR_18_2, gR_18_3, gR_18_4, gI_18_5, gI_18_6, rv_24, gR_24_0, gR_24_1, gR_24_2, gR_24_3, gR_24_4, gI_24_5, gI_24_6, rv_30, gR_30_0, gR_30_1, gR_30_2, gR_30_3, gR_30_4, gI_30_5, gI_30_6, rv_36, gR_36_0, gR_36_1, gR_36_2, gR_36_3, gR_36_4, gI_36_5, gI_36_6, rv_42, gR_42_0, gR_42_1, gR_42_2, gR_42_3, gR_42_4, gI_42_5, gI_42_6, rv_48, gR_48_0, gR_48_1, gR_48_2, gR_48_3, gR_48_4, gI_48_5, gI_48_6, rv_54, gR_54_0, gR_54_1, gR_54_2, gR_54_3, gR_54_4, gI_54_5, gI_54_6, rv_60, gR_60_0, gR_60_1, gR_60_2, gR_60_3, gR_60_4, gI_60_5, gI_60_6, rv_66, gR_66_0, gR_66_1, gR_66_2, gR_66_3, gR_66_4, gI_66_5, gI_66_6, rv_72, gI_72_0, gI_72_1, gR_72_2, gR_72_3, gR_72_4, gR_72_5, rv_77, gI_77_0, gI_77_1, gR_77_2, gR_77_3, gR_77_4, gR_77_5, rv_82, gI_82_0, gI_82_1, gR_82_2, gR_82_3, gR_82_4, gR_82_5, rv_87, gI_87_0, gI_87_1, gR_87_2, gR_87_3, gR_87_4, gR_87_5, rv_92, gI_92_0, gI_92_1, gR_92_2, gR_92_3, gR_92_4, gR_92_5, rv_97, gI_97_0, gI_97_1, gR_97_2, gR_97_3, gR_97_4, gR_97_5, ld_7, st_7]
  unfold xW
  simp only [mUp, mSet2, mSet_s]
theorem xW_S {a b : Nat} (hS : cS w n si) (ha : a < n) (hb : b < n) : cS (xW w a b) n (siX si a b) := by
  obtain ⟨⟨h1, h2⟩, h3, h4⟩ := hS
  refine ⟨⟨h1, h2⟩, fun s hs => ?_, fun s c hc => ?_⟩
  · unfold xW siX
    rw [mSet_s]
    unfold upd
    have e1 := h3 a (by omega)
    have e2 := h3 b (by omega)
    have e3 := h3 s hs
    by_cases q1 : s = a <;> by_cases q2 : s = b <;> simp_all
  · unfold siX at hc
    split at hc
    · exact h4 _ _ hc
    · split at hc
      · exact h4 _ _ hc
      · exact h4 _ _ hc
theorem xW_n {a b c : Nat} (hc : c ≠ 7) : xW w a b c = w c := mSet_n w _ hc
theorem c_makeBe (dd : Nat) (hR : cR w r) {c o : Nat} (hc : c < 12) (ho : o < 12) {how : Int32} (hhow : how = nI 1 ∨ how = nI 0 ∨ how = nM 1) : ∃ w', p_K (dd + 1) 28 [.ref 5, .int (nI c), .int (nI o), .int how] (hp L xs w h) = some (none, hp L xs w' h) ∧ cR w' (r1 r c o how) ∧ ∀ b, b ≠ 8 → b ≠ 9 → w' b = w b := by
  obtain ⟨bit, hbit⟩ : ∃ x : Int32, x = nI 1 <<< (nI o &&& nI 31) := ⟨_, rfl⟩
  have hbb : ∀ i, i < 32 → bt bit i = decide (o = i) := fun i hi => by
    rw [hbit]
    have := bt_bitI (o := some o) (fun c hc => by cases hc; omega) hi
    rw [show bitI (some o) = nI 1 <<< (nI o &&& nI 31) from rfl] at this
    rw [this]
    simp
  have q1 : ∀ (b d : Nat) (f : Nat → Int32) (w : Nat → Nat → Int32), d ≠ b → mSet w b f d = w d := fun b d f w hb => mSet_n w f hb
  have key : ∀ X Y : Int32, (∀ i, i < 32 → bt X i = if i = o then decide (how = nI 1) else bt (w 8 c) i) → (∀ i, i < 32 → bt Y i = if i = o then decide (how = nM 1) else bt (w 9 c) i) → cR (mUp (mUp w 8 c X) 9 c Y) (r1 r c o how) := by
    intro X Y hX hY a ha
    obtain ⟨g1, g2⟩ := hR a ha
    obtain ⟨g3, g4⟩ := hR c hc
    refine ⟨fun i hi => ?_, fun i hi => ?_⟩
    · simp only [mUp]
      rw [mSet_n _ _ (show 8 ≠ 9 by decide), mSet_s]
      unfold upd r1
      by_cases z : a = c
      · subst z
        rw [if_pos rfl, hX i hi]
        by_cases z2 : i = o
        · subst z2
          simp [ho]
        · rw [if_neg z2, g1 i hi]
          simp [z2]
      · rw [if_neg z, g1 i hi]
        simp [z]
    · simp only [mUp]
      rw [mSet_s, mSet_n _ _ (show 9 ≠ 8 by decide)]
      unfold upd r1
      by_cases z : a = c
      · subst z
        rw [if_pos rfl, hY i hi]
        by_cases z2 : i = o
        · subst z2
          simp [ho]
        · rw [if_neg z2, g2 i hi]
          simp [z2]
      · rw [if_neg z, g2 i hi]
        simp [z]
  have on : ∀ x : Int32, ∀ i, i < 32 → bt (x ||| bit) i = if i = o then true else bt x i := fun x i hi => by
    rw [b_or, hbb i hi]
    by_cases z : i = o
    · subst z
      simp
    · rw [if_neg z, decide_eq_false (Ne.symm z), Bool.or_false]
  have off : ∀ x : Int32, ∀ i, i < 32 → bt (x &&& (bit ^^^ nM 1)) i = if i = o then false else bt x i := fun x i hi => by
    rw [b_and, b_xor, hbb i hi, bt_m1 i hi]
    by_cases z : i = o
    · subst z
      simp
    · rw [if_neg z, decide_eq_false (Ne.symm z)]
      simp
  have fin : ∀ X Y : Int32, ∀ b, b ≠ 8 → b ≠ 9 → mUp (mUp w 8 c X) 9 c Y b = w b := fun X Y b h8 h9 => by simp only [mUp]; rw [mSet_n _ _ h9, mSet_n _ _ h8]
  rcases hhow with rfl | rfl | rfl
  · refine ⟨mUp (mUp w 8 c (w 8 c ||| bit)) 9 c (w 9 c &&& (bit ^^^ nM 1)), ?_, key _ _ (fun i hi => ?_) (fun i hi => ?_), fin _ _⟩
    · rw [k28]
      simp (disch := omega) only [S28_0, S28_38, S28_72, u_push, u_goto, u_gets, u_iadd, u_isub, u_imul, u_iand, u_ior, u_ixor, u_ishl, u_ishr, u_iushr, u_land, u_lor, u_ladd, u_lmul, u_lcmp, u_lushr, u_lshl, u_i2l, u_l2i, u_dupr, u_dup2i, u_popi, u_idiv, u_irem, u_ifeq, u_iceq, u_ifne, u_icne, u_iflt, u_iclt, u_ifge, u_icge, u_ifgt, u_icgt, u_ifle, u_icle, u_switch, u_iload_0, u_istore_0, u_aload_0, u_astore_0, u_iinc_0, u_iload_1, u_istore_1, u_aload_1, u_astore_1, u_lload_1, u_lstore_1, u_iinc_1, u_iload_2, u_istore_2, u_aload_2, u_astore_2, u_lload_2, u_lstore_2, u_iinc_2, u_iload_3, u_istore_3, u_aload_3, u_astore_3, u_lload_3, u_lstore_3, u_iinc_3, u_iload_4, u_istore_4, u_aload_4, u_astore_4, u_lload_4, u_lstore_4, u_iinc_4, u_iload_5, u_istore_5, u_aload_5, u_astore_5, u_lload_5, u_lstore_5, u_iinc_5, u_iload_6, u_istore_6, u_aload_6, u_astore_6, u_iinc_6, u_iload_7, u_istore_7, u_aload_7, u_astore_7, u_iinc_7, u_iload_8, u_istore_8, u_aload_8, u_astore_8, u_iinc_8, u_iload_9, u_istore_9, u_aload_9, u_astore_9, u_lload_9, u_lstore_9, u_iinc_9, u_iload_10, u_istore_10, u_aload_10, u_astore_10, u_iinc_10, u_iload_11, u_istore_11, u_aload_11, u_astore_11, u_iinc_11, u_iload_12, u_istore_12, u_aload_12, u_astore_12, u_iinc_12, u_iload_13, u_istore_13, u_aload_13, u_astore_13, u_iinc_13, u_iret, u_zret, u_aret, u_vret, u_lret, u_getI, u_getR, u_putI, u_putZ, u_putR, u_iald, u_zald, u_aald, u_iast, u_zast, u_aast, u_alen, u_newa, u_newq, u_new, u_oinit_0, u_max_0, u_min_0, u_copy_0, u_invV_0_0, u_invI_0_0, u_invV_1_0, u_invI_1_0, u_invS_1_0, u_invV_2_0, u_invS_2_0, u_invV_3_0, u_invS_3_0, u_invV_4_0, u_invS_4_0, u_oinit_1, u_max_1, u_min_1, u_invV_0_1, u_invI_0_1, u_invV_1_1, u_invI_1_1, u_invS_1_1, u_invV_2_1, u_invS_2_1, u_invV_3_1, u_invS_3_1, u_invV_4_1, u_invS_4_1, u_oinit_2, u_max_2, u_min_2, u_invV_0_2, u_invI_0_2, u_invV_1_2, u_invI_1_2, u_invS_1_2, u_invV_2_2, u_invS_2_2, u_invV_3_2, u_invS_3_2, u_invV_4_2, u_invS_4_2, u_oinit_3, u_max_3, u_min_3, u_invV_0_3, u_invI_0_3, u_invV_1_3, u_invI_1_3, u_invS_1_3, u_invV_2_3, u_invS_2_3, u_invV_3_3, u_invS_3_3, u_invV_4_3, u_invS_4_3, u_oinit_4, u_max_4, u_min_4, u_invV_0_4, u_invI_0_4, u_invV_1_4, u_invI_1_4, u_invS_1_4, u_invV_2_4, u_invS_2_4, u_invV_3_4, u_invS_3_4, u_invV_4_4, u_invS_4_4, u_ret1, u_ret0, u_bs, ↓reduceIte, if_true, if_false, Option.toList_none, Option.toList_some, List.nil_append, List.cons_append, true_or, or_true, false_or, or_false, not_true_eq_false, not_false_eq_true, and_true, true_and, and_false, false_and, p_sw, Nat.reduceEqDiff, Nat.reduceLeDiff, Nat.reduceAdd, Nat.reduceSub, Nat.reduceMul, eq_self, rv_4, gR_4_0, gR_4_1, gI_4_2, gR_4_3, gR_4_4, gR_4_5, gR_4_6, gR_4_7, rv_5, gR_5_0, gR_5_1, gR_5_2, gR_5_3, gR_5_4, gI_5_5, gI_5_6, rv_15, gR_15_0, gI_15_1, gI_15_2, gI_15_3, gI_15_4, gI_15_5, rv_16, gR_16_0, gI_16_1, rv_18, gR_18_0, gR_18_1, gR_18_2, gR_18_3, gR_18_4, gI_18_5, gI_18_6, rv_24, gR_24_0, gR_24_1, gR_24_2, gR_24_3, gR_24_4, gI_24_5, gI_24_6, rv_30, gR_30_0, gR_30_1, gR_30_2, gR_30_3, gR_30_4, gI_30_5, gI_30_6, rv_36, gR_36_0, gR_36_1, gR_36_2, gR_36_3, gR_36_4, gI_36_5, gI_36_6, rv_42, gR_42_0, gR_42_1, gR_42_2, gR_42_3, gR_42_4, gI_42_5, gI_42_6, rv_48, gR_48_0, gR_48_1, gR_48_2, gR_48_3, gR_48_4, gI_48_5, gI_48_6, rv_54, gR_54_0, gR_54_1, gR_54_2, gR_54_3, gR_54_4, gI_54_5, gI_54_6, rv_60, gR_60_0, gR_60_1, gR_60_2, gR_60_3, gR_60_4, gI_60_5, gI_60_6, rv_66, gR_66_0, gR_66_1, gR_66_2, gR_66_3, gR_66_4, gI_66_5, gI_66_6, rv_72, gI_72_0, gI_72_1, gR_72_2, gR_72_3, gR_72_4, gR_72_5, rv_77, gI_77_0, gI_77_1, gR_77_2, gR_77_3, gR_77_4, gR_77_5, rv_82, gI_82_0, gI_82_1, gR_82_2, gR_82_3, gR_82_4, gR_82_5, rv_87, gI_87_0, gI_87_1, gR_87_2, gR_87_3, gR_87_4, gR_87_5, rv_92, gI_92_0, gI_92_1, gR_92_2, gR_92_3, gR_92_4, gR_92_5, rv_97, gI_97_0, gI_97_1, gR_97_2, gR_97_3, gR_97_4, gR_97_5, ld_8, ld_9, st_8, st_9, ← hbit, aNe]
      simp only [mUp, mSet_n w _ (show 9 ≠ 8 by decide)]
    · rw [on _ i hi]
      simp
    · rw [off _ i hi]
      rfl
  · refine ⟨mUp (mUp w 8 c (w 8 c &&& (bit ^^^ nM 1))) 9 c (w 9 c &&& (bit ^^^ nM 1)), ?_, key _ _ (fun i hi => ?_) (fun i hi => ?_), fin _ _⟩
    · rw [k28]
      simp (disch := omega) only [S28_0, S28_38, S28_72, u_push, u_goto, u_gets, u_iadd, u_isub, u_imul, u_iand, u_ior, u_ixor, u_ishl, u_ishr, u_iushr, u_land, u_lor, u_ladd, u_lmul, u_lcmp, u_lushr, u_lshl, u_i2l, u_l2i, u_dupr, u_dup2i, u_popi, u_idiv, u_irem, u_ifeq, u_iceq, u_ifne, u_icne, u_iflt, u_iclt, u_ifge, u_icge, u_ifgt, u_icgt, u_ifle, u_icle, u_switch, u_iload_0, u_istore_0, u_aload_0, u_astore_0, u_iinc_0, u_iload_1, u_istore_1, u_aload_1, u_astore_1, u_lload_1, u_lstore_1, u_iinc_1, u_iload_2, u_istore_2, u_aload_2, u_astore_2, u_lload_2, u_lstore_2, u_iinc_2, u_iload_3, u_istore_3, u_aload_3, u_astore_3, u_lload_3, u_lstore_3, u_iinc_3, u_iload_4, u_istore_4, u_aload_4, u_astore_4, u_lload_4, u_lstore_4, u_iinc_4, u_iload_5, u_istore_5, u_aload_5, u_astore_5, u_lload_5, u_lstore_5, u_iinc_5, u_iload_6, u_istore_6, u_aload_6, u_astore_6, u_iinc_6, u_iload_7, u_istore_7, u_aload_7, u_astore_7, u_iinc_7, u_iload_8, u_istore_8, u_aload_8, u_astore_8, u_iinc_8, u_iload_9, u_istore_9, u_aload_9, u_astore_9, u_lload_9, u_lstore_9, u_iinc_9, u_iload_10, u_istore_10, u_aload_10, u_astore_10, u_iinc_10, u_iload_11, u_istore_11, u_aload_11, u_astore_11, u_iinc_11, u_iload_12, u_istore_12, u_aload_12, u_astore_12, u_iinc_12, u_iload_13, u_istore_13, u_aload_13, u_astore_13, u_iinc_13, u_iret, u_zret, u_aret, u_vret, u_lret, u_getI, u_getR, u_putI, u_putZ, u_putR, u_iald, u_zald, u_aald, u_iast, u_zast, u_aast, u_alen, u_newa, u_newq, u_new, u_oinit_0, u_max_0, u_min_0, u_copy_0, u_invV_0_0, u_invI_0_0, u_invV_1_0, u_invI_1_0, u_invS_1_0, u_invV_2_0, u_invS_2_0, u_invV_3_0, u_invS_3_0, u_invV_4_0, u_invS_4_0, u_oinit_1, u_max_1, u_min_1, u_invV_0_1, u_invI_0_1, u_invV_1_1, u_invI_1_1, u_invS_1_1, u_invV_2_1, u_invS_2_1, u_invV_3_1, u_invS_3_1, u_invV_4_1, u_invS_4_1, u_oinit_2, u_max_2, u_min_2, u_invV_0_2, u_invI_0_2, u_invV_1_2, u_invI_1_2, u_invS_1_2, u_invV_2_2, u_invS_2_2, u_invV_3_2, u_invS_3_2, u_invV_4_2, u_invS_4_2, u_oinit_3, u_max_3, u_min_3, u_invV_0_3, u_invI_0_3, u_invV_1_3, u_invI_1_3, u_invS_1_3, u_invV_2_3, u_invS_2_3, u_invV_3_3, u_invS_3_3, u_invV_4_3, u_invS_4_3, u_oinit_4, u_max_4, u_min_4, u_invV_0_4, u_invI_0_4, u_invV_1_4, u_invI_1_4, u_invS_1_4, u_invV_2_4, u_invS_2_4, u_invV_3_4, u_invS_3_4, u_invV_4_4, u_invS_4_4, u_ret1, u_ret0, u_bs, ↓reduceIte, if_true, if_false, Option.toList_none, Option.toList_some, List.nil_append, List.cons_append, true_or, or_true, false_or, or_false, not_true_eq_false, not_false_eq_true, and_true, true_and, and_false, false_and, p_sw, Nat.reduceEqDiff, Nat.reduceLeDiff, Nat.reduceAdd, Nat.reduceSub, Nat.reduceMul, eq_self, rv_4, gR_4_0, gR_4_1, gI_4_2, gR_4_3, gR_4_4, gR_4_5, gR_4_6, gR_4_7, rv_5, gR_5_0, gR_5_1, gR_5_2, gR_5_3, gR_5_4, gI_5_5, gI_5_6, rv_15, gR_15_0, gI_15_1, gI_15_2, gI_15_3, gI_15_4, gI_15_5, rv_16, gR_16_0, gI_16_1, rv_18, gR_18_0, gR_18_1, gR_18_2, gR_18_3, gR_18_4, gI_18_5, gI_18_6, rv_24, gR_24_0, gR_24_1, gR_24_2, gR_24_3, gR_24_4, gI_24_5, gI_24_6, rv_30, gR_30_0, gR_30_1, gR_30_2, gR_30_3, gR_30_4, gI_30_5, gI_30_6, rv_36, gR_36_0, gR_36_1, gR_36_2, gR_36_3, gR_36_4, gI_36_5, gI_36_6, rv_42, gR_42_0, gR_42_1, gR_42_2, gR_42_3, gR_42_4, gI_42_5, gI_42_6, rv_48, gR_48_0, gR_48_1, gR_48_2, gR_48_3, gR_48_4, gI_48_5, gI_48_6, rv_54, gR_54_0, gR_54_1, gR_54_2, gR_54_3, gR_54_4, gI_54_5, gI_54_6, rv_60, gR_60_0, gR_60_1, gR_60_2, gR_60_3, gR_60_4, gI_60_5, gI_60_6, rv_66, gR_66_0, gR_66_1, gR_66_2, gR_66_3, gR_66_4, gI_66_5, gI_66_6, rv_72, gI_72_0, gI_72_1, gR_72_2, gR_72_3, gR_72_4, gR_72_5, rv_77, gI_77_0, gI_77_1, gR_77_2, gR_77_3, gR_77_4, gR_77_5, rv_82, gI_82_0, gI_82_1, gR_82_2, gR_82_3, gR_82_4, gR_82_5, rv_87, gI_87_0, gI_87_1, gR_87_2, gR_87_3, gR_87_4, gR_87_5, rv_92, gI_92_0, gI_92_1, gR_92_2, gR_92_3, gR_92_4, gR_92_5, rv_97, gI_97_0, gI_97_1, gR_97_2, gR_97_3, gR_97_4, gR_97_5, ld_8, ld_9, st_8, st_9, ← hbit, aNe, aEq, show ¬ 0 = 1 by omega]
      simp only [mUp, mSet_n w _ (show 9 ≠ 8 by decide)]
    · rw [off _ i hi]
      rfl
    · rw [off _ i hi]
      rfl
  · refine ⟨mUp (mUp w 8 c (w 8 c &&& (bit ^^^ nM 1))) 9 c (w 9 c ||| bit), ?_, key _ _ (fun i hi => ?_) (fun i hi => ?_), fin _ _⟩
    · rw [k28]
      simp (disch := omega) only [S28_0, S28_38, S28_72, u_push, u_goto, u_gets, u_iadd, u_isub, u_imul, u_iand, u_ior, u_ixor, u_ishl, u_ishr, u_iushr, u_land, u_lor, u_ladd, u_lmul, u_lcmp, u_lushr, u_lshl, u_i2l, u_l2i, u_dupr, u_dup2i, u_popi, u_idiv, u_irem, u_ifeq, u_iceq, u_ifne, u_icne, u_iflt, u_iclt, u_ifge, u_icge, u_ifgt, u_icgt, u_ifle, u_icle, u_switch, u_iload_0, u_istore_0, u_aload_0, u_astore_0, u_iinc_0, u_iload_1, u_istore_1, u_aload_1, u_astore_1, u_lload_1, u_lstore_1, u_iinc_1, u_iload_2, u_istore_2, u_aload_2, u_astore_2, u_lload_2, u_lstore_2, u_iinc_2, u_iload_3, u_istore_3, u_aload_3, u_astore_3, u_lload_3, u_lstore_3, u_iinc_3, u_iload_4, u_istore_4, u_aload_4, u_astore_4, u_lload_4, u_lstore_4, u_iinc_4, u_iload_5, u_istore_5, u_aload_5, u_astore_5, u_lload_5, u_lstore_5, u_iinc_5, u_iload_6, u_istore_6, u_aload_6, u_astore_6, u_iinc_6, u_iload_7, u_istore_7, u_aload_7, u_astore_7, u_iinc_7, u_iload_8, u_istore_8, u_aload_8, u_astore_8, u_iinc_8, u_iload_9, u_istore_9, u_aload_9, u_astore_9, u_lload_9, u_lstore_9, u_iinc_9, u_iload_10, u_istore_10, u_aload_10, u_astore_10, u_iinc_10, u_iload_11, u_istore_11, u_aload_11, u_astore_11, u_iinc_11, u_iload_12, u_istore_12, u_aload_12, u_astore_12, u_iinc_12, u_iload_13, u_istore_13, u_aload_13, u_astore_13, u_iinc_13, u_iret, u_zret, u_aret, u_vret, u_lret, u_getI, u_getR, u_putI, u_putZ, u_putR, u_iald, u_zald, u_aald, u_iast, u_zast, u_aast, u_alen, u_newa, u_newq, u_new, u_oinit_0, u_max_0, u_min_0, u_copy_0, u_invV_0_0, u_invI_0_0, u_invV_1_0, u_invI_1_0, u_invS_1_0, u_invV_2_0, u_invS_2_0, u_invV_3_0, u_invS_3_0, u_invV_4_0, u_invS_4_0, u_oinit_1, u_max_1, u_min_1, u_invV_0_1, u_invI_0_1, u_invV_1_1, u_invI_1_1, u_invS_1_1, u_invV_2_1, u_invS_2_1, u_invV_3_1, u_invS_3_1, u_invV_4_1, u_invS_4_1, u_oinit_2, u_max_2, u_min_2, u_invV_0_2, u_invI_0_2, u_invV_1_2, u_invI_1_2, u_invS_1_2, u_invV_2_2, u_invS_2_2, u_invV_3_2, u_invS_3_2, u_invV_4_2, u_invS_4_2, u_oinit_3, u_max_3, u_min_3, u_invV_0_3, u_invI_0_3, u_invV_1_3, u_invI_1_3, u_invS_1_3, u_invV_2_3, u_invS_2_3, u_invV_3_3, u_invS_3_3, u_invV_4_3, u_invS_4_3, u_oinit_4, u_max_4, u_min_4, u_invV_0_4, u_invI_0_4, u_invV_1_4, u_invI_1_4, u_invS_1_4, u_invV_2_4, u_invS_2_4, u_invV_3_4, u_invS_3_4, u_invV_4_4, u_invS_4_4, u_ret1, u_ret0, u_bs, ↓reduceIte, if_true, if_false, Option.toList_none, Option.toList_some, List.nil_append, List.cons_append, true_or, or_true, false_or, or_false, not_true_eq_false, not_false_eq_true, and_true, true_and, and_false, false_and, p_sw, Nat.reduceEqDiff, Nat.reduceLeDiff, Nat.reduceAdd, Nat.reduceSub, Nat.reduceMul, eq_self, rv_4, gR_4_0, gR_4_1, gI_4_2, gR_4_3, gR_4_4, gR_4_5, gR_4_6, gR_4_7, rv_5, gR_5_0, gR_5_1, gR_5_2, gR_5_3, gR_5_4, gI_5_5, gI_5_6, rv_15, gR_15_0, gI_15_1, gI_15_2, gI_15_3, gI_15_4, gI_15_5, rv_16, gR_16_0, gI_16_1, rv_18, gR_18_0, gR_18_1, gR_18_2, gR_18_3, gR_18_4, gI_18_5, gI_18_6, rv_24, gR_24_0, gR_24_1, gR_24_2, gR_24_3, gR_24_4, gI_24_5, gI_24_6, rv_30, gR_30_0, gR_30_1, gR_30_2, gR_30_3, gR_30_4, gI_30_5, gI_30_6, rv_36, gR_36_0, gR_36_1, gR_36_2, gR_36_3, gR_36_4, gI_36_5, gI_36_6, rv_42, gR_42_0, gR_42_1, gR_42_2, gR_42_3, gR_42_4, gI_42_5, gI_42_6, rv_48, gR_48_0, gR_48_1, gR_48_2, gR_48_3, gR_48_4, gI_48_5, gI_48_6, rv_54, gR_54_0, gR_54_1, gR_54_2, gR_54_3, gR_54_4, gI_54_5, gI_54_6, rv_60, gR_60_0, gR_60_1, gR_60_2, gR_60_3, gR_60_4, gI_60_5, gI_60_6, rv_66, gR_66_0, gR_66_1, gR_66_2, gR_66_3, gR_66_4, gI_66_5, gI_66_6, rv_72, gI_72_0, gI_72_1, gR_72_2, gR_72_3, gR_72_4, gR_72_5, rv_77, gI_77_0, gI_77_1, gR_77_2, gR_77_3, gR_77_4, gR_77_5, rv_82, gI_82_0, gI_82_1, gR_82_2, gR_82_3, gR_82_4, gR_82_5, rv_87, gI_87_0, gI_87_1, gR_87_2, gR_87_3, gR_87_4, gR_87_5, rv_92, gI_92_0, gI_92_1, gR_92_2, gR_92_3, gR_92_4, gR_92_5, rv_97, gI_97_0, gI_97_1, gR_97_2, gR_97_3, gR_97_4, gR_97_5, ld_8, ld_9, st_8, st_9, ← hbit, aNe']
      simp only [mUp, mSet_n w _ (show 9 ≠ 8 by decide)]
    · rw [off _ i hi]
      rfl
    · rw [on _ i hi]
      simp
theorem c_addFold (dd : Nat) {F : Nat} {x : Int32} (hF : w 5 6 = nI F) (h5 : F < 5) : p_K (dd + 1) 34 [.ref 5, .int x] (hp L xs w h) = some (none, hp L xs (mUp (mUp w 10 F x) 5 6 (nI (F + 1))) h) := by
  rw [k34]
  simp (disch := omega) only [S34_0, u_push, u_goto, u_gets, u_iadd, u_isub, u_imul, u_iand, u_ior, u_ixor, u_ishl, u_ishr, u_iushr, u_land, u_lor, u_ladd, u_lmul, u_lcmp, u_lushr, u_lshl, u_i2l, u_l2i, u_dupr, u_dup2i, u_popi, u_idiv, u_irem, u_ifeq, u_iceq, u_ifne, u_icne, u_iflt, u_iclt, u_ifge, u_icge, u_ifgt, u_icgt, u_ifle, u_icle, u_switch, u_iload_0, u_istore_0, u_aload_0, u_astore_0, u_iinc_0, u_iload_1, u_istore_1, u_aload_1, u_astore_1, u_lload_1, u_lstore_1, u_iinc_1, u_iload_2, u_istore_2, u_aload_2, u_astore_2, u_lload_2, u_lstore_2, u_iinc_2, u_iload_3, u_istore_3, u_aload_3, u_astore_3, u_lload_3, u_lstore_3, u_iinc_3, u_iload_4, u_istore_4, u_aload_4, u_astore_4, u_lload_4, u_lstore_4, u_iinc_4, u_iload_5, u_istore_5, u_aload_5, u_astore_5, u_lload_5, u_lstore_5, u_iinc_5, u_iload_6, u_istore_6, u_aload_6, u_astore_6, u_iinc_6, u_iload_7, u_istore_7, u_aload_7, u_astore_7, u_iinc_7, u_iload_8, u_istore_8, u_aload_8, u_astore_8, u_iinc_8, u_iload_9, u_istore_9, u_aload_9, u_astore_9, u_lload_9, u_lstore_9, u_iinc_9, u_iload_10, u_istore_10, u_aload_10, u_astore_10, u_iinc_10, u_iload_11, u_istore_11, u_aload_11, u_astore_11, u_iinc_11, u_iload_12, u_istore_12, u_aload_12, u_astore_12, u_iinc_12, u_iload_13, u_istore_13, u_aload_13, u_astore_13, u_iinc_13, u_iret, u_zret, u_aret, u_vret, u_lret, u_getI, u_getR, u_putI, u_putZ, u_putR, u_iald, u_zald, u_aald, u_iast, u_zast, u_aast, u_alen, u_newa, u_newq, u_new, u_oinit_0, u_max_0, u_min_0, u_copy_0, u_invV_0_0, u_invI_0_0, u_invV_1_0, u_invI_1_0, u_invS_1_0, u_invV_2_0, u_invS_2_0, u_invV_3_0, u_invS_3_0, u_invV_4_0, u_invS_4_0, u_oinit_1, u_max_1, u_min_1, u_invV_0_1, u_invI_0_1, u_invV_1_1, u_invI_1_1, u_invS_1_1, u_invV_2_1, u_invS_2_1, u_invV_3_1, u_invS_3_1, u_invV_4_1, u_invS_4_1, u_oinit_2, u_max_2, u_min_2, u_invV_0_2, u_invI_0_2, u_invV_1_2, u_invI_1_2, u_invS_1_2, u_invV_2_2, u_invS_2_2, u_invV_3_2, u_invS_3_2, u_invV_4_2, u_invS_4_2, u_oinit_3, u_max_3, u_min_3, u_invV_0_3, u_invI_0_3, u_invV_1_3, u_invI_1_3, u_invS_1_3, u_invV_2_3, u_invS_2_3, u_invV_3_3, u_invS_3_3, u_invV_4_3, u_invS_4_3, u_oinit_4, u_max_4, u_min_4, u_invV_0_4, u_invI_0_4, u_invV_1_4, u_invI_1_4, u_invS_1_4, u_invV_2_4, u_invS_2_4, u_invV_3_4, u_invS_3_4, u_invV_4_4, u_invS_4_4, u_ret1, u_ret0, u_bs, ↓reduceIte, if_true, if_false, Option.toList_none, Option.toList_some, List.nil_append, List.cons_append, true_or, or_true, false_or, or_false, not_true_eq_false, not_false_eq_true, and_true, true_and, and_false, false_and, p_sw, Nat.reduceEqDiff, Nat.reduceLeDiff, Nat.reduceAdd, Nat.reduceSub, Nat.reduceMul, eq_self, rv_4, gR_4_0, gR_4_1, gI_4_2, gR_4_3, gR_4_4, gR_4_5, gR_4_6, gR_4_7, rv_5, gR_5_0, gR_5_1, gR_5_2, gR_5_3, gR_5_4, gI_5_5, gI_5_6, rv_15, gR_15_0, gI_15_1, gI_15_2, gI_15_3, gI_15_4, gI_15_5, rv_16, gR_16_0, gI_16_1, rv_18, gR_18_0, gR_18_1, gR_18_2, gR_18_3, gR_18_4, gI_18_5, gI_18_6, rv_24, gR_24_0, gR_24_1, gR_24_2, gR_24_3, gR_24_4, gI_24_5, gI_24_6, rv_30, gR_30_0, gR_30_1, gR_30_2, gR_30_3, gR_30_4, gI_30_5, gI_30_6, rv_36, gR_36_0, gR_36_1, gR_36_2, gR_36_3, gR_36_4, gI_36_5, gI_36_6, rv_42, gR_42_0, gR_42_1, gR_42_2, gR_42_3, gR_42_4, gI_42_5, gI_42_6, rv_48, gR_48_0, gR_48_1, gR_48_2, gR_48_3, gR_48_4, gI_48_5, gI_48_6, rv_54, gR_54_0, gR_54_1, gR_54_2, gR_54_3, gR_54_4, gI_54_5, gI_54_6, rv_60, gR_60_0, gR_60_1, gR_60_2, gR_60_3, gR_60_4, gI_60_5, gI_60_6, rv_66, gR_66_0, gR_66_1, gR_66_2, gR_66_3, gR_66_4, gI_66_5, gI_66_6, rv_72, gI_72_0, gI_72_1, gR_72_2, gR_72_3, gR_72_4, gR_72_5, rv_77, gI_77_0, gI_77_1, gR_77_2, gR_77_3, gR_77_4, gR_77_5, rv_82, gI_82_0, gI_82_1, gR_82_2, gR_82_3, gR_82_4, gR_82_5, rv_87, gI_87_0, gI_87_1, gR_87_2, gR_87_3, gR_87_4, gR_87_5, rv_92, gI_92_0, gI_92_1, gR_92_2, gR_92_3, gR_92_4, gR_92_5, rv_97, gI_97_0, gI_97_1, gR_97_2, gR_97_3, gR_97_4, gR_97_5, st_10, pt_5_6, hF]
  simp only [mUp, mSet_n w _ (show 5 ≠ 10 by decide), hF, aAdd]
theorem c_copyFrom (dd : Nat) {a b : Nat} (ha : isSA a) (hb : isSA b) (hab : a ≠ b) : ∃ w', p_K (dd + 1) 17 [.ref a, .ref b] (hp L xs w h) = some (none, hp L xs w' h) ∧ ((∀ k, k < 3 → w' (a + 1) k = w (b + 1) k) ∧ (∀ k, k < 16 → w' (a + 2) k = w (b + 2) k) ∧ (∀ k, k < 12 → w' (a + 3) k = w (b + 3) k) ∧ (∀ k, k < 12 → w' (a + 4) k = w (b + 4) k) ∧ (∀ k, k < 5 → w' (a + 5) k = w (b + 5) k) ∧ w' a 5 = w b 5 ∧ w' a 6 = w b 6) ∧ ∀ c, (c < a ∨ a + 6 ≤ c) → w' c = w c := by
  have hap : b + 6 ≤ a ∨ a + 6 ≤ b := by
    unfold isSA at ha hb
    omega
  have z1 : ∀ w : Nat → Nat → Int32, p_cp (hp L xs w h) (b + 1) (nI 0) (a + 1) (nI 0) (nI 3) = some (hp L xs (mSet w (a + 1) (va_cpy (w (b + 1)) (w (a + 1)) 0 0 3)) h) := fun w => (p_cp_at (g_S_1 L xs w h hb) (g_S_1 L xs w h ha) (by unfold isSA at hb; omega) (by unfold isSA at ha; omega) (by omega) (by omega) (by omega)).trans (congrArg some (z_S_1 L xs w h ha _))
  have z2 : ∀ w : Nat → Nat → Int32, p_cp (hp L xs w h) (b + 2) (nI 0) (a + 2) (nI 0) (nI 16) = some (hp L xs (mSet w (a + 2) (va_cpy (w (b + 2)) (w (a + 2)) 0 0 16)) h) := fun w => (p_cp_at (g_S_2 L xs w h hb) (g_S_2 L xs w h ha) (by omega) (by omega) (by omega) (by omega) (by omega)).trans (congrArg some (z_S_2 L xs w h ha _))
  have z3 : ∀ w : Nat → Nat → Int32, p_cp (hp L xs w h) (b + 3) (nI 0) (a + 3) (nI 0) (nI 12) = some (hp L xs (mSet w (a + 3) (va_cpy (w (b + 3)) (w (a + 3)) 0 0 12)) h) := fun w => (p_cp_at (g_S_3 L xs w h hb) (g_S_3 L xs w h ha) (by omega) (by omega) (by omega) (by omega) (by omega)).trans (congrArg some (z_S_3 L xs w h ha _))
  have z4 : ∀ w : Nat → Nat → Int32, p_cp (hp L xs w h) (b + 4) (nI 0) (a + 4) (nI 0) (nI 12) = some (hp L xs (mSet w (a + 4) (va_cpy (w (b + 4)) (w (a + 4)) 0 0 12)) h) := fun w => (p_cp_at (g_S_4 L xs w h hb) (g_S_4 L xs w h ha) (by omega) (by omega) (by omega) (by omega) (by omega)).trans (congrArg some (z_S_4 L xs w h ha _))
  have z5 : ∀ w : Nat → Nat → Int32, p_cp (hp L xs w h) (b + 5) (nI 0) (a + 5) (nI 0) (nI 5) = some (hp L xs (mSet w (a + 5) (va_cpy (w (b + 5)) (w (a + 5)) 0 0 5)) h) := fun w => (p_cp_at (g_S_5 L xs w h hb) (g_S_5 L xs w h ha) (by omega) (by omega) (by omega) (by omega) (by omega)).trans (congrArg some (z_S_5 L xs w h ha _))
  have y1 : ∀ w : Nat → Nat → Int32, p_len (hp L xs w h) (a + 1) = some 3 := fun w => p_len_at (g_S_1 L xs w h ha)
  have y2 : ∀ w : Nat → Nat → Int32, p_len (hp L xs w h) (a + 2) = some 16 := fun w => p_len_at (g_S_2 L xs w h ha)
  have y3 : ∀ w : Nat → Nat → Int32, p_len (hp L xs w h) (a + 3) = some 12 := fun w => p_len_at (g_S_3 L xs w h ha)
  have y4 : ∀ w : Nat → Nat → Int32, p_len (hp L xs w h) (a + 4) = some 12 := fun w => p_len_at (g_S_4 L xs w h ha)
  have y5 : ∀ w : Nat → Nat → Int32, p_len (hp L xs w h) (a + 5) = some 5 := fun w => p_len_at (g_S_5 L xs w h ha)
  rw [k17]
  simp (disch := omega) only [S17_0, u_push, u_goto, u_gets, u_iadd, u_isub, u_imul, u_iand, u_ior, u_ixor, u_ishl, u_ishr, u_iushr, u_land, u_lor, u_ladd, u_lmul, u_lcmp, u_lushr, u_lshl, u_i2l, u_l2i, u_dupr, u_dup2i, u_popi, u_idiv, u_irem, u_ifeq, u_iceq, u_ifne, u_icne, u_iflt, u_iclt, u_ifge, u_icge, u_ifgt, u_icgt, u_ifle, u_icle, u_switch, u_iload_0, u_istore_0, u_aload_0, u_astore_0, u_iinc_0, u_iload_1, u_istore_1, u_aload_1, u_astore_1, u_lload_1, u_lstore_1, u_iinc_1, u_iload_2, u_istore_2, u_aload_2, u_astore_2, u_lload_2, u_lstore_2, u_iinc_2, u_iload_3, u_istore_3, u_aload_3, u_astore_3, u_lload_3, u_lstore_3, u_iinc_3, u_iload_4, u_istore_4, u_aload_4, u_astore_4, u_lload_4, u_lstore_4, u_iinc_4, u_iload_5, u_istore_5, u_aload_5, u_astore_5, u_lload_5, u_lstore_5, u_iinc_5, u_iload_6, u_istore_6, u_aload_6, u_astore_6, u_iinc_6, u_iload_7, u_istore_7, u_aload_7, u_astore_7, u_iinc_7, u_iload_8, u_istore_8, u_aload_8, u_astore_8, u_iinc_8, u_iload_9, u_istore_9, u_aload_9, u_astore_9, u_lload_9, u_lstore_9, u_iinc_9, u_iload_10, u_istore_10, u_aload_10, u_astore_10, u_iinc_10, u_iload_11, u_istore_11, u_aload_11, u_astore_11, u_iinc_11, u_iload_12, u_istore_12, u_aload_12, u_astore_12, u_iinc_12, u_iload_13, u_istore_13, u_aload_13, u_astore_13, u_iinc_13, u_iret, u_zret, u_aret, u_vret, u_lret, u_getI, u_getR, u_putI, u_putZ, u_putR, u_iald, u_zald, u_aald, u_iast, u_zast, u_aast, u_alen, u_newa, u_newq, u_new, u_oinit_0, u_max_0, u_min_0, u_copy_0, u_invV_0_0, u_invI_0_0, u_invV_1_0, u_invI_1_0, u_invS_1_0, u_invV_2_0, u_invS_2_0, u_invV_3_0, u_invS_3_0, u_invV_4_0, u_invS_4_0, u_oinit_1, u_max_1, u_min_1, u_invV_0_1, u_invI_0_1, u_invV_1_1, u_invI_1_1, u_invS_1_1, u_invV_2_1, u_invS_2_1, u_invV_3_1, u_invS_3_1, u_invV_4_1, u_invS_4_1, u_oinit_2, u_max_2, u_min_2, u_invV_0_2, u_invI_0_2, u_invV_1_2, u_invI_1_2, u_invS_1_2, u_invV_2_2, u_invS_2_2, u_invV_3_2, u_invS_3_2, u_invV_4_2, u_invS_4_2, u_oinit_3, u_max_3, u_min_3, u_invV_0_3, u_invI_0_3, u_invV_1_3, u_invI_1_3, u_invS_1_3, u_invV_2_3, u_invS_2_3, u_invV_3_3, u_invS_3_3, u_invV_4_3, u_invS_4_3, u_oinit_4, u_max_4, u_min_4, u_invV_0_4, u_invI_0_4, u_invV_1_4, u_invI_1_4, u_invS_1_4, u_invV_2_4, u_invS_2_4, u_invV_3_4, u_invS_3_4, u_invV_4_4, u_invS_4_4, u_ret1, u_ret0, u_bs, ↓reduceIte, if_true, if_false, Option.toList_none, Option.toList_some, List.nil_append, List.cons_append, true_or, or_true, false_or, or_false, not_true_eq_false, not_false_eq_true, and_true, true_and, and_false, false_and, p_sw, Nat.reduceEqDiff, Nat.reduceLeDiff, Nat.reduceAdd, Nat.reduceSub, Nat.reduceMul, eq_self, gR_S_0 (ha := ha), gR_S_1 (ha := ha), gR_S_2 (ha := ha), gR_S_3 (ha := ha), gR_S_4 (ha := ha), gR_S_0 (ha := hb), gR_S_1 (ha := hb), gR_S_2 (ha := hb), gR_S_3 (ha := hb), gR_S_4 (ha := hb), gI_S_5 (ha := hb), gI_S_6 (ha := hb), pt_S_5 (ha := ha), pt_S_6 (ha := ha), y1, y2, y3, y4, y5, z1, z2, z3, z4, z5]
  refine ⟨_, rfl, ?_, ?_⟩
  · have cp : ∀ (f g : Nat → Int32) (n k : Nat), k < n → va_cpy f g 0 0 n k = f k := fun f g n k hk => by unfold va_cpy; rw [if_pos (by omega)]; congr 1; omega
    refine ⟨fun k hk => ?_, fun k hk => ?_, fun k hk => ?_, fun k hk => ?_, fun k hk => ?_, ?_, ?_⟩
    · simp (disch := omega) only [mSet_n, mSet_s, cp _ _ _ _ hk]
    · simp (disch := omega) only [mSet_n, mSet_s, cp _ _ _ _ hk]
    · simp (disch := omega) only [mSet_n, mSet_s, cp _ _ _ _ hk]
    · simp (disch := omega) only [mSet_n, mSet_s, cp _ _ _ _ hk]
    · simp (disch := omega) only [mSet_n, mSet_s, cp _ _ _ _ hk]
    · simp (disch := omega) only [mSet_n, mSet_s, upd]
      rfl
    · simp (disch := omega) only [mSet_n, mSet_s, upd]
      rfl
  · intro c hc
    simp (disch := omega) only [mSet_n]
end stw
