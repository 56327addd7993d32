/-! the class Lay -/
/-- a Lay at A that is being written: d columns done, e seats of the next one -/
def LP (w : Nat → Nat → Int32) (A : Nat) (T : lT) (d e : Nat) : Prop := w A 0 = nI d ∧ w A 1 = nI (sTo (lHg T) d + e) ∧ (∀ c, c ≤ d → w (A + 2) c = nI (sTo (lHg T) c)) ∧
  ∀ c k, (c < d ∧ k < lHg T c) ∨ (c = d ∧ k < e) → w (A + 1) (sTo (lHg T) c + k) = nI (lAt T c k) ∧ w (A + 3) (lAt T c k) = nI c ∧ w (A + 4) (lAt T c k) = nI (sTo (lHg T) c + k)
def LYc (w : Nat → Nat → Int32) (A : Nat) (T : lT) : Prop := LP w A T (lLen T) 0
def fr (A : Nat) (w w' : Nat → Nat → Int32) : Prop := ∀ b, (b < A ∨ A + 5 ≤ b) → w' b = w b
theorem fr_t {A : Nat} {w w' w'' : Nat → Nat → Int32} (h1 : fr A w w') (h2 : fr A w' w'') : fr A w w'' := fun b hb => (h2 b hb).trans (h1 b hb)
theorem LP_fr {w w' : Nat → Nat → Int32} {A B : Nat} {T : lT} {d e : Nat} (h : LP w B T d e) (hf : fr A w w') (hAB : B + 5 ≤ A ∨ A + 5 ≤ B) : LP w' B T d e := by
  obtain ⟨h1, h2, h3, h4⟩ := h
  have e0 := hf B (by omega)
  have e1 := hf (B + 1) (by omega)
  have e2 := hf (B + 2) (by omega)
  have e3 := hf (B + 3) (by omega)
  have e4 := hf (B + 4) (by omega)
  refine ⟨by rw [e0]; exact h1, by rw [e0]; exact h2, fun c hc => by rw [e2]; exact h3 c hc, fun c k hk => ?_⟩
  rw [e1, e3, e4]
  exact h4 c k hk
theorem isLA_apart {A B : Nat} (hA : isLA A) (hB : isLA B) (hn : A ≠ B) : B + 5 ≤ A ∨ A + 5 ≤ B := by
  unfold isLA at *
  omega
theorem sTo_lt {n : Nat} {T : lT} (h : lOk n T) {c k : Nat} (hc : c < lLen T) (hk : k < lHg T c) : sTo (lHg T) c + k < n := by
  obtain ⟨-, -, h3, -⟩ := h
  have h1 := sTo_le (lHg T) (show c + 1 ≤ lLen T by omega)
  rw [h3] at h1
  have h2 : sTo (lHg T) (c + 1) = sTo (lHg T) c + lHg T c := rfl
  omega
section layc
variable {L : Nat} {xs : Nat → Int32} {w : Nat → Nat → Int32} {h : Nat → Option Nat} {A B n d : Nat} {T : lT}
theorem c_clear (dd : Nat) (hA : isLA A) (hz : w (A + 2) 0 = nI 0) (T : lT) : ∃ w', p_K (dd + 1) 3 [.ref A] (hp L xs w h) = some (none, hp L xs w' h) ∧ LP w' A T 0 0 ∧ fr A w w' := by
  refine ⟨mUp (mUp w A 0 (nI 0)) A 1 (nI 0), ?_, ?_, ?_⟩
  · rw [k3]
    simp only [S3_0, u_push, u_goto, u_gets, u_iadd, u_isub, u_imul, u_iand, u_ior, u_ixor, u_ishl, u_ishr, u_iushr, u_land, u_lor, u_lcmp, u_lushr, u_lshl, u_i2l, u_l2i, u_dupr, u_dup2i, u_popi, u_idiv, u_irem, u_ifeq, u_iceq, u_ifne, u_icne, u_iflt, u_iclt, u_ifge, u_icge, u_ifgt, u_icgt, u_ifle, u_icle, u_switch, u_iload_0, u_istore_0, u_aload_0, u_astore_0, u_iinc_0, u_iload_1, u_istore_1, u_aload_1, u_astore_1, u_lload_1, u_lstore_1, u_iinc_1, u_iload_2, u_istore_2, u_aload_2, u_astore_2, u_lload_2, u_lstore_2, u_iinc_2, u_iload_3, u_istore_3, u_aload_3, u_astore_3, u_lload_3, u_lstore_3, u_iinc_3, u_iload_4, u_istore_4, u_aload_4, u_astore_4, u_lload_4, u_lstore_4, u_iinc_4, u_iload_5, u_istore_5, u_aload_5, u_astore_5, u_lload_5, u_lstore_5, u_iinc_5, u_iload_6, u_istore_6, u_aload_6, u_astore_6, u_iinc_6, u_iload_7, u_istore_7, u_aload_7, u_astore_7, u_iinc_7, u_iload_8, u_istore_8, u_aload_8, u_astore_8, u_iinc_8, u_iload_9, u_istore_9, u_aload_9, u_astore_9, u_iinc_9, u_iload_10, u_istore_10, u_aload_10, u_astore_10, u_iinc_10, u_iload_11, u_istore_11, u_aload_11, u_astore_11, u_iinc_11, u_iload_12, u_istore_12, u_aload_12, u_astore_12, u_iinc_12, u_iret, u_zret, u_aret, u_vret, u_getI, u_getR, u_putI, u_putZ, u_putR, u_iald, u_zald, u_aald, u_iast, u_zast, u_aast, u_alen, u_newa, u_newq, u_new, u_oinit_0, u_max_0, u_min_0, u_copy_0, u_invV_0_0, u_invI_0_0, u_invV_1_0, u_invI_1_0, u_invS_1_0, u_invV_2_0, u_invS_2_0, u_invV_3_0, u_invS_3_0, u_invV_4_0, u_invS_4_0, u_oinit_1, u_max_1, u_min_1, u_invV_0_1, u_invI_0_1, u_invV_1_1, u_invI_1_1, u_invS_1_1, u_invV_2_1, u_invS_2_1, u_invV_3_1, u_invS_3_1, u_invV_4_1, u_invS_4_1, u_oinit_2, u_max_2, u_min_2, u_invV_0_2, u_invI_0_2, u_invV_1_2, u_invI_1_2, u_invS_1_2, u_invV_2_2, u_invS_2_2, u_invV_3_2, u_invS_3_2, u_invV_4_2, u_invS_4_2, u_oinit_3, u_max_3, u_min_3, u_invV_0_3, u_invI_0_3, u_invV_1_3, u_invI_1_3, u_invS_1_3, u_invV_2_3, u_invS_2_3, u_invV_3_3, u_invS_3_3, u_invV_4_3, u_invS_4_3, u_oinit_4, u_max_4, u_min_4, u_invV_0_4, u_invI_0_4, u_invV_1_4, u_invI_1_4, u_invS_1_4, u_invV_2_4, u_invS_2_4, u_invV_3_4, u_invS_3_4, u_invV_4_4, u_invS_4_4, u_ret1, u_ret0, u_bs, pt_Y_0 (ha := hA), pt_Y_1 (ha := hA)]
  · refine ⟨?_, ?_, fun c hc => ?_, fun c k hk => ?_⟩
    · simp [mSet, upd]
    · simp [mSet, upd, sTo]
    · have : c = 0 := by omega
      subst this
      simp [mSet, sTo, hz]
    · omega
  · intro b hb
    simp only [mSet]
    rw [if_neg (by omega), if_neg (by omega)]
theorem c_addSeat (dd : Nat) (hA : isLA A) {e : Nat} (hT : lOk n T) (hn : n ≤ 16) (hd : d < lLen T) (he : e < lHg T d) (hP : LP w A T d e) : ∃ w', p_K (dd + 1) 4 [.ref A, .int (nI (lAt T d e))] (hp L xs w h) = some (none, hp L xs w' h) ∧ LP w' A T d (e + 1) ∧ fr A w w' := by
  have hlt := sTo_lt hT hd he
  have hT9 := hT
  obtain ⟨t1, t2, t3, t4, t5, t6⟩ := hT
  obtain ⟨s1, s2, s3⟩ := t6 d e hd he
  obtain ⟨p1, p2, p3, p4⟩ := hP
  refine ⟨mUp (mUp (mUp (mUp w (A + 1) (sTo (lHg T) d + e) (nI (lAt T d e))) (A + 4) (lAt T d e) (nI (sTo (lHg T) d + e))) (A + 3) (lAt T d e) (nI d)) A 1 (nI (sTo (lHg T) d + e + 1)), ?_, ?_, ?_⟩
  · rw [k4]
    have q1 : ∀ (b : Nat) (f : Nat → Int32) (w : Nat → Nat → Int32), b ≠ A → mSet w b f A = w A := fun b f w hb => mSet_n w f (Ne.symm hb)
    simp (disch := omega) only [S4_0, u_push, u_goto, u_gets, u_iadd, u_isub, u_imul, u_iand, u_ior, u_ixor, u_ishl, u_ishr, u_iushr, u_land, u_lor, u_lcmp, u_lushr, u_lshl, u_i2l, u_l2i, u_dupr, u_dup2i, u_popi, u_idiv, u_irem, u_ifeq, u_iceq, u_ifne, u_icne, u_iflt, u_iclt, u_ifge, u_icge, u_ifgt, u_icgt, u_ifle, u_icle, u_switch, u_iload_0, u_istore_0, u_aload_0, u_astore_0, u_iinc_0, u_iload_1, u_istore_1, u_aload_1, u_astore_1, u_lload_1, u_lstore_1, u_iinc_1, u_iload_2, u_istore_2, u_aload_2, u_astore_2, u_lload_2, u_lstore_2, u_iinc_2, u_iload_3, u_istore_3, u_aload_3, u_astore_3, u_lload_3, u_lstore_3, u_iinc_3, u_iload_4, u_istore_4, u_aload_4, u_astore_4, u_lload_4, u_lstore_4, u_iinc_4, u_iload_5, u_istore_5, u_aload_5, u_astore_5, u_lload_5, u_lstore_5, u_iinc_5, u_iload_6, u_istore_6, u_aload_6, u_astore_6, u_iinc_6, u_iload_7, u_istore_7, u_aload_7, u_astore_7, u_iinc_7, u_iload_8, u_istore_8, u_aload_8, u_astore_8, u_iinc_8, u_iload_9, u_istore_9, u_aload_9, u_astore_9, u_iinc_9, u_iload_10, u_istore_10, u_aload_10, u_astore_10, u_iinc_10, u_iload_11, u_istore_11, u_aload_11, u_astore_11, u_iinc_11, u_iload_12, u_istore_12, u_aload_12, u_astore_12, u_iinc_12, u_iret, u_zret, u_aret, u_vret, u_getI, u_getR, u_putI, u_putZ, u_putR, u_iald, u_zald, u_aald, u_iast, u_zast, u_aast, u_alen, u_newa, u_newq, u_new, u_oinit_0, u_max_0, u_min_0, u_copy_0, u_invV_0_0, u_invI_0_0, u_invV_1_0, u_invI_1_0, u_invS_1_0, u_invV_2_0, u_invS_2_0, u_invV_3_0, u_invS_3_0, u_invV_4_0, u_invS_4_0, u_oinit_1, u_max_1, u_min_1, u_invV_0_1, u_invI_0_1, u_invV_1_1, u_invI_1_1, u_invS_1_1, u_invV_2_1, u_invS_2_1, u_invV_3_1, u_invS_3_1, u_invV_4_1, u_invS_4_1, u_oinit_2, u_max_2, u_min_2, u_invV_0_2, u_invI_0_2, u_invV_1_2, u_invI_1_2, u_invS_1_2, u_invV_2_2, u_invS_2_2, u_invV_3_2, u_invS_3_2, u_invV_4_2, u_invS_4_2, u_oinit_3, u_max_3, u_min_3, u_invV_0_3, u_invI_0_3, u_invV_1_3, u_invI_1_3, u_invS_1_3, u_invV_2_3, u_invS_2_3, u_invV_3_3, u_invS_3_3, u_invV_4_3, u_invS_4_3, u_oinit_4, u_max_4, u_min_4, u_invV_0_4, u_invI_0_4, u_invV_1_4, u_invI_1_4, u_invS_1_4, u_invV_2_4, u_invS_2_4, u_invV_3_4, u_invS_3_4, u_invV_4_4, u_invS_4_4, u_ret1, u_ret0, u_bs, gI_Y_0 (ha := hA), gI_Y_1 (ha := hA), gR_Y_2 (ha := hA), gR_Y_4 (ha := hA), gR_Y_5 (ha := hA), pt_Y_1 (ha := hA), st_Y_1 (ha := hA), st_Y_3 (ha := hA), st_Y_4 (ha := hA), q1, p1, p2, aAdd]
  · refine ⟨?_, ?_, fun c hc => ?_, fun c k hk => ?_⟩
    · simp [mSet, upd, p1]
    · simp [mSet, upd, Nat.add_assoc]
    · simp [mSet, p3 c hc]
    · by_cases hnew : c = d ∧ k = e
      · obtain ⟨rfl, rfl⟩ := hnew
        simp [mSet, upd]
      · have hold : (c < d ∧ k < lHg T c) ∨ (c = d ∧ k < e) := by omega
        obtain ⟨o1, o2, o3⟩ := p4 c k hold
        have hkc : c < lLen T ∧ k < lHg T c := by
          rcases hold with z | z
          · exact ⟨by omega, z.2⟩
          · exact ⟨by omega, by rw [z.1]; omega⟩
        obtain ⟨u1, u2, u3⟩ := t6 c k hkc.1 hkc.2
        have hne : lAt T c k ≠ lAt T d e := by
          intro hq
          rw [hq] at u2 u3
          omega
        have hne2 : sTo (lHg T) c + k ≠ sTo (lHg T) d + e := by
          rcases hold with z | z
          · have h1 := sTo_le (lHg T) (show c + 1 ≤ d by omega)
            have h2 : sTo (lHg T) (c + 1) = sTo (lHg T) c + lHg T c := rfl
            omega
          · rw [z.1]
            omega
        simp [mSet, upd, o1, o2, o3, hne, hne2]
  · intro b hb
    simp only [mSet]
    rw [if_neg (by omega), if_neg (by omega), if_neg (by omega), if_neg (by omega)]
theorem c_closeColumn (dd : Nat) (hA : isLA A) {n : Nat} (hT : lOk n T) (hn : n ≤ 16) (hd : d < lLen T) (hP : LP w A T d (lHg T d)) : ∃ w', p_K (dd + 1) 5 [.ref A] (hp L xs w h) = some (none, hp L xs w' h) ∧ LP w' A T (d + 1) 0 ∧ fr A w w' := by
  obtain ⟨t1, t2, t3, t4, t5, t6⟩ := hT
  obtain ⟨p1, p2, p3, p4⟩ := hP
  refine ⟨mUp (mUp w A 0 (nI (d + 1))) (A + 2) (d + 1) (nI (sTo (lHg T) d + lHg T d)), ?_, ?_, ?_⟩
  · rw [k5]
    have q1 : ∀ (b : Nat) (f : Nat → Int32) (w : Nat → Nat → Int32), mSet w b f b = f := fun b f w => mSet_s w b f
    have q2 : ∀ (f : Nat → Int32) (x : Int32), upd f 0 x 0 = x := fun f x => rfl
    have q3 : ∀ (f : Nat → Int32) (x : Int32), upd f 0 x 1 = f 1 := fun f x => rfl
    simp (disch := omega) only [S5_0, u_push, u_goto, u_gets, u_iadd, u_isub, u_imul, u_iand, u_ior, u_ixor, u_ishl, u_ishr, u_iushr, u_land, u_lor, u_lcmp, u_lushr, u_lshl, u_i2l, u_l2i, u_dupr, u_dup2i, u_popi, u_idiv, u_irem, u_ifeq, u_iceq, u_ifne, u_icne, u_iflt, u_iclt, u_ifge, u_icge, u_ifgt, u_icgt, u_ifle, u_icle, u_switch, u_iload_0, u_istore_0, u_aload_0, u_astore_0, u_iinc_0, u_iload_1, u_istore_1, u_aload_1, u_astore_1, u_lload_1, u_lstore_1, u_iinc_1, u_iload_2, u_istore_2, u_aload_2, u_astore_2, u_lload_2, u_lstore_2, u_iinc_2, u_iload_3, u_istore_3, u_aload_3, u_astore_3, u_lload_3, u_lstore_3, u_iinc_3, u_iload_4, u_istore_4, u_aload_4, u_astore_4, u_lload_4, u_lstore_4, u_iinc_4, u_iload_5, u_istore_5, u_aload_5, u_astore_5, u_lload_5, u_lstore_5, u_iinc_5, u_iload_6, u_istore_6, u_aload_6, u_astore_6, u_iinc_6, u_iload_7, u_istore_7, u_aload_7, u_astore_7, u_iinc_7, u_iload_8, u_istore_8, u_aload_8, u_astore_8, u_iinc_8, u_iload_9, u_istore_9, u_aload_9, u_astore_9, u_iinc_9, u_iload_10, u_istore_10, u_aload_10, u_astore_10, u_iinc_10, u_iload_11, u_istore_11, u_aload_11, u_astore_11, u_iinc_11, u_iload_12, u_istore_12, u_aload_12, u_astore_12, u_iinc_12, u_iret, u_zret, u_aret, u_vret, u_getI, u_getR, u_putI, u_putZ, u_putR, u_iald, u_zald, u_aald, u_iast, u_zast, u_aast, u_alen, u_newa, u_newq, u_new, u_oinit_0, u_max_0, u_min_0, u_copy_0, u_invV_0_0, u_invI_0_0, u_invV_1_0, u_invI_1_0, u_invS_1_0, u_invV_2_0, u_invS_2_0, u_invV_3_0, u_invS_3_0, u_invV_4_0, u_invS_4_0, u_oinit_1, u_max_1, u_min_1, u_invV_0_1, u_invI_0_1, u_invV_1_1, u_invI_1_1, u_invS_1_1, u_invV_2_1, u_invS_2_1, u_invV_3_1, u_invS_3_1, u_invV_4_1, u_invS_4_1, u_oinit_2, u_max_2, u_min_2, u_invV_0_2, u_invI_0_2, u_invV_1_2, u_invI_1_2, u_invS_1_2, u_invV_2_2, u_invS_2_2, u_invV_3_2, u_invS_3_2, u_invV_4_2, u_invS_4_2, u_oinit_3, u_max_3, u_min_3, u_invV_0_3, u_invI_0_3, u_invV_1_3, u_invI_1_3, u_invS_1_3, u_invV_2_3, u_invS_2_3, u_invV_3_3, u_invS_3_3, u_invV_4_3, u_invS_4_3, u_oinit_4, u_max_4, u_min_4, u_invV_0_4, u_invI_0_4, u_invV_1_4, u_invI_1_4, u_invS_1_4, u_invV_2_4, u_invS_2_4, u_invV_3_4, u_invS_3_4, u_invV_4_4, u_invS_4_4, u_ret1, u_ret0, u_bs, gI_Y_0 (ha := hA), gI_Y_1 (ha := hA), gR_Y_3 (ha := hA), pt_Y_0 (ha := hA), st_Y_2 (ha := hA), q1, q2, q3, p1, p2, aAdd]
  · refine ⟨?_, ?_, fun c hc => ?_, fun c k hk => ?_⟩
    · simp [mSet, upd]
    · simp [mSet, upd, p2, sTo]
    · by_cases hc2 : c = d + 1
      · subst hc2
        simp [mSet, upd, sTo]
      · simp [mSet, upd, hc2, p3 c (by omega)]
    · have hold : (c < d ∧ k < lHg T c) ∨ (c = d ∧ k < lHg T d) := by
        rcases hk with z | z
        · by_cases hcd : c = d
          · subst hcd
            exact Or.inr ⟨rfl, z.2⟩
          · exact Or.inl ⟨by omega, z.2⟩
        · omega
      obtain ⟨o1, o2, o3⟩ := p4 c k hold
      simp [mSet, o1, o2, o3]
  · intro b hb
    simp only [mSet]
    rw [if_neg (by omega), if_neg (by omega)]
end layc
section layc2
variable {L : Nat} {xs : Nat → Int32} {h : Nat → Option Nat} {A B n d c e0 : Nat} {T T0 : lT}
theorem LYc_at {w : Nat → Nat → Int32} (hL : LYc w B T0) {c k : Nat} (hc : c < lLen T0) (hk : k < lHg T0 c) : w (B + 1) (sTo (lHg T0) c + k) = nI (lAt T0 c k) ∧ w (B + 3) (lAt T0 c k) = nI c ∧ w (B + 4) (lAt T0 c k) = nI (sTo (lHg T0) c + k) := hL.2.2.2 c k (Or.inl ⟨hc, hk⟩)
theorem LYc_st {w : Nat → Nat → Int32} (hL : LYc w B T0) {c : Nat} (hc : c ≤ lLen T0) : w (B + 2) c = nI (sTo (lHg T0) c) := hL.2.2.1 c hc
theorem LYc_fr {w w' : Nat → Nat → Int32} (hL : LYc w B T0) (hf : fr A w w') (hAB : B + 5 ≤ A ∨ A + 5 ≤ B) : LYc w' B T0 := LP_fr hL hf hAB
theorem c_addUpright (dd : Nat) (hA : isLA A) (hB : isLA B) (hAB : A ≠ B) (hT0 : lOk n T0) (hT : lOk n T) (hn : n ≤ 16) (hc : c < lLen T0) (hd : d < lLen T) (hs : e0 + lHg T0 c ≤ lHg T d) (hat : ∀ i, i < lHg T0 c → lAt T d (e0 + i) = lAt T0 c i)
    {w : Nat → Nat → Int32} (hL : LYc w B T0) (hP : LP w A T d e0) : ∃ w', p_K (dd + 2) 6 [.ref A, .ref B, .int (nI c)] (hp L xs w h) = some (none, hp L xs w' h) ∧ LP w' A T d (e0 + lHg T0 c) ∧ fr A w w' := by
  have hap := isLA_apart hA hB hAB
  have hlen : lLen T0 ≤ 16 := Nat.le_trans hT0.2.1 hn
  have hc1 : sTo (lHg T0) (c + 1) = sTo (lHg T0) c + lHg T0 c := rfl
  have hb1 : sTo (lHg T0) c + lHg T0 c ≤ n := by
    have h1 := sTo_le (lHg T0) (show c + 1 ≤ lLen T0 by omega)
    rw [hT0.2.2.1] at h1
    omega
  have loop : ∀ (j i : Nat) (w : Nat → Nat → Int32), i + j = lHg T0 c → LYc w B T0 → LP w A T d (e0 + i) → ∃ w', p_Y 6 (p_K (dd + 1)) 7 [some (.ref A), some (.ref B), some (.int (nI c)), some (.int (nI (sTo (lHg T0) c + i)))] [] (hp L xs w h) = some (none, hp L xs w' h) ∧ LP w' A T d (e0 + lHg T0 c) ∧ fr A w w' := by
    intro j
    induction j with
    | zero =>
      intro i w hij hL hP
      refine ⟨w, ?_, by rw [show lHg T0 c = i by omega]; exact hP, fun b _ => rfl⟩
      rw [e6_7]
      have hst := LYc_st hL (show c + 1 ≤ lLen T0 by omega)
      simp (disch := omega) only [R6_7, u_push, u_goto, u_gets, u_iadd, u_isub, u_imul, u_iand, u_ior, u_ixor, u_ishl, u_ishr, u_iushr, u_land, u_lor, u_lcmp, u_lushr, u_lshl, u_i2l, u_l2i, u_dupr, u_dup2i, u_popi, u_idiv, u_irem, u_ifeq, u_iceq, u_ifne, u_icne, u_iflt, u_iclt, u_ifge, u_icge, u_ifgt, u_icgt, u_ifle, u_icle, u_switch, u_iload_0, u_istore_0, u_aload_0, u_astore_0, u_iinc_0, u_iload_1, u_istore_1, u_aload_1, u_astore_1, u_lload_1, u_lstore_1, u_iinc_1, u_iload_2, u_istore_2, u_aload_2, u_astore_2, u_lload_2, u_lstore_2, u_iinc_2, u_iload_3, u_istore_3, u_aload_3, u_astore_3, u_lload_3, u_lstore_3, u_iinc_3, u_iload_4, u_istore_4, u_aload_4, u_astore_4, u_lload_4, u_lstore_4, u_iinc_4, u_iload_5, u_istore_5, u_aload_5, u_astore_5, u_lload_5, u_lstore_5, u_iinc_5, u_iload_6, u_istore_6, u_aload_6, u_astore_6, u_iinc_6, u_iload_7, u_istore_7, u_aload_7, u_astore_7, u_iinc_7, u_iload_8, u_istore_8, u_aload_8, u_astore_8, u_iinc_8, u_iload_9, u_istore_9, u_aload_9, u_astore_9, u_iinc_9, u_iload_10, u_istore_10, u_aload_10, u_astore_10, u_iinc_10, u_iload_11, u_istore_11, u_aload_11, u_astore_11, u_iinc_11, u_iload_12, u_istore_12, u_aload_12, u_astore_12, u_iinc_12, u_iret, u_zret, u_aret, u_vret, u_getI, u_getR, u_putI, u_putZ, u_putR, u_iald, u_zald, u_aald, u_iast, u_zast, u_aast, u_alen, u_newa, u_newq, u_new, u_oinit_0, u_max_0, u_min_0, u_copy_0, u_invV_0_0, u_invI_0_0, u_invV_1_0, u_invI_1_0, u_invS_1_0, u_invV_2_0, u_invS_2_0, u_invV_3_0, u_invS_3_0, u_invV_4_0, u_invS_4_0, u_oinit_1, u_max_1, u_min_1, u_invV_0_1, u_invI_0_1, u_invV_1_1, u_invI_1_1, u_invS_1_1, u_invV_2_1, u_invS_2_1, u_invV_3_1, u_invS_3_1, u_invV_4_1, u_invS_4_1, u_oinit_2, u_max_2, u_min_2, u_invV_0_2, u_invI_0_2, u_invV_1_2, u_invI_1_2, u_invS_1_2, u_invV_2_2, u_invS_2_2, u_invV_3_2, u_invS_3_2, u_invV_4_2, u_invS_4_2, u_oinit_3, u_max_3, u_min_3, u_invV_0_3, u_invI_0_3, u_invV_1_3, u_invI_1_3, u_invS_1_3, u_invV_2_3, u_invS_2_3, u_invV_3_3, u_invS_3_3, u_invV_4_3, u_invS_4_3, u_oinit_4, u_max_4, u_min_4, u_invV_0_4, u_invI_0_4, u_invV_1_4, u_invI_1_4, u_invS_1_4, u_invV_2_4, u_invS_2_4, u_invV_3_4, u_invS_3_4, u_invV_4_4, u_invS_4_4, u_ret1, u_ret0, u_bs, gR_Y_3 (ha := hB), ld_Y_2 (ha := hB), hst, hc1, aAdd, aLe, show sTo (lHg T0) c + lHg T0 c ≤ sTo (lHg T0) c + i by omega, ifT]
    | succ j ih =>
      intro i w hij hL hP
      have hst := LYc_st hL (show c + 1 ≤ lLen T0 by omega)
      obtain ⟨hx1, hx2, hx3⟩ := LYc_at hL hc (show i < lHg T0 c by omega)
      obtain ⟨w1, hk1, hP1, hf1⟩ := c_addSeat (L := L) (xs := xs) (h := h) dd hA hT hn hd (show e0 + i < lHg T d by omega) hP
      rw [hat i (by omega)] at hk1
      obtain ⟨w2, hk2, hP2, hf2⟩ := ih (i + 1) w1 (by omega) (LYc_fr hL hf1 hap) hP1
      refine ⟨w2, ?_, hP2, fr_t hf1 hf2⟩
      rw [e6_7]
      simp (disch := omega) only [R6_7, u_push, u_goto, u_gets, u_iadd, u_isub, u_imul, u_iand, u_ior, u_ixor, u_ishl, u_ishr, u_iushr, u_land, u_lor, u_lcmp, u_lushr, u_lshl, u_i2l, u_l2i, u_dupr, u_dup2i, u_popi, u_idiv, u_irem, u_ifeq, u_iceq, u_ifne, u_icne, u_iflt, u_iclt, u_ifge, u_icge, u_ifgt, u_icgt, u_ifle, u_icle, u_switch, u_iload_0, u_istore_0, u_aload_0, u_astore_0, u_iinc_0, u_iload_1, u_istore_1, u_aload_1, u_astore_1, u_lload_1, u_lstore_1, u_iinc_1, u_iload_2, u_istore_2, u_aload_2, u_astore_2, u_lload_2, u_lstore_2, u_iinc_2, u_iload_3, u_istore_3, u_aload_3, u_astore_3, u_lload_3, u_lstore_3, u_iinc_3, u_iload_4, u_istore_4, u_aload_4, u_astore_4, u_lload_4, u_lstore_4, u_iinc_4, u_iload_5, u_istore_5, u_aload_5, u_astore_5, u_lload_5, u_lstore_5, u_iinc_5, u_iload_6, u_istore_6, u_aload_6, u_astore_6, u_iinc_6, u_iload_7, u_istore_7, u_aload_7, u_astore_7, u_iinc_7, u_iload_8, u_istore_8, u_aload_8, u_astore_8, u_iinc_8, u_iload_9, u_istore_9, u_aload_9, u_astore_9, u_iinc_9, u_iload_10, u_istore_10, u_aload_10, u_astore_10, u_iinc_10, u_iload_11, u_istore_11, u_aload_11, u_astore_11, u_iinc_11, u_iload_12, u_istore_12, u_aload_12, u_astore_12, u_iinc_12, u_iret, u_zret, u_aret, u_vret, u_getI, u_getR, u_putI, u_putZ, u_putR, u_iald, u_zald, u_aald, u_iast, u_zast, u_aast, u_alen, u_newa, u_newq, u_new, u_oinit_0, u_max_0, u_min_0, u_copy_0, u_invV_0_0, u_invI_0_0, u_invV_1_0, u_invI_1_0, u_invS_1_0, u_invV_2_0, u_invS_2_0, u_invV_3_0, u_invS_3_0, u_invV_4_0, u_invS_4_0, u_oinit_1, u_max_1, u_min_1, u_invV_0_1, u_invI_0_1, u_invV_1_1, u_invI_1_1, u_invS_1_1, u_invV_2_1, u_invS_2_1, u_invV_3_1, u_invS_3_1, u_invV_4_1, u_invS_4_1, u_oinit_2, u_max_2, u_min_2, u_invV_0_2, u_invI_0_2, u_invV_1_2, u_invI_1_2, u_invS_1_2, u_invV_2_2, u_invS_2_2, u_invV_3_2, u_invS_3_2, u_invV_4_2, u_invS_4_2, u_oinit_3, u_max_3, u_min_3, u_invV_0_3, u_invI_0_3, u_invV_1_3, u_invI_1_3, u_invS_1_3, u_invV_2_3, u_invS_2_3, u_invV_3_3, u_invS_3_3, u_invV_4_3, u_invS_4_3, u_oinit_4, u_max_4, u_min_4, u_invV_0_4, u_invI_0_4, u_invV_1_4, u_invI_1_4, u_invS_1_4, u_invV_2_4, u_invS_2_4, u_invV_3_4, u_invS_3_4, u_invV_4_4, u_invS_4_4, u_ret1, u_ret0, u_bs, gR_Y_2 (ha := hB), gR_Y_3 (ha := hB), ld_Y_2 (ha := hB), ld_Y_1 (ha := hB), rv_Y (ha := hA), hst, hc1, hx1, hk1, aAdd, aLe, show ¬ sTo (lHg T0) c + lHg T0 c ≤ sTo (lHg T0) c + i by omega, ifF, ifT]
      exact hk2
  obtain ⟨w', h1, h2, h3⟩ := loop (lHg T0 c) 0 w (by omega) hL hP
  refine ⟨w', ?_, h2, h3⟩
  have hst := LYc_st hL (show c ≤ lLen T0 by omega)
  rw [k6]
  simp (disch := omega) only [S6_0, u_push, u_goto, u_gets, u_iadd, u_isub, u_imul, u_iand, u_ior, u_ixor, u_ishl, u_ishr, u_iushr, u_land, u_lor, u_lcmp, u_lushr, u_lshl, u_i2l, u_l2i, u_dupr, u_dup2i, u_popi, u_idiv, u_irem, u_ifeq, u_iceq, u_ifne, u_icne, u_iflt, u_iclt, u_ifge, u_icge, u_ifgt, u_icgt, u_ifle, u_icle, u_switch, u_iload_0, u_istore_0, u_aload_0, u_astore_0, u_iinc_0, u_iload_1, u_istore_1, u_aload_1, u_astore_1, u_lload_1, u_lstore_1, u_iinc_1, u_iload_2, u_istore_2, u_aload_2, u_astore_2, u_lload_2, u_lstore_2, u_iinc_2, u_iload_3, u_istore_3, u_aload_3, u_astore_3, u_lload_3, u_lstore_3, u_iinc_3, u_iload_4, u_istore_4, u_aload_4, u_astore_4, u_lload_4, u_lstore_4, u_iinc_4, u_iload_5, u_istore_5, u_aload_5, u_astore_5, u_lload_5, u_lstore_5, u_iinc_5, u_iload_6, u_istore_6, u_aload_6, u_astore_6, u_iinc_6, u_iload_7, u_istore_7, u_aload_7, u_astore_7, u_iinc_7, u_iload_8, u_istore_8, u_aload_8, u_astore_8, u_iinc_8, u_iload_9, u_istore_9, u_aload_9, u_astore_9, u_iinc_9, u_iload_10, u_istore_10, u_aload_10, u_astore_10, u_iinc_10, u_iload_11, u_istore_11, u_aload_11, u_astore_11, u_iinc_11, u_iload_12, u_istore_12, u_aload_12, u_astore_12, u_iinc_12, u_iret, u_zret, u_aret, u_vret, u_getI, u_getR, u_putI, u_putZ, u_putR, u_iald, u_zald, u_aald, u_iast, u_zast, u_aast, u_alen, u_newa, u_newq, u_new, u_oinit_0, u_max_0, u_min_0, u_copy_0, u_invV_0_0, u_invI_0_0, u_invV_1_0, u_invI_1_0, u_invS_1_0, u_invV_2_0, u_invS_2_0, u_invV_3_0, u_invS_3_0, u_invV_4_0, u_invS_4_0, u_oinit_1, u_max_1, u_min_1, u_invV_0_1, u_invI_0_1, u_invV_1_1, u_invI_1_1, u_invS_1_1, u_invV_2_1, u_invS_2_1, u_invV_3_1, u_invS_3_1, u_invV_4_1, u_invS_4_1, u_oinit_2, u_max_2, u_min_2, u_invV_0_2, u_invI_0_2, u_invV_1_2, u_invI_1_2, u_invS_1_2, u_invV_2_2, u_invS_2_2, u_invV_3_2, u_invS_3_2, u_invV_4_2, u_invS_4_2, u_oinit_3, u_max_3, u_min_3, u_invV_0_3, u_invI_0_3, u_invV_1_3, u_invI_1_3, u_invS_1_3, u_invV_2_3, u_invS_2_3, u_invV_3_3, u_invS_3_3, u_invV_4_3, u_invS_4_3, u_oinit_4, u_max_4, u_min_4, u_invV_0_4, u_invI_0_4, u_invV_1_4, u_invI_1_4, u_invS_1_4, u_invV_2_4, u_invS_2_4, u_invV_3_4, u_invS_3_4, u_invV_4_4, u_invS_4_4, u_ret1, u_ret0, u_bs, gR_Y_3 (ha := hB), ld_Y_2 (ha := hB), hst]
  exact h1
