/-! running to the end, and whole methods -/
def p_Up (C : pCl) (L L' : pH) : Prop := (∀ rot, p_rt rot L → p_Ge rot L (none, L')) ∨ ∃ μ av o1, C μ av L = some o1 ∧ o1.2 = L'
theorem p_up0 (C : pCl) (L : pH) : p_Up C L L := Or.inl (fun _ h => ⟨Nat.le_refl _, Nat.le_refl _, h⟩)
theorem p_up_set {C : pCl} {L : pH} {a : Nat} {c c' : pE} (h : L[a]? = some c) (hz : p_sz c' = p_sz c) (h4 : ∀ rot, p_rt rot L → 4 ≤ a) : p_Up C L (L.set a c') := Or.inl (fun rot hr => ⟨by show _ ≤ (L.set a c').length; rw [List.length_set]; exact Nat.le_refl _, by show _ ≤ p_sl (L.set a c'); rw [p_sl_set h hz]; exact Nat.le_refl _, p_rt_set hr (h4 rot hr)⟩)
theorem p_up_push {C : pCl} {L : pH} {c : pE} : p_Up C L (L ++ [c]) := Or.inl (fun rot hr => ⟨by show _ ≤ (L ++ [c]).length; rw [List.length_append]; omega, by show _ ≤ p_sl (L ++ [c]); rw [p_sl_push]; omega, p_rt_push hr⟩)
theorem p_up_put {C : pCl} {L L' : pH} {ci a j : Nat} {v : Value} (h : p_put L ci a j v = some L') : p_Up C L L' := by
  obtain ⟨fs, he, hjl, rfl⟩ := p_put_of h
  exact p_up_set he (by simp [p_sz]) (fun rot hr => p_rt_ge hr he)
theorem p_up_st {C : pCl} {L L' : pH} {kd a : Nat} {i x : Int32} (h : p_st L kd a i x = some L') : p_Up C L L' := by
  obtain ⟨n, f, he, h4, hin, rfl⟩ := p_st_of h
  exact p_up_set he rfl (fun rot hr => h4)
theorem p_up_stR {C : pCl} {L L' : pH} {a b : Nat} {i : Int32} (h : p_stR L a i b = some L') : p_Up C L L' := by
  obtain ⟨d9, n, f, fs, he, hd9, hb9, hin, rfl⟩ := p_stR_of h
  exact p_up_set he rfl (fun rot hr => p_rt_ge hr he)
theorem p_up_cp {C : pCl} {L L' : pH} {a0 a : Nat} {sp dp n : Int32} (h : p_cp L a0 sp a dp n = some L') : p_Up C L L' := by
  obtain ⟨n0', n1, f, g, he0, he1, h40', h41, q1, q2, q3, q4, q5, rfl⟩ := p_cp_of h
  exact p_up_set he1 rfl (fun rot hr => h41)
def p_Tl (op : pO) : Prop := ∀ (C : pCl) (k : pK) (ls : pLs) (st : List Value) (L : pH) (o : pOut), op C k ls st L = some o → ((∀ k' : pK, op C k' ls st L = some o) ∧ o.2 = L) ∨ ∃ (pc' : Nat) (ls' : pLs) (st' : List Value) (L' : pH), k pc' ls' st' L' = some o ∧ (∀ k' : pK, op C k' ls st L = k' pc' ls' st' L') ∧ p_Up C L L'

theorem tl_push (v : Value) (p : Nat) : p_Tl (o_push v p) := by
  intro C k ls st L o h
  unfold o_push at h ⊢
  exact Or.inr ⟨_, _, _, _, h, fun _ => rfl, p_up0 _ _⟩

theorem tl_goto (p : Nat) : p_Tl (o_goto p) := by
  intro C k ls st L o h
  unfold o_goto at h ⊢
  exact Or.inr ⟨_, _, _, _, h, fun _ => rfl, p_up0 _ _⟩

theorem tl_gets (i p : Nat) : p_Tl (o_gets i p) := by
  intro C k ls st L o h
  unfold o_gets at h ⊢
  exact Or.inr ⟨_, _, _, _, h, fun _ => rfl, p_up0 _ _⟩

theorem tl_new (ci : Nat) (fs : List Value) (p : Nat) : p_Tl (o_new ci fs p) := by
  intro C k ls st L o h
  unfold o_new at h ⊢
  exact Or.inr ⟨_, _, _, _, h, fun _ => rfl, p_up_push⟩

theorem tl_iadd (p : Nat) : p_Tl (o_iadd p) := by
  intro C k ls st L o h
  unfold o_iadd at h ⊢
  split at h
  · exact Or.inr ⟨_, _, _, _, h, fun _ => rfl, p_up0 _ _⟩
  · cases h

theorem tl_isub (p : Nat) : p_Tl (o_isub p) := by
  intro C k ls st L o h
  unfold o_isub at h ⊢
  split at h
  · exact Or.inr ⟨_, _, _, _, h, fun _ => rfl, p_up0 _ _⟩
  · cases h

theorem tl_imul (p : Nat) : p_Tl (o_imul p) := by
  intro C k ls st L o h
  unfold o_imul at h ⊢
  split at h
  · exact Or.inr ⟨_, _, _, _, h, fun _ => rfl, p_up0 _ _⟩
  · cases h

theorem tl_iand (p : Nat) : p_Tl (o_iand p) := by
  intro C k ls st L o h
  unfold o_iand at h ⊢
  split at h
  · exact Or.inr ⟨_, _, _, _, h, fun _ => rfl, p_up0 _ _⟩
  · cases h

theorem tl_ior (p : Nat) : p_Tl (o_ior p) := by
  intro C k ls st L o h
  unfold o_ior at h ⊢
  split at h
  · exact Or.inr ⟨_, _, _, _, h, fun _ => rfl, p_up0 _ _⟩
  · cases h

theorem tl_ixor (p : Nat) : p_Tl (o_ixor p) := by
  intro C k ls st L o h
  unfold o_ixor at h ⊢
  split at h
  · exact Or.inr ⟨_, _, _, _, h, fun _ => rfl, p_up0 _ _⟩
  · cases h

theorem tl_ishl (p : Nat) : p_Tl (o_ishl p) := by
  intro C k ls st L o h
  unfold o_ishl at h ⊢
  split at h
  · exact Or.inr ⟨_, _, _, _, h, fun _ => rfl, p_up0 _ _⟩
  · cases h

theorem tl_ishr (p : Nat) : p_Tl (o_ishr p) := by
  intro C k ls st L o h
  unfold o_ishr at h ⊢
  split at h
  · exact Or.inr ⟨_, _, _, _, h, fun _ => rfl, p_up0 _ _⟩
  · cases h

theorem tl_iushr (p : Nat) : p_Tl (o_iushr p) := by
  intro C k ls st L o h
  unfold o_iushr at h ⊢
  split at h
  · exact Or.inr ⟨_, _, _, _, h, fun _ => rfl, p_up0 _ _⟩
  · cases h

theorem tl_land (p : Nat) : p_Tl (o_land p) := by
  intro C k ls st L o h
  unfold o_land at h ⊢
  split at h
  · exact Or.inr ⟨_, _, _, _, h, fun _ => rfl, p_up0 _ _⟩
  · cases h

theorem tl_lor (p : Nat) : p_Tl (o_lor p) := by
  intro C k ls st L o h
  unfold o_lor at h ⊢
  split at h
  · exact Or.inr ⟨_, _, _, _, h, fun _ => rfl, p_up0 _ _⟩
  · cases h

theorem tl_ladd (p : Nat) : p_Tl (o_ladd p) := by
  intro C k ls st L o h
  unfold o_ladd at h ⊢
  split at h
  · exact Or.inr ⟨_, _, _, _, h, fun _ => rfl, p_up0 _ _⟩
  · cases h

theorem tl_lmul (p : Nat) : p_Tl (o_lmul p) := by
  intro C k ls st L o h
  unfold o_lmul at h ⊢
  split at h
  · exact Or.inr ⟨_, _, _, _, h, fun _ => rfl, p_up0 _ _⟩
  · cases h

theorem tl_lcmp (p : Nat) : p_Tl (o_lcmp p) := by
  intro C k ls st L o h
  unfold o_lcmp at h ⊢
  split at h
  · exact Or.inr ⟨_, _, _, _, h, fun _ => rfl, p_up0 _ _⟩
  · cases h

theorem tl_lushr (p : Nat) : p_Tl (o_lushr p) := by
  intro C k ls st L o h
  unfold o_lushr at h ⊢
  split at h
  · exact Or.inr ⟨_, _, _, _, h, fun _ => rfl, p_up0 _ _⟩
  · cases h

theorem tl_lshl (p : Nat) : p_Tl (o_lshl p) := by
  intro C k ls st L o h
  unfold o_lshl at h ⊢
  split at h
  · exact Or.inr ⟨_, _, _, _, h, fun _ => rfl, p_up0 _ _⟩
  · cases h

theorem tl_i2l (p : Nat) : p_Tl (o_i2l p) := by
  intro C k ls st L o h
  unfold o_i2l at h ⊢
  split at h
  · exact Or.inr ⟨_, _, _, _, h, fun _ => rfl, p_up0 _ _⟩
  · cases h

theorem tl_l2i (p : Nat) : p_Tl (o_l2i p) := by
  intro C k ls st L o h
  unfold o_l2i at h ⊢
  split at h
  · exact Or.inr ⟨_, _, _, _, h, fun _ => rfl, p_up0 _ _⟩
  · cases h

theorem tl_dupr (p : Nat) : p_Tl (o_dupr p) := by
  intro C k ls st L o h
  unfold o_dupr at h ⊢
  split at h
  · exact Or.inr ⟨_, _, _, _, h, fun _ => rfl, p_up0 _ _⟩
  · cases h

theorem tl_dup2i (p : Nat) : p_Tl (o_dup2i p) := by
  intro C k ls st L o h
  unfold o_dup2i at h ⊢
  split at h
  · exact Or.inr ⟨_, _, _, _, h, fun _ => rfl, p_up0 _ _⟩
  · cases h

theorem tl_popi (p : Nat) : p_Tl (o_popi p) := by
  intro C k ls st L o h
  unfold o_popi at h ⊢
  split at h
  · exact Or.inr ⟨_, _, _, _, h, fun _ => rfl, p_up0 _ _⟩
  · cases h

theorem tl_idiv (p : Nat) : p_Tl (o_idiv p) := by
  intro C k ls st L o h
  unfold o_idiv at h ⊢
  split at h
  · split at h
    · cases h
    · rename_i hq
      exact Or.inr ⟨_, _, _, _, h, fun k' => if_neg hq, p_up0 _ _⟩
  · cases h

theorem tl_irem (p : Nat) : p_Tl (o_irem p) := by
  intro C k ls st L o h
  unfold o_irem at h ⊢
  split at h
  · split at h
    · cases h
    · rename_i hq
      exact Or.inr ⟨_, _, _, _, h, fun k' => if_neg hq, p_up0 _ _⟩
  · cases h

theorem tl_ifeq (t p : Nat) : p_Tl (o_ifeq t p) := by
  intro C k ls st L o h
  unfold o_ifeq at h ⊢
  split at h
  · split at h
    · rename_i hq
      exact Or.inr ⟨_, _, _, _, h, fun k' => if_pos hq, p_up0 _ _⟩
    · rename_i hq
      exact Or.inr ⟨_, _, _, _, h, fun k' => if_neg hq, p_up0 _ _⟩
  · cases h

theorem tl_iceq (t p : Nat) : p_Tl (o_iceq t p) := by
  intro C k ls st L o h
  unfold o_iceq at h ⊢
  split at h
  · split at h
    · rename_i hq
      exact Or.inr ⟨_, _, _, _, h, fun k' => if_pos hq, p_up0 _ _⟩
    · rename_i hq
      exact Or.inr ⟨_, _, _, _, h, fun k' => if_neg hq, p_up0 _ _⟩
  · cases h

theorem tl_ifne (t p : Nat) : p_Tl (o_ifne t p) := by
  intro C k ls st L o h
  unfold o_ifne at h ⊢
  split at h
  · split at h
    · rename_i hq
      exact Or.inr ⟨_, _, _, _, h, fun k' => if_pos hq, p_up0 _ _⟩
    · rename_i hq
      exact Or.inr ⟨_, _, _, _, h, fun k' => if_neg hq, p_up0 _ _⟩
  · cases h

theorem tl_icne (t p : Nat) : p_Tl (o_icne t p) := by
  intro C k ls st L o h
  unfold o_icne at h ⊢
  split at h
  · split at h
    · rename_i hq
      exact Or.inr ⟨_, _, _, _, h, fun k' => if_pos hq, p_up0 _ _⟩
    · rename_i hq
      exact Or.inr ⟨_, _, _, _, h, fun k' => if_neg hq, p_up0 _ _⟩
  · cases h

theorem tl_iflt (t p : Nat) : p_Tl (o_iflt t p) := by
  intro C k ls st L o h
  unfold o_iflt at h ⊢
  split at h
  · split at h
    · rename_i hq
      exact Or.inr ⟨_, _, _, _, h, fun k' => if_pos hq, p_up0 _ _⟩
    · rename_i hq
      exact Or.inr ⟨_, _, _, _, h, fun k' => if_neg hq, p_up0 _ _⟩
  · cases h

theorem tl_iclt (t p : Nat) : p_Tl (o_iclt t p) := by
  intro C k ls st L o h
  unfold o_iclt at h ⊢
  split at h
  · split at h
    · rename_i hq
      exact Or.inr ⟨_, _, _, _, h, fun k' => if_pos hq, p_up0 _ _⟩
    · rename_i hq
      exact Or.inr ⟨_, _, _, _, h, fun k' => if_neg hq, p_up0 _ _⟩
  · cases h

theorem tl_ifge (t p : Nat) : p_Tl (o_ifge t p) := by
  intro C k ls st L o h
  unfold o_ifge at h ⊢
  split at h
  · split at h
    · rename_i hq
      exact Or.inr ⟨_, _, _, _, h, fun k' => if_pos hq, p_up0 _ _⟩
    · rename_i hq
      exact Or.inr ⟨_, _, _, _, h, fun k' => if_neg hq, p_up0 _ _⟩
  · cases h

theorem tl_icge (t p : Nat) : p_Tl (o_icge t p) := by
  intro C k ls st L o h
  unfold o_icge at h ⊢
  split at h
  · split at h
    · rename_i hq
      exact Or.inr ⟨_, _, _, _, h, fun k' => if_pos hq, p_up0 _ _⟩
    · rename_i hq
      exact Or.inr ⟨_, _, _, _, h, fun k' => if_neg hq, p_up0 _ _⟩
  · cases h

theorem tl_ifgt (t p : Nat) : p_Tl (o_ifgt t p) := by
  intro C k ls st L o h
  unfold o_ifgt at h ⊢
  split at h
  · split at h
    · rename_i hq
      exact Or.inr ⟨_, _, _, _, h, fun k' => if_pos hq, p_up0 _ _⟩
    · rename_i hq
      exact Or.inr ⟨_, _, _, _, h, fun k' => if_neg hq, p_up0 _ _⟩
  · cases h

theorem tl_icgt (t p : Nat) : p_Tl (o_icgt t p) := by
  intro C k ls st L o h
  unfold o_icgt at h ⊢
  split at h
  · split at h
    · rename_i hq
      exact Or.inr ⟨_, _, _, _, h, fun k' => if_pos hq, p_up0 _ _⟩
    · rename_i hq
      exact Or.inr ⟨_, _, _, _, h, fun k' => if_neg hq, p_up0 _ _⟩
  · cases h

theorem tl_ifle (t p : Nat) : p_Tl (o_ifle t p) := by
  intro C k ls st L o h
  unfold o_ifle at h ⊢
  split at h
  · split at h
    · rename_i hq
      exact Or.inr ⟨_, _, _, _, h, fun k' => if_pos hq, p_up0 _ _⟩
    · rename_i hq
      exact Or.inr ⟨_, _, _, _, h, fun k' => if_neg hq, p_up0 _ _⟩
  · cases h

theorem tl_icle (t p : Nat) : p_Tl (o_icle t p) := by
  intro C k ls st L o h
  unfold o_icle at h ⊢
  split at h
  · split at h
    · rename_i hq
      exact Or.inr ⟨_, _, _, _, h, fun k' => if_pos hq, p_up0 _ _⟩
    · rename_i hq
      exact Or.inr ⟨_, _, _, _, h, fun k' => if_neg hq, p_up0 _ _⟩
  · cases h

theorem tl_iload (i p : Nat) : p_Tl (o_iload i p) := by
  intro C k ls st L o h
  unfold o_iload at h ⊢
  split at h
  · rename_i x hq
    exact Or.inr ⟨_, _, _, _, h, fun k' => by simp only [hq], p_up0 _ _⟩
  · cases h

theorem tl_aload (i p : Nat) : p_Tl (o_aload i p) := by
  intro C k ls st L o h
  unfold o_aload at h ⊢
  split at h
  · rename_i x hq
    exact Or.inr ⟨_, _, _, _, h, fun k' => by simp only [hq], p_up0 _ _⟩
  · cases h

theorem tl_lload (i p : Nat) : p_Tl (o_lload i p) := by
  intro C k ls st L o h
  unfold o_lload at h ⊢
  split at h
  · rename_i x hq
    exact Or.inr ⟨_, _, _, _, h, fun k' => by simp only [hq], p_up0 _ _⟩
  · cases h

theorem tl_iinc (i : Nat) (v : Int32) (p : Nat) : p_Tl (o_iinc i v p) := by
  intro C k ls st L o h
  unfold o_iinc at h ⊢
  split at h
  · rename_i x hq
    exact Or.inr ⟨_, _, _, _, h, fun k' => by simp only [hq], p_up0 _ _⟩
  · cases h

theorem tl_istore (i p : Nat) : p_Tl (o_istore i p) := by
  intro C k ls st L o h
  unfold o_istore at h ⊢
  split at h
  · exact Or.inr ⟨_, _, _, _, h, fun _ => rfl, p_up0 _ _⟩
  · cases h

theorem tl_astore (i p : Nat) : p_Tl (o_astore i p) := by
  intro C k ls st L o h
  unfold o_astore at h ⊢
  split at h
  · exact Or.inr ⟨_, _, _, _, h, fun _ => rfl, p_up0 _ _⟩
  · cases h

theorem tl_lstore (i p : Nat) : p_Tl (o_lstore i p) := by
  intro C k ls st L o h
  unfold o_lstore at h ⊢
  split at h
  · exact Or.inr ⟨_, _, _, _, h, fun _ => rfl, p_up0 _ _⟩
  · cases h

theorem tl_iret  : p_Tl (o_iret ) := by
  intro C k ls st L o h
  unfold o_iret at h ⊢
  split at h
  · exact Or.inl ⟨fun _ => h, by cases h; rfl⟩
  · cases h

theorem tl_aret  : p_Tl (o_aret ) := by
  intro C k ls st L o h
  unfold o_aret at h ⊢
  split at h
  · exact Or.inl ⟨fun _ => h, by cases h; rfl⟩
  · cases h

theorem tl_vret  : p_Tl (o_vret ) := by
  intro C k ls st L o h
  unfold o_vret at h ⊢
  split at h
  · exact Or.inl ⟨fun _ => h, by cases h; rfl⟩
  · cases h

theorem tl_lret  : p_Tl (o_lret ) := by
  intro C k ls st L o h
  unfold o_lret at h ⊢
  split at h
  · exact Or.inl ⟨fun _ => h, by cases h; rfl⟩
  · cases h

theorem tl_zret  : p_Tl (o_zret ) := by
  intro C k ls st L o h
  unfold o_zret at h ⊢
  split at h
  · split at h
    · rename_i hq
      exact Or.inl ⟨fun _ => (if_pos hq).trans h, by cases h; rfl⟩
    · cases h
  · cases h

theorem tl_getI (ci j p : Nat) : p_Tl (o_getI ci j p) := by
  intro C k ls st L o h
  unfold o_getI at h ⊢
  split at h
  · obtain ⟨x, hg, h⟩ := p_bind h
    exact Or.inr ⟨_, _, _, _, h, fun k' => by show Option.bind _ _ = _; rw [hg]; rfl, p_up0 _ _⟩
  · cases h

theorem tl_getR (ci j p : Nat) : p_Tl (o_getR ci j p) := by
  intro C k ls st L o h
  unfold o_getR at h ⊢
  split at h
  · obtain ⟨x, hg, h⟩ := p_bind h
    exact Or.inr ⟨_, _, _, _, h, fun k' => by show Option.bind _ _ = _; rw [hg]; rfl, p_up0 _ _⟩
  · cases h

theorem tl_putI (ci j p : Nat) : p_Tl (o_putI ci j p) := by
  intro C k ls st L o h
  unfold o_putI at h ⊢
  split at h
  · obtain ⟨x, hg, h⟩ := p_bind h
    exact Or.inr ⟨_, _, _, _, h, fun k' => by show Option.bind _ _ = _; rw [hg]; rfl, p_up_put hg⟩
  · cases h

theorem tl_putR (ci j p : Nat) : p_Tl (o_putR ci j p) := by
  intro C k ls st L o h
  unfold o_putR at h ⊢
  split at h
  · obtain ⟨x, hg, h⟩ := p_bind h
    exact Or.inr ⟨_, _, _, _, h, fun k' => by show Option.bind _ _ = _; rw [hg]; rfl, p_up_put hg⟩
  · cases h

theorem tl_iald (p : Nat) : p_Tl (o_iald p) := by
  intro C k ls st L o h
  unfold o_iald at h ⊢
  split at h
  · obtain ⟨x, hg, h⟩ := p_bind h
    exact Or.inr ⟨_, _, _, _, h, fun k' => by show Option.bind _ _ = _; rw [hg]; rfl, p_up0 _ _⟩
  · cases h

theorem tl_aald (p : Nat) : p_Tl (o_aald p) := by
  intro C k ls st L o h
  unfold o_aald at h ⊢
  split at h
  · obtain ⟨x, hg, h⟩ := p_bind h
    exact Or.inr ⟨_, _, _, _, h, fun k' => by show Option.bind _ _ = _; rw [hg]; rfl, p_up0 _ _⟩
  · cases h

theorem tl_alen (p : Nat) : p_Tl (o_alen p) := by
  intro C k ls st L o h
  unfold o_alen at h ⊢
  split at h
  · obtain ⟨x, hg, h⟩ := p_bind h
    exact Or.inr ⟨_, _, _, _, h, fun k' => by show Option.bind _ _ = _; rw [hg]; rfl, p_up0 _ _⟩
  · cases h

theorem tl_iast (p : Nat) : p_Tl (o_iast p) := by
  intro C k ls st L o h
  unfold o_iast at h ⊢
  split at h
  · obtain ⟨x, hg, h⟩ := p_bind h
    exact Or.inr ⟨_, _, _, _, h, fun k' => by show Option.bind _ _ = _; rw [hg]; rfl, p_up_st hg⟩
  · cases h

theorem tl_aast (p : Nat) : p_Tl (o_aast p) := by
  intro C k ls st L o h
  unfold o_aast at h ⊢
  split at h
  · obtain ⟨x, hg, h⟩ := p_bind h
    exact Or.inr ⟨_, _, _, _, h, fun k' => by show Option.bind _ _ = _; rw [hg]; rfl, p_up_stR hg⟩
  · cases h

theorem tl_zald (p : Nat) : p_Tl (o_zald p) := by
  intro C k ls st L o h
  unfold o_zald at h ⊢
  split at h
  · split at h
    · rename_i hq
      obtain ⟨x, hg, h⟩ := p_bind h
      exact Or.inr ⟨_, _, _, _, h, fun k' => by show (if _ then Option.bind _ _ else none) = _; rw [if_pos hq, hg]; rfl, p_up0 _ _⟩
    · cases h
  · cases h

theorem tl_zast (p : Nat) : p_Tl (o_zast p) := by
  intro C k ls st L o h
  unfold o_zast at h ⊢
  split at h
  · split at h
    · rename_i hq
      obtain ⟨x, hg, h⟩ := p_bind h
      exact Or.inr ⟨_, _, _, _, h, fun k' => by show (if _ then Option.bind _ _ else none) = _; rw [if_pos hq, hg]; rfl, p_up_st hg⟩
    · cases h
  · cases h

theorem tl_newa (kd p : Nat) : p_Tl (o_newa kd p) := by
  intro C k ls st L o h
  unfold o_newa at h ⊢
  split at h
  · split at h
    · cases h
    · rename_i hq
      exact Or.inr ⟨_, _, _, _, h, fun k' => if_neg hq, p_up_push⟩
  · cases h

theorem tl_newq (kd p : Nat) : p_Tl (o_newq kd p) := by
  intro C k ls st L o h
  unfold o_newq at h ⊢
  split at h
  · split at h
    · cases h
    · rename_i hq
      exact Or.inr ⟨_, _, _, _, h, fun k' => if_neg hq, p_up_push⟩
  · cases h

theorem tl_oinit (p : Nat) : p_Tl (o_oinit p) := by
  intro C k ls st L o h
  unfold o_oinit at h ⊢
  split at h
  · split at h
    · rename_i hq
      exact Or.inr ⟨_, _, _, _, h, fun k' => if_pos hq, p_up0 _ _⟩
    · cases h
  · cases h

theorem tl_max (p : Nat) : p_Tl (o_max p) := by
  intro C k ls st L o h
  unfold o_max at h ⊢
  split at h
  · split at h
    · rename_i hq
      exact Or.inr ⟨_, _, _, _, h, fun k' => if_pos hq, p_up0 _ _⟩
    · cases h
  · cases h

theorem tl_min (p : Nat) : p_Tl (o_min p) := by
  intro C k ls st L o h
  unfold o_min at h ⊢
  split at h
  · split at h
    · rename_i hq
      exact Or.inr ⟨_, _, _, _, h, fun k' => if_pos hq, p_up0 _ _⟩
    · cases h
  · cases h

theorem tl_copy (p : Nat) : p_Tl (o_copy p) := by
  intro C k ls st L o h
  unfold o_copy at h ⊢
  split at h
  · split at h
    · rename_i hq
      obtain ⟨x, hg, h⟩ := p_bind h
      exact Or.inr ⟨_, _, _, _, h, fun k' => by show (if _ then Option.bind _ _ else none) = _; rw [if_pos hq, hg]; rfl, p_up_cp hg⟩
    · cases h
  · cases h

theorem tl_invV (ci μ' n p : Nat) : p_Tl (o_invV ci μ' n p) := by
  intro C k ls st L o h
  unfold o_invV at h ⊢
  split at h
  · rename_i av rest harg
    split at h
    · rename_i hq
      obtain ⟨x, hg, h⟩ := p_bind h
      refine Or.inr ⟨_, _, _, _, h, fun k' => ?_, Or.inr ⟨_, _, _, hg, rfl⟩⟩
      show (if _ then Option.bind _ _ else none) = _
      rw [if_pos hq, hg]
      rfl
    · cases h
  · cases h

theorem tl_invS (μ' n p : Nat) : p_Tl (o_invS μ' n p) := by
  intro C k ls st L o h
  unfold o_invS at h ⊢
  split at h
  · rename_i av rest harg
    split at h
    · rename_i hq
      obtain ⟨x, hg, h⟩ := p_bind h
      refine Or.inr ⟨_, _, _, _, h, fun k' => ?_, Or.inr ⟨_, _, _, hg, rfl⟩⟩
      show (if _ then Option.bind _ _ else none) = _
      rw [if_pos hq, hg]
      rfl
    · cases h
  · cases h

theorem tl_invI (μ' n p : Nat) : p_Tl (o_invI μ' n p) := by
  intro C k ls st L o h
  unfold o_invI at h ⊢
  split at h
  · rename_i av rest harg
    split at h
    · rename_i hq
      obtain ⟨x, hg, h⟩ := p_bind h
      refine Or.inr ⟨_, _, _, _, h, fun k' => ?_, Or.inr ⟨_, _, _, hg, rfl⟩⟩
      show (if _ then Option.bind _ _ else none) = _
      rw [if_pos hq, hg]
      rfl
    · cases h
  · cases h

theorem tl_switch (cs : List (Int32 × Nat)) (dt : Nat) : p_Tl (o_switch cs dt) := by
  intro C k ls st L o h
  unfold o_switch at h ⊢
  split at h
  · rename_i x r
    have key : ∀ cs : List (Int32 × Nat), ∃ t, ∀ f : Nat → pR, p_sw f dt x cs = f t := by
      intro cs
      induction cs with
      | nil => exact ⟨dt, fun f => rfl⟩
      | cons q rest ih =>
        obtain ⟨c, t⟩ := q
        by_cases hx : x = c
        · exact ⟨t, fun f => if_pos hx⟩
        · obtain ⟨t2, ht2⟩ := ih
          exact ⟨t2, fun f => (if_neg hx).trans (ht2 f)⟩
    obtain ⟨t, ht⟩ := key cs
    rw [ht] at h
    exact Or.inr ⟨_, _, _, _, h, fun k' => ht _, p_up0 _ _⟩
  · cases h
-- to the end
noncomputable def p_lim (P : Nat → Option pO) (C : pCl) : pK := fun pc ls st L =>
  @dite pR (∃ n o, p_run P C n pc ls st L = some o) (Classical.propDecidable _) (fun h => p_run P C (Classical.choose h) pc ls st L) (fun _ => none)
theorem p_run_s (P : Nat → Option pO) (C : pCl) (n pc : Nat) (ls : pLs) (st : List Value) (L : pH) : p_run P C (n + 1) pc ls st L = match P pc with
    | some op => op C (p_run P C n) ls st L
    | none => none := rfl
theorem p_run_mono {P : Nat → Option pO} {C : pCl} (hT : ∀ pc op, P pc = some op → p_Tl op) : ∀ (n : Nat) (pc : Nat) (ls : pLs) (st : List Value) (L : pH) (o : pOut), p_run P C n pc ls st L = some o → p_run P C (n + 1) pc ls st L = some o := by
  intro n
  induction n with
  | zero => intro pc ls st L o h; cases h
  | succ n ih =>
    intro pc ls st L o h
    rw [p_run_s] at h ⊢
    cases hp : P pc with
    | none => rw [hp] at h; cases h
    | some op =>
      rw [hp] at h
      have h : op C (p_run P C n) ls st L = some o := h
      show op C (p_run P C (n + 1)) ls st L = some o
      rcases hT pc op hp C _ ls st L o h with ⟨g, -⟩ | ⟨pc', ls', st', L', g1, g2, -⟩
      · exact g _
      · rw [g2]
        exact ih _ _ _ _ _ g1
theorem p_run_le {P : Nat → Option pO} {C : pCl} (hT : ∀ pc op, P pc = some op → p_Tl op) {n m pc : Nat} {ls : pLs} {st : List Value} {L : pH} {o : pOut} (hnm : n ≤ m) (h : p_run P C n pc ls st L = some o) : p_run P C m pc ls st L = some o := by
  obtain ⟨j, rfl⟩ : ∃ j, m = n + j := ⟨m - n, by omega⟩
  induction j with
  | zero => exact h
  | succ j ih => exact p_run_mono hT _ _ _ _ _ _ (ih (by omega))
theorem p_lim_of {P : Nat → Option pO} {C : pCl} {pc : Nat} {ls : pLs} {st : List Value} {L : pH} {o : pOut} (h : p_lim P C pc ls st L = some o) : ∃ n, p_run P C n pc ls st L = some o := by
  unfold p_lim at h
  by_cases hx : ∃ n o, p_run P C n pc ls st L = some o
  · rw [dif_pos hx] at h
    exact ⟨_, h⟩
  · rw [dif_neg hx] at h
    cases h
theorem p_lim_at {P : Nat → Option pO} {C : pCl} (hT : ∀ pc op, P pc = some op → p_Tl op) {n pc : Nat} {ls : pLs} {st : List Value} {L : pH} {o : pOut} (h : p_run P C n pc ls st L = some o) : p_lim P C pc ls st L = some o := by
  have hx : ∃ n o, p_run P C n pc ls st L = some o := ⟨n, o, h⟩
  unfold p_lim
  rw [dif_pos hx]
  obtain ⟨o2, h2⟩ := Classical.choose_spec hx
  rcases Nat.le_total n (Classical.choose hx) with q | q
  · exact p_run_le hT q h
  · rw [h2, ← h, p_run_le hT q h2]
/-- one step of the run to the end -/
theorem p_lim_eq {P : Nat → Option pO} {C : pCl} (hT : ∀ pc op, P pc = some op → p_Tl op) {pc : Nat} {op : pO} (hp : P pc = some op) (ls : pLs) (st : List Value) (L : pH) : p_lim P C pc ls st L = op C (p_lim P C) ls st L := by
  have key : ∀ o, p_lim P C pc ls st L = some o ↔ op C (p_lim P C) ls st L = some o := by
    intro o
    constructor
    · intro h
      obtain ⟨n, hn⟩ := p_lim_of h
      cases n with
      | zero => cases hn
      | succ n =>
        rw [p_run_s, hp] at hn
        have hn : op C (p_run P C n) ls st L = some o := hn
        rcases hT pc op hp C _ ls st L o hn with ⟨g, -⟩ | ⟨pc', ls', st', L', g1, g2, -⟩
        · exact g _
        · rw [g2]
          exact p_lim_at hT g1
    · intro h
      rcases hT pc op hp C _ ls st L o h with ⟨g, -⟩ | ⟨pc', ls', st', L', g1, g2, -⟩
      · refine p_lim_at hT (n := 1) ?_
        rw [p_run_s, hp]
        exact g _
      · obtain ⟨n, hn⟩ := p_lim_of g1
        refine p_lim_at hT (n := n + 1) ?_
        rw [p_run_s, hp]
        show op C (p_run P C n) ls st L = some o
        rw [g2]
        exact hn
  cases h1 : p_lim P C pc ls st L with
  | some o => exact ((key o).mp h1).symm
  | none =>
    cases h2 : op C (p_lim P C) ls st L with
    | none => rfl
    | some o => rw [(key o).mpr h2] at h1; cases h1
noncomputable def p_call (PT : Nat → Nat → Option pO) : Nat → pCl
  | 0 => fun _ _ _ => none
  | d + 1 => fun μ av L => if p_okl μ (p_in av) = true then p_lim (PT μ) (p_call PT d) 0 (p_fill (pML μ) (p_in av)) [] L else none
theorem p_call_s (PT : Nat → Nat → Option pO) (d μ : Nat) (av : List Value) (L : pH) : p_call PT (d + 1) μ av L = if p_okl μ (p_in av) = true then p_lim (PT μ) (p_call PT d) 0 (p_fill (pML μ) (p_in av)) [] L else none := rfl
-- soundness
theorem p_run_S {PT : Nat → Nat → Option pO} (hPT : ∀ μ pc op, PT μ pc = some op → p_S μ pc op) (p : Program) (l : Launch) (e : Env) (R : Room) (s : State) (m : MethodId) (args : Array Value) (below : List Frame) (meth : Method) (c : Code) (Q : State → Prop) (G : p_T) (D : va_G) (rot : Nat → Nat × (Nat → Int32)) (d n0 s0 : Nat) (C : pCl) (o : pOut) (μ : Nat) (X : p_X p l e R s m args below meth c Q G D rot d n0 s0 C o μ) : ∀ (n pc : Nat) (ls : pLs) (st : List Value) (L : pH), p_run (PT μ) C n pc ls st L = some o → p_G p l e R s m args below meth c Q G D rot d n0 s0 C o μ pc ls st L := by
  intro n
  induction n with
  | zero => intro pc ls st L h; cases h
  | succ n ih =>
    intro pc ls st L h
    rw [p_run_s] at h
    cases hp : PT μ pc with
    | none => rw [hp] at h; cases h
    | some op =>
      rw [hp] at h
      exact hPT μ pc op hp p l e R s m args below meth c Q G D rot d n0 s0 C o X _ ls st L h ih
theorem p_run_ge {P : Nat → Option pO} {C : pCl} {rot : Nat → Nat × (Nat → Int32)} (hT : ∀ pc op, P pc = some op → p_Tl op) (hC : ∀ μ av L o, C μ av L = some o → p_rt rot L → p_Ge rot L o) : ∀ (n : Nat) (pc : Nat) (ls : pLs) (st : List Value) (L : pH) (o : pOut), p_run P C n pc ls st L = some o → p_rt rot L → p_Ge rot L o := by
  intro n
  induction n with
  | zero => intro pc ls st L o h; cases h
  | succ n ih =>
    intro pc ls st L o h hr
    rw [p_run_s] at h
    cases hp : P pc with
    | none => rw [hp] at h; cases h
    | some op =>
      rw [hp] at h
      rcases hT pc op hp C _ ls st L o h with ⟨-, g⟩ | ⟨pc', ls', st', L', g1, -, g2⟩
      · exact ⟨by rw [g]; exact Nat.le_refl _, by rw [g]; exact Nat.le_refl _, by rw [g]; exact hr⟩
      · have hup : p_Ge rot L (none, L') := by
          rcases g2 with g2 | ⟨μ, av, o1, g3, rfl⟩
          · exact g2 rot hr
          · exact hC μ av L o1 g3 hr
        obtain ⟨a1, a2, a3⟩ := hup
        obtain ⟨b1, b2, b3⟩ := ih _ _ _ _ _ g1 a3
        exact ⟨Nat.le_trans a1 b1, Nat.le_trans a2 b2, b3⟩
theorem p_in_len (av : List Value) : ∀ G : p_T, (lg_sl (av.map (p_v G))).length = (p_in av).length := by
  intro G
  induction av with
  | nil => rfl
  | cons v t ih =>
    simp only [lg_sl, List.map_cons, List.flatMap_cons, p_in, p_v_cat] at ih ⊢
    rw [List.length_append, ih]
    split <;> simp <;> omega
theorem p_fill_get {n j : Nat} {l : pLs} {v : Value} (h : (p_fill n l)[j]? = some (some v)) : l[j]? = some (some v) := by
  unfold p_fill at h
  by_cases hj : j < l.length
  · rw [List.getElem?_append_left hj] at h
    exact h
  · rw [List.getElem?_append_right (by omega), List.getElem?_replicate] at h
    split at h <;> cases h
theorem p_in_args (G : p_T) : ∀ (av : List Value) (b j : Nat) (v : Value), (p_in av)[j]? = some (some v) → (b + j, p_v G v) ∈ lv_args b (av.map (p_v G))
  | [], b, j, v, h => by simp [p_in] at h
  | w :: t, b, j, v, h => by
    rw [p_in] at h
    rw [List.map_cons, lv_args, p_v_cat]
    by_cases hc : w.category = 2
    · rw [if_pos hc] at h
      rw [if_pos hc]
      match j, h with
      | 0, h =>
        simp only [List.getElem?_cons_zero, Option.some.injEq] at h
        subst h
        exact List.mem_cons_self
      | 1, h => simp at h
      | j + 2, h =>
        have := p_in_args G t (b + 2) j v (by simpa using h)
        rw [show b + (j + 2) = b + 2 + j by omega]
        exact List.mem_cons_of_mem _ this
    · rw [if_neg hc] at h
      rw [if_neg hc]
      match j, h with
      | 0, h =>
        simp only [List.getElem?_cons_zero, Option.some.injEq] at h
        subst h
        exact List.mem_cons_self
      | j + 1, h =>
        have := p_in_args G t (b + 1) j v (by simpa using h)
        rw [show b + (j + 1) = b + 1 + j by omega]
        exact List.mem_cons_of_mem _ this
theorem p_entry {G : p_T} {μ : Nat} {av : List Value} {ls : Array Slot} (hok : p_okl μ (p_in av) = true) (hl : lv_has ls (pML μ) (lv_args 0 (av.map (p_v G)))) : lv_has ls (pML μ) (p_l G 0 (p_fill (pML μ) (p_in av))) ∧ p_lg μ (p_fill (pML μ) (p_in av)) := by
  simp only [p_okl, Bool.and_eq_true, decide_eq_true_eq, List.all_eq_true, List.mem_range] at hok
  obtain ⟨h1, h2⟩ := hok
  refine ⟨⟨hl.1, hl.2.1, fun q hq => ?_⟩, ?_, fun j v hj hc => ?_⟩
  · obtain ⟨j, v, h3, rfl⟩ := (p_l_mem _ 0 q).mp hq
    exact hl.2.2 _ (p_in_args G av 0 j v (p_fill_get h3))
  · unfold p_fill
    rw [List.length_append, List.length_replicate]
    omega
  · have h3 := p_fill_get hj
    have h4 := h2 j (List.getElem?_eq_some_iff.mp h3).1
    rw [h3] at h4
    simp only [ne_eq, Bool.or_eq_true, decide_eq_true_eq, List.contains_iff_mem] at h4
    rcases h4 with h4 | h4
    · exact absurd hc (by simpa using h4)
    · simpa using h4
theorem p_sound {PT : Nat → Nat → Option pO} (hTl : ∀ μ pc op, PT μ pc = some op → p_Tl op) (hPT : ∀ μ pc op, PT μ pc = some op → p_S μ pc op) (hpl : ∀ μ pc op, PT μ pc = some op → plainName (pN μ).cls = true) (G : p_T) (D : va_G) (l : Launch) (rot : Nat → Nat × (Nat → Int32)) : ∀ d : Nat, p_Ok G D l rot d (p_call PT d) := by
  intro d
  induction d with
  | zero => intro μ av L o h; cases h
  | succ d ih =>
    intro μ av L o h hrot
    rw [p_call_s] at h
    by_cases hok : p_okl μ (p_in av) = true
    · rw [if_pos hok] at h
      obtain ⟨n, hn⟩ := p_lim_of h
      have hpl0 : plainName (pN μ).cls = true := by
        cases n with
        | zero => cases hn
        | succ n =>
          rw [p_run_s] at hn
          cases hp : PT μ 0 with
          | none => rw [hp] at hn; cases hn
          | some op => exact hpl μ 0 op hp
      have hgood : p_Ge rot L o := p_run_ge (hTl μ) (fun μ' av' L1 o1 h1 h2 => (ih μ' av' L1 o1 h1 h2).1) n _ _ _ _ _ hn hrot
      refine ⟨hgood, ?_⟩
      refine Met.ofW (cc := pB μ) (maxL := pML μ) (ret := pRt μ) hpl0 rfl ?_
      intro p e s m args below meth c s₁ B hml hv
      obtain ⟨rfl, hz, hP, hK, hro, hnw⟩ := hv
      have hx := B.exec
      have hb := B.bytes
      have hr := B.returns
      have hts := atoms_spec (ws := pW μ) B.pre
      have hown : s.vm.findClass (pN μ).cls = some m.cls := findClass_of_methodNamed B.named
      have hlocks := B.notSynchronized
      have hin : meth.name = (pN μ).name := (name_of_methodNamed B.named B.method).1
      have hl := lv_entry (av.map (p_v G)) (n := pML μ) (by
        rw [p_in_len]
        simp only [p_okl, Bool.and_eq_true, decide_eq_true_eq] at hok
        exact hok.1)
      rw [lg_entry_eq]
      generalize (lg_sl (av.map (p_v G)) ++ List.replicate (pML μ - (lg_sl (av.map (p_v G))).length) Slot.unset).toArray = lsA at hl ⊢
      obtain ⟨hl1, hl2⟩ := p_entry hok hl
      have h4 := p_rt_len hrot
      obtain ⟨g1, g2, g3⟩ := hgood
      have hX : p_X p l e (headSpec (pW μ) (p_rm (d + 1) L o)).room s m (av.map (p_v G)).toArray below meth c (MQ below (p_Post G D o) (av.map (p_v G)).toArray s (o.2.length - L.length) (p_sl o.2 - p_sl L) (p_A G)) G D rot d L.length (p_sl L) (p_call PT d) o μ := by
        refine ⟨⟨hx, hb, hml, hown, fun w hw => hts w (List.mem_cons_of_mem _ hw)⟩, ⟨hK, by omega, h4, hro, hnw⟩, ⟨Nat.le_refl _, Nat.le_refl _, by show o.2.length ≤ L.length + (o.2.length - L.length); omega, by show p_sl o.2 ≤ p_sl L + (p_sl o.2 - p_sl L); omega⟩, ih, (fun h9 => hin.trans h9), ?_⟩
        intro pc lsA H locs cells slots hret hrt2 hP2 hS2 hc2 hs2
        have e1 : cells = o.2.length - L.length := by omega
        have e2 : slots = p_sl o.2 - p_sl L := by omega
        subst e1
        subst e2
        rcases hret with ⟨hd1, hr1, x, hv1⟩ | ⟨hd1, hr1, x, hv1, hx01⟩ | ⟨hd1, ⟨nm, hr1⟩, a, hv1⟩ | ⟨hd1, hr1, hv1⟩ | ⟨hd1, hr1, x, hv1⟩
        · rw [hv1]
          exact W.iret (v := x) hx hb (hr.trans hr1) (fun t ht hW => ⟨by rw [hv1]; rfl, by rw [ht]; exact hP2, hS2.F ht⟩) hS2.2.2 hd1
        · rw [hv1]
          exact W.zret (v := x) hx hb (hr.trans hr1) (by rcases hx01 with rfl | rfl <;> rfl) (fun t ht hW => ⟨by rw [hv1]; rfl, by rw [ht]; exact hP2, hS2.F ht⟩) hS2.2.2 hd1
        · rw [hv1]
          exact W.aret (v := .ref (p_ad G a)) hx hb (hr.trans hr1) (Or.inl ⟨nm, rfl⟩) (Or.inr ⟨_, rfl⟩) (fun t ht hW => ⟨by rw [hv1]; rfl, by rw [ht]; exact hP2, hS2.F ht⟩) hS2.2.2 hd1
        · rw [hv1]
          exact W.vret hx hb (hr.trans hr1) (fun t ht hW => ⟨by rw [hv1]; rfl, by rw [ht]; exact hP2, hS2.F ht⟩) hS2.2.2 hd1
        · rw [hv1]
          exact W.lret (v := x) hx hb (hr.trans hr1) (fun t ht hW => ⟨by rw [hv1]; rfl, by rw [ht]; exact hP2, hS2.F ht⟩) hS2.2.2 hd1
      have hG := p_run_S hPT p l e _ s m _ below meth c _ G D rot d _ _ (p_call PT d) o μ hX n 0 _ [] L hn hrot
      exact hG.2 s.heap [] 0 0 lsA hl1 hl2 hP va_S.rf (by omega) (by omega)
    · rw [if_neg hok] at h
      cases h
