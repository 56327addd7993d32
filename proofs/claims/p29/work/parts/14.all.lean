/-! all methods in one table -/
def pTabs0 : List (List (Nat × pO)) := [t0, t1, t2, t3, t4, t5, t6, t7, t8, t9, t10, t11, t12, t13, t14, t15, t16, t17, t18, t19]
theorem pTabs0_ok : p_all 0 pTabs0 := ⟨ok0, ok1, ok2, ok3, ok4, ok5, ok6, ok7, ok8, ok9, ok10, ok11, ok12, ok13, ok14, ok15, ok16, ok17, ok18, ok19, trivial⟩
def pTabs1 : List (List (Nat × pO)) := [t20, t21, t22, t23, t24, t25, t26, t27, t28, t29, t30, t31, t32, t33, t34, t35, t36, t37, t38, t39]
theorem pTabs1_ok : p_all 20 pTabs1 := ⟨ok20, ok21, ok22, ok23, ok24, ok25, ok26, ok27, ok28, ok29, ok30, ok31, ok32, ok33, ok34, ok35, ok36, ok37, ok38, ok39, trivial⟩
def pTabs2 : List (List (Nat × pO)) := [t40, t41, t42, t43, t44, t45, t46, t47, t48, t49, t50, t51, t52, t53, t54, t55, t56, t57, t58, t59]
theorem pTabs2_ok : p_all 40 pTabs2 := ⟨ok40, ok41, ok42, ok43, ok44, ok45, ok46, ok47, ok48, ok49, ok50, ok51, ok52, ok53, ok54, ok55, ok56, ok57, ok58, ok59, trivial⟩
def pTabs3 : List (List (Nat × pO)) := [t60, t61, t62, t63, t64, t65, t66, t67, t68, t69, t70, t71, t72, t73, t74, t75, t76, t77, t78, t79]
theorem pTabs3_ok : p_all 60 pTabs3 := ⟨ok60, ok61, ok62, ok63, ok64, ok65, ok66, ok67, ok68, ok69, ok70, ok71, ok72, ok73, ok74, ok75, ok76, ok77, ok78, ok79, trivial⟩
def pTabs : List (List (Nat × pO)) := pTabs0 ++ (pTabs1 ++ (pTabs2 ++ (pTabs3)))
theorem p_all_app : ∀ (a b : List (List (Nat × pO))) (i : Nat), p_all i a → p_all (i + a.length) b → p_all i (a ++ b)
  | [], b, i, _, h => h
  | t :: ts, b, i, h1, h2 => ⟨h1.1, p_all_app ts b (i + 1) h1.2 (by rw [show i + 1 + ts.length = i + (t :: ts).length by simp only [List.length_cons]; omega]; exact h2)⟩
theorem p_all_get : ∀ (a : List (List (Nat × pO))) (i j : Nat) (t : List (Nat × pO)), p_all i a → a[j]? = some t → ∀ q ∈ t, p_Z (i + j) q
  | [], i, j, t, h, hj => by simp at hj
  | u :: us, i, 0, t, h, hj => by
    simp only [List.getElem?_cons_zero, Option.some.injEq] at hj
    subst hj
    exact h.1
  | u :: us, i, j + 1, t, h, hj => by
    have := p_all_get us (i + 1) j t h.2 (by simpa using hj)
    rw [show i + (j + 1) = i + 1 + j by omega]
    exact this
theorem pTabs_ok : p_all 0 pTabs := p_all_app _ _ _ pTabs0_ok (p_all_app _ _ _ pTabs1_ok (p_all_app _ _ _ pTabs2_ok (pTabs3_ok)))
def pT (μ pc : Nat) : Option pO := (pTabs.getD μ []).lookup pc
theorem p_lookup : ∀ (t : List (Nat × pO)) (pc : Nat) (op : pO), t.lookup pc = some op → (pc, op) ∈ t
  | [], pc, op, h => by cases h
  | (a, b) :: t, pc, op, h => by
    rw [List.lookup_cons] at h
    split at h
    · rename_i hq
      have : pc = a := by simpa using hq
      subst this
      cases h
      exact List.mem_cons_self
    · exact List.mem_cons_of_mem _ (p_lookup t pc op h)
theorem pT_ok (μ pc : Nat) (op : pO) (h : pT μ pc = some op) : p_S μ pc op ∧ p_Tl op ∧ μ < 80 := by
  unfold pT at h
  cases ht : pTabs[μ]? with
  | none =>
    rw [List.getD_eq_getElem?_getD, ht] at h
    cases h
  | some t =>
    rw [List.getD_eq_getElem?_getD, ht] at h
    have h1 := p_all_get pTabs 0 μ t pTabs_ok ht (pc, op) (p_lookup _ _ _ h)
    rw [Nat.zero_add] at h1
    exact ⟨h1.1, h1.2, (List.getElem?_eq_some_iff.mp ht).1⟩
theorem pT_S (μ pc : Nat) (op : pO) (h : pT μ pc = some op) : p_S μ pc op := (pT_ok μ pc op h).1
theorem pT_Tl (μ pc : Nat) (op : pO) (h : pT μ pc = some op) : p_Tl op := (pT_ok μ pc op h).2.1
theorem p_plain : ∀ μ, μ < 80 → plainName (pN μ).cls = true := by decide +kernel
theorem pT_pl (μ pc : Nat) (op : pO) (h : pT μ pc = some op) : plainName (pN μ).cls = true := p_plain μ (pT_ok μ pc op h).2.2
/-- method μ at a place, run to its end -/
noncomputable def p_Y (μ : Nat) (C : pCl) : pK := p_lim (pT μ) C
/-- method μ called, calls at most d deep -/
noncomputable def p_K (d : Nat) : pCl := p_call pT d
theorem p_Y_eq {μ pc : Nat} {op : pO} (h : pT μ pc = some op) (C : pCl) (ls : pLs) (st : List Value) (L : pH) : p_Y μ C pc ls st L = op C (p_Y μ C) ls st L := p_lim_eq (pT_Tl μ) h ls st L
theorem p_K_s (d μ : Nat) (av : List Value) (L : pH) (h : p_okl μ (p_in av) = true) : p_K (d + 1) μ av L = p_Y μ (p_K d) 0 (p_fill (pML μ) (p_in av)) [] L := if_pos h

