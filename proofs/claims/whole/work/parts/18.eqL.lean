/-! one equation for each instruction, and how a call begins -/
theorem tb164 (pc : Nat) : pT 164 pc = t164.lookup pc := rfl
theorem hT164 {pc : Nat} {op : pO} (h : t164.lookup pc = some op) (C : pCl) (ls : pLs) (st : List Value) (L : pH) : p_Y 164 C pc ls st L = op C (p_Y 164 C) ls st L := p_Y_eq ((tb164 pc).trans h) C ls st L
theorem e164_0 (C : pCl) (ls : pLs) (st : List Value) (L : pH) : p_Y 164 C 0 ls st L = o_iload 0 1 C (p_Y 164 C) ls st L := hT164 rfl C ls st L
theorem e164_1 (C : pCl) (ls : pLs) (st : List Value) (L : pH) : p_Y 164 C 1 ls st L = o_iload 0 2 C (p_Y 164 C) ls st L := hT164 rfl C ls st L
theorem e164_2 (C : pCl) (ls : pLs) (st : List Value) (L : pH) : p_Y 164 C 2 ls st L = o_push (.int (nI 1)) 3 C (p_Y 164 C) ls st L := hT164 rfl C ls st L
theorem e164_3 (C : pCl) (ls : pLs) (st : List Value) (L : pH) : p_Y 164 C 3 ls st L = o_iushr 4 C (p_Y 164 C) ls st L := hT164 rfl C ls st L
theorem e164_4 (C : pCl) (ls : pLs) (st : List Value) (L : pH) : p_Y 164 C 4 ls st L = o_push (.int (1431655765 : Int32)) 7 C (p_Y 164 C) ls st L := hT164 rfl C ls st L
theorem e164_7 (C : pCl) (ls : pLs) (st : List Value) (L : pH) : p_Y 164 C 7 ls st L = o_iand 8 C (p_Y 164 C) ls st L := hT164 rfl C ls st L
theorem e164_8 (C : pCl) (ls : pLs) (st : List Value) (L : pH) : p_Y 164 C 8 ls st L = o_isub 9 C (p_Y 164 C) ls st L := hT164 rfl C ls st L
theorem e164_9 (C : pCl) (ls : pLs) (st : List Value) (L : pH) : p_Y 164 C 9 ls st L = o_istore 0 10 C (p_Y 164 C) ls st L := hT164 rfl C ls st L
theorem e164_10 (C : pCl) (ls : pLs) (st : List Value) (L : pH) : p_Y 164 C 10 ls st L = o_iload 0 11 C (p_Y 164 C) ls st L := hT164 rfl C ls st L
theorem e164_11 (C : pCl) (ls : pLs) (st : List Value) (L : pH) : p_Y 164 C 11 ls st L = o_push (.int (858993459 : Int32)) 14 C (p_Y 164 C) ls st L := hT164 rfl C ls st L
theorem e164_14 (C : pCl) (ls : pLs) (st : List Value) (L : pH) : p_Y 164 C 14 ls st L = o_iand 15 C (p_Y 164 C) ls st L := hT164 rfl C ls st L
theorem e164_15 (C : pCl) (ls : pLs) (st : List Value) (L : pH) : p_Y 164 C 15 ls st L = o_iload 0 16 C (p_Y 164 C) ls st L := hT164 rfl C ls st L
theorem e164_16 (C : pCl) (ls : pLs) (st : List Value) (L : pH) : p_Y 164 C 16 ls st L = o_push (.int (nI 2)) 17 C (p_Y 164 C) ls st L := hT164 rfl C ls st L
theorem e164_17 (C : pCl) (ls : pLs) (st : List Value) (L : pH) : p_Y 164 C 17 ls st L = o_iushr 18 C (p_Y 164 C) ls st L := hT164 rfl C ls st L
theorem e164_18 (C : pCl) (ls : pLs) (st : List Value) (L : pH) : p_Y 164 C 18 ls st L = o_push (.int (858993459 : Int32)) 21 C (p_Y 164 C) ls st L := hT164 rfl C ls st L
theorem e164_21 (C : pCl) (ls : pLs) (st : List Value) (L : pH) : p_Y 164 C 21 ls st L = o_iand 22 C (p_Y 164 C) ls st L := hT164 rfl C ls st L
theorem e164_22 (C : pCl) (ls : pLs) (st : List Value) (L : pH) : p_Y 164 C 22 ls st L = o_iadd 23 C (p_Y 164 C) ls st L := hT164 rfl C ls st L
theorem e164_23 (C : pCl) (ls : pLs) (st : List Value) (L : pH) : p_Y 164 C 23 ls st L = o_istore 0 24 C (p_Y 164 C) ls st L := hT164 rfl C ls st L
theorem e164_24 (C : pCl) (ls : pLs) (st : List Value) (L : pH) : p_Y 164 C 24 ls st L = o_iload 0 25 C (p_Y 164 C) ls st L := hT164 rfl C ls st L
theorem e164_25 (C : pCl) (ls : pLs) (st : List Value) (L : pH) : p_Y 164 C 25 ls st L = o_iload 0 26 C (p_Y 164 C) ls st L := hT164 rfl C ls st L
theorem e164_26 (C : pCl) (ls : pLs) (st : List Value) (L : pH) : p_Y 164 C 26 ls st L = o_push (.int (nI 4)) 27 C (p_Y 164 C) ls st L := hT164 rfl C ls st L
theorem e164_27 (C : pCl) (ls : pLs) (st : List Value) (L : pH) : p_Y 164 C 27 ls st L = o_iushr 28 C (p_Y 164 C) ls st L := hT164 rfl C ls st L
theorem e164_28 (C : pCl) (ls : pLs) (st : List Value) (L : pH) : p_Y 164 C 28 ls st L = o_iadd 29 C (p_Y 164 C) ls st L := hT164 rfl C ls st L
theorem e164_29 (C : pCl) (ls : pLs) (st : List Value) (L : pH) : p_Y 164 C 29 ls st L = o_push (.int (252645135 : Int32)) 32 C (p_Y 164 C) ls st L := hT164 rfl C ls st L
theorem e164_32 (C : pCl) (ls : pLs) (st : List Value) (L : pH) : p_Y 164 C 32 ls st L = o_iand 33 C (p_Y 164 C) ls st L := hT164 rfl C ls st L
theorem e164_33 (C : pCl) (ls : pLs) (st : List Value) (L : pH) : p_Y 164 C 33 ls st L = o_istore 0 34 C (p_Y 164 C) ls st L := hT164 rfl C ls st L
theorem e164_34 (C : pCl) (ls : pLs) (st : List Value) (L : pH) : p_Y 164 C 34 ls st L = o_iload 0 35 C (p_Y 164 C) ls st L := hT164 rfl C ls st L
theorem e164_35 (C : pCl) (ls : pLs) (st : List Value) (L : pH) : p_Y 164 C 35 ls st L = o_iload 0 36 C (p_Y 164 C) ls st L := hT164 rfl C ls st L
theorem e164_36 (C : pCl) (ls : pLs) (st : List Value) (L : pH) : p_Y 164 C 36 ls st L = o_push (.int (nI 8)) 38 C (p_Y 164 C) ls st L := hT164 rfl C ls st L
theorem e164_38 (C : pCl) (ls : pLs) (st : List Value) (L : pH) : p_Y 164 C 38 ls st L = o_iushr 39 C (p_Y 164 C) ls st L := hT164 rfl C ls st L
theorem e164_39 (C : pCl) (ls : pLs) (st : List Value) (L : pH) : p_Y 164 C 39 ls st L = o_iadd 40 C (p_Y 164 C) ls st L := hT164 rfl C ls st L
theorem e164_40 (C : pCl) (ls : pLs) (st : List Value) (L : pH) : p_Y 164 C 40 ls st L = o_istore 0 41 C (p_Y 164 C) ls st L := hT164 rfl C ls st L
theorem e164_41 (C : pCl) (ls : pLs) (st : List Value) (L : pH) : p_Y 164 C 41 ls st L = o_iload 0 42 C (p_Y 164 C) ls st L := hT164 rfl C ls st L
theorem e164_42 (C : pCl) (ls : pLs) (st : List Value) (L : pH) : p_Y 164 C 42 ls st L = o_iload 0 43 C (p_Y 164 C) ls st L := hT164 rfl C ls st L
theorem e164_43 (C : pCl) (ls : pLs) (st : List Value) (L : pH) : p_Y 164 C 43 ls st L = o_push (.int (nI 16)) 45 C (p_Y 164 C) ls st L := hT164 rfl C ls st L
theorem e164_45 (C : pCl) (ls : pLs) (st : List Value) (L : pH) : p_Y 164 C 45 ls st L = o_iushr 46 C (p_Y 164 C) ls st L := hT164 rfl C ls st L
theorem e164_46 (C : pCl) (ls : pLs) (st : List Value) (L : pH) : p_Y 164 C 46 ls st L = o_iadd 47 C (p_Y 164 C) ls st L := hT164 rfl C ls st L
theorem e164_47 (C : pCl) (ls : pLs) (st : List Value) (L : pH) : p_Y 164 C 47 ls st L = o_istore 0 48 C (p_Y 164 C) ls st L := hT164 rfl C ls st L
theorem e164_48 (C : pCl) (ls : pLs) (st : List Value) (L : pH) : p_Y 164 C 48 ls st L = o_iload 0 49 C (p_Y 164 C) ls st L := hT164 rfl C ls st L
theorem e164_49 (C : pCl) (ls : pLs) (st : List Value) (L : pH) : p_Y 164 C 49 ls st L = o_push (.int (nI 63)) 51 C (p_Y 164 C) ls st L := hT164 rfl C ls st L
theorem e164_51 (C : pCl) (ls : pLs) (st : List Value) (L : pH) : p_Y 164 C 51 ls st L = o_iand 52 C (p_Y 164 C) ls st L := hT164 rfl C ls st L
theorem e164_52 (C : pCl) (ls : pLs) (st : List Value) (L : pH) : p_Y 164 C 52 ls st L = o_iret C (p_Y 164 C) ls st L := hT164 rfl C ls st L
theorem S164_0 : ∀ (C : pCl) (ls : pLs) (st : List Value) (L : pH), p_Y 164 C 0 ls st L = o_iload 0 1 C (p_Y 164 C) ls st L ∧ p_Y 164 C 1 ls st L = o_iload 0 2 C (p_Y 164 C) ls st L ∧ p_Y 164 C 2 ls st L = o_push (.int (nI 1)) 3 C (p_Y 164 C) ls st L ∧ p_Y 164 C 3 ls st L = o_iushr 4 C (p_Y 164 C) ls st L ∧ p_Y 164 C 4 ls st L = o_push (.int (1431655765 : Int32)) 7 C (p_Y 164 C) ls st L ∧ p_Y 164 C 7 ls st L = o_iand 8 C (p_Y 164 C) ls st L ∧ p_Y 164 C 8 ls st L = o_isub 9 C (p_Y 164 C) ls st L ∧ p_Y 164 C 9 ls st L = o_istore 0 10 C (p_Y 164 C) ls st L ∧ p_Y 164 C 10 ls st L = o_iload 0 11 C (p_Y 164 C) ls st L ∧ p_Y 164 C 11 ls st L = o_push (.int (858993459 : Int32)) 14 C (p_Y 164 C) ls st L ∧ p_Y 164 C 14 ls st L = o_iand 15 C (p_Y 164 C) ls st L ∧ p_Y 164 C 15 ls st L = o_iload 0 16 C (p_Y 164 C) ls st L ∧ p_Y 164 C 16 ls st L = o_push (.int (nI 2)) 17 C (p_Y 164 C) ls st L ∧ p_Y 164 C 17 ls st L = o_iushr 18 C (p_Y 164 C) ls st L ∧ p_Y 164 C 18 ls st L = o_push (.int (858993459 : Int32)) 21 C (p_Y 164 C) ls st L ∧ p_Y 164 C 21 ls st L = o_iand 22 C (p_Y 164 C) ls st L ∧ p_Y 164 C 22 ls st L = o_iadd 23 C (p_Y 164 C) ls st L ∧ p_Y 164 C 23 ls st L = o_istore 0 24 C (p_Y 164 C) ls st L ∧ p_Y 164 C 24 ls st L = o_iload 0 25 C (p_Y 164 C) ls st L ∧ p_Y 164 C 25 ls st L = o_iload 0 26 C (p_Y 164 C) ls st L ∧ p_Y 164 C 26 ls st L = o_push (.int (nI 4)) 27 C (p_Y 164 C) ls st L ∧ p_Y 164 C 27 ls st L = o_iushr 28 C (p_Y 164 C) ls st L ∧ p_Y 164 C 28 ls st L = o_iadd 29 C (p_Y 164 C) ls st L ∧ p_Y 164 C 29 ls st L = o_push (.int (252645135 : Int32)) 32 C (p_Y 164 C) ls st L ∧ p_Y 164 C 32 ls st L = o_iand 33 C (p_Y 164 C) ls st L ∧ p_Y 164 C 33 ls st L = o_istore 0 34 C (p_Y 164 C) ls st L ∧ p_Y 164 C 34 ls st L = o_iload 0 35 C (p_Y 164 C) ls st L ∧ p_Y 164 C 35 ls st L = o_iload 0 36 C (p_Y 164 C) ls st L ∧ p_Y 164 C 36 ls st L = o_push (.int (nI 8)) 38 C (p_Y 164 C) ls st L ∧ p_Y 164 C 38 ls st L = o_iushr 39 C (p_Y 164 C) ls st L ∧ p_Y 164 C 39 ls st L = o_iadd 40 C (p_Y 164 C) ls st L ∧ p_Y 164 C 40 ls st L = o_istore 0 41 C (p_Y 164 C) ls st L ∧ p_Y 164 C 41 ls st L = o_iload 0 42 C (p_Y 164 C) ls st L ∧ p_Y 164 C 42 ls st L = o_iload 0 43 C (p_Y 164 C) ls st L ∧ p_Y 164 C 43 ls st L = o_push (.int (nI 16)) 45 C (p_Y 164 C) ls st L ∧ p_Y 164 C 45 ls st L = o_iushr 46 C (p_Y 164 C) ls st L ∧ p_Y 164 C 46 ls st L = o_iadd 47 C (p_Y 164 C) ls st L ∧ p_Y 164 C 47 ls st L = o_istore 0 48 C (p_Y 164 C) ls st L ∧ p_Y 164 C 48 ls st L = o_iload 0 49 C (p_Y 164 C) ls st L ∧ p_Y 164 C 49 ls st L = o_push (.int (nI 63)) 51 C (p_Y 164 C) ls st L ∧ p_Y 164 C 51 ls st L = o_iand 52 C (p_Y 164 C) ls st L ∧ p_Y 164 C 52 ls st L = o_iret C (p_Y 164 C) ls st L := fun C ls st L => ⟨e164_0 C ls st L, e164_1 C ls st L, e164_2 C ls st L, e164_3 C ls st L, e164_4 C ls st L, e164_7 C ls st L, e164_8 C ls st L, e164_9 C ls st L, e164_10 C ls st L, e164_11 C ls st L, e164_14 C ls st L, e164_15 C ls st L, e164_16 C ls st L, e164_17 C ls st L, e164_18 C ls st L, e164_21 C ls st L, e164_22 C ls st L, e164_23 C ls st L, e164_24 C ls st L, e164_25 C ls st L, e164_26 C ls st L, e164_27 C ls st L, e164_28 C ls st L, e164_29 C ls st L, e164_32 C ls st L, e164_33 C ls st L, e164_34 C ls st L, e164_35 C ls st L, e164_36 C ls st L, e164_38 C ls st L, e164_39 C ls st L, e164_40 C ls st L, e164_41 C ls st L, e164_42 C ls st L, e164_43 C ls st L, e164_45 C ls st L, e164_46 C ls st L, e164_47 C ls st L, e164_48 C ls st L, e164_49 C ls st L, e164_51 C ls st L, e164_52 C ls st L⟩
theorem R164_0 : ∀ (C : pCl) (ls : pLs) (st : List Value) (L : pH), p_Y 164 C 1 ls st L = o_iload 0 2 C (p_Y 164 C) ls st L ∧ p_Y 164 C 2 ls st L = o_push (.int (nI 1)) 3 C (p_Y 164 C) ls st L ∧ p_Y 164 C 3 ls st L = o_iushr 4 C (p_Y 164 C) ls st L ∧ p_Y 164 C 4 ls st L = o_push (.int (1431655765 : Int32)) 7 C (p_Y 164 C) ls st L ∧ p_Y 164 C 7 ls st L = o_iand 8 C (p_Y 164 C) ls st L ∧ p_Y 164 C 8 ls st L = o_isub 9 C (p_Y 164 C) ls st L ∧ p_Y 164 C 9 ls st L = o_istore 0 10 C (p_Y 164 C) ls st L ∧ p_Y 164 C 10 ls st L = o_iload 0 11 C (p_Y 164 C) ls st L ∧ p_Y 164 C 11 ls st L = o_push (.int (858993459 : Int32)) 14 C (p_Y 164 C) ls st L ∧ p_Y 164 C 14 ls st L = o_iand 15 C (p_Y 164 C) ls st L ∧ p_Y 164 C 15 ls st L = o_iload 0 16 C (p_Y 164 C) ls st L ∧ p_Y 164 C 16 ls st L = o_push (.int (nI 2)) 17 C (p_Y 164 C) ls st L ∧ p_Y 164 C 17 ls st L = o_iushr 18 C (p_Y 164 C) ls st L ∧ p_Y 164 C 18 ls st L = o_push (.int (858993459 : Int32)) 21 C (p_Y 164 C) ls st L ∧ p_Y 164 C 21 ls st L = o_iand 22 C (p_Y 164 C) ls st L ∧ p_Y 164 C 22 ls st L = o_iadd 23 C (p_Y 164 C) ls st L ∧ p_Y 164 C 23 ls st L = o_istore 0 24 C (p_Y 164 C) ls st L ∧ p_Y 164 C 24 ls st L = o_iload 0 25 C (p_Y 164 C) ls st L ∧ p_Y 164 C 25 ls st L = o_iload 0 26 C (p_Y 164 C) ls st L ∧ p_Y 164 C 26 ls st L = o_push (.int (nI 4)) 27 C (p_Y 164 C) ls st L ∧ p_Y 164 C 27 ls st L = o_iushr 28 C (p_Y 164 C) ls st L ∧ p_Y 164 C 28 ls st L = o_iadd 29 C (p_Y 164 C) ls st L ∧ p_Y 164 C 29 ls st L = o_push (.int (252645135 : Int32)) 32 C (p_Y 164 C) ls st L ∧ p_Y 164 C 32 ls st L = o_iand 33 C (p_Y 164 C) ls st L ∧ p_Y 164 C 33 ls st L = o_istore 0 34 C (p_Y 164 C) ls st L ∧ p_Y 164 C 34 ls st L = o_iload 0 35 C (p_Y 164 C) ls st L ∧ p_Y 164 C 35 ls st L = o_iload 0 36 C (p_Y 164 C) ls st L ∧ p_Y 164 C 36 ls st L = o_push (.int (nI 8)) 38 C (p_Y 164 C) ls st L ∧ p_Y 164 C 38 ls st L = o_iushr 39 C (p_Y 164 C) ls st L ∧ p_Y 164 C 39 ls st L = o_iadd 40 C (p_Y 164 C) ls st L ∧ p_Y 164 C 40 ls st L = o_istore 0 41 C (p_Y 164 C) ls st L ∧ p_Y 164 C 41 ls st L = o_iload 0 42 C (p_Y 164 C) ls st L ∧ p_Y 164 C 42 ls st L = o_iload 0 43 C (p_Y 164 C) ls st L ∧ p_Y 164 C 43 ls st L = o_push (.int (nI 16)) 45 C (p_Y 164 C) ls st L ∧ p_Y 164 C 45 ls st L = o_iushr 46 C (p_Y 164 C) ls st L ∧ p_Y 164 C 46 ls st L = o_iadd 47 C (p_Y 164 C) ls st L ∧ p_Y 164 C 47 ls st L = o_istore 0 48 C (p_Y 164 C) ls st L ∧ p_Y 164 C 48 ls st L = o_iload 0 49 C (p_Y 164 C) ls st L ∧ p_Y 164 C 49 ls st L = o_push (.int (nI 63)) 51 C (p_Y 164 C) ls st L ∧ p_Y 164 C 51 ls st L = o_iand 52 C (p_Y 164 C) ls st L ∧ p_Y 164 C 52 ls st L = o_iret C (p_Y 164 C) ls st L := fun C ls st L => ⟨e164_1 C ls st L, e164_2 C ls st L, e164_3 C ls st L, e164_4 C ls st L, e164_7 C ls st L, e164_8 C ls st L, e164_9 C ls st L, e164_10 C ls st L, e164_11 C ls st L, e164_14 C ls st L, e164_15 C ls st L, e164_16 C ls st L, e164_17 C ls st L, e164_18 C ls st L, e164_21 C ls st L, e164_22 C ls st L, e164_23 C ls st L, e164_24 C ls st L, e164_25 C ls st L, e164_26 C ls st L, e164_27 C ls st L, e164_28 C ls st L, e164_29 C ls st L, e164_32 C ls st L, e164_33 C ls st L, e164_34 C ls st L, e164_35 C ls st L, e164_36 C ls st L, e164_38 C ls st L, e164_39 C ls st L, e164_40 C ls st L, e164_41 C ls st L, e164_42 C ls st L, e164_43 C ls st L, e164_45 C ls st L, e164_46 C ls st L, e164_47 C ls st L, e164_48 C ls st L, e164_49 C ls st L, e164_51 C ls st L, e164_52 C ls st L⟩
theorem k164 (d : Nat) (x1 : Int32) (L : pH) : p_K (d + 1) 164 [.int x1] L = p_Y 164 (p_K d) 0 [some (.int x1)] [] L := p_K_s d 164 _ L rfl
theorem tb165 (pc : Nat) : pT 165 pc = t165.lookup pc := rfl
theorem hT165 {pc : Nat} {op : pO} (h : t165.lookup pc = some op) (C : pCl) (ls : pLs) (st : List Value) (L : pH) : p_Y 165 C pc ls st L = op C (p_Y 165 C) ls st L := p_Y_eq ((tb165 pc).trans h) C ls st L
theorem e165_0 (C : pCl) (ls : pLs) (st : List Value) (L : pH) : p_Y 165 C 0 ls st L = o_new 4 [.null, .null, .int 0, .null, .null, .null, .null, .null] 3 C (p_Y 165 C) ls st L := hT165 rfl C ls st L
theorem e165_3 (C : pCl) (ls : pLs) (st : List Value) (L : pH) : p_Y 165 C 3 ls st L = o_dupr 4 C (p_Y 165 C) ls st L := hT165 rfl C ls st L
theorem e165_4 (C : pCl) (ls : pLs) (st : List Value) (L : pH) : p_Y 165 C 4 ls st L = o_invI 47 0 7 C (p_Y 165 C) ls st L := hT165 rfl C ls st L
theorem e165_7 (C : pCl) (ls : pLs) (st : List Value) (L : pH) : p_Y 165 C 7 ls st L = o_astore 1 8 C (p_Y 165 C) ls st L := hT165 rfl C ls st L
theorem e165_8 (C : pCl) (ls : pLs) (st : List Value) (L : pH) : p_Y 165 C 8 ls st L = o_new 5 [.int 0, .null, .null, .int 0, .null, .null, .null, .int 0, .int 0, .int 0, .null, .int 0, .null, .null, .int 0, .null, .null, .null] 11 C (p_Y 165 C) ls st L := hT165 rfl C ls st L
theorem e165_11 (C : pCl) (ls : pLs) (st : List Value) (L : pH) : p_Y 165 C 11 ls st L = o_dupr 12 C (p_Y 165 C) ls st L := hT165 rfl C ls st L
theorem e165_12 (C : pCl) (ls : pLs) (st : List Value) (L : pH) : p_Y 165 C 12 ls st L = o_invI 95 0 15 C (p_Y 165 C) ls st L := hT165 rfl C ls st L
theorem e165_15 (C : pCl) (ls : pLs) (st : List Value) (L : pH) : p_Y 165 C 15 ls st L = o_astore 2 16 C (p_Y 165 C) ls st L := hT165 rfl C ls st L
theorem e165_16 (C : pCl) (ls : pLs) (st : List Value) (L : pH) : p_Y 165 C 16 ls st L = o_push (.int (nI 0)) 17 C (p_Y 165 C) ls st L := hT165 rfl C ls st L
theorem e165_17 (C : pCl) (ls : pLs) (st : List Value) (L : pH) : p_Y 165 C 17 ls st L = o_istore 3 18 C (p_Y 165 C) ls st L := hT165 rfl C ls st L
theorem e165_18 (C : pCl) (ls : pLs) (st : List Value) (L : pH) : p_Y 165 C 18 ls st L = o_iload 3 19 C (p_Y 165 C) ls st L := hT165 rfl C ls st L
theorem e165_19 (C : pCl) (ls : pLs) (st : List Value) (L : pH) : p_Y 165 C 19 ls st L = o_aload 0 20 C (p_Y 165 C) ls st L := hT165 rfl C ls st L
theorem e165_20 (C : pCl) (ls : pLs) (st : List Value) (L : pH) : p_Y 165 C 20 ls st L = o_alen 21 C (p_Y 165 C) ls st L := hT165 rfl C ls st L
theorem e165_21 (C : pCl) (ls : pLs) (st : List Value) (L : pH) : p_Y 165 C 21 ls st L = o_push (.int (nI 4)) 22 C (p_Y 165 C) ls st L := hT165 rfl C ls st L
theorem e165_22 (C : pCl) (ls : pLs) (st : List Value) (L : pH) : p_Y 165 C 22 ls st L = o_isub 23 C (p_Y 165 C) ls st L := hT165 rfl C ls st L
theorem e165_23 (C : pCl) (ls : pLs) (st : List Value) (L : pH) : p_Y 165 C 23 ls st L = o_icgt 786 26 C (p_Y 165 C) ls st L := hT165 rfl C ls st L
theorem e165_26 (C : pCl) (ls : pLs) (st : List Value) (L : pH) : p_Y 165 C 26 ls st L = o_aload 0 27 C (p_Y 165 C) ls st L := hT165 rfl C ls st L
theorem e165_27 (C : pCl) (ls : pLs) (st : List Value) (L : pH) : p_Y 165 C 27 ls st L = o_iload 3 28 C (p_Y 165 C) ls st L := hT165 rfl C ls st L
theorem e165_28 (C : pCl) (ls : pLs) (st : List Value) (L : pH) : p_Y 165 C 28 ls st L = o_iald 29 C (p_Y 165 C) ls st L := hT165 rfl C ls st L
theorem e165_29 (C : pCl) (ls : pLs) (st : List Value) (L : pH) : p_Y 165 C 29 ls st L = o_push (.int (nI 31)) 31 C (p_Y 165 C) ls st L := hT165 rfl C ls st L
theorem e165_31 (C : pCl) (ls : pLs) (st : List Value) (L : pH) : p_Y 165 C 31 ls st L = o_iand 32 C (p_Y 165 C) ls st L := hT165 rfl C ls st L
theorem e165_32 (C : pCl) (ls : pLs) (st : List Value) (L : pH) : p_Y 165 C 32 ls st L = o_switch [((nI 0), 152), ((nI 1), 185), ((nI 2), 198), ((nI 3), 231), ((nI 4), 254), ((nI 5), 287), ((nI 6), 330), ((nI 7), 353), ((nI 8), 376), ((nI 9), 389), ((nI 10), 402), ((nI 11), 435), ((nI 12), 468), ((nI 13), 501), ((nI 14), 524), ((nI 15), 547), ((nI 16), 580), ((nI 17), 593), ((nI 18), 616), ((nI 19), 629), ((nI 20), 682), ((nI 21), 695), ((nI 22), 708), ((nI 23), 721), ((nI 24), 734), ((nI 25), 757)] 780 C (p_Y 165 C) ls st L := hT165 rfl C ls st L
theorem e165_152 (C : pCl) (ls : pLs) (st : List Value) (L : pH) : p_Y 165 C 152 ls st L = o_aload 1 153 C (p_Y 165 C) ls st L := hT165 rfl C ls st L
theorem e165_153 (C : pCl) (ls : pLs) (st : List Value) (L : pH) : p_Y 165 C 153 ls st L = o_aload 0 154 C (p_Y 165 C) ls st L := hT165 rfl C ls st L
theorem e165_154 (C : pCl) (ls : pLs) (st : List Value) (L : pH) : p_Y 165 C 154 ls st L = o_iload 3 155 C (p_Y 165 C) ls st L := hT165 rfl C ls st L
theorem e165_155 (C : pCl) (ls : pLs) (st : List Value) (L : pH) : p_Y 165 C 155 ls st L = o_push (.int (nI 1)) 156 C (p_Y 165 C) ls st L := hT165 rfl C ls st L
theorem e165_156 (C : pCl) (ls : pLs) (st : List Value) (L : pH) : p_Y 165 C 156 ls st L = o_iadd 157 C (p_Y 165 C) ls st L := hT165 rfl C ls st L
theorem e165_157 (C : pCl) (ls : pLs) (st : List Value) (L : pH) : p_Y 165 C 157 ls st L = o_iald 158 C (p_Y 165 C) ls st L := hT165 rfl C ls st L
theorem e165_158 (C : pCl) (ls : pLs) (st : List Value) (L : pH) : p_Y 165 C 158 ls st L = o_aload 0 159 C (p_Y 165 C) ls st L := hT165 rfl C ls st L
theorem e165_159 (C : pCl) (ls : pLs) (st : List Value) (L : pH) : p_Y 165 C 159 ls st L = o_iload 3 160 C (p_Y 165 C) ls st L := hT165 rfl C ls st L
theorem e165_160 (C : pCl) (ls : pLs) (st : List Value) (L : pH) : p_Y 165 C 160 ls st L = o_push (.int (nI 2)) 161 C (p_Y 165 C) ls st L := hT165 rfl C ls st L
theorem e165_161 (C : pCl) (ls : pLs) (st : List Value) (L : pH) : p_Y 165 C 161 ls st L = o_iadd 162 C (p_Y 165 C) ls st L := hT165 rfl C ls st L
theorem e165_162 (C : pCl) (ls : pLs) (st : List Value) (L : pH) : p_Y 165 C 162 ls st L = o_iald 163 C (p_Y 165 C) ls st L := hT165 rfl C ls st L
theorem e165_163 (C : pCl) (ls : pLs) (st : List Value) (L : pH) : p_Y 165 C 163 ls st L = o_invV 4 48 2 166 C (p_Y 165 C) ls st L := hT165 rfl C ls st L
theorem e165_166 (C : pCl) (ls : pLs) (st : List Value) (L : pH) : p_Y 165 C 166 ls st L = o_aload 2 167 C (p_Y 165 C) ls st L := hT165 rfl C ls st L
theorem e165_167 (C : pCl) (ls : pLs) (st : List Value) (L : pH) : p_Y 165 C 167 ls st L = o_aload 0 168 C (p_Y 165 C) ls st L := hT165 rfl C ls st L
theorem e165_168 (C : pCl) (ls : pLs) (st : List Value) (L : pH) : p_Y 165 C 168 ls st L = o_iload 3 169 C (p_Y 165 C) ls st L := hT165 rfl C ls st L
theorem e165_169 (C : pCl) (ls : pLs) (st : List Value) (L : pH) : p_Y 165 C 169 ls st L = o_push (.int (nI 1)) 170 C (p_Y 165 C) ls st L := hT165 rfl C ls st L
theorem e165_170 (C : pCl) (ls : pLs) (st : List Value) (L : pH) : p_Y 165 C 170 ls st L = o_iadd 171 C (p_Y 165 C) ls st L := hT165 rfl C ls st L
theorem e165_171 (C : pCl) (ls : pLs) (st : List Value) (L : pH) : p_Y 165 C 171 ls st L = o_iald 172 C (p_Y 165 C) ls st L := hT165 rfl C ls st L
theorem e165_172 (C : pCl) (ls : pLs) (st : List Value) (L : pH) : p_Y 165 C 172 ls st L = o_aload 0 173 C (p_Y 165 C) ls st L := hT165 rfl C ls st L
theorem e165_173 (C : pCl) (ls : pLs) (st : List Value) (L : pH) : p_Y 165 C 173 ls st L = o_iload 3 174 C (p_Y 165 C) ls st L := hT165 rfl C ls st L
theorem e165_174 (C : pCl) (ls : pLs) (st : List Value) (L : pH) : p_Y 165 C 174 ls st L = o_push (.int (nI 2)) 175 C (p_Y 165 C) ls st L := hT165 rfl C ls st L
theorem e165_175 (C : pCl) (ls : pLs) (st : List Value) (L : pH) : p_Y 165 C 175 ls st L = o_iadd 176 C (p_Y 165 C) ls st L := hT165 rfl C ls st L
theorem e165_176 (C : pCl) (ls : pLs) (st : List Value) (L : pH) : p_Y 165 C 176 ls st L = o_iald 177 C (p_Y 165 C) ls st L := hT165 rfl C ls st L
theorem e165_177 (C : pCl) (ls : pLs) (st : List Value) (L : pH) : p_Y 165 C 177 ls st L = o_invV 5 114 2 180 C (p_Y 165 C) ls st L := hT165 rfl C ls st L
theorem e165_180 (C : pCl) (ls : pLs) (st : List Value) (L : pH) : p_Y 165 C 180 ls st L = o_iceq 780 183 C (p_Y 165 C) ls st L := hT165 rfl C ls st L
theorem e165_183 (C : pCl) (ls : pLs) (st : List Value) (L : pH) : p_Y 165 C 183 ls st L = o_push (.int (nI 0)) 184 C (p_Y 165 C) ls st L := hT165 rfl C ls st L
theorem e165_184 (C : pCl) (ls : pLs) (st : List Value) (L : pH) : p_Y 165 C 184 ls st L = o_zret C (p_Y 165 C) ls st L := hT165 rfl C ls st L
theorem e165_185 (C : pCl) (ls : pLs) (st : List Value) (L : pH) : p_Y 165 C 185 ls st L = o_aload 1 186 C (p_Y 165 C) ls st L := hT165 rfl C ls st L
theorem e165_186 (C : pCl) (ls : pLs) (st : List Value) (L : pH) : p_Y 165 C 186 ls st L = o_invV 4 49 0 189 C (p_Y 165 C) ls st L := hT165 rfl C ls st L
theorem e165_189 (C : pCl) (ls : pLs) (st : List Value) (L : pH) : p_Y 165 C 189 ls st L = o_aload 2 190 C (p_Y 165 C) ls st L := hT165 rfl C ls st L
theorem e165_190 (C : pCl) (ls : pLs) (st : List Value) (L : pH) : p_Y 165 C 190 ls st L = o_invV 5 116 0 193 C (p_Y 165 C) ls st L := hT165 rfl C ls st L
theorem e165_193 (C : pCl) (ls : pLs) (st : List Value) (L : pH) : p_Y 165 C 193 ls st L = o_iceq 780 196 C (p_Y 165 C) ls st L := hT165 rfl C ls st L
theorem e165_196 (C : pCl) (ls : pLs) (st : List Value) (L : pH) : p_Y 165 C 196 ls st L = o_push (.int (nI 0)) 197 C (p_Y 165 C) ls st L := hT165 rfl C ls st L
theorem e165_197 (C : pCl) (ls : pLs) (st : List Value) (L : pH) : p_Y 165 C 197 ls st L = o_zret C (p_Y 165 C) ls st L := hT165 rfl C ls st L
theorem e165_198 (C : pCl) (ls : pLs) (st : List Value) (L : pH) : p_Y 165 C 198 ls st L = o_aload 1 199 C (p_Y 165 C) ls st L := hT165 rfl C ls st L
theorem e165_199 (C : pCl) (ls : pLs) (st : List Value) (L : pH) : p_Y 165 C 199 ls st L = o_aload 0 200 C (p_Y 165 C) ls st L := hT165 rfl C ls st L
theorem e165_200 (C : pCl) (ls : pLs) (st : List Value) (L : pH) : p_Y 165 C 200 ls st L = o_iload 3 201 C (p_Y 165 C) ls st L := hT165 rfl C ls st L
theorem e165_201 (C : pCl) (ls : pLs) (st : List Value) (L : pH) : p_Y 165 C 201 ls st L = o_push (.int (nI 1)) 202 C (p_Y 165 C) ls st L := hT165 rfl C ls st L
theorem e165_202 (C : pCl) (ls : pLs) (st : List Value) (L : pH) : p_Y 165 C 202 ls st L = o_iadd 203 C (p_Y 165 C) ls st L := hT165 rfl C ls st L
theorem e165_203 (C : pCl) (ls : pLs) (st : List Value) (L : pH) : p_Y 165 C 203 ls st L = o_iald 204 C (p_Y 165 C) ls st L := hT165 rfl C ls st L
theorem e165_204 (C : pCl) (ls : pLs) (st : List Value) (L : pH) : p_Y 165 C 204 ls st L = o_aload 0 205 C (p_Y 165 C) ls st L := hT165 rfl C ls st L
theorem e165_205 (C : pCl) (ls : pLs) (st : List Value) (L : pH) : p_Y 165 C 205 ls st L = o_iload 3 206 C (p_Y 165 C) ls st L := hT165 rfl C ls st L
theorem e165_206 (C : pCl) (ls : pLs) (st : List Value) (L : pH) : p_Y 165 C 206 ls st L = o_push (.int (nI 2)) 207 C (p_Y 165 C) ls st L := hT165 rfl C ls st L
theorem e165_207 (C : pCl) (ls : pLs) (st : List Value) (L : pH) : p_Y 165 C 207 ls st L = o_iadd 208 C (p_Y 165 C) ls st L := hT165 rfl C ls st L
theorem e165_208 (C : pCl) (ls : pLs) (st : List Value) (L : pH) : p_Y 165 C 208 ls st L = o_iald 209 C (p_Y 165 C) ls st L := hT165 rfl C ls st L
theorem e165_209 (C : pCl) (ls : pLs) (st : List Value) (L : pH) : p_Y 165 C 209 ls st L = o_invV 4 50 2 212 C (p_Y 165 C) ls st L := hT165 rfl C ls st L
theorem e165_212 (C : pCl) (ls : pLs) (st : List Value) (L : pH) : p_Y 165 C 212 ls st L = o_aload 2 213 C (p_Y 165 C) ls st L := hT165 rfl C ls st L
theorem e165_213 (C : pCl) (ls : pLs) (st : List Value) (L : pH) : p_Y 165 C 213 ls st L = o_aload 0 214 C (p_Y 165 C) ls st L := hT165 rfl C ls st L
theorem e165_214 (C : pCl) (ls : pLs) (st : List Value) (L : pH) : p_Y 165 C 214 ls st L = o_iload 3 215 C (p_Y 165 C) ls st L := hT165 rfl C ls st L
theorem e165_215 (C : pCl) (ls : pLs) (st : List Value) (L : pH) : p_Y 165 C 215 ls st L = o_push (.int (nI 1)) 216 C (p_Y 165 C) ls st L := hT165 rfl C ls st L
theorem e165_216 (C : pCl) (ls : pLs) (st : List Value) (L : pH) : p_Y 165 C 216 ls st L = o_iadd 217 C (p_Y 165 C) ls st L := hT165 rfl C ls st L
theorem e165_217 (C : pCl) (ls : pLs) (st : List Value) (L : pH) : p_Y 165 C 217 ls st L = o_iald 218 C (p_Y 165 C) ls st L := hT165 rfl C ls st L
theorem e165_218 (C : pCl) (ls : pLs) (st : List Value) (L : pH) : p_Y 165 C 218 ls st L = o_aload 0 219 C (p_Y 165 C) ls st L := hT165 rfl C ls st L
theorem e165_219 (C : pCl) (ls : pLs) (st : List Value) (L : pH) : p_Y 165 C 219 ls st L = o_iload 3 220 C (p_Y 165 C) ls st L := hT165 rfl C ls st L
theorem e165_220 (C : pCl) (ls : pLs) (st : List Value) (L : pH) : p_Y 165 C 220 ls st L = o_push (.int (nI 2)) 221 C (p_Y 165 C) ls st L := hT165 rfl C ls st L
theorem e165_221 (C : pCl) (ls : pLs) (st : List Value) (L : pH) : p_Y 165 C 221 ls st L = o_iadd 222 C (p_Y 165 C) ls st L := hT165 rfl C ls st L
theorem e165_222 (C : pCl) (ls : pLs) (st : List Value) (L : pH) : p_Y 165 C 222 ls st L = o_iald 223 C (p_Y 165 C) ls st L := hT165 rfl C ls st L
theorem e165_223 (C : pCl) (ls : pLs) (st : List Value) (L : pH) : p_Y 165 C 223 ls st L = o_invV 5 118 2 226 C (p_Y 165 C) ls st L := hT165 rfl C ls st L
theorem e165_226 (C : pCl) (ls : pLs) (st : List Value) (L : pH) : p_Y 165 C 226 ls st L = o_iceq 780 229 C (p_Y 165 C) ls st L := hT165 rfl C ls st L
theorem e165_229 (C : pCl) (ls : pLs) (st : List Value) (L : pH) : p_Y 165 C 229 ls st L = o_push (.int (nI 0)) 230 C (p_Y 165 C) ls st L := hT165 rfl C ls st L
theorem e165_230 (C : pCl) (ls : pLs) (st : List Value) (L : pH) : p_Y 165 C 230 ls st L = o_zret C (p_Y 165 C) ls st L := hT165 rfl C ls st L
theorem e165_231 (C : pCl) (ls : pLs) (st : List Value) (L : pH) : p_Y 165 C 231 ls st L = o_aload 1 232 C (p_Y 165 C) ls st L := hT165 rfl C ls st L
theorem e165_232 (C : pCl) (ls : pLs) (st : List Value) (L : pH) : p_Y 165 C 232 ls st L = o_aload 0 233 C (p_Y 165 C) ls st L := hT165 rfl C ls st L
theorem e165_233 (C : pCl) (ls : pLs) (st : List Value) (L : pH) : p_Y 165 C 233 ls st L = o_iload 3 234 C (p_Y 165 C) ls st L := hT165 rfl C ls st L
theorem e165_234 (C : pCl) (ls : pLs) (st : List Value) (L : pH) : p_Y 165 C 234 ls st L = o_push (.int (nI 1)) 235 C (p_Y 165 C) ls st L := hT165 rfl C ls st L
theorem e165_235 (C : pCl) (ls : pLs) (st : List Value) (L : pH) : p_Y 165 C 235 ls st L = o_iadd 236 C (p_Y 165 C) ls st L := hT165 rfl C ls st L
theorem e165_236 (C : pCl) (ls : pLs) (st : List Value) (L : pH) : p_Y 165 C 236 ls st L = o_iald 237 C (p_Y 165 C) ls st L := hT165 rfl C ls st L
theorem e165_237 (C : pCl) (ls : pLs) (st : List Value) (L : pH) : p_Y 165 C 237 ls st L = o_invV 4 51 1 240 C (p_Y 165 C) ls st L := hT165 rfl C ls st L
theorem e165_240 (C : pCl) (ls : pLs) (st : List Value) (L : pH) : p_Y 165 C 240 ls st L = o_aload 2 241 C (p_Y 165 C) ls st L := hT165 rfl C ls st L
theorem e165_241 (C : pCl) (ls : pLs) (st : List Value) (L : pH) : p_Y 165 C 241 ls st L = o_aload 0 242 C (p_Y 165 C) ls st L := hT165 rfl C ls st L
theorem e165_242 (C : pCl) (ls : pLs) (st : List Value) (L : pH) : p_Y 165 C 242 ls st L = o_iload 3 243 C (p_Y 165 C) ls st L := hT165 rfl C ls st L
theorem e165_243 (C : pCl) (ls : pLs) (st : List Value) (L : pH) : p_Y 165 C 243 ls st L = o_push (.int (nI 1)) 244 C (p_Y 165 C) ls st L := hT165 rfl C ls st L
theorem e165_244 (C : pCl) (ls : pLs) (st : List Value) (L : pH) : p_Y 165 C 244 ls st L = o_iadd 245 C (p_Y 165 C) ls st L := hT165 rfl C ls st L
theorem e165_245 (C : pCl) (ls : pLs) (st : List Value) (L : pH) : p_Y 165 C 245 ls st L = o_iald 246 C (p_Y 165 C) ls st L := hT165 rfl C ls st L
theorem e165_246 (C : pCl) (ls : pLs) (st : List Value) (L : pH) : p_Y 165 C 246 ls st L = o_invV 5 120 1 249 C (p_Y 165 C) ls st L := hT165 rfl C ls st L
theorem e165_249 (C : pCl) (ls : pLs) (st : List Value) (L : pH) : p_Y 165 C 249 ls st L = o_iceq 780 252 C (p_Y 165 C) ls st L := hT165 rfl C ls st L
theorem e165_252 (C : pCl) (ls : pLs) (st : List Value) (L : pH) : p_Y 165 C 252 ls st L = o_push (.int (nI 0)) 253 C (p_Y 165 C) ls st L := hT165 rfl C ls st L
theorem e165_253 (C : pCl) (ls : pLs) (st : List Value) (L : pH) : p_Y 165 C 253 ls st L = o_zret C (p_Y 165 C) ls st L := hT165 rfl C ls st L
theorem e165_254 (C : pCl) (ls : pLs) (st : List Value) (L : pH) : p_Y 165 C 254 ls st L = o_aload 1 255 C (p_Y 165 C) ls st L := hT165 rfl C ls st L
theorem e165_255 (C : pCl) (ls : pLs) (st : List Value) (L : pH) : p_Y 165 C 255 ls st L = o_aload 0 256 C (p_Y 165 C) ls st L := hT165 rfl C ls st L
theorem e165_256 (C : pCl) (ls : pLs) (st : List Value) (L : pH) : p_Y 165 C 256 ls st L = o_iload 3 257 C (p_Y 165 C) ls st L := hT165 rfl C ls st L
theorem e165_257 (C : pCl) (ls : pLs) (st : List Value) (L : pH) : p_Y 165 C 257 ls st L = o_push (.int (nI 1)) 258 C (p_Y 165 C) ls st L := hT165 rfl C ls st L
theorem e165_258 (C : pCl) (ls : pLs) (st : List Value) (L : pH) : p_Y 165 C 258 ls st L = o_iadd 259 C (p_Y 165 C) ls st L := hT165 rfl C ls st L
theorem e165_259 (C : pCl) (ls : pLs) (st : List Value) (L : pH) : p_Y 165 C 259 ls st L = o_iald 260 C (p_Y 165 C) ls st L := hT165 rfl C ls st L
theorem e165_260 (C : pCl) (ls : pLs) (st : List Value) (L : pH) : p_Y 165 C 260 ls st L = o_aload 0 261 C (p_Y 165 C) ls st L := hT165 rfl C ls st L
theorem e165_261 (C : pCl) (ls : pLs) (st : List Value) (L : pH) : p_Y 165 C 261 ls st L = o_iload 3 262 C (p_Y 165 C) ls st L := hT165 rfl C ls st L
theorem e165_262 (C : pCl) (ls : pLs) (st : List Value) (L : pH) : p_Y 165 C 262 ls st L = o_push (.int (nI 2)) 263 C (p_Y 165 C) ls st L := hT165 rfl C ls st L
theorem e165_263 (C : pCl) (ls : pLs) (st : List Value) (L : pH) : p_Y 165 C 263 ls st L = o_iadd 264 C (p_Y 165 C) ls st L := hT165 rfl C ls st L
theorem e165_264 (C : pCl) (ls : pLs) (st : List Value) (L : pH) : p_Y 165 C 264 ls st L = o_iald 265 C (p_Y 165 C) ls st L := hT165 rfl C ls st L
theorem e165_265 (C : pCl) (ls : pLs) (st : List Value) (L : pH) : p_Y 165 C 265 ls st L = o_invV 4 52 2 268 C (p_Y 165 C) ls st L := hT165 rfl C ls st L
theorem e165_268 (C : pCl) (ls : pLs) (st : List Value) (L : pH) : p_Y 165 C 268 ls st L = o_aload 2 269 C (p_Y 165 C) ls st L := hT165 rfl C ls st L
theorem e165_269 (C : pCl) (ls : pLs) (st : List Value) (L : pH) : p_Y 165 C 269 ls st L = o_aload 0 270 C (p_Y 165 C) ls st L := hT165 rfl C ls st L
theorem e165_270 (C : pCl) (ls : pLs) (st : List Value) (L : pH) : p_Y 165 C 270 ls st L = o_iload 3 271 C (p_Y 165 C) ls st L := hT165 rfl C ls st L
theorem e165_271 (C : pCl) (ls : pLs) (st : List Value) (L : pH) : p_Y 165 C 271 ls st L = o_push (.int (nI 1)) 272 C (p_Y 165 C) ls st L := hT165 rfl C ls st L
theorem e165_272 (C : pCl) (ls : pLs) (st : List Value) (L : pH) : p_Y 165 C 272 ls st L = o_iadd 273 C (p_Y 165 C) ls st L := hT165 rfl C ls st L
theorem e165_273 (C : pCl) (ls : pLs) (st : List Value) (L : pH) : p_Y 165 C 273 ls st L = o_iald 274 C (p_Y 165 C) ls st L := hT165 rfl C ls st L
theorem e165_274 (C : pCl) (ls : pLs) (st : List Value) (L : pH) : p_Y 165 C 274 ls st L = o_aload 0 275 C (p_Y 165 C) ls st L := hT165 rfl C ls st L
theorem e165_275 (C : pCl) (ls : pLs) (st : List Value) (L : pH) : p_Y 165 C 275 ls st L = o_iload 3 276 C (p_Y 165 C) ls st L := hT165 rfl C ls st L
theorem e165_276 (C : pCl) (ls : pLs) (st : List Value) (L : pH) : p_Y 165 C 276 ls st L = o_push (.int (nI 2)) 277 C (p_Y 165 C) ls st L := hT165 rfl C ls st L
theorem e165_277 (C : pCl) (ls : pLs) (st : List Value) (L : pH) : p_Y 165 C 277 ls st L = o_iadd 278 C (p_Y 165 C) ls st L := hT165 rfl C ls st L
theorem e165_278 (C : pCl) (ls : pLs) (st : List Value) (L : pH) : p_Y 165 C 278 ls st L = o_iald 279 C (p_Y 165 C) ls st L := hT165 rfl C ls st L
theorem e165_279 (C : pCl) (ls : pLs) (st : List Value) (L : pH) : p_Y 165 C 279 ls st L = o_invV 5 122 2 282 C (p_Y 165 C) ls st L := hT165 rfl C ls st L
theorem e165_282 (C : pCl) (ls : pLs) (st : List Value) (L : pH) : p_Y 165 C 282 ls st L = o_iceq 780 285 C (p_Y 165 C) ls st L := hT165 rfl C ls st L
theorem e165_285 (C : pCl) (ls : pLs) (st : List Value) (L : pH) : p_Y 165 C 285 ls st L = o_push (.int (nI 0)) 286 C (p_Y 165 C) ls st L := hT165 rfl C ls st L
theorem e165_286 (C : pCl) (ls : pLs) (st : List Value) (L : pH) : p_Y 165 C 286 ls st L = o_zret C (p_Y 165 C) ls st L := hT165 rfl C ls st L
theorem e165_287 (C : pCl) (ls : pLs) (st : List Value) (L : pH) : p_Y 165 C 287 ls st L = o_aload 1 288 C (p_Y 165 C) ls st L := hT165 rfl C ls st L
theorem e165_288 (C : pCl) (ls : pLs) (st : List Value) (L : pH) : p_Y 165 C 288 ls st L = o_aload 0 289 C (p_Y 165 C) ls st L := hT165 rfl C ls st L
theorem e165_289 (C : pCl) (ls : pLs) (st : List Value) (L : pH) : p_Y 165 C 289 ls st L = o_iload 3 290 C (p_Y 165 C) ls st L := hT165 rfl C ls st L
theorem e165_290 (C : pCl) (ls : pLs) (st : List Value) (L : pH) : p_Y 165 C 290 ls st L = o_push (.int (nI 1)) 291 C (p_Y 165 C) ls st L := hT165 rfl C ls st L
theorem e165_291 (C : pCl) (ls : pLs) (st : List Value) (L : pH) : p_Y 165 C 291 ls st L = o_iadd 292 C (p_Y 165 C) ls st L := hT165 rfl C ls st L
theorem e165_292 (C : pCl) (ls : pLs) (st : List Value) (L : pH) : p_Y 165 C 292 ls st L = o_iald 293 C (p_Y 165 C) ls st L := hT165 rfl C ls st L
theorem e165_293 (C : pCl) (ls : pLs) (st : List Value) (L : pH) : p_Y 165 C 293 ls st L = o_aload 0 294 C (p_Y 165 C) ls st L := hT165 rfl C ls st L
theorem e165_294 (C : pCl) (ls : pLs) (st : List Value) (L : pH) : p_Y 165 C 294 ls st L = o_iload 3 295 C (p_Y 165 C) ls st L := hT165 rfl C ls st L
theorem e165_295 (C : pCl) (ls : pLs) (st : List Value) (L : pH) : p_Y 165 C 295 ls st L = o_push (.int (nI 2)) 296 C (p_Y 165 C) ls st L := hT165 rfl C ls st L
theorem e165_296 (C : pCl) (ls : pLs) (st : List Value) (L : pH) : p_Y 165 C 296 ls st L = o_iadd 297 C (p_Y 165 C) ls st L := hT165 rfl C ls st L
theorem e165_297 (C : pCl) (ls : pLs) (st : List Value) (L : pH) : p_Y 165 C 297 ls st L = o_iald 298 C (p_Y 165 C) ls st L := hT165 rfl C ls st L
theorem e165_298 (C : pCl) (ls : pLs) (st : List Value) (L : pH) : p_Y 165 C 298 ls st L = o_aload 0 299 C (p_Y 165 C) ls st L := hT165 rfl C ls st L
theorem e165_299 (C : pCl) (ls : pLs) (st : List Value) (L : pH) : p_Y 165 C 299 ls st L = o_iload 3 300 C (p_Y 165 C) ls st L := hT165 rfl C ls st L
theorem e165_300 (C : pCl) (ls : pLs) (st : List Value) (L : pH) : p_Y 165 C 300 ls st L = o_push (.int (nI 3)) 301 C (p_Y 165 C) ls st L := hT165 rfl C ls st L
set_option maxRecDepth 20000 in
theorem e165_301 (C : pCl) (ls : pLs) (st : List Value) (L : pH) : p_Y 165 C 301 ls st L = o_iadd 302 C (p_Y 165 C) ls st L := hT165 rfl C ls st L
set_option maxRecDepth 20000 in
theorem e165_302 (C : pCl) (ls : pLs) (st : List Value) (L : pH) : p_Y 165 C 302 ls st L = o_iald 303 C (p_Y 165 C) ls st L := hT165 rfl C ls st L
set_option maxRecDepth 20000 in
theorem e165_303 (C : pCl) (ls : pLs) (st : List Value) (L : pH) : p_Y 165 C 303 ls st L = o_invV 4 53 3 306 C (p_Y 165 C) ls st L := hT165 rfl C ls st L
set_option maxRecDepth 20000 in
theorem e165_306 (C : pCl) (ls : pLs) (st : List Value) (L : pH) : p_Y 165 C 306 ls st L = o_aload 2 307 C (p_Y 165 C) ls st L := hT165 rfl C ls st L
set_option maxRecDepth 20000 in
theorem e165_307 (C : pCl) (ls : pLs) (st : List Value) (L : pH) : p_Y 165 C 307 ls st L = o_aload 0 308 C (p_Y 165 C) ls st L := hT165 rfl C ls st L
set_option maxRecDepth 20000 in
theorem e165_308 (C : pCl) (ls : pLs) (st : List Value) (L : pH) : p_Y 165 C 308 ls st L = o_iload 3 309 C (p_Y 165 C) ls st L := hT165 rfl C ls st L
set_option maxRecDepth 20000 in
theorem e165_309 (C : pCl) (ls : pLs) (st : List Value) (L : pH) : p_Y 165 C 309 ls st L = o_push (.int (nI 1)) 310 C (p_Y 165 C) ls st L := hT165 rfl C ls st L
set_option maxRecDepth 20000 in
theorem e165_310 (C : pCl) (ls : pLs) (st : List Value) (L : pH) : p_Y 165 C 310 ls st L = o_iadd 311 C (p_Y 165 C) ls st L := hT165 rfl C ls st L
set_option maxRecDepth 20000 in
theorem e165_311 (C : pCl) (ls : pLs) (st : List Value) (L : pH) : p_Y 165 C 311 ls st L = o_iald 312 C (p_Y 165 C) ls st L := hT165 rfl C ls st L
set_option maxRecDepth 20000 in
theorem e165_312 (C : pCl) (ls : pLs) (st : List Value) (L : pH) : p_Y 165 C 312 ls st L = o_aload 0 313 C (p_Y 165 C) ls st L := hT165 rfl C ls st L
set_option maxRecDepth 20000 in
theorem e165_313 (C : pCl) (ls : pLs) (st : List Value) (L : pH) : p_Y 165 C 313 ls st L = o_iload 3 314 C (p_Y 165 C) ls st L := hT165 rfl C ls st L
set_option maxRecDepth 20000 in
theorem e165_314 (C : pCl) (ls : pLs) (st : List Value) (L : pH) : p_Y 165 C 314 ls st L = o_push (.int (nI 2)) 315 C (p_Y 165 C) ls st L := hT165 rfl C ls st L
set_option maxRecDepth 20000 in
theorem e165_315 (C : pCl) (ls : pLs) (st : List Value) (L : pH) : p_Y 165 C 315 ls st L = o_iadd 316 C (p_Y 165 C) ls st L := hT165 rfl C ls st L
set_option maxRecDepth 20000 in
theorem e165_316 (C : pCl) (ls : pLs) (st : List Value) (L : pH) : p_Y 165 C 316 ls st L = o_iald 317 C (p_Y 165 C) ls st L := hT165 rfl C ls st L
set_option maxRecDepth 20000 in
theorem e165_317 (C : pCl) (ls : pLs) (st : List Value) (L : pH) : p_Y 165 C 317 ls st L = o_aload 0 318 C (p_Y 165 C) ls st L := hT165 rfl C ls st L
set_option maxRecDepth 20000 in
theorem e165_318 (C : pCl) (ls : pLs) (st : List Value) (L : pH) : p_Y 165 C 318 ls st L = o_iload 3 319 C (p_Y 165 C) ls st L := hT165 rfl C ls st L
set_option maxRecDepth 20000 in
theorem e165_319 (C : pCl) (ls : pLs) (st : List Value) (L : pH) : p_Y 165 C 319 ls st L = o_push (.int (nI 3)) 320 C (p_Y 165 C) ls st L := hT165 rfl C ls st L
set_option maxRecDepth 20000 in
theorem e165_320 (C : pCl) (ls : pLs) (st : List Value) (L : pH) : p_Y 165 C 320 ls st L = o_iadd 321 C (p_Y 165 C) ls st L := hT165 rfl C ls st L
set_option maxRecDepth 20000 in
theorem e165_321 (C : pCl) (ls : pLs) (st : List Value) (L : pH) : p_Y 165 C 321 ls st L = o_iald 322 C (p_Y 165 C) ls st L := hT165 rfl C ls st L
set_option maxRecDepth 20000 in
theorem e165_322 (C : pCl) (ls : pLs) (st : List Value) (L : pH) : p_Y 165 C 322 ls st L = o_invV 5 125 3 325 C (p_Y 165 C) ls st L := hT165 rfl C ls st L
set_option maxRecDepth 20000 in
theorem e165_325 (C : pCl) (ls : pLs) (st : List Value) (L : pH) : p_Y 165 C 325 ls st L = o_iceq 780 328 C (p_Y 165 C) ls st L := hT165 rfl C ls st L
set_option maxRecDepth 20000 in
theorem e165_328 (C : pCl) (ls : pLs) (st : List Value) (L : pH) : p_Y 165 C 328 ls st L = o_push (.int (nI 0)) 329 C (p_Y 165 C) ls st L := hT165 rfl C ls st L
set_option maxRecDepth 20000 in
theorem e165_329 (C : pCl) (ls : pLs) (st : List Value) (L : pH) : p_Y 165 C 329 ls st L = o_zret C (p_Y 165 C) ls st L := hT165 rfl C ls st L
set_option maxRecDepth 20000 in
theorem e165_330 (C : pCl) (ls : pLs) (st : List Value) (L : pH) : p_Y 165 C 330 ls st L = o_aload 1 331 C (p_Y 165 C) ls st L := hT165 rfl C ls st L
set_option maxRecDepth 20000 in
theorem e165_331 (C : pCl) (ls : pLs) (st : List Value) (L : pH) : p_Y 165 C 331 ls st L = o_aload 0 332 C (p_Y 165 C) ls st L := hT165 rfl C ls st L
set_option maxRecDepth 20000 in
theorem e165_332 (C : pCl) (ls : pLs) (st : List Value) (L : pH) : p_Y 165 C 332 ls st L = o_iload 3 333 C (p_Y 165 C) ls st L := hT165 rfl C ls st L
set_option maxRecDepth 20000 in
theorem e165_333 (C : pCl) (ls : pLs) (st : List Value) (L : pH) : p_Y 165 C 333 ls st L = o_push (.int (nI 1)) 334 C (p_Y 165 C) ls st L := hT165 rfl C ls st L
set_option maxRecDepth 20000 in
theorem e165_334 (C : pCl) (ls : pLs) (st : List Value) (L : pH) : p_Y 165 C 334 ls st L = o_iadd 335 C (p_Y 165 C) ls st L := hT165 rfl C ls st L
set_option maxRecDepth 20000 in
theorem e165_335 (C : pCl) (ls : pLs) (st : List Value) (L : pH) : p_Y 165 C 335 ls st L = o_iald 336 C (p_Y 165 C) ls st L := hT165 rfl C ls st L
set_option maxRecDepth 20000 in
theorem e165_336 (C : pCl) (ls : pLs) (st : List Value) (L : pH) : p_Y 165 C 336 ls st L = o_invV 4 54 1 339 C (p_Y 165 C) ls st L := hT165 rfl C ls st L
set_option maxRecDepth 20000 in
theorem e165_339 (C : pCl) (ls : pLs) (st : List Value) (L : pH) : p_Y 165 C 339 ls st L = o_aload 2 340 C (p_Y 165 C) ls st L := hT165 rfl C ls st L
set_option maxRecDepth 20000 in
theorem e165_340 (C : pCl) (ls : pLs) (st : List Value) (L : pH) : p_Y 165 C 340 ls st L = o_aload 0 341 C (p_Y 165 C) ls st L := hT165 rfl C ls st L
set_option maxRecDepth 20000 in
theorem e165_341 (C : pCl) (ls : pLs) (st : List Value) (L : pH) : p_Y 165 C 341 ls st L = o_iload 3 342 C (p_Y 165 C) ls st L := hT165 rfl C ls st L
set_option maxRecDepth 20000 in
theorem e165_342 (C : pCl) (ls : pLs) (st : List Value) (L : pH) : p_Y 165 C 342 ls st L = o_push (.int (nI 1)) 343 C (p_Y 165 C) ls st L := hT165 rfl C ls st L
set_option maxRecDepth 20000 in
theorem e165_343 (C : pCl) (ls : pLs) (st : List Value) (L : pH) : p_Y 165 C 343 ls st L = o_iadd 344 C (p_Y 165 C) ls st L := hT165 rfl C ls st L
set_option maxRecDepth 20000 in
theorem e165_344 (C : pCl) (ls : pLs) (st : List Value) (L : pH) : p_Y 165 C 344 ls st L = o_iald 345 C (p_Y 165 C) ls st L := hT165 rfl C ls st L
set_option maxRecDepth 20000 in
theorem e165_345 (C : pCl) (ls : pLs) (st : List Value) (L : pH) : p_Y 165 C 345 ls st L = o_invV 5 129 1 348 C (p_Y 165 C) ls st L := hT165 rfl C ls st L
set_option maxRecDepth 20000 in
theorem e165_348 (C : pCl) (ls : pLs) (st : List Value) (L : pH) : p_Y 165 C 348 ls st L = o_iceq 780 351 C (p_Y 165 C) ls st L := hT165 rfl C ls st L
set_option maxRecDepth 20000 in
theorem e165_351 (C : pCl) (ls : pLs) (st : List Value) (L : pH) : p_Y 165 C 351 ls st L = o_push (.int (nI 0)) 352 C (p_Y 165 C) ls st L := hT165 rfl C ls st L
set_option maxRecDepth 20000 in
theorem e165_352 (C : pCl) (ls : pLs) (st : List Value) (L : pH) : p_Y 165 C 352 ls st L = o_zret C (p_Y 165 C) ls st L := hT165 rfl C ls st L
set_option maxRecDepth 20000 in
theorem e165_353 (C : pCl) (ls : pLs) (st : List Value) (L : pH) : p_Y 165 C 353 ls st L = o_aload 1 354 C (p_Y 165 C) ls st L := hT165 rfl C ls st L
set_option maxRecDepth 20000 in
theorem e165_354 (C : pCl) (ls : pLs) (st : List Value) (L : pH) : p_Y 165 C 354 ls st L = o_aload 0 355 C (p_Y 165 C) ls st L := hT165 rfl C ls st L
set_option maxRecDepth 20000 in
theorem e165_355 (C : pCl) (ls : pLs) (st : List Value) (L : pH) : p_Y 165 C 355 ls st L = o_iload 3 356 C (p_Y 165 C) ls st L := hT165 rfl C ls st L
set_option maxRecDepth 20000 in
theorem e165_356 (C : pCl) (ls : pLs) (st : List Value) (L : pH) : p_Y 165 C 356 ls st L = o_push (.int (nI 1)) 357 C (p_Y 165 C) ls st L := hT165 rfl C ls st L
set_option maxRecDepth 20000 in
theorem e165_357 (C : pCl) (ls : pLs) (st : List Value) (L : pH) : p_Y 165 C 357 ls st L = o_iadd 358 C (p_Y 165 C) ls st L := hT165 rfl C ls st L
set_option maxRecDepth 20000 in
theorem e165_358 (C : pCl) (ls : pLs) (st : List Value) (L : pH) : p_Y 165 C 358 ls st L = o_iald 359 C (p_Y 165 C) ls st L := hT165 rfl C ls st L
set_option maxRecDepth 20000 in
theorem e165_359 (C : pCl) (ls : pLs) (st : List Value) (L : pH) : p_Y 165 C 359 ls st L = o_invV 4 55 1 362 C (p_Y 165 C) ls st L := hT165 rfl C ls st L
set_option maxRecDepth 20000 in
theorem e165_362 (C : pCl) (ls : pLs) (st : List Value) (L : pH) : p_Y 165 C 362 ls st L = o_aload 2 363 C (p_Y 165 C) ls st L := hT165 rfl C ls st L
set_option maxRecDepth 20000 in
theorem e165_363 (C : pCl) (ls : pLs) (st : List Value) (L : pH) : p_Y 165 C 363 ls st L = o_aload 0 364 C (p_Y 165 C) ls st L := hT165 rfl C ls st L
set_option maxRecDepth 20000 in
theorem e165_364 (C : pCl) (ls : pLs) (st : List Value) (L : pH) : p_Y 165 C 364 ls st L = o_iload 3 365 C (p_Y 165 C) ls st L := hT165 rfl C ls st L
set_option maxRecDepth 20000 in
theorem e165_365 (C : pCl) (ls : pLs) (st : List Value) (L : pH) : p_Y 165 C 365 ls st L = o_push (.int (nI 1)) 366 C (p_Y 165 C) ls st L := hT165 rfl C ls st L
set_option maxRecDepth 20000 in
theorem e165_366 (C : pCl) (ls : pLs) (st : List Value) (L : pH) : p_Y 165 C 366 ls st L = o_iadd 367 C (p_Y 165 C) ls st L := hT165 rfl C ls st L
set_option maxRecDepth 20000 in
theorem e165_367 (C : pCl) (ls : pLs) (st : List Value) (L : pH) : p_Y 165 C 367 ls st L = o_iald 368 C (p_Y 165 C) ls st L := hT165 rfl C ls st L
set_option maxRecDepth 20000 in
theorem e165_368 (C : pCl) (ls : pLs) (st : List Value) (L : pH) : p_Y 165 C 368 ls st L = o_invV 5 130 1 371 C (p_Y 165 C) ls st L := hT165 rfl C ls st L
set_option maxRecDepth 20000 in
theorem e165_371 (C : pCl) (ls : pLs) (st : List Value) (L : pH) : p_Y 165 C 371 ls st L = o_iceq 780 374 C (p_Y 165 C) ls st L := hT165 rfl C ls st L
set_option maxRecDepth 20000 in
theorem e165_374 (C : pCl) (ls : pLs) (st : List Value) (L : pH) : p_Y 165 C 374 ls st L = o_push (.int (nI 0)) 375 C (p_Y 165 C) ls st L := hT165 rfl C ls st L
set_option maxRecDepth 20000 in
theorem e165_375 (C : pCl) (ls : pLs) (st : List Value) (L : pH) : p_Y 165 C 375 ls st L = o_zret C (p_Y 165 C) ls st L := hT165 rfl C ls st L
set_option maxRecDepth 20000 in
theorem e165_376 (C : pCl) (ls : pLs) (st : List Value) (L : pH) : p_Y 165 C 376 ls st L = o_aload 1 377 C (p_Y 165 C) ls st L := hT165 rfl C ls st L
set_option maxRecDepth 20000 in
theorem e165_377 (C : pCl) (ls : pLs) (st : List Value) (L : pH) : p_Y 165 C 377 ls st L = o_invV 4 56 0 380 C (p_Y 165 C) ls st L := hT165 rfl C ls st L
set_option maxRecDepth 20000 in
theorem e165_380 (C : pCl) (ls : pLs) (st : List Value) (L : pH) : p_Y 165 C 380 ls st L = o_aload 2 381 C (p_Y 165 C) ls st L := hT165 rfl C ls st L
set_option maxRecDepth 20000 in
theorem e165_381 (C : pCl) (ls : pLs) (st : List Value) (L : pH) : p_Y 165 C 381 ls st L = o_invV 5 132 0 384 C (p_Y 165 C) ls st L := hT165 rfl C ls st L
set_option maxRecDepth 20000 in
theorem e165_384 (C : pCl) (ls : pLs) (st : List Value) (L : pH) : p_Y 165 C 384 ls st L = o_iceq 780 387 C (p_Y 165 C) ls st L := hT165 rfl C ls st L
set_option maxRecDepth 20000 in
theorem e165_387 (C : pCl) (ls : pLs) (st : List Value) (L : pH) : p_Y 165 C 387 ls st L = o_push (.int (nI 0)) 388 C (p_Y 165 C) ls st L := hT165 rfl C ls st L
set_option maxRecDepth 20000 in
theorem e165_388 (C : pCl) (ls : pLs) (st : List Value) (L : pH) : p_Y 165 C 388 ls st L = o_zret C (p_Y 165 C) ls st L := hT165 rfl C ls st L
set_option maxRecDepth 20000 in
theorem e165_389 (C : pCl) (ls : pLs) (st : List Value) (L : pH) : p_Y 165 C 389 ls st L = o_aload 1 390 C (p_Y 165 C) ls st L := hT165 rfl C ls st L
set_option maxRecDepth 20000 in
theorem e165_390 (C : pCl) (ls : pLs) (st : List Value) (L : pH) : p_Y 165 C 390 ls st L = o_invV 4 57 0 393 C (p_Y 165 C) ls st L := hT165 rfl C ls st L
set_option maxRecDepth 20000 in
theorem e165_393 (C : pCl) (ls : pLs) (st : List Value) (L : pH) : p_Y 165 C 393 ls st L = o_aload 2 394 C (p_Y 165 C) ls st L := hT165 rfl C ls st L
set_option maxRecDepth 20000 in
theorem e165_394 (C : pCl) (ls : pLs) (st : List Value) (L : pH) : p_Y 165 C 394 ls st L = o_invV 5 134 0 397 C (p_Y 165 C) ls st L := hT165 rfl C ls st L
set_option maxRecDepth 20000 in
theorem e165_397 (C : pCl) (ls : pLs) (st : List Value) (L : pH) : p_Y 165 C 397 ls st L = o_iceq 780 400 C (p_Y 165 C) ls st L := hT165 rfl C ls st L
set_option maxRecDepth 20000 in
theorem e165_400 (C : pCl) (ls : pLs) (st : List Value) (L : pH) : p_Y 165 C 400 ls st L = o_push (.int (nI 0)) 401 C (p_Y 165 C) ls st L := hT165 rfl C ls st L
set_option maxRecDepth 20000 in
theorem e165_401 (C : pCl) (ls : pLs) (st : List Value) (L : pH) : p_Y 165 C 401 ls st L = o_zret C (p_Y 165 C) ls st L := hT165 rfl C ls st L
set_option maxRecDepth 20000 in
theorem e165_402 (C : pCl) (ls : pLs) (st : List Value) (L : pH) : p_Y 165 C 402 ls st L = o_aload 1 403 C (p_Y 165 C) ls st L := hT165 rfl C ls st L
set_option maxRecDepth 20000 in
theorem e165_403 (C : pCl) (ls : pLs) (st : List Value) (L : pH) : p_Y 165 C 403 ls st L = o_aload 0 404 C (p_Y 165 C) ls st L := hT165 rfl C ls st L
set_option maxRecDepth 20000 in
theorem e165_404 (C : pCl) (ls : pLs) (st : List Value) (L : pH) : p_Y 165 C 404 ls st L = o_iload 3 405 C (p_Y 165 C) ls st L := hT165 rfl C ls st L
set_option maxRecDepth 20000 in
theorem e165_405 (C : pCl) (ls : pLs) (st : List Value) (L : pH) : p_Y 165 C 405 ls st L = o_push (.int (nI 1)) 406 C (p_Y 165 C) ls st L := hT165 rfl C ls st L
set_option maxRecDepth 20000 in
theorem e165_406 (C : pCl) (ls : pLs) (st : List Value) (L : pH) : p_Y 165 C 406 ls st L = o_iadd 407 C (p_Y 165 C) ls st L := hT165 rfl C ls st L
set_option maxRecDepth 20000 in
theorem e165_407 (C : pCl) (ls : pLs) (st : List Value) (L : pH) : p_Y 165 C 407 ls st L = o_iald 408 C (p_Y 165 C) ls st L := hT165 rfl C ls st L
set_option maxRecDepth 20000 in
theorem e165_408 (C : pCl) (ls : pLs) (st : List Value) (L : pH) : p_Y 165 C 408 ls st L = o_aload 0 409 C (p_Y 165 C) ls st L := hT165 rfl C ls st L
set_option maxRecDepth 20000 in
theorem e165_409 (C : pCl) (ls : pLs) (st : List Value) (L : pH) : p_Y 165 C 409 ls st L = o_iload 3 410 C (p_Y 165 C) ls st L := hT165 rfl C ls st L
set_option maxRecDepth 20000 in
theorem e165_410 (C : pCl) (ls : pLs) (st : List Value) (L : pH) : p_Y 165 C 410 ls st L = o_push (.int (nI 2)) 411 C (p_Y 165 C) ls st L := hT165 rfl C ls st L
set_option maxRecDepth 20000 in
theorem e165_411 (C : pCl) (ls : pLs) (st : List Value) (L : pH) : p_Y 165 C 411 ls st L = o_iadd 412 C (p_Y 165 C) ls st L := hT165 rfl C ls st L
set_option maxRecDepth 20000 in
theorem e165_412 (C : pCl) (ls : pLs) (st : List Value) (L : pH) : p_Y 165 C 412 ls st L = o_iald 413 C (p_Y 165 C) ls st L := hT165 rfl C ls st L
set_option maxRecDepth 20000 in
theorem e165_413 (C : pCl) (ls : pLs) (st : List Value) (L : pH) : p_Y 165 C 413 ls st L = o_invV 4 58 2 416 C (p_Y 165 C) ls st L := hT165 rfl C ls st L
set_option maxRecDepth 20000 in
theorem e165_416 (C : pCl) (ls : pLs) (st : List Value) (L : pH) : p_Y 165 C 416 ls st L = o_aload 2 417 C (p_Y 165 C) ls st L := hT165 rfl C ls st L
set_option maxRecDepth 20000 in
theorem e165_417 (C : pCl) (ls : pLs) (st : List Value) (L : pH) : p_Y 165 C 417 ls st L = o_aload 0 418 C (p_Y 165 C) ls st L := hT165 rfl C ls st L
set_option maxRecDepth 20000 in
theorem e165_418 (C : pCl) (ls : pLs) (st : List Value) (L : pH) : p_Y 165 C 418 ls st L = o_iload 3 419 C (p_Y 165 C) ls st L := hT165 rfl C ls st L
set_option maxRecDepth 20000 in
theorem e165_419 (C : pCl) (ls : pLs) (st : List Value) (L : pH) : p_Y 165 C 419 ls st L = o_push (.int (nI 1)) 420 C (p_Y 165 C) ls st L := hT165 rfl C ls st L
set_option maxRecDepth 20000 in
theorem e165_420 (C : pCl) (ls : pLs) (st : List Value) (L : pH) : p_Y 165 C 420 ls st L = o_iadd 421 C (p_Y 165 C) ls st L := hT165 rfl C ls st L
set_option maxRecDepth 20000 in
theorem e165_421 (C : pCl) (ls : pLs) (st : List Value) (L : pH) : p_Y 165 C 421 ls st L = o_iald 422 C (p_Y 165 C) ls st L := hT165 rfl C ls st L
set_option maxRecDepth 20000 in
theorem e165_422 (C : pCl) (ls : pLs) (st : List Value) (L : pH) : p_Y 165 C 422 ls st L = o_aload 0 423 C (p_Y 165 C) ls st L := hT165 rfl C ls st L
set_option maxRecDepth 20000 in
theorem e165_423 (C : pCl) (ls : pLs) (st : List Value) (L : pH) : p_Y 165 C 423 ls st L = o_iload 3 424 C (p_Y 165 C) ls st L := hT165 rfl C ls st L
set_option maxRecDepth 20000 in
theorem e165_424 (C : pCl) (ls : pLs) (st : List Value) (L : pH) : p_Y 165 C 424 ls st L = o_push (.int (nI 2)) 425 C (p_Y 165 C) ls st L := hT165 rfl C ls st L
set_option maxRecDepth 20000 in
theorem e165_425 (C : pCl) (ls : pLs) (st : List Value) (L : pH) : p_Y 165 C 425 ls st L = o_iadd 426 C (p_Y 165 C) ls st L := hT165 rfl C ls st L
set_option maxRecDepth 20000 in
theorem e165_426 (C : pCl) (ls : pLs) (st : List Value) (L : pH) : p_Y 165 C 426 ls st L = o_iald 427 C (p_Y 165 C) ls st L := hT165 rfl C ls st L
set_option maxRecDepth 20000 in
theorem e165_427 (C : pCl) (ls : pLs) (st : List Value) (L : pH) : p_Y 165 C 427 ls st L = o_invV 5 138 2 430 C (p_Y 165 C) ls st L := hT165 rfl C ls st L
set_option maxRecDepth 20000 in
theorem e165_430 (C : pCl) (ls : pLs) (st : List Value) (L : pH) : p_Y 165 C 430 ls st L = o_iceq 780 433 C (p_Y 165 C) ls st L := hT165 rfl C ls st L
set_option maxRecDepth 20000 in
theorem e165_433 (C : pCl) (ls : pLs) (st : List Value) (L : pH) : p_Y 165 C 433 ls st L = o_push (.int (nI 0)) 434 C (p_Y 165 C) ls st L := hT165 rfl C ls st L
set_option maxRecDepth 20000 in
theorem e165_434 (C : pCl) (ls : pLs) (st : List Value) (L : pH) : p_Y 165 C 434 ls st L = o_zret C (p_Y 165 C) ls st L := hT165 rfl C ls st L
set_option maxRecDepth 20000 in
theorem e165_435 (C : pCl) (ls : pLs) (st : List Value) (L : pH) : p_Y 165 C 435 ls st L = o_aload 1 436 C (p_Y 165 C) ls st L := hT165 rfl C ls st L
set_option maxRecDepth 20000 in
theorem e165_436 (C : pCl) (ls : pLs) (st : List Value) (L : pH) : p_Y 165 C 436 ls st L = o_aload 0 437 C (p_Y 165 C) ls st L := hT165 rfl C ls st L
set_option maxRecDepth 20000 in
theorem e165_437 (C : pCl) (ls : pLs) (st : List Value) (L : pH) : p_Y 165 C 437 ls st L = o_iload 3 438 C (p_Y 165 C) ls st L := hT165 rfl C ls st L
set_option maxRecDepth 20000 in
theorem e165_438 (C : pCl) (ls : pLs) (st : List Value) (L : pH) : p_Y 165 C 438 ls st L = o_push (.int (nI 1)) 439 C (p_Y 165 C) ls st L := hT165 rfl C ls st L
set_option maxRecDepth 20000 in
theorem e165_439 (C : pCl) (ls : pLs) (st : List Value) (L : pH) : p_Y 165 C 439 ls st L = o_iadd 440 C (p_Y 165 C) ls st L := hT165 rfl C ls st L
set_option maxRecDepth 20000 in
theorem e165_440 (C : pCl) (ls : pLs) (st : List Value) (L : pH) : p_Y 165 C 440 ls st L = o_iald 441 C (p_Y 165 C) ls st L := hT165 rfl C ls st L
set_option maxRecDepth 20000 in
theorem e165_441 (C : pCl) (ls : pLs) (st : List Value) (L : pH) : p_Y 165 C 441 ls st L = o_aload 0 442 C (p_Y 165 C) ls st L := hT165 rfl C ls st L
set_option maxRecDepth 20000 in
theorem e165_442 (C : pCl) (ls : pLs) (st : List Value) (L : pH) : p_Y 165 C 442 ls st L = o_iload 3 443 C (p_Y 165 C) ls st L := hT165 rfl C ls st L
set_option maxRecDepth 20000 in
theorem e165_443 (C : pCl) (ls : pLs) (st : List Value) (L : pH) : p_Y 165 C 443 ls st L = o_push (.int (nI 2)) 444 C (p_Y 165 C) ls st L := hT165 rfl C ls st L
set_option maxRecDepth 20000 in
theorem e165_444 (C : pCl) (ls : pLs) (st : List Value) (L : pH) : p_Y 165 C 444 ls st L = o_iadd 445 C (p_Y 165 C) ls st L := hT165 rfl C ls st L
set_option maxRecDepth 20000 in
theorem e165_445 (C : pCl) (ls : pLs) (st : List Value) (L : pH) : p_Y 165 C 445 ls st L = o_iald 446 C (p_Y 165 C) ls st L := hT165 rfl C ls st L
set_option maxRecDepth 20000 in
theorem e165_446 (C : pCl) (ls : pLs) (st : List Value) (L : pH) : p_Y 165 C 446 ls st L = o_invV 4 59 2 449 C (p_Y 165 C) ls st L := hT165 rfl C ls st L
set_option maxRecDepth 20000 in
theorem e165_449 (C : pCl) (ls : pLs) (st : List Value) (L : pH) : p_Y 165 C 449 ls st L = o_aload 2 450 C (p_Y 165 C) ls st L := hT165 rfl C ls st L
set_option maxRecDepth 20000 in
theorem e165_450 (C : pCl) (ls : pLs) (st : List Value) (L : pH) : p_Y 165 C 450 ls st L = o_aload 0 451 C (p_Y 165 C) ls st L := hT165 rfl C ls st L
set_option maxRecDepth 20000 in
theorem e165_451 (C : pCl) (ls : pLs) (st : List Value) (L : pH) : p_Y 165 C 451 ls st L = o_iload 3 452 C (p_Y 165 C) ls st L := hT165 rfl C ls st L
set_option maxRecDepth 20000 in
theorem e165_452 (C : pCl) (ls : pLs) (st : List Value) (L : pH) : p_Y 165 C 452 ls st L = o_push (.int (nI 1)) 453 C (p_Y 165 C) ls st L := hT165 rfl C ls st L
set_option maxRecDepth 20000 in
theorem e165_453 (C : pCl) (ls : pLs) (st : List Value) (L : pH) : p_Y 165 C 453 ls st L = o_iadd 454 C (p_Y 165 C) ls st L := hT165 rfl C ls st L
set_option maxRecDepth 20000 in
theorem e165_454 (C : pCl) (ls : pLs) (st : List Value) (L : pH) : p_Y 165 C 454 ls st L = o_iald 455 C (p_Y 165 C) ls st L := hT165 rfl C ls st L
set_option maxRecDepth 20000 in
theorem e165_455 (C : pCl) (ls : pLs) (st : List Value) (L : pH) : p_Y 165 C 455 ls st L = o_aload 0 456 C (p_Y 165 C) ls st L := hT165 rfl C ls st L
set_option maxRecDepth 20000 in
theorem e165_456 (C : pCl) (ls : pLs) (st : List Value) (L : pH) : p_Y 165 C 456 ls st L = o_iload 3 457 C (p_Y 165 C) ls st L := hT165 rfl C ls st L
set_option maxRecDepth 20000 in
theorem e165_457 (C : pCl) (ls : pLs) (st : List Value) (L : pH) : p_Y 165 C 457 ls st L = o_push (.int (nI 2)) 458 C (p_Y 165 C) ls st L := hT165 rfl C ls st L
set_option maxRecDepth 20000 in
theorem e165_458 (C : pCl) (ls : pLs) (st : List Value) (L : pH) : p_Y 165 C 458 ls st L = o_iadd 459 C (p_Y 165 C) ls st L := hT165 rfl C ls st L
set_option maxRecDepth 20000 in
theorem e165_459 (C : pCl) (ls : pLs) (st : List Value) (L : pH) : p_Y 165 C 459 ls st L = o_iald 460 C (p_Y 165 C) ls st L := hT165 rfl C ls st L
set_option maxRecDepth 20000 in
theorem e165_460 (C : pCl) (ls : pLs) (st : List Value) (L : pH) : p_Y 165 C 460 ls st L = o_invV 5 139 2 463 C (p_Y 165 C) ls st L := hT165 rfl C ls st L
set_option maxRecDepth 20000 in
theorem e165_463 (C : pCl) (ls : pLs) (st : List Value) (L : pH) : p_Y 165 C 463 ls st L = o_iceq 780 466 C (p_Y 165 C) ls st L := hT165 rfl C ls st L
set_option maxRecDepth 20000 in
theorem e165_466 (C : pCl) (ls : pLs) (st : List Value) (L : pH) : p_Y 165 C 466 ls st L = o_push (.int (nI 0)) 467 C (p_Y 165 C) ls st L := hT165 rfl C ls st L
set_option maxRecDepth 20000 in
theorem e165_467 (C : pCl) (ls : pLs) (st : List Value) (L : pH) : p_Y 165 C 467 ls st L = o_zret C (p_Y 165 C) ls st L := hT165 rfl C ls st L
set_option maxRecDepth 20000 in
theorem e165_468 (C : pCl) (ls : pLs) (st : List Value) (L : pH) : p_Y 165 C 468 ls st L = o_aload 1 469 C (p_Y 165 C) ls st L := hT165 rfl C ls st L
set_option maxRecDepth 20000 in
theorem e165_469 (C : pCl) (ls : pLs) (st : List Value) (L : pH) : p_Y 165 C 469 ls st L = o_aload 0 470 C (p_Y 165 C) ls st L := hT165 rfl C ls st L
set_option maxRecDepth 20000 in
theorem e165_470 (C : pCl) (ls : pLs) (st : List Value) (L : pH) : p_Y 165 C 470 ls st L = o_iload 3 471 C (p_Y 165 C) ls st L := hT165 rfl C ls st L
set_option maxRecDepth 20000 in
theorem e165_471 (C : pCl) (ls : pLs) (st : List Value) (L : pH) : p_Y 165 C 471 ls st L = o_push (.int (nI 1)) 472 C (p_Y 165 C) ls st L := hT165 rfl C ls st L
set_option maxRecDepth 20000 in
theorem e165_472 (C : pCl) (ls : pLs) (st : List Value) (L : pH) : p_Y 165 C 472 ls st L = o_iadd 473 C (p_Y 165 C) ls st L := hT165 rfl C ls st L
set_option maxRecDepth 20000 in
theorem e165_473 (C : pCl) (ls : pLs) (st : List Value) (L : pH) : p_Y 165 C 473 ls st L = o_iald 474 C (p_Y 165 C) ls st L := hT165 rfl C ls st L
set_option maxRecDepth 20000 in
theorem e165_474 (C : pCl) (ls : pLs) (st : List Value) (L : pH) : p_Y 165 C 474 ls st L = o_aload 0 475 C (p_Y 165 C) ls st L := hT165 rfl C ls st L
set_option maxRecDepth 20000 in
theorem e165_475 (C : pCl) (ls : pLs) (st : List Value) (L : pH) : p_Y 165 C 475 ls st L = o_iload 3 476 C (p_Y 165 C) ls st L := hT165 rfl C ls st L
set_option maxRecDepth 20000 in
theorem e165_476 (C : pCl) (ls : pLs) (st : List Value) (L : pH) : p_Y 165 C 476 ls st L = o_push (.int (nI 2)) 477 C (p_Y 165 C) ls st L := hT165 rfl C ls st L
set_option maxRecDepth 20000 in
theorem e165_477 (C : pCl) (ls : pLs) (st : List Value) (L : pH) : p_Y 165 C 477 ls st L = o_iadd 478 C (p_Y 165 C) ls st L := hT165 rfl C ls st L
set_option maxRecDepth 20000 in
theorem e165_478 (C : pCl) (ls : pLs) (st : List Value) (L : pH) : p_Y 165 C 478 ls st L = o_iald 479 C (p_Y 165 C) ls st L := hT165 rfl C ls st L
set_option maxRecDepth 20000 in
theorem e165_479 (C : pCl) (ls : pLs) (st : List Value) (L : pH) : p_Y 165 C 479 ls st L = o_invV 4 60 2 482 C (p_Y 165 C) ls st L := hT165 rfl C ls st L
set_option maxRecDepth 20000 in
theorem e165_482 (C : pCl) (ls : pLs) (st : List Value) (L : pH) : p_Y 165 C 482 ls st L = o_aload 2 483 C (p_Y 165 C) ls st L := hT165 rfl C ls st L
set_option maxRecDepth 20000 in
theorem e165_483 (C : pCl) (ls : pLs) (st : List Value) (L : pH) : p_Y 165 C 483 ls st L = o_aload 0 484 C (p_Y 165 C) ls st L := hT165 rfl C ls st L
set_option maxRecDepth 20000 in
theorem e165_484 (C : pCl) (ls : pLs) (st : List Value) (L : pH) : p_Y 165 C 484 ls st L = o_iload 3 485 C (p_Y 165 C) ls st L := hT165 rfl C ls st L
set_option maxRecDepth 20000 in
theorem e165_485 (C : pCl) (ls : pLs) (st : List Value) (L : pH) : p_Y 165 C 485 ls st L = o_push (.int (nI 1)) 486 C (p_Y 165 C) ls st L := hT165 rfl C ls st L
set_option maxRecDepth 20000 in
theorem e165_486 (C : pCl) (ls : pLs) (st : List Value) (L : pH) : p_Y 165 C 486 ls st L = o_iadd 487 C (p_Y 165 C) ls st L := hT165 rfl C ls st L
set_option maxRecDepth 20000 in
theorem e165_487 (C : pCl) (ls : pLs) (st : List Value) (L : pH) : p_Y 165 C 487 ls st L = o_iald 488 C (p_Y 165 C) ls st L := hT165 rfl C ls st L
set_option maxRecDepth 20000 in
theorem e165_488 (C : pCl) (ls : pLs) (st : List Value) (L : pH) : p_Y 165 C 488 ls st L = o_aload 0 489 C (p_Y 165 C) ls st L := hT165 rfl C ls st L
set_option maxRecDepth 20000 in
theorem e165_489 (C : pCl) (ls : pLs) (st : List Value) (L : pH) : p_Y 165 C 489 ls st L = o_iload 3 490 C (p_Y 165 C) ls st L := hT165 rfl C ls st L
set_option maxRecDepth 20000 in
theorem e165_490 (C : pCl) (ls : pLs) (st : List Value) (L : pH) : p_Y 165 C 490 ls st L = o_push (.int (nI 2)) 491 C (p_Y 165 C) ls st L := hT165 rfl C ls st L
set_option maxRecDepth 20000 in
theorem e165_491 (C : pCl) (ls : pLs) (st : List Value) (L : pH) : p_Y 165 C 491 ls st L = o_iadd 492 C (p_Y 165 C) ls st L := hT165 rfl C ls st L
set_option maxRecDepth 20000 in
theorem e165_492 (C : pCl) (ls : pLs) (st : List Value) (L : pH) : p_Y 165 C 492 ls st L = o_iald 493 C (p_Y 165 C) ls st L := hT165 rfl C ls st L
set_option maxRecDepth 20000 in
theorem e165_493 (C : pCl) (ls : pLs) (st : List Value) (L : pH) : p_Y 165 C 493 ls st L = o_invV 5 140 2 496 C (p_Y 165 C) ls st L := hT165 rfl C ls st L
set_option maxRecDepth 20000 in
theorem e165_496 (C : pCl) (ls : pLs) (st : List Value) (L : pH) : p_Y 165 C 496 ls st L = o_iceq 780 499 C (p_Y 165 C) ls st L := hT165 rfl C ls st L
set_option maxRecDepth 20000 in
theorem e165_499 (C : pCl) (ls : pLs) (st : List Value) (L : pH) : p_Y 165 C 499 ls st L = o_push (.int (nI 0)) 500 C (p_Y 165 C) ls st L := hT165 rfl C ls st L
set_option maxRecDepth 20000 in
theorem e165_500 (C : pCl) (ls : pLs) (st : List Value) (L : pH) : p_Y 165 C 500 ls st L = o_zret C (p_Y 165 C) ls st L := hT165 rfl C ls st L
set_option maxRecDepth 20000 in
theorem e165_501 (C : pCl) (ls : pLs) (st : List Value) (L : pH) : p_Y 165 C 501 ls st L = o_aload 1 502 C (p_Y 165 C) ls st L := hT165 rfl C ls st L
set_option maxRecDepth 20000 in
theorem e165_502 (C : pCl) (ls : pLs) (st : List Value) (L : pH) : p_Y 165 C 502 ls st L = o_aload 0 503 C (p_Y 165 C) ls st L := hT165 rfl C ls st L
set_option maxRecDepth 20000 in
theorem e165_503 (C : pCl) (ls : pLs) (st : List Value) (L : pH) : p_Y 165 C 503 ls st L = o_iload 3 504 C (p_Y 165 C) ls st L := hT165 rfl C ls st L
set_option maxRecDepth 20000 in
theorem e165_504 (C : pCl) (ls : pLs) (st : List Value) (L : pH) : p_Y 165 C 504 ls st L = o_push (.int (nI 1)) 505 C (p_Y 165 C) ls st L := hT165 rfl C ls st L
set_option maxRecDepth 20000 in
theorem e165_505 (C : pCl) (ls : pLs) (st : List Value) (L : pH) : p_Y 165 C 505 ls st L = o_iadd 506 C (p_Y 165 C) ls st L := hT165 rfl C ls st L
set_option maxRecDepth 20000 in
theorem e165_506 (C : pCl) (ls : pLs) (st : List Value) (L : pH) : p_Y 165 C 506 ls st L = o_iald 507 C (p_Y 165 C) ls st L := hT165 rfl C ls st L
set_option maxRecDepth 20000 in
theorem e165_507 (C : pCl) (ls : pLs) (st : List Value) (L : pH) : p_Y 165 C 507 ls st L = o_invV 4 61 1 510 C (p_Y 165 C) ls st L := hT165 rfl C ls st L
set_option maxRecDepth 20000 in
theorem e165_510 (C : pCl) (ls : pLs) (st : List Value) (L : pH) : p_Y 165 C 510 ls st L = o_aload 2 511 C (p_Y 165 C) ls st L := hT165 rfl C ls st L
set_option maxRecDepth 20000 in
theorem e165_511 (C : pCl) (ls : pLs) (st : List Value) (L : pH) : p_Y 165 C 511 ls st L = o_aload 0 512 C (p_Y 165 C) ls st L := hT165 rfl C ls st L
set_option maxRecDepth 20000 in
theorem e165_512 (C : pCl) (ls : pLs) (st : List Value) (L : pH) : p_Y 165 C 512 ls st L = o_iload 3 513 C (p_Y 165 C) ls st L := hT165 rfl C ls st L
set_option maxRecDepth 20000 in
theorem e165_513 (C : pCl) (ls : pLs) (st : List Value) (L : pH) : p_Y 165 C 513 ls st L = o_push (.int (nI 1)) 514 C (p_Y 165 C) ls st L := hT165 rfl C ls st L
set_option maxRecDepth 20000 in
theorem e165_514 (C : pCl) (ls : pLs) (st : List Value) (L : pH) : p_Y 165 C 514 ls st L = o_iadd 515 C (p_Y 165 C) ls st L := hT165 rfl C ls st L
set_option maxRecDepth 20000 in
theorem e165_515 (C : pCl) (ls : pLs) (st : List Value) (L : pH) : p_Y 165 C 515 ls st L = o_iald 516 C (p_Y 165 C) ls st L := hT165 rfl C ls st L
set_option maxRecDepth 20000 in
theorem e165_516 (C : pCl) (ls : pLs) (st : List Value) (L : pH) : p_Y 165 C 516 ls st L = o_invV 5 141 1 519 C (p_Y 165 C) ls st L := hT165 rfl C ls st L
set_option maxRecDepth 20000 in
theorem e165_519 (C : pCl) (ls : pLs) (st : List Value) (L : pH) : p_Y 165 C 519 ls st L = o_iceq 780 522 C (p_Y 165 C) ls st L := hT165 rfl C ls st L
set_option maxRecDepth 20000 in
theorem e165_522 (C : pCl) (ls : pLs) (st : List Value) (L : pH) : p_Y 165 C 522 ls st L = o_push (.int (nI 0)) 523 C (p_Y 165 C) ls st L := hT165 rfl C ls st L
set_option maxRecDepth 20000 in
theorem e165_523 (C : pCl) (ls : pLs) (st : List Value) (L : pH) : p_Y 165 C 523 ls st L = o_zret C (p_Y 165 C) ls st L := hT165 rfl C ls st L
set_option maxRecDepth 20000 in
theorem e165_524 (C : pCl) (ls : pLs) (st : List Value) (L : pH) : p_Y 165 C 524 ls st L = o_aload 1 525 C (p_Y 165 C) ls st L := hT165 rfl C ls st L
set_option maxRecDepth 20000 in
theorem e165_525 (C : pCl) (ls : pLs) (st : List Value) (L : pH) : p_Y 165 C 525 ls st L = o_aload 0 526 C (p_Y 165 C) ls st L := hT165 rfl C ls st L
set_option maxRecDepth 20000 in
theorem e165_526 (C : pCl) (ls : pLs) (st : List Value) (L : pH) : p_Y 165 C 526 ls st L = o_iload 3 527 C (p_Y 165 C) ls st L := hT165 rfl C ls st L
set_option maxRecDepth 20000 in
theorem e165_527 (C : pCl) (ls : pLs) (st : List Value) (L : pH) : p_Y 165 C 527 ls st L = o_push (.int (nI 1)) 528 C (p_Y 165 C) ls st L := hT165 rfl C ls st L
set_option maxRecDepth 20000 in
theorem e165_528 (C : pCl) (ls : pLs) (st : List Value) (L : pH) : p_Y 165 C 528 ls st L = o_iadd 529 C (p_Y 165 C) ls st L := hT165 rfl C ls st L
set_option maxRecDepth 20000 in
theorem e165_529 (C : pCl) (ls : pLs) (st : List Value) (L : pH) : p_Y 165 C 529 ls st L = o_iald 530 C (p_Y 165 C) ls st L := hT165 rfl C ls st L
set_option maxRecDepth 20000 in
theorem e165_530 (C : pCl) (ls : pLs) (st : List Value) (L : pH) : p_Y 165 C 530 ls st L = o_invV 4 62 1 533 C (p_Y 165 C) ls st L := hT165 rfl C ls st L
set_option maxRecDepth 20000 in
theorem e165_533 (C : pCl) (ls : pLs) (st : List Value) (L : pH) : p_Y 165 C 533 ls st L = o_aload 2 534 C (p_Y 165 C) ls st L := hT165 rfl C ls st L
set_option maxRecDepth 20000 in
theorem e165_534 (C : pCl) (ls : pLs) (st : List Value) (L : pH) : p_Y 165 C 534 ls st L = o_aload 0 535 C (p_Y 165 C) ls st L := hT165 rfl C ls st L
set_option maxRecDepth 20000 in
theorem e165_535 (C : pCl) (ls : pLs) (st : List Value) (L : pH) : p_Y 165 C 535 ls st L = o_iload 3 536 C (p_Y 165 C) ls st L := hT165 rfl C ls st L
set_option maxRecDepth 20000 in
theorem e165_536 (C : pCl) (ls : pLs) (st : List Value) (L : pH) : p_Y 165 C 536 ls st L = o_push (.int (nI 1)) 537 C (p_Y 165 C) ls st L := hT165 rfl C ls st L
set_option maxRecDepth 20000 in
theorem e165_537 (C : pCl) (ls : pLs) (st : List Value) (L : pH) : p_Y 165 C 537 ls st L = o_iadd 538 C (p_Y 165 C) ls st L := hT165 rfl C ls st L
set_option maxRecDepth 20000 in
theorem e165_538 (C : pCl) (ls : pLs) (st : List Value) (L : pH) : p_Y 165 C 538 ls st L = o_iald 539 C (p_Y 165 C) ls st L := hT165 rfl C ls st L
set_option maxRecDepth 20000 in
theorem e165_539 (C : pCl) (ls : pLs) (st : List Value) (L : pH) : p_Y 165 C 539 ls st L = o_invV 5 143 1 542 C (p_Y 165 C) ls st L := hT165 rfl C ls st L
set_option maxRecDepth 20000 in
theorem e165_542 (C : pCl) (ls : pLs) (st : List Value) (L : pH) : p_Y 165 C 542 ls st L = o_iceq 780 545 C (p_Y 165 C) ls st L := hT165 rfl C ls st L
set_option maxRecDepth 20000 in
theorem e165_545 (C : pCl) (ls : pLs) (st : List Value) (L : pH) : p_Y 165 C 545 ls st L = o_push (.int (nI 0)) 546 C (p_Y 165 C) ls st L := hT165 rfl C ls st L
set_option maxRecDepth 20000 in
theorem e165_546 (C : pCl) (ls : pLs) (st : List Value) (L : pH) : p_Y 165 C 546 ls st L = o_zret C (p_Y 165 C) ls st L := hT165 rfl C ls st L
set_option maxRecDepth 20000 in
theorem e165_547 (C : pCl) (ls : pLs) (st : List Value) (L : pH) : p_Y 165 C 547 ls st L = o_aload 1 548 C (p_Y 165 C) ls st L := hT165 rfl C ls st L
set_option maxRecDepth 20000 in
theorem e165_548 (C : pCl) (ls : pLs) (st : List Value) (L : pH) : p_Y 165 C 548 ls st L = o_aload 0 549 C (p_Y 165 C) ls st L := hT165 rfl C ls st L
set_option maxRecDepth 20000 in
theorem e165_549 (C : pCl) (ls : pLs) (st : List Value) (L : pH) : p_Y 165 C 549 ls st L = o_iload 3 550 C (p_Y 165 C) ls st L := hT165 rfl C ls st L
set_option maxRecDepth 20000 in
theorem e165_550 (C : pCl) (ls : pLs) (st : List Value) (L : pH) : p_Y 165 C 550 ls st L = o_push (.int (nI 1)) 551 C (p_Y 165 C) ls st L := hT165 rfl C ls st L
set_option maxRecDepth 20000 in
theorem e165_551 (C : pCl) (ls : pLs) (st : List Value) (L : pH) : p_Y 165 C 551 ls st L = o_iadd 552 C (p_Y 165 C) ls st L := hT165 rfl C ls st L
set_option maxRecDepth 20000 in
theorem e165_552 (C : pCl) (ls : pLs) (st : List Value) (L : pH) : p_Y 165 C 552 ls st L = o_iald 553 C (p_Y 165 C) ls st L := hT165 rfl C ls st L
set_option maxRecDepth 20000 in
theorem e165_553 (C : pCl) (ls : pLs) (st : List Value) (L : pH) : p_Y 165 C 553 ls st L = o_aload 0 554 C (p_Y 165 C) ls st L := hT165 rfl C ls st L
set_option maxRecDepth 20000 in
theorem e165_554 (C : pCl) (ls : pLs) (st : List Value) (L : pH) : p_Y 165 C 554 ls st L = o_iload 3 555 C (p_Y 165 C) ls st L := hT165 rfl C ls st L
set_option maxRecDepth 20000 in
theorem e165_555 (C : pCl) (ls : pLs) (st : List Value) (L : pH) : p_Y 165 C 555 ls st L = o_push (.int (nI 2)) 556 C (p_Y 165 C) ls st L := hT165 rfl C ls st L
set_option maxRecDepth 20000 in
theorem e165_556 (C : pCl) (ls : pLs) (st : List Value) (L : pH) : p_Y 165 C 556 ls st L = o_iadd 557 C (p_Y 165 C) ls st L := hT165 rfl C ls st L
set_option maxRecDepth 20000 in
theorem e165_557 (C : pCl) (ls : pLs) (st : List Value) (L : pH) : p_Y 165 C 557 ls st L = o_iald 558 C (p_Y 165 C) ls st L := hT165 rfl C ls st L
set_option maxRecDepth 20000 in
theorem e165_558 (C : pCl) (ls : pLs) (st : List Value) (L : pH) : p_Y 165 C 558 ls st L = o_invV 4 63 2 561 C (p_Y 165 C) ls st L := hT165 rfl C ls st L
set_option maxRecDepth 20000 in
theorem e165_561 (C : pCl) (ls : pLs) (st : List Value) (L : pH) : p_Y 165 C 561 ls st L = o_aload 2 562 C (p_Y 165 C) ls st L := hT165 rfl C ls st L
set_option maxRecDepth 20000 in
theorem e165_562 (C : pCl) (ls : pLs) (st : List Value) (L : pH) : p_Y 165 C 562 ls st L = o_aload 0 563 C (p_Y 165 C) ls st L := hT165 rfl C ls st L
set_option maxRecDepth 20000 in
theorem e165_563 (C : pCl) (ls : pLs) (st : List Value) (L : pH) : p_Y 165 C 563 ls st L = o_iload 3 564 C (p_Y 165 C) ls st L := hT165 rfl C ls st L
set_option maxRecDepth 20000 in
theorem e165_564 (C : pCl) (ls : pLs) (st : List Value) (L : pH) : p_Y 165 C 564 ls st L = o_push (.int (nI 1)) 565 C (p_Y 165 C) ls st L := hT165 rfl C ls st L
set_option maxRecDepth 20000 in
theorem e165_565 (C : pCl) (ls : pLs) (st : List Value) (L : pH) : p_Y 165 C 565 ls st L = o_iadd 566 C (p_Y 165 C) ls st L := hT165 rfl C ls st L
set_option maxRecDepth 20000 in
theorem e165_566 (C : pCl) (ls : pLs) (st : List Value) (L : pH) : p_Y 165 C 566 ls st L = o_iald 567 C (p_Y 165 C) ls st L := hT165 rfl C ls st L
set_option maxRecDepth 20000 in
theorem e165_567 (C : pCl) (ls : pLs) (st : List Value) (L : pH) : p_Y 165 C 567 ls st L = o_aload 0 568 C (p_Y 165 C) ls st L := hT165 rfl C ls st L
set_option maxRecDepth 20000 in
theorem e165_568 (C : pCl) (ls : pLs) (st : List Value) (L : pH) : p_Y 165 C 568 ls st L = o_iload 3 569 C (p_Y 165 C) ls st L := hT165 rfl C ls st L
set_option maxRecDepth 20000 in
theorem e165_569 (C : pCl) (ls : pLs) (st : List Value) (L : pH) : p_Y 165 C 569 ls st L = o_push (.int (nI 2)) 570 C (p_Y 165 C) ls st L := hT165 rfl C ls st L
set_option maxRecDepth 20000 in
theorem e165_570 (C : pCl) (ls : pLs) (st : List Value) (L : pH) : p_Y 165 C 570 ls st L = o_iadd 571 C (p_Y 165 C) ls st L := hT165 rfl C ls st L
set_option maxRecDepth 20000 in
theorem e165_571 (C : pCl) (ls : pLs) (st : List Value) (L : pH) : p_Y 165 C 571 ls st L = o_iald 572 C (p_Y 165 C) ls st L := hT165 rfl C ls st L
set_option maxRecDepth 20000 in
theorem e165_572 (C : pCl) (ls : pLs) (st : List Value) (L : pH) : p_Y 165 C 572 ls st L = o_invV 5 144 2 575 C (p_Y 165 C) ls st L := hT165 rfl C ls st L
set_option maxRecDepth 20000 in
theorem e165_575 (C : pCl) (ls : pLs) (st : List Value) (L : pH) : p_Y 165 C 575 ls st L = o_iceq 780 578 C (p_Y 165 C) ls st L := hT165 rfl C ls st L
set_option maxRecDepth 20000 in
theorem e165_578 (C : pCl) (ls : pLs) (st : List Value) (L : pH) : p_Y 165 C 578 ls st L = o_push (.int (nI 0)) 579 C (p_Y 165 C) ls st L := hT165 rfl C ls st L
set_option maxRecDepth 20000 in
theorem e165_579 (C : pCl) (ls : pLs) (st : List Value) (L : pH) : p_Y 165 C 579 ls st L = o_zret C (p_Y 165 C) ls st L := hT165 rfl C ls st L
set_option maxRecDepth 20000 in
theorem e165_580 (C : pCl) (ls : pLs) (st : List Value) (L : pH) : p_Y 165 C 580 ls st L = o_aload 1 581 C (p_Y 165 C) ls st L := hT165 rfl C ls st L
set_option maxRecDepth 20000 in
theorem e165_581 (C : pCl) (ls : pLs) (st : List Value) (L : pH) : p_Y 165 C 581 ls st L = o_invV 4 64 0 584 C (p_Y 165 C) ls st L := hT165 rfl C ls st L
set_option maxRecDepth 20000 in
theorem e165_584 (C : pCl) (ls : pLs) (st : List Value) (L : pH) : p_Y 165 C 584 ls st L = o_aload 2 585 C (p_Y 165 C) ls st L := hT165 rfl C ls st L
set_option maxRecDepth 20000 in
theorem e165_585 (C : pCl) (ls : pLs) (st : List Value) (L : pH) : p_Y 165 C 585 ls st L = o_invV 5 145 0 588 C (p_Y 165 C) ls st L := hT165 rfl C ls st L
set_option maxRecDepth 20000 in
theorem e165_588 (C : pCl) (ls : pLs) (st : List Value) (L : pH) : p_Y 165 C 588 ls st L = o_iceq 780 591 C (p_Y 165 C) ls st L := hT165 rfl C ls st L
set_option maxRecDepth 20000 in
theorem e165_591 (C : pCl) (ls : pLs) (st : List Value) (L : pH) : p_Y 165 C 591 ls st L = o_push (.int (nI 0)) 592 C (p_Y 165 C) ls st L := hT165 rfl C ls st L
set_option maxRecDepth 20000 in
theorem e165_592 (C : pCl) (ls : pLs) (st : List Value) (L : pH) : p_Y 165 C 592 ls st L = o_zret C (p_Y 165 C) ls st L := hT165 rfl C ls st L
set_option maxRecDepth 20000 in
theorem e165_593 (C : pCl) (ls : pLs) (st : List Value) (L : pH) : p_Y 165 C 593 ls st L = o_aload 1 594 C (p_Y 165 C) ls st L := hT165 rfl C ls st L
set_option maxRecDepth 20000 in
theorem e165_594 (C : pCl) (ls : pLs) (st : List Value) (L : pH) : p_Y 165 C 594 ls st L = o_aload 0 595 C (p_Y 165 C) ls st L := hT165 rfl C ls st L
set_option maxRecDepth 20000 in
theorem e165_595 (C : pCl) (ls : pLs) (st : List Value) (L : pH) : p_Y 165 C 595 ls st L = o_iload 3 596 C (p_Y 165 C) ls st L := hT165 rfl C ls st L
set_option maxRecDepth 20000 in
theorem e165_596 (C : pCl) (ls : pLs) (st : List Value) (L : pH) : p_Y 165 C 596 ls st L = o_push (.int (nI 1)) 597 C (p_Y 165 C) ls st L := hT165 rfl C ls st L
set_option maxRecDepth 20000 in
theorem e165_597 (C : pCl) (ls : pLs) (st : List Value) (L : pH) : p_Y 165 C 597 ls st L = o_iadd 598 C (p_Y 165 C) ls st L := hT165 rfl C ls st L
set_option maxRecDepth 20000 in
theorem e165_598 (C : pCl) (ls : pLs) (st : List Value) (L : pH) : p_Y 165 C 598 ls st L = o_iald 599 C (p_Y 165 C) ls st L := hT165 rfl C ls st L
set_option maxRecDepth 20000 in
theorem e165_599 (C : pCl) (ls : pLs) (st : List Value) (L : pH) : p_Y 165 C 599 ls st L = o_invV 4 65 1 602 C (p_Y 165 C) ls st L := hT165 rfl C ls st L
set_option maxRecDepth 20000 in
theorem e165_602 (C : pCl) (ls : pLs) (st : List Value) (L : pH) : p_Y 165 C 602 ls st L = o_aload 2 603 C (p_Y 165 C) ls st L := hT165 rfl C ls st L
set_option maxRecDepth 20000 in
theorem e165_603 (C : pCl) (ls : pLs) (st : List Value) (L : pH) : p_Y 165 C 603 ls st L = o_aload 0 604 C (p_Y 165 C) ls st L := hT165 rfl C ls st L
set_option maxRecDepth 20000 in
theorem e165_604 (C : pCl) (ls : pLs) (st : List Value) (L : pH) : p_Y 165 C 604 ls st L = o_iload 3 605 C (p_Y 165 C) ls st L := hT165 rfl C ls st L
set_option maxRecDepth 20000 in
theorem e165_605 (C : pCl) (ls : pLs) (st : List Value) (L : pH) : p_Y 165 C 605 ls st L = o_push (.int (nI 1)) 606 C (p_Y 165 C) ls st L := hT165 rfl C ls st L
set_option maxRecDepth 20000 in
theorem e165_606 (C : pCl) (ls : pLs) (st : List Value) (L : pH) : p_Y 165 C 606 ls st L = o_iadd 607 C (p_Y 165 C) ls st L := hT165 rfl C ls st L
set_option maxRecDepth 20000 in
theorem e165_607 (C : pCl) (ls : pLs) (st : List Value) (L : pH) : p_Y 165 C 607 ls st L = o_iald 608 C (p_Y 165 C) ls st L := hT165 rfl C ls st L
set_option maxRecDepth 20000 in
theorem e165_608 (C : pCl) (ls : pLs) (st : List Value) (L : pH) : p_Y 165 C 608 ls st L = o_invV 5 146 1 611 C (p_Y 165 C) ls st L := hT165 rfl C ls st L
set_option maxRecDepth 20000 in
theorem e165_611 (C : pCl) (ls : pLs) (st : List Value) (L : pH) : p_Y 165 C 611 ls st L = o_iceq 780 614 C (p_Y 165 C) ls st L := hT165 rfl C ls st L
set_option maxRecDepth 20000 in
theorem e165_614 (C : pCl) (ls : pLs) (st : List Value) (L : pH) : p_Y 165 C 614 ls st L = o_push (.int (nI 0)) 615 C (p_Y 165 C) ls st L := hT165 rfl C ls st L
set_option maxRecDepth 20000 in
theorem e165_615 (C : pCl) (ls : pLs) (st : List Value) (L : pH) : p_Y 165 C 615 ls st L = o_zret C (p_Y 165 C) ls st L := hT165 rfl C ls st L
set_option maxRecDepth 20000 in
theorem e165_616 (C : pCl) (ls : pLs) (st : List Value) (L : pH) : p_Y 165 C 616 ls st L = o_aload 1 617 C (p_Y 165 C) ls st L := hT165 rfl C ls st L
set_option maxRecDepth 20000 in
theorem e165_617 (C : pCl) (ls : pLs) (st : List Value) (L : pH) : p_Y 165 C 617 ls st L = o_invV 4 66 0 620 C (p_Y 165 C) ls st L := hT165 rfl C ls st L
set_option maxRecDepth 20000 in
theorem e165_620 (C : pCl) (ls : pLs) (st : List Value) (L : pH) : p_Y 165 C 620 ls st L = o_aload 2 621 C (p_Y 165 C) ls st L := hT165 rfl C ls st L
set_option maxRecDepth 20000 in
theorem e165_621 (C : pCl) (ls : pLs) (st : List Value) (L : pH) : p_Y 165 C 621 ls st L = o_invV 5 149 0 624 C (p_Y 165 C) ls st L := hT165 rfl C ls st L
set_option maxRecDepth 20000 in
theorem e165_624 (C : pCl) (ls : pLs) (st : List Value) (L : pH) : p_Y 165 C 624 ls st L = o_iceq 780 627 C (p_Y 165 C) ls st L := hT165 rfl C ls st L
set_option maxRecDepth 20000 in
theorem e165_627 (C : pCl) (ls : pLs) (st : List Value) (L : pH) : p_Y 165 C 627 ls st L = o_push (.int (nI 0)) 628 C (p_Y 165 C) ls st L := hT165 rfl C ls st L
set_option maxRecDepth 20000 in
theorem e165_628 (C : pCl) (ls : pLs) (st : List Value) (L : pH) : p_Y 165 C 628 ls st L = o_zret C (p_Y 165 C) ls st L := hT165 rfl C ls st L
set_option maxRecDepth 20000 in
theorem e165_629 (C : pCl) (ls : pLs) (st : List Value) (L : pH) : p_Y 165 C 629 ls st L = o_aload 1 630 C (p_Y 165 C) ls st L := hT165 rfl C ls st L
set_option maxRecDepth 20000 in
theorem e165_630 (C : pCl) (ls : pLs) (st : List Value) (L : pH) : p_Y 165 C 630 ls st L = o_aload 0 631 C (p_Y 165 C) ls st L := hT165 rfl C ls st L
set_option maxRecDepth 20000 in
theorem e165_631 (C : pCl) (ls : pLs) (st : List Value) (L : pH) : p_Y 165 C 631 ls st L = o_iload 3 632 C (p_Y 165 C) ls st L := hT165 rfl C ls st L
set_option maxRecDepth 20000 in
theorem e165_632 (C : pCl) (ls : pLs) (st : List Value) (L : pH) : p_Y 165 C 632 ls st L = o_push (.int (nI 1)) 633 C (p_Y 165 C) ls st L := hT165 rfl C ls st L
set_option maxRecDepth 20000 in
theorem e165_633 (C : pCl) (ls : pLs) (st : List Value) (L : pH) : p_Y 165 C 633 ls st L = o_iadd 634 C (p_Y 165 C) ls st L := hT165 rfl C ls st L
set_option maxRecDepth 20000 in
theorem e165_634 (C : pCl) (ls : pLs) (st : List Value) (L : pH) : p_Y 165 C 634 ls st L = o_iald 635 C (p_Y 165 C) ls st L := hT165 rfl C ls st L
set_option maxRecDepth 20000 in
theorem e165_635 (C : pCl) (ls : pLs) (st : List Value) (L : pH) : p_Y 165 C 635 ls st L = o_i2l 636 C (p_Y 165 C) ls st L := hT165 rfl C ls st L
set_option maxRecDepth 20000 in
theorem e165_636 (C : pCl) (ls : pLs) (st : List Value) (L : pH) : p_Y 165 C 636 ls st L = o_push (.int (nI 32)) 638 C (p_Y 165 C) ls st L := hT165 rfl C ls st L
set_option maxRecDepth 20000 in
theorem e165_638 (C : pCl) (ls : pLs) (st : List Value) (L : pH) : p_Y 165 C 638 ls st L = o_lshl 639 C (p_Y 165 C) ls st L := hT165 rfl C ls st L
set_option maxRecDepth 20000 in
theorem e165_639 (C : pCl) (ls : pLs) (st : List Value) (L : pH) : p_Y 165 C 639 ls st L = o_aload 0 640 C (p_Y 165 C) ls st L := hT165 rfl C ls st L
set_option maxRecDepth 20000 in
theorem e165_640 (C : pCl) (ls : pLs) (st : List Value) (L : pH) : p_Y 165 C 640 ls st L = o_iload 3 641 C (p_Y 165 C) ls st L := hT165 rfl C ls st L
set_option maxRecDepth 20000 in
theorem e165_641 (C : pCl) (ls : pLs) (st : List Value) (L : pH) : p_Y 165 C 641 ls st L = o_push (.int (nI 2)) 642 C (p_Y 165 C) ls st L := hT165 rfl C ls st L
set_option maxRecDepth 20000 in
theorem e165_642 (C : pCl) (ls : pLs) (st : List Value) (L : pH) : p_Y 165 C 642 ls st L = o_iadd 643 C (p_Y 165 C) ls st L := hT165 rfl C ls st L
set_option maxRecDepth 20000 in
theorem e165_643 (C : pCl) (ls : pLs) (st : List Value) (L : pH) : p_Y 165 C 643 ls st L = o_iald 644 C (p_Y 165 C) ls st L := hT165 rfl C ls st L
set_option maxRecDepth 20000 in
theorem e165_644 (C : pCl) (ls : pLs) (st : List Value) (L : pH) : p_Y 165 C 644 ls st L = o_i2l 645 C (p_Y 165 C) ls st L := hT165 rfl C ls st L
set_option maxRecDepth 20000 in
theorem e165_645 (C : pCl) (ls : pLs) (st : List Value) (L : pH) : p_Y 165 C 645 ls st L = o_push (.long (4294967295 : Int64)) 648 C (p_Y 165 C) ls st L := hT165 rfl C ls st L
set_option maxRecDepth 20000 in
theorem e165_648 (C : pCl) (ls : pLs) (st : List Value) (L : pH) : p_Y 165 C 648 ls st L = o_land 649 C (p_Y 165 C) ls st L := hT165 rfl C ls st L
set_option maxRecDepth 20000 in
theorem e165_649 (C : pCl) (ls : pLs) (st : List Value) (L : pH) : p_Y 165 C 649 ls st L = o_lor 650 C (p_Y 165 C) ls st L := hT165 rfl C ls st L
set_option maxRecDepth 20000 in
theorem e165_650 (C : pCl) (ls : pLs) (st : List Value) (L : pH) : p_Y 165 C 650 ls st L = o_invV 4 67 1 653 C (p_Y 165 C) ls st L := hT165 rfl C ls st L
set_option maxRecDepth 20000 in
theorem e165_653 (C : pCl) (ls : pLs) (st : List Value) (L : pH) : p_Y 165 C 653 ls st L = o_aload 2 654 C (p_Y 165 C) ls st L := hT165 rfl C ls st L
set_option maxRecDepth 20000 in
theorem e165_654 (C : pCl) (ls : pLs) (st : List Value) (L : pH) : p_Y 165 C 654 ls st L = o_aload 0 655 C (p_Y 165 C) ls st L := hT165 rfl C ls st L
set_option maxRecDepth 20000 in
theorem e165_655 (C : pCl) (ls : pLs) (st : List Value) (L : pH) : p_Y 165 C 655 ls st L = o_iload 3 656 C (p_Y 165 C) ls st L := hT165 rfl C ls st L
set_option maxRecDepth 20000 in
theorem e165_656 (C : pCl) (ls : pLs) (st : List Value) (L : pH) : p_Y 165 C 656 ls st L = o_push (.int (nI 1)) 657 C (p_Y 165 C) ls st L := hT165 rfl C ls st L
set_option maxRecDepth 20000 in
theorem e165_657 (C : pCl) (ls : pLs) (st : List Value) (L : pH) : p_Y 165 C 657 ls st L = o_iadd 658 C (p_Y 165 C) ls st L := hT165 rfl C ls st L
set_option maxRecDepth 20000 in
theorem e165_658 (C : pCl) (ls : pLs) (st : List Value) (L : pH) : p_Y 165 C 658 ls st L = o_iald 659 C (p_Y 165 C) ls st L := hT165 rfl C ls st L
set_option maxRecDepth 20000 in
theorem e165_659 (C : pCl) (ls : pLs) (st : List Value) (L : pH) : p_Y 165 C 659 ls st L = o_i2l 660 C (p_Y 165 C) ls st L := hT165 rfl C ls st L
set_option maxRecDepth 20000 in
theorem e165_660 (C : pCl) (ls : pLs) (st : List Value) (L : pH) : p_Y 165 C 660 ls st L = o_push (.int (nI 32)) 662 C (p_Y 165 C) ls st L := hT165 rfl C ls st L
set_option maxRecDepth 20000 in
theorem e165_662 (C : pCl) (ls : pLs) (st : List Value) (L : pH) : p_Y 165 C 662 ls st L = o_lshl 663 C (p_Y 165 C) ls st L := hT165 rfl C ls st L
set_option maxRecDepth 20000 in
theorem e165_663 (C : pCl) (ls : pLs) (st : List Value) (L : pH) : p_Y 165 C 663 ls st L = o_aload 0 664 C (p_Y 165 C) ls st L := hT165 rfl C ls st L
set_option maxRecDepth 20000 in
theorem e165_664 (C : pCl) (ls : pLs) (st : List Value) (L : pH) : p_Y 165 C 664 ls st L = o_iload 3 665 C (p_Y 165 C) ls st L := hT165 rfl C ls st L
set_option maxRecDepth 20000 in
theorem e165_665 (C : pCl) (ls : pLs) (st : List Value) (L : pH) : p_Y 165 C 665 ls st L = o_push (.int (nI 2)) 666 C (p_Y 165 C) ls st L := hT165 rfl C ls st L
set_option maxRecDepth 20000 in
theorem e165_666 (C : pCl) (ls : pLs) (st : List Value) (L : pH) : p_Y 165 C 666 ls st L = o_iadd 667 C (p_Y 165 C) ls st L := hT165 rfl C ls st L
set_option maxRecDepth 20000 in
theorem e165_667 (C : pCl) (ls : pLs) (st : List Value) (L : pH) : p_Y 165 C 667 ls st L = o_iald 668 C (p_Y 165 C) ls st L := hT165 rfl C ls st L
set_option maxRecDepth 20000 in
theorem e165_668 (C : pCl) (ls : pLs) (st : List Value) (L : pH) : p_Y 165 C 668 ls st L = o_i2l 669 C (p_Y 165 C) ls st L := hT165 rfl C ls st L
set_option maxRecDepth 20000 in
theorem e165_669 (C : pCl) (ls : pLs) (st : List Value) (L : pH) : p_Y 165 C 669 ls st L = o_push (.long (4294967295 : Int64)) 672 C (p_Y 165 C) ls st L := hT165 rfl C ls st L
set_option maxRecDepth 20000 in
theorem e165_672 (C : pCl) (ls : pLs) (st : List Value) (L : pH) : p_Y 165 C 672 ls st L = o_land 673 C (p_Y 165 C) ls st L := hT165 rfl C ls st L
set_option maxRecDepth 20000 in
theorem e165_673 (C : pCl) (ls : pLs) (st : List Value) (L : pH) : p_Y 165 C 673 ls st L = o_lor 674 C (p_Y 165 C) ls st L := hT165 rfl C ls st L
set_option maxRecDepth 20000 in
theorem e165_674 (C : pCl) (ls : pLs) (st : List Value) (L : pH) : p_Y 165 C 674 ls st L = o_invV 5 150 1 677 C (p_Y 165 C) ls st L := hT165 rfl C ls st L
set_option maxRecDepth 20000 in
theorem e165_677 (C : pCl) (ls : pLs) (st : List Value) (L : pH) : p_Y 165 C 677 ls st L = o_iceq 780 680 C (p_Y 165 C) ls st L := hT165 rfl C ls st L
set_option maxRecDepth 20000 in
theorem e165_680 (C : pCl) (ls : pLs) (st : List Value) (L : pH) : p_Y 165 C 680 ls st L = o_push (.int (nI 0)) 681 C (p_Y 165 C) ls st L := hT165 rfl C ls st L
set_option maxRecDepth 20000 in
theorem e165_681 (C : pCl) (ls : pLs) (st : List Value) (L : pH) : p_Y 165 C 681 ls st L = o_zret C (p_Y 165 C) ls st L := hT165 rfl C ls st L
set_option maxRecDepth 20000 in
theorem e165_682 (C : pCl) (ls : pLs) (st : List Value) (L : pH) : p_Y 165 C 682 ls st L = o_aload 1 683 C (p_Y 165 C) ls st L := hT165 rfl C ls st L
set_option maxRecDepth 20000 in
theorem e165_683 (C : pCl) (ls : pLs) (st : List Value) (L : pH) : p_Y 165 C 683 ls st L = o_invV 4 68 0 686 C (p_Y 165 C) ls st L := hT165 rfl C ls st L
set_option maxRecDepth 20000 in
theorem e165_686 (C : pCl) (ls : pLs) (st : List Value) (L : pH) : p_Y 165 C 686 ls st L = o_aload 2 687 C (p_Y 165 C) ls st L := hT165 rfl C ls st L
set_option maxRecDepth 20000 in
theorem e165_687 (C : pCl) (ls : pLs) (st : List Value) (L : pH) : p_Y 165 C 687 ls st L = o_invV 5 151 0 690 C (p_Y 165 C) ls st L := hT165 rfl C ls st L
set_option maxRecDepth 20000 in
theorem e165_690 (C : pCl) (ls : pLs) (st : List Value) (L : pH) : p_Y 165 C 690 ls st L = o_iceq 780 693 C (p_Y 165 C) ls st L := hT165 rfl C ls st L
set_option maxRecDepth 20000 in
theorem e165_693 (C : pCl) (ls : pLs) (st : List Value) (L : pH) : p_Y 165 C 693 ls st L = o_push (.int (nI 0)) 694 C (p_Y 165 C) ls st L := hT165 rfl C ls st L
set_option maxRecDepth 20000 in
theorem e165_694 (C : pCl) (ls : pLs) (st : List Value) (L : pH) : p_Y 165 C 694 ls st L = o_zret C (p_Y 165 C) ls st L := hT165 rfl C ls st L
set_option maxRecDepth 20000 in
theorem e165_695 (C : pCl) (ls : pLs) (st : List Value) (L : pH) : p_Y 165 C 695 ls st L = o_aload 1 696 C (p_Y 165 C) ls st L := hT165 rfl C ls st L
set_option maxRecDepth 20000 in
theorem e165_696 (C : pCl) (ls : pLs) (st : List Value) (L : pH) : p_Y 165 C 696 ls st L = o_invV 4 69 0 699 C (p_Y 165 C) ls st L := hT165 rfl C ls st L
set_option maxRecDepth 20000 in
theorem e165_699 (C : pCl) (ls : pLs) (st : List Value) (L : pH) : p_Y 165 C 699 ls st L = o_aload 2 700 C (p_Y 165 C) ls st L := hT165 rfl C ls st L
set_option maxRecDepth 20000 in
theorem e165_700 (C : pCl) (ls : pLs) (st : List Value) (L : pH) : p_Y 165 C 700 ls st L = o_invV 5 157 0 703 C (p_Y 165 C) ls st L := hT165 rfl C ls st L
set_option maxRecDepth 20000 in
theorem e165_703 (C : pCl) (ls : pLs) (st : List Value) (L : pH) : p_Y 165 C 703 ls st L = o_iceq 780 706 C (p_Y 165 C) ls st L := hT165 rfl C ls st L
set_option maxRecDepth 20000 in
theorem e165_706 (C : pCl) (ls : pLs) (st : List Value) (L : pH) : p_Y 165 C 706 ls st L = o_push (.int (nI 0)) 707 C (p_Y 165 C) ls st L := hT165 rfl C ls st L
set_option maxRecDepth 20000 in
theorem e165_707 (C : pCl) (ls : pLs) (st : List Value) (L : pH) : p_Y 165 C 707 ls st L = o_zret C (p_Y 165 C) ls st L := hT165 rfl C ls st L
set_option maxRecDepth 20000 in
theorem e165_708 (C : pCl) (ls : pLs) (st : List Value) (L : pH) : p_Y 165 C 708 ls st L = o_aload 1 709 C (p_Y 165 C) ls st L := hT165 rfl C ls st L
set_option maxRecDepth 20000 in
theorem e165_709 (C : pCl) (ls : pLs) (st : List Value) (L : pH) : p_Y 165 C 709 ls st L = o_invV 4 70 0 712 C (p_Y 165 C) ls st L := hT165 rfl C ls st L
set_option maxRecDepth 20000 in
theorem e165_712 (C : pCl) (ls : pLs) (st : List Value) (L : pH) : p_Y 165 C 712 ls st L = o_aload 2 713 C (p_Y 165 C) ls st L := hT165 rfl C ls st L
set_option maxRecDepth 20000 in
theorem e165_713 (C : pCl) (ls : pLs) (st : List Value) (L : pH) : p_Y 165 C 713 ls st L = o_invV 5 160 0 716 C (p_Y 165 C) ls st L := hT165 rfl C ls st L
set_option maxRecDepth 20000 in
theorem e165_716 (C : pCl) (ls : pLs) (st : List Value) (L : pH) : p_Y 165 C 716 ls st L = o_iceq 780 719 C (p_Y 165 C) ls st L := hT165 rfl C ls st L
set_option maxRecDepth 20000 in
theorem e165_719 (C : pCl) (ls : pLs) (st : List Value) (L : pH) : p_Y 165 C 719 ls st L = o_push (.int (nI 0)) 720 C (p_Y 165 C) ls st L := hT165 rfl C ls st L
set_option maxRecDepth 20000 in
theorem e165_720 (C : pCl) (ls : pLs) (st : List Value) (L : pH) : p_Y 165 C 720 ls st L = o_zret C (p_Y 165 C) ls st L := hT165 rfl C ls st L
set_option maxRecDepth 20000 in
theorem e165_721 (C : pCl) (ls : pLs) (st : List Value) (L : pH) : p_Y 165 C 721 ls st L = o_aload 1 722 C (p_Y 165 C) ls st L := hT165 rfl C ls st L
set_option maxRecDepth 20000 in
theorem e165_722 (C : pCl) (ls : pLs) (st : List Value) (L : pH) : p_Y 165 C 722 ls st L = o_invV 4 71 0 725 C (p_Y 165 C) ls st L := hT165 rfl C ls st L
set_option maxRecDepth 20000 in
theorem e165_725 (C : pCl) (ls : pLs) (st : List Value) (L : pH) : p_Y 165 C 725 ls st L = o_aload 2 726 C (p_Y 165 C) ls st L := hT165 rfl C ls st L
set_option maxRecDepth 20000 in
theorem e165_726 (C : pCl) (ls : pLs) (st : List Value) (L : pH) : p_Y 165 C 726 ls st L = o_invV 5 161 0 729 C (p_Y 165 C) ls st L := hT165 rfl C ls st L
set_option maxRecDepth 20000 in
theorem e165_729 (C : pCl) (ls : pLs) (st : List Value) (L : pH) : p_Y 165 C 729 ls st L = o_iceq 780 732 C (p_Y 165 C) ls st L := hT165 rfl C ls st L
set_option maxRecDepth 20000 in
theorem e165_732 (C : pCl) (ls : pLs) (st : List Value) (L : pH) : p_Y 165 C 732 ls st L = o_push (.int (nI 0)) 733 C (p_Y 165 C) ls st L := hT165 rfl C ls st L
set_option maxRecDepth 20000 in
theorem e165_733 (C : pCl) (ls : pLs) (st : List Value) (L : pH) : p_Y 165 C 733 ls st L = o_zret C (p_Y 165 C) ls st L := hT165 rfl C ls st L
set_option maxRecDepth 20000 in
theorem e165_734 (C : pCl) (ls : pLs) (st : List Value) (L : pH) : p_Y 165 C 734 ls st L = o_aload 1 735 C (p_Y 165 C) ls st L := hT165 rfl C ls st L
set_option maxRecDepth 20000 in
theorem e165_735 (C : pCl) (ls : pLs) (st : List Value) (L : pH) : p_Y 165 C 735 ls st L = o_aload 0 736 C (p_Y 165 C) ls st L := hT165 rfl C ls st L
set_option maxRecDepth 20000 in
theorem e165_736 (C : pCl) (ls : pLs) (st : List Value) (L : pH) : p_Y 165 C 736 ls st L = o_iload 3 737 C (p_Y 165 C) ls st L := hT165 rfl C ls st L
set_option maxRecDepth 20000 in
theorem e165_737 (C : pCl) (ls : pLs) (st : List Value) (L : pH) : p_Y 165 C 737 ls st L = o_push (.int (nI 1)) 738 C (p_Y 165 C) ls st L := hT165 rfl C ls st L
set_option maxRecDepth 20000 in
theorem e165_738 (C : pCl) (ls : pLs) (st : List Value) (L : pH) : p_Y 165 C 738 ls st L = o_iadd 739 C (p_Y 165 C) ls st L := hT165 rfl C ls st L
set_option maxRecDepth 20000 in
theorem e165_739 (C : pCl) (ls : pLs) (st : List Value) (L : pH) : p_Y 165 C 739 ls st L = o_iald 740 C (p_Y 165 C) ls st L := hT165 rfl C ls st L
set_option maxRecDepth 20000 in
theorem e165_740 (C : pCl) (ls : pLs) (st : List Value) (L : pH) : p_Y 165 C 740 ls st L = o_invV 4 72 1 743 C (p_Y 165 C) ls st L := hT165 rfl C ls st L
set_option maxRecDepth 20000 in
theorem e165_743 (C : pCl) (ls : pLs) (st : List Value) (L : pH) : p_Y 165 C 743 ls st L = o_aload 2 744 C (p_Y 165 C) ls st L := hT165 rfl C ls st L
set_option maxRecDepth 20000 in
theorem e165_744 (C : pCl) (ls : pLs) (st : List Value) (L : pH) : p_Y 165 C 744 ls st L = o_aload 0 745 C (p_Y 165 C) ls st L := hT165 rfl C ls st L
set_option maxRecDepth 20000 in
theorem e165_745 (C : pCl) (ls : pLs) (st : List Value) (L : pH) : p_Y 165 C 745 ls st L = o_iload 3 746 C (p_Y 165 C) ls st L := hT165 rfl C ls st L
set_option maxRecDepth 20000 in
theorem e165_746 (C : pCl) (ls : pLs) (st : List Value) (L : pH) : p_Y 165 C 746 ls st L = o_push (.int (nI 1)) 747 C (p_Y 165 C) ls st L := hT165 rfl C ls st L
set_option maxRecDepth 20000 in
theorem e165_747 (C : pCl) (ls : pLs) (st : List Value) (L : pH) : p_Y 165 C 747 ls st L = o_iadd 748 C (p_Y 165 C) ls st L := hT165 rfl C ls st L
set_option maxRecDepth 20000 in
theorem e165_748 (C : pCl) (ls : pLs) (st : List Value) (L : pH) : p_Y 165 C 748 ls st L = o_iald 749 C (p_Y 165 C) ls st L := hT165 rfl C ls st L
set_option maxRecDepth 20000 in
theorem e165_749 (C : pCl) (ls : pLs) (st : List Value) (L : pH) : p_Y 165 C 749 ls st L = o_invV 5 162 1 752 C (p_Y 165 C) ls st L := hT165 rfl C ls st L
set_option maxRecDepth 20000 in
theorem e165_752 (C : pCl) (ls : pLs) (st : List Value) (L : pH) : p_Y 165 C 752 ls st L = o_iceq 780 755 C (p_Y 165 C) ls st L := hT165 rfl C ls st L
set_option maxRecDepth 20000 in
theorem e165_755 (C : pCl) (ls : pLs) (st : List Value) (L : pH) : p_Y 165 C 755 ls st L = o_push (.int (nI 0)) 756 C (p_Y 165 C) ls st L := hT165 rfl C ls st L
set_option maxRecDepth 20000 in
theorem e165_756 (C : pCl) (ls : pLs) (st : List Value) (L : pH) : p_Y 165 C 756 ls st L = o_zret C (p_Y 165 C) ls st L := hT165 rfl C ls st L
set_option maxRecDepth 20000 in
theorem e165_757 (C : pCl) (ls : pLs) (st : List Value) (L : pH) : p_Y 165 C 757 ls st L = o_aload 1 758 C (p_Y 165 C) ls st L := hT165 rfl C ls st L
set_option maxRecDepth 20000 in
theorem e165_758 (C : pCl) (ls : pLs) (st : List Value) (L : pH) : p_Y 165 C 758 ls st L = o_aload 0 759 C (p_Y 165 C) ls st L := hT165 rfl C ls st L
set_option maxRecDepth 20000 in
theorem e165_759 (C : pCl) (ls : pLs) (st : List Value) (L : pH) : p_Y 165 C 759 ls st L = o_iload 3 760 C (p_Y 165 C) ls st L := hT165 rfl C ls st L
set_option maxRecDepth 20000 in
theorem e165_760 (C : pCl) (ls : pLs) (st : List Value) (L : pH) : p_Y 165 C 760 ls st L = o_push (.int (nI 1)) 761 C (p_Y 165 C) ls st L := hT165 rfl C ls st L
set_option maxRecDepth 20000 in
theorem e165_761 (C : pCl) (ls : pLs) (st : List Value) (L : pH) : p_Y 165 C 761 ls st L = o_iadd 762 C (p_Y 165 C) ls st L := hT165 rfl C ls st L
set_option maxRecDepth 20000 in
theorem e165_762 (C : pCl) (ls : pLs) (st : List Value) (L : pH) : p_Y 165 C 762 ls st L = o_iald 763 C (p_Y 165 C) ls st L := hT165 rfl C ls st L
set_option maxRecDepth 20000 in
theorem e165_763 (C : pCl) (ls : pLs) (st : List Value) (L : pH) : p_Y 165 C 763 ls st L = o_invV 4 73 1 766 C (p_Y 165 C) ls st L := hT165 rfl C ls st L
set_option maxRecDepth 20000 in
theorem e165_766 (C : pCl) (ls : pLs) (st : List Value) (L : pH) : p_Y 165 C 766 ls st L = o_aload 2 767 C (p_Y 165 C) ls st L := hT165 rfl C ls st L
set_option maxRecDepth 20000 in
theorem e165_767 (C : pCl) (ls : pLs) (st : List Value) (L : pH) : p_Y 165 C 767 ls st L = o_aload 0 768 C (p_Y 165 C) ls st L := hT165 rfl C ls st L
set_option maxRecDepth 20000 in
theorem e165_768 (C : pCl) (ls : pLs) (st : List Value) (L : pH) : p_Y 165 C 768 ls st L = o_iload 3 769 C (p_Y 165 C) ls st L := hT165 rfl C ls st L
set_option maxRecDepth 20000 in
theorem e165_769 (C : pCl) (ls : pLs) (st : List Value) (L : pH) : p_Y 165 C 769 ls st L = o_push (.int (nI 1)) 770 C (p_Y 165 C) ls st L := hT165 rfl C ls st L
set_option maxRecDepth 20000 in
theorem e165_770 (C : pCl) (ls : pLs) (st : List Value) (L : pH) : p_Y 165 C 770 ls st L = o_iadd 771 C (p_Y 165 C) ls st L := hT165 rfl C ls st L
set_option maxRecDepth 20000 in
theorem e165_771 (C : pCl) (ls : pLs) (st : List Value) (L : pH) : p_Y 165 C 771 ls st L = o_iald 772 C (p_Y 165 C) ls st L := hT165 rfl C ls st L
set_option maxRecDepth 20000 in
theorem e165_772 (C : pCl) (ls : pLs) (st : List Value) (L : pH) : p_Y 165 C 772 ls st L = o_invV 5 163 1 775 C (p_Y 165 C) ls st L := hT165 rfl C ls st L
set_option maxRecDepth 20000 in
theorem e165_775 (C : pCl) (ls : pLs) (st : List Value) (L : pH) : p_Y 165 C 775 ls st L = o_iceq 780 778 C (p_Y 165 C) ls st L := hT165 rfl C ls st L
set_option maxRecDepth 20000 in
theorem e165_778 (C : pCl) (ls : pLs) (st : List Value) (L : pH) : p_Y 165 C 778 ls st L = o_push (.int (nI 0)) 779 C (p_Y 165 C) ls st L := hT165 rfl C ls st L
set_option maxRecDepth 20000 in
theorem e165_779 (C : pCl) (ls : pLs) (st : List Value) (L : pH) : p_Y 165 C 779 ls st L = o_zret C (p_Y 165 C) ls st L := hT165 rfl C ls st L
set_option maxRecDepth 20000 in
theorem e165_780 (C : pCl) (ls : pLs) (st : List Value) (L : pH) : p_Y 165 C 780 ls st L = o_iinc 3 (nI 4) 783 C (p_Y 165 C) ls st L := hT165 rfl C ls st L
set_option maxRecDepth 20000 in
theorem e165_783 (C : pCl) (ls : pLs) (st : List Value) (L : pH) : p_Y 165 C 783 ls st L = o_goto 18 C (p_Y 165 C) ls st L := hT165 rfl C ls st L
set_option maxRecDepth 20000 in
theorem e165_786 (C : pCl) (ls : pLs) (st : List Value) (L : pH) : p_Y 165 C 786 ls st L = o_push (.int (nI 1)) 787 C (p_Y 165 C) ls st L := hT165 rfl C ls st L
set_option maxRecDepth 20000 in
theorem e165_787 (C : pCl) (ls : pLs) (st : List Value) (L : pH) : p_Y 165 C 787 ls st L = o_zret C (p_Y 165 C) ls st L := hT165 rfl C ls st L
theorem S165_0 : ∀ (C : pCl) (ls : pLs) (st : List Value) (L : pH), p_Y 165 C 0 ls st L = o_new 4 [.null, .null, .int 0, .null, .null, .null, .null, .null] 3 C (p_Y 165 C) ls st L ∧ p_Y 165 C 3 ls st L = o_dupr 4 C (p_Y 165 C) ls st L ∧ p_Y 165 C 4 ls st L = o_invI 47 0 7 C (p_Y 165 C) ls st L ∧ p_Y 165 C 7 ls st L = o_astore 1 8 C (p_Y 165 C) ls st L ∧ p_Y 165 C 8 ls st L = o_new 5 [.int 0, .null, .null, .int 0, .null, .null, .null, .int 0, .int 0, .int 0, .null, .int 0, .null, .null, .int 0, .null, .null, .null] 11 C (p_Y 165 C) ls st L ∧ p_Y 165 C 11 ls st L = o_dupr 12 C (p_Y 165 C) ls st L ∧ p_Y 165 C 12 ls st L = o_invI 95 0 15 C (p_Y 165 C) ls st L ∧ p_Y 165 C 15 ls st L = o_astore 2 16 C (p_Y 165 C) ls st L ∧ p_Y 165 C 16 ls st L = o_push (.int (nI 0)) 17 C (p_Y 165 C) ls st L ∧ p_Y 165 C 17 ls st L = o_istore 3 18 C (p_Y 165 C) ls st L := fun C ls st L => ⟨e165_0 C ls st L, e165_3 C ls st L, e165_4 C ls st L, e165_7 C ls st L, e165_8 C ls st L, e165_11 C ls st L, e165_12 C ls st L, e165_15 C ls st L, e165_16 C ls st L, e165_17 C ls st L⟩
theorem R165_0 : ∀ (C : pCl) (ls : pLs) (st : List Value) (L : pH), p_Y 165 C 3 ls st L = o_dupr 4 C (p_Y 165 C) ls st L ∧ p_Y 165 C 4 ls st L = o_invI 47 0 7 C (p_Y 165 C) ls st L ∧ p_Y 165 C 7 ls st L = o_astore 1 8 C (p_Y 165 C) ls st L ∧ p_Y 165 C 8 ls st L = o_new 5 [.int 0, .null, .null, .int 0, .null, .null, .null, .int 0, .int 0, .int 0, .null, .int 0, .null, .null, .int 0, .null, .null, .null] 11 C (p_Y 165 C) ls st L ∧ p_Y 165 C 11 ls st L = o_dupr 12 C (p_Y 165 C) ls st L ∧ p_Y 165 C 12 ls st L = o_invI 95 0 15 C (p_Y 165 C) ls st L ∧ p_Y 165 C 15 ls st L = o_astore 2 16 C (p_Y 165 C) ls st L ∧ p_Y 165 C 16 ls st L = o_push (.int (nI 0)) 17 C (p_Y 165 C) ls st L ∧ p_Y 165 C 17 ls st L = o_istore 3 18 C (p_Y 165 C) ls st L := fun C ls st L => ⟨e165_3 C ls st L, e165_4 C ls st L, e165_7 C ls st L, e165_8 C ls st L, e165_11 C ls st L, e165_12 C ls st L, e165_15 C ls st L, e165_16 C ls st L, e165_17 C ls st L⟩
theorem S165_780 : ∀ (C : pCl) (ls : pLs) (st : List Value) (L : pH), p_Y 165 C 780 ls st L = o_iinc 3 (nI 4) 783 C (p_Y 165 C) ls st L ∧ p_Y 165 C 783 ls st L = o_goto 18 C (p_Y 165 C) ls st L := fun C ls st L => ⟨e165_780 C ls st L, e165_783 C ls st L⟩
theorem R165_780 : ∀ (C : pCl) (ls : pLs) (st : List Value) (L : pH), p_Y 165 C 783 ls st L = o_goto 18 C (p_Y 165 C) ls st L := fun C ls st L => e165_783 C ls st L
theorem k165 (d : Nat) (x1 : Nat) (L : pH) : p_K (d + 1) 165 [.ref x1] L = p_Y 165 (p_K d) 0 [some (.ref x1), none, none, none] [] L := p_K_s d 165 _ L rfl
