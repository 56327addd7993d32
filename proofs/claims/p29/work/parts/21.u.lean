/-! what each op does on a list that is written out -/
section u
variable (C : pCl) (k : pK) (ls : pLs) (r : List Value) (L : pH) (p t : Nat)
theorem u_push (v : Value) : o_push v p C k ls r L = k p ls (v :: r) L := rfl
theorem u_goto  : o_goto t C k ls r L = k t ls r L := rfl
theorem u_gets (i : Nat) : o_gets i p C k ls r L = k p ls (.ref i :: r) L := rfl
theorem u_iadd (x y : Int32) : o_iadd p C k ls (.int y :: .int x :: r) L = k p ls (.int (x + y) :: r) L := rfl
theorem u_isub (x y : Int32) : o_isub p C k ls (.int y :: .int x :: r) L = k p ls (.int (x - y) :: r) L := rfl
theorem u_imul (x y : Int32) : o_imul p C k ls (.int y :: .int x :: r) L = k p ls (.int (x * y) :: r) L := rfl
theorem u_iand (x y : Int32) : o_iand p C k ls (.int y :: .int x :: r) L = k p ls (.int (x &&& y) :: r) L := rfl
theorem u_ior (x y : Int32) : o_ior p C k ls (.int y :: .int x :: r) L = k p ls (.int (x ||| y) :: r) L := rfl
theorem u_ixor (x y : Int32) : o_ixor p C k ls (.int y :: .int x :: r) L = k p ls (.int (x ^^^ y) :: r) L := rfl
theorem u_ishl (x y : Int32) : o_ishl p C k ls (.int y :: .int x :: r) L = k p ls (.int (x <<< (y &&& nI 31)) :: r) L := rfl
theorem u_ishr (x y : Int32) : o_ishr p C k ls (.int y :: .int x :: r) L = k p ls (.int (x >>> (y &&& nI 31)) :: r) L := rfl
theorem u_iushr (x y : Int32) : o_iushr p C k ls (.int y :: .int x :: r) L = k p ls (.int ((x.toUInt32 >>> (y.toUInt32 &&& Int32.toUInt32 31)).toInt32) :: r) L := rfl
theorem u_land (x y : Int64) : o_land p C k ls (.long y :: .long x :: r) L = k p ls (.long (x &&& y) :: r) L := rfl
theorem u_lor (x y : Int64) : o_lor p C k ls (.long y :: .long x :: r) L = k p ls (.long (x ||| y) :: r) L := rfl
theorem u_ladd (x y : Int64) : o_ladd p C k ls (.long y :: .long x :: r) L = k p ls (.long (x + y) :: r) L := rfl
theorem u_lmul (x y : Int64) : o_lmul p C k ls (.long y :: .long x :: r) L = k p ls (.long (x * y) :: r) L := rfl
theorem u_lcmp (x y : Int64) : o_lcmp p C k ls (.long y :: .long x :: r) L = k p ls (.int (lg_cmp x y) :: r) L := rfl
theorem u_lushr (x : Int64) (y : Int32) : o_lushr p C k ls (.int y :: .long x :: r) L = k p ls (.long ((x.toUInt64 >>> (y.toInt64.toUInt64 &&& Int64.toUInt64 63)).toInt64) :: r) L := rfl
theorem u_lshl (x : Int64) (y : Int32) : o_lshl p C k ls (.int y :: .long x :: r) L = k p ls (.long (x <<< (y.toInt64 &&& 63)) :: r) L := rfl
theorem u_i2l (x : Int32) : o_i2l p C k ls (.int x :: r) L = k p ls (.long x.toInt64 :: r) L := rfl
theorem u_l2i (x : Int64) : o_l2i p C k ls (.long x :: r) L = k p ls (.int x.toInt32 :: r) L := rfl
theorem u_dupr (a : Nat) : o_dupr p C k ls (.ref a :: r) L = k p ls (.ref a :: .ref a :: r) L := rfl
theorem u_dup2i (a : Nat) (y : Int32) : o_dup2i p C k ls (.int y :: .ref a :: r) L = k p ls (.int y :: .ref a :: .int y :: .ref a :: r) L := rfl
theorem u_popi (y : Int32) : o_popi p C k ls (.int y :: r) L = k p ls r L := rfl
theorem u_idiv (x y : Int32) : o_idiv p C k ls (.int y :: .int x :: r) L = if y = nI 0 then none else k p ls (.int (x / y) :: r) L := rfl
theorem u_irem (x y : Int32) : o_irem p C k ls (.int y :: .int x :: r) L = if y = nI 0 then none else k p ls (.int (x - x / y * y) :: r) L := rfl
theorem u_ifeq (x : Int32) : o_ifeq t p C k ls (.int x :: r) L = if x = nI 0 then k t ls r L else k p ls r L := rfl
theorem u_iceq (x y : Int32) : o_iceq t p C k ls (.int y :: .int x :: r) L = if x = y then k t ls r L else k p ls r L := rfl
theorem u_ifne (x : Int32) : o_ifne t p C k ls (.int x :: r) L = if ¬ x = nI 0 then k t ls r L else k p ls r L := rfl
theorem u_icne (x y : Int32) : o_icne t p C k ls (.int y :: .int x :: r) L = if ¬ x = y then k t ls r L else k p ls r L := rfl
theorem u_iflt (x : Int32) : o_iflt t p C k ls (.int x :: r) L = if x < nI 0 then k t ls r L else k p ls r L := rfl
theorem u_iclt (x y : Int32) : o_iclt t p C k ls (.int y :: .int x :: r) L = if x < y then k t ls r L else k p ls r L := rfl
theorem u_ifge (x : Int32) : o_ifge t p C k ls (.int x :: r) L = if nI 0 ≤ x then k t ls r L else k p ls r L := rfl
theorem u_icge (x y : Int32) : o_icge t p C k ls (.int y :: .int x :: r) L = if y ≤ x then k t ls r L else k p ls r L := rfl
theorem u_ifgt (x : Int32) : o_ifgt t p C k ls (.int x :: r) L = if nI 0 < x then k t ls r L else k p ls r L := rfl
theorem u_icgt (x y : Int32) : o_icgt t p C k ls (.int y :: .int x :: r) L = if y < x then k t ls r L else k p ls r L := rfl
theorem u_ifle (x : Int32) : o_ifle t p C k ls (.int x :: r) L = if x ≤ nI 0 then k t ls r L else k p ls r L := rfl
theorem u_icle (x y : Int32) : o_icle t p C k ls (.int y :: .int x :: r) L = if x ≤ y then k t ls r L else k p ls r L := rfl
theorem u_switch (x : Int32) (cs : List (Int32 × Nat)) (dt : Nat) : o_switch cs dt C k ls (.int x :: r) L = p_sw (fun t => k t ls r L) dt x cs := rfl
theorem u_iload_0 (x : Int32) (tl : pLs) : o_iload 0 p C k (some (.int x) :: tl) r L = k p (some (.int x) :: tl) (.int x :: r) L := rfl
theorem u_istore_0 (b0 : Option Value) (x : Int32) (tl : pLs) : o_istore 0 p C k (b0 :: tl) (.int x :: r) L = k p (some (.int x) :: tl) r L := rfl
theorem u_aload_0 (x : Nat) (tl : pLs) : o_aload 0 p C k (some (.ref x) :: tl) r L = k p (some (.ref x) :: tl) (.ref x :: r) L := rfl
theorem u_astore_0 (b0 : Option Value) (x : Nat) (tl : pLs) : o_astore 0 p C k (b0 :: tl) (.ref x :: r) L = k p (some (.ref x) :: tl) r L := rfl
theorem u_iinc_0 (x v : Int32) (tl : pLs) : o_iinc 0 v p C k (some (.int x) :: tl) r L = k p (some (.int (x + v)) :: tl) r L := rfl
theorem u_iload_1 (a0 : Option Value) (x : Int32) (tl : pLs) : o_iload 1 p C k (a0 :: some (.int x) :: tl) r L = k p (a0 :: some (.int x) :: tl) (.int x :: r) L := rfl
theorem u_istore_1 (a0 : Option Value) (b0 : Option Value) (x : Int32) (tl : pLs) : o_istore 1 p C k (a0 :: b0 :: tl) (.int x :: r) L = k p (a0 :: some (.int x) :: tl) r L := rfl
theorem u_aload_1 (a0 : Option Value) (x : Nat) (tl : pLs) : o_aload 1 p C k (a0 :: some (.ref x) :: tl) r L = k p (a0 :: some (.ref x) :: tl) (.ref x :: r) L := rfl
theorem u_astore_1 (a0 : Option Value) (b0 : Option Value) (x : Nat) (tl : pLs) : o_astore 1 p C k (a0 :: b0 :: tl) (.ref x :: r) L = k p (a0 :: some (.ref x) :: tl) r L := rfl
theorem u_lload_1 (a0 : Option Value) (x : Int64) (tl : pLs) : o_lload 1 p C k (a0 :: some (.long x) :: tl) r L = k p (a0 :: some (.long x) :: tl) (.long x :: r) L := rfl
theorem u_lstore_1 (a0 : Option Value) (b0 b1 : Option Value) (x : Int64) (tl : pLs) : o_lstore 1 p C k (a0 :: b0 :: b1 :: tl) (.long x :: r) L = k p (a0 :: some (.long x) :: none :: tl) r L := rfl
theorem u_iinc_1 (a0 : Option Value) (x v : Int32) (tl : pLs) : o_iinc 1 v p C k (a0 :: some (.int x) :: tl) r L = k p (a0 :: some (.int (x + v)) :: tl) r L := rfl
theorem u_iload_2 (a0 a1 : Option Value) (x : Int32) (tl : pLs) : o_iload 2 p C k (a0 :: a1 :: some (.int x) :: tl) r L = k p (a0 :: a1 :: some (.int x) :: tl) (.int x :: r) L := rfl
theorem u_istore_2 (a0 a1 : Option Value) (b0 : Option Value) (x : Int32) (tl : pLs) : o_istore 2 p C k (a0 :: a1 :: b0 :: tl) (.int x :: r) L = k p (a0 :: a1 :: some (.int x) :: tl) r L := rfl
theorem u_aload_2 (a0 a1 : Option Value) (x : Nat) (tl : pLs) : o_aload 2 p C k (a0 :: a1 :: some (.ref x) :: tl) r L = k p (a0 :: a1 :: some (.ref x) :: tl) (.ref x :: r) L := rfl
theorem u_astore_2 (a0 a1 : Option Value) (b0 : Option Value) (x : Nat) (tl : pLs) : o_astore 2 p C k (a0 :: a1 :: b0 :: tl) (.ref x :: r) L = k p (a0 :: a1 :: some (.ref x) :: tl) r L := rfl
theorem u_lload_2 (a0 a1 : Option Value) (x : Int64) (tl : pLs) : o_lload 2 p C k (a0 :: a1 :: some (.long x) :: tl) r L = k p (a0 :: a1 :: some (.long x) :: tl) (.long x :: r) L := rfl
theorem u_lstore_2 (a0 a1 : Option Value) (b0 b1 : Option Value) (x : Int64) (tl : pLs) : o_lstore 2 p C k (a0 :: a1 :: b0 :: b1 :: tl) (.long x :: r) L = k p (a0 :: a1 :: some (.long x) :: none :: tl) r L := rfl
theorem u_iinc_2 (a0 a1 : Option Value) (x v : Int32) (tl : pLs) : o_iinc 2 v p C k (a0 :: a1 :: some (.int x) :: tl) r L = k p (a0 :: a1 :: some (.int (x + v)) :: tl) r L := rfl
theorem u_iload_3 (a0 a1 a2 : Option Value) (x : Int32) (tl : pLs) : o_iload 3 p C k (a0 :: a1 :: a2 :: some (.int x) :: tl) r L = k p (a0 :: a1 :: a2 :: some (.int x) :: tl) (.int x :: r) L := rfl
theorem u_istore_3 (a0 a1 a2 : Option Value) (b0 : Option Value) (x : Int32) (tl : pLs) : o_istore 3 p C k (a0 :: a1 :: a2 :: b0 :: tl) (.int x :: r) L = k p (a0 :: a1 :: a2 :: some (.int x) :: tl) r L := rfl
theorem u_aload_3 (a0 a1 a2 : Option Value) (x : Nat) (tl : pLs) : o_aload 3 p C k (a0 :: a1 :: a2 :: some (.ref x) :: tl) r L = k p (a0 :: a1 :: a2 :: some (.ref x) :: tl) (.ref x :: r) L := rfl
theorem u_astore_3 (a0 a1 a2 : Option Value) (b0 : Option Value) (x : Nat) (tl : pLs) : o_astore 3 p C k (a0 :: a1 :: a2 :: b0 :: tl) (.ref x :: r) L = k p (a0 :: a1 :: a2 :: some (.ref x) :: tl) r L := rfl
theorem u_lload_3 (a0 a1 a2 : Option Value) (x : Int64) (tl : pLs) : o_lload 3 p C k (a0 :: a1 :: a2 :: some (.long x) :: tl) r L = k p (a0 :: a1 :: a2 :: some (.long x) :: tl) (.long x :: r) L := rfl
theorem u_lstore_3 (a0 a1 a2 : Option Value) (b0 b1 : Option Value) (x : Int64) (tl : pLs) : o_lstore 3 p C k (a0 :: a1 :: a2 :: b0 :: b1 :: tl) (.long x :: r) L = k p (a0 :: a1 :: a2 :: some (.long x) :: none :: tl) r L := rfl
theorem u_iinc_3 (a0 a1 a2 : Option Value) (x v : Int32) (tl : pLs) : o_iinc 3 v p C k (a0 :: a1 :: a2 :: some (.int x) :: tl) r L = k p (a0 :: a1 :: a2 :: some (.int (x + v)) :: tl) r L := rfl
theorem u_iload_4 (a0 a1 a2 a3 : Option Value) (x : Int32) (tl : pLs) : o_iload 4 p C k (a0 :: a1 :: a2 :: a3 :: some (.int x) :: tl) r L = k p (a0 :: a1 :: a2 :: a3 :: some (.int x) :: tl) (.int x :: r) L := rfl
theorem u_istore_4 (a0 a1 a2 a3 : Option Value) (b0 : Option Value) (x : Int32) (tl : pLs) : o_istore 4 p C k (a0 :: a1 :: a2 :: a3 :: b0 :: tl) (.int x :: r) L = k p (a0 :: a1 :: a2 :: a3 :: some (.int x) :: tl) r L := rfl
theorem u_aload_4 (a0 a1 a2 a3 : Option Value) (x : Nat) (tl : pLs) : o_aload 4 p C k (a0 :: a1 :: a2 :: a3 :: some (.ref x) :: tl) r L = k p (a0 :: a1 :: a2 :: a3 :: some (.ref x) :: tl) (.ref x :: r) L := rfl
theorem u_astore_4 (a0 a1 a2 a3 : Option Value) (b0 : Option Value) (x : Nat) (tl : pLs) : o_astore 4 p C k (a0 :: a1 :: a2 :: a3 :: b0 :: tl) (.ref x :: r) L = k p (a0 :: a1 :: a2 :: a3 :: some (.ref x) :: tl) r L := rfl
theorem u_lload_4 (a0 a1 a2 a3 : Option Value) (x : Int64) (tl : pLs) : o_lload 4 p C k (a0 :: a1 :: a2 :: a3 :: some (.long x) :: tl) r L = k p (a0 :: a1 :: a2 :: a3 :: some (.long x) :: tl) (.long x :: r) L := rfl
theorem u_lstore_4 (a0 a1 a2 a3 : Option Value) (b0 b1 : Option Value) (x : Int64) (tl : pLs) : o_lstore 4 p C k (a0 :: a1 :: a2 :: a3 :: b0 :: b1 :: tl) (.long x :: r) L = k p (a0 :: a1 :: a2 :: a3 :: some (.long x) :: none :: tl) r L := rfl
theorem u_iinc_4 (a0 a1 a2 a3 : Option Value) (x v : Int32) (tl : pLs) : o_iinc 4 v p C k (a0 :: a1 :: a2 :: a3 :: some (.int x) :: tl) r L = k p (a0 :: a1 :: a2 :: a3 :: some (.int (x + v)) :: tl) r L := rfl
theorem u_iload_5 (a0 a1 a2 a3 a4 : Option Value) (x : Int32) (tl : pLs) : o_iload 5 p C k (a0 :: a1 :: a2 :: a3 :: a4 :: some (.int x) :: tl) r L = k p (a0 :: a1 :: a2 :: a3 :: a4 :: some (.int x) :: tl) (.int x :: r) L := rfl
theorem u_istore_5 (a0 a1 a2 a3 a4 : Option Value) (b0 : Option Value) (x : Int32) (tl : pLs) : o_istore 5 p C k (a0 :: a1 :: a2 :: a3 :: a4 :: b0 :: tl) (.int x :: r) L = k p (a0 :: a1 :: a2 :: a3 :: a4 :: some (.int x) :: tl) r L := rfl
theorem u_aload_5 (a0 a1 a2 a3 a4 : Option Value) (x : Nat) (tl : pLs) : o_aload 5 p C k (a0 :: a1 :: a2 :: a3 :: a4 :: some (.ref x) :: tl) r L = k p (a0 :: a1 :: a2 :: a3 :: a4 :: some (.ref x) :: tl) (.ref x :: r) L := rfl
theorem u_astore_5 (a0 a1 a2 a3 a4 : Option Value) (b0 : Option Value) (x : Nat) (tl : pLs) : o_astore 5 p C k (a0 :: a1 :: a2 :: a3 :: a4 :: b0 :: tl) (.ref x :: r) L = k p (a0 :: a1 :: a2 :: a3 :: a4 :: some (.ref x) :: tl) r L := rfl
theorem u_lload_5 (a0 a1 a2 a3 a4 : Option Value) (x : Int64) (tl : pLs) : o_lload 5 p C k (a0 :: a1 :: a2 :: a3 :: a4 :: some (.long x) :: tl) r L = k p (a0 :: a1 :: a2 :: a3 :: a4 :: some (.long x) :: tl) (.long x :: r) L := rfl
theorem u_lstore_5 (a0 a1 a2 a3 a4 : Option Value) (b0 b1 : Option Value) (x : Int64) (tl : pLs) : o_lstore 5 p C k (a0 :: a1 :: a2 :: a3 :: a4 :: b0 :: b1 :: tl) (.long x :: r) L = k p (a0 :: a1 :: a2 :: a3 :: a4 :: some (.long x) :: none :: tl) r L := rfl
theorem u_iinc_5 (a0 a1 a2 a3 a4 : Option Value) (x v : Int32) (tl : pLs) : o_iinc 5 v p C k (a0 :: a1 :: a2 :: a3 :: a4 :: some (.int x) :: tl) r L = k p (a0 :: a1 :: a2 :: a3 :: a4 :: some (.int (x + v)) :: tl) r L := rfl
theorem u_iload_6 (a0 a1 a2 a3 a4 a5 : Option Value) (x : Int32) (tl : pLs) : o_iload 6 p C k (a0 :: a1 :: a2 :: a3 :: a4 :: a5 :: some (.int x) :: tl) r L = k p (a0 :: a1 :: a2 :: a3 :: a4 :: a5 :: some (.int x) :: tl) (.int x :: r) L := rfl
theorem u_istore_6 (a0 a1 a2 a3 a4 a5 : Option Value) (b0 : Option Value) (x : Int32) (tl : pLs) : o_istore 6 p C k (a0 :: a1 :: a2 :: a3 :: a4 :: a5 :: b0 :: tl) (.int x :: r) L = k p (a0 :: a1 :: a2 :: a3 :: a4 :: a5 :: some (.int x) :: tl) r L := rfl
theorem u_aload_6 (a0 a1 a2 a3 a4 a5 : Option Value) (x : Nat) (tl : pLs) : o_aload 6 p C k (a0 :: a1 :: a2 :: a3 :: a4 :: a5 :: some (.ref x) :: tl) r L = k p (a0 :: a1 :: a2 :: a3 :: a4 :: a5 :: some (.ref x) :: tl) (.ref x :: r) L := rfl
theorem u_astore_6 (a0 a1 a2 a3 a4 a5 : Option Value) (b0 : Option Value) (x : Nat) (tl : pLs) : o_astore 6 p C k (a0 :: a1 :: a2 :: a3 :: a4 :: a5 :: b0 :: tl) (.ref x :: r) L = k p (a0 :: a1 :: a2 :: a3 :: a4 :: a5 :: some (.ref x) :: tl) r L := rfl
theorem u_iinc_6 (a0 a1 a2 a3 a4 a5 : Option Value) (x v : Int32) (tl : pLs) : o_iinc 6 v p C k (a0 :: a1 :: a2 :: a3 :: a4 :: a5 :: some (.int x) :: tl) r L = k p (a0 :: a1 :: a2 :: a3 :: a4 :: a5 :: some (.int (x + v)) :: tl) r L := rfl
theorem u_iload_7 (a0 a1 a2 a3 a4 a5 a6 : Option Value) (x : Int32) (tl : pLs) : o_iload 7 p C k (a0 :: a1 :: a2 :: a3 :: a4 :: a5 :: a6 :: some (.int x) :: tl) r L = k p (a0 :: a1 :: a2 :: a3 :: a4 :: a5 :: a6 :: some (.int x) :: tl) (.int x :: r) L := rfl
theorem u_istore_7 (a0 a1 a2 a3 a4 a5 a6 : Option Value) (b0 : Option Value) (x : Int32) (tl : pLs) : o_istore 7 p C k (a0 :: a1 :: a2 :: a3 :: a4 :: a5 :: a6 :: b0 :: tl) (.int x :: r) L = k p (a0 :: a1 :: a2 :: a3 :: a4 :: a5 :: a6 :: some (.int x) :: tl) r L := rfl
theorem u_aload_7 (a0 a1 a2 a3 a4 a5 a6 : Option Value) (x : Nat) (tl : pLs) : o_aload 7 p C k (a0 :: a1 :: a2 :: a3 :: a4 :: a5 :: a6 :: some (.ref x) :: tl) r L = k p (a0 :: a1 :: a2 :: a3 :: a4 :: a5 :: a6 :: some (.ref x) :: tl) (.ref x :: r) L := rfl
theorem u_astore_7 (a0 a1 a2 a3 a4 a5 a6 : Option Value) (b0 : Option Value) (x : Nat) (tl : pLs) : o_astore 7 p C k (a0 :: a1 :: a2 :: a3 :: a4 :: a5 :: a6 :: b0 :: tl) (.ref x :: r) L = k p (a0 :: a1 :: a2 :: a3 :: a4 :: a5 :: a6 :: some (.ref x) :: tl) r L := rfl
theorem u_iinc_7 (a0 a1 a2 a3 a4 a5 a6 : Option Value) (x v : Int32) (tl : pLs) : o_iinc 7 v p C k (a0 :: a1 :: a2 :: a3 :: a4 :: a5 :: a6 :: some (.int x) :: tl) r L = k p (a0 :: a1 :: a2 :: a3 :: a4 :: a5 :: a6 :: some (.int (x + v)) :: tl) r L := rfl
theorem u_iload_8 (a0 a1 a2 a3 a4 a5 a6 a7 : Option Value) (x : Int32) (tl : pLs) : o_iload 8 p C k (a0 :: a1 :: a2 :: a3 :: a4 :: a5 :: a6 :: a7 :: some (.int x) :: tl) r L = k p (a0 :: a1 :: a2 :: a3 :: a4 :: a5 :: a6 :: a7 :: some (.int x) :: tl) (.int x :: r) L := rfl
theorem u_istore_8 (a0 a1 a2 a3 a4 a5 a6 a7 : Option Value) (b0 : Option Value) (x : Int32) (tl : pLs) : o_istore 8 p C k (a0 :: a1 :: a2 :: a3 :: a4 :: a5 :: a6 :: a7 :: b0 :: tl) (.int x :: r) L = k p (a0 :: a1 :: a2 :: a3 :: a4 :: a5 :: a6 :: a7 :: some (.int x) :: tl) r L := rfl
theorem u_aload_8 (a0 a1 a2 a3 a4 a5 a6 a7 : Option Value) (x : Nat) (tl : pLs) : o_aload 8 p C k (a0 :: a1 :: a2 :: a3 :: a4 :: a5 :: a6 :: a7 :: some (.ref x) :: tl) r L = k p (a0 :: a1 :: a2 :: a3 :: a4 :: a5 :: a6 :: a7 :: some (.ref x) :: tl) (.ref x :: r) L := rfl
theorem u_astore_8 (a0 a1 a2 a3 a4 a5 a6 a7 : Option Value) (b0 : Option Value) (x : Nat) (tl : pLs) : o_astore 8 p C k (a0 :: a1 :: a2 :: a3 :: a4 :: a5 :: a6 :: a7 :: b0 :: tl) (.ref x :: r) L = k p (a0 :: a1 :: a2 :: a3 :: a4 :: a5 :: a6 :: a7 :: some (.ref x) :: tl) r L := rfl
theorem u_iinc_8 (a0 a1 a2 a3 a4 a5 a6 a7 : Option Value) (x v : Int32) (tl : pLs) : o_iinc 8 v p C k (a0 :: a1 :: a2 :: a3 :: a4 :: a5 :: a6 :: a7 :: some (.int x) :: tl) r L = k p (a0 :: a1 :: a2 :: a3 :: a4 :: a5 :: a6 :: a7 :: some (.int (x + v)) :: tl) r L := rfl
theorem u_iload_9 (a0 a1 a2 a3 a4 a5 a6 a7 a8 : Option Value) (x : Int32) (tl : pLs) : o_iload 9 p C k (a0 :: a1 :: a2 :: a3 :: a4 :: a5 :: a6 :: a7 :: a8 :: some (.int x) :: tl) r L = k p (a0 :: a1 :: a2 :: a3 :: a4 :: a5 :: a6 :: a7 :: a8 :: some (.int x) :: tl) (.int x :: r) L := rfl
theorem u_istore_9 (a0 a1 a2 a3 a4 a5 a6 a7 a8 : Option Value) (b0 : Option Value) (x : Int32) (tl : pLs) : o_istore 9 p C k (a0 :: a1 :: a2 :: a3 :: a4 :: a5 :: a6 :: a7 :: a8 :: b0 :: tl) (.int x :: r) L = k p (a0 :: a1 :: a2 :: a3 :: a4 :: a5 :: a6 :: a7 :: a8 :: some (.int x) :: tl) r L := rfl
theorem u_aload_9 (a0 a1 a2 a3 a4 a5 a6 a7 a8 : Option Value) (x : Nat) (tl : pLs) : o_aload 9 p C k (a0 :: a1 :: a2 :: a3 :: a4 :: a5 :: a6 :: a7 :: a8 :: some (.ref x) :: tl) r L = k p (a0 :: a1 :: a2 :: a3 :: a4 :: a5 :: a6 :: a7 :: a8 :: some (.ref x) :: tl) (.ref x :: r) L := rfl
theorem u_astore_9 (a0 a1 a2 a3 a4 a5 a6 a7 a8 : Option Value) (b0 : Option Value) (x : Nat) (tl : pLs) : o_astore 9 p C k (a0 :: a1 :: a2 :: a3 :: a4 :: a5 :: a6 :: a7 :: a8 :: b0 :: tl) (.ref x :: r) L = k p (a0 :: a1 :: a2 :: a3 :: a4 :: a5 :: a6 :: a7 :: a8 :: some (.ref x) :: tl) r L := rfl
theorem u_lload_9 (a0 a1 a2 a3 a4 a5 a6 a7 a8 : Option Value) (x : Int64) (tl : pLs) : o_lload 9 p C k (a0 :: a1 :: a2 :: a3 :: a4 :: a5 :: a6 :: a7 :: a8 :: some (.long x) :: tl) r L = k p (a0 :: a1 :: a2 :: a3 :: a4 :: a5 :: a6 :: a7 :: a8 :: some (.long x) :: tl) (.long x :: r) L := rfl
theorem u_lstore_9 (a0 a1 a2 a3 a4 a5 a6 a7 a8 : Option Value) (b0 b1 : Option Value) (x : Int64) (tl : pLs) : o_lstore 9 p C k (a0 :: a1 :: a2 :: a3 :: a4 :: a5 :: a6 :: a7 :: a8 :: b0 :: b1 :: tl) (.long x :: r) L = k p (a0 :: a1 :: a2 :: a3 :: a4 :: a5 :: a6 :: a7 :: a8 :: some (.long x) :: none :: tl) r L := rfl
theorem u_iinc_9 (a0 a1 a2 a3 a4 a5 a6 a7 a8 : Option Value) (x v : Int32) (tl : pLs) : o_iinc 9 v p C k (a0 :: a1 :: a2 :: a3 :: a4 :: a5 :: a6 :: a7 :: a8 :: some (.int x) :: tl) r L = k p (a0 :: a1 :: a2 :: a3 :: a4 :: a5 :: a6 :: a7 :: a8 :: some (.int (x + v)) :: tl) r L := rfl
theorem u_iload_10 (a0 a1 a2 a3 a4 a5 a6 a7 a8 a9 : Option Value) (x : Int32) (tl : pLs) : o_iload 10 p C k (a0 :: a1 :: a2 :: a3 :: a4 :: a5 :: a6 :: a7 :: a8 :: a9 :: some (.int x) :: tl) r L = k p (a0 :: a1 :: a2 :: a3 :: a4 :: a5 :: a6 :: a7 :: a8 :: a9 :: some (.int x) :: tl) (.int x :: r) L := rfl
theorem u_istore_10 (a0 a1 a2 a3 a4 a5 a6 a7 a8 a9 : Option Value) (b0 : Option Value) (x : Int32) (tl : pLs) : o_istore 10 p C k (a0 :: a1 :: a2 :: a3 :: a4 :: a5 :: a6 :: a7 :: a8 :: a9 :: b0 :: tl) (.int x :: r) L = k p (a0 :: a1 :: a2 :: a3 :: a4 :: a5 :: a6 :: a7 :: a8 :: a9 :: some (.int x) :: tl) r L := rfl
theorem u_aload_10 (a0 a1 a2 a3 a4 a5 a6 a7 a8 a9 : Option Value) (x : Nat) (tl : pLs) : o_aload 10 p C k (a0 :: a1 :: a2 :: a3 :: a4 :: a5 :: a6 :: a7 :: a8 :: a9 :: some (.ref x) :: tl) r L = k p (a0 :: a1 :: a2 :: a3 :: a4 :: a5 :: a6 :: a7 :: a8 :: a9 :: some (.ref x) :: tl) (.ref x :: r) L := rfl
theorem u_astore_10 (a0 a1 a2 a3 a4 a5 a6 a7 a8 a9 : Option Value) (b0 : Option Value) (x : Nat) (tl : pLs) : o_astore 10 p C k (a0 :: a1 :: a2 :: a3 :: a4 :: a5 :: a6 :: a7 :: a8 :: a9 :: b0 :: tl) (.ref x :: r) L = k p (a0 :: a1 :: a2 :: a3 :: a4 :: a5 :: a6 :: a7 :: a8 :: a9 :: some (.ref x) :: tl) r L := rfl
theorem u_iinc_10 (a0 a1 a2 a3 a4 a5 a6 a7 a8 a9 : Option Value) (x v : Int32) (tl : pLs) : o_iinc 10 v p C k (a0 :: a1 :: a2 :: a3 :: a4 :: a5 :: a6 :: a7 :: a8 :: a9 :: some (.int x) :: tl) r L = k p (a0 :: a1 :: a2 :: a3 :: a4 :: a5 :: a6 :: a7 :: a8 :: a9 :: some (.int (x + v)) :: tl) r L := rfl
theorem u_iload_11 (a0 a1 a2 a3 a4 a5 a6 a7 a8 a9 a10 : Option Value) (x : Int32) (tl : pLs) : o_iload 11 p C k (a0 :: a1 :: a2 :: a3 :: a4 :: a5 :: a6 :: a7 :: a8 :: a9 :: a10 :: some (.int x) :: tl) r L = k p (a0 :: a1 :: a2 :: a3 :: a4 :: a5 :: a6 :: a7 :: a8 :: a9 :: a10 :: some (.int x) :: tl) (.int x :: r) L := rfl
theorem u_istore_11 (a0 a1 a2 a3 a4 a5 a6 a7 a8 a9 a10 : Option Value) (b0 : Option Value) (x : Int32) (tl : pLs) : o_istore 11 p C k (a0 :: a1 :: a2 :: a3 :: a4 :: a5 :: a6 :: a7 :: a8 :: a9 :: a10 :: b0 :: tl) (.int x :: r) L = k p (a0 :: a1 :: a2 :: a3 :: a4 :: a5 :: a6 :: a7 :: a8 :: a9 :: a10 :: some (.int x) :: tl) r L := rfl
theorem u_aload_11 (a0 a1 a2 a3 a4 a5 a6 a7 a8 a9 a10 : Option Value) (x : Nat) (tl : pLs) : o_aload 11 p C k (a0 :: a1 :: a2 :: a3 :: a4 :: a5 :: a6 :: a7 :: a8 :: a9 :: a10 :: some (.ref x) :: tl) r L = k p (a0 :: a1 :: a2 :: a3 :: a4 :: a5 :: a6 :: a7 :: a8 :: a9 :: a10 :: some (.ref x) :: tl) (.ref x :: r) L := rfl
theorem u_astore_11 (a0 a1 a2 a3 a4 a5 a6 a7 a8 a9 a10 : Option Value) (b0 : Option Value) (x : Nat) (tl : pLs) : o_astore 11 p C k (a0 :: a1 :: a2 :: a3 :: a4 :: a5 :: a6 :: a7 :: a8 :: a9 :: a10 :: b0 :: tl) (.ref x :: r) L = k p (a0 :: a1 :: a2 :: a3 :: a4 :: a5 :: a6 :: a7 :: a8 :: a9 :: a10 :: some (.ref x) :: tl) r L := rfl
theorem u_iinc_11 (a0 a1 a2 a3 a4 a5 a6 a7 a8 a9 a10 : Option Value) (x v : Int32) (tl : pLs) : o_iinc 11 v p C k (a0 :: a1 :: a2 :: a3 :: a4 :: a5 :: a6 :: a7 :: a8 :: a9 :: a10 :: some (.int x) :: tl) r L = k p (a0 :: a1 :: a2 :: a3 :: a4 :: a5 :: a6 :: a7 :: a8 :: a9 :: a10 :: some (.int (x + v)) :: tl) r L := rfl
theorem u_iload_12 (a0 a1 a2 a3 a4 a5 a6 a7 a8 a9 a10 a11 : Option Value) (x : Int32) (tl : pLs) : o_iload 12 p C k (a0 :: a1 :: a2 :: a3 :: a4 :: a5 :: a6 :: a7 :: a8 :: a9 :: a10 :: a11 :: some (.int x) :: tl) r L = k p (a0 :: a1 :: a2 :: a3 :: a4 :: a5 :: a6 :: a7 :: a8 :: a9 :: a10 :: a11 :: some (.int x) :: tl) (.int x :: r) L := rfl
theorem u_istore_12 (a0 a1 a2 a3 a4 a5 a6 a7 a8 a9 a10 a11 : Option Value) (b0 : Option Value) (x : Int32) (tl : pLs) : o_istore 12 p C k (a0 :: a1 :: a2 :: a3 :: a4 :: a5 :: a6 :: a7 :: a8 :: a9 :: a10 :: a11 :: b0 :: tl) (.int x :: r) L = k p (a0 :: a1 :: a2 :: a3 :: a4 :: a5 :: a6 :: a7 :: a8 :: a9 :: a10 :: a11 :: some (.int x) :: tl) r L := rfl
theorem u_aload_12 (a0 a1 a2 a3 a4 a5 a6 a7 a8 a9 a10 a11 : Option Value) (x : Nat) (tl : pLs) : o_aload 12 p C k (a0 :: a1 :: a2 :: a3 :: a4 :: a5 :: a6 :: a7 :: a8 :: a9 :: a10 :: a11 :: some (.ref x) :: tl) r L = k p (a0 :: a1 :: a2 :: a3 :: a4 :: a5 :: a6 :: a7 :: a8 :: a9 :: a10 :: a11 :: some (.ref x) :: tl) (.ref x :: r) L := rfl
theorem u_astore_12 (a0 a1 a2 a3 a4 a5 a6 a7 a8 a9 a10 a11 : Option Value) (b0 : Option Value) (x : Nat) (tl : pLs) : o_astore 12 p C k (a0 :: a1 :: a2 :: a3 :: a4 :: a5 :: a6 :: a7 :: a8 :: a9 :: a10 :: a11 :: b0 :: tl) (.ref x :: r) L = k p (a0 :: a1 :: a2 :: a3 :: a4 :: a5 :: a6 :: a7 :: a8 :: a9 :: a10 :: a11 :: some (.ref x) :: tl) r L := rfl
theorem u_iinc_12 (a0 a1 a2 a3 a4 a5 a6 a7 a8 a9 a10 a11 : Option Value) (x v : Int32) (tl : pLs) : o_iinc 12 v p C k (a0 :: a1 :: a2 :: a3 :: a4 :: a5 :: a6 :: a7 :: a8 :: a9 :: a10 :: a11 :: some (.int x) :: tl) r L = k p (a0 :: a1 :: a2 :: a3 :: a4 :: a5 :: a6 :: a7 :: a8 :: a9 :: a10 :: a11 :: some (.int (x + v)) :: tl) r L := rfl
theorem u_iload_13 (a0 a1 a2 a3 a4 a5 a6 a7 a8 a9 a10 a11 a12 : Option Value) (x : Int32) (tl : pLs) : o_iload 13 p C k (a0 :: a1 :: a2 :: a3 :: a4 :: a5 :: a6 :: a7 :: a8 :: a9 :: a10 :: a11 :: a12 :: some (.int x) :: tl) r L = k p (a0 :: a1 :: a2 :: a3 :: a4 :: a5 :: a6 :: a7 :: a8 :: a9 :: a10 :: a11 :: a12 :: some (.int x) :: tl) (.int x :: r) L := rfl
theorem u_istore_13 (a0 a1 a2 a3 a4 a5 a6 a7 a8 a9 a10 a11 a12 : Option Value) (b0 : Option Value) (x : Int32) (tl : pLs) : o_istore 13 p C k (a0 :: a1 :: a2 :: a3 :: a4 :: a5 :: a6 :: a7 :: a8 :: a9 :: a10 :: a11 :: a12 :: b0 :: tl) (.int x :: r) L = k p (a0 :: a1 :: a2 :: a3 :: a4 :: a5 :: a6 :: a7 :: a8 :: a9 :: a10 :: a11 :: a12 :: some (.int x) :: tl) r L := rfl
theorem u_aload_13 (a0 a1 a2 a3 a4 a5 a6 a7 a8 a9 a10 a11 a12 : Option Value) (x : Nat) (tl : pLs) : o_aload 13 p C k (a0 :: a1 :: a2 :: a3 :: a4 :: a5 :: a6 :: a7 :: a8 :: a9 :: a10 :: a11 :: a12 :: some (.ref x) :: tl) r L = k p (a0 :: a1 :: a2 :: a3 :: a4 :: a5 :: a6 :: a7 :: a8 :: a9 :: a10 :: a11 :: a12 :: some (.ref x) :: tl) (.ref x :: r) L := rfl
theorem u_astore_13 (a0 a1 a2 a3 a4 a5 a6 a7 a8 a9 a10 a11 a12 : Option Value) (b0 : Option Value) (x : Nat) (tl : pLs) : o_astore 13 p C k (a0 :: a1 :: a2 :: a3 :: a4 :: a5 :: a6 :: a7 :: a8 :: a9 :: a10 :: a11 :: a12 :: b0 :: tl) (.ref x :: r) L = k p (a0 :: a1 :: a2 :: a3 :: a4 :: a5 :: a6 :: a7 :: a8 :: a9 :: a10 :: a11 :: a12 :: some (.ref x) :: tl) r L := rfl
theorem u_iinc_13 (a0 a1 a2 a3 a4 a5 a6 a7 a8 a9 a10 a11 a12 : Option Value) (x v : Int32) (tl : pLs) : o_iinc 13 v p C k (a0 :: a1 :: a2 :: a3 :: a4 :: a5 :: a6 :: a7 :: a8 :: a9 :: a10 :: a11 :: a12 :: some (.int x) :: tl) r L = k p (a0 :: a1 :: a2 :: a3 :: a4 :: a5 :: a6 :: a7 :: a8 :: a9 :: a10 :: a11 :: a12 :: some (.int (x + v)) :: tl) r L := rfl
theorem u_iret (x : Int32) : o_iret C k ls [.int x] L = some (some (.int x), L) := rfl
theorem u_zret (x : Int32) : o_zret C k ls [.int x] L = if x = nI 0 ∨ x = nI 1 then some (some (.int x), L) else none := rfl
theorem u_aret (x : Nat) : o_aret C k ls [.ref x] L = some (some (.ref x), L) := rfl
theorem u_vret  : o_vret C k ls [] L = some (none, L) := rfl
theorem u_lret (x : Int64) : o_lret C k ls [.long x] L = some (some (.long x), L) := rfl
theorem u_getI (ci j a : Nat) : o_getI ci j p C k ls (.ref a :: r) L = (p_gI L ci a j).bind fun x => k p ls (.int x :: r) L := rfl
theorem u_getR (ci j a : Nat) : o_getR ci j p C k ls (.ref a :: r) L = (p_gR L ci a j).bind fun x => k p ls (.ref x :: r) L := rfl
theorem u_putI (ci j a : Nat) (x : Int32) : o_putI ci j p C k ls (.int x :: .ref a :: r) L = (p_put L ci a j (.int x)).bind fun L' => k p ls r L' := rfl
theorem u_putZ (ci j a : Nat) (x : Int32) : o_putZ ci j p C k ls (.int x :: .ref a :: r) L = if x = nI 0 ∨ x = nI 1 then (p_put L ci a j (.int x)).bind fun L' => k p ls r L' else none := rfl
theorem u_putR (ci j a x : Nat) : o_putR ci j p C k ls (.ref x :: .ref a :: r) L = (p_put L ci a j (.ref x)).bind fun L' => k p ls r L' := rfl
theorem u_iald (a : Nat) (i : Int32) : o_iald p C k ls (.int i :: .ref a :: r) L = (p_ld L 0 a i).bind fun x => k p ls (.int x :: r) L := rfl
theorem u_zald (a : Nat) (i : Int32) : o_zald p C k ls (.int i :: .ref a :: r) L = if 4 ≤ a then (p_ld L 1 a i).bind fun x => k p ls (.int x :: r) L else none := rfl
theorem u_aald (a : Nat) (i : Int32) : o_aald p C k ls (.int i :: .ref a :: r) L = (p_ldR L a i).bind fun x => k p ls (.ref x :: r) L := rfl
theorem u_iast (a : Nat) (i x : Int32) : o_iast p C k ls (.int x :: .int i :: .ref a :: r) L = (p_st L 0 a i x).bind fun L' => k p ls r L' := rfl
theorem u_zast (a : Nat) (i x : Int32) : o_zast p C k ls (.int x :: .int i :: .ref a :: r) L = if x = nI 0 ∨ x = nI 1 then (p_st L 1 a i x).bind fun L' => k p ls r L' else none := rfl
theorem u_aast (a b : Nat) (i : Int32) : o_aast p C k ls (.ref b :: .int i :: .ref a :: r) L = (p_stR L a i b).bind fun L' => k p ls r L' := rfl
theorem u_alen (a : Nat) : o_alen p C k ls (.ref a :: r) L = (p_len L a).bind fun n => k p ls (.int (nI n) :: r) L := rfl
theorem u_newa (kd : Nat) (n : Int32) : o_newa kd p C k ls (.int n :: r) L = if n < nI 0 ∨ 1000 < n.toNatClampNeg then none else k p ls (.ref L.length :: r) (L ++ [.inl (kd, n.toNatClampNeg, fun _ => 0)]) := rfl
theorem u_newq (kd : Nat) (n : Int32) : o_newq kd p C k ls (.int n :: r) L = if n < nI 0 ∨ 1000 < n.toNatClampNeg then none else k p ls (.ref L.length :: r) (L ++ [.inr (.inl (kd, n.toNatClampNeg, fun _ => none))]) := rfl
theorem u_new (ci : Nat) (fs : List Value) : o_new ci fs p C k ls r L = k p ls (.ref L.length :: r) (L ++ [.inr (.inr (ci, fs))]) := rfl
theorem u_oinit_0 (a : Nat) : o_oinit p C k ls (.ref a :: []) L = k p ls [] L := rfl
theorem u_max_0 (x y : Int32) : o_max p C k ls (.int y :: .int x :: []) L = k p ls (.int (if x < y then y else x) :: []) L := rfl
theorem u_min_0 (x y : Int32) : o_min p C k ls (.int y :: .int x :: []) L = k p ls (.int (if y < x then y else x) :: []) L := rfl
theorem u_copy_0 (a0 a : Nat) (sp dp n : Int32) : o_copy p C k ls (.int n :: .int dp :: .ref a :: .int sp :: .ref a0 :: []) L = (p_cp L a0 sp a dp n).bind fun L' => k p ls [] L' := rfl
theorem u_invV_0_0 (ci μ' a : Nat)  : o_invV ci μ' 0 p C k ls (.ref a :: []) L = if p_recv L ci [.ref a] = true then (C μ' [.ref a] L).bind fun o => k p ls (o.1.toList ++ []) o.2 else none := by
  show (if p_recv L ci [.ref a] = true ∧ _ then _ else none) = _
  by_cases hh : p_recv L ci [.ref a] = true
  · rw [if_pos hh, if_pos ⟨hh, show 0 ≤ 4 by decide⟩]
  · rw [if_neg hh, if_neg (fun z => hh z.1)]
theorem u_invI_0_0 (μ' a : Nat)  : o_invI μ' 0 p C k ls (.ref a :: []) L = (C μ' [.ref a] L).bind fun o => k p ls (o.1.toList ++ []) o.2 := rfl
theorem u_invV_1_0 (ci μ' a : Nat) (y0 : Value)  : o_invV ci μ' 1 p C k ls (y0 :: .ref a :: []) L = if p_recv L ci [.ref a, y0] = true then (C μ' [.ref a, y0] L).bind fun o => k p ls (o.1.toList ++ []) o.2 else none := by
  show (if p_recv L ci [.ref a, y0] = true ∧ _ then _ else none) = _
  by_cases hh : p_recv L ci [.ref a, y0] = true
  · rw [if_pos hh, if_pos ⟨hh, show 0 ≤ 4 by decide⟩]
  · rw [if_neg hh, if_neg (fun z => hh z.1)]
theorem u_invI_1_0 (μ' a : Nat) (y0 : Value)  : o_invI μ' 1 p C k ls (y0 :: .ref a :: []) L = (C μ' [.ref a, y0] L).bind fun o => k p ls (o.1.toList ++ []) o.2 := rfl
theorem u_invS_1_0 (μ' : Nat) (y0 : Value)  : o_invS μ' 1 p C k ls (y0 :: []) L = (C μ' [y0] L).bind fun o => k p ls (o.1.toList ++ []) o.2 := rfl
theorem u_invV_2_0 (ci μ' a : Nat) (y0 y1 : Value)  : o_invV ci μ' 2 p C k ls (y1 :: y0 :: .ref a :: []) L = if p_recv L ci [.ref a, y0, y1] = true then (C μ' [.ref a, y0, y1] L).bind fun o => k p ls (o.1.toList ++ []) o.2 else none := by
  show (if p_recv L ci [.ref a, y0, y1] = true ∧ _ then _ else none) = _
  by_cases hh : p_recv L ci [.ref a, y0, y1] = true
  · rw [if_pos hh, if_pos ⟨hh, show 0 ≤ 4 by decide⟩]
  · rw [if_neg hh, if_neg (fun z => hh z.1)]
theorem u_invS_2_0 (μ' : Nat) (y0 y1 : Value)  : o_invS μ' 2 p C k ls (y1 :: y0 :: []) L = (C μ' [y0, y1] L).bind fun o => k p ls (o.1.toList ++ []) o.2 := rfl
theorem u_invV_3_0 (ci μ' a : Nat) (y0 y1 y2 : Value)  : o_invV ci μ' 3 p C k ls (y2 :: y1 :: y0 :: .ref a :: []) L = if p_recv L ci [.ref a, y0, y1, y2] = true then (C μ' [.ref a, y0, y1, y2] L).bind fun o => k p ls (o.1.toList ++ []) o.2 else none := by
  show (if p_recv L ci [.ref a, y0, y1, y2] = true ∧ _ then _ else none) = _
  by_cases hh : p_recv L ci [.ref a, y0, y1, y2] = true
  · rw [if_pos hh, if_pos ⟨hh, show 0 ≤ 4 by decide⟩]
  · rw [if_neg hh, if_neg (fun z => hh z.1)]
theorem u_invS_3_0 (μ' : Nat) (y0 y1 y2 : Value)  : o_invS μ' 3 p C k ls (y2 :: y1 :: y0 :: []) L = (C μ' [y0, y1, y2] L).bind fun o => k p ls (o.1.toList ++ []) o.2 := rfl
theorem u_invV_4_0 (ci μ' a : Nat) (y0 y1 y2 y3 : Value)  : o_invV ci μ' 4 p C k ls (y3 :: y2 :: y1 :: y0 :: .ref a :: []) L = if p_recv L ci [.ref a, y0, y1, y2, y3] = true then (C μ' [.ref a, y0, y1, y2, y3] L).bind fun o => k p ls (o.1.toList ++ []) o.2 else none := by
  show (if p_recv L ci [.ref a, y0, y1, y2, y3] = true ∧ _ then _ else none) = _
  by_cases hh : p_recv L ci [.ref a, y0, y1, y2, y3] = true
  · rw [if_pos hh, if_pos ⟨hh, show 0 ≤ 4 by decide⟩]
  · rw [if_neg hh, if_neg (fun z => hh z.1)]
theorem u_invS_4_0 (μ' : Nat) (y0 y1 y2 y3 : Value)  : o_invS μ' 4 p C k ls (y3 :: y2 :: y1 :: y0 :: []) L = (C μ' [y0, y1, y2, y3] L).bind fun o => k p ls (o.1.toList ++ []) o.2 := rfl
theorem u_oinit_1 (v0 : Value) (a : Nat) : o_oinit p C k ls (.ref a :: [v0]) L = k p ls [v0] L := rfl
theorem u_max_1 (v0 : Value) (x y : Int32) : o_max p C k ls (.int y :: .int x :: [v0]) L = k p ls (.int (if x < y then y else x) :: [v0]) L := rfl
theorem u_min_1 (v0 : Value) (x y : Int32) : o_min p C k ls (.int y :: .int x :: [v0]) L = k p ls (.int (if y < x then y else x) :: [v0]) L := rfl
theorem u_invV_0_1 (ci μ' a : Nat) (v0 : Value)  : o_invV ci μ' 0 p C k ls (.ref a :: [v0]) L = if p_recv L ci [.ref a] = true then (C μ' [.ref a] L).bind fun o => k p ls (o.1.toList ++ [v0]) o.2 else none := by
  show (if p_recv L ci [.ref a] = true ∧ _ then _ else none) = _
  by_cases hh : p_recv L ci [.ref a] = true
  · rw [if_pos hh, if_pos ⟨hh, show 1 ≤ 4 by decide⟩]
  · rw [if_neg hh, if_neg (fun z => hh z.1)]
theorem u_invI_0_1 (μ' a : Nat) (v0 : Value)  : o_invI μ' 0 p C k ls (.ref a :: [v0]) L = (C μ' [.ref a] L).bind fun o => k p ls (o.1.toList ++ [v0]) o.2 := rfl
theorem u_invV_1_1 (ci μ' a : Nat) (y0 : Value) (v0 : Value)  : o_invV ci μ' 1 p C k ls (y0 :: .ref a :: [v0]) L = if p_recv L ci [.ref a, y0] = true then (C μ' [.ref a, y0] L).bind fun o => k p ls (o.1.toList ++ [v0]) o.2 else none := by
  show (if p_recv L ci [.ref a, y0] = true ∧ _ then _ else none) = _
  by_cases hh : p_recv L ci [.ref a, y0] = true
  · rw [if_pos hh, if_pos ⟨hh, show 1 ≤ 4 by decide⟩]
  · rw [if_neg hh, if_neg (fun z => hh z.1)]
theorem u_invI_1_1 (μ' a : Nat) (y0 : Value) (v0 : Value)  : o_invI μ' 1 p C k ls (y0 :: .ref a :: [v0]) L = (C μ' [.ref a, y0] L).bind fun o => k p ls (o.1.toList ++ [v0]) o.2 := rfl
theorem u_invS_1_1 (μ' : Nat) (y0 : Value) (v0 : Value)  : o_invS μ' 1 p C k ls (y0 :: [v0]) L = (C μ' [y0] L).bind fun o => k p ls (o.1.toList ++ [v0]) o.2 := rfl
theorem u_invV_2_1 (ci μ' a : Nat) (y0 y1 : Value) (v0 : Value)  : o_invV ci μ' 2 p C k ls (y1 :: y0 :: .ref a :: [v0]) L = if p_recv L ci [.ref a, y0, y1] = true then (C μ' [.ref a, y0, y1] L).bind fun o => k p ls (o.1.toList ++ [v0]) o.2 else none := by
  show (if p_recv L ci [.ref a, y0, y1] = true ∧ _ then _ else none) = _
  by_cases hh : p_recv L ci [.ref a, y0, y1] = true
  · rw [if_pos hh, if_pos ⟨hh, show 1 ≤ 4 by decide⟩]
  · rw [if_neg hh, if_neg (fun z => hh z.1)]
theorem u_invS_2_1 (μ' : Nat) (y0 y1 : Value) (v0 : Value)  : o_invS μ' 2 p C k ls (y1 :: y0 :: [v0]) L = (C μ' [y0, y1] L).bind fun o => k p ls (o.1.toList ++ [v0]) o.2 := rfl
theorem u_invV_3_1 (ci μ' a : Nat) (y0 y1 y2 : Value) (v0 : Value)  : o_invV ci μ' 3 p C k ls (y2 :: y1 :: y0 :: .ref a :: [v0]) L = if p_recv L ci [.ref a, y0, y1, y2] = true then (C μ' [.ref a, y0, y1, y2] L).bind fun o => k p ls (o.1.toList ++ [v0]) o.2 else none := by
  show (if p_recv L ci [.ref a, y0, y1, y2] = true ∧ _ then _ else none) = _
  by_cases hh : p_recv L ci [.ref a, y0, y1, y2] = true
  · rw [if_pos hh, if_pos ⟨hh, show 1 ≤ 4 by decide⟩]
  · rw [if_neg hh, if_neg (fun z => hh z.1)]
theorem u_invS_3_1 (μ' : Nat) (y0 y1 y2 : Value) (v0 : Value)  : o_invS μ' 3 p C k ls (y2 :: y1 :: y0 :: [v0]) L = (C μ' [y0, y1, y2] L).bind fun o => k p ls (o.1.toList ++ [v0]) o.2 := rfl
theorem u_invV_4_1 (ci μ' a : Nat) (y0 y1 y2 y3 : Value) (v0 : Value)  : o_invV ci μ' 4 p C k ls (y3 :: y2 :: y1 :: y0 :: .ref a :: [v0]) L = if p_recv L ci [.ref a, y0, y1, y2, y3] = true then (C μ' [.ref a, y0, y1, y2, y3] L).bind fun o => k p ls (o.1.toList ++ [v0]) o.2 else none := by
  show (if p_recv L ci [.ref a, y0, y1, y2, y3] = true ∧ _ then _ else none) = _
  by_cases hh : p_recv L ci [.ref a, y0, y1, y2, y3] = true
  · rw [if_pos hh, if_pos ⟨hh, show 1 ≤ 4 by decide⟩]
  · rw [if_neg hh, if_neg (fun z => hh z.1)]
theorem u_invS_4_1 (μ' : Nat) (y0 y1 y2 y3 : Value) (v0 : Value)  : o_invS μ' 4 p C k ls (y3 :: y2 :: y1 :: y0 :: [v0]) L = (C μ' [y0, y1, y2, y3] L).bind fun o => k p ls (o.1.toList ++ [v0]) o.2 := rfl
theorem u_oinit_2 (v0 v1 : Value) (a : Nat) : o_oinit p C k ls (.ref a :: [v0, v1]) L = k p ls [v0, v1] L := rfl
theorem u_max_2 (v0 v1 : Value) (x y : Int32) : o_max p C k ls (.int y :: .int x :: [v0, v1]) L = k p ls (.int (if x < y then y else x) :: [v0, v1]) L := rfl
theorem u_min_2 (v0 v1 : Value) (x y : Int32) : o_min p C k ls (.int y :: .int x :: [v0, v1]) L = k p ls (.int (if y < x then y else x) :: [v0, v1]) L := rfl
theorem u_invV_0_2 (ci μ' a : Nat) (v0 v1 : Value)  : o_invV ci μ' 0 p C k ls (.ref a :: [v0, v1]) L = if p_recv L ci [.ref a] = true then (C μ' [.ref a] L).bind fun o => k p ls (o.1.toList ++ [v0, v1]) o.2 else none := by
  show (if p_recv L ci [.ref a] = true ∧ _ then _ else none) = _
  by_cases hh : p_recv L ci [.ref a] = true
  · rw [if_pos hh, if_pos ⟨hh, show 2 ≤ 4 by decide⟩]
  · rw [if_neg hh, if_neg (fun z => hh z.1)]
theorem u_invI_0_2 (μ' a : Nat) (v0 v1 : Value)  : o_invI μ' 0 p C k ls (.ref a :: [v0, v1]) L = (C μ' [.ref a] L).bind fun o => k p ls (o.1.toList ++ [v0, v1]) o.2 := rfl
theorem u_invV_1_2 (ci μ' a : Nat) (y0 : Value) (v0 v1 : Value)  : o_invV ci μ' 1 p C k ls (y0 :: .ref a :: [v0, v1]) L = if p_recv L ci [.ref a, y0] = true then (C μ' [.ref a, y0] L).bind fun o => k p ls (o.1.toList ++ [v0, v1]) o.2 else none := by
  show (if p_recv L ci [.ref a, y0] = true ∧ _ then _ else none) = _
  by_cases hh : p_recv L ci [.ref a, y0] = true
  · rw [if_pos hh, if_pos ⟨hh, show 2 ≤ 4 by decide⟩]
  · rw [if_neg hh, if_neg (fun z => hh z.1)]
theorem u_invI_1_2 (μ' a : Nat) (y0 : Value) (v0 v1 : Value)  : o_invI μ' 1 p C k ls (y0 :: .ref a :: [v0, v1]) L = (C μ' [.ref a, y0] L).bind fun o => k p ls (o.1.toList ++ [v0, v1]) o.2 := rfl
theorem u_invS_1_2 (μ' : Nat) (y0 : Value) (v0 v1 : Value)  : o_invS μ' 1 p C k ls (y0 :: [v0, v1]) L = (C μ' [y0] L).bind fun o => k p ls (o.1.toList ++ [v0, v1]) o.2 := rfl
theorem u_invV_2_2 (ci μ' a : Nat) (y0 y1 : Value) (v0 v1 : Value)  : o_invV ci μ' 2 p C k ls (y1 :: y0 :: .ref a :: [v0, v1]) L = if p_recv L ci [.ref a, y0, y1] = true then (C μ' [.ref a, y0, y1] L).bind fun o => k p ls (o.1.toList ++ [v0, v1]) o.2 else none := by
  show (if p_recv L ci [.ref a, y0, y1] = true ∧ _ then _ else none) = _
  by_cases hh : p_recv L ci [.ref a, y0, y1] = true
  · rw [if_pos hh, if_pos ⟨hh, show 2 ≤ 4 by decide⟩]
  · rw [if_neg hh, if_neg (fun z => hh z.1)]
theorem u_invS_2_2 (μ' : Nat) (y0 y1 : Value) (v0 v1 : Value)  : o_invS μ' 2 p C k ls (y1 :: y0 :: [v0, v1]) L = (C μ' [y0, y1] L).bind fun o => k p ls (o.1.toList ++ [v0, v1]) o.2 := rfl
theorem u_invV_3_2 (ci μ' a : Nat) (y0 y1 y2 : Value) (v0 v1 : Value)  : o_invV ci μ' 3 p C k ls (y2 :: y1 :: y0 :: .ref a :: [v0, v1]) L = if p_recv L ci [.ref a, y0, y1, y2] = true then (C μ' [.ref a, y0, y1, y2] L).bind fun o => k p ls (o.1.toList ++ [v0, v1]) o.2 else none := by
  show (if p_recv L ci [.ref a, y0, y1, y2] = true ∧ _ then _ else none) = _
  by_cases hh : p_recv L ci [.ref a, y0, y1, y2] = true
  · rw [if_pos hh, if_pos ⟨hh, show 2 ≤ 4 by decide⟩]
  · rw [if_neg hh, if_neg (fun z => hh z.1)]
theorem u_invS_3_2 (μ' : Nat) (y0 y1 y2 : Value) (v0 v1 : Value)  : o_invS μ' 3 p C k ls (y2 :: y1 :: y0 :: [v0, v1]) L = (C μ' [y0, y1, y2] L).bind fun o => k p ls (o.1.toList ++ [v0, v1]) o.2 := rfl
theorem u_invV_4_2 (ci μ' a : Nat) (y0 y1 y2 y3 : Value) (v0 v1 : Value)  : o_invV ci μ' 4 p C k ls (y3 :: y2 :: y1 :: y0 :: .ref a :: [v0, v1]) L = if p_recv L ci [.ref a, y0, y1, y2, y3] = true then (C μ' [.ref a, y0, y1, y2, y3] L).bind fun o => k p ls (o.1.toList ++ [v0, v1]) o.2 else none := by
  show (if p_recv L ci [.ref a, y0, y1, y2, y3] = true ∧ _ then _ else none) = _
  by_cases hh : p_recv L ci [.ref a, y0, y1, y2, y3] = true
  · rw [if_pos hh, if_pos ⟨hh, show 2 ≤ 4 by decide⟩]
  · rw [if_neg hh, if_neg (fun z => hh z.1)]
theorem u_invS_4_2 (μ' : Nat) (y0 y1 y2 y3 : Value) (v0 v1 : Value)  : o_invS μ' 4 p C k ls (y3 :: y2 :: y1 :: y0 :: [v0, v1]) L = (C μ' [y0, y1, y2, y3] L).bind fun o => k p ls (o.1.toList ++ [v0, v1]) o.2 := rfl
theorem u_oinit_3 (v0 v1 v2 : Value) (a : Nat) : o_oinit p C k ls (.ref a :: [v0, v1, v2]) L = k p ls [v0, v1, v2] L := rfl
theorem u_max_3 (v0 v1 v2 : Value) (x y : Int32) : o_max p C k ls (.int y :: .int x :: [v0, v1, v2]) L = k p ls (.int (if x < y then y else x) :: [v0, v1, v2]) L := rfl
theorem u_min_3 (v0 v1 v2 : Value) (x y : Int32) : o_min p C k ls (.int y :: .int x :: [v0, v1, v2]) L = k p ls (.int (if y < x then y else x) :: [v0, v1, v2]) L := rfl
theorem u_invV_0_3 (ci μ' a : Nat) (v0 v1 v2 : Value)  : o_invV ci μ' 0 p C k ls (.ref a :: [v0, v1, v2]) L = if p_recv L ci [.ref a] = true then (C μ' [.ref a] L).bind fun o => k p ls (o.1.toList ++ [v0, v1, v2]) o.2 else none := by
  show (if p_recv L ci [.ref a] = true ∧ _ then _ else none) = _
  by_cases hh : p_recv L ci [.ref a] = true
  · rw [if_pos hh, if_pos ⟨hh, show 3 ≤ 4 by decide⟩]
  · rw [if_neg hh, if_neg (fun z => hh z.1)]
theorem u_invI_0_3 (μ' a : Nat) (v0 v1 v2 : Value)  : o_invI μ' 0 p C k ls (.ref a :: [v0, v1, v2]) L = (C μ' [.ref a] L).bind fun o => k p ls (o.1.toList ++ [v0, v1, v2]) o.2 := rfl
theorem u_invV_1_3 (ci μ' a : Nat) (y0 : Value) (v0 v1 v2 : Value)  : o_invV ci μ' 1 p C k ls (y0 :: .ref a :: [v0, v1, v2]) L = if p_recv L ci [.ref a, y0] = true then (C μ' [.ref a, y0] L).bind fun o => k p ls (o.1.toList ++ [v0, v1, v2]) o.2 else none := by
  show (if p_recv L ci [.ref a, y0] = true ∧ _ then _ else none) = _
  by_cases hh : p_recv L ci [.ref a, y0] = true
  · rw [if_pos hh, if_pos ⟨hh, show 3 ≤ 4 by decide⟩]
  · rw [if_neg hh, if_neg (fun z => hh z.1)]
theorem u_invI_1_3 (μ' a : Nat) (y0 : Value) (v0 v1 v2 : Value)  : o_invI μ' 1 p C k ls (y0 :: .ref a :: [v0, v1, v2]) L = (C μ' [.ref a, y0] L).bind fun o => k p ls (o.1.toList ++ [v0, v1, v2]) o.2 := rfl
theorem u_invS_1_3 (μ' : Nat) (y0 : Value) (v0 v1 v2 : Value)  : o_invS μ' 1 p C k ls (y0 :: [v0, v1, v2]) L = (C μ' [y0] L).bind fun o => k p ls (o.1.toList ++ [v0, v1, v2]) o.2 := rfl
theorem u_invV_2_3 (ci μ' a : Nat) (y0 y1 : Value) (v0 v1 v2 : Value)  : o_invV ci μ' 2 p C k ls (y1 :: y0 :: .ref a :: [v0, v1, v2]) L = if p_recv L ci [.ref a, y0, y1] = true then (C μ' [.ref a, y0, y1] L).bind fun o => k p ls (o.1.toList ++ [v0, v1, v2]) o.2 else none := by
  show (if p_recv L ci [.ref a, y0, y1] = true ∧ _ then _ else none) = _
  by_cases hh : p_recv L ci [.ref a, y0, y1] = true
  · rw [if_pos hh, if_pos ⟨hh, show 3 ≤ 4 by decide⟩]
  · rw [if_neg hh, if_neg (fun z => hh z.1)]
theorem u_invS_2_3 (μ' : Nat) (y0 y1 : Value) (v0 v1 v2 : Value)  : o_invS μ' 2 p C k ls (y1 :: y0 :: [v0, v1, v2]) L = (C μ' [y0, y1] L).bind fun o => k p ls (o.1.toList ++ [v0, v1, v2]) o.2 := rfl
theorem u_invV_3_3 (ci μ' a : Nat) (y0 y1 y2 : Value) (v0 v1 v2 : Value)  : o_invV ci μ' 3 p C k ls (y2 :: y1 :: y0 :: .ref a :: [v0, v1, v2]) L = if p_recv L ci [.ref a, y0, y1, y2] = true then (C μ' [.ref a, y0, y1, y2] L).bind fun o => k p ls (o.1.toList ++ [v0, v1, v2]) o.2 else none := by
  show (if p_recv L ci [.ref a, y0, y1, y2] = true ∧ _ then _ else none) = _
  by_cases hh : p_recv L ci [.ref a, y0, y1, y2] = true
  · rw [if_pos hh, if_pos ⟨hh, show 3 ≤ 4 by decide⟩]
  · rw [if_neg hh, if_neg (fun z => hh z.1)]
theorem u_invS_3_3 (μ' : Nat) (y0 y1 y2 : Value) (v0 v1 v2 : Value)  : o_invS μ' 3 p C k ls (y2 :: y1 :: y0 :: [v0, v1, v2]) L = (C μ' [y0, y1, y2] L).bind fun o => k p ls (o.1.toList ++ [v0, v1, v2]) o.2 := rfl
theorem u_invV_4_3 (ci μ' a : Nat) (y0 y1 y2 y3 : Value) (v0 v1 v2 : Value)  : o_invV ci μ' 4 p C k ls (y3 :: y2 :: y1 :: y0 :: .ref a :: [v0, v1, v2]) L = if p_recv L ci [.ref a, y0, y1, y2, y3] = true then (C μ' [.ref a, y0, y1, y2, y3] L).bind fun o => k p ls (o.1.toList ++ [v0, v1, v2]) o.2 else none := by
  show (if p_recv L ci [.ref a, y0, y1, y2, y3] = true ∧ _ then _ else none) = _
  by_cases hh : p_recv L ci [.ref a, y0, y1, y2, y3] = true
  · rw [if_pos hh, if_pos ⟨hh, show 3 ≤ 4 by decide⟩]
  · rw [if_neg hh, if_neg (fun z => hh z.1)]
theorem u_invS_4_3 (μ' : Nat) (y0 y1 y2 y3 : Value) (v0 v1 v2 : Value)  : o_invS μ' 4 p C k ls (y3 :: y2 :: y1 :: y0 :: [v0, v1, v2]) L = (C μ' [y0, y1, y2, y3] L).bind fun o => k p ls (o.1.toList ++ [v0, v1, v2]) o.2 := rfl
theorem u_oinit_4 (v0 v1 v2 v3 : Value) (a : Nat) : o_oinit p C k ls (.ref a :: [v0, v1, v2, v3]) L = k p ls [v0, v1, v2, v3] L := rfl
theorem u_max_4 (v0 v1 v2 v3 : Value) (x y : Int32) : o_max p C k ls (.int y :: .int x :: [v0, v1, v2, v3]) L = k p ls (.int (if x < y then y else x) :: [v0, v1, v2, v3]) L := rfl
theorem u_min_4 (v0 v1 v2 v3 : Value) (x y : Int32) : o_min p C k ls (.int y :: .int x :: [v0, v1, v2, v3]) L = k p ls (.int (if y < x then y else x) :: [v0, v1, v2, v3]) L := rfl
theorem u_invV_0_4 (ci μ' a : Nat) (v0 v1 v2 v3 : Value)  : o_invV ci μ' 0 p C k ls (.ref a :: [v0, v1, v2, v3]) L = if p_recv L ci [.ref a] = true then (C μ' [.ref a] L).bind fun o => k p ls (o.1.toList ++ [v0, v1, v2, v3]) o.2 else none := by
  show (if p_recv L ci [.ref a] = true ∧ _ then _ else none) = _
  by_cases hh : p_recv L ci [.ref a] = true
  · rw [if_pos hh, if_pos ⟨hh, show 4 ≤ 4 by decide⟩]
  · rw [if_neg hh, if_neg (fun z => hh z.1)]
theorem u_invI_0_4 (μ' a : Nat) (v0 v1 v2 v3 : Value)  : o_invI μ' 0 p C k ls (.ref a :: [v0, v1, v2, v3]) L = (C μ' [.ref a] L).bind fun o => k p ls (o.1.toList ++ [v0, v1, v2, v3]) o.2 := rfl
theorem u_invV_1_4 (ci μ' a : Nat) (y0 : Value) (v0 v1 v2 v3 : Value)  : o_invV ci μ' 1 p C k ls (y0 :: .ref a :: [v0, v1, v2, v3]) L = if p_recv L ci [.ref a, y0] = true then (C μ' [.ref a, y0] L).bind fun o => k p ls (o.1.toList ++ [v0, v1, v2, v3]) o.2 else none := by
  show (if p_recv L ci [.ref a, y0] = true ∧ _ then _ else none) = _
  by_cases hh : p_recv L ci [.ref a, y0] = true
  · rw [if_pos hh, if_pos ⟨hh, show 4 ≤ 4 by decide⟩]
  · rw [if_neg hh, if_neg (fun z => hh z.1)]
theorem u_invI_1_4 (μ' a : Nat) (y0 : Value) (v0 v1 v2 v3 : Value)  : o_invI μ' 1 p C k ls (y0 :: .ref a :: [v0, v1, v2, v3]) L = (C μ' [.ref a, y0] L).bind fun o => k p ls (o.1.toList ++ [v0, v1, v2, v3]) o.2 := rfl
theorem u_invS_1_4 (μ' : Nat) (y0 : Value) (v0 v1 v2 v3 : Value)  : o_invS μ' 1 p C k ls (y0 :: [v0, v1, v2, v3]) L = (C μ' [y0] L).bind fun o => k p ls (o.1.toList ++ [v0, v1, v2, v3]) o.2 := rfl
theorem u_invV_2_4 (ci μ' a : Nat) (y0 y1 : Value) (v0 v1 v2 v3 : Value)  : o_invV ci μ' 2 p C k ls (y1 :: y0 :: .ref a :: [v0, v1, v2, v3]) L = if p_recv L ci [.ref a, y0, y1] = true then (C μ' [.ref a, y0, y1] L).bind fun o => k p ls (o.1.toList ++ [v0, v1, v2, v3]) o.2 else none := by
  show (if p_recv L ci [.ref a, y0, y1] = true ∧ _ then _ else none) = _
  by_cases hh : p_recv L ci [.ref a, y0, y1] = true
  · rw [if_pos hh, if_pos ⟨hh, show 4 ≤ 4 by decide⟩]
  · rw [if_neg hh, if_neg (fun z => hh z.1)]
theorem u_invS_2_4 (μ' : Nat) (y0 y1 : Value) (v0 v1 v2 v3 : Value)  : o_invS μ' 2 p C k ls (y1 :: y0 :: [v0, v1, v2, v3]) L = (C μ' [y0, y1] L).bind fun o => k p ls (o.1.toList ++ [v0, v1, v2, v3]) o.2 := rfl
theorem u_invV_3_4 (ci μ' a : Nat) (y0 y1 y2 : Value) (v0 v1 v2 v3 : Value)  : o_invV ci μ' 3 p C k ls (y2 :: y1 :: y0 :: .ref a :: [v0, v1, v2, v3]) L = if p_recv L ci [.ref a, y0, y1, y2] = true then (C μ' [.ref a, y0, y1, y2] L).bind fun o => k p ls (o.1.toList ++ [v0, v1, v2, v3]) o.2 else none := by
  show (if p_recv L ci [.ref a, y0, y1, y2] = true ∧ _ then _ else none) = _
  by_cases hh : p_recv L ci [.ref a, y0, y1, y2] = true
  · rw [if_pos hh, if_pos ⟨hh, show 4 ≤ 4 by decide⟩]
  · rw [if_neg hh, if_neg (fun z => hh z.1)]
theorem u_invS_3_4 (μ' : Nat) (y0 y1 y2 : Value) (v0 v1 v2 v3 : Value)  : o_invS μ' 3 p C k ls (y2 :: y1 :: y0 :: [v0, v1, v2, v3]) L = (C μ' [y0, y1, y2] L).bind fun o => k p ls (o.1.toList ++ [v0, v1, v2, v3]) o.2 := rfl
theorem u_invV_4_4 (ci μ' a : Nat) (y0 y1 y2 y3 : Value) (v0 v1 v2 v3 : Value)  : o_invV ci μ' 4 p C k ls (y3 :: y2 :: y1 :: y0 :: .ref a :: [v0, v1, v2, v3]) L = if p_recv L ci [.ref a, y0, y1, y2, y3] = true then (C μ' [.ref a, y0, y1, y2, y3] L).bind fun o => k p ls (o.1.toList ++ [v0, v1, v2, v3]) o.2 else none := by
  show (if p_recv L ci [.ref a, y0, y1, y2, y3] = true ∧ _ then _ else none) = _
  by_cases hh : p_recv L ci [.ref a, y0, y1, y2, y3] = true
  · rw [if_pos hh, if_pos ⟨hh, show 4 ≤ 4 by decide⟩]
  · rw [if_neg hh, if_neg (fun z => hh z.1)]
theorem u_invS_4_4 (μ' : Nat) (y0 y1 y2 y3 : Value) (v0 v1 v2 v3 : Value)  : o_invS μ' 4 p C k ls (y3 :: y2 :: y1 :: y0 :: [v0, v1, v2, v3]) L = (C μ' [y0, y1, y2, y3] L).bind fun o => k p ls (o.1.toList ++ [v0, v1, v2, v3]) o.2 := rfl
theorem u_ret1 (v : Value) (L' : pH) : ((some (some v, L') : pR).bind fun o => k p ls (o.1.toList ++ r) o.2) = k p ls (v :: r) L' := rfl
theorem u_ret0 (L' : pH) : ((some (none, L') : pR).bind fun o => k p ls (o.1.toList ++ r) o.2) = k p ls r L' := rfl
theorem u_bs {α : Type} (v : α) (f : α → pR) : (some v).bind f = f v := rfl
end u
