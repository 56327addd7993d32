/-! a bench as one thing; the changes that an order or a call makes: what they answer, and what is then -/
def Bn : Type := Nat × Nat × Nat × Nat × Nat × (Nat → Nat) × (Nat → Option Nat) × (Nat → Option Nat) × (Nat → Nat → Int32)
def mB (n ne fa m F : Nat) (g : Nat → Nat) (st si : Nat → Option Nat) (r : Nat → Nat → Int32) : Bn := (n, ne, fa, m, F, g, st, si, r)
def Bn.n (b : Bn) : Nat := b.1
def Bn.ne (b : Bn) : Nat := b.2.1
def Bn.fa (b : Bn) : Nat := b.2.2.1
def Bn.m (b : Bn) : Nat := b.2.2.2.1
def Bn.F (b : Bn) : Nat := b.2.2.2.2.1
def Bn.g (b : Bn) : Nat → Nat := b.2.2.2.2.2.1
def Bn.st (b : Bn) : Nat → Option Nat := b.2.2.2.2.2.2.1
def Bn.si (b : Bn) : Nat → Option Nat := b.2.2.2.2.2.2.2.1
def Bn.r (b : Bn) : Nat → Nat → Int32 := b.2.2.2.2.2.2.2.2
abbrev BI (w : Nat → Nat → Int32) (b : Bn) : Prop := CI w b.n b.ne b.fa b.m b.F b.g b.st b.si b.r
abbrev BL (b : Bn) : lT := lay b.n b.g b.F
def tkF (si : Nat → Option Nat) (n v : Nat) : Bool := decide (∃ s, s < n ∧ v ≤ s ∧ si s ≠ none)
def sSet (b : Bn) (s v : Int32) : Int32 × Bn :=
  if s = nI 0 then (match idx v 17 with
    | none => (nM 2, b)
    | some k => if k < 2 then (nM 2, b) else if 0 < b.F ∨ tkF b.si b.n k = true then (nM 5, b) else (nI b.n, (mB (k) b.ne b.fa b.m b.F b.g b.st b.si b.r)))
  else if s = nI 1 then (match idx v 6 with
    | none => (nM 2, b)
    | some k => (nI b.ne, (mB b.n (k) b.fa b.m b.F b.g b.st b.si b.r)))
  else if s = nI 2 then (match idx v 10 with
    | none => (nM 2, b)
    | some k => (nI b.fa, (mB b.n b.ne (k) b.m b.F b.g b.st b.si b.r)))
  else (nM 2, b)
def sCome (b : Bn) : Int32 × Bn := if b.m = 12 then (nM 4, b) else (nI b.m, (mB b.n b.ne b.fa (b.m + 1) b.F b.g b.st b.si b.r))
def sSit (b : Bn) (c s : Int32) : Int32 × Bn := match idx c b.m, idx s b.n with
  | some c, some s => if 0 < b.F ∨ b.si s ≠ none then (nM 5, b) else (oI (b.st c), (mB b.n b.ne b.fa b.m b.F b.g (fun d => if d = c then some s else b.st d) (fun t => if t = s then some c else if b.st c = some t then none else b.si t) b.r))
  | _, _ => (nM 1, b)
def sUp (b : Bn) (c : Int32) : Int32 × Bn := match idx c b.m with
  | none => (nM 1, b)
  | some c => match b.st c with
    | none => (nM 5, b)
    | some s => if 0 < b.F then (nM 5, b) else (nI s, (mB b.n b.ne b.fa b.m b.F b.g (fun d => if d = c then none else b.st d) (fun t => if t = s then none else b.si t) b.r))
def one (o : Option Nat) : Nat := match o with
  | none => 0
  | some _ => 1
def sSwap (b : Bn) (s t : Int32) : Int32 × Bn := match idx s b.n, idx t b.n with
  | some s, some t => if s = t then (nM 2, b) else if 0 < b.F then (nM 5, b) else (nI (one (b.si s) + one (b.si t)), (mB b.n b.ne b.fa b.m b.F b.g (fun c => if b.st c = some s then some t else if b.st c = some t then some s else b.st c) (siX b.si s t) b.r))
  | _, _ => (nM 1, b)
def sTell (b : Bn) (c o how : Int32) : Int32 × Bn := match idx c b.m, idx o b.m with
  | some c, some o => if c = o ∨ how < nM 1 ∨ nI 1 < how then (nM 2, b) else (b.r c o + nI 1, (mB b.n b.ne b.fa b.m b.F b.g b.st b.si (r1 (r1 b.r c o how) o c how)))
  | _, _ => (nM 1, b)
def gapOf (b : Bn) (x : Int32) : Option Nat := match idx x (lLen (BL b)) with
  | none => none
  | some x => if x = 0 then none else some x
def foesIn (b : Bn) (T : lT) : Nat := cnt (pairC b.si b.r T (nM 1)) b.n
def oneMore (b : Bn) (x : Nat) : Bn := (mB b.n b.ne b.fa b.m (b.F + 1) (fun k => if k = b.F then x else b.g k) b.st b.si b.r)
def sFold (b : Bn) (x : Int32) : Int32 × Bn := match gapOf b x with
  | none => (nM 2, b)
  | some x => if 5 ≤ b.F then (nM 4, b) else if 0 < foesIn b (lFold (BL b) x) then (nM 5, b) else (nI (lLen (lFold (BL b) x)), oneMore b x)
def sPress (b : Bn) (x : Int32) : Int32 × Bn := match gapOf b x with
  | none => (nM 2, b)
  | some x => if 5 ≤ b.F then (nM 4, b) else (nI (foesIn b (lFold (BL b) x)), oneMore b x)
def sUnfold (b : Bn) : Int32 × Bn := if b.F = 0 then (nM 5, b) else (nI (b.g (b.F - 1)), (mB b.n b.ne b.fa b.m (b.F - 1) b.g b.st b.si b.r))
section chg
variable {L : Nat} {xs : Nat → Int32} {w : Nat → Nat → Int32} {h : Nat → Option Nat} {b : Bn}
theorem frN_u (w : Nat → Nat → Int32) {a k : Nat} (x : Int32) (ha : 5 ≤ a) (hb : a ≤ 10) : frN w (mUp w a k x) := fun c hc => mSet_n w _ (by omega)
theorem LYc_eq {w w' : Nat → Nat → Int32} {A : Nat} {T : lT} (hl : LYc w A T) (he : ∀ b, 71 < b → b < 102 → w' b = w b) (h1 : 72 ≤ A) (h2 : A + 4 < 102) : LYc w' A T := by
  unfold LYc LW at *
  rw [he A (by omega) (by omega), he (A + 1) (by omega) (by omega), he (A + 2) (by omega) (by omega), he (A + 3) (by omega) (by omega), he (A + 4) (by omega) (by omega)]
  exact hl
/-- what is now has changed, the lays not -/
theorem BI_now {w' : Nat → Nat → Int32} (hB : BI w b) (b' : Bn) (he : ∀ c, 71 < c → c < 102 → w' c = w c) (hF : b'.F ≤ b.F) (hl : ∀ f, f ≤ b'.F → lay b'.n b'.g f = lay b.n b.g f) (hV : VB b'.n b'.ne b'.fa b'.m b'.F b'.g b'.st b'.si b'.r) (hS : StA w' 5 b'.n b'.ne b'.fa b'.m b'.F b'.g b'.st b'.si b'.r) : BI w' b' := by
  have hF5 : b.F ≤ 5 := hB.1.1.2.2.2.2.2
  refine ⟨hV, hS, fun f hf => ?_, fun f hf => ?_⟩
  · rw [hl f hf]
    exact LYc_eq (hB.2.2.1 f (by omega)) he (by omega) (by omega)
  · rw [he _ (by omega) (by omega)]
    exact hB.2.2.2 f hf
theorem c_come (dd : Nat) (hB : BI w b) : ∃ w', p_K (dd + 1) 55 [.ref 4] (hp L xs w h) = some (some (.int (sCome b).1), hp L xs w' h) ∧ BI w' (sCome b).2 ∧ frN w w' := by
  have hm : w 5 5 = nI b.m := hB.2.1.2.2.2.2.1
  have hm12 : b.m ≤ 12 := hB.1.1.2.2.2.2.1
  unfold sCome
  rw [k55]
  by_cases q : b.m = 12
  · have hge : ¬ nI 12 < nI 12 := by decide
    refine ⟨w, ?_, by rw [if_pos q]; exact hB, frN_r w⟩
    simp only [S55_0, u_push, u_goto, u_gets, u_iadd, u_isub, u_imul, u_iand, u_ior, u_ixor, u_ishl, u_ishr, u_iushr, u_land, u_lor, u_ladd, u_lmul, u_lcmp, u_lushr, u_lshl, u_i2l, u_l2i, u_dupr, u_dup2i, u_popi, u_idiv, u_irem, u_ifeq, u_iceq, u_ifne, u_icne, u_iflt, u_iclt, u_ifge, u_icge, u_ifgt, u_icgt, u_ifle, u_icle, u_switch, u_iload_0, u_istore_0, u_aload_0, u_astore_0, u_iinc_0, u_iload_1, u_istore_1, u_aload_1, u_astore_1, u_lload_1, u_lstore_1, u_iinc_1, u_iload_2, u_istore_2, u_aload_2, u_astore_2, u_lload_2, u_lstore_2, u_iinc_2, u_iload_3, u_istore_3, u_aload_3, u_astore_3, u_lload_3, u_lstore_3, u_iinc_3, u_iload_4, u_istore_4, u_aload_4, u_astore_4, u_lload_4, u_lstore_4, u_iinc_4, u_iload_5, u_istore_5, u_aload_5, u_astore_5, u_lload_5, u_lstore_5, u_iinc_5, u_iload_6, u_istore_6, u_aload_6, u_astore_6, u_iinc_6, u_iload_7, u_istore_7, u_aload_7, u_astore_7, u_iinc_7, u_iload_8, u_istore_8, u_aload_8, u_astore_8, u_iinc_8, u_iload_9, u_istore_9, u_aload_9, u_astore_9, u_lload_9, u_lstore_9, u_iinc_9, u_iload_10, u_istore_10, u_aload_10, u_astore_10, u_iinc_10, u_iload_11, u_istore_11, u_aload_11, u_astore_11, u_iinc_11, u_iload_12, u_istore_12, u_aload_12, u_astore_12, u_iinc_12, u_iload_13, u_istore_13, u_aload_13, u_astore_13, u_iinc_13, u_iret, u_zret, u_aret, u_vret, u_lret, u_getI, u_getR, u_putI, u_putZ, u_putR, u_iald, u_zald, u_aald, u_iast, u_zast, u_aast, u_alen, u_newa, u_newq, u_new, u_oinit_0, u_max_0, u_min_0, u_copy_0, u_invV_0_0, u_invI_0_0, u_invV_1_0, u_invI_1_0, u_invS_1_0, u_invV_2_0, u_invS_2_0, u_invV_3_0, u_invS_3_0, u_invV_4_0, u_invS_4_0, u_oinit_1, u_max_1, u_min_1, u_invV_0_1, u_invI_0_1, u_invV_1_1, u_invI_1_1, u_invS_1_1, u_invV_2_1, u_invS_2_1, u_invV_3_1, u_invS_3_1, u_invV_4_1, u_invS_4_1, u_oinit_2, u_max_2, u_min_2, u_invV_0_2, u_invI_0_2, u_invV_1_2, u_invI_1_2, u_invS_1_2, u_invV_2_2, u_invS_2_2, u_invV_3_2, u_invS_3_2, u_invV_4_2, u_invS_4_2, u_oinit_3, u_max_3, u_min_3, u_invV_0_3, u_invI_0_3, u_invV_1_3, u_invI_1_3, u_invS_1_3, u_invV_2_3, u_invS_2_3, u_invV_3_3, u_invS_3_3, u_invV_4_3, u_invS_4_3, u_oinit_4, u_max_4, u_min_4, u_invV_0_4, u_invI_0_4, u_invV_1_4, u_invI_1_4, u_invS_1_4, u_invV_2_4, u_invS_2_4, u_invV_3_4, u_invS_3_4, u_invV_4_4, u_invS_4_4, u_ret1, u_ret0, u_bs, ↓reduceIte, if_true, if_false, Option.toList_none, Option.toList_some, List.nil_append, List.cons_append, true_or, or_true, false_or, or_false, not_true_eq_false, not_false_eq_true, and_true, true_and, and_false, false_and, p_sw, Nat.reduceEqDiff, Nat.reduceLeDiff, Nat.reduceAdd, Nat.reduceSub, Nat.reduceMul, eq_self, rv_4, gR_4_0, gR_4_1, gI_4_2, gR_4_3, gR_4_4, gR_4_5, gR_4_6, gR_4_7, rv_5, gR_5_0, gR_5_1, gR_5_2, gR_5_3, gR_5_4, gI_5_5, gI_5_6, rv_15, gR_15_0, gI_15_1, gI_15_2, gI_15_3, gI_15_4, gI_15_5, rv_16, gR_16_0, gI_16_1, rv_18, gR_18_0, gR_18_1, gR_18_2, gR_18_3, gR_18_4, gI_18_5, gI_18_6, rv_24, gR_24_0, gR_24_1, gR_24_2, gR_24_3, gR_24_4, gI_24_5, gI_24_6, rv_30, gR_30_0, gR_30_1, gR_30_2, gR_30_3, gR_30_4, gI_30_5, gI_30_6, rv_36, gR_36_0, gR_36_1, gR_36_2, gR_36_3, gR_36_4, gI_36_5, gI_36_6, rv_42, gR_42_0, gR_42_1, gR_42_2, gR_42_3, gR_42_4, gI_42_5, gI_42_6, rv_48, gR_48_0, gR_48_1, gR_48_2, gR_48_3, gR_48_4, gI_48_5, gI_48_6, rv_54, gR_54_0, gR_54_1, gR_54_2, gR_54_3, gR_54_4, gI_54_5, gI_54_6, rv_60, gR_60_0, gR_60_1, gR_60_2, gR_60_3, gR_60_4, gI_60_5, gI_60_6, rv_66, gR_66_0, gR_66_1, gR_66_2, gR_66_3, gR_66_4, gI_66_5, gI_66_6, rv_72, gI_72_0, gI_72_1, gR_72_2, gR_72_3, gR_72_4, gR_72_5, rv_77, gI_77_0, gI_77_1, gR_77_2, gR_77_3, gR_77_4, gR_77_5, rv_82, gI_82_0, gI_82_1, gR_82_2, gR_82_3, gR_82_4, gR_82_5, rv_87, gI_87_0, gI_87_1, gR_87_2, gR_87_3, gR_87_4, gR_87_5, rv_92, gI_92_0, gI_92_1, gR_92_2, gR_92_3, gR_92_4, gR_92_5, rv_97, gI_97_0, gI_97_1, gR_97_2, gR_97_3, gR_97_4, gR_97_5, hm, hge, q]
  · have hlt : nI b.m < nI 12 := by rw [aLt (by omega) (by omega)]; omega
    refine ⟨mUp w 5 5 (nI (b.m + 1)), ?_, ?_, frN_u w _ (by omega) (by omega)⟩
    · simp only [S55_0, u_push, u_goto, u_gets, u_iadd, u_isub, u_imul, u_iand, u_ior, u_ixor, u_ishl, u_ishr, u_iushr, u_land, u_lor, u_ladd, u_lmul, u_lcmp, u_lushr, u_lshl, u_i2l, u_l2i, u_dupr, u_dup2i, u_popi, u_idiv, u_irem, u_ifeq, u_iceq, u_ifne, u_icne, u_iflt, u_iclt, u_ifge, u_icge, u_ifgt, u_icgt, u_ifle, u_icle, u_switch, u_iload_0, u_istore_0, u_aload_0, u_astore_0, u_iinc_0, u_iload_1, u_istore_1, u_aload_1, u_astore_1, u_lload_1, u_lstore_1, u_iinc_1, u_iload_2, u_istore_2, u_aload_2, u_astore_2, u_lload_2, u_lstore_2, u_iinc_2, u_iload_3, u_istore_3, u_aload_3, u_astore_3, u_lload_3, u_lstore_3, u_iinc_3, u_iload_4, u_istore_4, u_aload_4, u_astore_4, u_lload_4, u_lstore_4, u_iinc_4, u_iload_5, u_istore_5, u_aload_5, u_astore_5, u_lload_5, u_lstore_5, u_iinc_5, u_iload_6, u_istore_6, u_aload_6, u_astore_6, u_iinc_6, u_iload_7, u_istore_7, u_aload_7, u_astore_7, u_iinc_7, u_iload_8, u_istore_8, u_aload_8, u_astore_8, u_iinc_8, u_iload_9, u_istore_9, u_aload_9, u_astore_9, u_lload_9, u_lstore_9, u_iinc_9, u_iload_10, u_istore_10, u_aload_10, u_astore_10, u_iinc_10, u_iload_11, u_istore_11, u_aload_11, u_astore_11, u_iinc_11, u_iload_12, u_istore_12, u_aload_12, u_astore_12, u_iinc_12, u_iload_13, u_istore_13, u_aload_13, u_astore_13, u_iinc_13, u_iret, u_zret, u_aret, u_vret, u_lret, u_getI, u_getR, u_putI, u_putZ, u_putR, u_iald, u_zald, u_aald, u_iast, u_zast, u_aast, u_alen, u_newa, u_newq, u_new, u_oinit_0, u_max_0, u_min_0, u_copy_0, u_invV_0_0, u_invI_0_0, u_invV_1_0, u_invI_1_0, u_invS_1_0, u_invV_2_0, u_invS_2_0, u_invV_3_0, u_invS_3_0, u_invV_4_0, u_invS_4_0, u_oinit_1, u_max_1, u_min_1, u_invV_0_1, u_invI_0_1, u_invV_1_1, u_invI_1_1, u_invS_1_1, u_invV_2_1, u_invS_2_1, u_invV_3_1, u_invS_3_1, u_invV_4_1, u_invS_4_1, u_oinit_2, u_max_2, u_min_2, u_invV_0_2, u_invI_0_2, u_invV_1_2, u_invI_1_2, u_invS_1_2, u_invV_2_2, u_invS_2_2, u_invV_3_2, u_invS_3_2, u_invV_4_2, u_invS_4_2, u_oinit_3, u_max_3, u_min_3, u_invV_0_3, u_invI_0_3, u_invV_1_3, u_invI_1_3, u_invS_1_3, u_invV_2_3, u_invS_2_3, u_invV_3_3, u_invS_3_3, u_invV_4_3, u_invS_4_3, u_oinit_4, u_max_4, u_min_4, u_invV_0_4, u_invI_0_4, u_invV_1_4, u_invI_1_4, u_invS_1_4, u_invV_2_4, u_invS_2_4, u_invV_3_4, u_invS_3_4, u_invV_4_4, u_invS_4_4, u_ret1, u_ret0, u_bs, ↓reduceIte, if_true, if_false, Option.toList_none, Option.toList_some, List.nil_append, List.cons_append, true_or, or_true, false_or, or_false, not_true_eq_false, not_false_eq_true, and_true, true_and, and_false, false_and, p_sw, Nat.reduceEqDiff, Nat.reduceLeDiff, Nat.reduceAdd, Nat.reduceSub, Nat.reduceMul, eq_self, rv_4, gR_4_0, gR_4_1, gI_4_2, gR_4_3, gR_4_4, gR_4_5, gR_4_6, gR_4_7, rv_5, gR_5_0, gR_5_1, gR_5_2, gR_5_3, gR_5_4, gI_5_5, gI_5_6, rv_15, gR_15_0, gI_15_1, gI_15_2, gI_15_3, gI_15_4, gI_15_5, rv_16, gR_16_0, gI_16_1, rv_18, gR_18_0, gR_18_1, gR_18_2, gR_18_3, gR_18_4, gI_18_5, gI_18_6, rv_24, gR_24_0, gR_24_1, gR_24_2, gR_24_3, gR_24_4, gI_24_5, gI_24_6, rv_30, gR_30_0, gR_30_1, gR_30_2, gR_30_3, gR_30_4, gI_30_5, gI_30_6, rv_36, gR_36_0, gR_36_1, gR_36_2, gR_36_3, gR_36_4, gI_36_5, gI_36_6, rv_42, gR_42_0, gR_42_1, gR_42_2, gR_42_3, gR_42_4, gI_42_5, gI_42_6, rv_48, gR_48_0, gR_48_1, gR_48_2, gR_48_3, gR_48_4, gI_48_5, gI_48_6, rv_54, gR_54_0, gR_54_1, gR_54_2, gR_54_3, gR_54_4, gI_54_5, gI_54_6, rv_60, gR_60_0, gR_60_1, gR_60_2, gR_60_3, gR_60_4, gI_60_5, gI_60_6, rv_66, gR_66_0, gR_66_1, gR_66_2, gR_66_3, gR_66_4, gI_66_5, gI_66_6, rv_72, gI_72_0, gI_72_1, gR_72_2, gR_72_3, gR_72_4, gR_72_5, rv_77, gI_77_0, gI_77_1, gR_77_2, gR_77_3, gR_77_4, gR_77_5, rv_82, gI_82_0, gI_82_1, gR_82_2, gR_82_3, gR_82_4, gR_82_5, rv_87, gI_87_0, gI_87_1, gR_87_2, gR_87_3, gR_87_4, gR_87_5, rv_92, gI_92_0, gI_92_1, gR_92_2, gR_92_3, gR_92_4, gR_92_5, rv_97, gI_97_0, gI_97_1, gR_97_2, gR_97_3, gR_97_4, gR_97_5, hm, hlt, q, aAdd, pt_5_5, mSet_s, mUp, upd, aSub (Nat.le_add_left 1 b.m), Nat.add_sub_cancel]
    · rw [if_neg q]
      have hB0 := hB
      obtain ⟨⟨⟨v1, v2, v3, v4, v5, v6⟩, v7, v8, v9, v10, v11, v12⟩, ⟨a1, a2, a3, a4, a5, a6⟩, c3, c4⟩ := hB
      have hw : ∀ c, c ≠ 5 → mUp w 5 5 (nI (b.m + 1)) c = w c := fun c hc => mSet_n w _ hc
      refine BI_now hB0 _ (fun c h1 h2 => hw c (by omega)) (Nat.le_refl _) (fun f hf => rfl) ⟨⟨v1, v2, v3, v4, by show b.m + 1 ≤ 12; omega, v6⟩, v7, fun s c hs => ?_, v9, v10, fun c o hco => v11 c o ?_, v12⟩ ⟨a1, a2, a3, a4, ?_, ?_⟩
      · have := v8 s c hs
        exact ⟨this.1, by show c < b.m + 1; omega⟩
      · rcases hco with z | z
        · exact Or.inl (by have : b.m + 1 ≤ c := z; omega)
        · exact Or.inr (by have : b.m + 1 ≤ o := z; omega)
      · show mUp w 5 5 (nI (b.m + 1)) 5 5 = nI (b.m + 1)
        simp only [mUp, mSet_s, upd, if_true]
      · show mUp w 5 5 (nI (b.m + 1)) 5 6 = nI b.F
        simp only [mUp, mSet_s, upd, Nat.reduceEqDiff, if_false]
        exact a6
theorem c_unfold (dd : Nat) (hB : BI w b) : ∃ w', p_K (dd + 1) 62 [.ref 4] (hp L xs w h) = some (some (.int (sUnfold b).1), hp L xs w' h) ∧ BI w' (sUnfold b).2 ∧ frN w w' := by
  have hF : w 5 6 = nI b.F := hB.2.1.2.2.2.2.2
  have hF5 : b.F ≤ 5 := hB.1.1.2.2.2.2.2
  unfold sUnfold
  rw [k62]
  by_cases q : b.F = 0
  · refine ⟨w, ?_, by rw [if_pos q]; exact hB, frN_r w⟩
    simp only [S62_0, u_push, u_goto, u_gets, u_iadd, u_isub, u_imul, u_iand, u_ior, u_ixor, u_ishl, u_ishr, u_iushr, u_land, u_lor, u_ladd, u_lmul, u_lcmp, u_lushr, u_lshl, u_i2l, u_l2i, u_dupr, u_dup2i, u_popi, u_idiv, u_irem, u_ifeq, u_iceq, u_ifne, u_icne, u_iflt, u_iclt, u_ifge, u_icge, u_ifgt, u_icgt, u_ifle, u_icle, u_switch, u_iload_0, u_istore_0, u_aload_0, u_astore_0, u_iinc_0, u_iload_1, u_istore_1, u_aload_1, u_astore_1, u_lload_1, u_lstore_1, u_iinc_1, u_iload_2, u_istore_2, u_aload_2, u_astore_2, u_lload_2, u_lstore_2, u_iinc_2, u_iload_3, u_istore_3, u_aload_3, u_astore_3, u_lload_3, u_lstore_3, u_iinc_3, u_iload_4, u_istore_4, u_aload_4, u_astore_4, u_lload_4, u_lstore_4, u_iinc_4, u_iload_5, u_istore_5, u_aload_5, u_astore_5, u_lload_5, u_lstore_5, u_iinc_5, u_iload_6, u_istore_6, u_aload_6, u_astore_6, u_iinc_6, u_iload_7, u_istore_7, u_aload_7, u_astore_7, u_iinc_7, u_iload_8, u_istore_8, u_aload_8, u_astore_8, u_iinc_8, u_iload_9, u_istore_9, u_aload_9, u_astore_9, u_lload_9, u_lstore_9, u_iinc_9, u_iload_10, u_istore_10, u_aload_10, u_astore_10, u_iinc_10, u_iload_11, u_istore_11, u_aload_11, u_astore_11, u_iinc_11, u_iload_12, u_istore_12, u_aload_12, u_astore_12, u_iinc_12, u_iload_13, u_istore_13, u_aload_13, u_astore_13, u_iinc_13, u_iret, u_zret, u_aret, u_vret, u_lret, u_getI, u_getR, u_putI, u_putZ, u_putR, u_iald, u_zald, u_aald, u_iast, u_zast, u_aast, u_alen, u_newa, u_newq, u_new, u_oinit_0, u_max_0, u_min_0, u_copy_0, u_invV_0_0, u_invI_0_0, u_invV_1_0, u_invI_1_0, u_invS_1_0, u_invV_2_0, u_invS_2_0, u_invV_3_0, u_invS_3_0, u_invV_4_0, u_invS_4_0, u_oinit_1, u_max_1, u_min_1, u_invV_0_1, u_invI_0_1, u_invV_1_1, u_invI_1_1, u_invS_1_1, u_invV_2_1, u_invS_2_1, u_invV_3_1, u_invS_3_1, u_invV_4_1, u_invS_4_1, u_oinit_2, u_max_2, u_min_2, u_invV_0_2, u_invI_0_2, u_invV_1_2, u_invI_1_2, u_invS_1_2, u_invV_2_2, u_invS_2_2, u_invV_3_2, u_invS_3_2, u_invV_4_2, u_invS_4_2, u_oinit_3, u_max_3, u_min_3, u_invV_0_3, u_invI_0_3, u_invV_1_3, u_invI_1_3, u_invS_1_3, u_invV_2_3, u_invS_2_3, u_invV_3_3, u_invS_3_3, u_invV_4_3, u_invS_4_3, u_oinit_4, u_max_4, u_min_4, u_invV_0_4, u_invI_0_4, u_invV_1_4, u_invI_1_4, u_invS_1_4, u_invV_2_4, u_invS_2_4, u_invV_3_4, u_invS_3_4, u_invV_4_4, u_invS_4_4, u_ret1, u_ret0, u_bs, ↓reduceIte, if_true, if_false, Option.toList_none, Option.toList_some, List.nil_append, List.cons_append, true_or, or_true, false_or, or_false, not_true_eq_false, not_false_eq_true, and_true, true_and, and_false, false_and, p_sw, Nat.reduceEqDiff, Nat.reduceLeDiff, Nat.reduceAdd, Nat.reduceSub, Nat.reduceMul, eq_self, rv_4, gR_4_0, gR_4_1, gI_4_2, gR_4_3, gR_4_4, gR_4_5, gR_4_6, gR_4_7, rv_5, gR_5_0, gR_5_1, gR_5_2, gR_5_3, gR_5_4, gI_5_5, gI_5_6, rv_15, gR_15_0, gI_15_1, gI_15_2, gI_15_3, gI_15_4, gI_15_5, rv_16, gR_16_0, gI_16_1, rv_18, gR_18_0, gR_18_1, gR_18_2, gR_18_3, gR_18_4, gI_18_5, gI_18_6, rv_24, gR_24_0, gR_24_1, gR_24_2, gR_24_3, gR_24_4, gI_24_5, gI_24_6, rv_30, gR_30_0, gR_30_1, gR_30_2, gR_30_3, gR_30_4, gI_30_5, gI_30_6, rv_36, gR_36_0, gR_36_1, gR_36_2, gR_36_3, gR_36_4, gI_36_5, gI_36_6, rv_42, gR_42_0, gR_42_1, gR_42_2, gR_42_3, gR_42_4, gI_42_5, gI_42_6, rv_48, gR_48_0, gR_48_1, gR_48_2, gR_48_3, gR_48_4, gI_48_5, gI_48_6, rv_54, gR_54_0, gR_54_1, gR_54_2, gR_54_3, gR_54_4, gI_54_5, gI_54_6, rv_60, gR_60_0, gR_60_1, gR_60_2, gR_60_3, gR_60_4, gI_60_5, gI_60_6, rv_66, gR_66_0, gR_66_1, gR_66_2, gR_66_3, gR_66_4, gI_66_5, gI_66_6, rv_72, gI_72_0, gI_72_1, gR_72_2, gR_72_3, gR_72_4, gR_72_5, rv_77, gI_77_0, gI_77_1, gR_77_2, gR_77_3, gR_77_4, gR_77_5, rv_82, gI_82_0, gI_82_1, gR_82_2, gR_82_3, gR_82_4, gR_82_5, rv_87, gI_87_0, gI_87_1, gR_87_2, gR_87_3, gR_87_4, gR_87_5, rv_92, gI_92_0, gI_92_1, gR_92_2, gR_92_3, gR_92_4, gR_92_5, rv_97, gI_97_0, gI_97_1, gR_97_2, gR_97_3, gR_97_4, gR_97_5, hF, q]
  · have hne : ¬ nI b.F = nI 0 := by rw [aEq (by omega) (by omega)]; exact q
    have hg : w 10 (b.F - 1) = nI (b.g (b.F - 1)) := hB.2.1.2.2.2.1 _ (by omega)
    have hs : nI b.F - nI 1 = nI (b.F - 1) := aSub (by omega)
    refine ⟨mUp w 5 6 (nI (b.F - 1)), ?_, ?_, frN_u w _ (by omega) (by omega)⟩
    · have hld := ld_10 L xs (mUp w 5 6 (nI (b.F - 1))) h (b.F - 1) (by omega)
      have hg2 : mUp w 5 6 (nI (b.F - 1)) 10 (b.F - 1) = w 10 (b.F - 1) := by rw [mUp, mSet_n w _ (by omega)]
      rw [hg2, hg] at hld
      have h56 : mUp w 5 6 (nI (b.F - 1)) 5 6 = nI (b.F - 1) := by simp only [mUp, mSet_s, upd, if_true]
      simp only [S62_0, u_push, u_goto, u_gets, u_iadd, u_isub, u_imul, u_iand, u_ior, u_ixor, u_ishl, u_ishr, u_iushr, u_land, u_lor, u_ladd, u_lmul, u_lcmp, u_lushr, u_lshl, u_i2l, u_l2i, u_dupr, u_dup2i, u_popi, u_idiv, u_irem, u_ifeq, u_iceq, u_ifne, u_icne, u_iflt, u_iclt, u_ifge, u_icge, u_ifgt, u_icgt, u_ifle, u_icle, u_switch, u_iload_0, u_istore_0, u_aload_0, u_astore_0, u_iinc_0, u_iload_1, u_istore_1, u_aload_1, u_astore_1, u_lload_1, u_lstore_1, u_iinc_1, u_iload_2, u_istore_2, u_aload_2, u_astore_2, u_lload_2, u_lstore_2, u_iinc_2, u_iload_3, u_istore_3, u_aload_3, u_astore_3, u_lload_3, u_lstore_3, u_iinc_3, u_iload_4, u_istore_4, u_aload_4, u_astore_4, u_lload_4, u_lstore_4, u_iinc_4, u_iload_5, u_istore_5, u_aload_5, u_astore_5, u_lload_5, u_lstore_5, u_iinc_5, u_iload_6, u_istore_6, u_aload_6, u_astore_6, u_iinc_6, u_iload_7, u_istore_7, u_aload_7, u_astore_7, u_iinc_7, u_iload_8, u_istore_8, u_aload_8, u_astore_8, u_iinc_8, u_iload_9, u_istore_9, u_aload_9, u_astore_9, u_lload_9, u_lstore_9, u_iinc_9, u_iload_10, u_istore_10, u_aload_10, u_astore_10, u_iinc_10, u_iload_11, u_istore_11, u_aload_11, u_astore_11, u_iinc_11, u_iload_12, u_istore_12, u_aload_12, u_astore_12, u_iinc_12, u_iload_13, u_istore_13, u_aload_13, u_astore_13, u_iinc_13, u_iret, u_zret, u_aret, u_vret, u_lret, u_getI, u_getR, u_putI, u_putZ, u_putR, u_iald, u_zald, u_aald, u_iast, u_zast, u_aast, u_alen, u_newa, u_newq, u_new, u_oinit_0, u_max_0, u_min_0, u_copy_0, u_invV_0_0, u_invI_0_0, u_invV_1_0, u_invI_1_0, u_invS_1_0, u_invV_2_0, u_invS_2_0, u_invV_3_0, u_invS_3_0, u_invV_4_0, u_invS_4_0, u_oinit_1, u_max_1, u_min_1, u_invV_0_1, u_invI_0_1, u_invV_1_1, u_invI_1_1, u_invS_1_1, u_invV_2_1, u_invS_2_1, u_invV_3_1, u_invS_3_1, u_invV_4_1, u_invS_4_1, u_oinit_2, u_max_2, u_min_2, u_invV_0_2, u_invI_0_2, u_invV_1_2, u_invI_1_2, u_invS_1_2, u_invV_2_2, u_invS_2_2, u_invV_3_2, u_invS_3_2, u_invV_4_2, u_invS_4_2, u_oinit_3, u_max_3, u_min_3, u_invV_0_3, u_invI_0_3, u_invV_1_3, u_invI_1_3, u_invS_1_3, u_invV_2_3, u_invS_2_3, u_invV_3_3, u_invS_3_3, u_invV_4_3, u_invS_4_3, u_oinit_4, u_max_4, u_min_4, u_invV_0_4, u_invI_0_4, u_invV_1_4, u_invI_1_4, u_invS_1_4, u_invV_2_4, u_invS_2_4, u_invV_3_4, u_invS_3_4, u_invV_4_4, u_invS_4_4, u_ret1, u_ret0, u_bs, ↓reduceIte, if_true, if_false, Option.toList_none, Option.toList_some, List.nil_append, List.cons_append, true_or, or_true, false_or, or_false, not_true_eq_false, not_false_eq_true, and_true, true_and, and_false, false_and, p_sw, Nat.reduceEqDiff, Nat.reduceLeDiff, Nat.reduceAdd, Nat.reduceSub, Nat.reduceMul, eq_self, rv_4, gR_4_0, gR_4_1, gI_4_2, gR_4_3, gR_4_4, gR_4_5, gR_4_6, gR_4_7, rv_5, gR_5_0, gR_5_1, gR_5_2, gR_5_3, gR_5_4, gI_5_5, gI_5_6, rv_15, gR_15_0, gI_15_1, gI_15_2, gI_15_3, gI_15_4, gI_15_5, rv_16, gR_16_0, gI_16_1, rv_18, gR_18_0, gR_18_1, gR_18_2, gR_18_3, gR_18_4, gI_18_5, gI_18_6, rv_24, gR_24_0, gR_24_1, gR_24_2, gR_24_3, gR_24_4, gI_24_5, gI_24_6, rv_30, gR_30_0, gR_30_1, gR_30_2, gR_30_3, gR_30_4, gI_30_5, gI_30_6, rv_36, gR_36_0, gR_36_1, gR_36_2, gR_36_3, gR_36_4, gI_36_5, gI_36_6, rv_42, gR_42_0, gR_42_1, gR_42_2, gR_42_3, gR_42_4, gI_42_5, gI_42_6, rv_48, gR_48_0, gR_48_1, gR_48_2, gR_48_3, gR_48_4, gI_48_5, gI_48_6, rv_54, gR_54_0, gR_54_1, gR_54_2, gR_54_3, gR_54_4, gI_54_5, gI_54_6, rv_60, gR_60_0, gR_60_1, gR_60_2, gR_60_3, gR_60_4, gI_60_5, gI_60_6, rv_66, gR_66_0, gR_66_1, gR_66_2, gR_66_3, gR_66_4, gI_66_5, gI_66_6, rv_72, gI_72_0, gI_72_1, gR_72_2, gR_72_3, gR_72_4, gR_72_5, rv_77, gI_77_0, gI_77_1, gR_77_2, gR_77_3, gR_77_4, gR_77_5, rv_82, gI_82_0, gI_82_1, gR_82_2, gR_82_3, gR_82_4, gR_82_5, rv_87, gI_87_0, gI_87_1, gR_87_2, gR_87_3, gR_87_4, gR_87_5, rv_92, gI_92_0, gI_92_1, gR_92_2, gR_92_3, gR_92_4, gR_92_5, rv_97, gI_97_0, gI_97_1, gR_97_2, gR_97_3, gR_97_4, gR_97_5, hF, hne, q, hs, pt_5_6, h56, hld]
    · rw [if_neg q]
      have hB0 := hB
      obtain ⟨⟨⟨v1, v2, v3, v4, v5, v6⟩, v7, v8, v9, v10, v11, v12⟩, ⟨a1, a2, a3, a4, a5, a6⟩, c3, c4⟩ := hB
      have hw : ∀ c, c ≠ 5 → mUp w 5 6 (nI (b.F - 1)) c = w c := fun c hc => mSet_n w _ hc
      refine BI_now hB0 _ (fun c h1 h2 => hw c (by omega)) (Nat.sub_le _ _) (fun f hf => rfl) ⟨⟨v1, v2, v3, v4, v5, by show b.F - 1 ≤ 5; omega⟩, v7, v8, v9, v10, v11, fun k hk => v12 k (by have : k < b.F - 1 := hk; omega)⟩ ⟨a1, a2, a3, fun k hk => a4 k (by have : k < b.F - 1 := hk; omega), ?_, ?_⟩
      · show mUp w 5 6 (nI (b.F - 1)) 5 5 = nI b.m
        simp only [mUp, mSet_s, upd, Nat.reduceEqDiff, if_false]
        exact a5
      · show mUp w 5 6 (nI (b.F - 1)) 5 6 = nI (b.F - 1)
        simp only [mUp, mSet_s, upd, if_true]
end chg
