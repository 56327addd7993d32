/-! the pure machine: cells are numbered, code is a list of small functions; what it answers, the machine answers (part ops, calls) -/
abbrev pE : Type := (Nat × Nat × (Nat → Int32)) ⊕ ((Nat × Nat × (Nat → Option Nat)) ⊕ (Nat × List Value))
abbrev pH : Type := List pE
abbrev pOut : Type := Option Value × pH
abbrev pR : Type := Option pOut
abbrev pLs : Type := List (Option Value)
abbrev pK : Type := Nat → pLs → List Value → pH → pR
abbrev pCl : Type := Nat → List Value → pH → pR
abbrev pO : Type := pCl → pK → pLs → List Value → pH → pR
abbrev p_T : Type := Nat × (Nat → Nat) × (Nat → ClassId)
abbrev p_I : Type := MethodName × (ByteArray × (Nat × (Option FieldType × (List Nat × Nat))))
noncomputable def p_info0 : List p_I := [(yX0_init, (cX0_init, (1, (none, ([], 0))))), (yX0_layFlat, (cX0_layFlat, (3, (none, ([], 0))))), (yX0_layFolded, (cX0_layFolded, (5, (none, ([], 0))))), (yX0_clear, (cX0_clear, (1, (none, ([], 0))))), (yX0_addSeat, (cX0_addSeat, (2, (none, ([], 0))))), (yX0_closeColumn, (cX0_closeColumn, (1, (none, ([], 0))))), (yX0_addUpright, (cX0_addUpright, (4, (none, ([], 0))))), (yX0_addTurned, (cX0_addTurned, (4, (none, ([], 0))))), (yX0_heightOf, (cX0_heightOf, (2, (some .int, ([], 0))))), (yX0_topOf, (cX0_topOf, (2, (some .int, ([], 0))))), (yX0_highest, (cX0_highest, (3, (some .int, ([], 0))))), (yX0_rankOf, (cX0_rankOf, (2, (some .int, ([], 0))))), (yX0_seatBelow, (cX0_seatBelow, (2, (some .int, ([], 0))))), (yX0_seatAbove, (cX0_seatAbove, (2, (some .int, ([], 0))))), (yX1_init, (cX1_init, (1, (none, ([], 1))))), (yX2_init, (cX2_init, (1, (none, ([], 2))))), (yX3_init, (cX3_init, (2, (none, ([], 3))))), (yX3_copyFrom, (cX3_copyFrom, (2, (none, ([], 3))))), (yX3_hasCousin, (cX3_hasCousin, (2, (some .boolean, ([], 3))))), (yX3_hasSeat, (cX3_hasSeat, (2, (some .boolean, ([], 3)))))]
noncomputable def p_info1 : List p_I := [(yX3_seatOf, (cX3_seatOf, (3, (some .int, ([], 3))))), (yX3_sitterOn, (cX3_sitterOn, (2, (some .int, ([], 3))))), (yX3_isTakenFrom, (cX3_isTakenFrom, (3, (some .boolean, ([], 3))))), (yX3_bitOn, (cX3_bitOn, (3, (some .int, ([], 3))))), (yX3_setOn, (cX3_setOn, (3, (some .int, ([], 3))))), (yX3_allWhoSit, (cX3_allWhoSit, (3, (some .int, ([], 3))))), (yX3_exchange, (cX3_exchange, (4, (none, ([], 3))))), (yX3_howAre, (cX3_howAre, (3, (some .int, ([], 3))))), (yX3_makeBe, (cX3_makeBe, (5, (none, ([], 3))))), (yX3_howAreOn, (cX3_howAreOn, (5, (some .int, ([], 3))))), (yX3_pairsWhoFace, (cX3_pairsWhoFace, (5, (some .int, ([], 3))))), (yX3_foesWouldMeet, (cX3_foesWouldMeet, (4, (some .boolean, ([], 3))))), (yX3_moodOn, (cX3_moodOn, (6, (some .int, ([], 3))))), (yX3_toast, (cX3_toast, (4, (some .int, ([], 3))))), (yX3_addFold, (cX3_addFold, (2, (none, ([], 3))))), (yX4_init, (cX4_init, (2, (none, ([], 4))))), (yX4_set, (cX4_set, (3, (some .int, ([], 4))))), (yX4_cousin, (cX4_cousin, (1, (some .int, ([], 4))))), (yX4_sit, (cX4_sit, (3, (some .int, ([], 4))))), (yX4_stand, (cX4_stand, (2, (some .int, ([], 4)))))]
noncomputable def p_info2 : List p_I := [(yX4_swap, (cX4_swap, (3, (some .int, ([], 4))))), (yX4_relate, (cX4_relate, (4, (some .int, ([], 4))))), (yX4_fold, (cX4_fold, (2, (some .int, ([], 4))))), (yX4_press, (cX4_press, (2, (some .int, ([], 4))))), (yX4_unfold, (cX4_unfold, (1, (some .int, ([], 4))))), (yX4_of, (cX4_of, (4, (some .int, ([], 4))))), (yX4_ofSeat, (cX4_ofSeat, (4, (some .int, ([], 4))))), (yX4_column, (cX4_column, (4, (some .int, ([], 4))))), (yX4_count, (cX4_count, (2, (some .int, ([], 4))))), (yX4_ifFolded, (cX4_ifFolded, (4, (some .int, ([], 4))))), (yX4_fewestFolds, (cX4_fewestFolds, (2, (some .int, ([], 4))))), (yX4_undo, (cX4_undo, (1, (some .int, ([], 4))))), (yX4_save, (cX4_save, (2, (some .int, ([], 4))))), (yX4_restore, (cX4_restore, (2, (some .int, ([], 4))))), (yX4_changeSetting, (cX4_changeSetting, (4, (some .int, ([], 4))))), (yX4_comeIn, (cX4_comeIn, (1, (some .int, ([], 4))))), (yX4_takeSeat, (cX4_takeSeat, (4, (some .int, ([], 4))))), (yX4_getUp, (cX4_getUp, (3, (some .int, ([], 4))))), (yX4_changePlaces, (cX4_changePlaces, (3, (some .int, ([], 4))))), (yX4_tellHow, (cX4_tellHow, (5, (some .int, ([], 4)))))]
noncomputable def p_info3 : List p_I := [(yX4_foldGently, (cX4_foldGently, (3, (some .int, ([], 4))))), (yX4_foldByForce, (cX4_foldByForce, (3, (some .int, ([], 4))))), (yX4_takeFoldBack, (cX4_takeFoldBack, (1, (some .int, ([], 4))))), (yX4_lying, (cX4_lying, (1, (some (.object "FoldedBench$Lay"), ([], 4))))), (yX4_isGap, (cX4_isGap, (2, (some .boolean, ([], 4))))), (yX4_tryFold, (cX4_tryFold, (3, (some (.object "FoldedBench$Lay"), ([], 4))))), (yX4_layAgain, (cX4_layAgain, (2, (none, ([], 4))))), (yX4_shrinks, (cX4_shrinks, (6, (some .boolean, ([], 4))))), (yX4_isError, (cX4_isError, (1, (some .boolean, ([], 4))))), (yX4_keepBefore, (cX4_keepBefore, (1, (none, ([], 4))))), (yX4_recorded, (cX4_recorded, (2, (some .int, ([], 4))))), (yX4_dropOldest, (cX4_dropOldest, (3, (none, ([], 4))))), (yJ6_bitCount_0f7a4, (cJ6_bitCount_0f7a4, (1, (some .int, ([], 7))))), (yL_cell, (cL_cell, (2, (some .int, ([], 7))))), (yL_low, (cL_low, (2, (some .int, ([], 7))))), (yL_told, (cL_told, (5, (some .long, ([1], 7))))), (yL_act, (cL_act, (6, (some .int, ([], 7))))), (yL_holds, (cL_holds, (14, (some .boolean, ([], 7))))), (yL_isFolded, (cL_isFolded, (8, (some .boolean, ([2], 7))))), (yL_law, (cL_law, (12, (some .boolean, ([5, 9], 6)))))]
noncomputable def p_info : List p_I := p_info0 ++ (p_info1 ++ (p_info2 ++ (p_info3)))
noncomputable def p_i (μ : Nat) : p_I := p_info.getD μ (yX0_init, (cX0_init, (0, (none, ([], 7)))))
noncomputable abbrev pN (μ : Nat) : MethodName := (p_i μ).1
noncomputable abbrev pB (μ : Nat) : ByteArray := (p_i μ).2.1
noncomputable abbrev pML (μ : Nat) : Nat := (p_i μ).2.2.1
noncomputable abbrev pRt (μ : Nat) : Option FieldType := (p_i μ).2.2.2.1
noncomputable abbrev pLg (μ : Nat) : List Nat := (p_i μ).2.2.2.2.1
noncomputable abbrev pCi (μ : Nat) : Nat := (p_i μ).2.2.2.2.2
noncomputable def pWS : List Cond := lw_tbl.filter goodWord
noncomputable abbrev pW (μ : Nat) : List Cond := .code (pN μ) (pB μ) (pML μ) (pRt μ) :: pWS
theorem pws_at {w : Cond} (i : Nat) (h : lw_tbl[i]? = some w) (hg : goodWord w = true) : w ∈ pWS := List.mem_filter.mpr ⟨List.mem_of_getElem? h, hg⟩
-- values, cells, the world
def p_ad (G : p_T) (k : Nat) : Nat := if k < 4 then G.2.1 k else G.1 + (k - 4)
def p_v (G : p_T) (v : Value) : Value := match v with
  | .ref k => .ref (p_ad G k)
  | v => v
def p_e (G : p_T) (c : pE) : va_E := match c with
  | .inl (kd, n, f) => .inl (G.2.2 kd, n, .inl f)
  | .inr (.inl (kd, n, f)) => .inl (G.2.2 kd, n, .inr (.inr (.inr (.inr (fun j => (f j).map (p_ad G))))))
  | .inr (.inr (ci, fs)) => .inr (ci, fs.map (p_v G))
def p_ws (G : p_T) : Nat → pH → va_W
  | _, [] => []
  | b, c :: t => (b, p_e G c) :: p_ws G (b + 1) t
def p_w (G : p_T) (L : pH) : va_W := p_ws G G.1 (L.drop 4)
def p_sz (c : pE) : Nat := match c with
  | .inl (_, n, _) => n
  | .inr (.inl (_, n, _)) => n
  | .inr (.inr (_, fs)) => fs.length
def p_sl (L : pH) : Nat := (L.map p_sz).sum
def p_kt (kd : Nat) : FieldType := match kd with
  | 0 => .int
  | 1 => .boolean
  | 2 => .object RX0
  | _ => .object RX3
abbrev p_tys (G : p_T) : List (ClassId × FieldType) := [(G.2.2 0, .int), (G.2.2 1, .boolean), (G.2.2 2, .object RX0), (G.2.2 3, .object RX3)]
abbrev p_A (G : p_T) : Nat → Prop := fun q => G.1 ≤ q
-- locals
def p_l (G : p_T) : Nat → pLs → List (Nat × Value)
  | _, [] => []
  | b, some v :: t => (b, p_v G v) :: p_l G (b + 1) t
  | b, none :: t => p_l G (b + 1) t
def p_lg (μ : Nat) (ls : pLs) : Prop := ls.length = pML μ ∧ ∀ j v, ls[j]? = some (some v) → v.category = 2 → j ∈ pLg μ
def p_in : List Value → pLs
  | [] => []
  | v :: t => if v.category = 2 then some v :: none :: p_in t else some v :: p_in t
def p_fill (n : Nat) (l : pLs) : pLs := l ++ List.replicate (n - l.length) none
noncomputable def p_okl (μ : Nat) (l : pLs) : Bool := decide (l.length ≤ pML μ) && (List.range l.length).all (fun j => match l[j]? with
  | some (some v) => decide (v.category ≠ 2) || (pLg μ).contains j
  | _ => true)
-- running
def p_run (P : Nat → Option pO) (C : pCl) : Nat → pK
  | 0 => fun _ _ _ _ => none
  | n + 1 => fun pc ls st σ => match P pc with
    | some op => op C (p_run P C n) ls st σ
    | none => none
-- what is known while a method runs
def p_ro (G : p_T) (rot : Nat → Nat × (Nat → Int32)) (U : State) (H : Heap) : Prop := (∀ i, i < 4 → va_T .int (G.2.1 i) (rot i).1 (fun j => .int ((rot i).2 j)) (p_A G) U H) ∧ va_Z RX4 "LOWEST" "[I" (.ref (G.2.1 0)) (p_A G) U H ∧ va_Z RX4 "HIGHEST" "[I" (.ref (G.2.1 1)) (p_A G) U H ∧ va_Z RX4 "AT_FIRST" "[I" (.ref (G.2.1 2)) (p_A G) U H
def p_nests : List (String × (Nat × (MethodName × String))) := [("FoldedBench", (39, (⟨"FoldedBench$Orders", "<init>", "()V"⟩, "FoldedBench"))), ("FoldedBench$Orders", (11, (⟨"FoldedBench$Pad", "<init>", "()V"⟩, "FoldedBench"))), ("FoldedBench", (49, (⟨"FoldedBench$Lay", "<init>", "()V"⟩, "FoldedBench")))]
def p_fnests : List (String × (Nat × (String × (String × (String × String))))) := [("FoldedBench$State", (9, ("FoldedBench", ("AT_FIRST", ("[I", "FoldedBench")))))]
def p_nw (U : State) : Prop := (∀ q ∈ p_nests, va_Nw (.methodLinkNest q.1 q.2.1 q.2.2.1 q.2.2.2) U) ∧ (∀ q ∈ p_fnests, va_Nw (.fieldLinkNest q.1 q.2.1 q.2.2.1 q.2.2.2.1 q.2.2.2.2.1 q.2.2.2.2.2) U) ∧ va_AO RX0 U ∧ va_AO RX3 U
def p_rt (rot : Nat → Nat × (Nat → Int32)) (L : pH) : Prop := ∀ i, i < 4 → L[i]? = some (.inl (0, rot i))
def p_Ge (rot : Nat → Nat × (Nat → Int32)) (L : pH) (o : pOut) : Prop := L.length ≤ o.2.length ∧ p_sl L ≤ p_sl o.2 ∧ p_rt rot o.2
def p_Pre (G : p_T) (D : va_G) (rot : Nat → Nat × (Nat → Int32)) (L : pH) (U : State) : Prop := U.heap.size + 4 = G.1 + L.length ∧ va_P D vwCl (p_w G L) U.heap ∧ va_K D vwCl (p_tys G) U ∧ p_ro G rot U U.heap ∧ p_nw U
def p_Post (G : p_T) (D : va_G) (o : pOut) : Array Value → State → Outcome → State → Prop := fun _ st oc t => oc = .returned (o.1.map (p_v G)) ∧ va_P D vwCl (p_w G o.2) t.heap ∧ va_F (p_A G) st t
abbrev p_rm (d : Nat) (L : pH) (o : pOut) : Room := { frames := d, cells := o.2.length - L.length, slots := p_sl o.2 - p_sl L, locals := 100 * d }
def p_Ok (G : p_T) (D : va_G) (l : Launch) (rot : Nat → Nat × (Nat → Int32)) (d : Nat) (C : pCl) : Prop := ∀ (μ : Nat) (av : List Value) (L : pH) (o : pOut), C μ av L = some o → p_rt rot L → p_Ge rot L o ∧ Met l (pN μ) (pW μ) (p_rm d L o) (va_Pc (av.map (p_v G)) (p_Pre G D rot L)) (p_Post G D o) (o.2.length - L.length) (p_sl o.2 - p_sl L) (p_A G)
def p_ret (μ pc : Nat) (v : Option Value) : Prop := (decode (pB μ) pc = .ok (.ireturn, 1) ∧ pRt μ = some .int ∧ ∃ x : Int32, v = some (.int x)) ∨ (decode (pB μ) pc = .ok (.ireturn, 1) ∧ pRt μ = some .boolean ∧ ∃ x : Int32, v = some (.int x) ∧ (x = 0 ∨ x = 1)) ∨ (decode (pB μ) pc = .ok (.areturn, 1) ∧ (∃ n, pRt μ = some (.object n)) ∧ ∃ a, v = some (.ref a)) ∨ (decode (pB μ) pc = .ok (.return_, 1) ∧ pRt μ = none ∧ v = none) ∨ (decode (pB μ) pc = .ok (.lreturn, 1) ∧ pRt μ = some .long ∧ ∃ x : Int64, v = some (.long x))
def p_X (p : Program) (l : Launch) (e : Env) (R : Room) (s : State) (m : MethodId) (args : Array Value) (below : List Frame) (meth : Method) (c : Code) (Q : State → Prop) (G : p_T) (D : va_G) (rot : Nat → Nat × (Nat → Int32)) (d n0 s0 : Nat) (C : pCl) (o : pOut) (μ : Nat) : Prop :=
  (p.tables.exec = Jvm.exec ∧ c.code = pB μ ∧ c.maxLocals = pML μ ∧ s.vm.findClass (pN μ).cls = some m.cls ∧ (∀ w ∈ pWS, w.before args s = true)) ∧
  (va_K D vwCl (p_tys G) s ∧ s.heap.size + 4 = G.1 + n0 ∧ 4 ≤ n0 ∧ p_ro G rot s s.heap ∧ p_nw s) ∧
  (d + 1 ≤ R.frames ∧ 100 * (d + 1) ≤ R.locals ∧ o.2.length ≤ n0 + R.cells ∧ p_sl o.2 ≤ s0 + R.slots) ∧ p_Ok G D l rot d C ∧ ((pN μ).name = "<init>" → meth.name = "<init>") ∧
  (∀ (pc : Nat) (lsA : Array Slot) (H : Heap) (locs : List Loc) (cells slots : Nat), p_ret μ pc o.1 → p_rt rot o.2 → va_P D vwCl (p_w G o.2) H → va_S (p_A G) s.heap H locs → cells + n0 = o.2.length → slots + s0 = p_sl o.2 → W p l e R s m args below meth c H locs cells slots Q (F0 m pc lsA ((o.1.map (p_v G)).toList)))
def p_J (p : Program) (l : Launch) (e : Env) (R : Room) (s : State) (m : MethodId) (args : Array Value) (below : List Frame) (meth : Method) (c : Code) (Q : State → Prop) (G : p_T) (D : va_G) (rot : Nat → Nat × (Nat → Int32)) (d n0 s0 : Nat) (C : pCl) (o : pOut) (μ pc : Nat) (ls : pLs) (st : List Value) (L : pH) : Prop :=
  ∀ (H : Heap) (locs : List Loc) (cells slots : Nat) (lsA : Array Slot), lv_has lsA (pML μ) (p_l G 0 ls) → p_lg μ ls → va_P D vwCl (p_w G L) H → va_S (p_A G) s.heap H locs → cells + n0 = L.length → slots + s0 = p_sl L →
    W p l e R s m args below meth c H locs cells slots Q (F0 m pc lsA (st.map (p_v G)))
def p_G (p : Program) (l : Launch) (e : Env) (R : Room) (s : State) (m : MethodId) (args : Array Value) (below : List Frame) (meth : Method) (c : Code) (Q : State → Prop) (G : p_T) (D : va_G) (rot : Nat → Nat × (Nat → Int32)) (d n0 s0 : Nat) (C : pCl) (o : pOut) (μ pc : Nat) (ls : pLs) (st : List Value) (L : pH) : Prop := p_rt rot L → p_Ge rot L o ∧ p_J p l e R s m args below meth c Q G D rot d n0 s0 C o μ pc ls st L
/-- an op is sound at a place of a method -/
def p_S (μ pc : Nat) (op : pO) : Prop := ∀ (p : Program) (l : Launch) (e : Env) (R : Room) (s : State) (m : MethodId) (args : Array Value) (below : List Frame) (meth : Method) (c : Code) (Q : State → Prop) (G : p_T) (D : va_G) (rot : Nat → Nat × (Nat → Int32)) (d n0 s0 : Nat) (C : pCl) (o : pOut), p_X p l e R s m args below meth c Q G D rot d n0 s0 C o μ → ∀ (k : pK) (ls : pLs) (st : List Value) (L : pH), op C k ls st L = some o → (∀ (pc' : Nat) (ls' : pLs) (st' : List Value) (L' : pH), k pc' ls' st' L' = some o → p_G p l e R s m args below meth c Q G D rot d n0 s0 C o μ pc' ls' st' L') → p_G p l e R s m args below meth c Q G D rot d n0 s0 C o μ pc ls st L
