-- ===== end of PART A; then your names; then what follows =====
/-! THE CLAIM OUT OF ONE WALK OF THE LAW'S BODY. Your part is whole_start (and what it stands on); all else here is the same for every law, but numbers. -/
def R_law : String := "FoldedBenchLaw"
def lw_P (b : Addr) (xs : List Int32) (args : Array Value) (s : State) : Prop := args = #[.ref b] ∧ s.IntsAt b xs ∧ xs.length ≤ 260 ∧ (Jvm.Cond.and given_1 narrow_1).before args s = true
def lw_Q (_ : Array Value) (s : State) (o : Outcome) (t : State) : Prop := o = .returned (some (.int 1)) ∧ Framed s o t [] 600000 7302250
def lw_Z (below : List Frame) (a : Array Value) (s : State) : State → Prop := fun t => ∃ o, t.status = .running ∧ Ended t below o ∧ lw_Q a s o t
/-- the law's own end, with 1 on the stack, nothing written that was there before, its room as the claim has it -/
theorem lw_ret {p : Program} {l : Launch} {e : Env} {s : State} {m : MethodId} {below : List Frame} {meth : Method} {c : Code} {b : Nat} (hx : p.tables.exec = Jvm.exec) (hb : c.code = code) (hr : meth.sig.returnType = ret) (hlocks : meth.locks = false) {pc : Nat} {H : Heap} {ls : Array Slot} (hdg : decode code pc = .ok (.ireturn, 1)) : W p l e room_1 s m #[Value.ref b] below meth c H [] 600000 7302250 (lw_Z below #[Value.ref b] s) (F0 m pc ls [.int 1]) := by
  intro T hT X
  obtain ⟨fs, hret, hrun, hended, hW, hframe⟩ := X.leave (v := some (.int 1)) (hlocks := hlocks) (fun h => by rw [hr] at h; cases h)
  have hmeth' : T.vm.method? m = some meth := X.method'
  refine ⟨T.setFrames fs, ?_, .returned (some (.int 1)), hrun, hended, rfl, ⟨_, rfl⟩, hW, hframe⟩
  jvm_step X.here [X.here.top, hx, hb, hdg, hmeth', hr, ret, narrow_b1]
  (try refine ⟨rfl, ?_⟩); (try refine ⟨rfl, ?_⟩)
  first | (intro acts; rw [hret _ acts rfl rfl rfl]) | rw [hret _ _ rfl rfl rfl]
  exact Steps.refl _
/-- what holds at the law's entry: the machine, the code, the tables' words (any of lw_tbl by 'hts w (by decide +kernel)'), the script of L ints xs at the cell b, what the Statement gives of the start (any of its parts by flat_of_before) -/
def lw_At (p : Program) (s : State) (m : MethodId) (meth : Method) (c : Code) (b L : Nat) (xs : Nat → Int32) : Prop :=
  p.tables.exec = Jvm.exec ∧ c.code = code ∧ meth.sig.returnType = ret ∧ c.maxLocals = 12 ∧ s.vm.findClass R_law = some m.cls ∧ (∀ w ∈ lw_tbl, w.before #[Value.ref b] s = true) ∧ va_X b L xs s s.heap ∧ b < s.heap.size ∧ meth.locks = false ∧ (Jvm.Cond.and given_1 narrow_1).before #[Value.ref b] s = true

theorem p_eqi {args : Array Value} {s : State} {tm : Term} {v : Int32} (h : (Cond.eq tm (.int v)).before args s = true) : tm.eval args s none [] s = some (.int v) := by
  cases hv : tm.eval args s none [] s with
  | none => simp [Cond.before, Cond.holds, Cond.value, hv] at h
  | some w =>
    cases w <;> simp [Cond.before, Cond.holds, Cond.value, hv, Term.eval] at h
    rw [h]
def p_tb (a b c : Int32) : Nat → Int32 := fun k => if k = 0 then a else if k = 1 then b else c
theorem p_tab {b : Nat} {s : State} {n : String} {a0 a1 a2 : Int32} (hl : (Cond.laysStatic RX4 n "[I").before #[Value.ref b] s = true) (hi : (Cond.initialized RX4).before #[Value.ref b] s = true) (h1 : (Cond.arrayOf (.static RX4 n "[I") .int).before #[Value.ref b] s = true)
    (h2 : (Cond.eq (.length (.static RX4 n "[I")) (.int 3)).before #[Value.ref b] s = true) (h3 : (Cond.eq (.elem (.static RX4 n "[I") (.int 0)) (.int a0)).before #[Value.ref b] s = true) (h4 : (Cond.eq (.elem (.static RX4 n "[I") (.int 1)) (.int a1)).before #[Value.ref b] s = true) (h5 : (Cond.eq (.elem (.static RX4 n "[I") (.int 2)) (.int a2)).before #[Value.ref b] s = true) :
    ∃ t : Nat, va_Z RX4 n "[I" (.ref t) (fun q => s.heap.size ≤ q) s s.heap ∧ va_T .int t 3 (fun j => .int (p_tb a0 a1 a2 j)) (fun q => s.heap.size ≤ q) s s.heap := by
  have hA : ∀ a : Nat, a < s.heap.size → ¬ (fun q => s.heap.size ≤ q) a := fun a h => Nat.not_le.mpr h
  obtain ⟨t, ht, hT⟩ := va_Tof (N := 3) (f := fun j => .int (p_tb a0 a1 a2 j)) (by decide) h1 (p_eqi h2) (fun j hj => by
    rcases (show j = 0 ∨ j = 1 ∨ j = 2 by omega) with rfl | rfl | rfl
    · exact p_eqi h3
    · exact p_eqi h4
    · exact p_eqi h5) hA
  exact ⟨t, va_Zref hl hi ht hA, hT⟩
def p_rot (L : Nat) (xs : Nat → Int32) : Nat → Nat × (Nat → Int32) := fun i => if i = 0 then (3, p_tb (nI 2) (nI 0) (nI 0)) else if i = 1 then (3, p_tb (nI 16) (nI 5) (nI 9)) else if i = 2 then (3, p_tb (nI 8) (nI 1) (nI 3)) else (L, xs)
def p_L0 (L : Nat) (xs : Nat → Int32) : pH := [.inl (0, p_rot L xs 0), .inl (0, p_rot L xs 1), .inl (0, p_rot L xs 2), .inl (0, p_rot L xs 3)]
/-- THE CLAIM, over the pure machine -/
def PureLaw : Prop := ∀ (L : Nat) (xs : Nat → Int32), L ≤ 260 → ∃ σ : pH, p_Y 79 (p_K 40) 0 [some (.ref 3), none, none, none, none, none, none, none, none, none, none, none] [] (p_L0 L xs) = some (some (.int 1), σ) ∧ σ.length ≤ 1000 ∧ p_sl σ ≤ 1000000
theorem p_arr {s : State} {ty : FieldType} {args : Array Value} (h : (Cond.arrayClass ty).before args s = true) : ∃ c, s.vm.findClass ("[" ++ ty.toString) = some c ∧ ArrOfT s c ty := by
  obtain ⟨c, k, comp, h1, h2, h3⟩ := Cond.arrayClass_spec h
  exact ⟨c, h1, fun N z => ⟨(fun k h => by cases h), k, h2, comp, h3⟩⟩
theorem p_arrO {s : State} {CN : String} {args : Array Value} (h : (Cond.arrayOver (.object CN)).before args s = true) : ∃ c, ArrOfT s c (.object CN) ∧ va_RA s c (.object CN) := by
  obtain ⟨comp, c, k, h1, -, h2, h3, h4⟩ := Cond.arrayOver_spec h
  exact ⟨c, fun N z => ⟨(fun k h => by cases h), k, h2, comp, h3⟩, k, comp, h2, h3, h1, h4⟩
theorem p_start (hpure : PureLaw) {p : Program} {e : Env} {s : State} {m : MethodId} {below : List Frame} {meth : Method} {c : Code} (l : Launch) {b L : Nat} {xs : Nat → Int32} (hL : L ≤ 260) (C0 : lw_At p s m meth c b L xs) : W p l e room_1 s m #[Value.ref b] below meth c s.heap [] 0 0 (lw_Z below #[Value.ref b] s) (entryFrame m ([Value.ref b] : List Value).toArray 12) := by
  obtain ⟨hx, hb, hr, hml, hown, hts, hX, hbl, hlocks, hgv⟩ := id C0
  have hts9 : ∀ w ∈ pWS, w.before #[Value.ref b] s = true := fun w hw => hts w (List.mem_filter.mp hw).1
  have hs := flat_of_before _ hgv
  obtain ⟨t0, hz0, hT0⟩ := p_tab (n := "LOWEST") (hts (.laysStatic RX4 "LOWEST" "[I") (List.mem_of_getElem? (i := 356) (by decide +kernel))) (hts9 _ wd_17) (hs _ (by decide +kernel)) (hs _ (by decide +kernel)) (a0 := 2) (hs _ (by decide +kernel)) (a1 := 0) (hs _ (by decide +kernel)) (a2 := 0) (hs _ (by decide +kernel))
  obtain ⟨t1, hz1, hT1⟩ := p_tab (n := "HIGHEST") (hts (.laysStatic RX4 "HIGHEST" "[I") (List.mem_of_getElem? (i := 358) (by decide +kernel))) (hts9 _ wd_17) (hs _ (by decide +kernel)) (hs _ (by decide +kernel)) (a0 := 16) (hs _ (by decide +kernel)) (a1 := 5) (hs _ (by decide +kernel)) (a2 := 9) (hs _ (by decide +kernel))
  obtain ⟨t2, hz2, hT2⟩ := p_tab (n := "AT_FIRST") (hts (.laysStatic RX4 "AT_FIRST" "[I") (List.mem_of_getElem? (i := 40) (by decide +kernel))) (hts9 _ wd_17) (hs _ (by decide +kernel)) (hs _ (by decide +kernel)) (a0 := 8) (hs _ (by decide +kernel)) (a1 := 1) (hs _ (by decide +kernel)) (a2 := 3) (hs _ (by decide +kernel))
  obtain ⟨c0, iS0, hKn0⟩ := u_known (C := RX0) (T := TX0) (N := 6) hts9 inp0 (hts9 _ wd_115)
  obtain ⟨c1, iS1, hKn1⟩ := u_known (C := RX1) (T := TX1) (N := 6) hts9 inp1 (hts9 _ wd_75)
  obtain ⟨c2, iS2, hKn2⟩ := u_known (C := RX2) (T := TX2) (N := 2) hts9 inp2 (hts9 _ wd_81)
  obtain ⟨c3, iS3, hKn3⟩ := u_known (C := RX3) (T := TX3) (N := 7) hts9 inp3 (hts9 _ wd_34)
  obtain ⟨c4, iS4, hKn4⟩ := u_known (C := RX4) (T := TX4) (N := 8) hts9 inp4 (hts9 _ wd_26)
  obtain ⟨D, hKc⟩ : ∃ D : va_G, ∀ (k : Nat) (q : vw_C), vwCl[k]? = some q → u_Kn s q.1 q.2.1 q.2.2 (D.1 k) (D.2 k) := by
    refine ⟨(fun k => if k = 0 then c0 else if k = 1 then c1 else if k = 2 then c2 else if k = 3 then c3 else c4, fun k => if k = 0 then iS0 else if k = 1 then iS1 else if k = 2 then iS2 else if k = 3 then iS3 else iS4), ?_⟩
    intro k q hq
    match k, hq with
    | 0, hq => cases hq; exact hKn0
    | 1, hq => cases hq; exact hKn1
    | 2, hq => cases hq; exact hKn2
    | 3, hq => cases hq; exact hKn3
    | 4, hq => cases hq; exact hKn4
    | k + 5, hq => simp [vwCl] at hq
  obtain ⟨aI, hI1, hI2⟩ := p_arr (hts9 _ wd_70)
  obtain ⟨aZ, hZ1, hZ2⟩ := p_arr (hts9 _ wd_94)
  have hao0 : va_AO RX0 s := va_AO.of (hts (.arrayOver (.object RX0)) (List.mem_of_getElem? (i := 73) (by decide +kernel)))
  have hao3 : va_AO RX3 s := va_AO.of (hts (.arrayOver (.object RX3)) (List.mem_of_getElem? (i := 71) (by decide +kernel)))
  obtain ⟨aL, hL1, hL2⟩ := p_arrO (hao0.use (A := #[Value.ref b]))
  obtain ⟨aS, hS1, hS2⟩ := p_arrO (hao3.use (A := #[Value.ref b]))
  obtain ⟨σ, hrun, hlen, hslz⟩ := hpure L xs hL
  obtain ⟨n, hn⟩ := p_lim_of hrun
  generalize hG : ((s.heap.size, (fun i => if i = 0 then t0 else if i = 1 then t1 else if i = 2 then t2 else b), (fun k => if k = 0 then aI else if k = 1 then aZ else if k = 2 then aL else aS)) : p_T) = G
  have hG1 : G.1 = s.heap.size := by rw [← hG]
  have hK : va_K D vwCl (p_tys G) s := by
    refine ⟨hKc, fun k q hq => ?_⟩
    subst hG
    match k, hq with
    | 0, hq => cases hq; exact ⟨hI2, hI1⟩
    | 1, hq => cases hq; exact ⟨hZ2, hZ1⟩
    | 2, hq => cases hq; exact ⟨hL1, hL2⟩
    | 3, hq => cases hq; exact ⟨hS1, hS2⟩
    | k + 4, hq => simp at hq
  have hro : p_ro G (p_rot L xs) s s.heap := by
    subst hG
    refine ⟨fun i hi => ?_, hz0, hz1, hz2⟩
    rcases (show i = 0 ∨ i = 1 ∨ i = 2 ∨ i = 3 by omega) with rfl | rfl | rfl | rfl
    · exact hT0
    · exact hT1
    · exact hT2
    · obtain ⟨scr, q1, q2, q3, q4, q5⟩ := hX
      exact ⟨scr, q1, q2, q3, by show L ≤ _; omega, by rw [q4]; rfl, q5, by show ¬ s.heap.size ≤ b; omega⟩
  have hnw : p_nw s := by
    refine ⟨?_, ?_, hao0, hao3⟩
    · exact List.forall_mem_cons.mpr ⟨va_Nw.of rfl (hts _ (List.mem_of_getElem? (i := 76) (by decide +kernel))), List.forall_mem_cons.mpr ⟨va_Nw.of rfl (hts _ (List.mem_of_getElem? (i := 82) (by decide +kernel))), List.forall_mem_cons.mpr ⟨va_Nw.of rfl (hts _ (List.mem_of_getElem? (i := 116) (by decide +kernel))), fun _ h => absurd h List.not_mem_nil⟩⟩⟩
    · exact List.forall_mem_cons.mpr ⟨va_Nw.of rfl (hts _ (List.mem_of_getElem? (i := 39) (by decide +kernel))), fun _ h => absurd h List.not_mem_nil⟩
  have hrt0 : p_rt (p_rot L xs) (p_L0 L xs) := fun i hi => by
    rcases (show i = 0 ∨ i = 1 ∨ i = 2 ∨ i = 3 by omega) with rfl | rfl | rfl | rfl <;> rfl
  have hP0 : va_P D vwCl (p_w G (p_L0 L xs)) s.heap := fun k q h => by simp [p_w, p_L0, p_ws] at h
  have hXX : p_X p l e room_1 s m #[Value.ref b] below meth c (lw_Z below #[Value.ref b] s) G D (p_rot L xs) 40 4 (p_sl (p_L0 L xs)) (p_K 40) (some (.int 1), σ) 79 := by
    refine ⟨⟨hx, hb, hml, hown, hts9⟩, ⟨hK, by omega, Nat.le_refl _, hro, hnw⟩, ⟨by decide, by decide, by show σ.length ≤ 4 + 600000; omega, by show p_sl σ ≤ _ + 7302250; omega⟩, p_sound pT_Tl pT_S pT_pl G D l (p_rot L xs) 40, (fun h9 => absurd h9 (by decide +kernel)), ?_⟩
    intro pc lsA H locs cells slots hret hrt2 hP2 hS2 hc2 hs2
    have hd : decode (pB 79) pc = .ok (.ireturn, 1) := by
      rcases hret with ⟨h1, -⟩ | ⟨h1, -⟩ | ⟨-, -, a, h1⟩ | ⟨-, -, h1⟩ | ⟨-, -, a, h1⟩
      · exact h1
      · exact h1
      · cases h1
      · cases h1
      · cases h1
    refine va_forget (fun q hq => by have := hS2.2.2 q hq; rw [← hG1]; exact this) ?_
    refine W.widen (k := 600000) (n := 7302250) (by have : cells + 4 = σ.length := hc2; omega) (by have : slots + _ = p_sl σ := hs2; omega) ?_
    exact lw_ret hx hb hr hlocks hd
  have hJ := (p_run_S pT_S p l e room_1 s m #[Value.ref b] below meth c (lw_Z below #[Value.ref b] s) G D (p_rot L xs) 40 4 (p_sl (p_L0 L xs)) (p_K 40) (some (.int 1), σ) 79 hXX n 0 _ [] (p_L0 L xs) hn hrt0).2
  have hl := lv_entry ([.ref b]) (n := 12) (Nat.le_of_ble_eq_true rfl)
  rw [lg_entry_eq]
  generalize (lg_sl ([.ref b]) ++ List.replicate (12 - (lg_sl ([.ref b])).length) Slot.unset).toArray = ls at hl ⊢
  have e3 : p_ad G 3 = b := by rw [← hG]; rfl
  refine hJ s.heap [] 0 0 ls ?_ ?_ hP0 va_S.rf rfl (by omega)
  · show lv_has ls 12 [(0, .ref (p_ad G 3))]
    rw [e3]
    exact hl
  · refine ⟨rfl, fun j v hj hc => ?_⟩
    match j, hj with
    | 0, hj => cases hj; cases hc
    | 1, hj => cases hj
    | 2, hj => cases hj
    | 3, hj => cases hj
    | 4, hj => cases hj
    | 5, hj => cases hj
    | 6, hj => cases hj
    | 7, hj => cases hj
    | 8, hj => cases hj
    | 9, hj => cases hj
    | 10, hj => cases hj
    | 11, hj => cases hj
    | j + 12, hj => simp at hj
