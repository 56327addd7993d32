/-! the law from its entry, and the claim -/
section fin
variable {L : Nat} {xs : Nat → Int32}
theorem und_0 : sUndo S0a = (nM 5, S0a) := if_pos rfl
theorem res_0 : sRest S0a (nI 1) = (nM 5, S0a) := by
  unfold sRest
  rw [idx_nI (by omega) (by omega), if_pos (by omega)]
  rfl
def S1a : Ob := mO b0a 0 (fun _ => b0a) (fun i => if i = 0 then some b0a else none) 0 (fun _ => 0)
theorem sav_0 : sSave S0a (nI 0) = (nI 0, S1a) := by
  unfold sSave
  rw [idx_nI (by omega) (by omega), if_pos (by omega)]
  rfl
theorem IN_1 : IN S1a b0a := ⟨fun c => rfl, fun i hi => absurd hi (Nat.not_lt_zero i), rfl, fun c => rfl⟩
theorem sl_c (c : pE) (t : pH) : p_sl (c :: t) = p_sz c + p_sl t := rfl
theorem sl_n : p_sl [] = 0 := rfl
theorem sz_a (kd n : Nat) (f : Nat → Int32) : p_sz (.inl (kd, n, f)) = n := rfl
theorem sz_q (kd n : Nat) (f : Nat → Option Nat) : p_sz (.inr (.inl (kd, n, f))) = n := rfl
theorem sz_o (ci : Nat) (fs : List Value) : p_sz (.inr (.inr (ci, fs))) = fs.length := rfl
theorem sz_0 (L : Nat) (xs : Nat → Int32) : p_sz (.inl (0, p_rot L xs 0)) = 3 := rfl
theorem sz_1 (L : Nat) (xs : Nat → Int32) : p_sz (.inl (0, p_rot L xs 1)) = 3 := rfl
theorem sz_2 (L : Nat) (xs : Nat → Int32) : p_sz (.inl (0, p_rot L xs 2)) = 3 := rfl
theorem sz_3 (L : Nat) (xs : Nat → Int32) : p_sz (.inl (0, p_rot L xs 3)) = L := rfl
theorem hp_sl (w : Nat → Nat → Int32) (h : Nat → Option Nat) : p_sl (hp L xs w h) ≤ L + 100000 := by
  unfold hp
  simp only [sl_c, sl_n, sz_0, sz_1, sz_2, sz_3, sz_a, sz_q, sz_o, List.length_cons, List.length_nil]
  omega
theorem pure_law : PureLaw := by
  intro L xs hL
  have hl : (p_L0 L xs).length = 4 := rfl
  have a1 : p_K 40 35 [.ref 4] (p_L0 L xs ++ [cO 4 [.null, .null, .int 0, .null, .null, .null, .null, .null]]) = some (none, hp L xs wS hH0) := by
    rw [← r1_hp]
    exact k_FB 37
  obtain ⟨w1, h1, X1, O1, -⟩ := o_undo (L := L) (xs := xs) 34 OI_first
  rw [und_0] at X1 O1
  have X1 : p_K 40 51 [.ref 4] (hp L xs wS hH0) = some (some (.int (nM 5)), hp L xs w1 h1) := X1
  obtain ⟨w2, h2, X2, O2, -⟩ := o_restore (L := L) (xs := xs) 34 O1 (nI 1)
  rw [res_0] at X2 O2
  have X2 : p_K 40 53 [.ref 4, .int (nI 1)] (hp L xs w1 h1) = some (some (.int (nM 5)), hp L xs w2 h2) := X2
  obtain ⟨w3, h3, X3, O3, -⟩ := o_save (L := L) (xs := xs) 34 O2 (nI 0)
  rw [sav_0] at X3 O3
  have X3 : p_K 40 52 [.ref 4, .int (nI 0)] (hp L xs w2 h2) = some (some (.int (nI 0)), hp L xs w3 h3) := X3
  obtain ⟨w4, h4, X4⟩ := law_loop (xs := xs) hL 32 0 w3 h3 S1a none none none none none none none none none (by omega) O3 IN_1
  refine ⟨hp L xs w4 h4, ?_, show 102 ≤ 1000 by omega, Nat.le_trans (hp_sl w4 h4) (by omega)⟩
  simp (decide := true) only [S79_0, u_push, u_goto, u_gets, u_iadd, u_isub, u_imul, u_iand, u_ior, u_ixor, u_ishl, u_ishr, u_iushr, u_land, u_lor, u_ladd, u_lmul, u_lcmp, u_lushr, u_lshl, u_i2l, u_l2i, u_dupr, u_dup2i, u_popi, u_idiv, u_irem, u_ifeq, u_iceq, u_ifne, u_icne, u_iflt, u_iclt, u_ifge, u_icge, u_ifgt, u_icgt, u_ifle, u_icle, u_switch, u_iload_0, u_istore_0, u_aload_0, u_astore_0, u_iinc_0, u_iload_1, u_istore_1, u_aload_1, u_astore_1, u_lload_1, u_lstore_1, u_iinc_1, u_iload_2, u_istore_2, u_aload_2, u_astore_2, u_lload_2, u_lstore_2, u_iinc_2, u_iload_3, u_istore_3, u_aload_3, u_astore_3, u_lload_3, u_lstore_3, u_iinc_3, u_iload_4, u_istore_4, u_aload_4, u_astore_4, u_lload_4, u_lstore_4, u_iinc_4, u_iload_5, u_istore_5, u_aload_5, u_astore_5, u_lload_5, u_lstore_5, u_iinc_5, u_iload_6, u_istore_6, u_aload_6, u_astore_6, u_iinc_6, u_iload_7, u_istore_7, u_aload_7, u_astore_7, u_iinc_7, u_iload_8, u_istore_8, u_aload_8, u_astore_8, u_iinc_8, u_iload_9, u_istore_9, u_aload_9, u_astore_9, u_lload_9, u_lstore_9, u_iinc_9, u_iload_10, u_istore_10, u_aload_10, u_astore_10, u_iinc_10, u_iload_11, u_istore_11, u_aload_11, u_astore_11, u_iinc_11, u_iload_12, u_istore_12, u_aload_12, u_astore_12, u_iinc_12, u_iload_13, u_istore_13, u_aload_13, u_astore_13, u_iinc_13, u_iret, u_zret, u_aret, u_vret, u_lret, u_getI, u_getR, u_putI, u_putZ, u_putR, u_iald, u_zald, u_aald, u_iast, u_zast, u_aast, u_alen, u_newa, u_newq, u_new, u_oinit_0, u_max_0, u_min_0, u_copy_0, u_invV_0_0, u_invI_0_0, u_invV_1_0, u_invI_1_0, u_invS_1_0, u_invV_2_0, u_invS_2_0, u_invV_3_0, u_invS_3_0, u_invV_4_0, u_invS_4_0, u_oinit_1, u_max_1, u_min_1, u_invV_0_1, u_invI_0_1, u_invV_1_1, u_invI_1_1, u_invS_1_1, u_invV_2_1, u_invS_2_1, u_invV_3_1, u_invS_3_1, u_invV_4_1, u_invS_4_1, u_oinit_2, u_max_2, u_min_2, u_invV_0_2, u_invI_0_2, u_invV_1_2, u_invI_1_2, u_invS_1_2, u_invV_2_2, u_invS_2_2, u_invV_3_2, u_invS_3_2, u_invV_4_2, u_invS_4_2, u_oinit_3, u_max_3, u_min_3, u_invV_0_3, u_invI_0_3, u_invV_1_3, u_invI_1_3, u_invS_1_3, u_invV_2_3, u_invS_2_3, u_invV_3_3, u_invS_3_3, u_invV_4_3, u_invS_4_3, u_oinit_4, u_max_4, u_min_4, u_invV_0_4, u_invI_0_4, u_invV_1_4, u_invI_1_4, u_invS_1_4, u_invV_2_4, u_invS_2_4, u_invV_3_4, u_invS_3_4, u_invV_4_4, u_invS_4_4, u_ret1, u_ret0, u_bs, ↓reduceIte, if_true, if_false, Option.toList_none, Option.toList_some, List.nil_append, List.cons_append, true_or, or_true, false_or, or_false, not_true_eq_false, not_false_eq_true, and_true, true_and, and_false, false_and, p_sw, Nat.reduceEqDiff, Nat.reduceLeDiff, Nat.reduceAdd, Nat.reduceSub, Nat.reduceMul, eq_self, rv_4, gR_4_0, gR_4_1, gI_4_2, gR_4_3, gR_4_4, gR_4_5, gR_4_6, gR_4_7, rv_5, gR_5_0, gR_5_1, gR_5_2, gR_5_3, gR_5_4, gI_5_5, gI_5_6, rv_15, gR_15_0, gI_15_1, gI_15_2, gI_15_3, gI_15_4, gI_15_5, rv_16, gR_16_0, gI_16_1, rv_18, gR_18_0, gR_18_1, gR_18_2, gR_18_3, gR_18_4, gI_18_5, gI_18_6, rv_24, gR_24_0, gR_24_1, gR_24_2, gR_24_3, gR_24_4, gI_24_5, gI_24_6, rv_30, gR_30_0, gR_30_1, gR_30_2, gR_30_3, gR_30_4, gI_30_5, gI_30_6, rv_36, gR_36_0, gR_36_1, gR_36_2, gR_36_3, gR_36_4, gI_36_5, gI_36_6, rv_42, gR_42_0, gR_42_1, gR_42_2, gR_42_3, gR_42_4, gI_42_5, gI_42_6, rv_48, gR_48_0, gR_48_1, gR_48_2, gR_48_3, gR_48_4, gI_48_5, gI_48_6, rv_54, gR_54_0, gR_54_1, gR_54_2, gR_54_3, gR_54_4, gI_54_5, gI_54_6, rv_60, gR_60_0, gR_60_1, gR_60_2, gR_60_3, gR_60_4, gI_60_5, gI_60_6, rv_66, gR_66_0, gR_66_1, gR_66_2, gR_66_3, gR_66_4, gI_66_5, gI_66_6, rv_72, gI_72_0, gI_72_1, gR_72_2, gR_72_3, gR_72_4, gR_72_5, rv_77, gI_77_0, gI_77_1, gR_77_2, gR_77_3, gR_77_4, gR_77_5, rv_82, gI_82_0, gI_82_1, gR_82_2, gR_82_3, gR_82_4, gR_82_5, rv_87, gI_87_0, gI_87_1, gR_87_2, gR_87_3, gR_87_4, gR_87_5, rv_92, gI_92_0, gI_92_1, gR_92_2, gR_92_3, gR_92_4, gR_92_5, rv_97, gI_97_0, gI_97_1, gR_97_2, gR_97_3, gR_97_4, gR_97_5, hl, a1, X1, X2, X3]
  exact X4
end fin
theorem whole_start {p : Program} {e : Env} {s : State} {m : MethodId} {below : List Frame} {meth : Method} {c : Code} (l : Launch) (hflags : l.flags = flags0) {b L : Nat} {xs : Nat → Int32} (hL : L ≤ 260) (C0 : lw_At p s m meth c b L xs) : W p l e room_1 s m #[Value.ref b] below meth c s.heap [] 0 0 (lw_Z below #[Value.ref b] s) (entryFrame m ([Value.ref b] : List Value).toArray 12) := p_start pure_law l hL C0
-- ===== YOUR PART ENDS =====
set_option maxHeartbeats 4000000 in
theorem lw_walk (l : Launch) (hflags : l.flags = flags0) (b : Addr) (xs : List Int32) : MetFree l x (headSpec (Jvm.Cond.code x code maxLocals ret :: tables_1) room_1) (lw_P b xs) (fun _ _ _ _ _ => True) lw_Q := by
  refine MetFree.of_bodyS (code := code) (maxLocals := maxLocals) (ret := ret) (by decide) ?_ ?_
  · intro args s m h hn
    obtain ⟨meth, c, h1, h2, h3, h4, h5, h6, -, -⟩ := Cond.code_spec hn (atoms_spec (ws := Jvm.Cond.code x code maxLocals ret :: tables_1) h _ List.mem_cons_self)
    exact ⟨meth, c, h1, h2, h3, h4, h5, h6⟩
  · intro p e s m args below meth c s₁ B hml0 hP _
    obtain ⟨rfl, hx, hbd, hgv⟩ := hP
    obtain ⟨scr, harrAt, hlist, hof, hsmall⟩ := hx
    obtain ⟨hcb, hkn, -, -⟩ := State.arrayAt?_spec harrAt
    have hown : s.vm.findClass R_law = some m.cls := findClass_of_methodNamed B.named
    have hts0 : ∀ c ∈ (Jvm.Cond.code x code maxLocals ret :: tables_1), c.before #[Value.ref b] s = true := atoms_spec (ws := Jvm.Cond.code x code maxLocals ret :: tables_1) B.pre
    have hts : ∀ w ∈ lw_tbl, w.before #[Value.ref b] s = true := k2_hts_sels lw_privs (fun w hw => hts0 w (List.mem_cons_of_mem _ hw)) lw_privs_ok
    have hml : c.maxLocals = 12 := B.maxLocals_eq (hts0 _ List.mem_cons_self)
    have X₀ : Stand p l e room_1 s m #[Value.ref b] below meth c s₁ [] 0 0 := Stand.of_body B
    have hh0 : s₁.heap = s.heap := by rw [B.state]; rfl
    have hsz : scr.slots.size = xs.length := by rw [← Array.length_toList, hlist, List.length_map]
    have hval : ∀ j : Nat, j < xs.length → scr.slots[j]? = some (.int (xs.getD j 0)) := fun j hj => by
      rw [← Array.getElem?_toList, hlist]
      simp [hj]
    have hbl : b < s.heap.size := (Array.getElem?_eq_some_iff.mp hcb).1
    have hX : va_X b xs.length (fun j => xs.getD j 0) s s.heap := ⟨scr, hcb, hof, hkn, hsz, hval⟩
    have K : W p l e room_1 s m #[Value.ref b] below meth c s₁.heap [] 0 0 (lw_Z below #[Value.ref b] s) (entryFrame m ([Value.ref b] : List Value).toArray 12) := by
      rw [hh0]
      exact whole_start l hflags hbd ⟨B.exec, B.bytes, B.returns, hml, hown, hts, hX, hbl, B.notSynchronized, hgv⟩
    obtain ⟨t, a1, o, b1, b2, b3⟩ := K s₁ rfl X₀
    exact ⟨t, o, a1, b1, b2, b3⟩
theorem lw_pre_spec {args : Array Value} {s : State} (h : (Jvm.Cond.and given_1 narrow_1).before args s = true) (hr : rest_1_c.before args s = true) : ∃ (b : Addr) (xs : List Int32), lw_P b xs args s := by
  have hs := flat_of_before _ h
  have hq := flat_of_before _ hr
  have hc : (Cond.count 1).before args s = true := hs _ (by decide +kernel)
  have harr : (Cond.arrayOf (.arg 0) .int).before args s = true := hs _ (by decide +kernel)
  have hle : (Cond.le (.length (.arg 0)) (.int 260)).before args s = true := hs _ (by decide +kernel)
  have hlen : (Cond.isInt (.length (.arg 0))).before args s = true := hq _ (by decide +kernel)
  have hall : (Cond.all (.arg 0) (.isInt (.elem (.arg 0) (.index 0)))).before args s = true := hq _ (by decide +kernel)
  obtain ⟨b, xs, hb, hx⟩ := State.ints_of_pre rfl harr hlen hall
  have hsm : xs.length < 2 ^ 31 := hx.choose_spec.2.2.2
  have hev : (Term.length (.arg 0)).eval args s none [] s = some (.int xs.length.toInt32) := hx.length_eval hb
  have hv := Cond.le_ints hev (show (Term.int 260).eval args s none [] s = some (.int 260) from rfl)
  have hd : xs.length.toInt32 ≤ 260 := by
    simpa [Cond.before, Cond.holds, hv] using hle
  have hN : xs.length ≤ 260 := (Int32.ofNat_le_ofNat hsm (by decide)).mp (show Int32.ofNat xs.length ≤ Int32.ofNat 260 from hd)
  exact ⟨b, xs, Cond.one_arg hc (show args[0]? = some (.ref b) from hb), hx, hN, h⟩
theorem lw_comes (l : Launch) (hflags : l.flags = flags0) : Comes l x (Jvm.Cond.code x code maxLocals ret :: tables_1) room_1 (fun tb e args s => Calls_1 tb e args s ∧ rest_1 tb e args s ∧ Pre_1 tb e args s)
    (fun _ _ args s o t => lw_Q args s o t) := by
  intro p e ha hc hk s m args below hf hfit hheap happ hpre
  obtain ⟨b, xs, hP⟩ := lw_pre_spec hpre.2.2 hpre.2.1
  obtain ⟨k, o, h1, h2, h3, hQ⟩ := lw_walk l hflags b xs p e ha hc hk s m args below hf ((Spec.applies_iff_loose hf).mp happ).1 hP trivial
  exact ⟨k, o, h1, h2, h3, hQ⟩
theorem lw_frame {s t : State} {o : Outcome} {args : Array Value} (h : Framed s o t [] 600000 7302250) :
    Framed s o t (fieldLocs frame_1_writes args s ++ arrayLocs frame_1_arrays args s ++ staticLocs frame_1_statics s) 600000 7302250 := h
theorem lw_limb (L : Cond) (hL : ∀ (args : Array Value) (s t : State), L.after args s (.returned (some (.int 1))) t = true) :
    ArmFor flags0 classFile x code maxLocals ret World_1 tables_1 room_1 Calls_1 rest_1 Pre_1
      (fun tb e a s o t => postC L tb e a s o t ∧ Framed s o t (fieldLocs frame_1_writes a s ++ arrayLocs frame_1_arrays a s ++ staticLocs frame_1_statics s) 600000 7302250) := by
  intro l hflags _ _ p e ha hc hk s m args below hf hfit hheap happ hpre
  obtain ⟨k, o, h1, h2, h3, rfl, hF⟩ := lw_comes l hflags p e ha hc hk s m args below hf hfit hheap happ hpre
  exact ⟨k, _, h1, h2, h3, hL args s _, lw_frame hF⟩
theorem i_vc : Claimed_1_1 ∧ Claimed_1_2 := ⟨lw_limb limb_1_1 (fun args s t => by simp [limb_1_1, Cond.after, Cond.holds, Cond.value]), lw_limb limb_1_2 (fun args s t => Cond.after_iff.mpr (by
  first | (rw [show limb_1_2 = Cond.eq .result (.int 1) from rfl, Cond.eq_ints (x := 1) (y := 1) rfl rfl]; simp; done) | (simp [limb_1_2, Cond.value, Term.eval]; done)))⟩
