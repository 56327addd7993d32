/-! calls -/
def p_args : Nat → List Value → List Value → Option (List Value × List Value)
  | 0, acc, st => some (acc, st)
  | n + 1, acc, v :: st => p_args n (v :: acc) st
  | _ + 1, _, [] => none
def p_recv (L : pH) (ci : Nat) (av : List Value) : Bool := match av with
  | .ref b :: _ => p_isO L ci b
  | _ => false
def o_invV (ci μ' n p : Nat) : pO := fun C k ls st L => match p_args (n + 1) [] st with
  | some (av, rest) => if p_recv L ci av = true ∧ rest.length ≤ 4 then (C μ' av L).bind fun o => k p ls (o.1.toList ++ rest) o.2 else none
  | none => none
def o_invS (μ' n p : Nat) : pO := fun C k ls st L => match p_args n [] st with
  | some (av, rest) => if rest.length ≤ 4 then (C μ' av L).bind fun o => k p ls (o.1.toList ++ rest) o.2 else none
  | none => none
def p_isR (av : List Value) : Bool := match av with
  | .ref _ :: _ => true
  | _ => false
def o_invI (μ' n p : Nat) : pO := fun C k ls st L => match p_args (n + 1) [] st with
  | some (av, rest) => if p_isR av = true ∧ rest.length ≤ 4 then (C μ' av L).bind fun o => k p ls (o.1.toList ++ rest) o.2 else none
  | none => none
theorem p_args_of : ∀ (n : Nat) (acc st av rest : List Value), p_args n acc st = some (av, rest) → ∃ x, av = x ++ acc ∧ st = x.reverse ++ rest ∧ x.length = n
  | 0, acc, st, av, rest, h => by
    simp only [p_args, Option.some.injEq, Prod.mk.injEq] at h
    exact ⟨[], by simp [h.1], by simp [h.2], rfl⟩
  | n + 1, acc, [], av, rest, h => by simp [p_args] at h
  | n + 1, acc, v :: st, av, rest, h => by
    obtain ⟨x, h1, h2, h3⟩ := p_args_of n (v :: acc) st av rest h
    exact ⟨x ++ [v], by simp [h1], by simp [h2], by simp [h3]⟩
theorem p_recv_of {L : pH} {ci : Nat} {av : List Value} (h : p_recv L ci av = true) : ∃ (b : Nat) (as : List Value) (fs : List Value), av = .ref b :: as ∧ L[b]? = some (.inr (.inr (ci, fs))) := by
  unfold p_recv at h
  split at h
  · rename_i b as
    obtain ⟨fs, hfs⟩ := p_isO_of h
    exact ⟨b, as, fs, rfl, hfs⟩
  · cases h
theorem p_nw_same {u U : State} (h : u.vm = U.vm) (hz : p_nw u) : p_nw U := by
  refine ⟨fun q hq => va_Nw.same rfl h (hz.1 q hq), fun q hq => va_Nw.same rfl h (hz.2.1 q hq), ?_, ?_⟩
  · exact va_AO.moved (by rw [h]; exact Vm.Alike.refl _) hz.2.2.1
  · exact va_AO.moved (by rw [h]; exact Vm.Alike.refl _) hz.2.2.2
theorem p_nw_warm {u U : State} (h : u.WarmedH U.vm) (hz : p_nw u) : p_nw U := by
  refine ⟨fun q hq => va_Nw.warmM h (hz.1 q hq), fun q hq => va_Nw.warmF h (hz.2.1 q hq), ?_, ?_⟩
  · exact va_AO.moved h.alike hz.2.2.1
  · exact va_AO.moved h.alike hz.2.2.2
theorem p_ro_moved {G : p_T} {rot : Nat → Nat × (Nat → Int32)} {u U : State} {H H1 : Heap} (hvm : u.vm.Alike U.vm) (hB : G.1 ≤ H.size) (hq : ∀ a : Nat, a < H.size → ¬ p_A G a → H1[a]? = H[a]?) (h : p_ro G rot u H) : p_ro G rot U H1 := by
  exact ⟨fun i hi => ((h.1 i hi).moved hvm).kept hq, ((h.2.1).moved hvm).kept hq, ((h.2.2.1).moved hvm).kept hq, ((h.2.2.2).moved hvm).kept hq⟩
theorem p_blind {G : p_T} {D : va_G} {rot : Nat → Nat × (Nat → Int32)} {L : pH} {av : List Value} (h4 : 4 ≤ L.length) : FrameBlind (va_Pc av (p_Pre G D rot L)) := by
  intro a U g mk q
  obtain ⟨q0, q1, q2, q3, q4, q5⟩ := q
  exact ⟨q0, q1, q2, va_K.moved (u := U) (U := U.calling g mk a) (Vm.Alike.refl U.vm) q3, p_ro_moved (u := U) (U := U.calling g mk a) (H := U.heap) (Vm.Alike.refl U.vm) (by omega) (fun _ _ _ => rfl) q4, p_nw_same (u := U) (U := U.calling g mk a) rfl q5⟩
theorem p_after {p : Program} {l : Launch} {e : Env} {R : Room} {s : State} {m : MethodId} {args : Array Value} {below : List Frame} {meth : Method} {c : Code} {Q : State → Prop} {G : p_T} {D : va_G} {H : Heap} {locs : List Loc} {cells slots mc ms pc : Nat} {lsA : Array Slot} {st0 rest : List Value} {o1 : pOut} {a9 : Array Value}
    (hr : va_Run p l e R s m args below meth c H locs cells slots mc ms (F0 m pc lsA st0) rest (p_Post G D o1 a9) (p_A G)) (hS : va_S (p_A G) s.heap H locs)
    (kk : ∀ (H1 : Heap) (locs1 : List Loc), va_P D vwCl (p_w G o1.2) H1 → va_S (p_A G) s.heap H1 locs1 → W p l e R s m args below meth c H1 locs1 (cells + mc) (slots + ms) Q (F0 m (pc + 3) lsA ((o1.1.map (p_v G)).toList ++ rest))) : W p l e R s m args below meth c H locs cells slots Q (F0 m pc lsA st0) := by
  intro T hT X
  obtain ⟨v, st₀, t, T', Lx, h0, X', hL, e1, e2, ⟨hv, hp, hz, hk⟩, st⟩ := hr T hT X
  have hv2 : v = o1.1.map (p_v G) := by injection hv
  subst hv2
  rw [h0] at hz hk
  obtain ⟨t2, a1, b1⟩ := kk T'.heap (locs ++ Lx) (by rw [e1]; exact hp) ⟨Nat.le_trans hS.1 (by rw [e1]; exact hz), fun q h1 h2 => by rw [e1, hk q (Nat.lt_of_lt_of_le h1 hS.1) h2]; exact hS.2.1 q h1 h2, fun q hq => by
      rcases List.mem_append.mp hq with h | h
      · exact hS.2.2 q h
      · exact hL q h⟩ T' rfl X'
  exact ⟨t2, st t2 a1, b1⟩
theorem p_mapo {G : p_T} (v : Option Value) (rest : List Value) : (v.map (p_v G)).toList ++ rest.map (p_v G) = (v.toList ++ rest).map (p_v G) := by cases v <;> rfl
abbrev p_hd (y : MethodName) (n : Nat) : Prop := y.cls ≠ "java/lang/invoke/MethodHandle" ∧ y.cls ≠ "java/lang/invoke/VarHandle" ∧ (parseMethodDescriptor y.desc).map (fun d => d.parameters.length) = some n
/-- what a call needs of the state in which it is made -/
theorem p_pre_at {G : p_T} {D : va_G} {rot : Nat → Nat × (Nat → Int32)} {s : State} {L : pH} {H : Heap} {locs : List Loc} (hK : va_K D vwCl (p_tys G) s) (hro : p_ro G rot s s.heap) (hnw : p_nw s) (hB : G.1 ≤ s.heap.size) (hP : va_P D vwCl (p_w G L) H) (hS : va_S (p_A G) s.heap H locs) (hz : H.size + 4 = G.1 + L.length) : ∀ U : State, U.heap = H → s.WarmedH U.vm → p_Pre G D rot L U := by
  intro U hU hW
  subst hU
  exact ⟨hz, hP, va_K.moved hW.alike hK, p_ro_moved hW.alike hB (fun a h1 h2 => hS.2.1 a h1 h2) hro, p_nw_warm hW hnw⟩
theorem s_invV {μ pc idx μ' n ci N : Nat} {CN : String} {TT : u_T} (h : decode (pB μ) pc = .ok (.invokevirtual idx, 3)) (hcl : vwCl[ci]? = some (CN, TT, N)) (hy : (pN μ').cls = CN) (hd : p_hd (pN μ') n) (hml9 : pML μ' ≤ 80)
    (hw1 : Cond.methodLink (pN μ).cls idx (pN μ') ∈ pWS) (hw2 : Cond.instanceMethod (pN μ') ∈ pWS) (hw3 : Cond.selects CN (pN μ') (pN μ') ∈ pWS) (hw4 : Cond.initialized CN ∈ pWS) (hw5 : Cond.code (pN μ') (pB μ') (pML μ') (pRt μ') ∈ pWS) : p_S μ pc (o_invV ci μ' n (pc + 3)) := by
  intro p l e R s m args below meth c Q G D rot d n0 s0 C o X k ls st L hop hk
  obtain ⟨⟨hx, hb, hml, hown, hts⟩, ⟨hK, hn0, h40, hro, hnw⟩, ⟨hfr, hlo, hce, hsl⟩, hC, hnm, hRet⟩ := X
  unfold o_invV at hop
  split at hop
  · rename_i av rest harg
    split at hop
    · rename_i hcond
      obtain ⟨hrc, hr4⟩ := hcond
      obtain ⟨o1, hcall, hop2⟩ := p_bind hop
      obtain ⟨x, hx1, hx2, hx3⟩ := p_args_of _ _ _ _ _ harg
      rw [List.append_nil] at hx1
      subst hx1
      obtain ⟨b, as, fs, rfl, he⟩ := p_recv_of hrc
      intro hrot
      have h4 := p_rt_len hrot
      have h4b := p_rt_ge hrot he
      obtain ⟨⟨ge1, ge2, ge3⟩, hM⟩ := hC μ' _ L o1 hcall hrot
      obtain ⟨⟨gf1, gf2, gf3⟩, hj⟩ := hk _ _ _ _ hop2 ge3
      refine ⟨⟨Nat.le_trans ge1 gf1, Nat.le_trans ge2 gf2, gf3⟩, fun H locs cells slots lsA hl hlg hP hS hc hs => ?_⟩
      refine p_size hn0 h40 h4 hc hS hP (fun hz => ?_)
      have hpre := p_pre_at hK hro hnw (by omega) hP hS hz
      have hgood : GoodIn pWS (wsV (pN μ).cls idx CN (pN μ') (pW μ')) := p_gi (fun w hw => by
        simp only [wsV, List.mem_append, List.mem_cons, List.not_mem_nil, or_false] at hw
        rcases hw with (rfl | rfl | rfl | rfl) | rfl | hw
        · exact hw1
        · exact hw2
        · exact hw3
        · exact hw4
        · exact hw5
        · exact hw)
      have hst : st.map (p_v G) = (as.map (p_v G)).reverse ++ .ref (p_ad G b) :: rest.map (p_v G) := by
        rw [hx2]
        simp [p_v]
      have hlen : (as.map (p_v G)).length = n := by
        rw [List.length_map]
        simpa using hx3
      have hc8 := p_cat8 rest G hr4
      have hrun := va_runV (l := l) (e := e) (meth := meth) (below := below) (cells := cells) (slots := slots) (locs := locs) (rest := rest.map (p_v G)) (As := as.map (p_v G)) (b := p_ad G b) (g := F0 m pc lsA (st.map (p_v G))) (nL := pML μ) ⟨hx, hb, hml, hown, hts⟩ hM
        (cwV (R := R) n hts hgood rfl rfl rfl ⟨hy, hd.1, hd.2.1, hd.2.2⟩ ⟨by show d + 1 ≤ R.frames; omega, by show 8 + (pML μ' + 11) + 100 * d ≤ R.locals; omega⟩)
        ⟨p_blind h4, va_recv hK hP hcl (p_enc_obj h4b he), fun U hU hW => ⟨rfl, hpre U hU hW⟩⟩ rfl hlen hl.1 hst (lv_room hc8) h (by constructor <;> omega)
      refine p_after hrun hS (fun H1 locs1 hP1 hS1 => ?_)
      rw [p_mapo]
      exact hj H1 locs1 _ _ lsA hl hlg hP1 hS1 (by omega) (by omega)
    · cases hop
  · cases hop
theorem s_invS {μ pc idx μ' n : Nat} (h : decode (pB μ) pc = .ok (.invokestatic idx, 3)) (hd : p_hd (pN μ') n) (hml9 : pML μ' ≤ 80)
    (hw1 : Cond.methodLink (pN μ).cls idx (pN μ') ∈ pWS) (hw2 : Cond.static (pN μ') ∈ pWS) (hw4 : Cond.initialized (pN μ').cls ∈ pWS) (hw5 : Cond.code (pN μ') (pB μ') (pML μ') (pRt μ') ∈ pWS) : p_S μ pc (o_invS μ' n (pc + 3)) := by
  intro p l e R s m args below meth c Q G D rot d n0 s0 C o X k ls st L hop hk
  obtain ⟨⟨hx, hb, hml, hown, hts⟩, ⟨hK, hn0, h40, hro, hnw⟩, ⟨hfr, hlo, hce, hsl⟩, hC, hnm, hRet⟩ := X
  unfold o_invS at hop
  split at hop
  · rename_i av rest harg
    split at hop
    · rename_i hr4
      obtain ⟨o1, hcall, hop2⟩ := p_bind hop
      obtain ⟨x, hx1, hx2, hx3⟩ := p_args_of _ _ _ _ _ harg
      rw [List.append_nil] at hx1
      subst hx1
      intro hrot
      have h4 := p_rt_len hrot
      obtain ⟨⟨ge1, ge2, ge3⟩, hM⟩ := hC μ' _ L o1 hcall hrot
      obtain ⟨⟨gf1, gf2, gf3⟩, hj⟩ := hk _ _ _ _ hop2 ge3
      refine ⟨⟨Nat.le_trans ge1 gf1, Nat.le_trans ge2 gf2, gf3⟩, fun H locs cells slots lsA hl hlg hP hS hc hs => ?_⟩
      refine p_size hn0 h40 h4 hc hS hP (fun hz => ?_)
      have hpre := p_pre_at hK hro hnw (by omega) hP hS hz
      have hgood : GoodIn pWS (va_wsS (pN μ).cls idx (pN μ') (pW μ')) := p_gi (fun w hw => by
        simp only [va_wsS, List.mem_append, List.mem_cons, List.not_mem_nil, or_false] at hw
        rcases hw with (rfl | rfl | rfl) | rfl | hw
        · exact hw1
        · exact hw2
        · exact hw4
        · exact hw5
        · exact hw)
      have hst : st.map (p_v G) = (av.map (p_v G)).reverse ++ rest.map (p_v G) := by
        rw [hx2]
        simp
      have hlen : (av.map (p_v G)).length = n := by rw [List.length_map]; exact hx3
      have hc8 := p_cat8 rest G hr4
      have hrun := va_runS (l := l) (e := e) (meth := meth) (below := below) (cells := cells) (slots := slots) (locs := locs) (rest := rest.map (p_v G)) (As := av.map (p_v G)) (g := F0 m pc lsA (st.map (p_v G))) (nL := pML μ) ⟨hx, hb, hml, hown, hts⟩ hM
        (va_cwS (R := R) n hts hgood rfl rfl rfl ⟨hd.1, hd.2.1, hd.2.2⟩ ⟨by show d + 1 ≤ R.frames; omega, by show 8 + (pML μ' + 11) + 100 * d ≤ R.locals; omega⟩)
        ⟨p_blind h4, fun U hU hW => ⟨rfl, hpre U hU hW⟩⟩ rfl hlen hl.1 hst (lv_room hc8) h (by constructor <;> omega)
      refine p_after hrun hS (fun H1 locs1 hP1 hS1 => ?_)
      rw [p_mapo]
      exact hj H1 locs1 _ _ lsA hl hlg hP1 hS1 (by omega) (by omega)
    · cases hop
  · cases hop
theorem p_isR_of {av : List Value} (h : p_isR av = true) : ∃ (b : Nat) (as : List Value), av = .ref b :: as := by
  unfold p_isR at h
  split at h
  · exact ⟨_, _, rfl⟩
  · cases h
theorem s_invI {μ pc idx μ' n : Nat} (h : decode (pB μ) pc = .ok (.invokespecial idx, 3)) (hd : p_hd (pN μ') n) (hml9 : pML μ' ≤ 80) (hy : (pN μ').name = "<init>") (hrt : pRt μ' = none)
    (hw1 : Cond.methodLink (pN μ).cls idx (pN μ') ∈ pWS) (hw2 : Cond.instanceMethod (pN μ') ∈ pWS) (hw4 : Cond.initialized (pN μ').cls ∈ pWS) (hw5 : Cond.code (pN μ') (pB μ') (pML μ') (pRt μ') ∈ pWS) : p_S μ pc (o_invI μ' n (pc + 3)) := by
  intro p l e R s m args below meth c Q G D rot d n0 s0 C o X k ls st L hop hk
  obtain ⟨⟨hx, hb, hml, hown, hts⟩, ⟨hK, hn0, h40, hro, hnw⟩, ⟨hfr, hlo, hce, hsl⟩, hC, hnm, hRet⟩ := X
  unfold o_invI at hop
  split at hop
  · rename_i av rest harg
    split at hop
    · rename_i hcond
      obtain ⟨hrc, hr4⟩ := hcond
      obtain ⟨o1, hcall, hop2⟩ := p_bind hop
      obtain ⟨x, hx1, hx2, hx3⟩ := p_args_of _ _ _ _ _ harg
      rw [List.append_nil] at hx1
      subst hx1
      obtain ⟨b, as, rfl⟩ := p_isR_of hrc
      intro hrot
      have h4 := p_rt_len hrot
      obtain ⟨⟨ge1, ge2, ge3⟩, hM⟩ := hC μ' _ L o1 hcall hrot
      obtain ⟨⟨gf1, gf2, gf3⟩, hj⟩ := hk _ _ _ _ hop2 ge3
      refine ⟨⟨Nat.le_trans ge1 gf1, Nat.le_trans ge2 gf2, gf3⟩, fun H locs cells slots lsA hl hlg hP hS hc hs => ?_⟩
      refine p_size hn0 h40 h4 hc hS hP (fun hz => ?_)
      have hpre := p_pre_at hK hro hnw (by omega) hP hS hz
      have hgood : GoodIn pWS (pW μ') := p_gi (fun w hw => by
        simp only [List.mem_cons] at hw
        rcases hw with rfl | hw
        · exact hw5
        · exact hw)
      have hst : st.map (p_v G) = (as.map (p_v G)).reverse ++ .ref (p_ad G b) :: rest.map (p_v G) := by
        rw [hx2]
        simp [p_v]
      have hlen : (as.map (p_v G)).length = n := by
        rw [List.length_map]
        simpa using hx3
      have hc8 := p_cat8 rest G hr4
      have hrun := va_runI (l := l) (e := e) (meth := meth) (below := below) (cells := cells) (slots := slots) (locs := locs) (rest := rest.map (p_v G)) (As := as.map (p_v G)) (b := p_ad G b) (g := F0 m pc lsA (st.map (p_v G))) (nL := pML μ) ⟨hx, hb, hml, hown, hts⟩ hM
        (cwI (R := R) (bytes := pB μ') (maxL := pML μ') n hts hgood (show pW μ' = Cond.code (pN μ') (pB μ') (pML μ') none :: pWS by show Cond.code _ _ _ (pRt μ') :: pWS = _; rw [hrt]) rfl rfl (hts _ hw4) (hts _ hw1) (hts _ hw2) hy ⟨hd.1, hd.2.1, hd.2.2⟩ ⟨by show d + 1 ≤ R.frames; omega, by show 8 + (pML μ' + 11) + 100 * d ≤ R.locals; omega⟩)
        ⟨p_blind h4, fun U hU hW => ⟨rfl, hpre U hU hW⟩⟩ rfl hlen hl.1 hst (lv_room hc8) h (by constructor <;> omega)
      refine p_after hrun hS (fun H1 locs1 hP1 hS1 => ?_)
      rw [p_mapo]
      exact hj H1 locs1 _ _ lsA hl hlg hP1 hS1 (by omega) (by omega)
    · cases hop
  · cases hop
theorem s_invN {μ pc idx μ' n : Nat} {host : String} (h : decode (pB μ) pc = .ok (.invokespecial idx, 3)) (hd : p_hd (pN μ') n) (hml9 : pML μ' ≤ 80) (hy : (pN μ').name = "<init>") (hrt : pRt μ' = none)
    (hw1 : ((pN μ).cls, (idx, (pN μ', host))) ∈ p_nests) (hw2 : Cond.instanceMethod (pN μ') ∈ pWS) (hw4 : Cond.initialized (pN μ').cls ∈ pWS) (hw5 : Cond.code (pN μ') (pB μ') (pML μ') (pRt μ') ∈ pWS) : p_S μ pc (o_invI μ' n (pc + 3)) := by
  intro p l e R s m args below meth c Q G D rot d n0 s0 C o X k ls st L hop hk
  obtain ⟨⟨hx, hb, hml, hown, hts⟩, ⟨hK, hn0, h40, hro, hnw⟩, ⟨hfr, hlo, hce, hsl⟩, hC, hnm, hRet⟩ := X
  unfold o_invI at hop
  split at hop
  · rename_i av rest harg
    split at hop
    · rename_i hcond
      obtain ⟨hrc, hr4⟩ := hcond
      obtain ⟨o1, hcall, hop2⟩ := p_bind hop
      obtain ⟨x, hx1, hx2, hx3⟩ := p_args_of _ _ _ _ _ harg
      rw [List.append_nil] at hx1
      subst hx1
      obtain ⟨b, as, rfl⟩ := p_isR_of hrc
      intro hrot
      have h4 := p_rt_len hrot
      obtain ⟨⟨ge1, ge2, ge3⟩, hM⟩ := hC μ' _ L o1 hcall hrot
      obtain ⟨⟨gf1, gf2, gf3⟩, hj⟩ := hk _ _ _ _ hop2 ge3
      refine ⟨⟨Nat.le_trans ge1 gf1, Nat.le_trans ge2 gf2, gf3⟩, fun H locs cells slots lsA hl hlg hP hS hc hs => ?_⟩
      refine p_size hn0 h40 h4 hc hS hP (fun hz => ?_)
      have hpre := p_pre_at hK hro hnw (by omega) hP hS hz
      have hgood : GoodIn pWS (pW μ') := p_gi (fun w hw => by
        simp only [List.mem_cons] at hw
        rcases hw with rfl | hw
        · exact hw5
        · exact hw)
      have hst : st.map (p_v G) = (as.map (p_v G)).reverse ++ .ref (p_ad G b) :: rest.map (p_v G) := by
        rw [hx2]
        simp [p_v]
      have hlen : (as.map (p_v G)).length = n := by
        rw [List.length_map]
        simpa using hx3
      have hc8 := p_cat8 rest G hr4
      have hrun := va_runIN (l := l) (e := e) (meth := meth) (below := below) (cells := cells) (slots := slots) (locs := locs) (rest := rest.map (p_v G)) (As := as.map (p_v G)) (b := p_ad G b) (g := F0 m pc lsA (st.map (p_v G))) (nL := pML μ) ⟨hx, hb, hml, hown, hts⟩ hM
        ⟨va_cnB (R := R) (bytes := pB μ') (maxL := pML μ') n hts hgood (show pW μ' = Cond.code (pN μ') (pB μ') (pML μ') none :: pWS by show Cond.code _ _ _ (pRt μ') :: pWS = _; rw [hrt]) rfl rfl (hnw.1 _ hw1) (hts _ hw4) ⟨hd.1, hd.2.1, hd.2.2⟩ ⟨by show d + 1 ≤ R.frames; omega, by show 8 + (pML μ' + 11) + 100 * d ≤ R.locals; omega⟩, hy, hts _ hw2⟩
        ⟨p_blind h4, fun U hU hW => ⟨rfl, hpre U hU hW⟩⟩ rfl hlen hl.1 hst (lv_room hc8) h (by constructor <;> omega)
      refine p_after hrun hS (fun H1 locs1 hP1 hS1 => ?_)
      rw [p_mapo]
      exact hj H1 locs1 _ _ lsA hl hlg hP1 hS1 (by omega) (by omega)
    · cases hop
  · cases hop
