/-! ops on the heap -/
def p_gI (L : pH) (ci a k : Nat) : Option Int32 := match L[a]? with
  | some (.inr (.inr (c, fs))) => if c = ci then (match fs[k]? with
    | some (.int x) => some x
    | _ => none) else none
  | _ => none
def p_gR (L : pH) (ci a k : Nat) : Option Nat := match L[a]? with
  | some (.inr (.inr (c, fs))) => if c = ci then (match fs[k]? with
    | some (.ref x) => some x
    | _ => none) else none
  | _ => none
def p_put (L : pH) (ci a k : Nat) (v : Value) : Option pH := match L[a]? with
  | some (.inr (.inr (c, fs))) => if c = ci ∧ k < fs.length then some (L.set a (.inr (.inr (c, fs.set k v)))) else none
  | _ => none
def p_ld (L : pH) (kd a : Nat) (i : Int32) : Option Int32 := match L[a]? with
  | some (.inl (d, n, f)) => if d = kd ∧ ¬ (i < 0 ∨ n ≤ i.toNatClampNeg) then some (f i.toNatClampNeg) else none
  | _ => none
def p_ldR (L : pH) (a : Nat) (i : Int32) : Option Nat := match L[a]? with
  | some (.inr (.inl (d, n, f))) => if (d = 2 ∨ d = 3) ∧ ¬ (i < 0 ∨ n ≤ i.toNatClampNeg) then f i.toNatClampNeg else none
  | _ => none
def p_st (L : pH) (kd a : Nat) (i x : Int32) : Option pH := match L[a]? with
  | some (.inl (d, n, f)) => if d = kd ∧ 4 ≤ a ∧ ¬ (i < 0 ∨ n ≤ i.toNatClampNeg) then some (L.set a (.inl (d, n, upd f i.toNatClampNeg x))) else none
  | _ => none
def p_kc (kd : Nat) : Nat := match kd with
  | 2 => 0
  | _ => 3
def p_isO (L : pH) (ci b : Nat) : Bool := match L[b]? with
  | some (.inr (.inr (c, _))) => decide (c = ci)
  | _ => false
def p_stR (L : pH) (a : Nat) (i : Int32) (b : Nat) : Option pH := match L[a]? with
  | some (.inr (.inl (d, n, f))) => if (d = 2 ∨ d = 3) ∧ p_isO L (p_kc d) b = true ∧ ¬ (i < 0 ∨ n ≤ i.toNatClampNeg) then some (L.set a (.inr (.inl (d, n, va_up f i.toNatClampNeg (some b))))) else none
  | _ => none
def p_len (L : pH) (a : Nat) : Option Nat := match L[a]? with
  | some (.inl (d, n, _)) => if d ≤ 1 then some n else none
  | some (.inr (.inl (d, n, _))) => if d = 2 ∨ d = 3 then some n else none
  | _ => none
def o_getI (ci j p : Nat) : pO := fun _ k ls st L => match st with
  | .ref a :: r => (p_gI L ci a j).bind fun x => k p ls (.int x :: r) L
  | _ => none
def o_getR (ci j p : Nat) : pO := fun _ k ls st L => match st with
  | .ref a :: r => (p_gR L ci a j).bind fun x => k p ls (.ref x :: r) L
  | _ => none
def o_putI (ci j p : Nat) : pO := fun _ k ls st L => match st with
  | .int x :: .ref a :: r => (p_put L ci a j (.int x)).bind fun L' => k p ls r L'
  | _ => none
def o_putR (ci j p : Nat) : pO := fun _ k ls st L => match st with
  | .ref x :: .ref a :: r => (p_put L ci a j (.ref x)).bind fun L' => k p ls r L'
  | _ => none
def o_iald (p : Nat) : pO := fun _ k ls st L => match st with
  | .int i :: .ref a :: r => (p_ld L 0 a i).bind fun x => k p ls (.int x :: r) L
  | _ => none
def o_zald (p : Nat) : pO := fun _ k ls st L => match st with
  | .int i :: .ref a :: r => if 4 ≤ a then (p_ld L 1 a i).bind fun x => k p ls (.int x :: r) L else none
  | _ => none
def o_aald (p : Nat) : pO := fun _ k ls st L => match st with
  | .int i :: .ref a :: r => (p_ldR L a i).bind fun x => k p ls (.ref x :: r) L
  | _ => none
def o_iast (p : Nat) : pO := fun _ k ls st L => match st with
  | .int x :: .int i :: .ref a :: r => (p_st L 0 a i x).bind fun L' => k p ls r L'
  | _ => none
def o_zast (p : Nat) : pO := fun _ k ls st L => match st with
  | .int x :: .int i :: .ref a :: r => if x = 0 ∨ x = 1 then (p_st L 1 a i x).bind fun L' => k p ls r L' else none
  | _ => none
def o_aast (p : Nat) : pO := fun _ k ls st L => match st with
  | .ref b :: .int i :: .ref a :: r => (p_stR L a i b).bind fun L' => k p ls r L'
  | _ => none
def o_alen (p : Nat) : pO := fun _ k ls st L => match st with
  | .ref a :: r => (p_len L a).bind fun n => k p ls (.int (Int32.ofNat n) :: r) L
  | _ => none
def o_gets (i p : Nat) : pO := fun _ k ls st L => k p ls (.ref i :: st) L
def o_newa (kd p : Nat) : pO := fun _ k ls st L => match st with
  | .int n :: r => if n < 0 ∨ 1000 < n.toNatClampNeg then none else k p ls (.ref L.length :: r) (L ++ [.inl (kd, n.toNatClampNeg, fun _ => 0)])
  | _ => none
def o_newq (kd p : Nat) : pO := fun _ k ls st L => match st with
  | .int n :: r => if n < 0 ∨ 1000 < n.toNatClampNeg then none else k p ls (.ref L.length :: r) (L ++ [.inr (.inl (kd, n.toNatClampNeg, fun _ => none))])
  | _ => none
def o_new (ci : Nat) (fs : List Value) (p : Nat) : pO := fun _ k ls st L => k p ls (.ref L.length :: st) (L ++ [.inr (.inr (ci, fs))])
def o_oinit (p : Nat) : pO := fun _ k ls st L => match st with
  | .ref _ :: r => if r.length ≤ 4 then k p ls r L else none
  | _ => none
def o_max (p : Nat) : pO := fun _ k ls st L => match st with
  | .int y :: .int x :: r => if r.length ≤ 4 then k p ls (.int (if x < y then y else x) :: r) L else none
  | _ => none
def o_min (p : Nat) : pO := fun _ k ls st L => match st with
  | .int y :: .int x :: r => if r.length ≤ 4 then k p ls (.int (if y < x then y else x) :: r) L else none
  | _ => none
def p_cp (L : pH) (a0 : Nat) (sp : Int32) (a : Nat) (dp n : Int32) : Option pH := match L[a0]?, L[a]? with
  | some (.inl (d0, n0, f)), some (.inl (d1, n1, g)) => if d0 = 0 ∧ d1 = 0 ∧ 4 ≤ a0 ∧ 4 ≤ a ∧ ¬ sp < 0 ∧ ¬ dp < 0 ∧ ¬ n < 0 ∧ sp.toNatClampNeg + n.toNatClampNeg ≤ n0 ∧ dp.toNatClampNeg + n.toNatClampNeg ≤ n1 then
      some (L.set a (.inl (d1, n1, va_cpy f g sp.toNatClampNeg dp.toNatClampNeg n.toNatClampNeg))) else none
  | _, _ => none
def o_copy (p : Nat) : pO := fun _ k ls st L => match st with
  | .int n :: .int dp :: .ref a :: .int sp :: .ref a0 :: r => if r.length ≤ 4 then (p_cp L a0 sp a dp n).bind fun L' => k p ls r L' else none
  | _ => none
-- what they need
theorem p_gI_of {L : pH} {ci a j : Nat} {x : Int32} (h : p_gI L ci a j = some x) : ∃ fs : List Value, L[a]? = some (.inr (.inr (ci, fs))) ∧ fs[j]? = some (.int x) := by
  unfold p_gI at h
  split at h
  · rename_i c fs he
    split at h
    · rename_i hc
      subst hc
      split at h
      · rename_i y hy
        cases h
        exact ⟨fs, he, hy⟩
      · cases h
    · cases h
  · cases h
theorem p_gR_of {L : pH} {ci a j : Nat} {x : Nat} (h : p_gR L ci a j = some x) : ∃ fs : List Value, L[a]? = some (.inr (.inr (ci, fs))) ∧ fs[j]? = some (.ref x) := by
  unfold p_gR at h
  split at h
  · rename_i c fs he
    split at h
    · rename_i hc
      subst hc
      split at h
      · rename_i y hy
        cases h
        exact ⟨fs, he, hy⟩
      · cases h
    · cases h
  · cases h
theorem p_put_of {L L' : pH} {ci a j : Nat} {v : Value} (h : p_put L ci a j v = some L') : ∃ fs : List Value, L[a]? = some (.inr (.inr (ci, fs))) ∧ j < fs.length ∧ L' = L.set a (.inr (.inr (ci, fs.set j v))) := by
  unfold p_put at h
  split at h
  · rename_i c fs he
    split at h
    · rename_i hc
      obtain ⟨rfl, hc⟩ := hc
      cases h
      exact ⟨fs, he, hc, rfl⟩
    · cases h
  · cases h
theorem p_ld_of {L : pH} {kd a : Nat} {i x : Int32} (h : p_ld L kd a i = some x) : ∃ (n : Nat) (f : Nat → Int32), L[a]? = some (.inl (kd, n, f)) ∧ vp_in i n ∧ x = f i.toNatClampNeg := by
  unfold p_ld at h
  split at h
  · rename_i d n f he
    split at h
    · rename_i hc
      obtain ⟨rfl, hc⟩ := hc
      cases h
      exact ⟨n, f, he, hc, rfl⟩
    · cases h
  · cases h
theorem p_ldR_of {L : pH} {a : Nat} {i : Int32} {x : Nat} (h : p_ldR L a i = some x) : ∃ (d n : Nat) (f : Nat → Option Nat), (d = 2 ∨ d = 3) ∧ L[a]? = some (.inr (.inl (d, n, f))) ∧ vp_in i n ∧ f i.toNatClampNeg = some x := by
  unfold p_ldR at h
  split at h
  · rename_i d n f he
    split at h
    · rename_i hc
      exact ⟨d, n, f, hc.1, he, hc.2, h⟩
    · cases h
  · cases h
theorem p_st_of {L L' : pH} {kd a : Nat} {i x : Int32} (h : p_st L kd a i x = some L') : ∃ (n : Nat) (f : Nat → Int32), L[a]? = some (.inl (kd, n, f)) ∧ 4 ≤ a ∧ vp_in i n ∧ L' = L.set a (.inl (kd, n, upd f i.toNatClampNeg x)) := by
  unfold p_st at h
  split at h
  · rename_i d n f he
    split at h
    · rename_i hc
      obtain ⟨rfl, h4, hc⟩ := hc
      cases h
      exact ⟨n, f, he, h4, hc, rfl⟩
    · cases h
  · cases h
theorem p_isO_of {L : pH} {ci b : Nat} (h : p_isO L ci b = true) : ∃ fs : List Value, L[b]? = some (.inr (.inr (ci, fs))) := by
  unfold p_isO at h
  split at h
  · rename_i c fs he
    have hc : c = ci := of_decide_eq_true h
    subst hc
    exact ⟨fs, he⟩
  · cases h
theorem p_stR_of {L L' : pH} {a b : Nat} {i : Int32} (h : p_stR L a i b = some L') : ∃ (d n : Nat) (f : Nat → Option Nat) (fs : List Value), L[a]? = some (.inr (.inl (d, n, f))) ∧ (d = 2 ∨ d = 3) ∧ L[b]? = some (.inr (.inr (p_kc d, fs))) ∧ vp_in i n ∧ L' = L.set a (.inr (.inl (d, n, va_up f i.toNatClampNeg (some b)))) := by
  unfold p_stR at h
  split at h
  · rename_i d n f he
    split at h
    · rename_i hc
      obtain ⟨h2, h4, hc⟩ := hc
      obtain ⟨fs, hfs⟩ := p_isO_of h4
      cases h
      exact ⟨d, n, f, fs, he, h2, hfs, hc, rfl⟩
    · cases h
  · cases h
theorem p_cp_of {L L' : pH} {a0 a : Nat} {sp dp n : Int32} (h : p_cp L a0 sp a dp n = some L') : ∃ (n0 n1 : Nat) (f g : Nat → Int32), L[a0]? = some (.inl (0, n0, f)) ∧ L[a]? = some (.inl (0, n1, g)) ∧ 4 ≤ a0 ∧ 4 ≤ a ∧ ¬ sp < 0 ∧ ¬ dp < 0 ∧ ¬ n < 0 ∧ sp.toNatClampNeg + n.toNatClampNeg ≤ n0 ∧ dp.toNatClampNeg + n.toNatClampNeg ≤ n1 ∧ L' = L.set a (.inl (0, n1, va_cpy f g sp.toNatClampNeg dp.toNatClampNeg n.toNatClampNeg)) := by
  unfold p_cp at h
  split at h
  · rename_i d0 n0 f d1 n1 g he0 he1
    split at h
    · rename_i hc
      obtain ⟨rfl, rfl, g1, g2, g3, g4, g5, g6, g7⟩ := hc
      cases h
      exact ⟨n0, n1, f, g, he0, he1, g1, g2, g3, g4, g5, g6, g7, rfl⟩
    · cases h
  · cases h
theorem p_bind {α β : Type} {x : Option α} {f : α → Option β} {y : β} (h : x.bind f = some y) : ∃ z, x = some z ∧ f z = some y := Option.bind_eq_some_iff.mp h
/-- where a new cell lies: the room kept tells it -/
theorem p_q {p : Program} {l : Launch} {e : Env} {R : Room} {s : State} {m : MethodId} {args : Array Value} {below : List Frame} {meth : Method} {c : Code} {Q : State → Prop} {G : p_T} {D : va_G} {n0 cells slots q : Nat} {L : pH} {v : va_E} {H : Heap} {locs : List Loc} {g : JFrame} (hn0 : s.heap.size + 4 = G.1 + n0) (h4 : 4 ≤ L.length) (hc : cells + n0 = L.length + 1)
    (hP : va_P D vwCl (p_w G L ++ [(q, v)]) H) (hD : va_D (p_A G) (p_w G L ++ [(q, v)])) (k : q = p_ad G L.length → W p l e R s m args below meth c H locs cells slots Q g) : W p l e R s m args below meth c H locs cells slots Q g := by
  intro T hT X
  refine k ?_ T hT X
  have hz := X.heapSize
  rw [hT] at hz
  have hlast : (p_w G L ++ [(q, v)])[(p_w G L).length]? = some (q, v) := by simp
  have hq : q < H.size := (hP _ _ hlast).lt
  have hA : G.1 ≤ q := hD.2 _ _ hlast
  have hne : G.1 + (L.length - 4) ≤ q := by
    rcases Nat.lt_or_ge q (G.1 + (L.length - 4)) with w | w
    · exfalso
      have hl : q - G.1 < (p_w G L).length := by rw [p_w_len]; omega
      obtain ⟨x, hx⟩ : ∃ x, (p_w G L)[q - G.1]? = some x := ⟨_, List.getElem?_eq_getElem hl⟩
      have h1 := (p_w_at hx).1
      have h2 := hD.1 (q - G.1) (p_w G L).length x (q, v) (by rw [List.getElem?_append_left hl]; exact hx) hlast (by show x.1 = q; omega)
      omega
    · exact w
  unfold p_ad
  rw [if_neg (by omega)]
  omega
theorem p_size {p : Program} {l : Launch} {e : Env} {R : Room} {s : State} {m : MethodId} {args : Array Value} {below : List Frame} {meth : Method} {c : Code} {Q : State → Prop} {G : p_T} {D : va_G} {n0 cells slots : Nat} {L : pH} {H : Heap} {locs : List Loc} {g : JFrame} (hn0 : s.heap.size + 4 = G.1 + n0) (h40 : 4 ≤ n0) (h4 : 4 ≤ L.length) (hc : cells + n0 = L.length) (hS : va_S (p_A G) s.heap H locs)
    (hP : va_P D vwCl (p_w G L) H) (k : H.size + 4 = G.1 + L.length → W p l e R s m args below meth c H locs cells slots Q g) : W p l e R s m args below meth c H locs cells slots Q g := by
  intro T hT X
  refine k ?_ T hT X
  have hz := X.heapSize
  rw [hT] at hz
  have hs := hS.1
  rcases Nat.lt_or_ge 4 L.length with w | w
  · have hl : L.length - 5 < (p_w G L).length := by rw [p_w_len]; omega
    obtain ⟨x, hx⟩ : ∃ x, (p_w G L)[L.length - 5]? = some x := ⟨_, List.getElem?_eq_getElem hl⟩
    have h1 := (p_w_at hx).1
    have h2 := (hP _ _ hx).lt
    omega
  · omega
theorem p_enc_obj {G : p_T} {L : pH} {a ci : Nat} {fs : List Value} (h4 : 4 ≤ a) (he : L[a]? = some (.inr (.inr (ci, fs)))) : (p_w G L)[a - 4]? = some (p_ad G a, .inr (ci, fs.map (p_v G))) := p_w_get he h4
theorem s_getI {μ pc idx : Nat} {ci j N : Nat} {CN : String} {TT : u_T} (h : decode (pB μ) pc = .ok (.getfield idx, 3)) (hcl : vwCl[ci]? = some (CN, TT, N)) (hin : ∀ w ∈ u_ws CN TT N, w ∈ pWS) (hjN : j < N) (hsm : (TT j).1 = CN) (hw : Cond.fieldLink (pN μ).cls idx CN (TT j).2.1 (TT j).2.2.1 ∈ pWS) : p_S μ pc (o_getI ci j (pc + 3)) := by
  intro p l e R s m args below meth c Q G D rot d n0 s0 C o X k ls st L hop hk
  obtain ⟨⟨hx, hb, hml, hown, hts⟩, ⟨hK, hn0, h40, hro, hnw⟩, ⟨hfr, hlo, hce, hsl⟩, hC, hnm, hRet⟩ := X
  unfold o_getI at hop
  split at hop
  · rename_i a r
    obtain ⟨x, hg, hop⟩ := p_bind hop
    obtain ⟨fs, he, hv⟩ := p_gI_of hg
    intro hrot
    obtain ⟨hge, hj⟩ := hk _ _ _ _ hop hrot
    refine ⟨hge, fun H locs cells slots lsA hl hlg hP hS hc hs => ?_⟩
    exact va_get hx hb hts hin hown hK hP (a - 4) (p_enc_obj (p_rt_ge hrot he) he) hcl j hjN (hts _ hw) (fun z hz => by rw [hsm] at hz; exact hz) (v := .int x) (by rw [List.getElem?_map, hv]; rfl) h (hj H locs cells slots lsA hl hlg hP hS hc hs)
  · cases hop
theorem s_getR {μ pc idx : Nat} {ci j N : Nat} {CN : String} {TT : u_T} (h : decode (pB μ) pc = .ok (.getfield idx, 3)) (hcl : vwCl[ci]? = some (CN, TT, N)) (hin : ∀ w ∈ u_ws CN TT N, w ∈ pWS) (hjN : j < N) (hsm : (TT j).1 = CN) (hw : Cond.fieldLink (pN μ).cls idx CN (TT j).2.1 (TT j).2.2.1 ∈ pWS) : p_S μ pc (o_getR ci j (pc + 3)) := by
  intro p l e R s m args below meth c Q G D rot d n0 s0 C o X k ls st L hop hk
  obtain ⟨⟨hx, hb, hml, hown, hts⟩, ⟨hK, hn0, h40, hro, hnw⟩, ⟨hfr, hlo, hce, hsl⟩, hC, hnm, hRet⟩ := X
  unfold o_getR at hop
  split at hop
  · rename_i a r
    obtain ⟨x, hg, hop⟩ := p_bind hop
    obtain ⟨fs, he, hv⟩ := p_gR_of hg
    intro hrot
    obtain ⟨hge, hj⟩ := hk _ _ _ _ hop hrot
    refine ⟨hge, fun H locs cells slots lsA hl hlg hP hS hc hs => ?_⟩
    exact va_get hx hb hts hin hown hK hP (a - 4) (p_enc_obj (p_rt_ge hrot he) he) hcl j hjN (hts _ hw) (fun z hz => by rw [hsm] at hz; exact hz) (v := .ref (p_ad G x)) (by rw [List.getElem?_map, hv]; rfl) h (hj H locs cells slots lsA hl hlg hP hS hc hs)
  · cases hop
theorem p_ge_set {rot : Nat → Nat × (Nat → Int32)} {L : pH} {o : pOut} {a : Nat} {c0 c1 : pE} (h : p_Ge rot (L.set a c1) o) (he : L[a]? = some c0) (hz : p_sz c1 = p_sz c0) : p_Ge rot L o := by
  obtain ⟨h1, h2, h3⟩ := h
  rw [List.length_set] at h1
  rw [p_sl_set he hz] at h2
  exact ⟨h1, h2, h3⟩
theorem p_lt {L : pH} {a : Nat} {c : pE} (he : L[a]? = some c) : a < L.length := (List.getElem?_eq_some_iff.mp he).1
theorem p_w_setM {G : p_T} {L : pH} {a ci j : Nat} {fs : List Value} {v : Value} {c0 : pE} (h4 : 4 ≤ a) (he : L[a]? = some c0) : (p_w G L).set (a - 4) (p_ad G a, .inr (ci, (fs.map (p_v G)).set j (p_v G v))) = p_w G (L.set a (.inr (.inr (ci, fs.set j v)))) := by
  rw [← p_w_set h4 (p_lt he)]
  show _ = (p_w G L).set (a - 4) (p_ad G a, .inr (ci, (fs.set j v).map (p_v G)))
  rw [List.map_set]
theorem s_putI {μ pc idx : Nat} {ci j N : Nat} {CN : String} {TT : u_T} {tt : Nat → FieldType} (h : decode (pB μ) pc = .ok (.putfield idx, 3)) (hcl : vwCl[ci]? = some (CN, TT, N)) (hin : ∀ w ∈ u_ws CN TT N, w ∈ pWS) (hty : ∀ k, k < N → parseFieldDescriptor (TT k).2.2.1 = some (tt k)) (hnm9 : ∀ a, a < N → ∀ b, b < N → a ≠ b → (TT a).2.1 ≠ (TT b).2.1) (hjN : j < N) (hsm : (TT j).1 = CN) (hfin : (TT j).2.2.2 = false) (hti : tt j = .int) (hw : Cond.fieldLink (pN μ).cls idx CN (TT j).2.1 (TT j).2.2.1 ∈ pWS) : p_S μ pc (o_putI ci j (pc + 3)) := by
  intro p l e R s m args below meth c Q G D rot d n0 s0 C o X k ls st L hop hk
  obtain ⟨⟨hx, hb, hml, hown, hts⟩, ⟨hK, hn0, h40, hro, hnw⟩, ⟨hfr, hlo, hce, hsl⟩, hC, hnm, hRet⟩ := X
  unfold o_putI at hop
  split at hop
  · rename_i x a r
    obtain ⟨L', hg, hop⟩ := p_bind hop
    obtain ⟨fs, he, hjl, rfl⟩ := p_put_of hg
    intro hrot
    have h4 := p_rt_ge hrot he
    obtain ⟨hge, hj⟩ := hk _ _ _ _ hop (p_rt_set hrot h4)
    refine ⟨p_ge_set hge he (by simp [p_sz]), fun H locs cells slots lsA hl hlg hP hS hc hs => ?_⟩
    refine va_put hx hb hts hin tt hty hnm9 hown hK hP p_w_D hS (a - 4) (p_enc_obj h4 he) hcl j hjN (hts _ hw) (fun z hz => by rw [hsm] at hz; exact hz) hfin (ty := .int) (by rw [hty j hjN, hti]) rfl rfl (by rw [List.length_map]; exact hjl) h (fun H1 locs1 hP1 hD1 hS1 => ?_)
    have hP1 : va_P D vwCl ((p_w G L).set (a - 4) (p_ad G a, .inr (ci, (fs.map (p_v G)).set j (p_v G (.int x))))) H1 := hP1
    rw [p_w_setM h4 he] at hP1
    exact hj H1 locs1 cells slots lsA hl hlg hP1 hS1 (by rw [List.length_set]; exact hc) (by rw [p_sl_set he (by simp [p_sz])]; exact hs)
  · cases hop
theorem s_putR {μ pc idx : Nat} {ci j N : Nat} {CN : String} {TT : u_T} {tt : Nat → FieldType} (h : decode (pB μ) pc = .ok (.putfield idx, 3)) (hcl : vwCl[ci]? = some (CN, TT, N)) (hin : ∀ w ∈ u_ws CN TT N, w ∈ pWS) (hty : ∀ k, k < N → parseFieldDescriptor (TT k).2.2.1 = some (tt k)) (hnm9 : ∀ a, a < N → ∀ b, b < N → a ≠ b → (TT a).2.1 ≠ (TT b).2.1) (hjN : j < N) (hsm : (TT j).1 = CN) (hown9 : CN = (pN μ).cls) (hfin : (TT j).2.2.2 = true) (hini : (pN μ).name = "<init>") (hti : (∃ n, tt j = .object n) ∨ ∃ n, tt j = .array n) (hw : Cond.fieldLink (pN μ).cls idx CN (TT j).2.1 (TT j).2.2.1 ∈ pWS) : p_S μ pc (o_putR ci j (pc + 3)) := by
  intro p l e R s m args below meth c Q G D rot d n0 s0 C o X k ls st L hop hk
  obtain ⟨⟨hx, hb, hml, hown, hts⟩, ⟨hK, hn0, h40, hro, hnw⟩, ⟨hfr, hlo, hce, hsl⟩, hC, hnm, hRet⟩ := X
  unfold o_putR at hop
  split at hop
  · rename_i x a r
    obtain ⟨L', hg, hop⟩ := p_bind hop
    obtain ⟨fs, he, hjl, rfl⟩ := p_put_of hg
    intro hrot
    have h4 := p_rt_ge hrot he
    obtain ⟨hge, hj⟩ := hk _ _ _ _ hop (p_rt_set hrot h4)
    refine ⟨p_ge_set hge he (by simp [p_sz]), fun H locs cells slots lsA hl hlg hP hS hc hs => ?_⟩
    refine va_putF hx hb hts hin tt hty hnm9 hown hK hP p_w_D hS (a - 4) (p_enc_obj h4 he) hcl j hjN (hts _ hw) (fun z hz => by rw [hsm] at hz; exact hz) hfin (hnm hini) (by rw [hsm]; exact hown9) (ty := tt j) (v := .ref (p_ad G x)) (by rw [hty j hjN]) (by rcases hti with ⟨n, hn⟩ | ⟨n, hn⟩ <;> rw [hn] <;> rfl) (by rcases hti with ⟨n, hn⟩ | ⟨n, hn⟩ <;> rw [hn] <;> rfl) (by rw [List.length_map]; exact hjl) h (fun H1 locs1 hP1 hD1 hS1 => ?_)
    have hP1 : va_P D vwCl ((p_w G L).set (a - 4) (p_ad G a, .inr (ci, (fs.map (p_v G)).set j (p_v G (.ref x))))) H1 := hP1
    rw [p_w_setM h4 he] at hP1
    exact hj H1 locs1 cells slots lsA hl hlg hP1 hS1 (by rw [List.length_set]; exact hc) (by rw [p_sl_set he (by simp [p_sz])]; exact hs)
  · cases hop
theorem s_iald {μ pc : Nat} (h : decode (pB μ) pc = .ok (.iaload, 1)) : p_S μ pc (o_iald (pc + 1)) := by
  intro p l e R s m args below meth c Q G D rot d n0 s0 C o X k ls st L hop hk
  obtain ⟨⟨hx, hb, hml, hown, hts⟩, ⟨hK, hn0, h40, hro, hnw⟩, ⟨hfr, hlo, hce, hsl⟩, hC, hnm, hRet⟩ := X
  unfold o_iald at hop
  split at hop
  · rename_i i a r
    obtain ⟨x, hg, hop⟩ := p_bind hop
    obtain ⟨n, f, he, hin, rfl⟩ := p_ld_of hg
    intro hrot
    obtain ⟨hge, hj⟩ := hk _ _ _ _ hop hrot
    refine ⟨hge, fun H locs cells slots lsA hl hlg hP hS hc hs => ?_⟩
    rcases Nat.lt_or_ge a 4 with h4 | h4
    · have hr := hrot a h4
      rw [hr] at he
      simp only [Option.some.injEq, Sum.inl.injEq, Prod.mk.injEq, true_and] at he
      have hx9 := hro.1 a h4
      rw [he] at hx9
      have e1 : p_ad G a = G.2.1 a := by unfold p_ad; rw [if_pos h4]
      have K := va_ti hx hb hx9 hS hin (v := .int (f i.toNatClampNeg)) rfl h (hj H locs cells slots lsA hl hlg hP hS hc hs)
      rw [← e1] at K
      exact K
    · exact va_iald hx hb hK hP (a - 4) 0 (p_w_get he h4) rfl hin h (hj H locs cells slots lsA hl hlg hP hS hc hs)
  · cases hop
theorem s_zald {μ pc : Nat} (h : decode (pB μ) pc = .ok (.baload, 1)) : p_S μ pc (o_zald (pc + 1)) := by
  intro p l e R s m args below meth c Q G D rot d n0 s0 C o X k ls st L hop hk
  obtain ⟨⟨hx, hb, hml, hown, hts⟩, ⟨hK, hn0, h40, hro, hnw⟩, ⟨hfr, hlo, hce, hsl⟩, hC, hnm, hRet⟩ := X
  unfold o_zald at hop
  split at hop
  · rename_i i a r
    split at hop
    · rename_i h4
      obtain ⟨x, hg, hop⟩ := p_bind hop
      obtain ⟨n, f, he, hin, rfl⟩ := p_ld_of hg
      intro hrot
      obtain ⟨hge, hj⟩ := hk _ _ _ _ hop hrot
      refine ⟨hge, fun H locs cells slots lsA hl hlg hP hS hc hs => ?_⟩
      exact va_zald hx hb hK hP (a - 4) 1 (p_w_get he h4) rfl hin h (hj H locs cells slots lsA hl hlg hP hS hc hs)
    · cases hop
  · cases hop
theorem p_val_opt {α : Type} {x : Option α} {y : α} (h : x = some y) : x = some y := h
theorem s_aald {μ pc : Nat} (h : decode (pB μ) pc = .ok (.aaload, 1)) : p_S μ pc (o_aald (pc + 1)) := by
  intro p l e R s m args below meth c Q G D rot d n0 s0 C o X k ls st L hop hk
  obtain ⟨⟨hx, hb, hml, hown, hts⟩, ⟨hK, hn0, h40, hro, hnw⟩, ⟨hfr, hlo, hce, hsl⟩, hC, hnm, hRet⟩ := X
  unfold o_aald at hop
  split at hop
  · rename_i i a r
    obtain ⟨x, hg, hop⟩ := p_bind hop
    obtain ⟨d9, n, f, hd9, he, hin, hfx⟩ := p_ldR_of hg
    intro hrot
    obtain ⟨hge, hj⟩ := hk _ _ _ _ hop hrot
    refine ⟨hge, fun H locs cells slots lsA hl hlg hP hS hc hs => ?_⟩
    have hw := p_w_get (G := G) he (p_rt_ge hrot he)
    have K := hj H locs cells slots lsA hl hlg hP hS hc hs
    have e1 : va_rf ((f i.toNatClampNeg).map (p_ad G)) = p_v G (.ref x) := by rw [hfx]; rfl
    rcases hd9 with rfl | rfl
    · refine va_aldq hx hb hK hP (a - 4) 2 hw rfl hin h ?_
      show W p l e R s m args below meth c H locs cells slots Q (F0 m (pc + 1) lsA (va_rf ((f i.toNatClampNeg).map (p_ad G)) :: r.map (p_v G)))
      rw [e1]
      exact K
    · refine va_aldq hx hb hK hP (a - 4) 3 hw rfl hin h ?_
      show W p l e R s m args below meth c H locs cells slots Q (F0 m (pc + 1) lsA (va_rf ((f i.toNatClampNeg).map (p_ad G)) :: r.map (p_v G)))
      rw [e1]
      exact K
  · cases hop
theorem s_iast {μ pc : Nat} (h : decode (pB μ) pc = .ok (.iastore, 1)) : p_S μ pc (o_iast (pc + 1)) := by
  intro p l e R s m args below meth c Q G D rot d n0 s0 C o X k ls st L hop hk
  obtain ⟨⟨hx, hb, hml, hown, hts⟩, ⟨hK, hn0, h40, hro, hnw⟩, ⟨hfr, hlo, hce, hsl⟩, hC, hnm, hRet⟩ := X
  unfold o_iast at hop
  split at hop
  · rename_i x i a r
    obtain ⟨L', hg, hop⟩ := p_bind hop
    obtain ⟨n, f, he, h4, hin, rfl⟩ := p_st_of hg
    intro hrot
    obtain ⟨hge, hj⟩ := hk _ _ _ _ hop (p_rt_set hrot h4)
    refine ⟨p_ge_set hge he rfl, fun H locs cells slots lsA hl hlg hP hS hc hs => ?_⟩
    refine va_iast hx hb hK hP p_w_D hS (a - 4) 0 (p_w_get he h4) rfl hin h (fun H1 locs1 hP1 hD1 hS1 => ?_)
    have hP1 : va_P D vwCl ((p_w G L).set (a - 4) (p_ad G a, p_e G (.inl (0, n, upd f i.toNatClampNeg x)))) H1 := hP1
    rw [p_w_set h4 (p_lt he)] at hP1
    exact hj H1 locs1 cells slots lsA hl hlg hP1 hS1 (by rw [List.length_set]; exact hc) (hs.trans (Eq.symm (by exact p_sl_set he rfl)))
  · cases hop
theorem p_narz {x : Int32} (h : x = 0 ∨ x = 1) : vp_nar .boolean x = x := by rcases h with rfl | rfl <;> rfl
theorem s_zast {μ pc : Nat} (h : decode (pB μ) pc = .ok (.bastore, 1)) : p_S μ pc (o_zast (pc + 1)) := by
  intro p l e R s m args below meth c Q G D rot d n0 s0 C o X k ls st L hop hk
  obtain ⟨⟨hx, hb, hml, hown, hts⟩, ⟨hK, hn0, h40, hro, hnw⟩, ⟨hfr, hlo, hce, hsl⟩, hC, hnm, hRet⟩ := X
  unfold o_zast at hop
  split at hop
  · rename_i x i a r
    split at hop
    · rename_i hx01
      obtain ⟨L', hg, hop⟩ := p_bind hop
      obtain ⟨n, f, he, h4, hin, rfl⟩ := p_st_of hg
      intro hrot
      obtain ⟨hge, hj⟩ := hk _ _ _ _ hop (p_rt_set hrot h4)
      refine ⟨p_ge_set hge he rfl, fun H locs cells slots lsA hl hlg hP hS hc hs => ?_⟩
      refine va_zast hx hb hK hP p_w_D hS (a - 4) 1 (p_w_get he h4) rfl hin h (fun H1 locs1 hP1 hD1 hS1 => ?_)
      rw [p_narz hx01] at hP1
      have hP1 : va_P D vwCl ((p_w G L).set (a - 4) (p_ad G a, p_e G (.inl (1, n, upd f i.toNatClampNeg x)))) H1 := hP1
      rw [p_w_set h4 (p_lt he)] at hP1
      exact hj H1 locs1 cells slots lsA hl hlg hP1 hS1 (by rw [List.length_set]; exact hc) (hs.trans (Eq.symm (by exact p_sl_set he rfl)))
    · cases hop
  · cases hop
theorem p_upm {f : Nat → Option Nat} {G : p_T} {j b : Nat} : (fun q => (va_up f j (some b) q).map (p_ad G)) = va_up (fun q => (f q).map (p_ad G)) j (some (p_ad G b)) := by
  funext q
  unfold va_up
  split <;> rfl
theorem s_aast {μ pc : Nat} (h : decode (pB μ) pc = .ok (.aastore, 1)) : p_S μ pc (o_aast (pc + 1)) := by
  intro p l e R s m args below meth c Q G D rot d n0 s0 C o X k ls st L hop hk
  obtain ⟨⟨hx, hb, hml, hown, hts⟩, ⟨hK, hn0, h40, hro, hnw⟩, ⟨hfr, hlo, hce, hsl⟩, hC, hnm, hRet⟩ := X
  unfold o_aast at hop
  split at hop
  · rename_i b i a r
    obtain ⟨L', hg, hop⟩ := p_bind hop
    obtain ⟨d9, n, f, fs, he, hd9, hb9, hin, rfl⟩ := p_stR_of hg
    intro hrot
    have h4 := p_rt_ge hrot he
    have h4b := p_rt_ge hrot hb9
    obtain ⟨hge, hj⟩ := hk _ _ _ _ hop (p_rt_set hrot h4)
    refine ⟨p_ge_set hge he rfl, fun H locs cells slots lsA hl hlg hP hS hc hs => ?_⟩
    rcases hd9 with rfl | rfl
    · refine va_astq hx hb hK hP p_w_D hS (a - 4) 2 (b - 4) 0 (p_w_get he h4) (r := (RX0, TX0, 6)) rfl (p_enc_obj h4b hb9) rfl hin h (fun H1 locs1 hP1 hD1 hS1 => ?_)
      rw [← p_upm] at hP1
      have hP1 : va_P D vwCl ((p_w G L).set (a - 4) (p_ad G a, p_e G (.inr (.inl (2, n, va_up f i.toNatClampNeg (some b)))))) H1 := hP1
      rw [p_w_set h4 (p_lt he)] at hP1
      exact hj H1 locs1 cells slots lsA hl hlg hP1 hS1 (by rw [List.length_set]; exact hc) (hs.trans (Eq.symm (by exact p_sl_set he rfl)))
    · refine va_astq hx hb hK hP p_w_D hS (a - 4) 3 (b - 4) 3 (p_w_get he h4) (r := (RX3, TX3, 7)) rfl (p_enc_obj h4b hb9) rfl hin h (fun H1 locs1 hP1 hD1 hS1 => ?_)
      rw [← p_upm] at hP1
      have hP1 : va_P D vwCl ((p_w G L).set (a - 4) (p_ad G a, p_e G (.inr (.inl (3, n, va_up f i.toNatClampNeg (some b)))))) H1 := hP1
      rw [p_w_set h4 (p_lt he)] at hP1
      exact hj H1 locs1 cells slots lsA hl hlg hP1 hS1 (by rw [List.length_set]; exact hc) (hs.trans (Eq.symm (by exact p_sl_set he rfl)))
  · cases hop
theorem s_alen {μ pc : Nat} (h : decode (pB μ) pc = .ok (.arraylength, 1)) : p_S μ pc (o_alen (pc + 1)) := by
  intro p l e R s m args below meth c Q G D rot d n0 s0 C o X k ls st L hop hk
  obtain ⟨⟨hx, hb, hml, hown, hts⟩, ⟨hK, hn0, h40, hro, hnw⟩, ⟨hfr, hlo, hce, hsl⟩, hC, hnm, hRet⟩ := X
  unfold o_alen at hop
  split at hop
  · rename_i a r
    obtain ⟨n, hg, hop⟩ := p_bind hop
    unfold p_len at hg
    split at hg
    · rename_i d n9 f he
      split at hg
      · rename_i hd1
        cases hg
        intro hrot
        obtain ⟨hge, hj⟩ := hk _ _ _ _ hop hrot
        refine ⟨hge, fun H locs cells slots lsA hl hlg hP hS hc hs => ?_⟩
        rcases Nat.lt_or_ge a 4 with h4 | h4
        · have hr := hrot a h4
          rw [hr] at he
          simp only [Option.some.injEq, Sum.inl.injEq, Prod.mk.injEq] at he
          have hx9 := hro.1 a h4
          rw [he.2] at hx9
          have e1 : p_ad G a = G.2.1 a := by unfold p_ad; rw [if_pos h4]
          have K := va_tlen hx hb hx9 hS rfl h (hj H locs cells slots lsA hl hlg hP hS hc hs)
          rw [← e1] at K
          exact K
        · rcases (show d = 0 ∨ d = 1 by omega) with rfl | rfl
          · exact va_alen hx hb hK hP (a - 4) 0 (p_w_get he h4) rfl rfl h (hj H locs cells slots lsA hl hlg hP hS hc hs)
          · exact va_alen hx hb hK hP (a - 4) 1 (p_w_get he h4) rfl rfl h (hj H locs cells slots lsA hl hlg hP hS hc hs)
      · cases hg
    · rename_i d n9 f he
      split at hg
      · rename_i hd1
        cases hg
        intro hrot
        have h4 := p_rt_ge hrot he
        obtain ⟨hge, hj⟩ := hk _ _ _ _ hop hrot
        refine ⟨hge, fun H locs cells slots lsA hl hlg hP hS hc hs => ?_⟩
        rcases hd1 with rfl | rfl
        · exact va_alen hx hb hK hP (a - 4) 2 (p_w_get he h4) rfl rfl h (hj H locs cells slots lsA hl hlg hP hS hc hs)
        · exact va_alen hx hb hK hP (a - 4) 3 (p_w_get he h4) rfl rfl h (hj H locs cells slots lsA hl hlg hP hS hc hs)
      · cases hg
    · cases hg
  · cases hop
theorem p_ad4 {G : p_T} {i : Nat} (h : i < 4) : p_ad G i = G.2.1 i := by unfold p_ad; rw [if_pos h]
theorem s_gets {μ pc idx i : Nat} {n : String} (h : decode (pB μ) pc = .ok (.getstatic idx, 3)) (hsel : (n, i) ∈ [("LOWEST", 0), ("HIGHEST", 1), ("AT_FIRST", 2)]) (hw : Cond.fieldLink (pN μ).cls idx RX4 n "[I" ∈ pWS) : p_S μ pc (o_gets i (pc + 3)) := by
  intro p l e R s m args below meth c Q G D rot d n0 s0 C o X k ls st L hop hk
  obtain ⟨⟨hx, hb, hml, hown, hts⟩, ⟨hK, hn0, h40, hro, hnw⟩, ⟨hfr, hlo, hce, hsl⟩, hC, hnm, hRet⟩ := X
  intro hrot
  obtain ⟨hge, hj⟩ := hk _ _ _ _ hop hrot
  refine ⟨hge, fun H locs cells slots lsA hl hlg hP hS hc hs => ?_⟩
  have K := hj H locs cells slots lsA hl hlg hP hS hc hs
  simp only [List.mem_cons, Prod.mk.injEq, List.not_mem_nil, or_false] at hsel
  rcases hsel with ⟨rfl, rfl⟩ | ⟨rfl, rfl⟩ | ⟨rfl, rfl⟩
  · exact va_gets hx hb hro.2.1 hS hown (hts _ hw) (fun _ z => z) h K
  · exact va_gets hx hb hro.2.2.1 hS hown (hts _ hw) (fun _ z => z) h K
  · exact va_gets hx hb hro.2.2.2 hS hown (hts _ hw) (fun _ z => z) h K
theorem s_getsN {μ pc idx i : Nat} {n : String} {host : String} (h : decode (pB μ) pc = .ok (.getstatic idx, 3)) (hsel : (n, i) ∈ [("LOWEST", 0), ("HIGHEST", 1), ("AT_FIRST", 2)]) (hw : ((pN μ).cls, (idx, (RX4, (n, ("[I", host))))) ∈ p_fnests) : p_S μ pc (o_gets i (pc + 3)) := by
  intro p l e R s m args below meth c Q G D rot d n0 s0 C o X k ls st L hop hk
  obtain ⟨⟨hx, hb, hml, hown, hts⟩, ⟨hK, hn0, h40, hro, hnw⟩, ⟨hfr, hlo, hce, hsl⟩, hC, hnm, hRet⟩ := X
  intro hrot
  obtain ⟨hge, hj⟩ := hk _ _ _ _ hop hrot
  refine ⟨hge, fun H locs cells slots lsA hl hlg hP hS hc hs => ?_⟩
  have K := hj H locs cells slots lsA hl hlg hP hS hc hs
  have hw9 := va_Nw.use (A := args) rfl (hnw.2.1 _ hw)
  simp only [List.mem_cons, Prod.mk.injEq, List.not_mem_nil, or_false] at hsel
  rcases hsel with ⟨rfl, rfl⟩ | ⟨rfl, rfl⟩ | ⟨rfl, rfl⟩
  · exact va_getsN hx hb hro.2.1 hS hown hw9 (fun _ z => z) h K
  · exact va_getsN hx hb hro.2.2.1 hS hown hw9 (fun _ z => z) h K
  · exact va_getsN hx hb hro.2.2.2 hS hown hw9 (fun _ z => z) h K
theorem p_ge_push {rot : Nat → Nat × (Nat → Int32)} {L : pH} {o : pOut} {c : pE} (h : p_Ge rot (L ++ [c]) o) : p_Ge rot L o ∧ L.length + 1 ≤ o.2.length ∧ p_sl L + p_sz c ≤ p_sl o.2 := by
  obtain ⟨h1, h2, h3⟩ := h
  rw [List.length_append, List.length_singleton] at h1
  rw [p_sl_push] at h2
  exact ⟨⟨by omega, by omega, h3⟩, h1, h2⟩
theorem p_tyc {G : p_T} {D : va_G} {s : State} {ty : FieldType} {cA : ClassId} {j : Nat} (hK : va_K D vwCl (p_tys G ++ [(cA, ty)]) s) (hj : (p_tys G)[j]? = some (G.2.2 j, ty)) : cA = G.2.2 j := by
  have h1 := (hK.2 (p_tys G).length (cA, ty) (by simp)).2
  have h2 := (hK.2 j (G.2.2 j, ty) (by rw [List.getElem?_append_left (List.getElem?_eq_some_iff.mp hj).1]; exact hj)).2
  unfold va_RA at h1 h2
  cases ty with
  | object n =>
    obtain ⟨_, _, _, _, _, h3⟩ := h1
    obtain ⟨_, _, _, _, _, h4⟩ := h2
    exact Option.some.inj (h3.symm.trans h4)
  | _ => exact Option.some.inj (h1.symm.trans h2)
theorem s_newai {μ pc : Nat} (h : decode (pB μ) pc = .ok (.newarray .int, 2)) (hw : Cond.arrayClass .int ∈ pWS) : p_S μ pc (o_newa 0 (pc + 2)) := by
  intro p l e R s m args below meth c Q G D rot d n0 s0 C o X k ls st L hop hk
  obtain ⟨⟨hx, hb, hml, hown, hts⟩, ⟨hK, hn0, h40, hro, hnw⟩, ⟨hfr, hlo, hce, hsl⟩, hC, hnm, hRet⟩ := X
  unfold o_newa at hop
  split at hop
  · rename_i n r
    split at hop
    · cases hop
    · rename_i hn
      intro hrot
      have h4 := p_rt_len hrot
      obtain ⟨hge, hj⟩ := hk _ _ _ _ hop (p_rt_push hrot)
      obtain ⟨hge, g1, g2⟩ := p_ge_push hge
      refine ⟨hge, fun H locs cells slots lsA hl hlg hP hS hc hs => ?_⟩
      have g2 : p_sl L + n.toNatClampNeg ≤ p_sl o.2 := g2
      refine va_newa (atype := .int) (ty := .int) hx hb (hts _ hw) rfl hK hP p_w_D hS (fun q hq => by show G.1 ≤ q; omega) (a0 := (n.toNatClampNeg, .inl (fun _ => 0))) (fun _ => rfl) (fun z => hn (Or.inl z)) rfl (by have : ¬ 1000 < n.toNatClampNeg := fun z => hn (Or.inr z); show n.toNatClampNeg * 4 ≤ 536870912; omega) (by omega) (by omega) h (fun q cA H1 hK1 hP1 hD1 hS1 => ?_)
      have hcA : cA = G.2.2 0 := p_tyc hK1 rfl
      subst hcA
      refine p_q hn0 h4 (by omega) hP1 hD1 (fun hq => ?_)
      subst hq
      have hP1 : va_P D vwCl (p_w G L ++ [(p_ad G L.length, p_e G (.inl (0, n.toNatClampNeg, fun _ => 0)))]) H1 := hP1
      rw [← p_w_push h4] at hP1
      exact hj H1 locs (cells + 1) (slots + n.toNatClampNeg) lsA hl hlg hP1 hS1 (by rw [List.length_append, List.length_singleton]; omega) (by rw [p_sl_push]; show _ = _ + n.toNatClampNeg; omega)
  · cases hop
theorem s_newaz {μ pc : Nat} (h : decode (pB μ) pc = .ok (.newarray .boolean, 2)) (hw : Cond.arrayClass .boolean ∈ pWS) : p_S μ pc (o_newa 1 (pc + 2)) := by
  intro p l e R s m args below meth c Q G D rot d n0 s0 C o X k ls st L hop hk
  obtain ⟨⟨hx, hb, hml, hown, hts⟩, ⟨hK, hn0, h40, hro, hnw⟩, ⟨hfr, hlo, hce, hsl⟩, hC, hnm, hRet⟩ := X
  unfold o_newa at hop
  split at hop
  · rename_i n r
    split at hop
    · cases hop
    · rename_i hn
      intro hrot
      have h4 := p_rt_len hrot
      obtain ⟨hge, hj⟩ := hk _ _ _ _ hop (p_rt_push hrot)
      obtain ⟨hge, g1, g2⟩ := p_ge_push hge
      refine ⟨hge, fun H locs cells slots lsA hl hlg hP hS hc hs => ?_⟩
      have g2 : p_sl L + n.toNatClampNeg ≤ p_sl o.2 := g2
      refine va_newa (atype := .boolean) (ty := .boolean) hx hb (hts _ hw) rfl hK hP p_w_D hS (fun q hq => by show G.1 ≤ q; omega) (a0 := (n.toNatClampNeg, .inl (fun _ => 0))) (fun _ => rfl) (fun z => hn (Or.inl z)) rfl (by have : ¬ 1000 < n.toNatClampNeg := fun z => hn (Or.inr z); show n.toNatClampNeg * 1 ≤ 536870912; omega) (by omega) (by omega) h (fun q cA H1 hK1 hP1 hD1 hS1 => ?_)
      have hcA : cA = G.2.2 1 := p_tyc hK1 rfl
      subst hcA
      refine p_q hn0 h4 (by omega) hP1 hD1 (fun hq => ?_)
      subst hq
      have hP1 : va_P D vwCl (p_w G L ++ [(p_ad G L.length, p_e G (.inl (1, n.toNatClampNeg, fun _ => 0)))]) H1 := hP1
      rw [← p_w_push h4] at hP1
      exact hj H1 locs (cells + 1) (slots + n.toNatClampNeg) lsA hl hlg hP1 hS1 (by rw [List.length_append, List.length_singleton]; omega) (by rw [p_sl_push]; show _ = _ + n.toNatClampNeg; omega)
  · cases hop
theorem s_newq {μ pc idx kd : Nat} {CN : String} (h : decode (pB μ) pc = .ok (.anewarray idx, 3)) (hw : Cond.classLink (pN μ).cls idx CN ∈ pWS) (hkd : (kd = 2 ∧ CN = RX0) ∨ (kd = 3 ∧ CN = RX3)) : p_S μ pc (o_newq kd (pc + 3)) := by
  intro p l e R s m args below meth c Q G D rot d n0 s0 C o X k ls st L hop hk
  obtain ⟨⟨hx, hb, hml, hown, hts⟩, ⟨hK, hn0, h40, hro, hnw⟩, ⟨hfr, hlo, hce, hsl⟩, hC, hnm, hRet⟩ := X
  unfold o_newq at hop
  split at hop
  · rename_i n r
    split at hop
    · cases hop
    · rename_i hn
      intro hrot
      have h4 := p_rt_len hrot
      obtain ⟨hge, hj⟩ := hk _ _ _ _ hop (p_rt_push hrot)
      obtain ⟨hge, g1, g2⟩ := p_ge_push hge
      refine ⟨hge, fun H locs cells slots lsA hl hlg hP hS hc hs => ?_⟩
      have g2 : p_sl L + n.toNatClampNeg ≤ p_sl o.2 := g2
      have hao : va_AO CN s := by
        rcases hkd with ⟨-, rfl⟩ | ⟨-, rfl⟩
        · exact hnw.2.2.1
        · exact hnw.2.2.2
      refine va_newq hx hb hown (hts _ hw) hao hK hP p_w_D hS (fun q hq => by show G.1 ≤ q; omega) (fun z => hn (Or.inl z)) rfl (by have : ¬ 1000 < n.toNatClampNeg := fun z => hn (Or.inr z); omega) (by omega) (by omega) h (fun q cA H1 hK1 hP1 hD1 hS1 => ?_)
      have hcA : cA = G.2.2 kd := by
        rcases hkd with ⟨rfl, rfl⟩ | ⟨rfl, rfl⟩
        · exact p_tyc hK1 rfl
        · exact p_tyc hK1 rfl
      subst hcA
      refine p_q hn0 h4 (by omega) hP1 hD1 (fun hq => ?_)
      subst hq
      have hP1 : va_P D vwCl (p_w G L ++ [(p_ad G L.length, p_e G (.inr (.inl (kd, n.toNatClampNeg, fun _ => none))))]) H1 := hP1
      rw [← p_w_push h4] at hP1
      exact hj H1 locs (cells + 1) (slots + n.toNatClampNeg) lsA hl hlg hP1 hS1 (by rw [List.length_append, List.length_singleton]; omega) (by rw [p_sl_push]; show _ = _ + n.toNatClampNeg; omega)
  · cases hop
theorem s_new {μ pc idx : Nat} {ci N : Nat} {CN : String} {TT : u_T} {tt : Nat → FieldType} {fs : List Value} (h : decode (pB μ) pc = .ok (.new idx, 3)) (hcl : vwCl[ci]? = some (CN, TT, N)) (hin : ∀ w ∈ u_ws CN TT N, w ∈ pWS) (hty : ∀ k, k < N → parseFieldDescriptor (TT k).2.2.1 = some (tt k)) (hfs : fs = (List.range N).map (fun j => defaultValue (tt j))) (hnr : fs.map (p_v (0, (fun _ => 0), fun _ => 0)) = fs ∧ ∀ v ∈ fs, ∀ a, v ≠ .ref a) (hw1 : Cond.classLink (pN μ).cls idx CN ∈ pWS) (hw2 : Cond.instantiable CN N ∈ pWS) (hw3 : Cond.initialized CN ∈ pWS) : p_S μ pc (o_new ci fs (pc + 3)) := by
  intro p l e R s m args below meth c Q G D rot d n0 s0 C o X k ls st L hop hk
  obtain ⟨⟨hx, hb, hml, hown, hts⟩, ⟨hK, hn0, h40, hro, hnw⟩, ⟨hfr, hlo, hce, hsl⟩, hC, hnm, hRet⟩ := X
  intro hrot
  have h4 := p_rt_len hrot
  obtain ⟨hge, hj⟩ := hk _ _ _ _ hop (p_rt_push hrot)
  obtain ⟨hge, g1, g2⟩ := p_ge_push hge
  refine ⟨hge, fun H locs cells slots lsA hl hlg hP hS hc hs => ?_⟩
  have hlen : fs.length = N := by rw [hfs]; simp
  have g2 : p_sl L + fs.length ≤ p_sl o.2 := g2
  have hfm : fs.map (p_v G) = fs := by
    have key : ∀ l : List Value, (∀ v ∈ l, ∀ a, v ≠ .ref a) → l.map (p_v G) = l := by
      intro l
      induction l with
      | nil => intro _; rfl
      | cons v t ih =>
        intro hv
        rw [List.map_cons, ih (fun w hw => hv w (List.mem_cons_of_mem _ hw))]
        have := hv v List.mem_cons_self
        cases v <;> first | rfl | exact absurd rfl (this _)
    exact key fs hnr.2
  refine va_new hx hb hts hin tt hty hown (hts _ hw1) (hts _ hw2) (hts _ hw3) hK hP p_w_D hS (fun q hq => by show G.1 ≤ q; omega) hcl (fs := fs) (fun j hj9 => ?_) (by omega) (by omega) h (fun q H1 hP1 hD1 hS1 => ?_)
  · rw [hfs]
    unfold vp_V
    rw [List.getD_eq_getElem?_getD, List.getElem?_map, List.getElem?_range hj9]
    rfl
  refine p_q hn0 h4 (by omega) hP1 hD1 (fun hq => ?_)
  subst hq
  have hP1 : va_P D vwCl (p_w G L ++ [(p_ad G L.length, p_e G (.inr (.inr (ci, fs))))]) H1 := by
    show va_P D vwCl (p_w G L ++ [(p_ad G L.length, .inr (ci, fs.map (p_v G)))]) H1
    rw [hfm]
    exact hP1
  rw [← p_w_push h4] at hP1
  exact hj H1 locs (cells + 1) (slots + N) lsA hl hlg hP1 hS1 (by rw [List.length_append, List.length_singleton]; omega) (by rw [p_sl_push]; show _ = _ + fs.length; omega)
theorem s_oinit {μ pc idx : Nat} (h : decode (pB μ) pc = .ok (.invokespecial idx, 3)) (hw1 : Cond.methodLink (pN μ).cls idx objectInit ∈ pWS) (hw2 : Cond.instanceMethod objectInit ∈ pWS) (hw3 : Cond.code objectInit ⟨#[0xb1]⟩ 1 none ∈ pWS) : p_S μ pc (o_oinit (pc + 3)) := by
  intro p l e R s m args below meth c Q G D rot d n0 s0 C o X k ls st L hop hk
  obtain ⟨⟨hx, hb, hml, hown, hts⟩, ⟨hK, hn0, h40, hro, hnw⟩, ⟨hfr, hlo, hce, hsl⟩, hC, hnm, hRet⟩ := X
  unfold o_oinit at hop
  split at hop
  · rename_i a r
    split at hop
    · rename_i hr4
      intro hrot
      obtain ⟨hge, hj⟩ := hk _ _ _ _ hop hrot
      refine ⟨hge, fun H locs cells slots lsA hl hlg hP hS hc hs => ?_⟩
      have hc8 := p_cat8 r G hr4
      exact W.objInit hx hb hown (hts _ hw1) (hts _ hw2) (hts _ hw3) rfl (by rw [hml]; exact hl.1) (a := p_ad G a) (rest := r.map (p_v G)) rfl h (by omega) (by show 2 * 0 + _ + 12 ≤ R.locals; omega) (hj H locs cells slots lsA hl hlg hP hS hc hs)
    · cases hop
  · cases hop
theorem s_max {μ pc idx : Nat} (h : decode (pB μ) pc = .ok (.invokestatic idx, 3)) (hw1 : Cond.methodLink (pN μ).cls idx Lib.Math.max.name ∈ pWS) (hw2 : Cond.static Lib.Math.max.name ∈ pWS) (hw3 : Cond.initialized "java/lang/Math" ∈ pWS) (hw4 : Cond.code Lib.Math.max.name Lib.Math.max.code 2 (some .int) ∈ pWS) : p_S μ pc (o_max (pc + 3)) := by
  intro p l e R s m args below meth c Q G D rot d n0 s0 C o X k ls st L hop hk
  obtain ⟨⟨hx, hb, hml, hown, hts⟩, ⟨hK, hn0, h40, hro, hnw⟩, ⟨hfr, hlo, hce, hsl⟩, hC, hnm, hRet⟩ := X
  unfold o_max at hop
  split at hop
  · rename_i y x r
    split at hop
    · rename_i hr4
      intro hrot
      obtain ⟨hge, hj⟩ := hk _ _ _ _ hop hrot
      have hge9 := hge
      refine ⟨hge, fun H locs cells slots lsA hl hlg hP hS hc hs => ?_⟩
      have hc8 := p_cat8 r G hr4
      obtain ⟨z1, z2, -⟩ := hge9
      exact va_mmax hx hb (by rw [hml]; exact hl.1.symm) hown (hts _ hw1) (hts _ hw2) (hts _ hw3) (hts _ hw4) (by omega) (rest := r.map (p_v G)) (by omega) (by omega) (by omega) h (hj H locs cells slots lsA hl hlg hP hS hc hs)
    · cases hop
  · cases hop
theorem s_min {μ pc idx : Nat} (h : decode (pB μ) pc = .ok (.invokestatic idx, 3)) (hw1 : Cond.methodLink (pN μ).cls idx Lib.Math.min.name ∈ pWS) (hw2 : Cond.static Lib.Math.min.name ∈ pWS) (hw3 : Cond.initialized "java/lang/Math" ∈ pWS) (hw4 : Cond.code Lib.Math.min.name Lib.Math.min.code 2 (some .int) ∈ pWS) : p_S μ pc (o_min (pc + 3)) := by
  intro p l e R s m args below meth c Q G D rot d n0 s0 C o X k ls st L hop hk
  obtain ⟨⟨hx, hb, hml, hown, hts⟩, ⟨hK, hn0, h40, hro, hnw⟩, ⟨hfr, hlo, hce, hsl⟩, hC, hnm, hRet⟩ := X
  unfold o_min at hop
  split at hop
  · rename_i y x r
    split at hop
    · rename_i hr4
      intro hrot
      obtain ⟨hge, hj⟩ := hk _ _ _ _ hop hrot
      have hge9 := hge
      refine ⟨hge, fun H locs cells slots lsA hl hlg hP hS hc hs => ?_⟩
      have hc8 := p_cat8 r G hr4
      obtain ⟨z1, z2, -⟩ := hge9
      exact va_mmin hx hb (by rw [hml]; exact hl.1.symm) hown (hts _ hw1) (hts _ hw2) (hts _ hw3) (hts _ hw4) (by omega) (rest := r.map (p_v G)) (by omega) (by omega) (by omega) h (hj H locs cells slots lsA hl hlg hP hS hc hs)
    · cases hop
  · cases hop
theorem s_copy {μ pc idx : Nat} (h : decode (pB μ) pc = .ok (.invokestatic idx, 3)) (hw1 : Cond.methodLink (pN μ).cls idx arraycopyName ∈ pWS) (hw2 : Cond.native arraycopyName ∈ pWS) (hw3 : Cond.static arraycopyName ∈ pWS) (hw4 : Cond.initialized "java/lang/System" ∈ pWS) : p_S μ pc (o_copy (pc + 3)) := by
  intro p l e R s m args below meth c Q G D rot d n0 s0 C o X k ls st L hop hk
  obtain ⟨⟨hx, hb, hml, hown, hts⟩, ⟨hK, hn0, h40, hro, hnw⟩, ⟨hfr, hlo, hce, hsl⟩, hC, hnm, hRet⟩ := X
  unfold o_copy at hop
  split at hop
  · rename_i n dp a sp a0 r
    split at hop
    · rename_i hr4
      obtain ⟨L', hg, hop⟩ := p_bind hop
      obtain ⟨n0', n1, f, g, he0, he1, h40', h41, q1, q2, q3, q4, q5, rfl⟩ := p_cp_of hg
      intro hrot
      obtain ⟨hge, hj⟩ := hk _ _ _ _ hop (p_rt_set hrot h41)
      refine ⟨p_ge_set hge he1 rfl, fun H locs cells slots lsA hl hlg hP hS hc hs => ?_⟩
      have hc8 := p_cat8 r G hr4
      have hnf : nativeFrameWords "java/lang/System" "arraycopy" 5 ≤ 20 := by decide +kernel
      refine va_copyi hx hb (by rw [hml]; exact hl.1.symm) hown (hts _ hw1) (hts _ hw2) (hts _ hw3) (hts _ hw4) hK hP p_w_D hS (a0 - 4) (a - 4) 0 0 (p_w_get he0 h40') (p_w_get he1 h41) rfl rfl rfl q1 q2 q3 q4 q5 (fun _ _ => rfl) (by omega) (rest := r.map (p_v G)) (by omega) h (fun H1 locs1 hP1 hD1 hS1 => ?_)
      have hP1 : va_P D vwCl ((p_w G L).set (a - 4) (p_ad G a, p_e G (.inl (0, n1, va_cpy f g sp.toNatClampNeg dp.toNatClampNeg n.toNatClampNeg)))) H1 := hP1
      rw [p_w_set h41 (p_lt he1)] at hP1
      exact hj H1 locs1 cells slots lsA hl hlg hP1 hS1 (by rw [List.length_set]; exact hc) (hs.trans (Eq.symm (by exact p_sl_set he1 rfl)))
    · cases hop
  · cases hop
