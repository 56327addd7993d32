/-! lists of cells and of locals -/
theorem p_ws_get {G : p_T} : ∀ (L : pH) (b k : Nat), (p_ws G b L)[k]? = L[k]?.map (fun c => (b + k, p_e G c))
  | [], b, k => by simp [p_ws]
  | c :: t, b, 0 => by simp [p_ws]
  | c :: t, b, k + 1 => by
    simp only [p_ws, List.getElem?_cons_succ]
    rw [p_ws_get t (b + 1) k]
    congr 1
    funext x
    rw [Nat.add_assoc, Nat.add_comm 1 k]
theorem p_ws_len {G : p_T} : ∀ (L : pH) (b : Nat), (p_ws G b L).length = L.length
  | [], b => rfl
  | c :: t, b => by simp [p_ws, p_ws_len t (b + 1)]
theorem p_w_len {G : p_T} (L : pH) : (p_w G L).length = L.length - 4 := by
  unfold p_w
  rw [p_ws_len, List.length_drop]
theorem p_w_get {G : p_T} {L : pH} {a : Nat} {c : pE} (h : L[a]? = some c) (h4 : 4 ≤ a) : (p_w G L)[a - 4]? = some (p_ad G a, p_e G c) := by
  unfold p_w
  rw [p_ws_get, List.getElem?_drop, show 4 + (a - 4) = a by omega, h]
  simp only [Option.map_some, p_ad]
  rw [if_neg (by omega)]
theorem p_w_set {G : p_T} {L : pH} {a : Nat} {c : pE} (h4 : 4 ≤ a) (hl : a < L.length) : (p_w G L).set (a - 4) (p_ad G a, p_e G c) = p_w G (L.set a c) := by
  apply List.ext_getElem?
  intro k
  unfold p_w
  rw [List.getElem?_set, p_ws_get, p_ws_get, List.getElem?_drop, List.getElem?_drop, List.getElem?_set, p_ws_len, List.length_drop]
  by_cases hk : a - 4 = k
  · subst hk
    rw [if_pos rfl, if_pos (by omega), if_pos (by omega), if_pos (by omega)]
    simp only [Option.map_some, p_ad]
    rw [if_neg (by omega)]
  · rw [if_neg hk, if_neg (by omega)]
theorem p_w_push {G : p_T} {L : pH} {c : pE} (h4 : 4 ≤ L.length) : p_w G (L ++ [c]) = p_w G L ++ [(p_ad G L.length, p_e G c)] := by
  apply List.ext_getElem?
  intro k
  unfold p_w
  rw [p_ws_get, List.getElem?_drop, List.getElem?_append, List.getElem?_append, p_ws_len, p_ws_get, List.getElem?_drop, List.length_drop]
  by_cases hk : k < L.length - 4
  · rw [if_pos hk, if_pos (by omega)]
  · rw [if_neg hk, if_neg (by omega)]
    by_cases h2 : k = L.length - 4
    · subst h2
      rw [show 4 + (L.length - 4) - L.length = 0 by omega, Nat.sub_self]
      simp only [List.getElem?_cons_zero, Option.map_some, p_ad]
      rw [if_neg (by omega)]
    · obtain ⟨j, hj⟩ : ∃ j, k - (L.length - 4) = j + 1 := ⟨k - (L.length - 4) - 1, by omega⟩
      rw [show 4 + k - L.length = j + 1 by omega, hj]
      simp
theorem p_w_at {G : p_T} {L : pH} {k : Nat} {q : Nat × va_E} (h : (p_w G L)[k]? = some q) : q.1 = G.1 + k ∧ k < L.length - 4 := by
  have hl : k < (p_w G L).length := (List.getElem?_eq_some_iff.mp h).1
  rw [p_w_len] at hl
  unfold p_w at h
  rw [p_ws_get] at h
  obtain ⟨c, -, hc⟩ := Option.map_eq_some_iff.mp h
  rw [← hc]
  exact ⟨rfl, hl⟩
theorem p_w_D {G : p_T} {L : pH} : va_D (p_A G) (p_w G L) := by
  refine ⟨fun i j a b hi hj hab => ?_, fun k q hk => ?_⟩
  · have h1 := (p_w_at hi).1
    have h2 := (p_w_at hj).1
    omega
  · have h1 := (p_w_at hk).1
    show G.1 ≤ q.1
    omega
theorem p_rt_ge {rot : Nat → Nat × (Nat → Int32)} {L : pH} (h : p_rt rot L) {a : Nat} {x : (Nat × Nat × (Nat → Option Nat)) ⊕ (Nat × List Value)} (ha : L[a]? = some (.inr x)) : 4 ≤ a := by
  rcases Nat.lt_or_ge a 4 with q | q
  · have := h a q
    rw [this] at ha
    cases ha
  · exact q
theorem p_rt_set {rot : Nat → Nat × (Nat → Int32)} {L : pH} (h : p_rt rot L) {a : Nat} {c : pE} (h4 : 4 ≤ a) : p_rt rot (L.set a c) := fun i hi => by
  rw [List.getElem?_set_ne (by omega)]
  exact h i hi
theorem p_rt_len {rot : Nat → Nat × (Nat → Int32)} {L : pH} (h : p_rt rot L) : 4 ≤ L.length := (List.getElem?_eq_some_iff.mp (h 3 (by omega))).1
theorem p_rt_push {rot : Nat → Nat × (Nat → Int32)} {L : pH} (h : p_rt rot L) {c : pE} : p_rt rot (L ++ [c]) := fun i hi => by
  have := p_rt_len h
  rw [List.getElem?_append_left (by omega)]
  exact h i hi
theorem p_sl_set : ∀ {L : pH} {a : Nat} {c c' : pE}, L[a]? = some c → p_sz c' = p_sz c → p_sl (L.set a c') = p_sl L
  | [], a, c, c', h, _ => by simp at h
  | x :: t, 0, c, c', h, hz => by
    simp only [List.getElem?_cons_zero, Option.some.injEq] at h
    subst h
    simp [p_sl, hz]
  | x :: t, a + 1, c, c', h, hz => by
    simp only [List.getElem?_cons_succ] at h
    have := p_sl_set (L := t) h hz
    simp only [p_sl, List.set_cons_succ, List.map_cons, List.sum_cons] at this ⊢
    omega
theorem p_sl_push (L : pH) (c : pE) : p_sl (L ++ [c]) = p_sl L + p_sz c := by simp [p_sl]
theorem p_v_cat {G : p_T} (v : Value) : (p_v G v).category = v.category := by cases v <;> rfl
-- locals
theorem p_l_mem {G : p_T} : ∀ (ls : pLs) (b : Nat) (q : Nat × Value), q ∈ p_l G b ls ↔ ∃ j v, ls[j]? = some (some v) ∧ q = (b + j, p_v G v)
  | [], b, q => by simp [p_l]
  | none :: t, b, q => by
    rw [p_l, p_l_mem t (b + 1) q]
    constructor
    · rintro ⟨j, v, h1, h2⟩
      exact ⟨j + 1, v, by simpa using h1, by rw [h2]; congr 1; omega⟩
    · rintro ⟨j, v, h1, h2⟩
      cases j with
      | zero => simp at h1
      | succ j => exact ⟨j, v, by simpa using h1, by rw [h2]; congr 1; omega⟩
  | some w :: t, b, q => by
    rw [p_l, List.mem_cons, p_l_mem t (b + 1) q]
    constructor
    · rintro (h | ⟨j, v, h1, h2⟩)
      · exact ⟨0, w, rfl, h⟩
      · exact ⟨j + 1, v, by simpa using h1, by rw [h2]; congr 1; omega⟩
    · rintro ⟨j, v, h1, h2⟩
      cases j with
      | zero =>
        simp only [List.getElem?_cons_zero, Option.some.injEq] at h1
        subst h1
        exact Or.inl h2
      | succ j => exact Or.inr ⟨j, v, by simpa using h1, by rw [h2]; congr 1; omega⟩
theorem p_l_get {G : p_T} {lsA : Array Slot} {n i : Nat} {ls : pLs} {v : Value} (hl : lv_has lsA n (p_l G 0 ls)) (h : ls[i]? = some (some v)) : lsA[i]? = some (.val (p_v G v)) :=
  hl.2.2 (i, p_v G v) ((p_l_mem ls 0 _).mpr ⟨i, v, h, by rw [Nat.zero_add]⟩)
noncomputable def p_st1 (μ i : Nat) : Bool := decide (i < pML μ) && (pLg μ).all (fun j => decide (j + 1 ≠ i))
noncomputable def p_st2 (μ i : Nat) : Bool := decide (i + 1 < pML μ) && (decide (i ∈ pLg μ) && (pLg μ).all (fun j => decide (j + 1 ≠ i)))
theorem p_store1 {G : p_T} {lsA : Array Slot} {μ i : Nat} {ls : pLs} {v : Value} (hs : p_st1 μ i = true) (hg : p_lg μ ls) (hc : v.category = 1)
    (hl : lv_has lsA (pML μ) ((i, p_v G v) :: (p_l G 0 ls).filter (fun q => !(q.1 == i) && !(q.1 + 1 == i && q.2.category == 2)))) : lv_has lsA (pML μ) (p_l G 0 (ls.set i (some v))) ∧ p_lg μ (ls.set i (some v)) := by
  simp only [p_st1, Bool.and_eq_true, decide_eq_true_eq, List.all_eq_true] at hs
  obtain ⟨hi, hn⟩ := hs
  refine ⟨⟨hl.1, hl.2.1, fun q hq => ?_⟩, by rw [List.length_set]; exact hg.1, fun j w hj hw => ?_⟩
  · obtain ⟨j, w, h1, rfl⟩ := (p_l_mem _ 0 q).mp hq
    rw [Nat.zero_add]
    by_cases hji : i = j
    · subst hji
      rw [List.getElem?_set_self (by rw [hg.1]; exact hi)] at h1
      cases h1
      exact hl.2.2 _ List.mem_cons_self
    · rw [List.getElem?_set_ne hji] at h1
      have hm : (0 + j, p_v G w) ∈ p_l G 0 ls := (p_l_mem ls 0 _).mpr ⟨j, w, h1, rfl⟩
      rw [Nat.zero_add] at hm
      refine hl.2.2 (j, p_v G w) (List.mem_cons_of_mem _ (List.mem_filter.mpr ⟨hm, ?_⟩))
      have e1 : (j == i) = false := by simp; omega
      simp only [e1, Bool.not_false, Bool.true_and, Bool.not_eq_true', Bool.and_eq_false_iff, p_v_cat]
      by_cases h2 : w.category = 2
      · left
        have := hn j (hg.2 j w h1 h2)
        simpa using this
      · right
        simpa using h2
  · by_cases hji : i = j
    · subst hji
      rw [List.getElem?_set_self (by rw [hg.1]; exact hi)] at hj
      cases hj
      omega
    · rw [List.getElem?_set_ne hji] at hj
      exact hg.2 j w hj hw
theorem p_store2 {G : p_T} {lsA : Array Slot} {μ i : Nat} {ls : pLs} {v : Value} (hs : p_st2 μ i = true) (hg : p_lg μ ls)
    (hl : lv_has lsA (pML μ) ((i, p_v G v) :: (p_l G 0 ls).filter (fun q => !(q.1 == i) && (!(q.1 == i + 1) && !(q.1 + 1 == i && q.2.category == 2))))) : lv_has lsA (pML μ) (p_l G 0 ((ls.set i (some v)).set (i + 1) none)) ∧ p_lg μ ((ls.set i (some v)).set (i + 1) none) := by
  simp only [p_st2, Bool.and_eq_true, decide_eq_true_eq, List.all_eq_true] at hs
  obtain ⟨hi, hm2, hn⟩ := hs
  have key : ∀ (j : Nat) (w : Value), ((ls.set i (some v)).set (i + 1) none)[j]? = some (some w) → (j = i ∧ w = v) ∨ (j ≠ i ∧ j ≠ i + 1 ∧ ls[j]? = some (some w)) := by
    intro j w h
    by_cases h1 : i + 1 = j
    · subst h1
      rw [List.getElem?_set_self (by rw [List.length_set, hg.1]; exact hi)] at h
      cases h
    · rw [List.getElem?_set_ne h1] at h
      by_cases h2 : i = j
      · subst h2
        rw [List.getElem?_set_self (by rw [hg.1]; omega)] at h
        cases h
        exact Or.inl ⟨rfl, rfl⟩
      · rw [List.getElem?_set_ne h2] at h
        exact Or.inr ⟨by omega, by omega, h⟩
  refine ⟨⟨hl.1, hl.2.1, fun q hq => ?_⟩, by rw [List.length_set, List.length_set]; exact hg.1, fun j w hj hw => ?_⟩
  · obtain ⟨j, w, h1, rfl⟩ := (p_l_mem _ 0 q).mp hq
    rw [Nat.zero_add]
    rcases key j w h1 with ⟨rfl, rfl⟩ | ⟨h2, h3, h4⟩
    · exact hl.2.2 _ List.mem_cons_self
    · have hm : (0 + j, p_v G w) ∈ p_l G 0 ls := (p_l_mem ls 0 _).mpr ⟨j, w, h4, rfl⟩
      rw [Nat.zero_add] at hm
      refine hl.2.2 (j, p_v G w) (List.mem_cons_of_mem _ (List.mem_filter.mpr ⟨hm, ?_⟩))
      have e1 : (j == i) = false := by simpa using h2
      have e2 : (j == i + 1) = false := by simpa using h3
      simp only [e1, e2, Bool.not_false, Bool.true_and, Bool.not_eq_true', Bool.and_eq_false_iff, p_v_cat]
      by_cases h5 : w.category = 2
      · left
        have := hn j (hg.2 j w h4 h5)
        simpa using this
      · right
        simpa using h5
  · rcases key j w hj with ⟨rfl, rfl⟩ | ⟨h2, h3, h4⟩
    · exact hm2
    · exact hg.2 j w h4 hw
theorem p_pay {w : Cond} (h : w ∈ pWS) : w ∈ pWS ∧ ((w.onTables && w.keeps) = true ∨ ∃ ty, w = .arrayClass ty) := ⟨h, good_of_word (List.mem_filter.mp h).2⟩
theorem p_gi {ws : List Cond} (h : ∀ w ∈ ws, w ∈ pWS) : GoodIn pWS ws := fun w hw => p_pay (h w hw)
theorem p_cat8 (st : List Value) (G : p_T) (h : st.length ≤ 4) : ((st.map (p_v G)).map fun v => v.category).sum ≤ 8 := by
  have key : ∀ l : List Value, ((l.map (p_v G)).map fun v => v.category).sum ≤ 2 * l.length := by
    intro l
    induction l with
    | nil => simp
    | cons v t ih =>
      simp only [List.map_cons, List.sum_cons, List.length_cons]
      rw [p_v_cat]
      rcases lv_cat v with q | q <;> omega
  have := key st
  omega
