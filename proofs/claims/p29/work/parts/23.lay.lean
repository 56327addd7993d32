/-! how a bench lies: columns, heights, who is where -/
abbrev lT : Type := Nat × ((Nat → Nat) × ((Nat → Nat → Nat) × ((Nat → Nat) × (Nat → Nat))))
abbrev lLen (T : lT) : Nat := T.1
abbrev lHg (T : lT) : Nat → Nat := T.2.1
abbrev lAt (T : lT) : Nat → Nat → Nat := T.2.2.1
abbrev lCo (T : lT) : Nat → Nat := T.2.2.2.1
abbrev lRk (T : lT) : Nat → Nat := T.2.2.2.2
def lFlat (n : Nat) : lT := (n, (fun _ => 1, (fun c _ => c, (fun s => s, fun _ => 0))))
def lLow (T : lT) (g d : Nat) : Nat := if d < g then lHg T (g - 1 - d) else 0
def lUp (T : lT) (g d : Nat) : Nat := if g + d < lLen T then lHg T (g + d) else 0
def lFold (T : lT) (g : Nat) : lT := (max g (lLen T - g), (fun d => lLow T g d + lUp T g d, (fun d k => if k < lLow T g d then lAt T (g - 1 - d) k else lAt T (g + d) (lHg T (g + d) - 1 - (k - lLow T g d)),
  (fun s => if lCo T s < g then g - 1 - lCo T s else lCo T s - g, fun s => if lCo T s < g then lRk T s else lLow T g (lCo T s - g) + (lHg T (lCo T s) - 1 - lRk T s)))))
/-- the sum of the first c values -/
def sTo (f : Nat → Nat) : Nat → Nat
  | 0 => 0
  | c + 1 => sTo f c + f c
theorem sTo_congr {f f' : Nat → Nat} : ∀ (c : Nat), (∀ i, i < c → f i = f' i) → sTo f c = sTo f' c
  | 0, _ => rfl
  | c + 1, h => by rw [sTo, sTo, sTo_congr c (fun i hi => h i (by omega)), h c (by omega)]
theorem sTo_add (f f' : Nat → Nat) : ∀ c : Nat, sTo (fun i => f i + f' i) c = sTo f c + sTo f' c
  | 0 => rfl
  | c + 1 => by simp only [sTo, sTo_add f f' c]; omega
theorem sTo_le (f : Nat → Nat) {a b : Nat} (h : a ≤ b) : sTo f a ≤ sTo f b := by
  obtain ⟨j, rfl⟩ : ∃ j, b = a + j := ⟨b - a, by omega⟩
  induction j with
  | zero => exact Nat.le_refl _
  | succ j ih =>
    have := ih (by omega)
    show sTo f a ≤ sTo f (a + j) + f (a + j)
    omega
theorem sTo_split (f : Nat → Nat) (a : Nat) : ∀ b : Nat, sTo f (a + b) = sTo f a + sTo (fun i => f (a + i)) b
  | 0 => rfl
  | b + 1 => by
    show sTo f (a + b) + f (a + b) = sTo f a + (sTo (fun i => f (a + i)) b + f (a + b))
    rw [sTo_split f a b]
    omega
theorem sTo_rev (f : Nat → Nat) : ∀ g : Nat, sTo (fun d => f (g - 1 - d)) g = sTo f g
  | 0 => rfl
  | g + 1 => by
    have h := sTo_split (fun d => f (g + 1 - 1 - d)) 1 g
    rw [Nat.add_comm 1 g] at h
    rw [h]
    have h2 : sTo (fun d => f (g + 1 - 1 - d)) 1 = f g := by simp [sTo]
    have h3 : sTo (fun i => f (g + 1 - 1 - (1 + i))) g = sTo (fun d => f (g - 1 - d)) g := sTo_congr g (fun i hi => by rw [show g + 1 - 1 - (1 + i) = g - 1 - i by omega])
    rw [h2, h3, sTo_rev f g]
    show f g + sTo f g = sTo f g + f g
    omega
theorem sTo_zero (f : Nat → Nat) {a : Nat} : ∀ b : Nat, (∀ i, i < b → f (a + i) = 0) → sTo f (a + b) = sTo f a
  | 0, _ => rfl
  | b + 1, h => by
    show sTo f (a + b) + f (a + b) = sTo f a
    rw [sTo_zero f b (fun i hi => h i (by omega)), h b (by omega)]
    rfl
def lOk (n : Nat) (T : lT) : Prop := 1 ≤ lLen T ∧ lLen T ≤ n ∧ sTo (lHg T) (lLen T) = n ∧ (∀ c, c < lLen T → 1 ≤ lHg T c) ∧ (∀ s, s < n → lCo T s < lLen T ∧ lRk T s < lHg T (lCo T s) ∧ lAt T (lCo T s) (lRk T s) = s) ∧ (∀ c k, c < lLen T → k < lHg T c → lAt T c k < n ∧ lCo T (lAt T c k) = c ∧ lRk T (lAt T c k) = k)
theorem sTo_one : ∀ n : Nat, sTo (fun _ => 1) n = n
  | 0 => rfl
  | n + 1 => by rw [sTo, sTo_one n]
theorem lOk_flat {n : Nat} (h : 1 ≤ n) : lOk n (lFlat n) := by
  refine ⟨h, Nat.le_refl _, sTo_one n, fun c _ => Nat.le_refl _, fun s hs => ⟨hs, Nat.zero_lt_one, rfl⟩, fun c k hc hk => ?_⟩
  have hk0 : k = 0 := by
    have : k < 1 := hk
    omega
  subst hk0
  exact ⟨hc, rfl, rfl⟩
theorem lSum_fold {T : lT} {g : Nat} (h1 : 1 ≤ g) (h2 : g < lLen T) : sTo (lHg (lFold T g)) (lLen (lFold T g)) = sTo (lHg T) (lLen T) := by
  show sTo (fun d => lLow T g d + lUp T g d) (max g (lLen T - g)) = _
  rw [sTo_add]
  have e1 : sTo (lLow T g) (max g (lLen T - g)) = sTo (lHg T) g := by
    obtain ⟨j, hj⟩ : ∃ j, max g (lLen T - g) = g + j := ⟨max g (lLen T - g) - g, by omega⟩
    rw [hj, sTo_zero (lLow T g) j (fun i hi => by unfold lLow; rw [if_neg (by omega)]), ← sTo_rev (lHg T) g]
    exact sTo_congr g (fun i hi => by unfold lLow; rw [if_pos hi])
  have e2 : sTo (lUp T g) (max g (lLen T - g)) = sTo (fun i => lHg T (g + i)) (lLen T - g) := by
    obtain ⟨j, hj⟩ : ∃ j, max g (lLen T - g) = (lLen T - g) + j := ⟨max g (lLen T - g) - (lLen T - g), by omega⟩
    rw [hj, sTo_zero (lUp T g) j (fun i hi => by unfold lUp; rw [if_neg (by omega)])]
    exact sTo_congr _ (fun i hi => by unfold lUp; rw [if_pos (by omega)])
  rw [e1, e2]
  have := sTo_split (lHg T) g (lLen T - g)
  rw [show g + (lLen T - g) = lLen T by omega] at this
  omega
theorem lOk_fold {n : Nat} {T : lT} {g : Nat} (h : lOk n T) (h1 : 1 ≤ g) (h2 : g < lLen T) : lOk n (lFold T g) := by
  obtain ⟨a1, a2, a3, a4, a5, a6⟩ := h
  refine ⟨by show 1 ≤ max g (lLen T - g); omega, by show max g (lLen T - g) ≤ n; omega, by rw [lSum_fold h1 h2]; exact a3, fun d hd => ?_, fun s hs => ?_, fun d k hd hk => ?_⟩
  · have hd : d < max g (lLen T - g) := hd
    show 1 ≤ lLow T g d + lUp T g d
    unfold lLow lUp
    by_cases q : d < g
    · rw [if_pos q]
      have := a4 (g - 1 - d) (by omega)
      omega
    · rw [if_neg q, if_pos (by omega)]
      have := a4 (g + d) (by omega)
      omega
  · obtain ⟨b1, b2, b3⟩ := a5 s hs
    show (if lCo T s < g then g - 1 - lCo T s else lCo T s - g) < max g (lLen T - g) ∧ (if lCo T s < g then lRk T s else lLow T g (lCo T s - g) + (lHg T (lCo T s) - 1 - lRk T s)) < lLow T g (if lCo T s < g then g - 1 - lCo T s else lCo T s - g) + lUp T g (if lCo T s < g then g - 1 - lCo T s else lCo T s - g) ∧
      (if (if lCo T s < g then lRk T s else lLow T g (lCo T s - g) + (lHg T (lCo T s) - 1 - lRk T s)) < lLow T g (if lCo T s < g then g - 1 - lCo T s else lCo T s - g) then lAt T (g - 1 - (if lCo T s < g then g - 1 - lCo T s else lCo T s - g)) (if lCo T s < g then lRk T s else lLow T g (lCo T s - g) + (lHg T (lCo T s) - 1 - lRk T s)) else lAt T (g + (if lCo T s < g then g - 1 - lCo T s else lCo T s - g)) (lHg T (g + (if lCo T s < g then g - 1 - lCo T s else lCo T s - g)) - 1 - ((if lCo T s < g then lRk T s else lLow T g (lCo T s - g) + (lHg T (lCo T s) - 1 - lRk T s)) - lLow T g (if lCo T s < g then g - 1 - lCo T s else lCo T s - g)))) = s
    by_cases q : lCo T s < g
    · simp only [if_pos q]
      have e : lLow T g (g - 1 - lCo T s) = lHg T (lCo T s) := by unfold lLow; rw [if_pos (by omega), show g - 1 - (g - 1 - lCo T s) = lCo T s by omega]
      rw [e, if_pos b2, show g - 1 - (g - 1 - lCo T s) = lCo T s by omega]
      exact ⟨by omega, by omega, b3⟩
    · simp only [if_neg q]
      have e : lUp T g (lCo T s - g) = lHg T (lCo T s) := by unfold lUp; rw [if_pos (by omega), show g + (lCo T s - g) = lCo T s by omega]
      rw [e, if_neg (by omega), show g + (lCo T s - g) = lCo T s by omega]
      refine ⟨by omega, by omega, ?_⟩
      rw [show lHg T (lCo T s) - 1 - (lLow T g (lCo T s - g) + (lHg T (lCo T s) - 1 - lRk T s) - lLow T g (lCo T s - g)) = lRk T s by omega]
      exact b3
  · have hd : d < max g (lLen T - g) := hd
    have hk : k < lLow T g d + lUp T g d := hk
    show (if k < lLow T g d then lAt T (g - 1 - d) k else lAt T (g + d) (lHg T (g + d) - 1 - (k - lLow T g d))) < n ∧ lCo (lFold T g) (if k < lLow T g d then lAt T (g - 1 - d) k else lAt T (g + d) (lHg T (g + d) - 1 - (k - lLow T g d))) = d ∧ lRk (lFold T g) (if k < lLow T g d then lAt T (g - 1 - d) k else lAt T (g + d) (lHg T (g + d) - 1 - (k - lLow T g d))) = k
    by_cases q : k < lLow T g d
    · simp only [if_pos q]
      have hdg : d < g := by
        rcases Nat.lt_or_ge d g with z | z
        · exact z
        · unfold lLow at q
          rw [if_neg (by omega)] at q
          omega
      have e : lLow T g d = lHg T (g - 1 - d) := by unfold lLow; rw [if_pos hdg]
      obtain ⟨c1, c2, c3⟩ := a6 (g - 1 - d) k (by omega) (by omega)
      refine ⟨c1, ?_, ?_⟩
      · show (if lCo T _ < g then g - 1 - lCo T _ else _) = d
        rw [c2, if_pos (by omega)]
        omega
      · show (if lCo T _ < g then lRk T _ else _) = k
        rw [c2, if_pos (by omega)]
        exact c3
    · simp only [if_neg q]
      have hup : g + d < lLen T := by
        rcases Nat.lt_or_ge (g + d) (lLen T) with z | z
        · exact z
        · unfold lUp at hk
          rw [if_neg (by omega)] at hk
          omega
      have e : lUp T g d = lHg T (g + d) := by unfold lUp; rw [if_pos hup]
      rw [e] at hk
      obtain ⟨c1, c2, c3⟩ := a6 (g + d) (lHg T (g + d) - 1 - (k - lLow T g d)) hup (by omega)
      refine ⟨c1, ?_, ?_⟩
      · show (if lCo T _ < g then _ else lCo T _ - g) = d
        rw [c2, if_neg (by omega)]
        omega
      · show (if lCo T _ < g then _ else lLow T g (lCo T _ - g) + (lHg T (lCo T _) - 1 - lRk T _)) = k
        rw [c2, c3, if_neg (by omega), show g + d - g = d by omega]
        omega
/-- how it lies after the first k folds -/
def lay (n : Nat) (g : Nat → Nat) : Nat → lT
  | 0 => lFlat n
  | k + 1 => lFold (lay n g k) (g k)
/-- each fold's gap is there -/
def gOk (n : Nat) (g : Nat → Nat) (F : Nat) : Prop := ∀ k, k < F → 1 ≤ g k ∧ g k < lLen (lay n g k)
theorem lOk_lay {n : Nat} {g : Nat → Nat} (hn : 1 ≤ n) : ∀ F : Nat, gOk n g F → lOk n (lay n g F)
  | 0, _ => lOk_flat hn
  | F + 1, h => lOk_fold (lOk_lay hn F (fun k hk => h k (by omega))) (h F (by omega)).1 (h F (by omega)).2
def lAbove (T : lT) (s : Nat) : Option Nat := if lRk T s + 1 < lHg T (lCo T s) then some (lAt T (lCo T s) (lRk T s + 1)) else none
def lBelow (T : lT) (s : Nat) : Option Nat := if lRk T s = 0 then none else some (lAt T (lCo T s) (lRk T s - 1))
