/-! numbers -/
theorem n31 (n : Nat) (h : n < 2147483648 := by omega) : n < 2 ^ 31 := h
theorem aLt {a b : Nat} (ha : a < 2147483648) (hb : b < 2147483648) : nI a < nI b ↔ a < b := nI_ltI ha hb
theorem aLe {a b : Nat} (ha : a < 2147483648) (hb : b < 2147483648) : nI a ≤ nI b ↔ a ≤ b := nI_leI ha hb
theorem aEq {a b : Nat} (ha : a < 2147483648) (hb : b < 2147483648) : nI a = nI b ↔ a = b := nI_eq ha hb
theorem aAdd (a b : Nat) : nI a + nI b = nI (a + b) := nI_add a b
theorem aSub {a b : Nat} (h : b ≤ a) : nI a - nI b = nI (a - b) := pk_sub h
theorem aMul (a b : Nat) : nI a * nI b = nI (a * b) := pk_mul a b
theorem nM_toInt {n : Nat} (h : n < 2147483648) : (nM n).toInt = -(n : Int) := sb_negT h
theorem aNe {a b : Nat} (ha : a < 2147483648) (hb : b < 2147483648) (h0 : 0 < b) : nI a = nM b ↔ False := by
  constructor
  · intro h
    have h1 := congrArg Int32.toInt h
    rw [nI_toInt ha, nM_toInt hb] at h1
    omega
  · intro h
    exact h.elim
theorem aNe' {a b : Nat} (ha : a < 2147483648) (hb : b < 2147483648) (h0 : 0 < b) : nM b = nI a ↔ False := by
  rw [← aNe ha hb h0]
  exact ⟨Eq.symm, Eq.symm⟩
theorem aMM {a b : Nat} (ha : a < 2147483648) (hb : b < 2147483648) : nM a = nM b ↔ a = b := by
  constructor
  · intro h
    have h1 := congrArg Int32.toInt h
    rw [nM_toInt ha, nM_toInt hb] at h1
    omega
  · rintro rfl
    rfl
theorem aMlt {a b : Nat} (ha : a < 2147483648) (hb : b < 2147483648) (h0 : 0 < a) : nM a < nI b ↔ True := by
  rw [Int32.lt_iff_toInt_lt, nM_toInt ha, nI_toInt hb]
  constructor
  · intro; trivial
  · intro; omega
theorem aMle {a b : Nat} (ha : a < 2147483648) (hb : b < 2147483648) : nM a ≤ nI b ↔ True := by
  rw [Int32.le_iff_toInt_le, nM_toInt ha, nI_toInt hb]
  constructor
  · intro; trivial
  · intro; omega
theorem aLtM {a b : Nat} (ha : a < 2147483648) (hb : b < 2147483648) : nI b < nM a ↔ False := by
  rw [Int32.lt_iff_toInt_lt, nM_toInt ha, nI_toInt hb]
  constructor
  · intro; omega
  · intro h; exact h.elim
theorem aLeM {a b : Nat} (ha : a < 2147483648) (hb : b < 2147483648) (h0 : 0 < a) : nI b ≤ nM a ↔ False := by
  rw [Int32.le_iff_toInt_le, nM_toInt ha, nI_toInt hb]
  constructor
  · intro; omega
  · intro h; exact h.elim
theorem aPM {a b : Nat} (h : b ≤ a) : nI a + nM b = nI (a - b) := by
  have h1 : nM b = -(nI b) := rfl
  rw [h1, ← Int32.sub_eq_add_neg]
  exact pk_sub h
theorem aN0 {a : Nat} (ha : a < 2147483648) : nI a < nI 0 ↔ False := by
  rw [aLt ha (by omega)]
  simp
/-- an option as the program writes it: -6 for none -/
def oI (o : Option Nat) : Int32 := match o with
  | none => nM 6
  | some a => nI a
theorem oI_none : oI none = nM 6 := rfl
theorem oI_some (a : Nat) : oI (some a) = nI a := rfl
theorem oI_inj {x y : Option Nat} (hx : ∀ a, x = some a → a < 2147483648) (hy : ∀ a, y = some a → a < 2147483648) : oI x = oI y ↔ x = y := by
  cases x with
  | none =>
    cases y with
    | none => simp
    | some b => rw [oI_none, oI_some, aNe' (hy b rfl) (by omega) (by omega)]; simp
  | some a =>
    cases y with
    | none => rw [oI_none, oI_some, aNe (hx a rfl) (by omega) (by omega)]; simp
    | some b => rw [oI_some, oI_some, aEq (hx a rfl) (hy b rfl)]; simp
theorem oI_none_iff {x : Option Nat} (hx : ∀ a, x = some a → a < 2147483648) : oI x = nM 6 ↔ x = none := by
  rw [← oI_none]
  exact oI_inj hx (by simp)
theorem oI_some_iff {x : Option Nat} {c : Nat} (hx : ∀ a, x = some a → a < 2147483648) (hc : c < 2147483648) : oI x = nI c ↔ x = some c := by
  rw [← oI_some]
  exact oI_inj hx (by rintro a h; cases h; exact hc)
/-- a truth value as the program writes it -/
def bI (b : Bool) : Int32 := if b = true then nI 1 else nI 0
theorem bI_t : bI true = nI 1 := rfl
theorem bI_f : bI false = nI 0 := rfl
theorem bI_0 (b : Bool) : (bI b = nI 0) ↔ b = false := by cases b <;> decide
theorem bI_n0 (b : Bool) : (¬ bI b = nI 0) ↔ b = true := by cases b <;> decide
theorem bI_1 (b : Bool) : (bI b = nI 1) ↔ b = true := by cases b <;> decide
theorem bI_01 (b : Bool) : (bI b = nI 0 ∨ bI b = nI 1) ↔ True := by cases b <;> decide
theorem ifT {α : Sort _} {c : Prop} {i : Decidable c} (h : c) (a b : α) : (@ite α c i a b) = a := if_pos h
theorem ifF {α : Sort _} {c : Prop} {i : Decidable c} (h : ¬ c) (a b : α) : (@ite α c i a b) = b := if_neg h
/-- any int is a small natural number, or it isn't in 0 .. n - 1 -/
theorem i32_cases (x : Int32) (n : Nat) (hn : n < 2147483648) : (∃ j, j < n ∧ x = nI j) ∨ ((x < nI 0 ∨ nI n ≤ x) ∧ ∀ j, j < n → x ≠ nI j) := by
  rcases pk_ix x (n := n) hn with h | h | ⟨j, h1, h2⟩
  · refine Or.inr ⟨Or.inl h, fun j hj e => ?_⟩
    rw [e] at h
    exact nI_pos (by omega) h
  · refine Or.inr ⟨Or.inr h, fun j hj e => ?_⟩
    rw [e] at h
    exact nI_ge hj (by omega) h
  · exact Or.inl ⟨j, h1, h2⟩
