/-! a sum over the seats is one over the cousins -/
theorem sTo_z (f : Nat → Nat) : ∀ m : Nat, (∀ i, i < m → f i = 0) → sTo f m = 0
  | 0, _ => rfl
  | m + 1, hz => by
    show sTo f m + f m = 0
    rw [sTo_z f m (fun i hi => hz i (by omega)), hz m (by omega)]
theorem sTo_swap (G : Nat → Nat → Nat) (m : Nat) : ∀ n : Nat, sTo (fun s => sTo (fun c => G s c) m) n = sTo (fun c => sTo (fun s => G s c) n) m
  | 0 => by
    show 0 = sTo (fun c => 0) m
    rw [sTo_z _ m (fun i hi => rfl)]
  | n + 1 => by
    show sTo (fun s => sTo (fun c => G s c) m) n + sTo (fun c => G n c) m = sTo (fun c => sTo (fun s => G s c) n + G n c) m
    rw [sTo_swap G m n, sTo_add]
theorem sTo_hit (f : Nat → Nat) (o : Option Nat) : ∀ m : Nat, (∀ c, o = some c → c < m) → sTo (fun c => if o = some c then f c else 0) m = match o with
    | none => 0
    | some c => f c := by
  intro m hm
  cases o with
  | none => exact sTo_z _ m (fun i hi => if_neg (by simp))
  | some d =>
    have hd := hm d rfl
    have key : ∀ k, sTo (fun c => if some d = some c then f c else 0) k = if d < k then f d else 0 := by
      intro k
      induction k with
      | zero => rfl
      | succ k ih =>
        show sTo (fun c => if some d = some c then f c else 0) k + (if some d = some k then f k else 0) = _
        rw [ih]
        by_cases z : d = k
        · subst z
          rw [if_neg (Nat.lt_irrefl _), if_pos rfl, if_pos (Nat.lt_succ_self _), Nat.zero_add]
        · rw [if_neg (show ¬ some d = some k by simp [z])]
          by_cases z2 : d < k
          · rw [if_pos z2, if_pos (by omega), Nat.add_zero]
          · rw [if_neg z2, if_neg (by omega)]
    rw [key m, if_pos hd]
theorem sum_sc {st si : Nat → Option Nat} {n m : Nat} (hv : ∀ s c, si s = some c ↔ st c = some s) (hv2 : ∀ s c, si s = some c → s < n ∧ c < m) (F : Nat → Nat → Nat) : sTo (fun s => match si s with
    | none => 0
    | some c => F s c) n = sTo (fun c => match st c with
    | none => 0
    | some s => F s c) m := by
  have e1 : ∀ s, s < n → (match si s with
    | none => 0
    | some c => F s c) = sTo (fun c => if si s = some c then F s c else 0) m := fun s hs => (sTo_hit (F s) (si s) m (fun c hc => (hv2 s c hc).2)).symm
  have e2 : ∀ c, c < m → (match st c with
    | none => 0
    | some s => F s c) = sTo (fun s => if si s = some c then F s c else 0) n := fun c hc => by
    have := sTo_hit (fun s => F s c) (st c) n (fun s hs => (hv2 s c ((hv s c).mpr hs)).1)
    rw [← this]
    exact sTo_congr n (fun s hs => by simp only [hv s c])
  rw [sTo_congr n e1, sTo_congr m e2]
  exact sTo_swap (fun s c => if si s = some c then F s c else 0) m n
