/-! pairs who face, counted over the cousins -/
/-- a pair, seen from the cousin below -/
def pairM (b : Bn) (T : lT) (how : Int32) (c : Nat) : Nat := match b.st c with
  | none => 0
  | some s => match uA b.si T s with
    | none => 0
    | some d => if b.r c d = how then 1 else 0
theorem cnt_sTo (p : Nat → Bool) : ∀ n : Nat, cnt p n = sTo (fun s => if p s = true then 1 else 0) n
  | 0 => rfl
  | n + 1 => by
    show cnt p n + (if p n = true then 1 else 0) = sTo (fun s => if p s = true then 1 else 0) n + (if p n = true then 1 else 0)
    rw [cnt_sTo p n]
theorem pairs_eq {b : Bn} (hV : BVB b) (T : lT) {how : Int32} (h0 : ¬ nI 0 = how) : cnt (pairC b.si b.r T how) b.n = sTo (pairM b T how) b.m := by
  obtain ⟨v0, v7, v8, -⟩ := hV
  have := sum_sc v7 v8 (fun s c => match uA b.si T s with
    | none => 0
    | some d => if b.r c d = how then 1 else 0)
  rw [cnt_sTo]
  have e : sTo (pairM b T how) b.m = _ := this.symm
  rw [e]
  refine sTo_congr b.n (fun s hs => ?_)
  unfold pairC
  cases e1 : b.si s with
  | none =>
    rw [rS_n']
    simp [h0]
  | some c =>
    cases e2 : uA b.si T s with
    | none =>
      rw [rS_n]
      simp [h0]
    | some d =>
      show (if decide (b.r c d = how) = true then 1 else 0) = (if b.r c d = how then 1 else 0)
      by_cases z : b.r c d = how <;> simp [z]
