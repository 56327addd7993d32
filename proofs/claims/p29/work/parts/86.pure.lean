/-! what holds of every bench: seats, columns, heights; who faces whom, counted -/
theorem lHg_two {n : Nat} {g : Nat → Nat} (hn : 1 ≤ n) : ∀ F : Nat, gOk n g F → ∀ c, c < lLen (lay n g F) → lHg (lay n g F) c ≤ 2 ^ F := by
  intro F
  induction F with
  | zero =>
    intro _ c _
    exact Nat.le_refl 1
  | succ F ih =>
    intro hg c hc
    have hi := ih (fun k hk => hg k (by omega))
    have h2 := (hg F (by omega)).2
    have h1 := (hg F (by omega)).1
    have hc' : c < max (g F) (lLen (lay n g F) - g F) := hc
    show lLow (lay n g F) (g F) c + lUp (lay n g F) (g F) c ≤ 2 ^ (F + 1)
    have e1 : lLow (lay n g F) (g F) c ≤ 2 ^ F := by
      unfold lLow
      split
      · exact hi _ (by omega)
      · exact Nat.zero_le _
    have e2 : lUp (lay n g F) (g F) c ≤ 2 ^ F := by
      unfold lUp
      split
      · exact hi _ (by omega)
      · exact Nat.zero_le _
    rw [Nat.pow_succ]
    omega
/-- the seats of a column's first k, and of the first d columns, as bits -/
def sCol (T : lT) (d : Nat) (x : Int32) : Nat → Int32
  | 0 => x
  | k + 1 => sCol T d x k ||| bitI (some (lAt T d k))
def sAll (T : lT) : Nat → Int32
  | 0 => nI 0
  | d + 1 => sCol T d (sAll T d) (lHg T d)
theorem bt_sCol {T : lT} {d i : Nat} {x : Int32} (hi : i < 32) : ∀ k : Nat, (∀ j, j < k → lAt T d j < 32) → (bt (sCol T d x k) i = true ↔ bt x i = true ∨ ∃ j, j < k ∧ lAt T d j = i)
  | 0, _ => by
    show bt x i = true ↔ _
    constructor
    · exact Or.inl
    · rintro (h | ⟨j, h, -⟩)
      · exact h
      · omega
  | k + 1, hk => by
    show bt (sCol T d x k ||| bitI (some (lAt T d k))) i = true ↔ _
    rw [b_or, Bool.or_eq_true, bt_sCol hi k (fun j hj => hk j (by omega)), bt_bitI (fun c hc => by cases hc; exact hk k (by omega)) hi, decide_eq_true_eq]
    constructor
    · rintro ((h | ⟨j, h1, h2⟩) | h)
      · exact Or.inl h
      · exact Or.inr ⟨j, by omega, h2⟩
      · exact Or.inr ⟨k, by omega, Option.some.inj h⟩
    · rintro (h | ⟨j, h1, h2⟩)
      · exact Or.inl (Or.inl h)
      · by_cases z : j = k
        · subst z
          exact Or.inr (by rw [h2])
        · exact Or.inl (Or.inr ⟨j, by omega, h2⟩)
theorem bt_sAll {n : Nat} {T : lT} (hT : lOk n T) (hn : n ≤ 16) {i : Nat} (hi : i < 32) : ∀ d : Nat, d ≤ lLen T → (bt (sAll T d) i = true ↔ ∃ c k, c < d ∧ k < lHg T c ∧ lAt T c k = i)
  | 0, _ => by
    show bt (nI 0) i = true ↔ _
    rw [bt_0]
    constructor
    · intro h
      cases h
    · rintro ⟨c, k, h, -⟩
      omega
  | d + 1, hd => by
    show bt (sCol T d (sAll T d) (lHg T d)) i = true ↔ _
    rw [bt_sCol hi _ (fun j hj => by have := (hT.2.2.2.2.2 d j (by omega) hj).1; omega), bt_sAll hT hn hi d (by omega)]
    constructor
    · rintro (⟨c, k, h1, h2⟩ | ⟨j, h1, h2⟩)
      · exact ⟨c, k, by omega, h2⟩
      · exact ⟨d, j, by omega, h1, h2⟩
    · rintro ⟨c, k, h1, h2, h3⟩
      by_cases z : c = d
      · subst z
        exact Or.inr ⟨k, h2, h3⟩
      · exact Or.inl ⟨c, k, by omega, h2, h3⟩
theorem bt_mask : ∀ n, n < 17 → ∀ i, i < 32 → bt (nI 1 <<< (nI n &&& nI 31) - nI 1) i = decide (i < n) := by decide +kernel
/-- each seat lies somewhere -/
theorem all_seats {n : Nat} {T : lT} (hT : lOk n T) (hn : n ≤ 16) : sAll T (lLen T) = nI 1 <<< (nI n &&& nI 31) - nI 1 := by
  refine b_ext (fun i hi => Bool.eq_iff_iff.mpr ?_)
  rw [bt_sAll hT hn hi _ (Nat.le_refl _), bt_mask n (by omega) i hi, decide_eq_true_eq]
  constructor
  · rintro ⟨c, k, h1, h2, h3⟩
    have := (hT.2.2.2.2.2 c k h1 h2).1
    omega
  · intro z
    obtain ⟨a1, a2, a3⟩ := hT.2.2.2.2.1 i z
    exact ⟨_, _, a1, a2, a3⟩
/-- below and above are the same both ways -/
theorem ab_bl {n : Nat} {T : lT} (hT : lOk n T) {s t : Nat} (hs : s < n) (ht : t < n) : lBelow T s = some t ↔ lAbove T t = some s := by
  obtain ⟨a1, a2, a3⟩ := hT.2.2.2.2.1 s hs
  obtain ⟨b1, b2, b3⟩ := hT.2.2.2.2.1 t ht
  unfold lBelow lAbove
  constructor
  · intro h
    split at h
    · cases h
    · rename_i q
      have h := Option.some.inj h
      obtain ⟨c1, c2, c3⟩ := hT.2.2.2.2.2 (lCo T s) (lRk T s - 1) a1 (by omega)
      rw [h] at c1 c2 c3
      rw [c2, c3, if_pos (by omega), show lRk T s - 1 + 1 = lRk T s by omega, a3]
  · intro h
    split at h
    · rename_i q
      have h := Option.some.inj h
      obtain ⟨c1, c2, c3⟩ := hT.2.2.2.2.2 (lCo T t) (lRk T t + 1) b1 q
      rw [h] at c1 c2 c3
      rw [c2, c3, if_neg (by omega), show lRk T t + 1 - 1 = lRk T t by omega, b3]
    · cases h
theorem ab_rk {n : Nat} {T : lT} (hT : lOk n T) {s t : Nat} (hs : s < n) (h : lAbove T s = some t) : lRk T t = lRk T s + 1 := by
  obtain ⟨a1, a2, a3⟩ := hT.2.2.2.2.1 s hs
  unfold lAbove at h
  split at h
  · rename_i q
    have h := Option.some.inj h
    obtain ⟨c1, c2, c3⟩ := hT.2.2.2.2.2 (lCo T s) (lRk T s + 1) a1 q
    rw [h] at c3
    exact c3
  · cases h
/-- who sits right above a cousin -/
def upO (b : Bn) (k : Nat) : Option Nat := (b.st k).bind (uA b.si (BL b))
section face
variable {b : Bn}
theorem upO_iff {k e : Nat} (hV : BVB b) : upO b k = some e ↔ ∃ s t, b.st k = some s ∧ b.st e = some t ∧ lAbove (BL b) s = some t := by
  obtain ⟨v0, v7, v8, -⟩ := hV
  unfold upO uA
  constructor
  · intro h
    obtain ⟨s, h1, h2⟩ := Option.bind_eq_some_iff.mp h
    obtain ⟨t, h3, h4⟩ := Option.bind_eq_some_iff.mp h2
    exact ⟨s, t, h1, (v7 t e).mp h4, h3⟩
  · rintro ⟨s, t, h1, h2, h3⟩
    rw [h1]
    show (lAbove (BL b) s).bind b.si = some e
    rw [h3]
    exact (v7 t e).mpr h2
theorem upO_lt {k e : Nat} (hV : BVB b) (h : upO b k = some e) : e < b.m := by
  obtain ⟨s, t, -, h2, -⟩ := (upO_iff hV).mp h
  exact (hV.2.2.1 t e ((hV.2.1 t e).mpr h2)).2
theorem upO_one {k e : Nat} (hV : BVB b) (h1 : upO b k = some e) (h2 : upO b e = some k) : False := by
  have hT := BV_lok hV
  obtain ⟨s, t, a1, a2, a3⟩ := (upO_iff hV).mp h1
  obtain ⟨t', s', b1, b2, b3⟩ := (upO_iff hV).mp h2
  rw [a2] at b1
  rw [a1] at b2
  cases b1
  cases b2
  have hs := (hV.2.2.1 s k ((hV.2.1 s k).mpr a1)).1
  have ht := (hV.2.2.1 t e ((hV.2.1 t e).mpr a2)).1
  have r1 := ab_rk hT hs a3
  have r2 := ab_rk hT ht b3
  omega
/-- whether two face -/
def fcB (b : Bn) (k e : Nat) : Bool := decide (upO b k = some e) || decide (upO b e = some k)
theorem fc_eq {k e s : Nat} (hV : BVB b) (hk : b.st k = some s) : (decide (uB b.si (BL b) s = some e) || decide (uA b.si (BL b) s = some e)) = fcB b k e := by
  have hT := BV_lok hV
  obtain ⟨v0, v7, v8, -⟩ := id hV
  have hs := (v8 s k ((v7 s k).mpr hk)).1
  have e1 : (uA b.si (BL b) s = some e) ↔ (upO b k = some e) := by
    unfold upO
    rw [hk]
    exact Iff.rfl
  have e2 : (uB b.si (BL b) s = some e) ↔ (upO b e = some k) := by
    rw [upO_iff hV]
    unfold uB
    constructor
    · intro h
      obtain ⟨t, h3, h4⟩ := Option.bind_eq_some_iff.mp h
      exact ⟨t, s, (v7 t e).mp h4, hk, (ab_bl hT hs (lBelow_lt hT hs h3)).mp h3⟩
    · rintro ⟨t, s', h1, h2, h3⟩
      rw [hk] at h2
      cases h2
      have h4 := (v7 t e).mpr h1
      rw [(ab_bl hT hs (v8 t e h4).1).mpr h3]
      exact h4
  unfold fcB
  rw [Bool.or_comm]
  congr 1
  · exact decide_eq_decide.mpr e1
  · exact decide_eq_decide.mpr e2
theorem fc_none {k e : Nat} (hk : b.st k = none) (hV : BVB b) : fcB b k e = false := by
  have h1 : ¬ upO b k = some e := by
    rw [upO_iff hV]
    rintro ⟨s, t, h1, -⟩
    rw [hk] at h1
    cases h1
  have h2 : ¬ upO b e = some k := by
    rw [upO_iff hV]
    rintro ⟨s, t, -, h1, -⟩
    rw [hk] at h1
    cases h1
  unfold fcB
  rw [decide_eq_false h1, decide_eq_false h2]
  rfl
theorem fc_sym (k e : Nat) : fcB b k e = fcB b e k := Bool.or_comm _ _
/-- how two who are so face, counted from both -/
def pA (b : Bn) (how : Int32) (k e : Nat) : Nat := if fcB b k e = true ∧ b.r k e = how then 1 else 0
def uN (b : Bn) (how : Int32) (k e : Nat) : Nat := if upO b k = some e then (if b.r k e = how then 1 else 0) else 0
theorem pA_two (hV : BVB b) (how : Int32) (k e : Nat) : pA b how k e = uN b how k e + uN b how e k := by
  have hs : b.r e k = b.r k e := hV.2.2.2.2.1 e k
  unfold pA uN fcB
  rw [hs]
  by_cases h1 : upO b k = some e
  · have h2 : ¬ upO b e = some k := fun z => upO_one hV h1 z
    rw [if_pos h1, if_neg h2, decide_eq_true h1, Bool.true_or]
    by_cases q : b.r k e = how
    · rw [if_pos ⟨rfl, q⟩, if_pos q]
    · rw [if_neg (fun z => q z.2), if_neg q]
  · rw [if_neg h1, decide_eq_false h1, Bool.false_or, Nat.zero_add]
    by_cases h2 : upO b e = some k
    · rw [if_pos h2, decide_eq_true h2]
      by_cases q : b.r k e = how
      · rw [if_pos ⟨rfl, q⟩, if_pos q]
      · rw [if_neg (fun z => q z.2), if_neg q]
    · rw [if_neg h2, decide_eq_false h2, if_neg (fun z => Bool.false_ne_true z.1)]
theorem uN_sum (hV : BVB b) (how : Int32) (k : Nat) : sTo (uN b how k) b.m = pairM b (BL b) how k := by
  have h1 := sTo_hit (fun e => if b.r k e = how then 1 else 0) (upO b k) b.m (fun c hc => upO_lt hV hc)
  have h2 : sTo (uN b how k) b.m = _ := h1
  rw [h2]
  unfold pairM upO
  cases b.st k with
  | none => rfl
  | some s =>
    show (match uA b.si (BL b) s with
      | none => 0
      | some c => if b.r k c = how then 1 else 0) = (match uA b.si (BL b) s with
      | none => 0
      | some d => if b.r k d = how then 1 else 0)
    cases uA b.si (BL b) s with
    | none => rfl
    | some d => rfl
theorem pA_sum (hV : BVB b) {how : Int32} (h0 : ¬ nI 0 = how) : sTo (fun k => sTo (pA b how k) b.m) b.m = 2 * cnt (pairC b.si b.r (BL b) how) b.n := by
  have e1 : sTo (fun k => sTo (pA b how k) b.m) b.m = sTo (fun k => sTo (fun e => uN b how k e) b.m + sTo (fun e => uN b how e k) b.m) b.m := by
    refine sTo_congr b.m (fun k hk => ?_)
    rw [← sTo_add]
    exact sTo_congr b.m (fun e he => pA_two hV how k e)
  rw [e1, sTo_add, ← sTo_swap (fun e k => uN b how e k) b.m b.m]
  have e2 : sTo (fun k => sTo (fun e => uN b how k e) b.m) b.m = sTo (pairM b (BL b) how) b.m := sTo_congr b.m (fun k hk => uN_sum hV how k)
  rw [e2, pairs_eq hV (BL b) h0]
  omega
theorem pA_1 (how : Int32) (k e : Nat) : pA b how k e ≤ 1 := by
  unfold pA
  split <;> omega
theorem pA_le (how : Int32) (k : Nat) : ∀ e, sTo (pA b how k) e ≤ e
  | 0 => Nat.le_refl _
  | e + 1 => by
    have h1 := pA_le how k e
    have h2 := pA_1 (b := b) how k e
    show sTo (pA b how k) e + pA b how k e ≤ e + 1
    omega
theorem pA_le2 (how : Int32) (m : Nat) : ∀ k, sTo (fun k => sTo (pA b how k) m) k ≤ k * m
  | 0 => Nat.zero_le _
  | k + 1 => by
    have h1 := pA_le2 how m k
    have h2 := pA_le (b := b) how k m
    show sTo (fun k => sTo (pA b how k) m) k + sTo (pA b how k) m ≤ (k + 1) * m
    rw [Nat.succ_mul]
    omega
/-- whether two sit side by side -/
def nbB (b : Bn) (k e : Nat) : Bool := match b.st k, b.st e with
  | some s, some t => decide (t + 1 = s) || decide (s + 1 = t)
  | _, _ => false
theorem nb_sym (k e : Nat) : nbB b k e = nbB b e k := by
  unfold nbB
  cases b.st k with
  | none => cases b.st e <;> rfl
  | some s =>
    cases b.st e with
    | none => rfl
    | some t => exact Bool.or_comm _ _
theorem nb_none {k e : Nat} (hk : b.st k = none) : nbB b k e = false := by
  unfold nbB
  rw [hk]
theorem nb_eq {k e s : Nat} (hV : BVB b) (hk : b.st k = some s) : (decide (uL b.si s = some e) || decide (uR b.n b.si s = some e)) = nbB b k e := by
  obtain ⟨v0, v7, v8, -⟩ := id hV
  unfold nbB
  rw [hk]
  have e1 : uL b.si s = some e ↔ s ≠ 0 ∧ b.st e = some (s - 1) := by
    unfold uL
    split
    · rename_i q
      exact ⟨fun h => (by cases h), fun h => absurd q h.1⟩
    · rename_i q
      exact ⟨fun h => ⟨q, (v7 _ e).mp h⟩, fun h => (v7 _ e).mpr h.2⟩
  have e2 : uR b.n b.si s = some e ↔ b.st e = some (s + 1) := by
    unfold uR
    split
    · exact v7 _ e
    · rename_i q
      exact ⟨fun h => (by cases h), fun h => absurd (v8 _ e ((v7 _ e).mpr h)).1 q⟩
  cases e3 : b.st e with
  | none =>
    rw [e3] at e1 e2
    rw [decide_eq_false (fun z => by have := (e1.mp z).2; cases this), decide_eq_false (fun z => by have := e2.mp z; cases this)]
    rfl
  | some t =>
    rw [e3] at e1 e2
    show (decide (uL b.si s = some e) || decide (uR b.n b.si s = some e)) = (decide (t + 1 = s) || decide (s + 1 = t))
    congr 1
    · refine decide_eq_decide.mpr (e1.trans ?_)
      rw [Option.some.injEq]
      omega
    · refine decide_eq_decide.mpr (e2.trans ?_)
      rw [Option.some.injEq]
      omega
end face
/-- a pair, seen from the cousin's toast -/
def toastM (b : Bn) (c : Nat) : Nat := match b.st c with
  | none => 0
  | some s => moodS b.n b.ne b.fa b.si b.r (BL b) s
theorem toast_eq {b : Bn} (hV : BVB b) : toastOf b (BL b) = sTo (toastM b) b.m := by
  obtain ⟨v0, v7, v8, -⟩ := hV
  have := sum_sc v7 v8 (fun s c => moodS b.n b.ne b.fa b.si b.r (BL b) s)
  have e : sTo (toastM b) b.m = _ := this.symm
  rw [e]
  refine sTo_congr b.n (fun s hs => ?_)
  unfold toastS
  cases e1 : b.si s with
  | none => rfl
  | some c => rfl
theorem toastM_9 (b : Bn) (c : Nat) : toastM b c ≤ 9 := by
  unfold toastM
  split
  · omega
  · exact (mdI_N _ _ _ _ _ _).2
theorem toastM_le (b : Bn) : ∀ k, sTo (toastM b) k ≤ 9 * k
  | 0 => Nat.zero_le _
  | k + 1 => by
    have h1 := toastM_le b k
    have h2 := toastM_9 b k
    show sTo (toastM b) k + toastM b k ≤ 9 * (k + 1)
    omega
