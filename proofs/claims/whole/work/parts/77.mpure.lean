/-! who faces goes on facing; the fewest folds, counted the model's way -/
theorem cnt_0 (p : Nat → Bool) : ∀ n : Nat, cnt p n = 0 ↔ ∀ s, s < n → p s = false
  | 0 => ⟨fun _ s hs => absurd hs (Nat.not_lt_zero s), fun _ => rfl⟩
  | n + 1 => by
    have ih := cnt_0 p n
    have e : cnt p (n + 1) = cnt p n + (if p n = true then 1 else 0) := rfl
    constructor
    · intro hz s hs
      rw [e] at hz
      by_cases z : s = n
      · rw [z]
        cases q : p n with
        | false => rfl
        | true =>
          rw [q, if_pos rfl] at hz
          omega
      · exact ih.mp (by omega) s (by omega)
    · intro hz
      rw [e, ih.mpr (fun s hs => hz s (by omega)), hz n (by omega)]
      rfl
theorem rS_s {r : Nat → Nat → Int32} (hs : ∀ c o, r c o = r o c) (x y : Option Nat) : rS r x y = rS r y x := by
  cases x with
  | none => rw [rS_n', rS_n]
  | some c =>
    cases y with
    | none => rw [rS_n, rS_n']
    | some d => exact hs c d
/-- no foes face, place by place -/
def ffT (b : Bn) (T : lT) : Prop := ∀ d k, d < lLen T → k + 1 < lHg T d → ¬ rS b.r (b.si (lAt T d k)) (b.si (lAt T d (k + 1))) = nM 1
theorem ff_iff {b : Bn} {T : lT} (hT : lOk b.n T) : foesIn b T = 0 ↔ ffT b T := by
  unfold foesIn
  rw [cnt_0]
  constructor
  · intro hz d k hd hk q
    obtain ⟨t1, t2, t3⟩ := hT.2.2.2.2.2 d k hd (by omega)
    have h1 := hz (lAt T d k) t1
    have h2 := of_decide_eq_false h1
    apply h2
    unfold uA lAbove
    rw [t2, t3, if_pos hk]
    exact q
  · intro hz s hs
    obtain ⟨t1, t2, t3⟩ := hT.2.2.2.2.1 s hs
    refine decide_eq_false (fun q => ?_)
    unfold uA lAbove at q
    by_cases z : lRk T s + 1 < lHg T (lCo T s)
    · rw [if_pos z] at q
      have h1 := hz (lCo T s) (lRk T s) t1 z
      rw [t3] at h1
      exact h1 q
    · rw [if_neg z] at q
      have q2 : rS b.r (b.si s) none = nM 1 := q
      rw [rS_n] at q2
      exact absurd q2 (by decide)
theorem ff_fold {b : Bn} {T : lT} {g : Nat} (hs : ∀ c o, b.r c o = b.r o c) (hT : lOk b.n T) (h1 : 1 ≤ g) (h2 : g < lLen T) : ffT b (lFold T g) ↔ ffT b T ∧ meetS b.si b.r T g = false := by
  have hlen : lLen (lFold T g) = max g (lLen T - g) := rfl
  have hhg : ∀ d, lHg (lFold T g) d = lLow T g d + lUp T g d := fun d => rfl
  have hat : ∀ d k, lAt (lFold T g) d k = if k < lLow T g d then lAt T (g - 1 - d) k else lAt T (g + d) (lHg T (g + d) - 1 - (k - lLow T g d)) := fun d k => rfl
  have low : ∀ d, d < g → lLow T g d = lHg T (g - 1 - d) := fun d hd => if_pos hd
  have low0 : ∀ d, ¬ d < g → lLow T g d = 0 := fun d hd => if_neg hd
  have up : ∀ d, g + d < lLen T → lUp T g d = lHg T (g + d) := fun d hd => if_pos hd
  have up0 : ∀ d, ¬ g + d < lLen T → lUp T g d = 0 := fun d hd => if_neg hd
  have hpos := hT.2.2.2.1
  constructor
  · intro hf
    refine ⟨fun d k hd hk q => ?_, decide_eq_false ?_⟩
    · by_cases z : d < g
      · have e1 : g - 1 - (g - 1 - d) = d := by omega
        have l1 := low (g - 1 - d) (by omega)
        rw [e1] at l1
        have a1 := hat (g - 1 - d) k
        have a2 := hat (g - 1 - d) (k + 1)
        rw [l1, e1, if_pos (by omega)] at a1
        rw [l1, e1, if_pos (by omega)] at a2
        have := hf (g - 1 - d) k (by omega) (by rw [hhg, l1]; omega)
        rw [a1, a2] at this
        exact this q
      · have e1 : g + (d - g) = d := by omega
        have u1 := up (d - g) (by omega)
        rw [e1] at u1
        have a1 := hat (d - g) (lLow T g (d - g) + (lHg T d - 1 - (k + 1)))
        have a2 := hat (d - g) (lLow T g (d - g) + (lHg T d - 1 - (k + 1)) + 1)
        rw [e1, if_neg (by omega), show lHg T d - 1 - (lLow T g (d - g) + (lHg T d - 1 - (k + 1)) - lLow T g (d - g)) = k + 1 by omega] at a1
        rw [e1, if_neg (by omega), show lHg T d - 1 - (lLow T g (d - g) + (lHg T d - 1 - (k + 1)) + 1 - lLow T g (d - g)) = k by omega] at a2
        have := hf (d - g) (lLow T g (d - g) + (lHg T d - 1 - (k + 1))) (by omega) (by rw [hhg, u1]; omega)
        rw [a1, a2, rS_s hs] at this
        exact this q
    · rintro ⟨d, d1, d2, d3⟩
      have l1 := low d d1
      have u1 := up d d2
      have p1 := hpos (g - 1 - d) (by omega)
      have p2 := hpos (g + d) d2
      have a1 := hat d (lHg T (g - 1 - d) - 1)
      have a2 := hat d (lHg T (g - 1 - d) - 1 + 1)
      rw [l1, if_pos (by omega)] at a1
      rw [l1, if_neg (by omega), show lHg T (g - 1 - d) - 1 + 1 - lHg T (g - 1 - d) = 0 by omega, Nat.sub_zero] at a2
      have := hf d (lHg T (g - 1 - d) - 1) (by omega) (by rw [hhg, l1, u1]; omega)
      rw [a1, a2] at this
      exact this (of_decide_eq_true d3)
  · rintro ⟨hf, hm⟩ d k hd hk q
    have hm2 := of_decide_eq_false hm
    rw [hhg] at hk
    have a1 := hat d k
    have a2 := hat d (k + 1)
    by_cases z1 : k + 1 < lLow T g d
    · have hdg : d < g := by
        by_cases z : d < g
        · exact z
        · rw [low0 d z] at z1
          omega
      rw [if_pos (by omega)] at a1
      rw [if_pos z1] at a2
      rw [a1, a2] at q
      rw [low d hdg] at z1
      exact hf (g - 1 - d) k (by omega) z1 q
    · have hud : g + d < lLen T := by
        by_cases z : g + d < lLen T
        · exact z
        · rw [up0 d z] at hk
          omega
      rw [up d hud] at hk
      by_cases z2 : k + 1 = lLow T g d
      · have hdg : d < g := by
          by_cases z : d < g
          · exact z
          · rw [low0 d z] at z2
            omega
        have l1 := low d hdg
        rw [if_pos (by omega), show k = lHg T (g - 1 - d) - 1 by omega] at a1
        rw [if_neg (by omega), show k + 1 - lLow T g d = 0 by omega, Nat.sub_zero] at a2
        rw [a2, show k = lHg T (g - 1 - d) - 1 by omega, a1] at q
        exact hm2 ⟨d, hdg, hud, decide_eq_true q⟩
      · rw [if_neg (by omega)] at a1
        rw [if_neg (by omega)] at a2
        rw [a1, a2, rS_s hs] at q
        rw [show lHg T (g + d) - 1 - (k - lLow T g d) = lHg T (g + d) - 1 - (k + 1 - lLow T g d) + 1 by omega] at q
        exact hf (g + d) (lHg T (g + d) - 1 - (k + 1 - lLow T g d)) hud (by omega) q
/-- whether just so many folds leave one column, no foes facing behind each -/
def exK (b : Bn) : Nat → lT → Bool
  | 0, T => decide (lLen T ≤ 1)
  | k + 1, T => decide (lLen T ≤ 2 ^ (k + 1)) && decide (∃ g, g < lLen T ∧ (1 ≤ g ∧ foesIn b (lFold T g) = 0 ∧ exK b k (lFold T g) = true))
theorem exK_len {b : Bn} {k : Nat} {T : lT} (h : exK b k T = true) : lLen T ≤ 2 ^ k := by
  cases k with
  | zero => exact of_decide_eq_true h
  | succ k =>
    have h' : (decide (lLen T ≤ 2 ^ (k + 1)) && decide (∃ g, g < lLen T ∧ (1 ≤ g ∧ foesIn b (lFold T g) = 0 ∧ exK b k (lFold T g) = true))) = true := h
    rw [Bool.and_eq_true] at h'
    exact of_decide_eq_true h'.1
theorem exK_s {b : Bn} {k : Nat} {T : lT} : exK b (k + 1) T = true ↔ lLen T ≤ 2 ^ (k + 1) ∧ ∃ g, g < lLen T ∧ (1 ≤ g ∧ foesIn b (lFold T g) = 0 ∧ exK b k (lFold T g) = true) := by
  show (decide (lLen T ≤ 2 ^ (k + 1)) && decide (∃ g, g < lLen T ∧ (1 ≤ g ∧ foesIn b (lFold T g) = 0 ∧ exK b k (lFold T g) = true))) = true ↔ _
  rw [Bool.and_eq_true, decide_eq_true_iff, decide_eq_true_iff]
theorem shrK_s {si : Nat → Option Nat} {r : Nat → Nat → Int32} {k : Nat} {T : lT} : shrK si r (k + 1) T = true ↔ lLen T = 1 ∨ (lLen T ≤ 2 ^ (k + 1) ∧ ∃ g, g < lLen T ∧ (1 ≤ g ∧ meetS si r T g = false ∧ shrK si r k (lFold T g) = true)) := by
  show (decide (lLen T = 1) || (decide (lLen T ≤ 2 ^ (k + 1)) && decide (∃ g, g < lLen T ∧ (1 ≤ g ∧ meetS si r T g = false ∧ shrK si r k (lFold T g) = true)))) = true ↔ _
  rw [Bool.or_eq_true, Bool.and_eq_true, decide_eq_true_iff, decide_eq_true_iff, decide_eq_true_iff]
theorem shr_of_ex {b : Bn} (hs : ∀ c o, b.r c o = b.r o c) : ∀ (j k : Nat) (T : lT), lOk b.n T → exK b j T = true → j ≤ k → shrK b.si b.r k T = true := by
  intro j
  induction j with
  | zero =>
    intro k T hT he hk
    have h1 : lLen T ≤ 1 := of_decide_eq_true he
    have h2 := hT.1
    cases k with
    | zero => exact decide_eq_true (by omega)
    | succ k => exact shrK_s.mpr (Or.inl (by omega))
  | succ j ih =>
    intro k T hT he hk
    obtain ⟨h1, g, g2, g1, g3, g4⟩ := exK_s.mp he
    cases k with
    | zero => omega
    | succ k =>
      have hT2 := lOk_fold hT g1 g2
      refine shrK_s.mpr (Or.inr ⟨Nat.le_trans h1 (Nat.pow_le_pow_right (by omega) (by omega)), g, g2, g1, ?_, ih k (lFold T g) hT2 g4 (by omega)⟩)
      exact ((ff_fold hs hT g1 g2).mp ((ff_iff hT2).mp g3)).2
theorem ex_of_shr {b : Bn} (hs : ∀ c o, b.r c o = b.r o c) : ∀ (k : Nat) (T : lT), lOk b.n T → foesIn b T = 0 → shrK b.si b.r k T = true → ∃ j, j ≤ k ∧ exK b j T = true := by
  intro k
  induction k with
  | zero =>
    intro T hT hf he
    have h1 : lLen T = 1 := of_decide_eq_true he
    exact ⟨0, Nat.le_refl _, decide_eq_true (by omega)⟩
  | succ k ih =>
    intro T hT hf he
    rcases shrK_s.mp he with h1 | ⟨h1, g, g2, g1, g3, g4⟩
    · exact ⟨0, Nat.zero_le _, decide_eq_true (by omega)⟩
    · have hT2 := lOk_fold hT g1 g2
      have hf2 : foesIn b (lFold T g) = 0 := (ff_iff hT2).mpr ((ff_fold hs hT g1 g2).mpr ⟨(ff_iff hT).mp hf, g3⟩)
      obtain ⟨j, j1, j2⟩ := ih (lFold T g) hT2 hf2 g4
      refine ⟨j + 1, by omega, exK_s.mpr ⟨?_, g, g2, g1, hf2, j2⟩⟩
      have hl := exK_len j2
      have hlen : lLen (lFold T g) = max g (lLen T - g) := rfl
      rw [Nat.pow_succ]
      omega
theorem fewF_no {p : Nat → Bool} : ∀ (j k : Nat), (∀ i, k ≤ i → p i = false) → fewF p j k = nM 6
  | 0, k, _ => rfl
  | j + 1, k, hp => by
    show (if p k = true then nI k else fewF p j (k + 1)) = nM 6
    rw [hp k (Nat.le_refl _), if_neg (by simp)]
    exact fewF_no j (k + 1) (fun i hi => hp i (by omega))
theorem fewF_eq {p q : Nat → Bool} (h1 : ∀ k, p k = true → q k = true) (h2 : ∀ k, q k = true → ∃ j, j ≤ k ∧ p j = true) : ∀ (j k : Nat), (∀ i, i < k → p i = false) → fewF p j k = fewF q j k
  | 0, k, _ => rfl
  | j + 1, k, hp => by
    show (if p k = true then nI k else fewF p j (k + 1)) = (if q k = true then nI k else fewF q j (k + 1))
    cases z : p k with
    | true => rw [h1 k z, if_pos rfl, if_pos rfl]
    | false =>
      have hp' : ∀ i, i < k + 1 → p i = false := fun i hi => by
        by_cases y : i = k
        · rw [y]
          exact z
        · exact hp i (by omega)
      have zq : q k = false := by
        cases y : q k with
        | false => rfl
        | true =>
          obtain ⟨i, i1, i2⟩ := h2 k y
          rw [hp' i (by omega)] at i2
          cases i2
      rw [zq, if_neg (by simp)]
      exact fewF_eq h1 h2 j (k + 1) hp'
theorem few_eq {b : Bn} (hX : BX b) : fewF (fun k => exK b k (BL b)) (6 - b.F) 0 = sFewest b := by
  have hl := BX_lok hX
  have hV := BX_V hX
  have hF5 : b.F ≤ 5 := hV.1.2.2.2.2.2
  have hs : ∀ c o, b.r c o = b.r o c := hV.2.2.2.2.1
  rw [show 6 - b.F = (5 - b.F) + 1 by omega]
  show (if exK b 0 (BL b) = true then nI 0 else fewF (fun k => exK b k (BL b)) (5 - b.F) (0 + 1)) = sFewest b
  unfold sFewest
  by_cases q : lLen (BL b) = 1
  · rw [if_pos q, if_pos (show exK b 0 (BL b) = true from decide_eq_true (by omega))]
  · have e0 : exK b 0 (BL b) = false := decide_eq_false (by omega)
    rw [if_neg q, e0, if_neg (by simp)]
    by_cases q2 : 0 < foesIn b (BL b)
    · rw [if_pos q2]
      refine fewF_no _ _ (fun i hi => ?_)
      cases i with
      | zero => omega
      | succ i =>
        cases z : exK b (i + 1) (BL b) with
        | false => rfl
        | true =>
          obtain ⟨h1, g, g2, g1, g3, g4⟩ := exK_s.mp z
          have hT2 := lOk_fold hl.1 g1 g2
          have := (ff_iff hl.1).mpr ((ff_fold hs hl.1 g1 g2).mp ((ff_iff hT2).mp g3)).1
          omega
    · rw [if_neg q2]
      refine fewF_eq (fun k hk => shr_of_ex hs k k (BL b) hl.1 hk (Nat.le_refl _)) (fun k hk => ex_of_shr hs k (BL b) hl.1 (by omega) hk) _ _ (fun i hi => ?_)
      rw [show i = 0 by omega]
      exact e0
