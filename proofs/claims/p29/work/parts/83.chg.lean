/-! a change, of any kind: refused, nothing is changed; else what it answers is no error -/
/-- nobody is a friend or foe of his own -/
def IRr (b : Bn) : Prop := ∀ c, b.r c c = nI 0
theorem BV_lok {b : Bn} (hV : BVB b) : lOk b.n (BL b) := by
  obtain ⟨⟨v1, v2, v3, v4, v5, v6⟩, v7, v8, v9, v10, v11, v12⟩ := hV
  exact lOk_lay (by omega) b.F v12
/-- refused, or it answers no error (what sit answers: one more, -6) -/
def okC (b : Bn) (x : Int32 × Bn) : Prop := (x.1 < nI 0 ∧ x.1 ≠ nM 6 ∧ x.2 = b) ∨ ((∃ k, k < 2147483648 ∧ x.1 = nI k) ∧ IRr x.2)
theorem bad {b : Bn} {k : Nat} (h : k = 1 ∨ k = 2 ∨ k = 4 ∨ k = 5) : okC b (nM k, b) := by
  rcases h with rfl | rfl | rfl | rfl
  · exact Or.inl ⟨by show nM 1 < nI 0; decide, by show nM 1 ≠ nM 6; decide, rfl⟩
  · exact Or.inl ⟨by show nM 2 < nI 0; decide, by show nM 2 ≠ nM 6; decide, rfl⟩
  · exact Or.inl ⟨by show nM 4 < nI 0; decide, by show nM 4 ≠ nM 6; decide, rfl⟩
  · exact Or.inl ⟨by show nM 5 < nI 0; decide, by show nM 5 ≠ nM 6; decide, rfl⟩
theorem ok_set {b : Bn} (hV : BVB b) (hr : IRr b) (s v : Int32) : okC b (sSet b s v) := by
  obtain ⟨⟨v1, v2, v3, v4, v5, v6⟩, -⟩ := hV
  unfold sSet
  by_cases h0 : s = nI 0
  · rw [if_pos h0]
    cases idx v 17 with
    | none => exact bad (by decide)
    | some k =>
      dsimp only
      split
      · exact bad (by decide)
      · split
        · exact bad (by decide)
        · exact Or.inr ⟨⟨b.n, by omega, rfl⟩, hr⟩
  · rw [if_neg h0]
    by_cases h1 : s = nI 1
    · rw [if_pos h1]
      cases idx v 6 with
      | none => exact bad (by decide)
      | some k => exact Or.inr ⟨⟨b.ne, by omega, rfl⟩, hr⟩
    · rw [if_neg h1]
      by_cases h2 : s = nI 2
      · rw [if_pos h2]
        cases idx v 10 with
        | none => exact bad (by decide)
        | some k => exact Or.inr ⟨⟨b.fa, by omega, rfl⟩, hr⟩
      · rw [if_neg h2]
        exact bad (by decide)
theorem ok_come {b : Bn} (hV : BVB b) (hr : IRr b) : okC b (sCome b) := by
  obtain ⟨⟨v1, v2, v3, v4, v5, v6⟩, -⟩ := hV
  unfold sCome
  split
  · exact bad (by decide)
  · exact Or.inr ⟨⟨_, by omega, rfl⟩, hr⟩
theorem ok_up {b : Bn} (hV : BVB b) (hr : IRr b) (c : Int32) : okC b (sUp b c) := by
  obtain ⟨⟨v1, v2, v3, v4, v5, v6⟩, v7, v8, -⟩ := hV
  unfold sUp
  split
  · exact bad (by decide)
  · split
    · exact bad (by decide)
    · rename_i c' _ _ s e
      have := (v8 s c' ((v7 s c').mpr e)).1
      split
      · exact bad (by decide)
      · exact Or.inr ⟨⟨_, by omega, rfl⟩, hr⟩
theorem one_le (o : Option Nat) : one o ≤ 1 := by
  cases o with
  | none => exact Nat.zero_le _
  | some _ => exact Nat.le_refl _
theorem ok_swap {b : Bn} (hr : IRr b) (s t : Int32) : okC b (sSwap b s t) := by
  unfold sSwap
  split
  · rename_i s' t' e1 e2
    have h1 := one_le (b.si s')
    have h2 := one_le (b.si t')
    split
    · exact bad (by decide)
    · split
      · exact bad (by decide)
      · exact Or.inr ⟨⟨_, by omega, rfl⟩, hr⟩
  · exact bad (by decide)
theorem ok_tell {b : Bn} (hV : BVB b) (hr : IRr b) (c o how : Int32) : okC b (sTell b c o how) := by
  have h3 : r3 b.r := hV.2.2.2.1
  unfold sTell
  split
  · rename_i c' o' e1 e2
    split
    · exact bad (by decide)
    · rename_i q
      refine Or.inr ⟨?_, fun d => ?_⟩
      · rcases h3 c' o' with z | z | z
        · exact ⟨2, by omega, by show b.r c' o' + nI 1 = nI 2; rw [z]; decide⟩
        · exact ⟨1, by omega, by show b.r c' o' + nI 1 = nI 1; rw [z]; decide⟩
        · exact ⟨0, by omega, by show b.r c' o' + nI 1 = nI 0; rw [z]; decide⟩
      · show r1 (r1 b.r c' o' how) o' c' how d d = nI 0
        have hne : c' ≠ o' := fun z => q (Or.inl z)
        unfold r1
        rw [if_neg (fun z => hne (z.2.symm.trans z.1)), if_neg (fun z => hne (z.1.symm.trans z.2))]
        exact hr d
  · exact bad (by decide)
theorem ok_fold {b : Bn} (hV : BVB b) (hr : IRr b) (x : Int32) : okC b (sFold b x) := by
  have hT := BV_lok hV
  have hn := hV.1.2.1
  have hl : lLen (BL b) < 1000 := by have := hT.2.1; omega
  unfold sFold
  split
  · exact bad (by decide)
  · rename_i g e
    obtain ⟨g1, g2, -⟩ := gapOf_some hl e
    have h2 := (lOk_fold hT g1 g2).2.1
    split
    · exact bad (by decide)
    · split
      · exact bad (by decide)
      · exact Or.inr ⟨⟨_, by omega, rfl⟩, hr⟩
theorem ok_press {b : Bn} (hV : BVB b) (hr : IRr b) (x : Int32) : okC b (sPress b x) := by
  have hn := hV.1.2.1
  unfold sPress
  split
  · exact bad (by decide)
  · rename_i g e
    have h2 := foesIn_le b (lFold (BL b) g)
    split
    · exact bad (by decide)
    · exact Or.inr ⟨⟨_, by omega, rfl⟩, hr⟩
theorem ok_unfold {b : Bn} (hV : BVB b) (hr : IRr b) : okC b (sUnfold b) := by
  obtain ⟨⟨v1, v2, v3, v4, v5, v6⟩, v7, v8, v9, v10, v11, v12⟩ := hV
  unfold sUnfold
  split
  · exact bad (by decide)
  · rename_i q
    have h1 := (v12 (b.F - 1) (by omega)).2
    have h2 : lOk b.n (lay b.n b.g (b.F - 1)) := lOk_lay (by omega) (b.F - 1) (fun k hk => v12 k (by omega))
    have h3 := h2.2.1
    exact Or.inr ⟨⟨_, by omega, rfl⟩, hr⟩
theorem ok_sit {b : Bn} (hV : BVB b) (hr : IRr b) (c s : Int32) : okC b (sSit b c s) ∨ ((sSit b c s).1 = nM 6 ∧ IRr (sSit b c s).2) := by
  obtain ⟨⟨v1, v2, v3, v4, v5, v6⟩, v7, v8, -⟩ := hV
  unfold sSit
  split
  · rename_i c' s' e1 e2
    split
    · exact Or.inl (bad (by decide))
    · cases e3 : b.st c' with
      | none => exact Or.inr ⟨rfl, hr⟩
      | some t =>
        have := (v8 t c' ((v7 t c').mpr e3)).1
        exact Or.inl (Or.inr ⟨⟨t, by omega, rfl⟩, hr⟩)
  · exact Or.inl (bad (by decide))
/-- the kind of a turn's call -/
def aJ (v : Int32) : Nat := v.toBitVec.toNat % 2 ^ 4
theorem aJ_lt (v : Int32) : aJ v < 16 := Nat.mod_lt _ (by decide)
/-- the change that a turn asks for: what it answers, the bench behind it -/
def aChg (b B0 : Bn) (v w : Int32) : Nat → Int32 × Bn
  | 0 => sSet b (nI (lowN w 3)) (nI (lowN (w >>> (nI 2 &&& nI 31)) 18))
  | 1 => sCome b
  | 2 => sCome b
  | 3 => sSit b (nI (lowN (v >>> (nI 4 &&& nI 31)) (b.m + 1))) (nI (lowN w (b.n + 1)))
  | 4 => sSit b (nI (lowN (v >>> (nI 4 &&& nI 31)) (b.m + 1))) (nI (lowN w (b.n + 1)))
  | 5 => sSit b (nI (lowN (v >>> (nI 4 &&& nI 31)) (b.m + 1))) (nI (lowN w (b.n + 1)))
  | 6 => if w &&& nI 3 = nI 0 then sUp b (nI (lowN (v >>> (nI 4 &&& nI 31)) (b.m + 1))) else sSwap b (nI (lowN (w >>> (nI 2 &&& nI 31)) b.n)) (nI (lowN (w >>> (nI 6 &&& nI 31)) b.n))
  | 7 => sTell b (nI (lowN (v >>> (nI 4 &&& nI 31)) (b.m + 1))) (nI (lowN w (b.m + 1))) (nI (lowN (w >>> (nI 4 &&& nI 31)) 4) - nI 1)
  | 8 => sTell b (nI (lowN (v >>> (nI 4 &&& nI 31)) (b.m + 1))) (nI (lowN w (b.m + 1))) (nI (lowN (w >>> (nI 4 &&& nI 31)) 4) - nI 1)
  | 9 => sUnfold b
  | 10 => sUnfold b
  | 11 => sPress b (nI (lowN w (lLen (BL b))))
  | 12 => if w &&& nI 3 = nI 0 then (nI B0.m, B0) else sUnfold b
  | _ => sFold b (nI (lowN w (lLen (BL b) + 1)))
def aSit (j : Nat) : Bool := j == 3 || (j == 4 || j == 5)
/-- what the turn tells of it -/
def aAns (j : Nat) (x : Int32) : Int32 := if aSit j = true ∧ x = nM 6 then nI 99 else x
theorem ok_chg {b B0 : Bn} (hV : BVB b) (hr : IRr b) (hV0 : BVB B0) (hr0 : IRr B0) (v w : Int32) (j : Nat) : okC b (aChg b B0 v w j) ∨ (aSit j = true ∧ (aChg b B0 v w j).1 = nM 6 ∧ IRr (aChg b B0 v w j).2) := by
  have hm0 := hV0.1.2.2.2.2.1
  match j with
  | 0 => exact Or.inl (ok_set hV hr _ _)
  | 1 => exact Or.inl (ok_come hV hr)
  | 2 => exact Or.inl (ok_come hV hr)
  | 3 => exact (ok_sit hV hr _ _).imp id (fun q => ⟨rfl, q⟩)
  | 4 => exact (ok_sit hV hr _ _).imp id (fun q => ⟨rfl, q⟩)
  | 5 => exact (ok_sit hV hr _ _).imp id (fun q => ⟨rfl, q⟩)
  | 6 =>
    left
    show okC b (if w &&& nI 3 = nI 0 then sUp b _ else sSwap b _ _)
    split
    · exact ok_up hV hr _
    · exact ok_swap hr _ _
  | 7 => exact Or.inl (ok_tell hV hr _ _ _)
  | 8 => exact Or.inl (ok_tell hV hr _ _ _)
  | 9 => exact Or.inl (ok_unfold hV hr)
  | 10 => exact Or.inl (ok_unfold hV hr)
  | 11 => exact Or.inl (ok_press hV hr _)
  | 12 =>
    left
    show okC b (if w &&& nI 3 = nI 0 then (nI B0.m, B0) else sUnfold b)
    split
    · exact Or.inr ⟨⟨_, by omega, rfl⟩, hr0⟩
    · exact ok_unfold hV hr
  | j + 13 => exact Or.inl (ok_fold hV hr _)
/-- a turn is refused, and nothing is changed; or it tells of no error, and is recorded -/
theorem chg_two {b B0 : Bn} (hV : BVB b) (hr : IRr b) (hV0 : BVB B0) (hr0 : IRr B0) (v w : Int32) (j : Nat) : (aAns j (aChg b B0 v w j).1 < nI 0 ∧ errI (aChg b B0 v w j).1 = true ∧ (aChg b B0 v w j).2 = b) ∨ (¬ aAns j (aChg b B0 v w j).1 < nI 0 ∧ errI (aChg b B0 v w j).1 = false ∧ IRr (aChg b B0 v w j).2) := by
  rcases ok_chg hV hr hV0 hr0 v w j with (⟨h1, h2, h3⟩ | ⟨⟨k, h1, h2⟩, h3⟩) | ⟨h1, h2, h3⟩
  · left
    refine ⟨?_, ?_, h3⟩
    · unfold aAns
      rw [if_neg (fun z => h2 z.2)]
      exact h1
    · unfold errI
      rw [decide_eq_true h1, decide_eq_false h2]
      rfl
  · right
    have hk : ¬ nI k < nI 0 := nI_pos h1
    have h6 : ¬ nI k = nM 6 := by rw [aNe (by omega) (by omega) (by omega)]; exact id
    refine ⟨?_, ?_, h3⟩
    · unfold aAns
      rw [h2, if_neg (fun z => h6 z.2)]
      exact hk
    · unfold errI
      rw [h2, decide_eq_false hk]
      rfl
  · right
    refine ⟨?_, ?_, h3⟩
    · unfold aAns
      rw [if_pos ⟨h1, h2⟩]
      decide
    · rw [h2]
      decide
