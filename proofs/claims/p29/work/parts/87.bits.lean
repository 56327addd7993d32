/-! what the questions answer, number by number and bit by bit -/
theorem b_askI (x : Int32) {n : Nat} (hn : n < 32) : (x >>> (nI n &&& nI 31)) &&& nI 1 = bI (bt x n) := by
  cases h : bt x n with
  | false => exact (bt_ask x hn).mpr h
  | true =>
    apply b_ext
    intro i hi
    show bt ((x >>> (nI n &&& nI 31)) &&& nI 1) i = bt (nI 1) i
    rw [b_and, bt_1 i hi]
    by_cases h0 : i = 0
    · subst h0
      rw [bt_sshr n hn x (by omega), if_pos (by omega), Nat.add_zero, h]
      rfl
    · rw [decide_eq_false h0, Bool.and_false]
theorem bt_relI (r : Nat → Nat → Int32) (c : Nat) (how : Int32) {i : Nat} (hi : i < 32) : bt (relI r c how) i = (decide (i < 12) && decide (r c i = how)) := by
  symm
  unfold relI
  by_cases z : i < 12
  · rw [bt_orS hi 12 (fun s c hs hc => by split at hc <;> cases hc; omega)]
    by_cases q : r c i = how
    · have : ∃ s, s < 12 ∧ (if r c s = how then some s else none) = some i := ⟨i, z, if_pos q⟩
      simp [z, q, this]
    · have : ¬ ∃ s, s < 12 ∧ (if r c s = how then some s else none) = some i := by
        rintro ⟨s, h1, h2⟩
        split at h2
        · cases h2
          contradiction
        · cases h2
      simp [z, q, this]
  · rw [bt_orS hi 12 (fun s c hs hc => by split at hc <;> cases hc; omega)]
    have : ¬ ∃ s, s < 12 ∧ (if r c s = how then some s else none) = some i := by
      rintro ⟨s, h1, h2⟩
      split at h2
      · cases h2
        omega
      · cases h2
    simp [z, this]
section ans
variable {b : Bn} {k : Nat}
theorem so_0 (hV : BVB b) (hk : k < b.m) : sOf b (nI k) (nI 0) = oI (b.st k) := by
  have hm := hV.1.2.2.2.2.1
  unfold sOf
  rw [idx_nI (by omega) (by omega), if_pos hk]
  simp (decide := true) only [if_true, if_false]
theorem so_1n (hV : BVB b) (hk : k < b.m) (e : b.st k = none) : sOf b (nI k) (nI 1) = nM 6 := by
  have hm := hV.1.2.2.2.2.1
  unfold sOf
  rw [idx_nI (by omega) (by omega), if_pos hk]
  simp (decide := true) only [if_true, if_false, e]
theorem so_1s (hV : BVB b) (hk : k < b.m) {s : Nat} (e : b.st k = some s) : sOf b (nI k) (nI 1) = nI (moodS b.n b.ne b.fa b.si b.r (BL b) s) := by
  have hm := hV.1.2.2.2.2.1
  unfold sOf
  rw [idx_nI (by omega) (by omega), if_pos hk]
  simp (decide := true) only [if_true, if_false, e]
theorem so_2 (hV : BVB b) (hk : k < b.m) : sOf b (nI k) (nI 2) = relI b.r k (nI 1) := by
  have hm := hV.1.2.2.2.2.1
  unfold sOf
  rw [idx_nI (by omega) (by omega), if_pos hk]
  simp (decide := true) only [if_true, if_false]
theorem so_3 (hV : BVB b) (hk : k < b.m) : sOf b (nI k) (nI 3) = relI b.r k (nM 1) := by
  have hm := hV.1.2.2.2.2.1
  unfold sOf
  rw [idx_nI (by omega) (by omega), if_pos hk]
  simp (decide := true) only [if_true, if_false]
theorem so_4n (hV : BVB b) (hk : k < b.m) (e : b.st k = none) : sOf b (nI k) (nI 4) = nI 0 := by
  have hm := hV.1.2.2.2.2.1
  unfold sOf
  rw [idx_nI (by omega) (by omega), if_pos hk]
  simp (decide := true) only [if_true, if_false, e]
theorem so_4s (hV : BVB b) (hk : k < b.m) {s : Nat} (e : b.st k = some s) : sOf b (nI k) (nI 4) = bitI (uL b.si s) ||| bitI (uR b.n b.si s) := by
  have hm := hV.1.2.2.2.2.1
  unfold sOf
  rw [idx_nI (by omega) (by omega), if_pos hk]
  simp (decide := true) only [if_true, if_false, e]
theorem so_5n (hV : BVB b) (hk : k < b.m) (e : b.st k = none) : sOf b (nI k) (nI 5) = nI 0 := by
  have hm := hV.1.2.2.2.2.1
  unfold sOf
  rw [idx_nI (by omega) (by omega), if_pos hk]
  simp (decide := true) only [if_true, if_false, e]
theorem so_5s (hV : BVB b) (hk : k < b.m) {s : Nat} (e : b.st k = some s) : sOf b (nI k) (nI 5) = bitI (uB b.si (BL b) s) ||| bitI (uA b.si (BL b) s) := by
  have hm := hV.1.2.2.2.2.1
  unfold sOf
  rw [idx_nI (by omega) (by omega), if_pos hk]
  simp (decide := true) only [if_true, if_false, e]
/-- the bit that a question about k answers of e -/
def BT (b : Bn) (k e : Nat) : Nat → Bool
  | 2 => decide (b.r k e = nI 1)
  | 3 => decide (b.r k e = nM 1)
  | 4 => nbB b k e
  | _ => fcB b k e
theorem BT_sym (hV : BVB b) (k e j : Nat) : BT b k e j = BT b e k j := by
  have hs : b.r e k = b.r k e := hV.2.2.2.2.1 e k
  unfold BT
  split
  · rw [hs]
  · rw [hs]
  · exact nb_sym k e
  · exact fc_sym k e
theorem so_bit (hV : BVB b) {e j : Nat} (h2 : 2 ≤ j) (h6 : j < 6) (hk : k < b.m) (he : e < b.m) : (sOf b (nI k) (nI j) >>> (nI e &&& nI 31)) &&& nI 1 = bI (BT b k e j) := by
  have hm := hV.1.2.2.2.2.1
  have v8 := hV.2.2.1
  rw [b_askI _ (show e < 32 by omega)]
  congr 1
  rcases (by omega : j = 2 ∨ j = 3 ∨ j = 4 ∨ j = 5) with rfl | rfl | rfl | rfl
  · rw [so_2 hV hk, bt_relI _ _ _ (by omega), decide_eq_true (show e < 12 by omega), Bool.true_and]
    rfl
  · rw [so_3 hV hk, bt_relI _ _ _ (by omega), decide_eq_true (show e < 12 by omega), Bool.true_and]
    rfl
  · show _ = nbB b k e
    cases e1 : b.st k with
    | none => rw [so_4n hV hk e1, bt_0, nb_none e1]
    | some s =>
      rw [so_4s hV hk e1, b_or, bt_bitI (fun c hc => ?_) (by omega), bt_bitI (fun c hc => ?_) (by omega)]
      · exact nb_eq hV e1
      · unfold uR at hc
        split at hc
        · have := (v8 _ c hc).2
          omega
        · cases hc
      · unfold uL at hc
        split at hc
        · cases hc
        · have := (v8 _ c hc).2
          omega
  · show _ = fcB b k e
    cases e1 : b.st k with
    | none => rw [so_5n hV hk e1, bt_0, fc_none e1 hV]
    | some s =>
      rw [so_5s hV hk e1, b_or, bt_bitI (fun c hc => ?_) (by omega), bt_bitI (fun c hc => ?_) (by omega)]
      · exact fc_eq hV e1
      · unfold uA at hc
        obtain ⟨t, -, h4⟩ := Option.bind_eq_some_iff.mp hc
        have := (v8 _ c h4).2
        omega
      · unfold uB at hc
        obtain ⟨t, -, h4⟩ := Option.bind_eq_some_iff.mp hc
        have := (v8 _ c h4).2
        omega
theorem rel_apart (r : Nat → Nat → Int32) (c : Nat) : relI r c (nI 1) &&& relI r c (nM 1) = nI 0 := by
  apply b_ext
  intro i hi
  rw [b_and, bt_relI _ _ _ hi, bt_relI _ _ _ hi, bt_0]
  by_cases q : r c i = nI 1
  · rw [q, show decide (nI 1 = nM 1) = false from rfl, Bool.and_false, Bool.and_false]
  · rw [decide_eq_false q, Bool.and_false, Bool.false_and]
theorem rel_self {r : Nat → Nat → Int32} (hr : ∀ c, r c c = nI 0) {c : Nat} (hc : c < 32) : ((relI r c (nI 1) ||| relI r c (nM 1)) >>> (nI c &&& nI 31)) &&& nI 1 = nI 0 := by
  rw [b_askI _ hc, b_or, bt_relI _ _ _ hc, bt_relI _ _ _ hc, hr c, show decide (nI 0 = nI 1) = false from rfl, show decide (nI 0 = nM 1) = false from rfl, Bool.and_false, Bool.or_false]
  rfl
theorem pA_3 (b : Bn) (k e : Nat) : pA b (nM 1) k e = if (BT b k e 5 && BT b k e 3) = true then 1 else 0 := by
  unfold pA
  show _ = if (fcB b k e && decide (b.r k e = nM 1)) = true then 1 else 0
  simp only [Bool.and_eq_true, decide_eq_true_eq]
theorem pA_2 (b : Bn) (k e : Nat) : pA b (nI 1) k e = if (BT b k e 5 && BT b k e 2) = true then 1 else 0 := by
  unfold pA
  show _ = if (fcB b k e && decide (b.r k e = nI 1)) = true then 1 else 0
  simp only [Bool.and_eq_true, decide_eq_true_eq]
theorem sl_in (hV : BVB b) {d i : Nat} (hd : d < lLen (BL b)) (hi : i < lHg (BL b) d) : sColumn b (nI d) (nI i) = nI (lAt (BL b) d i) := by
  have hT := BV_lok hV
  have hn := hV.1.2.1
  have h1 := hT.2.1
  have h2 := lHg_le hT hd
  unfold sColumn
  rw [idx_nI (by omega) (by omega), if_pos hd]
  dsimp only
  rw [idx_nI (by omega) (by omega), if_pos hi]
theorem sl_out (hV : BVB b) {d : Nat} (hd : d < lLen (BL b)) : sColumn b (nI d) (nI (lHg (BL b) d)) = nM 1 := by
  have hT := BV_lok hV
  have hn := hV.1.2.1
  have h1 := hT.2.1
  have h2 := lHg_le hT hd
  unfold sColumn
  rw [idx_nI (by omega) (by omega), if_pos hd]
  dsimp only
  rw [idx_nI (by omega) (by omega), if_neg (Nat.lt_irrefl _)]
theorem ss_1 (hV : BVB b) {s : Nat} (hs : s < b.n) : sOfSeat b (nI s) (nI 1) = nI (lCo (BL b) s) := by
  have hn := hV.1.2.1
  unfold sOfSeat
  rw [idx_nI (by omega) (by omega), if_pos hs]
  simp (decide := true) only [if_true, if_false]
theorem ss_2 (hV : BVB b) {s : Nat} (hs : s < b.n) : sOfSeat b (nI s) (nI 2) = nI (lRk (BL b) s) := by
  have hn := hV.1.2.1
  unfold sOfSeat
  rw [idx_nI (by omega) (by omega), if_pos hs]
  simp (decide := true) only [if_true, if_false]
theorem ss_3 (hV : BVB b) {s : Nat} (hs : s < b.n) : sOfSeat b (nI s) (nI 3) = oI (lBelow (BL b) s) := by
  have hn := hV.1.2.1
  unfold sOfSeat
  rw [idx_nI (by omega) (by omega), if_pos hs]
  simp (decide := true) only [if_true, if_false]
theorem ss_4 (hV : BVB b) {s : Nat} (hs : s < b.n) : sOfSeat b (nI s) (nI 4) = oI (lAbove (BL b) s) := by
  have hn := hV.1.2.1
  unfold sOfSeat
  rw [idx_nI (by omega) (by omega), if_pos hs]
  simp (decide := true) only [if_true, if_false]
theorem few_ne {p : Nat → Bool} : ∀ (j k : Nat), 1 ≤ k → k + j < 1000 → ¬ fewF p j k = nI 0
  | 0, k, _, _ => by
    show ¬ nM 6 = nI 0
    decide
  | j + 1, k, h1, h2 => by
    show ¬ (if p k = true then nI k else fewF p j (k + 1)) = nI 0
    split
    · rw [aEq (by omega) (by omega)]
      omega
    · exact few_ne j (k + 1) (by omega) (by omega)
theorem few_0 (b : Bn) (hF : b.F ≤ 5) : (sFewest b = nI 0) ↔ lLen (BL b) = 1 := by
  unfold sFewest
  by_cases z : lLen (BL b) = 1
  · rw [if_pos z]
    exact ⟨fun _ => z, fun _ => rfl⟩
  · rw [if_neg z]
    refine ⟨fun q => ?_, fun q => absurd q z⟩
    split at q
    · exact absurd q (by decide)
    · exact absurd q (few_ne _ _ (Nat.le_refl _) (by omega))
end ans
