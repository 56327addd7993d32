/-! the first state -/
theorem upd_s (f : Nat → Int32) (k : Nat) (x : Int32) : upd f k x k = x := if_pos rfl
theorem upd_n (f : Nat → Int32) {k i : Nat} (x : Int32) (h : i ≠ k) : upd f k x i = f i := if_neg h
/-- what the cells hold behind the constructor -/
def wS : Nat → Nat → Int32 := fun c => if c = 6 ∨ (18 < c ∧ c < 72 ∧ c % 6 = 1) then fTa 3 else if c = 7 ∨ (18 < c ∧ c < 72 ∧ c % 6 = 2) then fNa 16 else if c = 72 then (fun _ => nI 8) else if c = 73 ∨ c = 75 ∨ c = 76 then fAa 8 else if c = 74 then fBa 8 else fz
theorem wS_4 : wS 4 = (fz) := rfl
theorem wS_5 : wS 5 = (fz) := rfl
theorem wS_6 : wS 6 = (fTa 3) := rfl
theorem wS_7 : wS 7 = (fNa 16) := rfl
theorem wS_8 : wS 8 = (fz) := rfl
theorem wS_9 : wS 9 = (fz) := rfl
theorem wS_10 : wS 10 = (fz) := rfl
theorem wS_13 : wS 13 = (fz) := rfl
theorem wS_15 : wS 15 = (fz) := rfl
theorem wS_16 : wS 16 = (fz) := rfl
theorem wS_17 : wS 17 = (fz) := rfl
theorem wS_18 : wS 18 = (fz) := rfl
theorem wS_19 : wS 19 = (fTa 3) := rfl
theorem wS_20 : wS 20 = (fNa 16) := rfl
theorem wS_21 : wS 21 = (fz) := rfl
theorem wS_22 : wS 22 = (fz) := rfl
theorem wS_23 : wS 23 = (fz) := rfl
theorem wS_24 : wS 24 = (fz) := rfl
theorem wS_25 : wS 25 = (fTa 3) := rfl
theorem wS_26 : wS 26 = (fNa 16) := rfl
theorem wS_27 : wS 27 = (fz) := rfl
theorem wS_28 : wS 28 = (fz) := rfl
theorem wS_29 : wS 29 = (fz) := rfl
theorem wS_30 : wS 30 = (fz) := rfl
theorem wS_31 : wS 31 = (fTa 3) := rfl
theorem wS_32 : wS 32 = (fNa 16) := rfl
theorem wS_33 : wS 33 = (fz) := rfl
theorem wS_34 : wS 34 = (fz) := rfl
theorem wS_35 : wS 35 = (fz) := rfl
theorem wS_36 : wS 36 = (fz) := rfl
theorem wS_37 : wS 37 = (fTa 3) := rfl
theorem wS_38 : wS 38 = (fNa 16) := rfl
theorem wS_39 : wS 39 = (fz) := rfl
theorem wS_40 : wS 40 = (fz) := rfl
theorem wS_41 : wS 41 = (fz) := rfl
theorem wS_42 : wS 42 = (fz) := rfl
theorem wS_43 : wS 43 = (fTa 3) := rfl
theorem wS_44 : wS 44 = (fNa 16) := rfl
theorem wS_45 : wS 45 = (fz) := rfl
theorem wS_46 : wS 46 = (fz) := rfl
theorem wS_47 : wS 47 = (fz) := rfl
theorem wS_48 : wS 48 = (fz) := rfl
theorem wS_49 : wS 49 = (fTa 3) := rfl
theorem wS_50 : wS 50 = (fNa 16) := rfl
theorem wS_51 : wS 51 = (fz) := rfl
theorem wS_52 : wS 52 = (fz) := rfl
theorem wS_53 : wS 53 = (fz) := rfl
theorem wS_54 : wS 54 = (fz) := rfl
theorem wS_55 : wS 55 = (fTa 3) := rfl
theorem wS_56 : wS 56 = (fNa 16) := rfl
theorem wS_57 : wS 57 = (fz) := rfl
theorem wS_58 : wS 58 = (fz) := rfl
theorem wS_59 : wS 59 = (fz) := rfl
theorem wS_60 : wS 60 = (fz) := rfl
theorem wS_61 : wS 61 = (fTa 3) := rfl
theorem wS_62 : wS 62 = (fNa 16) := rfl
theorem wS_63 : wS 63 = (fz) := rfl
theorem wS_64 : wS 64 = (fz) := rfl
theorem wS_65 : wS 65 = (fz) := rfl
theorem wS_66 : wS 66 = (fz) := rfl
theorem wS_67 : wS 67 = (fTa 3) := rfl
theorem wS_68 : wS 68 = (fNa 16) := rfl
theorem wS_69 : wS 69 = (fz) := rfl
theorem wS_70 : wS 70 = (fz) := rfl
theorem wS_71 : wS 71 = (fz) := rfl
theorem wS_72 : wS 72 = (fun _ => nI 8) := rfl
theorem wS_73 : wS 73 = (fAa 8) := rfl
theorem wS_74 : wS 74 = (fBa 8) := rfl
theorem wS_75 : wS 75 = (fAa 8) := rfl
theorem wS_76 : wS 76 = (fAa 8) := rfl
theorem wS_77 : wS 77 = (fz) := rfl
theorem wS_78 : wS 78 = (fz) := rfl
theorem wS_79 : wS 79 = (fz) := rfl
theorem wS_80 : wS 80 = (fz) := rfl
theorem wS_81 : wS 81 = (fz) := rfl
theorem wS_82 : wS 82 = (fz) := rfl
theorem wS_83 : wS 83 = (fz) := rfl
theorem wS_84 : wS 84 = (fz) := rfl
theorem wS_85 : wS 85 = (fz) := rfl
theorem wS_86 : wS 86 = (fz) := rfl
theorem wS_87 : wS 87 = (fz) := rfl
theorem wS_88 : wS 88 = (fz) := rfl
theorem wS_89 : wS 89 = (fz) := rfl
theorem wS_90 : wS 90 = (fz) := rfl
theorem wS_91 : wS 91 = (fz) := rfl
theorem wS_92 : wS 92 = (fz) := rfl
theorem wS_93 : wS 93 = (fz) := rfl
theorem wS_94 : wS 94 = (fz) := rfl
theorem wS_95 : wS 95 = (fz) := rfl
theorem wS_96 : wS 96 = (fz) := rfl
theorem wS_97 : wS 97 = (fz) := rfl
theorem wS_98 : wS 98 = (fz) := rfl
theorem wS_99 : wS 99 = (fz) := rfl
theorem wS_100 : wS 100 = (fz) := rfl
theorem wS_101 : wS 101 = (fz) := rfl
theorem r1_hp (L : Nat) (xs : Nat → Int32) : r1a L xs = hp L xs wS hH0 := by
  unfold hp
  simp only [wS_4, wS_5, wS_6, wS_7, wS_8, wS_9, wS_10, wS_13, wS_15, wS_16, wS_17, wS_18, wS_19, wS_20, wS_21, wS_22, wS_23, wS_24, wS_25, wS_26, wS_27, wS_28, wS_29, wS_30, wS_31, wS_32, wS_33, wS_34, wS_35, wS_36, wS_37, wS_38, wS_39, wS_40, wS_41, wS_42, wS_43, wS_44, wS_45, wS_46, wS_47, wS_48, wS_49, wS_50, wS_51, wS_52, wS_53, wS_54, wS_55, wS_56, wS_57, wS_58, wS_59, wS_60, wS_61, wS_62, wS_63, wS_64, wS_65, wS_66, wS_67, wS_68, wS_69, wS_70, wS_71, wS_72, wS_73, wS_74, wS_75, wS_76, wS_77, wS_78, wS_79, wS_80, wS_81, wS_82, wS_83, wS_84, wS_85, wS_86, wS_87, wS_88, wS_89, wS_90, wS_91, wS_92, wS_93, wS_94, wS_95, wS_96, wS_97, wS_98, wS_99, wS_100, wS_101]
  rfl
theorem r1_len (L : Nat) (xs : Nat → Int32) : (r1a L xs).length = 102 := rfl
theorem fN_k : ∀ k s, s < k → fNa k s = nM 6
  | 0, s, h => absurd h (Nat.not_lt_zero s)
  | k + 1, s, h => by
    show upd (fNa k) k (nM 6) s = nM 6
    by_cases z : s = k
    · rw [z, upd_s]
    · rw [upd_n _ _ z]
      exact fN_k k s (by omega)
theorem fA_k : ∀ k s, s < k → fAa k s = nI s
  | 0, s, h => absurd h (Nat.not_lt_zero s)
  | k + 1, s, h => by
    show upd (fAa k) k (nI k) s = nI s
    by_cases z : s = k
    · rw [z, upd_s]
    · rw [upd_n _ _ z]
      exact fA_k k s (by omega)
theorem fB_k : ∀ k s, s ≤ k → fBa k s = nI s
  | 0, s, h => by
    rw [show s = 0 by omega]
    rfl
  | k + 1, s, h => by
    show upd (fBa k) (k + 1) (nI (k + 1)) s = nI s
    by_cases z : s = k + 1
    · rw [z, upd_s]
    · rw [upd_n _ _ z]
      exact fB_k k s (by omega)
def b0a : Bn := mB 8 1 3 0 0 (fun _ => 0) (fun _ => none) (fun _ => none) (fun _ _ => nI 0)
def S0a : Ob := mO b0a 0 (fun _ => b0a) (fun _ => none) 0 (fun _ => 0)
theorem V0a : BVB b0a := ⟨⟨show 2 ≤ 8 by omega, show 8 ≤ 16 by omega, show 1 ≤ 5 by omega, show 3 ≤ 9 by omega, show 0 ≤ 12 by omega, show 0 ≤ 5 by omega⟩, fun s c => ⟨fun q => absurd (show (none : Option Nat) = some c from q) (by simp), fun q => absurd (show (none : Option Nat) = some s from q) (by simp)⟩, fun s c q => absurd (show (none : Option Nat) = some c from q) (by simp), fun c o => Or.inr (Or.inl rfl), fun c o => rfl, fun c o _ => rfl, fun k hk => absurd hk (Nat.not_lt_zero k)⟩
theorem hH0_i {i : Nat} (hi : i < 7) : hH0 i = some (18 + 6 * i) := by
  rcases (show i = 0 ∨ i = 1 ∨ i = 2 ∨ i = 3 ∨ i = 4 ∨ i = 5 ∨ i = 6 by omega) with rfl | rfl | rfl | rfl | rfl | rfl | rfl <;> rfl
theorem OI_first : OI wS hH0 S0a := by
  have z8 : ∀ c i : Nat, bt (fz c) i = false := fun c i => bt_0 i
  refine ⟨⟨V0a, ⟨⟨rfl, rfl, rfl⟩, fun s hs => fN_k 16 s hs, fun c hc => ⟨fun i hi => ?_, fun i hi => ?_⟩, fun k hk => absurd hk (Nat.not_lt_zero k), rfl, rfl⟩, fun f hf => ?_, fun f hf => ?_⟩, ⟨rfl, show 0 ≤ 6 by omega, ⟨fun i hi => ⟨18 + 6 * i, hH0_i hi, i, hi, rfl⟩, fun i j x hi hj h1 h2 => ?_⟩, fun i hi => absurd hi (Nat.not_lt_zero i)⟩, fun j hj => ⟨fun _ => ?_, fun B hB => absurd (show (none : Option Bn) = some B from hB) (by simp)⟩, ⟨⟨rfl, show 0 ≤ 80 by omega⟩, fun i hi => absurd hi (Nat.not_lt_zero i), fun i hi => absurd hi (Nat.not_lt_zero i)⟩⟩
  · show bt (wS 8 c) i = (decide (i < 12) && decide (nI 0 = nI 1))
    rw [wS_8, z8, decide_eq_false (show ¬ nI 0 = nI 1 by decide), Bool.and_false]
  · show bt (wS 9 c) i = (decide (i < 12) && decide (nI 0 = nM 1))
    rw [wS_9, z8, decide_eq_false (show ¬ nI 0 = nM 1 by decide), Bool.and_false]
  · have hf0 : f = 0 := by
      have : f ≤ 0 := hf
      omega
    subst hf0
    have s1 : ∀ c, sTo (fun _ => 1) c = c := sTo_one
    refine ⟨rfl, rfl, fun c hc => ?_, fun c k hck => ?_⟩
    · show wS 74 c = nI (sTo (fun _ => 1) c)
      rw [s1, wS_74]
      exact fB_k 8 c hc
    · show wS 73 (sTo (fun _ => 1) c + k) = nI c ∧ wS 75 c = nI c ∧ wS 76 c = nI (sTo (fun _ => 1) c + k)
      have hck' : c < 8 ∧ k < 1 := by
        rcases hck with ⟨q1, q2⟩ | ⟨q1, q2⟩
        · exact ⟨q1, q2⟩
        · exact absurd q2 (Nat.not_lt_zero k)
      have hk0 : k = 0 := by omega
      subst hk0
      rw [s1, wS_73, wS_75, wS_76, Nat.add_zero, fA_k 8 c hck'.1]
      exact ⟨rfl, rfl, rfl⟩
  · rcases (show f = 0 ∨ f = 1 ∨ f = 2 ∨ f = 3 ∨ f = 4 ∨ f = 5 by omega) with rfl | rfl | rfl | rfl | rfl | rfl <;> rfl
  · rw [hH0_i hi] at h1
    rw [hH0_i hj] at h2
    have e1 := Option.some.inj h1
    have e2 := Option.some.inj h2
    omega
  · show wS 13 j = nI 0
    rw [wS_13]
    rfl
