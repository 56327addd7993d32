/-! the heap behind the two constructors -/
def hSl : Nat → Option Nat := va_up (va_up (fun _ => none) 0 (some 60)) 1 (some 66)
def hLs : Nat → Option Nat := va_up (va_up (va_up (va_up (va_up (va_up (fun _ => none) 0 (some 72)) 1 (some 77)) 2 (some 82)) 3 (some 87)) 4 (some 92)) 5 (some 97)
def hH0 : Nat → Option Nat := va_up (va_up (va_up (va_up (va_up (va_up (va_up (fun _ => none) 0 (some 18)) 1 (some 24)) 2 (some 30)) 3 (some 36)) 4 (some 42)) 5 (some 48)) 6 (some 54)
def hp (L : Nat) (xs : Nat → Int32) (w : Nat → Nat → Int32) (h : Nat → Option Nat) : pH := [.inl (0, p_rot L xs 0),
  .inl (0, p_rot L xs 1),
  .inl (0, p_rot L xs 2),
  .inl (0, p_rot L xs 3),
  .inr (.inr (4, [.ref 5, .ref 11, .int (w 4 2), .ref 12, .ref 13, .ref 14, .ref 15, .ref 16])),
  .inr (.inr (3, [.ref 6, .ref 7, .ref 8, .ref 9, .ref 10, .int (w 5 5), .int (w 5 6)])),
  .inl (0, 3, w 6),
  .inl (0, 16, w 7),
  .inl (0, 12, w 8),
  .inl (0, 12, w 9),
  .inl (0, 5, w 10),
  .inr (.inl (3, 7, h)),
  .inr (.inl (3, 2, hSl)),
  .inl (1, 2, w 13),
  .inr (.inl (2, 6, hLs)),
  .inr (.inr (1, [.ref 16, .int (w 15 1), .int (w 15 2), .int (w 15 3), .int (w 15 4), .int (w 15 5)])),
  .inr (.inr (2, [.ref 17, .int (w 16 1)])),
  .inl (0, 80, w 17),
  .inr (.inr (3, [.ref 19, .ref 20, .ref 21, .ref 22, .ref 23, .int (w 18 5), .int (w 18 6)])),
  .inl (0, 3, w 19),
  .inl (0, 16, w 20),
  .inl (0, 12, w 21),
  .inl (0, 12, w 22),
  .inl (0, 5, w 23),
  .inr (.inr (3, [.ref 25, .ref 26, .ref 27, .ref 28, .ref 29, .int (w 24 5), .int (w 24 6)])),
  .inl (0, 3, w 25),
  .inl (0, 16, w 26),
  .inl (0, 12, w 27),
  .inl (0, 12, w 28),
  .inl (0, 5, w 29),
  .inr (.inr (3, [.ref 31, .ref 32, .ref 33, .ref 34, .ref 35, .int (w 30 5), .int (w 30 6)])),
  .inl (0, 3, w 31),
  .inl (0, 16, w 32),
  .inl (0, 12, w 33),
  .inl (0, 12, w 34),
  .inl (0, 5, w 35),
  .inr (.inr (3, [.ref 37, .ref 38, .ref 39, .ref 40, .ref 41, .int (w 36 5), .int (w 36 6)])),
  .inl (0, 3, w 37),
  .inl (0, 16, w 38),
  .inl (0, 12, w 39),
  .inl (0, 12, w 40),
  .inl (0, 5, w 41),
  .inr (.inr (3, [.ref 43, .ref 44, .ref 45, .ref 46, .ref 47, .int (w 42 5), .int (w 42 6)])),
  .inl (0, 3, w 43),
  .inl (0, 16, w 44),
  .inl (0, 12, w 45),
  .inl (0, 12, w 46),
  .inl (0, 5, w 47),
  .inr (.inr (3, [.ref 49, .ref 50, .ref 51, .ref 52, .ref 53, .int (w 48 5), .int (w 48 6)])),
  .inl (0, 3, w 49),
  .inl (0, 16, w 50),
  .inl (0, 12, w 51),
  .inl (0, 12, w 52),
  .inl (0, 5, w 53),
  .inr (.inr (3, [.ref 55, .ref 56, .ref 57, .ref 58, .ref 59, .int (w 54 5), .int (w 54 6)])),
  .inl (0, 3, w 55),
  .inl (0, 16, w 56),
  .inl (0, 12, w 57),
  .inl (0, 12, w 58),
  .inl (0, 5, w 59),
  .inr (.inr (3, [.ref 61, .ref 62, .ref 63, .ref 64, .ref 65, .int (w 60 5), .int (w 60 6)])),
  .inl (0, 3, w 61),
  .inl (0, 16, w 62),
  .inl (0, 12, w 63),
  .inl (0, 12, w 64),
  .inl (0, 5, w 65),
  .inr (.inr (3, [.ref 67, .ref 68, .ref 69, .ref 70, .ref 71, .int (w 66 5), .int (w 66 6)])),
  .inl (0, 3, w 67),
  .inl (0, 16, w 68),
  .inl (0, 12, w 69),
  .inl (0, 12, w 70),
  .inl (0, 5, w 71),
  .inr (.inr (0, [.int (w 72 0), .int (w 72 1), .ref 73, .ref 74, .ref 75, .ref 76])),
  .inl (0, 16, w 73),
  .inl (0, 17, w 74),
  .inl (0, 16, w 75),
  .inl (0, 16, w 76),
  .inr (.inr (0, [.int (w 77 0), .int (w 77 1), .ref 78, .ref 79, .ref 80, .ref 81])),
  .inl (0, 16, w 78),
  .inl (0, 17, w 79),
  .inl (0, 16, w 80),
  .inl (0, 16, w 81),
  .inr (.inr (0, [.int (w 82 0), .int (w 82 1), .ref 83, .ref 84, .ref 85, .ref 86])),
  .inl (0, 16, w 83),
  .inl (0, 17, w 84),
  .inl (0, 16, w 85),
  .inl (0, 16, w 86),
  .inr (.inr (0, [.int (w 87 0), .int (w 87 1), .ref 88, .ref 89, .ref 90, .ref 91])),
  .inl (0, 16, w 88),
  .inl (0, 17, w 89),
  .inl (0, 16, w 90),
  .inl (0, 16, w 91),
  .inr (.inr (0, [.int (w 92 0), .int (w 92 1), .ref 93, .ref 94, .ref 95, .ref 96])),
  .inl (0, 16, w 93),
  .inl (0, 17, w 94),
  .inl (0, 16, w 95),
  .inl (0, 16, w 96),
  .inr (.inr (0, [.int (w 97 0), .int (w 97 1), .ref 98, .ref 99, .ref 100, .ref 101])),
  .inl (0, 16, w 98),
  .inl (0, 17, w 99),
  .inl (0, 16, w 100),
  .inl (0, 16, w 101)]
def mSet (w : Nat → Nat → Int32) (a : Nat) (f : Nat → Int32) : Nat → Nat → Int32 := fun b => if b = a then f else w b
abbrev mUp (w : Nat → Nat → Int32) (a k : Nat) (x : Int32) : Nat → Nat → Int32 := mSet w a (upd (w a) k x)
theorem mSet_s (w : Nat → Nat → Int32) (a : Nat) (f : Nat → Int32) : mSet w a f a = f := if_pos rfl
theorem mSet_n (w : Nat → Nat → Int32) {a b : Nat} (f : Nat → Int32) (h : b ≠ a) : mSet w a f b = w b := if_neg h
theorem nI_cl {j n : Nat} (h : j < n) (hn : n ≤ 2000) : ¬ (nI j < 0 ∨ n ≤ (nI j).toNatClampNeg) := by
  have h1 : j < 2 ^ 31 := by omega
  rw [nI_clamp h1]
  rintro (q | q)
  · exact nI_pos h1 q
  · omega
theorem p_ld_at {σ : pH} {kd a n j : Nat} {f : Nat → Int32} (h : σ[a]? = some (.inl (kd, n, f))) (hj : j < n) (hn : n ≤ 2000) : p_ld σ kd a (nI j) = some (f j) := by
  unfold p_ld
  rw [h]
  show (if kd = kd ∧ ¬ (nI j < 0 ∨ n ≤ (nI j).toNatClampNeg) then some (f (nI j).toNatClampNeg) else none) = _
  rw [if_pos ⟨rfl, nI_cl hj hn⟩, nI_clamp (by omega)]
theorem p_st_at {σ : pH} {kd a n j : Nat} {f : Nat → Int32} (x : Int32) (h : σ[a]? = some (.inl (kd, n, f))) (h4 : 4 ≤ a) (hj : j < n) (hn : n ≤ 2000) : p_st σ kd a (nI j) x = some (σ.set a (.inl (kd, n, upd f j x))) := by
  unfold p_st
  rw [h]
  show (if kd = kd ∧ 4 ≤ a ∧ ¬ (nI j < 0 ∨ n ≤ (nI j).toNatClampNeg) then some (σ.set a (.inl (kd, n, upd f (nI j).toNatClampNeg x))) else none) = _
  rw [if_pos ⟨rfl, h4, nI_cl hj hn⟩, nI_clamp (by omega)]
theorem p_ldR_at {σ : pH} {kd a n j b : Nat} {f : Nat → Option Nat} (h : σ[a]? = some (.inr (.inl (kd, n, f)))) (hk : kd = 2 ∨ kd = 3) (hj : j < n) (hn : n ≤ 2000) (hf : f j = some b) : p_ldR σ a (nI j) = some b := by
  unfold p_ldR
  rw [h]
  show (if (kd = 2 ∨ kd = 3) ∧ ¬ (nI j < 0 ∨ n ≤ (nI j).toNatClampNeg) then f (nI j).toNatClampNeg else none) = _
  rw [if_pos ⟨hk, nI_cl hj hn⟩, nI_clamp (by omega), hf]
theorem p_gI_at {σ : pH} {ci a k : Nat} {fs : List Value} {x : Int32} (h : σ[a]? = some (.inr (.inr (ci, fs)))) (hk : fs[k]? = some (.int x)) : p_gI σ ci a k = some x := by
  unfold p_gI
  rw [h]
  show (if ci = ci then (match fs[k]? with | some (.int x) => some x | _ => none) else none) = _
  rw [if_pos rfl, hk]
theorem p_gR_at {σ : pH} {ci a k : Nat} {fs : List Value} {x : Nat} (h : σ[a]? = some (.inr (.inr (ci, fs)))) (hk : fs[k]? = some (.ref x)) : p_gR σ ci a k = some x := by
  unfold p_gR
  rw [h]
  show (if ci = ci then (match fs[k]? with | some (.ref x) => some x | _ => none) else none) = _
  rw [if_pos rfl, hk]
theorem p_put_at {σ : pH} {ci a k : Nat} {fs : List Value} (v : Value) (h : σ[a]? = some (.inr (.inr (ci, fs)))) (hk : k < fs.length) : p_put σ ci a k v = some (σ.set a (.inr (.inr (ci, fs.set k v)))) := by
  unfold p_put
  rw [h]
  show (if ci = ci ∧ k < fs.length then some (σ.set a (.inr (.inr (ci, fs.set k v)))) else none) = _
  rw [if_pos ⟨rfl, hk⟩]
theorem p_recv_at {σ : pH} {ci a : Nat} {fs : List Value} (as : List Value) (h : σ[a]? = some (.inr (.inr (ci, fs)))) : p_recv σ ci (.ref a :: as) = true := by
  show p_isO σ ci a = true
  unfold p_isO
  rw [h]
  exact decide_eq_true rfl
section mem
variable (L : Nat) (xs : Nat → Int32) (w : Nat → Nat → Int32) (h : Nat → Option Nat)
theorem g_0 : (hp L xs w h)[0]? = some (.inl (0, p_rot L xs 0)) := rfl
theorem ld_0 (j : Nat) (hj : j < 3) : p_ld (hp L xs w h) 0 0 (nI j) = some ((p_rot L xs 0).2 j) := p_ld_at (g_0 L xs w h) hj (by decide)
theorem g_1 : (hp L xs w h)[1]? = some (.inl (0, p_rot L xs 1)) := rfl
theorem ld_1 (j : Nat) (hj : j < 3) : p_ld (hp L xs w h) 0 1 (nI j) = some ((p_rot L xs 1).2 j) := p_ld_at (g_1 L xs w h) hj (by decide)
theorem g_2 : (hp L xs w h)[2]? = some (.inl (0, p_rot L xs 2)) := rfl
theorem ld_2 (j : Nat) (hj : j < 3) : p_ld (hp L xs w h) 0 2 (nI j) = some ((p_rot L xs 2).2 j) := p_ld_at (g_2 L xs w h) hj (by decide)
theorem g_3 : (hp L xs w h)[3]? = some (.inl (0, p_rot L xs 3)) := rfl
theorem g_4 : (hp L xs w h)[4]? = some (.inr (.inr (4, [.ref 5, .ref 11, .int (w 4 2), .ref 12, .ref 13, .ref 14, .ref 15, .ref 16]))) := rfl
theorem rv_4 (as : List Value) : p_recv (hp L xs w h) 4 (.ref 4 :: as) = true := p_recv_at as (g_4 L xs w h)
theorem gR_4_0 : p_gR (hp L xs w h) 4 4 0 = some 5 := p_gR_at (g_4 L xs w h) rfl
theorem gR_4_1 : p_gR (hp L xs w h) 4 4 1 = some 11 := p_gR_at (g_4 L xs w h) rfl
theorem gI_4_2 : p_gI (hp L xs w h) 4 4 2 = some (w 4 2) := p_gI_at (g_4 L xs w h) rfl
theorem pt_4_2 (x : Int32) : p_put (hp L xs w h) 4 4 2 (.int x) = some (hp L xs (mUp w 4 2 x) h) := (p_put_at (.int x) (g_4 L xs w h) (show 2 < 8 by decide)).trans (congrArg some rfl)
theorem gR_4_3 : p_gR (hp L xs w h) 4 4 3 = some 12 := p_gR_at (g_4 L xs w h) rfl
theorem gR_4_4 : p_gR (hp L xs w h) 4 4 4 = some 13 := p_gR_at (g_4 L xs w h) rfl
theorem gR_4_5 : p_gR (hp L xs w h) 4 4 5 = some 14 := p_gR_at (g_4 L xs w h) rfl
theorem gR_4_6 : p_gR (hp L xs w h) 4 4 6 = some 15 := p_gR_at (g_4 L xs w h) rfl
theorem gR_4_7 : p_gR (hp L xs w h) 4 4 7 = some 16 := p_gR_at (g_4 L xs w h) rfl
theorem g_5 : (hp L xs w h)[5]? = some (.inr (.inr (3, [.ref 6, .ref 7, .ref 8, .ref 9, .ref 10, .int (w 5 5), .int (w 5 6)]))) := rfl
theorem rv_5 (as : List Value) : p_recv (hp L xs w h) 3 (.ref 5 :: as) = true := p_recv_at as (g_5 L xs w h)
theorem gR_5_0 : p_gR (hp L xs w h) 3 5 0 = some 6 := p_gR_at (g_5 L xs w h) rfl
theorem gR_5_1 : p_gR (hp L xs w h) 3 5 1 = some 7 := p_gR_at (g_5 L xs w h) rfl
theorem gR_5_2 : p_gR (hp L xs w h) 3 5 2 = some 8 := p_gR_at (g_5 L xs w h) rfl
theorem gR_5_3 : p_gR (hp L xs w h) 3 5 3 = some 9 := p_gR_at (g_5 L xs w h) rfl
theorem gR_5_4 : p_gR (hp L xs w h) 3 5 4 = some 10 := p_gR_at (g_5 L xs w h) rfl
theorem gI_5_5 : p_gI (hp L xs w h) 3 5 5 = some (w 5 5) := p_gI_at (g_5 L xs w h) rfl
theorem pt_5_5 (x : Int32) : p_put (hp L xs w h) 3 5 5 (.int x) = some (hp L xs (mUp w 5 5 x) h) := (p_put_at (.int x) (g_5 L xs w h) (show 5 < 7 by decide)).trans (congrArg some rfl)
theorem gI_5_6 : p_gI (hp L xs w h) 3 5 6 = some (w 5 6) := p_gI_at (g_5 L xs w h) rfl
theorem pt_5_6 (x : Int32) : p_put (hp L xs w h) 3 5 6 (.int x) = some (hp L xs (mUp w 5 6 x) h) := (p_put_at (.int x) (g_5 L xs w h) (show 6 < 7 by decide)).trans (congrArg some rfl)
theorem g_6 : (hp L xs w h)[6]? = some (.inl (0, 3, w 6)) := rfl
theorem z_6 (f : Nat → Int32) : (hp L xs w h).set 6 (.inl (0, 3, f)) = hp L xs (mSet w 6 f) h := rfl
theorem ld_6 (j : Nat) (hj : j < 3) : p_ld (hp L xs w h) 0 6 (nI j) = some (w 6 j) := p_ld_at (g_6 L xs w h) hj (by decide)
theorem st_6 (j : Nat) (x : Int32) (hj : j < 3) : p_st (hp L xs w h) 0 6 (nI j) x = some (hp L xs (mUp w 6 j x) h) := (p_st_at x (g_6 L xs w h) (by decide) hj (by decide)).trans (congrArg some (z_6 L xs w h _))
theorem g_7 : (hp L xs w h)[7]? = some (.inl (0, 16, w 7)) := rfl
theorem z_7 (f : Nat → Int32) : (hp L xs w h).set 7 (.inl (0, 16, f)) = hp L xs (mSet w 7 f) h := rfl
theorem ld_7 (j : Nat) (hj : j < 16) : p_ld (hp L xs w h) 0 7 (nI j) = some (w 7 j) := p_ld_at (g_7 L xs w h) hj (by decide)
theorem st_7 (j : Nat) (x : Int32) (hj : j < 16) : p_st (hp L xs w h) 0 7 (nI j) x = some (hp L xs (mUp w 7 j x) h) := (p_st_at x (g_7 L xs w h) (by decide) hj (by decide)).trans (congrArg some (z_7 L xs w h _))
theorem g_8 : (hp L xs w h)[8]? = some (.inl (0, 12, w 8)) := rfl
theorem z_8 (f : Nat → Int32) : (hp L xs w h).set 8 (.inl (0, 12, f)) = hp L xs (mSet w 8 f) h := rfl
theorem ld_8 (j : Nat) (hj : j < 12) : p_ld (hp L xs w h) 0 8 (nI j) = some (w 8 j) := p_ld_at (g_8 L xs w h) hj (by decide)
theorem st_8 (j : Nat) (x : Int32) (hj : j < 12) : p_st (hp L xs w h) 0 8 (nI j) x = some (hp L xs (mUp w 8 j x) h) := (p_st_at x (g_8 L xs w h) (by decide) hj (by decide)).trans (congrArg some (z_8 L xs w h _))
theorem g_9 : (hp L xs w h)[9]? = some (.inl (0, 12, w 9)) := rfl
theorem z_9 (f : Nat → Int32) : (hp L xs w h).set 9 (.inl (0, 12, f)) = hp L xs (mSet w 9 f) h := rfl
theorem ld_9 (j : Nat) (hj : j < 12) : p_ld (hp L xs w h) 0 9 (nI j) = some (w 9 j) := p_ld_at (g_9 L xs w h) hj (by decide)
theorem st_9 (j : Nat) (x : Int32) (hj : j < 12) : p_st (hp L xs w h) 0 9 (nI j) x = some (hp L xs (mUp w 9 j x) h) := (p_st_at x (g_9 L xs w h) (by decide) hj (by decide)).trans (congrArg some (z_9 L xs w h _))
theorem g_10 : (hp L xs w h)[10]? = some (.inl (0, 5, w 10)) := rfl
theorem z_10 (f : Nat → Int32) : (hp L xs w h).set 10 (.inl (0, 5, f)) = hp L xs (mSet w 10 f) h := rfl
theorem ld_10 (j : Nat) (hj : j < 5) : p_ld (hp L xs w h) 0 10 (nI j) = some (w 10 j) := p_ld_at (g_10 L xs w h) hj (by decide)
theorem st_10 (j : Nat) (x : Int32) (hj : j < 5) : p_st (hp L xs w h) 0 10 (nI j) x = some (hp L xs (mUp w 10 j x) h) := (p_st_at x (g_10 L xs w h) (by decide) hj (by decide)).trans (congrArg some (z_10 L xs w h _))
theorem g_11 : (hp L xs w h)[11]? = some (.inr (.inl (3, 7, h))) := rfl
theorem g_12 : (hp L xs w h)[12]? = some (.inr (.inl (3, 2, hSl))) := rfl
theorem g_13 : (hp L xs w h)[13]? = some (.inl (1, 2, w 13)) := rfl
theorem z_13 (f : Nat → Int32) : (hp L xs w h).set 13 (.inl (1, 2, f)) = hp L xs (mSet w 13 f) h := rfl
theorem ld_13 (j : Nat) (hj : j < 2) : p_ld (hp L xs w h) 1 13 (nI j) = some (w 13 j) := p_ld_at (g_13 L xs w h) hj (by decide)
theorem st_13 (j : Nat) (x : Int32) (hj : j < 2) : p_st (hp L xs w h) 1 13 (nI j) x = some (hp L xs (mUp w 13 j x) h) := (p_st_at x (g_13 L xs w h) (by decide) hj (by decide)).trans (congrArg some (z_13 L xs w h _))
theorem g_14 : (hp L xs w h)[14]? = some (.inr (.inl (2, 6, hLs))) := rfl
theorem g_15 : (hp L xs w h)[15]? = some (.inr (.inr (1, [.ref 16, .int (w 15 1), .int (w 15 2), .int (w 15 3), .int (w 15 4), .int (w 15 5)]))) := rfl
theorem rv_15 (as : List Value) : p_recv (hp L xs w h) 1 (.ref 15 :: as) = true := p_recv_at as (g_15 L xs w h)
theorem gR_15_0 : p_gR (hp L xs w h) 1 15 0 = some 16 := p_gR_at (g_15 L xs w h) rfl
theorem gI_15_1 : p_gI (hp L xs w h) 1 15 1 = some (w 15 1) := p_gI_at (g_15 L xs w h) rfl
theorem pt_15_1 (x : Int32) : p_put (hp L xs w h) 1 15 1 (.int x) = some (hp L xs (mUp w 15 1 x) h) := (p_put_at (.int x) (g_15 L xs w h) (show 1 < 6 by decide)).trans (congrArg some rfl)
theorem gI_15_2 : p_gI (hp L xs w h) 1 15 2 = some (w 15 2) := p_gI_at (g_15 L xs w h) rfl
theorem pt_15_2 (x : Int32) : p_put (hp L xs w h) 1 15 2 (.int x) = some (hp L xs (mUp w 15 2 x) h) := (p_put_at (.int x) (g_15 L xs w h) (show 2 < 6 by decide)).trans (congrArg some rfl)
theorem gI_15_3 : p_gI (hp L xs w h) 1 15 3 = some (w 15 3) := p_gI_at (g_15 L xs w h) rfl
theorem pt_15_3 (x : Int32) : p_put (hp L xs w h) 1 15 3 (.int x) = some (hp L xs (mUp w 15 3 x) h) := (p_put_at (.int x) (g_15 L xs w h) (show 3 < 6 by decide)).trans (congrArg some rfl)
theorem gI_15_4 : p_gI (hp L xs w h) 1 15 4 = some (w 15 4) := p_gI_at (g_15 L xs w h) rfl
theorem pt_15_4 (x : Int32) : p_put (hp L xs w h) 1 15 4 (.int x) = some (hp L xs (mUp w 15 4 x) h) := (p_put_at (.int x) (g_15 L xs w h) (show 4 < 6 by decide)).trans (congrArg some rfl)
theorem gI_15_5 : p_gI (hp L xs w h) 1 15 5 = some (w 15 5) := p_gI_at (g_15 L xs w h) rfl
theorem pt_15_5 (x : Int32) : p_put (hp L xs w h) 1 15 5 (.int x) = some (hp L xs (mUp w 15 5 x) h) := (p_put_at (.int x) (g_15 L xs w h) (show 5 < 6 by decide)).trans (congrArg some rfl)
theorem g_16 : (hp L xs w h)[16]? = some (.inr (.inr (2, [.ref 17, .int (w 16 1)]))) := rfl
theorem rv_16 (as : List Value) : p_recv (hp L xs w h) 2 (.ref 16 :: as) = true := p_recv_at as (g_16 L xs w h)
theorem gR_16_0 : p_gR (hp L xs w h) 2 16 0 = some 17 := p_gR_at (g_16 L xs w h) rfl
theorem gI_16_1 : p_gI (hp L xs w h) 2 16 1 = some (w 16 1) := p_gI_at (g_16 L xs w h) rfl
theorem pt_16_1 (x : Int32) : p_put (hp L xs w h) 2 16 1 (.int x) = some (hp L xs (mUp w 16 1 x) h) := (p_put_at (.int x) (g_16 L xs w h) (show 1 < 2 by decide)).trans (congrArg some rfl)
theorem g_17 : (hp L xs w h)[17]? = some (.inl (0, 80, w 17)) := rfl
theorem z_17 (f : Nat → Int32) : (hp L xs w h).set 17 (.inl (0, 80, f)) = hp L xs (mSet w 17 f) h := rfl
theorem ld_17 (j : Nat) (hj : j < 80) : p_ld (hp L xs w h) 0 17 (nI j) = some (w 17 j) := p_ld_at (g_17 L xs w h) hj (by decide)
theorem st_17 (j : Nat) (x : Int32) (hj : j < 80) : p_st (hp L xs w h) 0 17 (nI j) x = some (hp L xs (mUp w 17 j x) h) := (p_st_at x (g_17 L xs w h) (by decide) hj (by decide)).trans (congrArg some (z_17 L xs w h _))
theorem g_18 : (hp L xs w h)[18]? = some (.inr (.inr (3, [.ref 19, .ref 20, .ref 21, .ref 22, .ref 23, .int (w 18 5), .int (w 18 6)]))) := rfl
theorem rv_18 (as : List Value) : p_recv (hp L xs w h) 3 (.ref 18 :: as) = true := p_recv_at as (g_18 L xs w h)
theorem gR_18_0 : p_gR (hp L xs w h) 3 18 0 = some 19 := p_gR_at (g_18 L xs w h) rfl
theorem gR_18_1 : p_gR (hp L xs w h) 3 18 1 = some 20 := p_gR_at (g_18 L xs w h) rfl
theorem gR_18_2 : p_gR (hp L xs w h) 3 18 2 = some 21 := p_gR_at (g_18 L xs w h) rfl
theorem gR_18_3 : p_gR (hp L xs w h) 3 18 3 = some 22 := p_gR_at (g_18 L xs w h) rfl
theorem gR_18_4 : p_gR (hp L xs w h) 3 18 4 = some 23 := p_gR_at (g_18 L xs w h) rfl
theorem gI_18_5 : p_gI (hp L xs w h) 3 18 5 = some (w 18 5) := p_gI_at (g_18 L xs w h) rfl
theorem pt_18_5 (x : Int32) : p_put (hp L xs w h) 3 18 5 (.int x) = some (hp L xs (mUp w 18 5 x) h) := (p_put_at (.int x) (g_18 L xs w h) (show 5 < 7 by decide)).trans (congrArg some rfl)
theorem gI_18_6 : p_gI (hp L xs w h) 3 18 6 = some (w 18 6) := p_gI_at (g_18 L xs w h) rfl
theorem pt_18_6 (x : Int32) : p_put (hp L xs w h) 3 18 6 (.int x) = some (hp L xs (mUp w 18 6 x) h) := (p_put_at (.int x) (g_18 L xs w h) (show 6 < 7 by decide)).trans (congrArg some rfl)
theorem g_19 : (hp L xs w h)[19]? = some (.inl (0, 3, w 19)) := rfl
theorem z_19 (f : Nat → Int32) : (hp L xs w h).set 19 (.inl (0, 3, f)) = hp L xs (mSet w 19 f) h := rfl
theorem ld_19 (j : Nat) (hj : j < 3) : p_ld (hp L xs w h) 0 19 (nI j) = some (w 19 j) := p_ld_at (g_19 L xs w h) hj (by decide)
theorem st_19 (j : Nat) (x : Int32) (hj : j < 3) : p_st (hp L xs w h) 0 19 (nI j) x = some (hp L xs (mUp w 19 j x) h) := (p_st_at x (g_19 L xs w h) (by decide) hj (by decide)).trans (congrArg some (z_19 L xs w h _))
theorem g_20 : (hp L xs w h)[20]? = some (.inl (0, 16, w 20)) := rfl
theorem z_20 (f : Nat → Int32) : (hp L xs w h).set 20 (.inl (0, 16, f)) = hp L xs (mSet w 20 f) h := rfl
theorem ld_20 (j : Nat) (hj : j < 16) : p_ld (hp L xs w h) 0 20 (nI j) = some (w 20 j) := p_ld_at (g_20 L xs w h) hj (by decide)
theorem st_20 (j : Nat) (x : Int32) (hj : j < 16) : p_st (hp L xs w h) 0 20 (nI j) x = some (hp L xs (mUp w 20 j x) h) := (p_st_at x (g_20 L xs w h) (by decide) hj (by decide)).trans (congrArg some (z_20 L xs w h _))
theorem g_21 : (hp L xs w h)[21]? = some (.inl (0, 12, w 21)) := rfl
theorem z_21 (f : Nat → Int32) : (hp L xs w h).set 21 (.inl (0, 12, f)) = hp L xs (mSet w 21 f) h := rfl
theorem ld_21 (j : Nat) (hj : j < 12) : p_ld (hp L xs w h) 0 21 (nI j) = some (w 21 j) := p_ld_at (g_21 L xs w h) hj (by decide)
theorem st_21 (j : Nat) (x : Int32) (hj : j < 12) : p_st (hp L xs w h) 0 21 (nI j) x = some (hp L xs (mUp w 21 j x) h) := (p_st_at x (g_21 L xs w h) (by decide) hj (by decide)).trans (congrArg some (z_21 L xs w h _))
theorem g_22 : (hp L xs w h)[22]? = some (.inl (0, 12, w 22)) := rfl
theorem z_22 (f : Nat → Int32) : (hp L xs w h).set 22 (.inl (0, 12, f)) = hp L xs (mSet w 22 f) h := rfl
theorem ld_22 (j : Nat) (hj : j < 12) : p_ld (hp L xs w h) 0 22 (nI j) = some (w 22 j) := p_ld_at (g_22 L xs w h) hj (by decide)
theorem st_22 (j : Nat) (x : Int32) (hj : j < 12) : p_st (hp L xs w h) 0 22 (nI j) x = some (hp L xs (mUp w 22 j x) h) := (p_st_at x (g_22 L xs w h) (by decide) hj (by decide)).trans (congrArg some (z_22 L xs w h _))
theorem g_23 : (hp L xs w h)[23]? = some (.inl (0, 5, w 23)) := rfl
theorem z_23 (f : Nat → Int32) : (hp L xs w h).set 23 (.inl (0, 5, f)) = hp L xs (mSet w 23 f) h := rfl
theorem ld_23 (j : Nat) (hj : j < 5) : p_ld (hp L xs w h) 0 23 (nI j) = some (w 23 j) := p_ld_at (g_23 L xs w h) hj (by decide)
theorem st_23 (j : Nat) (x : Int32) (hj : j < 5) : p_st (hp L xs w h) 0 23 (nI j) x = some (hp L xs (mUp w 23 j x) h) := (p_st_at x (g_23 L xs w h) (by decide) hj (by decide)).trans (congrArg some (z_23 L xs w h _))
theorem g_24 : (hp L xs w h)[24]? = some (.inr (.inr (3, [.ref 25, .ref 26, .ref 27, .ref 28, .ref 29, .int (w 24 5), .int (w 24 6)]))) := rfl
theorem rv_24 (as : List Value) : p_recv (hp L xs w h) 3 (.ref 24 :: as) = true := p_recv_at as (g_24 L xs w h)
theorem gR_24_0 : p_gR (hp L xs w h) 3 24 0 = some 25 := p_gR_at (g_24 L xs w h) rfl
theorem gR_24_1 : p_gR (hp L xs w h) 3 24 1 = some 26 := p_gR_at (g_24 L xs w h) rfl
theorem gR_24_2 : p_gR (hp L xs w h) 3 24 2 = some 27 := p_gR_at (g_24 L xs w h) rfl
theorem gR_24_3 : p_gR (hp L xs w h) 3 24 3 = some 28 := p_gR_at (g_24 L xs w h) rfl
theorem gR_24_4 : p_gR (hp L xs w h) 3 24 4 = some 29 := p_gR_at (g_24 L xs w h) rfl
theorem gI_24_5 : p_gI (hp L xs w h) 3 24 5 = some (w 24 5) := p_gI_at (g_24 L xs w h) rfl
theorem pt_24_5 (x : Int32) : p_put (hp L xs w h) 3 24 5 (.int x) = some (hp L xs (mUp w 24 5 x) h) := (p_put_at (.int x) (g_24 L xs w h) (show 5 < 7 by decide)).trans (congrArg some rfl)
theorem gI_24_6 : p_gI (hp L xs w h) 3 24 6 = some (w 24 6) := p_gI_at (g_24 L xs w h) rfl
theorem pt_24_6 (x : Int32) : p_put (hp L xs w h) 3 24 6 (.int x) = some (hp L xs (mUp w 24 6 x) h) := (p_put_at (.int x) (g_24 L xs w h) (show 6 < 7 by decide)).trans (congrArg some rfl)
theorem g_25 : (hp L xs w h)[25]? = some (.inl (0, 3, w 25)) := rfl
theorem z_25 (f : Nat → Int32) : (hp L xs w h).set 25 (.inl (0, 3, f)) = hp L xs (mSet w 25 f) h := rfl
theorem ld_25 (j : Nat) (hj : j < 3) : p_ld (hp L xs w h) 0 25 (nI j) = some (w 25 j) := p_ld_at (g_25 L xs w h) hj (by decide)
theorem st_25 (j : Nat) (x : Int32) (hj : j < 3) : p_st (hp L xs w h) 0 25 (nI j) x = some (hp L xs (mUp w 25 j x) h) := (p_st_at x (g_25 L xs w h) (by decide) hj (by decide)).trans (congrArg some (z_25 L xs w h _))
theorem g_26 : (hp L xs w h)[26]? = some (.inl (0, 16, w 26)) := rfl
theorem z_26 (f : Nat → Int32) : (hp L xs w h).set 26 (.inl (0, 16, f)) = hp L xs (mSet w 26 f) h := rfl
theorem ld_26 (j : Nat) (hj : j < 16) : p_ld (hp L xs w h) 0 26 (nI j) = some (w 26 j) := p_ld_at (g_26 L xs w h) hj (by decide)
theorem st_26 (j : Nat) (x : Int32) (hj : j < 16) : p_st (hp L xs w h) 0 26 (nI j) x = some (hp L xs (mUp w 26 j x) h) := (p_st_at x (g_26 L xs w h) (by decide) hj (by decide)).trans (congrArg some (z_26 L xs w h _))
theorem g_27 : (hp L xs w h)[27]? = some (.inl (0, 12, w 27)) := rfl
theorem z_27 (f : Nat → Int32) : (hp L xs w h).set 27 (.inl (0, 12, f)) = hp L xs (mSet w 27 f) h := rfl
theorem ld_27 (j : Nat) (hj : j < 12) : p_ld (hp L xs w h) 0 27 (nI j) = some (w 27 j) := p_ld_at (g_27 L xs w h) hj (by decide)
theorem st_27 (j : Nat) (x : Int32) (hj : j < 12) : p_st (hp L xs w h) 0 27 (nI j) x = some (hp L xs (mUp w 27 j x) h) := (p_st_at x (g_27 L xs w h) (by decide) hj (by decide)).trans (congrArg some (z_27 L xs w h _))
theorem g_28 : (hp L xs w h)[28]? = some (.inl (0, 12, w 28)) := rfl
theorem z_28 (f : Nat → Int32) : (hp L xs w h).set 28 (.inl (0, 12, f)) = hp L xs (mSet w 28 f) h := rfl
theorem ld_28 (j : Nat) (hj : j < 12) : p_ld (hp L xs w h) 0 28 (nI j) = some (w 28 j) := p_ld_at (g_28 L xs w h) hj (by decide)
theorem st_28 (j : Nat) (x : Int32) (hj : j < 12) : p_st (hp L xs w h) 0 28 (nI j) x = some (hp L xs (mUp w 28 j x) h) := (p_st_at x (g_28 L xs w h) (by decide) hj (by decide)).trans (congrArg some (z_28 L xs w h _))
theorem g_29 : (hp L xs w h)[29]? = some (.inl (0, 5, w 29)) := rfl
theorem z_29 (f : Nat → Int32) : (hp L xs w h).set 29 (.inl (0, 5, f)) = hp L xs (mSet w 29 f) h := rfl
theorem ld_29 (j : Nat) (hj : j < 5) : p_ld (hp L xs w h) 0 29 (nI j) = some (w 29 j) := p_ld_at (g_29 L xs w h) hj (by decide)
theorem st_29 (j : Nat) (x : Int32) (hj : j < 5) : p_st (hp L xs w h) 0 29 (nI j) x = some (hp L xs (mUp w 29 j x) h) := (p_st_at x (g_29 L xs w h) (by decide) hj (by decide)).trans (congrArg some (z_29 L xs w h _))
theorem g_30 : (hp L xs w h)[30]? = some (.inr (.inr (3, [.ref 31, .ref 32, .ref 33, .ref 34, .ref 35, .int (w 30 5), .int (w 30 6)]))) := rfl
theorem rv_30 (as : List Value) : p_recv (hp L xs w h) 3 (.ref 30 :: as) = true := p_recv_at as (g_30 L xs w h)
theorem gR_30_0 : p_gR (hp L xs w h) 3 30 0 = some 31 := p_gR_at (g_30 L xs w h) rfl
theorem gR_30_1 : p_gR (hp L xs w h) 3 30 1 = some 32 := p_gR_at (g_30 L xs w h) rfl
theorem gR_30_2 : p_gR (hp L xs w h) 3 30 2 = some 33 := p_gR_at (g_30 L xs w h) rfl
theorem gR_30_3 : p_gR (hp L xs w h) 3 30 3 = some 34 := p_gR_at (g_30 L xs w h) rfl
theorem gR_30_4 : p_gR (hp L xs w h) 3 30 4 = some 35 := p_gR_at (g_30 L xs w h) rfl
theorem gI_30_5 : p_gI (hp L xs w h) 3 30 5 = some (w 30 5) := p_gI_at (g_30 L xs w h) rfl
theorem pt_30_5 (x : Int32) : p_put (hp L xs w h) 3 30 5 (.int x) = some (hp L xs (mUp w 30 5 x) h) := (p_put_at (.int x) (g_30 L xs w h) (show 5 < 7 by decide)).trans (congrArg some rfl)
theorem gI_30_6 : p_gI (hp L xs w h) 3 30 6 = some (w 30 6) := p_gI_at (g_30 L xs w h) rfl
theorem pt_30_6 (x : Int32) : p_put (hp L xs w h) 3 30 6 (.int x) = some (hp L xs (mUp w 30 6 x) h) := (p_put_at (.int x) (g_30 L xs w h) (show 6 < 7 by decide)).trans (congrArg some rfl)
theorem g_31 : (hp L xs w h)[31]? = some (.inl (0, 3, w 31)) := rfl
theorem z_31 (f : Nat → Int32) : (hp L xs w h).set 31 (.inl (0, 3, f)) = hp L xs (mSet w 31 f) h := rfl
theorem ld_31 (j : Nat) (hj : j < 3) : p_ld (hp L xs w h) 0 31 (nI j) = some (w 31 j) := p_ld_at (g_31 L xs w h) hj (by decide)
theorem st_31 (j : Nat) (x : Int32) (hj : j < 3) : p_st (hp L xs w h) 0 31 (nI j) x = some (hp L xs (mUp w 31 j x) h) := (p_st_at x (g_31 L xs w h) (by decide) hj (by decide)).trans (congrArg some (z_31 L xs w h _))
theorem g_32 : (hp L xs w h)[32]? = some (.inl (0, 16, w 32)) := rfl
theorem z_32 (f : Nat → Int32) : (hp L xs w h).set 32 (.inl (0, 16, f)) = hp L xs (mSet w 32 f) h := rfl
theorem ld_32 (j : Nat) (hj : j < 16) : p_ld (hp L xs w h) 0 32 (nI j) = some (w 32 j) := p_ld_at (g_32 L xs w h) hj (by decide)
theorem st_32 (j : Nat) (x : Int32) (hj : j < 16) : p_st (hp L xs w h) 0 32 (nI j) x = some (hp L xs (mUp w 32 j x) h) := (p_st_at x (g_32 L xs w h) (by decide) hj (by decide)).trans (congrArg some (z_32 L xs w h _))
theorem g_33 : (hp L xs w h)[33]? = some (.inl (0, 12, w 33)) := rfl
theorem z_33 (f : Nat → Int32) : (hp L xs w h).set 33 (.inl (0, 12, f)) = hp L xs (mSet w 33 f) h := rfl
theorem ld_33 (j : Nat) (hj : j < 12) : p_ld (hp L xs w h) 0 33 (nI j) = some (w 33 j) := p_ld_at (g_33 L xs w h) hj (by decide)
theorem st_33 (j : Nat) (x : Int32) (hj : j < 12) : p_st (hp L xs w h) 0 33 (nI j) x = some (hp L xs (mUp w 33 j x) h) := (p_st_at x (g_33 L xs w h) (by decide) hj (by decide)).trans (congrArg some (z_33 L xs w h _))
theorem g_34 : (hp L xs w h)[34]? = some (.inl (0, 12, w 34)) := rfl
theorem z_34 (f : Nat → Int32) : (hp L xs w h).set 34 (.inl (0, 12, f)) = hp L xs (mSet w 34 f) h := rfl
theorem ld_34 (j : Nat) (hj : j < 12) : p_ld (hp L xs w h) 0 34 (nI j) = some (w 34 j) := p_ld_at (g_34 L xs w h) hj (by decide)
theorem st_34 (j : Nat) (x : Int32) (hj : j < 12) : p_st (hp L xs w h) 0 34 (nI j) x = some (hp L xs (mUp w 34 j x) h) := (p_st_at x (g_34 L xs w h) (by decide) hj (by decide)).trans (congrArg some (z_34 L xs w h _))
theorem g_35 : (hp L xs w h)[35]? = some (.inl (0, 5, w 35)) := rfl
theorem z_35 (f : Nat → Int32) : (hp L xs w h).set 35 (.inl (0, 5, f)) = hp L xs (mSet w 35 f) h := rfl
theorem ld_35 (j : Nat) (hj : j < 5) : p_ld (hp L xs w h) 0 35 (nI j) = some (w 35 j) := p_ld_at (g_35 L xs w h) hj (by decide)
theorem st_35 (j : Nat) (x : Int32) (hj : j < 5) : p_st (hp L xs w h) 0 35 (nI j) x = some (hp L xs (mUp w 35 j x) h) := (p_st_at x (g_35 L xs w h) (by decide) hj (by decide)).trans (congrArg some (z_35 L xs w h _))
theorem g_36 : (hp L xs w h)[36]? = some (.inr (.inr (3, [.ref 37, .ref 38, .ref 39, .ref 40, .ref 41, .int (w 36 5), .int (w 36 6)]))) := rfl
theorem rv_36 (as : List Value) : p_recv (hp L xs w h) 3 (.ref 36 :: as) = true := p_recv_at as (g_36 L xs w h)
theorem gR_36_0 : p_gR (hp L xs w h) 3 36 0 = some 37 := p_gR_at (g_36 L xs w h) rfl
theorem gR_36_1 : p_gR (hp L xs w h) 3 36 1 = some 38 := p_gR_at (g_36 L xs w h) rfl
theorem gR_36_2 : p_gR (hp L xs w h) 3 36 2 = some 39 := p_gR_at (g_36 L xs w h) rfl
theorem gR_36_3 : p_gR (hp L xs w h) 3 36 3 = some 40 := p_gR_at (g_36 L xs w h) rfl
theorem gR_36_4 : p_gR (hp L xs w h) 3 36 4 = some 41 := p_gR_at (g_36 L xs w h) rfl
theorem gI_36_5 : p_gI (hp L xs w h) 3 36 5 = some (w 36 5) := p_gI_at (g_36 L xs w h) rfl
theorem pt_36_5 (x : Int32) : p_put (hp L xs w h) 3 36 5 (.int x) = some (hp L xs (mUp w 36 5 x) h) := (p_put_at (.int x) (g_36 L xs w h) (show 5 < 7 by decide)).trans (congrArg some rfl)
theorem gI_36_6 : p_gI (hp L xs w h) 3 36 6 = some (w 36 6) := p_gI_at (g_36 L xs w h) rfl
theorem pt_36_6 (x : Int32) : p_put (hp L xs w h) 3 36 6 (.int x) = some (hp L xs (mUp w 36 6 x) h) := (p_put_at (.int x) (g_36 L xs w h) (show 6 < 7 by decide)).trans (congrArg some rfl)
theorem g_37 : (hp L xs w h)[37]? = some (.inl (0, 3, w 37)) := rfl
theorem z_37 (f : Nat → Int32) : (hp L xs w h).set 37 (.inl (0, 3, f)) = hp L xs (mSet w 37 f) h := rfl
theorem ld_37 (j : Nat) (hj : j < 3) : p_ld (hp L xs w h) 0 37 (nI j) = some (w 37 j) := p_ld_at (g_37 L xs w h) hj (by decide)
theorem st_37 (j : Nat) (x : Int32) (hj : j < 3) : p_st (hp L xs w h) 0 37 (nI j) x = some (hp L xs (mUp w 37 j x) h) := (p_st_at x (g_37 L xs w h) (by decide) hj (by decide)).trans (congrArg some (z_37 L xs w h _))
theorem g_38 : (hp L xs w h)[38]? = some (.inl (0, 16, w 38)) := rfl
theorem z_38 (f : Nat → Int32) : (hp L xs w h).set 38 (.inl (0, 16, f)) = hp L xs (mSet w 38 f) h := rfl
theorem ld_38 (j : Nat) (hj : j < 16) : p_ld (hp L xs w h) 0 38 (nI j) = some (w 38 j) := p_ld_at (g_38 L xs w h) hj (by decide)
theorem st_38 (j : Nat) (x : Int32) (hj : j < 16) : p_st (hp L xs w h) 0 38 (nI j) x = some (hp L xs (mUp w 38 j x) h) := (p_st_at x (g_38 L xs w h) (by decide) hj (by decide)).trans (congrArg some (z_38 L xs w h _))
theorem g_39 : (hp L xs w h)[39]? = some (.inl (0, 12, w 39)) := rfl
theorem z_39 (f : Nat → Int32) : (hp L xs w h).set 39 (.inl (0, 12, f)) = hp L xs (mSet w 39 f) h := rfl
theorem ld_39 (j : Nat) (hj : j < 12) : p_ld (hp L xs w h) 0 39 (nI j) = some (w 39 j) := p_ld_at (g_39 L xs w h) hj (by decide)
theorem st_39 (j : Nat) (x : Int32) (hj : j < 12) : p_st (hp L xs w h) 0 39 (nI j) x = some (hp L xs (mUp w 39 j x) h) := (p_st_at x (g_39 L xs w h) (by decide) hj (by decide)).trans (congrArg some (z_39 L xs w h _))
theorem g_40 : (hp L xs w h)[40]? = some (.inl (0, 12, w 40)) := rfl
theorem z_40 (f : Nat → Int32) : (hp L xs w h).set 40 (.inl (0, 12, f)) = hp L xs (mSet w 40 f) h := rfl
theorem ld_40 (j : Nat) (hj : j < 12) : p_ld (hp L xs w h) 0 40 (nI j) = some (w 40 j) := p_ld_at (g_40 L xs w h) hj (by decide)
theorem st_40 (j : Nat) (x : Int32) (hj : j < 12) : p_st (hp L xs w h) 0 40 (nI j) x = some (hp L xs (mUp w 40 j x) h) := (p_st_at x (g_40 L xs w h) (by decide) hj (by decide)).trans (congrArg some (z_40 L xs w h _))
theorem g_41 : (hp L xs w h)[41]? = some (.inl (0, 5, w 41)) := rfl
theorem z_41 (f : Nat → Int32) : (hp L xs w h).set 41 (.inl (0, 5, f)) = hp L xs (mSet w 41 f) h := rfl
theorem ld_41 (j : Nat) (hj : j < 5) : p_ld (hp L xs w h) 0 41 (nI j) = some (w 41 j) := p_ld_at (g_41 L xs w h) hj (by decide)
theorem st_41 (j : Nat) (x : Int32) (hj : j < 5) : p_st (hp L xs w h) 0 41 (nI j) x = some (hp L xs (mUp w 41 j x) h) := (p_st_at x (g_41 L xs w h) (by decide) hj (by decide)).trans (congrArg some (z_41 L xs w h _))
theorem g_42 : (hp L xs w h)[42]? = some (.inr (.inr (3, [.ref 43, .ref 44, .ref 45, .ref 46, .ref 47, .int (w 42 5), .int (w 42 6)]))) := rfl
theorem rv_42 (as : List Value) : p_recv (hp L xs w h) 3 (.ref 42 :: as) = true := p_recv_at as (g_42 L xs w h)
theorem gR_42_0 : p_gR (hp L xs w h) 3 42 0 = some 43 := p_gR_at (g_42 L xs w h) rfl
theorem gR_42_1 : p_gR (hp L xs w h) 3 42 1 = some 44 := p_gR_at (g_42 L xs w h) rfl
theorem gR_42_2 : p_gR (hp L xs w h) 3 42 2 = some 45 := p_gR_at (g_42 L xs w h) rfl
theorem gR_42_3 : p_gR (hp L xs w h) 3 42 3 = some 46 := p_gR_at (g_42 L xs w h) rfl
theorem gR_42_4 : p_gR (hp L xs w h) 3 42 4 = some 47 := p_gR_at (g_42 L xs w h) rfl
theorem gI_42_5 : p_gI (hp L xs w h) 3 42 5 = some (w 42 5) := p_gI_at (g_42 L xs w h) rfl
theorem pt_42_5 (x : Int32) : p_put (hp L xs w h) 3 42 5 (.int x) = some (hp L xs (mUp w 42 5 x) h) := (p_put_at (.int x) (g_42 L xs w h) (show 5 < 7 by decide)).trans (congrArg some rfl)
theorem gI_42_6 : p_gI (hp L xs w h) 3 42 6 = some (w 42 6) := p_gI_at (g_42 L xs w h) rfl
theorem pt_42_6 (x : Int32) : p_put (hp L xs w h) 3 42 6 (.int x) = some (hp L xs (mUp w 42 6 x) h) := (p_put_at (.int x) (g_42 L xs w h) (show 6 < 7 by decide)).trans (congrArg some rfl)
theorem g_43 : (hp L xs w h)[43]? = some (.inl (0, 3, w 43)) := rfl
theorem z_43 (f : Nat → Int32) : (hp L xs w h).set 43 (.inl (0, 3, f)) = hp L xs (mSet w 43 f) h := rfl
theorem ld_43 (j : Nat) (hj : j < 3) : p_ld (hp L xs w h) 0 43 (nI j) = some (w 43 j) := p_ld_at (g_43 L xs w h) hj (by decide)
theorem st_43 (j : Nat) (x : Int32) (hj : j < 3) : p_st (hp L xs w h) 0 43 (nI j) x = some (hp L xs (mUp w 43 j x) h) := (p_st_at x (g_43 L xs w h) (by decide) hj (by decide)).trans (congrArg some (z_43 L xs w h _))
theorem g_44 : (hp L xs w h)[44]? = some (.inl (0, 16, w 44)) := rfl
theorem z_44 (f : Nat → Int32) : (hp L xs w h).set 44 (.inl (0, 16, f)) = hp L xs (mSet w 44 f) h := rfl
theorem ld_44 (j : Nat) (hj : j < 16) : p_ld (hp L xs w h) 0 44 (nI j) = some (w 44 j) := p_ld_at (g_44 L xs w h) hj (by decide)
theorem st_44 (j : Nat) (x : Int32) (hj : j < 16) : p_st (hp L xs w h) 0 44 (nI j) x = some (hp L xs (mUp w 44 j x) h) := (p_st_at x (g_44 L xs w h) (by decide) hj (by decide)).trans (congrArg some (z_44 L xs w h _))
theorem g_45 : (hp L xs w h)[45]? = some (.inl (0, 12, w 45)) := rfl
theorem z_45 (f : Nat → Int32) : (hp L xs w h).set 45 (.inl (0, 12, f)) = hp L xs (mSet w 45 f) h := rfl
theorem ld_45 (j : Nat) (hj : j < 12) : p_ld (hp L xs w h) 0 45 (nI j) = some (w 45 j) := p_ld_at (g_45 L xs w h) hj (by decide)
theorem st_45 (j : Nat) (x : Int32) (hj : j < 12) : p_st (hp L xs w h) 0 45 (nI j) x = some (hp L xs (mUp w 45 j x) h) := (p_st_at x (g_45 L xs w h) (by decide) hj (by decide)).trans (congrArg some (z_45 L xs w h _))
theorem g_46 : (hp L xs w h)[46]? = some (.inl (0, 12, w 46)) := rfl
theorem z_46 (f : Nat → Int32) : (hp L xs w h).set 46 (.inl (0, 12, f)) = hp L xs (mSet w 46 f) h := rfl
theorem ld_46 (j : Nat) (hj : j < 12) : p_ld (hp L xs w h) 0 46 (nI j) = some (w 46 j) := p_ld_at (g_46 L xs w h) hj (by decide)
theorem st_46 (j : Nat) (x : Int32) (hj : j < 12) : p_st (hp L xs w h) 0 46 (nI j) x = some (hp L xs (mUp w 46 j x) h) := (p_st_at x (g_46 L xs w h) (by decide) hj (by decide)).trans (congrArg some (z_46 L xs w h _))
theorem g_47 : (hp L xs w h)[47]? = some (.inl (0, 5, w 47)) := rfl
theorem z_47 (f : Nat → Int32) : (hp L xs w h).set 47 (.inl (0, 5, f)) = hp L xs (mSet w 47 f) h := rfl
theorem ld_47 (j : Nat) (hj : j < 5) : p_ld (hp L xs w h) 0 47 (nI j) = some (w 47 j) := p_ld_at (g_47 L xs w h) hj (by decide)
theorem st_47 (j : Nat) (x : Int32) (hj : j < 5) : p_st (hp L xs w h) 0 47 (nI j) x = some (hp L xs (mUp w 47 j x) h) := (p_st_at x (g_47 L xs w h) (by decide) hj (by decide)).trans (congrArg some (z_47 L xs w h _))
theorem g_48 : (hp L xs w h)[48]? = some (.inr (.inr (3, [.ref 49, .ref 50, .ref 51, .ref 52, .ref 53, .int (w 48 5), .int (w 48 6)]))) := rfl
theorem rv_48 (as : List Value) : p_recv (hp L xs w h) 3 (.ref 48 :: as) = true := p_recv_at as (g_48 L xs w h)
theorem gR_48_0 : p_gR (hp L xs w h) 3 48 0 = some 49 := p_gR_at (g_48 L xs w h) rfl
theorem gR_48_1 : p_gR (hp L xs w h) 3 48 1 = some 50 := p_gR_at (g_48 L xs w h) rfl
theorem gR_48_2 : p_gR (hp L xs w h) 3 48 2 = some 51 := p_gR_at (g_48 L xs w h) rfl
theorem gR_48_3 : p_gR (hp L xs w h) 3 48 3 = some 52 := p_gR_at (g_48 L xs w h) rfl
theorem gR_48_4 : p_gR (hp L xs w h) 3 48 4 = some 53 := p_gR_at (g_48 L xs w h) rfl
theorem gI_48_5 : p_gI (hp L xs w h) 3 48 5 = some (w 48 5) := p_gI_at (g_48 L xs w h) rfl
theorem pt_48_5 (x : Int32) : p_put (hp L xs w h) 3 48 5 (.int x) = some (hp L xs (mUp w 48 5 x) h) := (p_put_at (.int x) (g_48 L xs w h) (show 5 < 7 by decide)).trans (congrArg some rfl)
theorem gI_48_6 : p_gI (hp L xs w h) 3 48 6 = some (w 48 6) := p_gI_at (g_48 L xs w h) rfl
theorem pt_48_6 (x : Int32) : p_put (hp L xs w h) 3 48 6 (.int x) = some (hp L xs (mUp w 48 6 x) h) := (p_put_at (.int x) (g_48 L xs w h) (show 6 < 7 by decide)).trans (congrArg some rfl)
theorem g_49 : (hp L xs w h)[49]? = some (.inl (0, 3, w 49)) := rfl
theorem z_49 (f : Nat → Int32) : (hp L xs w h).set 49 (.inl (0, 3, f)) = hp L xs (mSet w 49 f) h := rfl
theorem ld_49 (j : Nat) (hj : j < 3) : p_ld (hp L xs w h) 0 49 (nI j) = some (w 49 j) := p_ld_at (g_49 L xs w h) hj (by decide)
theorem st_49 (j : Nat) (x : Int32) (hj : j < 3) : p_st (hp L xs w h) 0 49 (nI j) x = some (hp L xs (mUp w 49 j x) h) := (p_st_at x (g_49 L xs w h) (by decide) hj (by decide)).trans (congrArg some (z_49 L xs w h _))
theorem g_50 : (hp L xs w h)[50]? = some (.inl (0, 16, w 50)) := rfl
theorem z_50 (f : Nat → Int32) : (hp L xs w h).set 50 (.inl (0, 16, f)) = hp L xs (mSet w 50 f) h := rfl
theorem ld_50 (j : Nat) (hj : j < 16) : p_ld (hp L xs w h) 0 50 (nI j) = some (w 50 j) := p_ld_at (g_50 L xs w h) hj (by decide)
theorem st_50 (j : Nat) (x : Int32) (hj : j < 16) : p_st (hp L xs w h) 0 50 (nI j) x = some (hp L xs (mUp w 50 j x) h) := (p_st_at x (g_50 L xs w h) (by decide) hj (by decide)).trans (congrArg some (z_50 L xs w h _))
theorem g_51 : (hp L xs w h)[51]? = some (.inl (0, 12, w 51)) := rfl
theorem z_51 (f : Nat → Int32) : (hp L xs w h).set 51 (.inl (0, 12, f)) = hp L xs (mSet w 51 f) h := rfl
theorem ld_51 (j : Nat) (hj : j < 12) : p_ld (hp L xs w h) 0 51 (nI j) = some (w 51 j) := p_ld_at (g_51 L xs w h) hj (by decide)
theorem st_51 (j : Nat) (x : Int32) (hj : j < 12) : p_st (hp L xs w h) 0 51 (nI j) x = some (hp L xs (mUp w 51 j x) h) := (p_st_at x (g_51 L xs w h) (by decide) hj (by decide)).trans (congrArg some (z_51 L xs w h _))
theorem g_52 : (hp L xs w h)[52]? = some (.inl (0, 12, w 52)) := rfl
theorem z_52 (f : Nat → Int32) : (hp L xs w h).set 52 (.inl (0, 12, f)) = hp L xs (mSet w 52 f) h := rfl
theorem ld_52 (j : Nat) (hj : j < 12) : p_ld (hp L xs w h) 0 52 (nI j) = some (w 52 j) := p_ld_at (g_52 L xs w h) hj (by decide)
theorem st_52 (j : Nat) (x : Int32) (hj : j < 12) : p_st (hp L xs w h) 0 52 (nI j) x = some (hp L xs (mUp w 52 j x) h) := (p_st_at x (g_52 L xs w h) (by decide) hj (by decide)).trans (congrArg some (z_52 L xs w h _))
theorem g_53 : (hp L xs w h)[53]? = some (.inl (0, 5, w 53)) := rfl
theorem z_53 (f : Nat → Int32) : (hp L xs w h).set 53 (.inl (0, 5, f)) = hp L xs (mSet w 53 f) h := rfl
theorem ld_53 (j : Nat) (hj : j < 5) : p_ld (hp L xs w h) 0 53 (nI j) = some (w 53 j) := p_ld_at (g_53 L xs w h) hj (by decide)
theorem st_53 (j : Nat) (x : Int32) (hj : j < 5) : p_st (hp L xs w h) 0 53 (nI j) x = some (hp L xs (mUp w 53 j x) h) := (p_st_at x (g_53 L xs w h) (by decide) hj (by decide)).trans (congrArg some (z_53 L xs w h _))
theorem g_54 : (hp L xs w h)[54]? = some (.inr (.inr (3, [.ref 55, .ref 56, .ref 57, .ref 58, .ref 59, .int (w 54 5), .int (w 54 6)]))) := rfl
theorem rv_54 (as : List Value) : p_recv (hp L xs w h) 3 (.ref 54 :: as) = true := p_recv_at as (g_54 L xs w h)
theorem gR_54_0 : p_gR (hp L xs w h) 3 54 0 = some 55 := p_gR_at (g_54 L xs w h) rfl
theorem gR_54_1 : p_gR (hp L xs w h) 3 54 1 = some 56 := p_gR_at (g_54 L xs w h) rfl
theorem gR_54_2 : p_gR (hp L xs w h) 3 54 2 = some 57 := p_gR_at (g_54 L xs w h) rfl
theorem gR_54_3 : p_gR (hp L xs w h) 3 54 3 = some 58 := p_gR_at (g_54 L xs w h) rfl
theorem gR_54_4 : p_gR (hp L xs w h) 3 54 4 = some 59 := p_gR_at (g_54 L xs w h) rfl
theorem gI_54_5 : p_gI (hp L xs w h) 3 54 5 = some (w 54 5) := p_gI_at (g_54 L xs w h) rfl
theorem pt_54_5 (x : Int32) : p_put (hp L xs w h) 3 54 5 (.int x) = some (hp L xs (mUp w 54 5 x) h) := (p_put_at (.int x) (g_54 L xs w h) (show 5 < 7 by decide)).trans (congrArg some rfl)
theorem gI_54_6 : p_gI (hp L xs w h) 3 54 6 = some (w 54 6) := p_gI_at (g_54 L xs w h) rfl
theorem pt_54_6 (x : Int32) : p_put (hp L xs w h) 3 54 6 (.int x) = some (hp L xs (mUp w 54 6 x) h) := (p_put_at (.int x) (g_54 L xs w h) (show 6 < 7 by decide)).trans (congrArg some rfl)
theorem g_55 : (hp L xs w h)[55]? = some (.inl (0, 3, w 55)) := rfl
theorem z_55 (f : Nat → Int32) : (hp L xs w h).set 55 (.inl (0, 3, f)) = hp L xs (mSet w 55 f) h := rfl
theorem ld_55 (j : Nat) (hj : j < 3) : p_ld (hp L xs w h) 0 55 (nI j) = some (w 55 j) := p_ld_at (g_55 L xs w h) hj (by decide)
theorem st_55 (j : Nat) (x : Int32) (hj : j < 3) : p_st (hp L xs w h) 0 55 (nI j) x = some (hp L xs (mUp w 55 j x) h) := (p_st_at x (g_55 L xs w h) (by decide) hj (by decide)).trans (congrArg some (z_55 L xs w h _))
theorem g_56 : (hp L xs w h)[56]? = some (.inl (0, 16, w 56)) := rfl
theorem z_56 (f : Nat → Int32) : (hp L xs w h).set 56 (.inl (0, 16, f)) = hp L xs (mSet w 56 f) h := rfl
theorem ld_56 (j : Nat) (hj : j < 16) : p_ld (hp L xs w h) 0 56 (nI j) = some (w 56 j) := p_ld_at (g_56 L xs w h) hj (by decide)
theorem st_56 (j : Nat) (x : Int32) (hj : j < 16) : p_st (hp L xs w h) 0 56 (nI j) x = some (hp L xs (mUp w 56 j x) h) := (p_st_at x (g_56 L xs w h) (by decide) hj (by decide)).trans (congrArg some (z_56 L xs w h _))
theorem g_57 : (hp L xs w h)[57]? = some (.inl (0, 12, w 57)) := rfl
theorem z_57 (f : Nat → Int32) : (hp L xs w h).set 57 (.inl (0, 12, f)) = hp L xs (mSet w 57 f) h := rfl
theorem ld_57 (j : Nat) (hj : j < 12) : p_ld (hp L xs w h) 0 57 (nI j) = some (w 57 j) := p_ld_at (g_57 L xs w h) hj (by decide)
theorem st_57 (j : Nat) (x : Int32) (hj : j < 12) : p_st (hp L xs w h) 0 57 (nI j) x = some (hp L xs (mUp w 57 j x) h) := (p_st_at x (g_57 L xs w h) (by decide) hj (by decide)).trans (congrArg some (z_57 L xs w h _))
theorem g_58 : (hp L xs w h)[58]? = some (.inl (0, 12, w 58)) := rfl
theorem z_58 (f : Nat → Int32) : (hp L xs w h).set 58 (.inl (0, 12, f)) = hp L xs (mSet w 58 f) h := rfl
theorem ld_58 (j : Nat) (hj : j < 12) : p_ld (hp L xs w h) 0 58 (nI j) = some (w 58 j) := p_ld_at (g_58 L xs w h) hj (by decide)
theorem st_58 (j : Nat) (x : Int32) (hj : j < 12) : p_st (hp L xs w h) 0 58 (nI j) x = some (hp L xs (mUp w 58 j x) h) := (p_st_at x (g_58 L xs w h) (by decide) hj (by decide)).trans (congrArg some (z_58 L xs w h _))
theorem g_59 : (hp L xs w h)[59]? = some (.inl (0, 5, w 59)) := rfl
theorem z_59 (f : Nat → Int32) : (hp L xs w h).set 59 (.inl (0, 5, f)) = hp L xs (mSet w 59 f) h := rfl
theorem ld_59 (j : Nat) (hj : j < 5) : p_ld (hp L xs w h) 0 59 (nI j) = some (w 59 j) := p_ld_at (g_59 L xs w h) hj (by decide)
theorem st_59 (j : Nat) (x : Int32) (hj : j < 5) : p_st (hp L xs w h) 0 59 (nI j) x = some (hp L xs (mUp w 59 j x) h) := (p_st_at x (g_59 L xs w h) (by decide) hj (by decide)).trans (congrArg some (z_59 L xs w h _))
theorem g_60 : (hp L xs w h)[60]? = some (.inr (.inr (3, [.ref 61, .ref 62, .ref 63, .ref 64, .ref 65, .int (w 60 5), .int (w 60 6)]))) := rfl
theorem rv_60 (as : List Value) : p_recv (hp L xs w h) 3 (.ref 60 :: as) = true := p_recv_at as (g_60 L xs w h)
theorem gR_60_0 : p_gR (hp L xs w h) 3 60 0 = some 61 := p_gR_at (g_60 L xs w h) rfl
theorem gR_60_1 : p_gR (hp L xs w h) 3 60 1 = some 62 := p_gR_at (g_60 L xs w h) rfl
theorem gR_60_2 : p_gR (hp L xs w h) 3 60 2 = some 63 := p_gR_at (g_60 L xs w h) rfl
theorem gR_60_3 : p_gR (hp L xs w h) 3 60 3 = some 64 := p_gR_at (g_60 L xs w h) rfl
theorem gR_60_4 : p_gR (hp L xs w h) 3 60 4 = some 65 := p_gR_at (g_60 L xs w h) rfl
theorem gI_60_5 : p_gI (hp L xs w h) 3 60 5 = some (w 60 5) := p_gI_at (g_60 L xs w h) rfl
theorem pt_60_5 (x : Int32) : p_put (hp L xs w h) 3 60 5 (.int x) = some (hp L xs (mUp w 60 5 x) h) := (p_put_at (.int x) (g_60 L xs w h) (show 5 < 7 by decide)).trans (congrArg some rfl)
theorem gI_60_6 : p_gI (hp L xs w h) 3 60 6 = some (w 60 6) := p_gI_at (g_60 L xs w h) rfl
theorem pt_60_6 (x : Int32) : p_put (hp L xs w h) 3 60 6 (.int x) = some (hp L xs (mUp w 60 6 x) h) := (p_put_at (.int x) (g_60 L xs w h) (show 6 < 7 by decide)).trans (congrArg some rfl)
theorem g_61 : (hp L xs w h)[61]? = some (.inl (0, 3, w 61)) := rfl
theorem z_61 (f : Nat → Int32) : (hp L xs w h).set 61 (.inl (0, 3, f)) = hp L xs (mSet w 61 f) h := rfl
theorem ld_61 (j : Nat) (hj : j < 3) : p_ld (hp L xs w h) 0 61 (nI j) = some (w 61 j) := p_ld_at (g_61 L xs w h) hj (by decide)
theorem st_61 (j : Nat) (x : Int32) (hj : j < 3) : p_st (hp L xs w h) 0 61 (nI j) x = some (hp L xs (mUp w 61 j x) h) := (p_st_at x (g_61 L xs w h) (by decide) hj (by decide)).trans (congrArg some (z_61 L xs w h _))
theorem g_62 : (hp L xs w h)[62]? = some (.inl (0, 16, w 62)) := rfl
theorem z_62 (f : Nat → Int32) : (hp L xs w h).set 62 (.inl (0, 16, f)) = hp L xs (mSet w 62 f) h := rfl
theorem ld_62 (j : Nat) (hj : j < 16) : p_ld (hp L xs w h) 0 62 (nI j) = some (w 62 j) := p_ld_at (g_62 L xs w h) hj (by decide)
theorem st_62 (j : Nat) (x : Int32) (hj : j < 16) : p_st (hp L xs w h) 0 62 (nI j) x = some (hp L xs (mUp w 62 j x) h) := (p_st_at x (g_62 L xs w h) (by decide) hj (by decide)).trans (congrArg some (z_62 L xs w h _))
theorem g_63 : (hp L xs w h)[63]? = some (.inl (0, 12, w 63)) := rfl
theorem z_63 (f : Nat → Int32) : (hp L xs w h).set 63 (.inl (0, 12, f)) = hp L xs (mSet w 63 f) h := rfl
theorem ld_63 (j : Nat) (hj : j < 12) : p_ld (hp L xs w h) 0 63 (nI j) = some (w 63 j) := p_ld_at (g_63 L xs w h) hj (by decide)
theorem st_63 (j : Nat) (x : Int32) (hj : j < 12) : p_st (hp L xs w h) 0 63 (nI j) x = some (hp L xs (mUp w 63 j x) h) := (p_st_at x (g_63 L xs w h) (by decide) hj (by decide)).trans (congrArg some (z_63 L xs w h _))
theorem g_64 : (hp L xs w h)[64]? = some (.inl (0, 12, w 64)) := rfl
theorem z_64 (f : Nat → Int32) : (hp L xs w h).set 64 (.inl (0, 12, f)) = hp L xs (mSet w 64 f) h := rfl
theorem ld_64 (j : Nat) (hj : j < 12) : p_ld (hp L xs w h) 0 64 (nI j) = some (w 64 j) := p_ld_at (g_64 L xs w h) hj (by decide)
theorem st_64 (j : Nat) (x : Int32) (hj : j < 12) : p_st (hp L xs w h) 0 64 (nI j) x = some (hp L xs (mUp w 64 j x) h) := (p_st_at x (g_64 L xs w h) (by decide) hj (by decide)).trans (congrArg some (z_64 L xs w h _))
theorem g_65 : (hp L xs w h)[65]? = some (.inl (0, 5, w 65)) := rfl
theorem z_65 (f : Nat → Int32) : (hp L xs w h).set 65 (.inl (0, 5, f)) = hp L xs (mSet w 65 f) h := rfl
theorem ld_65 (j : Nat) (hj : j < 5) : p_ld (hp L xs w h) 0 65 (nI j) = some (w 65 j) := p_ld_at (g_65 L xs w h) hj (by decide)
theorem st_65 (j : Nat) (x : Int32) (hj : j < 5) : p_st (hp L xs w h) 0 65 (nI j) x = some (hp L xs (mUp w 65 j x) h) := (p_st_at x (g_65 L xs w h) (by decide) hj (by decide)).trans (congrArg some (z_65 L xs w h _))
theorem g_66 : (hp L xs w h)[66]? = some (.inr (.inr (3, [.ref 67, .ref 68, .ref 69, .ref 70, .ref 71, .int (w 66 5), .int (w 66 6)]))) := rfl
theorem rv_66 (as : List Value) : p_recv (hp L xs w h) 3 (.ref 66 :: as) = true := p_recv_at as (g_66 L xs w h)
theorem gR_66_0 : p_gR (hp L xs w h) 3 66 0 = some 67 := p_gR_at (g_66 L xs w h) rfl
theorem gR_66_1 : p_gR (hp L xs w h) 3 66 1 = some 68 := p_gR_at (g_66 L xs w h) rfl
theorem gR_66_2 : p_gR (hp L xs w h) 3 66 2 = some 69 := p_gR_at (g_66 L xs w h) rfl
theorem gR_66_3 : p_gR (hp L xs w h) 3 66 3 = some 70 := p_gR_at (g_66 L xs w h) rfl
theorem gR_66_4 : p_gR (hp L xs w h) 3 66 4 = some 71 := p_gR_at (g_66 L xs w h) rfl
theorem gI_66_5 : p_gI (hp L xs w h) 3 66 5 = some (w 66 5) := p_gI_at (g_66 L xs w h) rfl
theorem pt_66_5 (x : Int32) : p_put (hp L xs w h) 3 66 5 (.int x) = some (hp L xs (mUp w 66 5 x) h) := (p_put_at (.int x) (g_66 L xs w h) (show 5 < 7 by decide)).trans (congrArg some rfl)
theorem gI_66_6 : p_gI (hp L xs w h) 3 66 6 = some (w 66 6) := p_gI_at (g_66 L xs w h) rfl
theorem pt_66_6 (x : Int32) : p_put (hp L xs w h) 3 66 6 (.int x) = some (hp L xs (mUp w 66 6 x) h) := (p_put_at (.int x) (g_66 L xs w h) (show 6 < 7 by decide)).trans (congrArg some rfl)
theorem g_67 : (hp L xs w h)[67]? = some (.inl (0, 3, w 67)) := rfl
theorem z_67 (f : Nat → Int32) : (hp L xs w h).set 67 (.inl (0, 3, f)) = hp L xs (mSet w 67 f) h := rfl
theorem ld_67 (j : Nat) (hj : j < 3) : p_ld (hp L xs w h) 0 67 (nI j) = some (w 67 j) := p_ld_at (g_67 L xs w h) hj (by decide)
theorem st_67 (j : Nat) (x : Int32) (hj : j < 3) : p_st (hp L xs w h) 0 67 (nI j) x = some (hp L xs (mUp w 67 j x) h) := (p_st_at x (g_67 L xs w h) (by decide) hj (by decide)).trans (congrArg some (z_67 L xs w h _))
theorem g_68 : (hp L xs w h)[68]? = some (.inl (0, 16, w 68)) := rfl
theorem z_68 (f : Nat → Int32) : (hp L xs w h).set 68 (.inl (0, 16, f)) = hp L xs (mSet w 68 f) h := rfl
theorem ld_68 (j : Nat) (hj : j < 16) : p_ld (hp L xs w h) 0 68 (nI j) = some (w 68 j) := p_ld_at (g_68 L xs w h) hj (by decide)
theorem st_68 (j : Nat) (x : Int32) (hj : j < 16) : p_st (hp L xs w h) 0 68 (nI j) x = some (hp L xs (mUp w 68 j x) h) := (p_st_at x (g_68 L xs w h) (by decide) hj (by decide)).trans (congrArg some (z_68 L xs w h _))
theorem g_69 : (hp L xs w h)[69]? = some (.inl (0, 12, w 69)) := rfl
theorem z_69 (f : Nat → Int32) : (hp L xs w h).set 69 (.inl (0, 12, f)) = hp L xs (mSet w 69 f) h := rfl
theorem ld_69 (j : Nat) (hj : j < 12) : p_ld (hp L xs w h) 0 69 (nI j) = some (w 69 j) := p_ld_at (g_69 L xs w h) hj (by decide)
theorem st_69 (j : Nat) (x : Int32) (hj : j < 12) : p_st (hp L xs w h) 0 69 (nI j) x = some (hp L xs (mUp w 69 j x) h) := (p_st_at x (g_69 L xs w h) (by decide) hj (by decide)).trans (congrArg some (z_69 L xs w h _))
theorem g_70 : (hp L xs w h)[70]? = some (.inl (0, 12, w 70)) := rfl
theorem z_70 (f : Nat → Int32) : (hp L xs w h).set 70 (.inl (0, 12, f)) = hp L xs (mSet w 70 f) h := rfl
theorem ld_70 (j : Nat) (hj : j < 12) : p_ld (hp L xs w h) 0 70 (nI j) = some (w 70 j) := p_ld_at (g_70 L xs w h) hj (by decide)
theorem st_70 (j : Nat) (x : Int32) (hj : j < 12) : p_st (hp L xs w h) 0 70 (nI j) x = some (hp L xs (mUp w 70 j x) h) := (p_st_at x (g_70 L xs w h) (by decide) hj (by decide)).trans (congrArg some (z_70 L xs w h _))
theorem g_71 : (hp L xs w h)[71]? = some (.inl (0, 5, w 71)) := rfl
theorem z_71 (f : Nat → Int32) : (hp L xs w h).set 71 (.inl (0, 5, f)) = hp L xs (mSet w 71 f) h := rfl
theorem ld_71 (j : Nat) (hj : j < 5) : p_ld (hp L xs w h) 0 71 (nI j) = some (w 71 j) := p_ld_at (g_71 L xs w h) hj (by decide)
theorem st_71 (j : Nat) (x : Int32) (hj : j < 5) : p_st (hp L xs w h) 0 71 (nI j) x = some (hp L xs (mUp w 71 j x) h) := (p_st_at x (g_71 L xs w h) (by decide) hj (by decide)).trans (congrArg some (z_71 L xs w h _))
theorem g_72 : (hp L xs w h)[72]? = some (.inr (.inr (0, [.int (w 72 0), .int (w 72 1), .ref 73, .ref 74, .ref 75, .ref 76]))) := rfl
theorem rv_72 (as : List Value) : p_recv (hp L xs w h) 0 (.ref 72 :: as) = true := p_recv_at as (g_72 L xs w h)
theorem gI_72_0 : p_gI (hp L xs w h) 0 72 0 = some (w 72 0) := p_gI_at (g_72 L xs w h) rfl
theorem pt_72_0 (x : Int32) : p_put (hp L xs w h) 0 72 0 (.int x) = some (hp L xs (mUp w 72 0 x) h) := (p_put_at (.int x) (g_72 L xs w h) (show 0 < 6 by decide)).trans (congrArg some rfl)
theorem gI_72_1 : p_gI (hp L xs w h) 0 72 1 = some (w 72 1) := p_gI_at (g_72 L xs w h) rfl
theorem pt_72_1 (x : Int32) : p_put (hp L xs w h) 0 72 1 (.int x) = some (hp L xs (mUp w 72 1 x) h) := (p_put_at (.int x) (g_72 L xs w h) (show 1 < 6 by decide)).trans (congrArg some rfl)
theorem gR_72_2 : p_gR (hp L xs w h) 0 72 2 = some 73 := p_gR_at (g_72 L xs w h) rfl
theorem gR_72_3 : p_gR (hp L xs w h) 0 72 3 = some 74 := p_gR_at (g_72 L xs w h) rfl
theorem gR_72_4 : p_gR (hp L xs w h) 0 72 4 = some 75 := p_gR_at (g_72 L xs w h) rfl
theorem gR_72_5 : p_gR (hp L xs w h) 0 72 5 = some 76 := p_gR_at (g_72 L xs w h) rfl
theorem g_73 : (hp L xs w h)[73]? = some (.inl (0, 16, w 73)) := rfl
theorem z_73 (f : Nat → Int32) : (hp L xs w h).set 73 (.inl (0, 16, f)) = hp L xs (mSet w 73 f) h := rfl
theorem ld_73 (j : Nat) (hj : j < 16) : p_ld (hp L xs w h) 0 73 (nI j) = some (w 73 j) := p_ld_at (g_73 L xs w h) hj (by decide)
theorem st_73 (j : Nat) (x : Int32) (hj : j < 16) : p_st (hp L xs w h) 0 73 (nI j) x = some (hp L xs (mUp w 73 j x) h) := (p_st_at x (g_73 L xs w h) (by decide) hj (by decide)).trans (congrArg some (z_73 L xs w h _))
theorem g_74 : (hp L xs w h)[74]? = some (.inl (0, 17, w 74)) := rfl
theorem z_74 (f : Nat → Int32) : (hp L xs w h).set 74 (.inl (0, 17, f)) = hp L xs (mSet w 74 f) h := rfl
theorem ld_74 (j : Nat) (hj : j < 17) : p_ld (hp L xs w h) 0 74 (nI j) = some (w 74 j) := p_ld_at (g_74 L xs w h) hj (by decide)
theorem st_74 (j : Nat) (x : Int32) (hj : j < 17) : p_st (hp L xs w h) 0 74 (nI j) x = some (hp L xs (mUp w 74 j x) h) := (p_st_at x (g_74 L xs w h) (by decide) hj (by decide)).trans (congrArg some (z_74 L xs w h _))
theorem g_75 : (hp L xs w h)[75]? = some (.inl (0, 16, w 75)) := rfl
theorem z_75 (f : Nat → Int32) : (hp L xs w h).set 75 (.inl (0, 16, f)) = hp L xs (mSet w 75 f) h := rfl
theorem ld_75 (j : Nat) (hj : j < 16) : p_ld (hp L xs w h) 0 75 (nI j) = some (w 75 j) := p_ld_at (g_75 L xs w h) hj (by decide)
theorem st_75 (j : Nat) (x : Int32) (hj : j < 16) : p_st (hp L xs w h) 0 75 (nI j) x = some (hp L xs (mUp w 75 j x) h) := (p_st_at x (g_75 L xs w h) (by decide) hj (by decide)).trans (congrArg some (z_75 L xs w h _))
theorem g_76 : (hp L xs w h)[76]? = some (.inl (0, 16, w 76)) := rfl
theorem z_76 (f : Nat → Int32) : (hp L xs w h).set 76 (.inl (0, 16, f)) = hp L xs (mSet w 76 f) h := rfl
theorem ld_76 (j : Nat) (hj : j < 16) : p_ld (hp L xs w h) 0 76 (nI j) = some (w 76 j) := p_ld_at (g_76 L xs w h) hj (by decide)
theorem st_76 (j : Nat) (x : Int32) (hj : j < 16) : p_st (hp L xs w h) 0 76 (nI j) x = some (hp L xs (mUp w 76 j x) h) := (p_st_at x (g_76 L xs w h) (by decide) hj (by decide)).trans (congrArg some (z_76 L xs w h _))
theorem g_77 : (hp L xs w h)[77]? = some (.inr (.inr (0, [.int (w 77 0), .int (w 77 1), .ref 78, .ref 79, .ref 80, .ref 81]))) := rfl
theorem rv_77 (as : List Value) : p_recv (hp L xs w h) 0 (.ref 77 :: as) = true := p_recv_at as (g_77 L xs w h)
theorem gI_77_0 : p_gI (hp L xs w h) 0 77 0 = some (w 77 0) := p_gI_at (g_77 L xs w h) rfl
theorem pt_77_0 (x : Int32) : p_put (hp L xs w h) 0 77 0 (.int x) = some (hp L xs (mUp w 77 0 x) h) := (p_put_at (.int x) (g_77 L xs w h) (show 0 < 6 by decide)).trans (congrArg some rfl)
theorem gI_77_1 : p_gI (hp L xs w h) 0 77 1 = some (w 77 1) := p_gI_at (g_77 L xs w h) rfl
theorem pt_77_1 (x : Int32) : p_put (hp L xs w h) 0 77 1 (.int x) = some (hp L xs (mUp w 77 1 x) h) := (p_put_at (.int x) (g_77 L xs w h) (show 1 < 6 by decide)).trans (congrArg some rfl)
theorem gR_77_2 : p_gR (hp L xs w h) 0 77 2 = some 78 := p_gR_at (g_77 L xs w h) rfl
theorem gR_77_3 : p_gR (hp L xs w h) 0 77 3 = some 79 := p_gR_at (g_77 L xs w h) rfl
theorem gR_77_4 : p_gR (hp L xs w h) 0 77 4 = some 80 := p_gR_at (g_77 L xs w h) rfl
theorem gR_77_5 : p_gR (hp L xs w h) 0 77 5 = some 81 := p_gR_at (g_77 L xs w h) rfl
theorem g_78 : (hp L xs w h)[78]? = some (.inl (0, 16, w 78)) := rfl
theorem z_78 (f : Nat → Int32) : (hp L xs w h).set 78 (.inl (0, 16, f)) = hp L xs (mSet w 78 f) h := rfl
theorem ld_78 (j : Nat) (hj : j < 16) : p_ld (hp L xs w h) 0 78 (nI j) = some (w 78 j) := p_ld_at (g_78 L xs w h) hj (by decide)
theorem st_78 (j : Nat) (x : Int32) (hj : j < 16) : p_st (hp L xs w h) 0 78 (nI j) x = some (hp L xs (mUp w 78 j x) h) := (p_st_at x (g_78 L xs w h) (by decide) hj (by decide)).trans (congrArg some (z_78 L xs w h _))
theorem g_79 : (hp L xs w h)[79]? = some (.inl (0, 17, w 79)) := rfl
theorem z_79 (f : Nat → Int32) : (hp L xs w h).set 79 (.inl (0, 17, f)) = hp L xs (mSet w 79 f) h := rfl
theorem ld_79 (j : Nat) (hj : j < 17) : p_ld (hp L xs w h) 0 79 (nI j) = some (w 79 j) := p_ld_at (g_79 L xs w h) hj (by decide)
theorem st_79 (j : Nat) (x : Int32) (hj : j < 17) : p_st (hp L xs w h) 0 79 (nI j) x = some (hp L xs (mUp w 79 j x) h) := (p_st_at x (g_79 L xs w h) (by decide) hj (by decide)).trans (congrArg some (z_79 L xs w h _))
theorem g_80 : (hp L xs w h)[80]? = some (.inl (0, 16, w 80)) := rfl
theorem z_80 (f : Nat → Int32) : (hp L xs w h).set 80 (.inl (0, 16, f)) = hp L xs (mSet w 80 f) h := rfl
theorem ld_80 (j : Nat) (hj : j < 16) : p_ld (hp L xs w h) 0 80 (nI j) = some (w 80 j) := p_ld_at (g_80 L xs w h) hj (by decide)
theorem st_80 (j : Nat) (x : Int32) (hj : j < 16) : p_st (hp L xs w h) 0 80 (nI j) x = some (hp L xs (mUp w 80 j x) h) := (p_st_at x (g_80 L xs w h) (by decide) hj (by decide)).trans (congrArg some (z_80 L xs w h _))
theorem g_81 : (hp L xs w h)[81]? = some (.inl (0, 16, w 81)) := rfl
theorem z_81 (f : Nat → Int32) : (hp L xs w h).set 81 (.inl (0, 16, f)) = hp L xs (mSet w 81 f) h := rfl
theorem ld_81 (j : Nat) (hj : j < 16) : p_ld (hp L xs w h) 0 81 (nI j) = some (w 81 j) := p_ld_at (g_81 L xs w h) hj (by decide)
theorem st_81 (j : Nat) (x : Int32) (hj : j < 16) : p_st (hp L xs w h) 0 81 (nI j) x = some (hp L xs (mUp w 81 j x) h) := (p_st_at x (g_81 L xs w h) (by decide) hj (by decide)).trans (congrArg some (z_81 L xs w h _))
theorem g_82 : (hp L xs w h)[82]? = some (.inr (.inr (0, [.int (w 82 0), .int (w 82 1), .ref 83, .ref 84, .ref 85, .ref 86]))) := rfl
theorem rv_82 (as : List Value) : p_recv (hp L xs w h) 0 (.ref 82 :: as) = true := p_recv_at as (g_82 L xs w h)
theorem gI_82_0 : p_gI (hp L xs w h) 0 82 0 = some (w 82 0) := p_gI_at (g_82 L xs w h) rfl
theorem pt_82_0 (x : Int32) : p_put (hp L xs w h) 0 82 0 (.int x) = some (hp L xs (mUp w 82 0 x) h) := (p_put_at (.int x) (g_82 L xs w h) (show 0 < 6 by decide)).trans (congrArg some rfl)
theorem gI_82_1 : p_gI (hp L xs w h) 0 82 1 = some (w 82 1) := p_gI_at (g_82 L xs w h) rfl
theorem pt_82_1 (x : Int32) : p_put (hp L xs w h) 0 82 1 (.int x) = some (hp L xs (mUp w 82 1 x) h) := (p_put_at (.int x) (g_82 L xs w h) (show 1 < 6 by decide)).trans (congrArg some rfl)
theorem gR_82_2 : p_gR (hp L xs w h) 0 82 2 = some 83 := p_gR_at (g_82 L xs w h) rfl
theorem gR_82_3 : p_gR (hp L xs w h) 0 82 3 = some 84 := p_gR_at (g_82 L xs w h) rfl
theorem gR_82_4 : p_gR (hp L xs w h) 0 82 4 = some 85 := p_gR_at (g_82 L xs w h) rfl
theorem gR_82_5 : p_gR (hp L xs w h) 0 82 5 = some 86 := p_gR_at (g_82 L xs w h) rfl
theorem g_83 : (hp L xs w h)[83]? = some (.inl (0, 16, w 83)) := rfl
theorem z_83 (f : Nat → Int32) : (hp L xs w h).set 83 (.inl (0, 16, f)) = hp L xs (mSet w 83 f) h := rfl
theorem ld_83 (j : Nat) (hj : j < 16) : p_ld (hp L xs w h) 0 83 (nI j) = some (w 83 j) := p_ld_at (g_83 L xs w h) hj (by decide)
theorem st_83 (j : Nat) (x : Int32) (hj : j < 16) : p_st (hp L xs w h) 0 83 (nI j) x = some (hp L xs (mUp w 83 j x) h) := (p_st_at x (g_83 L xs w h) (by decide) hj (by decide)).trans (congrArg some (z_83 L xs w h _))
theorem g_84 : (hp L xs w h)[84]? = some (.inl (0, 17, w 84)) := rfl
theorem z_84 (f : Nat → Int32) : (hp L xs w h).set 84 (.inl (0, 17, f)) = hp L xs (mSet w 84 f) h := rfl
theorem ld_84 (j : Nat) (hj : j < 17) : p_ld (hp L xs w h) 0 84 (nI j) = some (w 84 j) := p_ld_at (g_84 L xs w h) hj (by decide)
theorem st_84 (j : Nat) (x : Int32) (hj : j < 17) : p_st (hp L xs w h) 0 84 (nI j) x = some (hp L xs (mUp w 84 j x) h) := (p_st_at x (g_84 L xs w h) (by decide) hj (by decide)).trans (congrArg some (z_84 L xs w h _))
theorem g_85 : (hp L xs w h)[85]? = some (.inl (0, 16, w 85)) := rfl
theorem z_85 (f : Nat → Int32) : (hp L xs w h).set 85 (.inl (0, 16, f)) = hp L xs (mSet w 85 f) h := rfl
theorem ld_85 (j : Nat) (hj : j < 16) : p_ld (hp L xs w h) 0 85 (nI j) = some (w 85 j) := p_ld_at (g_85 L xs w h) hj (by decide)
theorem st_85 (j : Nat) (x : Int32) (hj : j < 16) : p_st (hp L xs w h) 0 85 (nI j) x = some (hp L xs (mUp w 85 j x) h) := (p_st_at x (g_85 L xs w h) (by decide) hj (by decide)).trans (congrArg some (z_85 L xs w h _))
theorem g_86 : (hp L xs w h)[86]? = some (.inl (0, 16, w 86)) := rfl
theorem z_86 (f : Nat → Int32) : (hp L xs w h).set 86 (.inl (0, 16, f)) = hp L xs (mSet w 86 f) h := rfl
theorem ld_86 (j : Nat) (hj : j < 16) : p_ld (hp L xs w h) 0 86 (nI j) = some (w 86 j) := p_ld_at (g_86 L xs w h) hj (by decide)
theorem st_86 (j : Nat) (x : Int32) (hj : j < 16) : p_st (hp L xs w h) 0 86 (nI j) x = some (hp L xs (mUp w 86 j x) h) := (p_st_at x (g_86 L xs w h) (by decide) hj (by decide)).trans (congrArg some (z_86 L xs w h _))
theorem g_87 : (hp L xs w h)[87]? = some (.inr (.inr (0, [.int (w 87 0), .int (w 87 1), .ref 88, .ref 89, .ref 90, .ref 91]))) := rfl
theorem rv_87 (as : List Value) : p_recv (hp L xs w h) 0 (.ref 87 :: as) = true := p_recv_at as (g_87 L xs w h)
theorem gI_87_0 : p_gI (hp L xs w h) 0 87 0 = some (w 87 0) := p_gI_at (g_87 L xs w h) rfl
theorem pt_87_0 (x : Int32) : p_put (hp L xs w h) 0 87 0 (.int x) = some (hp L xs (mUp w 87 0 x) h) := (p_put_at (.int x) (g_87 L xs w h) (show 0 < 6 by decide)).trans (congrArg some rfl)
theorem gI_87_1 : p_gI (hp L xs w h) 0 87 1 = some (w 87 1) := p_gI_at (g_87 L xs w h) rfl
theorem pt_87_1 (x : Int32) : p_put (hp L xs w h) 0 87 1 (.int x) = some (hp L xs (mUp w 87 1 x) h) := (p_put_at (.int x) (g_87 L xs w h) (show 1 < 6 by decide)).trans (congrArg some rfl)
theorem gR_87_2 : p_gR (hp L xs w h) 0 87 2 = some 88 := p_gR_at (g_87 L xs w h) rfl
theorem gR_87_3 : p_gR (hp L xs w h) 0 87 3 = some 89 := p_gR_at (g_87 L xs w h) rfl
theorem gR_87_4 : p_gR (hp L xs w h) 0 87 4 = some 90 := p_gR_at (g_87 L xs w h) rfl
theorem gR_87_5 : p_gR (hp L xs w h) 0 87 5 = some 91 := p_gR_at (g_87 L xs w h) rfl
theorem g_88 : (hp L xs w h)[88]? = some (.inl (0, 16, w 88)) := rfl
theorem z_88 (f : Nat → Int32) : (hp L xs w h).set 88 (.inl (0, 16, f)) = hp L xs (mSet w 88 f) h := rfl
theorem ld_88 (j : Nat) (hj : j < 16) : p_ld (hp L xs w h) 0 88 (nI j) = some (w 88 j) := p_ld_at (g_88 L xs w h) hj (by decide)
theorem st_88 (j : Nat) (x : Int32) (hj : j < 16) : p_st (hp L xs w h) 0 88 (nI j) x = some (hp L xs (mUp w 88 j x) h) := (p_st_at x (g_88 L xs w h) (by decide) hj (by decide)).trans (congrArg some (z_88 L xs w h _))
theorem g_89 : (hp L xs w h)[89]? = some (.inl (0, 17, w 89)) := rfl
theorem z_89 (f : Nat → Int32) : (hp L xs w h).set 89 (.inl (0, 17, f)) = hp L xs (mSet w 89 f) h := rfl
theorem ld_89 (j : Nat) (hj : j < 17) : p_ld (hp L xs w h) 0 89 (nI j) = some (w 89 j) := p_ld_at (g_89 L xs w h) hj (by decide)
theorem st_89 (j : Nat) (x : Int32) (hj : j < 17) : p_st (hp L xs w h) 0 89 (nI j) x = some (hp L xs (mUp w 89 j x) h) := (p_st_at x (g_89 L xs w h) (by decide) hj (by decide)).trans (congrArg some (z_89 L xs w h _))
theorem g_90 : (hp L xs w h)[90]? = some (.inl (0, 16, w 90)) := rfl
theorem z_90 (f : Nat → Int32) : (hp L xs w h).set 90 (.inl (0, 16, f)) = hp L xs (mSet w 90 f) h := rfl
theorem ld_90 (j : Nat) (hj : j < 16) : p_ld (hp L xs w h) 0 90 (nI j) = some (w 90 j) := p_ld_at (g_90 L xs w h) hj (by decide)
theorem st_90 (j : Nat) (x : Int32) (hj : j < 16) : p_st (hp L xs w h) 0 90 (nI j) x = some (hp L xs (mUp w 90 j x) h) := (p_st_at x (g_90 L xs w h) (by decide) hj (by decide)).trans (congrArg some (z_90 L xs w h _))
theorem g_91 : (hp L xs w h)[91]? = some (.inl (0, 16, w 91)) := rfl
theorem z_91 (f : Nat → Int32) : (hp L xs w h).set 91 (.inl (0, 16, f)) = hp L xs (mSet w 91 f) h := rfl
theorem ld_91 (j : Nat) (hj : j < 16) : p_ld (hp L xs w h) 0 91 (nI j) = some (w 91 j) := p_ld_at (g_91 L xs w h) hj (by decide)
theorem st_91 (j : Nat) (x : Int32) (hj : j < 16) : p_st (hp L xs w h) 0 91 (nI j) x = some (hp L xs (mUp w 91 j x) h) := (p_st_at x (g_91 L xs w h) (by decide) hj (by decide)).trans (congrArg some (z_91 L xs w h _))
theorem g_92 : (hp L xs w h)[92]? = some (.inr (.inr (0, [.int (w 92 0), .int (w 92 1), .ref 93, .ref 94, .ref 95, .ref 96]))) := rfl
theorem rv_92 (as : List Value) : p_recv (hp L xs w h) 0 (.ref 92 :: as) = true := p_recv_at as (g_92 L xs w h)
theorem gI_92_0 : p_gI (hp L xs w h) 0 92 0 = some (w 92 0) := p_gI_at (g_92 L xs w h) rfl
theorem pt_92_0 (x : Int32) : p_put (hp L xs w h) 0 92 0 (.int x) = some (hp L xs (mUp w 92 0 x) h) := (p_put_at (.int x) (g_92 L xs w h) (show 0 < 6 by decide)).trans (congrArg some rfl)
theorem gI_92_1 : p_gI (hp L xs w h) 0 92 1 = some (w 92 1) := p_gI_at (g_92 L xs w h) rfl
theorem pt_92_1 (x : Int32) : p_put (hp L xs w h) 0 92 1 (.int x) = some (hp L xs (mUp w 92 1 x) h) := (p_put_at (.int x) (g_92 L xs w h) (show 1 < 6 by decide)).trans (congrArg some rfl)
theorem gR_92_2 : p_gR (hp L xs w h) 0 92 2 = some 93 := p_gR_at (g_92 L xs w h) rfl
theorem gR_92_3 : p_gR (hp L xs w h) 0 92 3 = some 94 := p_gR_at (g_92 L xs w h) rfl
theorem gR_92_4 : p_gR (hp L xs w h) 0 92 4 = some 95 := p_gR_at (g_92 L xs w h) rfl
theorem gR_92_5 : p_gR (hp L xs w h) 0 92 5 = some 96 := p_gR_at (g_92 L xs w h) rfl
theorem g_93 : (hp L xs w h)[93]? = some (.inl (0, 16, w 93)) := rfl
theorem z_93 (f : Nat → Int32) : (hp L xs w h).set 93 (.inl (0, 16, f)) = hp L xs (mSet w 93 f) h := rfl
theorem ld_93 (j : Nat) (hj : j < 16) : p_ld (hp L xs w h) 0 93 (nI j) = some (w 93 j) := p_ld_at (g_93 L xs w h) hj (by decide)
theorem st_93 (j : Nat) (x : Int32) (hj : j < 16) : p_st (hp L xs w h) 0 93 (nI j) x = some (hp L xs (mUp w 93 j x) h) := (p_st_at x (g_93 L xs w h) (by decide) hj (by decide)).trans (congrArg some (z_93 L xs w h _))
theorem g_94 : (hp L xs w h)[94]? = some (.inl (0, 17, w 94)) := rfl
theorem z_94 (f : Nat → Int32) : (hp L xs w h).set 94 (.inl (0, 17, f)) = hp L xs (mSet w 94 f) h := rfl
theorem ld_94 (j : Nat) (hj : j < 17) : p_ld (hp L xs w h) 0 94 (nI j) = some (w 94 j) := p_ld_at (g_94 L xs w h) hj (by decide)
theorem st_94 (j : Nat) (x : Int32) (hj : j < 17) : p_st (hp L xs w h) 0 94 (nI j) x = some (hp L xs (mUp w 94 j x) h) := (p_st_at x (g_94 L xs w h) (by decide) hj (by decide)).trans (congrArg some (z_94 L xs w h _))
theorem g_95 : (hp L xs w h)[95]? = some (.inl (0, 16, w 95)) := rfl
theorem z_95 (f : Nat → Int32) : (hp L xs w h).set 95 (.inl (0, 16, f)) = hp L xs (mSet w 95 f) h := rfl
theorem ld_95 (j : Nat) (hj : j < 16) : p_ld (hp L xs w h) 0 95 (nI j) = some (w 95 j) := p_ld_at (g_95 L xs w h) hj (by decide)
theorem st_95 (j : Nat) (x : Int32) (hj : j < 16) : p_st (hp L xs w h) 0 95 (nI j) x = some (hp L xs (mUp w 95 j x) h) := (p_st_at x (g_95 L xs w h) (by decide) hj (by decide)).trans (congrArg some (z_95 L xs w h _))
theorem g_96 : (hp L xs w h)[96]? = some (.inl (0, 16, w 96)) := rfl
theorem z_96 (f : Nat → Int32) : (hp L xs w h).set 96 (.inl (0, 16, f)) = hp L xs (mSet w 96 f) h := rfl
theorem ld_96 (j : Nat) (hj : j < 16) : p_ld (hp L xs w h) 0 96 (nI j) = some (w 96 j) := p_ld_at (g_96 L xs w h) hj (by decide)
theorem st_96 (j : Nat) (x : Int32) (hj : j < 16) : p_st (hp L xs w h) 0 96 (nI j) x = some (hp L xs (mUp w 96 j x) h) := (p_st_at x (g_96 L xs w h) (by decide) hj (by decide)).trans (congrArg some (z_96 L xs w h _))
theorem g_97 : (hp L xs w h)[97]? = some (.inr (.inr (0, [.int (w 97 0), .int (w 97 1), .ref 98, .ref 99, .ref 100, .ref 101]))) := rfl
theorem rv_97 (as : List Value) : p_recv (hp L xs w h) 0 (.ref 97 :: as) = true := p_recv_at as (g_97 L xs w h)
theorem gI_97_0 : p_gI (hp L xs w h) 0 97 0 = some (w 97 0) := p_gI_at (g_97 L xs w h) rfl
theorem pt_97_0 (x : Int32) : p_put (hp L xs w h) 0 97 0 (.int x) = some (hp L xs (mUp w 97 0 x) h) := (p_put_at (.int x) (g_97 L xs w h) (show 0 < 6 by decide)).trans (congrArg some rfl)
theorem gI_97_1 : p_gI (hp L xs w h) 0 97 1 = some (w 97 1) := p_gI_at (g_97 L xs w h) rfl
theorem pt_97_1 (x : Int32) : p_put (hp L xs w h) 0 97 1 (.int x) = some (hp L xs (mUp w 97 1 x) h) := (p_put_at (.int x) (g_97 L xs w h) (show 1 < 6 by decide)).trans (congrArg some rfl)
theorem gR_97_2 : p_gR (hp L xs w h) 0 97 2 = some 98 := p_gR_at (g_97 L xs w h) rfl
theorem gR_97_3 : p_gR (hp L xs w h) 0 97 3 = some 99 := p_gR_at (g_97 L xs w h) rfl
theorem gR_97_4 : p_gR (hp L xs w h) 0 97 4 = some 100 := p_gR_at (g_97 L xs w h) rfl
theorem gR_97_5 : p_gR (hp L xs w h) 0 97 5 = some 101 := p_gR_at (g_97 L xs w h) rfl
theorem g_98 : (hp L xs w h)[98]? = some (.inl (0, 16, w 98)) := rfl
theorem z_98 (f : Nat → Int32) : (hp L xs w h).set 98 (.inl (0, 16, f)) = hp L xs (mSet w 98 f) h := rfl
theorem ld_98 (j : Nat) (hj : j < 16) : p_ld (hp L xs w h) 0 98 (nI j) = some (w 98 j) := p_ld_at (g_98 L xs w h) hj (by decide)
theorem st_98 (j : Nat) (x : Int32) (hj : j < 16) : p_st (hp L xs w h) 0 98 (nI j) x = some (hp L xs (mUp w 98 j x) h) := (p_st_at x (g_98 L xs w h) (by decide) hj (by decide)).trans (congrArg some (z_98 L xs w h _))
theorem g_99 : (hp L xs w h)[99]? = some (.inl (0, 17, w 99)) := rfl
theorem z_99 (f : Nat → Int32) : (hp L xs w h).set 99 (.inl (0, 17, f)) = hp L xs (mSet w 99 f) h := rfl
theorem ld_99 (j : Nat) (hj : j < 17) : p_ld (hp L xs w h) 0 99 (nI j) = some (w 99 j) := p_ld_at (g_99 L xs w h) hj (by decide)
theorem st_99 (j : Nat) (x : Int32) (hj : j < 17) : p_st (hp L xs w h) 0 99 (nI j) x = some (hp L xs (mUp w 99 j x) h) := (p_st_at x (g_99 L xs w h) (by decide) hj (by decide)).trans (congrArg some (z_99 L xs w h _))
theorem g_100 : (hp L xs w h)[100]? = some (.inl (0, 16, w 100)) := rfl
theorem z_100 (f : Nat → Int32) : (hp L xs w h).set 100 (.inl (0, 16, f)) = hp L xs (mSet w 100 f) h := rfl
theorem ld_100 (j : Nat) (hj : j < 16) : p_ld (hp L xs w h) 0 100 (nI j) = some (w 100 j) := p_ld_at (g_100 L xs w h) hj (by decide)
theorem st_100 (j : Nat) (x : Int32) (hj : j < 16) : p_st (hp L xs w h) 0 100 (nI j) x = some (hp L xs (mUp w 100 j x) h) := (p_st_at x (g_100 L xs w h) (by decide) hj (by decide)).trans (congrArg some (z_100 L xs w h _))
theorem g_101 : (hp L xs w h)[101]? = some (.inl (0, 16, w 101)) := rfl
theorem z_101 (f : Nat → Int32) : (hp L xs w h).set 101 (.inl (0, 16, f)) = hp L xs (mSet w 101 f) h := rfl
theorem ld_101 (j : Nat) (hj : j < 16) : p_ld (hp L xs w h) 0 101 (nI j) = some (w 101 j) := p_ld_at (g_101 L xs w h) hj (by decide)
theorem st_101 (j : Nat) (x : Int32) (hj : j < 16) : p_st (hp L xs w h) 0 101 (nI j) x = some (hp L xs (mUp w 101 j x) h) := (p_st_at x (g_101 L xs w h) (by decide) hj (by decide)).trans (congrArg some (z_101 L xs w h _))
theorem zH (f : Nat → Option Nat) : (hp L xs w h).set 11 (.inr (.inl (3, 7, f))) = hp L xs w f := rfl
end mem
abbrev isSA (a : Nat) : Prop := a = 5 ∨ a = 18 ∨ a = 24 ∨ a = 30 ∨ a = 36 ∨ a = 42 ∨ a = 48 ∨ a = 54 ∨ a = 60 ∨ a = 66
abbrev isLA (a : Nat) : Prop := a = 72 ∨ a = 77 ∨ a = 82 ∨ a = 87 ∨ a = 92 ∨ a = 97
section fam
variable (L : Nat) (xs : Nat → Int32) (w : Nat → Nat → Int32) (h : Nat → Option Nat)
theorem gR_S_0 {a : Nat} (ha : isSA a) : p_gR (hp L xs w h) 3 a 0 = some (a + 1) := by
  rcases ha with rfl | rfl | rfl | rfl | rfl | rfl | rfl | rfl | rfl | rfl <;> first | exact gR_5_0 L xs w h | exact gR_18_0 L xs w h | exact gR_24_0 L xs w h | exact gR_30_0 L xs w h | exact gR_36_0 L xs w h | exact gR_42_0 L xs w h | exact gR_48_0 L xs w h | exact gR_54_0 L xs w h | exact gR_60_0 L xs w h | exact gR_66_0 L xs w h
theorem gR_S_1 {a : Nat} (ha : isSA a) : p_gR (hp L xs w h) 3 a 1 = some (a + 2) := by
  rcases ha with rfl | rfl | rfl | rfl | rfl | rfl | rfl | rfl | rfl | rfl <;> first | exact gR_5_1 L xs w h | exact gR_18_1 L xs w h | exact gR_24_1 L xs w h | exact gR_30_1 L xs w h | exact gR_36_1 L xs w h | exact gR_42_1 L xs w h | exact gR_48_1 L xs w h | exact gR_54_1 L xs w h | exact gR_60_1 L xs w h | exact gR_66_1 L xs w h
theorem gR_S_2 {a : Nat} (ha : isSA a) : p_gR (hp L xs w h) 3 a 2 = some (a + 3) := by
  rcases ha with rfl | rfl | rfl | rfl | rfl | rfl | rfl | rfl | rfl | rfl <;> first | exact gR_5_2 L xs w h | exact gR_18_2 L xs w h | exact gR_24_2 L xs w h | exact gR_30_2 L xs w h | exact gR_36_2 L xs w h | exact gR_42_2 L xs w h | exact gR_48_2 L xs w h | exact gR_54_2 L xs w h | exact gR_60_2 L xs w h | exact gR_66_2 L xs w h
theorem gR_S_3 {a : Nat} (ha : isSA a) : p_gR (hp L xs w h) 3 a 3 = some (a + 4) := by
  rcases ha with rfl | rfl | rfl | rfl | rfl | rfl | rfl | rfl | rfl | rfl <;> first | exact gR_5_3 L xs w h | exact gR_18_3 L xs w h | exact gR_24_3 L xs w h | exact gR_30_3 L xs w h | exact gR_36_3 L xs w h | exact gR_42_3 L xs w h | exact gR_48_3 L xs w h | exact gR_54_3 L xs w h | exact gR_60_3 L xs w h | exact gR_66_3 L xs w h
theorem gR_S_4 {a : Nat} (ha : isSA a) : p_gR (hp L xs w h) 3 a 4 = some (a + 5) := by
  rcases ha with rfl | rfl | rfl | rfl | rfl | rfl | rfl | rfl | rfl | rfl <;> first | exact gR_5_4 L xs w h | exact gR_18_4 L xs w h | exact gR_24_4 L xs w h | exact gR_30_4 L xs w h | exact gR_36_4 L xs w h | exact gR_42_4 L xs w h | exact gR_48_4 L xs w h | exact gR_54_4 L xs w h | exact gR_60_4 L xs w h | exact gR_66_4 L xs w h
theorem gI_S_5 {a : Nat} (ha : isSA a) : p_gI (hp L xs w h) 3 a 5 = some (w a 5) := by
  rcases ha with rfl | rfl | rfl | rfl | rfl | rfl | rfl | rfl | rfl | rfl <;> first | exact gI_5_5 L xs w h | exact gI_18_5 L xs w h | exact gI_24_5 L xs w h | exact gI_30_5 L xs w h | exact gI_36_5 L xs w h | exact gI_42_5 L xs w h | exact gI_48_5 L xs w h | exact gI_54_5 L xs w h | exact gI_60_5 L xs w h | exact gI_66_5 L xs w h
theorem pt_S_5 {a : Nat} (ha : isSA a) (x : Int32) : p_put (hp L xs w h) 3 a 5 (.int x) = some (hp L xs (mUp w a 5 x) h) := by
  rcases ha with rfl | rfl | rfl | rfl | rfl | rfl | rfl | rfl | rfl | rfl <;> first | exact pt_5_5 L xs w h x | exact pt_18_5 L xs w h x | exact pt_24_5 L xs w h x | exact pt_30_5 L xs w h x | exact pt_36_5 L xs w h x | exact pt_42_5 L xs w h x | exact pt_48_5 L xs w h x | exact pt_54_5 L xs w h x | exact pt_60_5 L xs w h x | exact pt_66_5 L xs w h x
theorem gI_S_6 {a : Nat} (ha : isSA a) : p_gI (hp L xs w h) 3 a 6 = some (w a 6) := by
  rcases ha with rfl | rfl | rfl | rfl | rfl | rfl | rfl | rfl | rfl | rfl <;> first | exact gI_5_6 L xs w h | exact gI_18_6 L xs w h | exact gI_24_6 L xs w h | exact gI_30_6 L xs w h | exact gI_36_6 L xs w h | exact gI_42_6 L xs w h | exact gI_48_6 L xs w h | exact gI_54_6 L xs w h | exact gI_60_6 L xs w h | exact gI_66_6 L xs w h
theorem pt_S_6 {a : Nat} (ha : isSA a) (x : Int32) : p_put (hp L xs w h) 3 a 6 (.int x) = some (hp L xs (mUp w a 6 x) h) := by
  rcases ha with rfl | rfl | rfl | rfl | rfl | rfl | rfl | rfl | rfl | rfl <;> first | exact pt_5_6 L xs w h x | exact pt_18_6 L xs w h x | exact pt_24_6 L xs w h x | exact pt_30_6 L xs w h x | exact pt_36_6 L xs w h x | exact pt_42_6 L xs w h x | exact pt_48_6 L xs w h x | exact pt_54_6 L xs w h x | exact pt_60_6 L xs w h x | exact pt_66_6 L xs w h x
theorem g_S_1 {a : Nat} (ha : isSA a) : (hp L xs w h)[a + 1]? = some (.inl (0, 3, w (a + 1))) := by
  rcases ha with rfl | rfl | rfl | rfl | rfl | rfl | rfl | rfl | rfl | rfl <;> first | exact g_6 L xs w h | exact g_19 L xs w h | exact g_25 L xs w h | exact g_31 L xs w h | exact g_37 L xs w h | exact g_43 L xs w h | exact g_49 L xs w h | exact g_55 L xs w h | exact g_61 L xs w h | exact g_67 L xs w h
theorem z_S_1 {a : Nat} (ha : isSA a) (f : Nat → Int32) : (hp L xs w h).set (a + 1) (.inl (0, 3, f)) = hp L xs (mSet w (a + 1) f) h := by
  rcases ha with rfl | rfl | rfl | rfl | rfl | rfl | rfl | rfl | rfl | rfl <;> first | exact z_6 L xs w h f | exact z_19 L xs w h f | exact z_25 L xs w h f | exact z_31 L xs w h f | exact z_37 L xs w h f | exact z_43 L xs w h f | exact z_49 L xs w h f | exact z_55 L xs w h f | exact z_61 L xs w h f | exact z_67 L xs w h f
theorem ld_S_1 {a : Nat} (ha : isSA a) (j : Nat) (hj : j < 3) : p_ld (hp L xs w h) 0 (a + 1) (nI j) = some (w (a + 1) j) := p_ld_at (g_S_1 L xs w h ha) hj (by decide)
theorem st_S_1 {a : Nat} (ha : isSA a) (j : Nat) (x : Int32) (hj : j < 3) : p_st (hp L xs w h) 0 (a + 1) (nI j) x = some (hp L xs (mUp w (a + 1) j x) h) := (p_st_at x (g_S_1 L xs w h ha) (by omega) hj (by decide)).trans (congrArg some (z_S_1 L xs w h ha _))
theorem g_S_2 {a : Nat} (ha : isSA a) : (hp L xs w h)[a + 2]? = some (.inl (0, 16, w (a + 2))) := by
  rcases ha with rfl | rfl | rfl | rfl | rfl | rfl | rfl | rfl | rfl | rfl <;> first | exact g_7 L xs w h | exact g_20 L xs w h | exact g_26 L xs w h | exact g_32 L xs w h | exact g_38 L xs w h | exact g_44 L xs w h | exact g_50 L xs w h | exact g_56 L xs w h | exact g_62 L xs w h | exact g_68 L xs w h
theorem z_S_2 {a : Nat} (ha : isSA a) (f : Nat → Int32) : (hp L xs w h).set (a + 2) (.inl (0, 16, f)) = hp L xs (mSet w (a + 2) f) h := by
  rcases ha with rfl | rfl | rfl | rfl | rfl | rfl | rfl | rfl | rfl | rfl <;> first | exact z_7 L xs w h f | exact z_20 L xs w h f | exact z_26 L xs w h f | exact z_32 L xs w h f | exact z_38 L xs w h f | exact z_44 L xs w h f | exact z_50 L xs w h f | exact z_56 L xs w h f | exact z_62 L xs w h f | exact z_68 L xs w h f
theorem ld_S_2 {a : Nat} (ha : isSA a) (j : Nat) (hj : j < 16) : p_ld (hp L xs w h) 0 (a + 2) (nI j) = some (w (a + 2) j) := p_ld_at (g_S_2 L xs w h ha) hj (by decide)
theorem st_S_2 {a : Nat} (ha : isSA a) (j : Nat) (x : Int32) (hj : j < 16) : p_st (hp L xs w h) 0 (a + 2) (nI j) x = some (hp L xs (mUp w (a + 2) j x) h) := (p_st_at x (g_S_2 L xs w h ha) (by omega) hj (by decide)).trans (congrArg some (z_S_2 L xs w h ha _))
theorem g_S_3 {a : Nat} (ha : isSA a) : (hp L xs w h)[a + 3]? = some (.inl (0, 12, w (a + 3))) := by
  rcases ha with rfl | rfl | rfl | rfl | rfl | rfl | rfl | rfl | rfl | rfl <;> first | exact g_8 L xs w h | exact g_21 L xs w h | exact g_27 L xs w h | exact g_33 L xs w h | exact g_39 L xs w h | exact g_45 L xs w h | exact g_51 L xs w h | exact g_57 L xs w h | exact g_63 L xs w h | exact g_69 L xs w h
theorem z_S_3 {a : Nat} (ha : isSA a) (f : Nat → Int32) : (hp L xs w h).set (a + 3) (.inl (0, 12, f)) = hp L xs (mSet w (a + 3) f) h := by
  rcases ha with rfl | rfl | rfl | rfl | rfl | rfl | rfl | rfl | rfl | rfl <;> first | exact z_8 L xs w h f | exact z_21 L xs w h f | exact z_27 L xs w h f | exact z_33 L xs w h f | exact z_39 L xs w h f | exact z_45 L xs w h f | exact z_51 L xs w h f | exact z_57 L xs w h f | exact z_63 L xs w h f | exact z_69 L xs w h f
theorem ld_S_3 {a : Nat} (ha : isSA a) (j : Nat) (hj : j < 12) : p_ld (hp L xs w h) 0 (a + 3) (nI j) = some (w (a + 3) j) := p_ld_at (g_S_3 L xs w h ha) hj (by decide)
theorem st_S_3 {a : Nat} (ha : isSA a) (j : Nat) (x : Int32) (hj : j < 12) : p_st (hp L xs w h) 0 (a + 3) (nI j) x = some (hp L xs (mUp w (a + 3) j x) h) := (p_st_at x (g_S_3 L xs w h ha) (by omega) hj (by decide)).trans (congrArg some (z_S_3 L xs w h ha _))
theorem g_S_4 {a : Nat} (ha : isSA a) : (hp L xs w h)[a + 4]? = some (.inl (0, 12, w (a + 4))) := by
  rcases ha with rfl | rfl | rfl | rfl | rfl | rfl | rfl | rfl | rfl | rfl <;> first | exact g_9 L xs w h | exact g_22 L xs w h | exact g_28 L xs w h | exact g_34 L xs w h | exact g_40 L xs w h | exact g_46 L xs w h | exact g_52 L xs w h | exact g_58 L xs w h | exact g_64 L xs w h | exact g_70 L xs w h
theorem z_S_4 {a : Nat} (ha : isSA a) (f : Nat → Int32) : (hp L xs w h).set (a + 4) (.inl (0, 12, f)) = hp L xs (mSet w (a + 4) f) h := by
  rcases ha with rfl | rfl | rfl | rfl | rfl | rfl | rfl | rfl | rfl | rfl <;> first | exact z_9 L xs w h f | exact z_22 L xs w h f | exact z_28 L xs w h f | exact z_34 L xs w h f | exact z_40 L xs w h f | exact z_46 L xs w h f | exact z_52 L xs w h f | exact z_58 L xs w h f | exact z_64 L xs w h f | exact z_70 L xs w h f
theorem ld_S_4 {a : Nat} (ha : isSA a) (j : Nat) (hj : j < 12) : p_ld (hp L xs w h) 0 (a + 4) (nI j) = some (w (a + 4) j) := p_ld_at (g_S_4 L xs w h ha) hj (by decide)
theorem st_S_4 {a : Nat} (ha : isSA a) (j : Nat) (x : Int32) (hj : j < 12) : p_st (hp L xs w h) 0 (a + 4) (nI j) x = some (hp L xs (mUp w (a + 4) j x) h) := (p_st_at x (g_S_4 L xs w h ha) (by omega) hj (by decide)).trans (congrArg some (z_S_4 L xs w h ha _))
theorem g_S_5 {a : Nat} (ha : isSA a) : (hp L xs w h)[a + 5]? = some (.inl (0, 5, w (a + 5))) := by
  rcases ha with rfl | rfl | rfl | rfl | rfl | rfl | rfl | rfl | rfl | rfl <;> first | exact g_10 L xs w h | exact g_23 L xs w h | exact g_29 L xs w h | exact g_35 L xs w h | exact g_41 L xs w h | exact g_47 L xs w h | exact g_53 L xs w h | exact g_59 L xs w h | exact g_65 L xs w h | exact g_71 L xs w h
theorem z_S_5 {a : Nat} (ha : isSA a) (f : Nat → Int32) : (hp L xs w h).set (a + 5) (.inl (0, 5, f)) = hp L xs (mSet w (a + 5) f) h := by
  rcases ha with rfl | rfl | rfl | rfl | rfl | rfl | rfl | rfl | rfl | rfl <;> first | exact z_10 L xs w h f | exact z_23 L xs w h f | exact z_29 L xs w h f | exact z_35 L xs w h f | exact z_41 L xs w h f | exact z_47 L xs w h f | exact z_53 L xs w h f | exact z_59 L xs w h f | exact z_65 L xs w h f | exact z_71 L xs w h f
theorem ld_S_5 {a : Nat} (ha : isSA a) (j : Nat) (hj : j < 5) : p_ld (hp L xs w h) 0 (a + 5) (nI j) = some (w (a + 5) j) := p_ld_at (g_S_5 L xs w h ha) hj (by decide)
theorem st_S_5 {a : Nat} (ha : isSA a) (j : Nat) (x : Int32) (hj : j < 5) : p_st (hp L xs w h) 0 (a + 5) (nI j) x = some (hp L xs (mUp w (a + 5) j x) h) := (p_st_at x (g_S_5 L xs w h ha) (by omega) hj (by decide)).trans (congrArg some (z_S_5 L xs w h ha _))
theorem rv_S {a : Nat} (ha : isSA a) (as : List Value) : p_recv (hp L xs w h) 3 (.ref a :: as) = true := by
  rcases ha with rfl | rfl | rfl | rfl | rfl | rfl | rfl | rfl | rfl | rfl <;> first | exact rv_5 L xs w h as | exact rv_18 L xs w h as | exact rv_24 L xs w h as | exact rv_30 L xs w h as | exact rv_36 L xs w h as | exact rv_42 L xs w h as | exact rv_48 L xs w h as | exact rv_54 L xs w h as | exact rv_60 L xs w h as | exact rv_66 L xs w h as
theorem gI_Y_0 {a : Nat} (ha : isLA a) : p_gI (hp L xs w h) 0 a 0 = some (w a 0) := by
  rcases ha with rfl | rfl | rfl | rfl | rfl | rfl <;> first | exact gI_72_0 L xs w h | exact gI_77_0 L xs w h | exact gI_82_0 L xs w h | exact gI_87_0 L xs w h | exact gI_92_0 L xs w h | exact gI_97_0 L xs w h
theorem pt_Y_0 {a : Nat} (ha : isLA a) (x : Int32) : p_put (hp L xs w h) 0 a 0 (.int x) = some (hp L xs (mUp w a 0 x) h) := by
  rcases ha with rfl | rfl | rfl | rfl | rfl | rfl <;> first | exact pt_72_0 L xs w h x | exact pt_77_0 L xs w h x | exact pt_82_0 L xs w h x | exact pt_87_0 L xs w h x | exact pt_92_0 L xs w h x | exact pt_97_0 L xs w h x
theorem gI_Y_1 {a : Nat} (ha : isLA a) : p_gI (hp L xs w h) 0 a 1 = some (w a 1) := by
  rcases ha with rfl | rfl | rfl | rfl | rfl | rfl <;> first | exact gI_72_1 L xs w h | exact gI_77_1 L xs w h | exact gI_82_1 L xs w h | exact gI_87_1 L xs w h | exact gI_92_1 L xs w h | exact gI_97_1 L xs w h
theorem pt_Y_1 {a : Nat} (ha : isLA a) (x : Int32) : p_put (hp L xs w h) 0 a 1 (.int x) = some (hp L xs (mUp w a 1 x) h) := by
  rcases ha with rfl | rfl | rfl | rfl | rfl | rfl <;> first | exact pt_72_1 L xs w h x | exact pt_77_1 L xs w h x | exact pt_82_1 L xs w h x | exact pt_87_1 L xs w h x | exact pt_92_1 L xs w h x | exact pt_97_1 L xs w h x
theorem gR_Y_2 {a : Nat} (ha : isLA a) : p_gR (hp L xs w h) 0 a 2 = some (a + 1) := by
  rcases ha with rfl | rfl | rfl | rfl | rfl | rfl <;> first | exact gR_72_2 L xs w h | exact gR_77_2 L xs w h | exact gR_82_2 L xs w h | exact gR_87_2 L xs w h | exact gR_92_2 L xs w h | exact gR_97_2 L xs w h
theorem gR_Y_3 {a : Nat} (ha : isLA a) : p_gR (hp L xs w h) 0 a 3 = some (a + 2) := by
  rcases ha with rfl | rfl | rfl | rfl | rfl | rfl <;> first | exact gR_72_3 L xs w h | exact gR_77_3 L xs w h | exact gR_82_3 L xs w h | exact gR_87_3 L xs w h | exact gR_92_3 L xs w h | exact gR_97_3 L xs w h
theorem gR_Y_4 {a : Nat} (ha : isLA a) : p_gR (hp L xs w h) 0 a 4 = some (a + 3) := by
  rcases ha with rfl | rfl | rfl | rfl | rfl | rfl <;> first | exact gR_72_4 L xs w h | exact gR_77_4 L xs w h | exact gR_82_4 L xs w h | exact gR_87_4 L xs w h | exact gR_92_4 L xs w h | exact gR_97_4 L xs w h
theorem gR_Y_5 {a : Nat} (ha : isLA a) : p_gR (hp L xs w h) 0 a 5 = some (a + 4) := by
  rcases ha with rfl | rfl | rfl | rfl | rfl | rfl <;> first | exact gR_72_5 L xs w h | exact gR_77_5 L xs w h | exact gR_82_5 L xs w h | exact gR_87_5 L xs w h | exact gR_92_5 L xs w h | exact gR_97_5 L xs w h
theorem g_Y_1 {a : Nat} (ha : isLA a) : (hp L xs w h)[a + 1]? = some (.inl (0, 16, w (a + 1))) := by
  rcases ha with rfl | rfl | rfl | rfl | rfl | rfl <;> first | exact g_73 L xs w h | exact g_78 L xs w h | exact g_83 L xs w h | exact g_88 L xs w h | exact g_93 L xs w h | exact g_98 L xs w h
theorem z_Y_1 {a : Nat} (ha : isLA a) (f : Nat → Int32) : (hp L xs w h).set (a + 1) (.inl (0, 16, f)) = hp L xs (mSet w (a + 1) f) h := by
  rcases ha with rfl | rfl | rfl | rfl | rfl | rfl <;> first | exact z_73 L xs w h f | exact z_78 L xs w h f | exact z_83 L xs w h f | exact z_88 L xs w h f | exact z_93 L xs w h f | exact z_98 L xs w h f
theorem ld_Y_1 {a : Nat} (ha : isLA a) (j : Nat) (hj : j < 16) : p_ld (hp L xs w h) 0 (a + 1) (nI j) = some (w (a + 1) j) := p_ld_at (g_Y_1 L xs w h ha) hj (by decide)
theorem st_Y_1 {a : Nat} (ha : isLA a) (j : Nat) (x : Int32) (hj : j < 16) : p_st (hp L xs w h) 0 (a + 1) (nI j) x = some (hp L xs (mUp w (a + 1) j x) h) := (p_st_at x (g_Y_1 L xs w h ha) (by omega) hj (by decide)).trans (congrArg some (z_Y_1 L xs w h ha _))
theorem g_Y_2 {a : Nat} (ha : isLA a) : (hp L xs w h)[a + 2]? = some (.inl (0, 17, w (a + 2))) := by
  rcases ha with rfl | rfl | rfl | rfl | rfl | rfl <;> first | exact g_74 L xs w h | exact g_79 L xs w h | exact g_84 L xs w h | exact g_89 L xs w h | exact g_94 L xs w h | exact g_99 L xs w h
theorem z_Y_2 {a : Nat} (ha : isLA a) (f : Nat → Int32) : (hp L xs w h).set (a + 2) (.inl (0, 17, f)) = hp L xs (mSet w (a + 2) f) h := by
  rcases ha with rfl | rfl | rfl | rfl | rfl | rfl <;> first | exact z_74 L xs w h f | exact z_79 L xs w h f | exact z_84 L xs w h f | exact z_89 L xs w h f | exact z_94 L xs w h f | exact z_99 L xs w h f
theorem ld_Y_2 {a : Nat} (ha : isLA a) (j : Nat) (hj : j < 17) : p_ld (hp L xs w h) 0 (a + 2) (nI j) = some (w (a + 2) j) := p_ld_at (g_Y_2 L xs w h ha) hj (by decide)
theorem st_Y_2 {a : Nat} (ha : isLA a) (j : Nat) (x : Int32) (hj : j < 17) : p_st (hp L xs w h) 0 (a + 2) (nI j) x = some (hp L xs (mUp w (a + 2) j x) h) := (p_st_at x (g_Y_2 L xs w h ha) (by omega) hj (by decide)).trans (congrArg some (z_Y_2 L xs w h ha _))
theorem g_Y_3 {a : Nat} (ha : isLA a) : (hp L xs w h)[a + 3]? = some (.inl (0, 16, w (a + 3))) := by
  rcases ha with rfl | rfl | rfl | rfl | rfl | rfl <;> first | exact g_75 L xs w h | exact g_80 L xs w h | exact g_85 L xs w h | exact g_90 L xs w h | exact g_95 L xs w h | exact g_100 L xs w h
theorem z_Y_3 {a : Nat} (ha : isLA a) (f : Nat → Int32) : (hp L xs w h).set (a + 3) (.inl (0, 16, f)) = hp L xs (mSet w (a + 3) f) h := by
  rcases ha with rfl | rfl | rfl | rfl | rfl | rfl <;> first | exact z_75 L xs w h f | exact z_80 L xs w h f | exact z_85 L xs w h f | exact z_90 L xs w h f | exact z_95 L xs w h f | exact z_100 L xs w h f
theorem ld_Y_3 {a : Nat} (ha : isLA a) (j : Nat) (hj : j < 16) : p_ld (hp L xs w h) 0 (a + 3) (nI j) = some (w (a + 3) j) := p_ld_at (g_Y_3 L xs w h ha) hj (by decide)
theorem st_Y_3 {a : Nat} (ha : isLA a) (j : Nat) (x : Int32) (hj : j < 16) : p_st (hp L xs w h) 0 (a + 3) (nI j) x = some (hp L xs (mUp w (a + 3) j x) h) := (p_st_at x (g_Y_3 L xs w h ha) (by omega) hj (by decide)).trans (congrArg some (z_Y_3 L xs w h ha _))
theorem g_Y_4 {a : Nat} (ha : isLA a) : (hp L xs w h)[a + 4]? = some (.inl (0, 16, w (a + 4))) := by
  rcases ha with rfl | rfl | rfl | rfl | rfl | rfl <;> first | exact g_76 L xs w h | exact g_81 L xs w h | exact g_86 L xs w h | exact g_91 L xs w h | exact g_96 L xs w h | exact g_101 L xs w h
theorem z_Y_4 {a : Nat} (ha : isLA a) (f : Nat → Int32) : (hp L xs w h).set (a + 4) (.inl (0, 16, f)) = hp L xs (mSet w (a + 4) f) h := by
  rcases ha with rfl | rfl | rfl | rfl | rfl | rfl <;> first | exact z_76 L xs w h f | exact z_81 L xs w h f | exact z_86 L xs w h f | exact z_91 L xs w h f | exact z_96 L xs w h f | exact z_101 L xs w h f
theorem ld_Y_4 {a : Nat} (ha : isLA a) (j : Nat) (hj : j < 16) : p_ld (hp L xs w h) 0 (a + 4) (nI j) = some (w (a + 4) j) := p_ld_at (g_Y_4 L xs w h ha) hj (by decide)
theorem st_Y_4 {a : Nat} (ha : isLA a) (j : Nat) (x : Int32) (hj : j < 16) : p_st (hp L xs w h) 0 (a + 4) (nI j) x = some (hp L xs (mUp w (a + 4) j x) h) := (p_st_at x (g_Y_4 L xs w h ha) (by omega) hj (by decide)).trans (congrArg some (z_Y_4 L xs w h ha _))
theorem rv_Y {a : Nat} (ha : isLA a) (as : List Value) : p_recv (hp L xs w h) 0 (.ref a :: as) = true := by
  rcases ha with rfl | rfl | rfl | rfl | rfl | rfl <;> first | exact rv_72 L xs w h as | exact rv_77 L xs w h as | exact rv_82 L xs w h as | exact rv_87 L xs w h as | exact rv_92 L xs w h as | exact rv_97 L xs w h as
theorem ldR_14 (f : Nat) (hf : f < 6) : p_ldR (hp L xs w h) 14 (nI f) = some (72 + 5 * f) := p_ldR_at (g_14 L xs w h) (Or.inl rfl) hf (by decide) (by
  rcases (show f = 0 ∨ f = 1 ∨ f = 2 ∨ f = 3 ∨ f = 4 ∨ f = 5 by omega) with rfl | rfl | rfl | rfl | rfl | rfl <;> rfl)
theorem ldR_12 (f : Nat) (hf : f < 2) : p_ldR (hp L xs w h) 12 (nI f) = some (60 + 6 * f) := p_ldR_at (g_12 L xs w h) (Or.inr rfl) hf (by decide) (by
  rcases (show f = 0 ∨ f = 1 by omega) with rfl | rfl <;> rfl)
theorem ldR_11 (f b : Nat) (hf : f < 7) (hb : h f = some b) : p_ldR (hp L xs w h) 11 (nI f) = some b := p_ldR_at (g_11 L xs w h) (Or.inr rfl) hf (by decide) hb
end fam
