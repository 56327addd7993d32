/-! the model: the seat below; who sits on a seat -/
section msit
variable {L : Nat} {xs : Nat → Int32} {w : Nat → Nat → Int32} {h : Nat → Option Nat} {n : Nat} {T : lT} {b : Bn}
theorem idx_neg {x : Int32} (m : Nat) (hx : x < nI 0) : idx x m = none := by
  unfold idx
  rw [if_pos (Or.inl hx)]
theorem z_m1 : nI 0 + nM 1 = nM 1 := by decide
theorem m1_neg : nM 1 < nI 0 := by decide
theorem m_below (dd : Nat) (hT : lOk n T) (hn : n ≤ 16) (hL : ML w T) {s : Nat} (hs : s < n) : p_K (dd + 3) 106 [.ref 102, .int (nI s), .int (nM 1)] (hp L xs w h) = some (some (.int (oI (lBelow T s))), hp L xs w h) := by
  obtain ⟨c1, c2, c3⟩ := hT.2.2.2.2.1 s hs
  have hb := lHg16 hT hn c1
  unfold lBelow
  by_cases q : lRk T s = 0
  · rw [if_pos q, oI_none]
    exact m_beside_n dd hT hn hL hs (by rw [q]; exact z_m1) (idx_neg _ m1_neg)
  · rw [if_neg q, oI_some]
    exact m_beside_s dd hT hn hL hs (aPM (by omega)) (by omega)
end msit
