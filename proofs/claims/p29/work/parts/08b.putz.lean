/-! a boolean field is stored; numbers below 0 -/
def nM (n : Nat) : Int32 := -(nI n)
def o_putZ (ci j p : Nat) : pO := fun _ k ls st L => match st with
  | .int x :: .ref a :: r => if x = 0 ∨ x = 1 then (p_put L ci a j (.int x)).bind fun L' => k p ls r L' else none
  | _ => none
theorem s_putZ {μ pc idx : Nat} {ci j N : Nat} {CN : String} {TT : u_T} {tt : Nat → FieldType} (h : decode (pB μ) pc = .ok (.putfield idx, 3)) (hcl : vwCl[ci]? = some (CN, TT, N)) (hin : ∀ w ∈ u_ws CN TT N, w ∈ pWS) (hty : ∀ k, k < N → parseFieldDescriptor (TT k).2.2.1 = some (tt k)) (hnm9 : ∀ a, a < N → ∀ b, b < N → a ≠ b → (TT a).2.1 ≠ (TT b).2.1) (hjN : j < N) (hsm : (TT j).1 = CN) (hfin : (TT j).2.2.2 = false) (hti : tt j = .boolean) (hw : Cond.fieldLink (pN μ).cls idx CN (TT j).2.1 (TT j).2.2.1 ∈ pWS) : p_S μ pc (o_putZ ci j (pc + 3)) := by
  intro p l e R s m args below meth c Q G D rot d n0 s0 C o X k ls st L hop hk
  obtain ⟨⟨hx, hb, hml, hown, hts⟩, ⟨hK, hn0, h40, hro, hnw⟩, ⟨hfr, hlo, hce, hsl⟩, hC, hnm, hRet⟩ := X
  unfold o_putZ at hop
  split at hop
  · rename_i x a r
    split at hop
    · rename_i hx01
      obtain ⟨L', hg, hop⟩ := p_bind hop
      obtain ⟨fs, he, hjl, rfl⟩ := p_put_of hg
      intro hrot
      have h4 := p_rt_ge hrot he
      obtain ⟨hge, hj⟩ := hk _ _ _ _ hop (p_rt_set hrot h4)
      refine ⟨p_ge_set hge he (by simp [p_sz]), fun H locs cells slots lsA hl hlg hP hS hc hs => ?_⟩
      refine va_put hx hb hts hin tt hty hnm9 hown hK hP p_w_D hS (a - 4) (p_enc_obj h4 he) hcl j hjN (hts _ hw) (fun z hz => by rw [hsm] at hz; exact hz) hfin (ty := .boolean) (by rw [hty j hjN, hti]) (by rcases hx01 with rfl | rfl <;> rfl) (by rcases hx01 with rfl | rfl <;> rfl) (by rw [List.length_map]; exact hjl) h (fun H1 locs1 hP1 hD1 hS1 => ?_)
      have hP1 : va_P D vwCl ((p_w G L).set (a - 4) (p_ad G a, .inr (ci, (fs.map (p_v G)).set j (p_v G (.int x))))) H1 := hP1
      rw [p_w_setM h4 he] at hP1
      exact hj H1 locs1 cells slots lsA hl hlg hP1 hS1 (by rw [List.length_set]; exact hc) (by rw [p_sl_set he (by simp [p_sz])]; exact hs)
    · cases hop
  · cases hop
theorem tl_putZ (ci j p : Nat) : p_Tl (o_putZ ci j p) := by
  intro C k ls st L o h
  unfold o_putZ at h ⊢
  split at h
  · split at h
    · rename_i hq
      obtain ⟨x, hg, h⟩ := p_bind h
      exact Or.inr ⟨_, _, _, _, h, fun k' => by show (if _ then Option.bind _ _ else none) = _; rw [if_pos hq, hg]; rfl, p_up_put hg⟩
    · cases h
  · cases h
