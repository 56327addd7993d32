/-! ops that touch no heap -/
def o_push (v : Value) (p : Nat) : pO := fun _ k ls st L => k p ls (v :: st) L
theorem s_iconst {μ pc : Nat} {n : Int} {v : Int32} (h : decode (pB μ) pc = .ok (.iconst n, 1)) (hv : Int32.ofInt n = v) : p_S μ pc (o_push (.int v) (pc + 1)) := by
  intro p l e R s m args below meth c Q G D rot d n0 s0 C o X k ls st L hop hk
  obtain ⟨⟨hx, hb, hml, hown, hts⟩, ⟨hK, hn0, h40, hro, hnw⟩, ⟨hfr, hlo, hce, hsl⟩, hC, hnm, hRet⟩ := X
  intro hrot
  obtain ⟨hge, hj⟩ := hk _ _ _ _ hop hrot
  refine ⟨hge, fun H locs cells slots lsA hl hlg hP hS hc hs => ?_⟩
  exact lv_iconst hx hb h hv (hj H locs cells slots lsA hl hlg hP hS hc hs)
theorem s_bipush {μ pc : Nat} {n : Int} {v : Int32} (h : decode (pB μ) pc = .ok (.bipush n, 2)) (hv : (Int8.ofInt n).toInt32 = v) : p_S μ pc (o_push (.int v) (pc + 2)) := by
  intro p l e R s m args below meth c Q G D rot d n0 s0 C o X k ls st L hop hk
  obtain ⟨⟨hx, hb, hml, hown, hts⟩, ⟨hK, hn0, h40, hro, hnw⟩, ⟨hfr, hlo, hce, hsl⟩, hC, hnm, hRet⟩ := X
  intro hrot
  obtain ⟨hge, hj⟩ := hk _ _ _ _ hop hrot
  refine ⟨hge, fun H locs cells slots lsA hl hlg hP hS hc hs => ?_⟩
  exact lv_bipush hx hb h hv (hj H locs cells slots lsA hl hlg hP hS hc hs)
theorem s_sipush {μ pc : Nat} {n : Int} {v : Int32} (h : decode (pB μ) pc = .ok (.sipush n, 3)) (hv : (Int16.ofInt n).toInt32 = v) : p_S μ pc (o_push (.int v) (pc + 3)) := by
  intro p l e R s m args below meth c Q G D rot d n0 s0 C o X k ls st L hop hk
  obtain ⟨⟨hx, hb, hml, hown, hts⟩, ⟨hK, hn0, h40, hro, hnw⟩, ⟨hfr, hlo, hce, hsl⟩, hC, hnm, hRet⟩ := X
  intro hrot
  obtain ⟨hge, hj⟩ := hk _ _ _ _ hop hrot
  refine ⟨hge, fun H locs cells slots lsA hl hlg hP hS hc hs => ?_⟩
  exact lv_sipush hx hb h hv (hj H locs cells slots lsA hl hlg hP hS hc hs)
theorem s_lconst {μ pc : Nat} {n : Fin 2} {v : Int64} (h : decode (pB μ) pc = .ok (.lconst n, 1)) (hv : Int64.ofNat (n : Nat) = v) : p_S μ pc (o_push (.long v) (pc + 1)) := by
  intro p l e R s m args below meth c Q G D rot d n0 s0 C o X k ls st L hop hk
  obtain ⟨⟨hx, hb, hml, hown, hts⟩, ⟨hK, hn0, h40, hro, hnw⟩, ⟨hfr, hlo, hce, hsl⟩, hC, hnm, hRet⟩ := X
  intro hrot
  obtain ⟨hge, hj⟩ := hk _ _ _ _ hop hrot
  refine ⟨hge, fun H locs cells slots lsA hl hlg hP hS hc hs => ?_⟩
  exact lv_lconst hx hb h hv (hj H locs cells slots lsA hl hlg hP hS hc hs)
theorem s_ldc2 {μ pc : Nat} {i : Nat} {v : Int64} (hw : Cond.constantLong (pN μ).cls i v ∈ pWS) (h : decode (pB μ) pc = .ok (.ldc2_w i, 3)) : p_S μ pc (o_push (.long v) (pc + 3)) := by
  intro p l e R s m args below meth c Q G D rot d n0 s0 C o X k ls st L hop hk
  obtain ⟨⟨hx, hb, hml, hown, hts⟩, ⟨hK, hn0, h40, hro, hnw⟩, ⟨hfr, hlo, hce, hsl⟩, hC, hnm, hRet⟩ := X
  intro hrot
  obtain ⟨hge, hj⟩ := hk _ _ _ _ hop hrot
  refine ⟨hge, fun H locs cells slots lsA hl hlg hP hS hc hs => ?_⟩
  exact lv_ldc2 hx hb hown (hts _ hw) h (hj H locs cells slots lsA hl hlg hP hS hc hs)
theorem s_ldcw {μ pc : Nat} {i : Nat} {v : Int32} (hw : Cond.constant (pN μ).cls i v ∈ pWS) (h : decode (pB μ) pc = .ok (.ldc_w i, 3)) : p_S μ pc (o_push (.int v) (pc + 3)) := by
  intro p l e R s m args below meth c Q G D rot d n0 s0 C o X k ls st L hop hk
  obtain ⟨⟨hx, hb, hml, hown, hts⟩, ⟨hK, hn0, h40, hro, hnw⟩, ⟨hfr, hlo, hce, hsl⟩, hC, hnm, hRet⟩ := X
  intro hrot
  obtain ⟨hge, hj⟩ := hk _ _ _ _ hop hrot
  refine ⟨hge, fun H locs cells slots lsA hl hlg hP hS hc hs => ?_⟩
  exact lv_ldcw hx hb hown (hts _ hw) h (hj H locs cells slots lsA hl hlg hP hS hc hs)
theorem s_ldc {μ pc : Nat} {i : Nat} {v : Int32} (hw : Cond.constant (pN μ).cls i v ∈ pWS) (h : decode (pB μ) pc = .ok (.ldc i, 2)) : p_S μ pc (o_push (.int v) (pc + 2)) := by
  intro p l e R s m args below meth c Q G D rot d n0 s0 C o X k ls st L hop hk
  obtain ⟨⟨hx, hb, hml, hown, hts⟩, ⟨hK, hn0, h40, hro, hnw⟩, ⟨hfr, hlo, hce, hsl⟩, hC, hnm, hRet⟩ := X
  intro hrot
  obtain ⟨hge, hj⟩ := hk _ _ _ _ hop hrot
  refine ⟨hge, fun H locs cells slots lsA hl hlg hP hS hc hs => ?_⟩
  exact lv_ldc hx hb hown (hts _ hw) h (hj H locs cells slots lsA hl hlg hP hS hc hs)
def o_iadd  (p : Nat) : pO := fun _ k ls st L => match st with
  | .int y :: .int x :: r => k p ls (.int (x + y) :: r) L
  | _ => none
theorem s_iadd {μ pc : Nat} (h : decode (pB μ) pc = .ok (.iadd, 1)) : p_S μ pc (o_iadd  (pc + 1)) := by
  intro p l e R s m args below meth c Q G D rot d n0 s0 C o X k ls st L hop hk
  obtain ⟨⟨hx, hb, hml, hown, hts⟩, ⟨hK, hn0, h40, hro, hnw⟩, ⟨hfr, hlo, hce, hsl⟩, hC, hnm, hRet⟩ := X
  unfold o_iadd at hop
  split at hop
  · intro hrot
    obtain ⟨hge, hj⟩ := hk _ _ _ _ hop hrot
    refine ⟨hge, fun H locs cells slots lsA hl hlg hP hS hc hs => ?_⟩
    exact lv_iadd hx hb h (hj H locs cells slots lsA hl hlg hP hS hc hs)
  · cases hop
def o_isub  (p : Nat) : pO := fun _ k ls st L => match st with
  | .int y :: .int x :: r => k p ls (.int (x - y) :: r) L
  | _ => none
theorem s_isub {μ pc : Nat} (h : decode (pB μ) pc = .ok (.isub, 1)) : p_S μ pc (o_isub  (pc + 1)) := by
  intro p l e R s m args below meth c Q G D rot d n0 s0 C o X k ls st L hop hk
  obtain ⟨⟨hx, hb, hml, hown, hts⟩, ⟨hK, hn0, h40, hro, hnw⟩, ⟨hfr, hlo, hce, hsl⟩, hC, hnm, hRet⟩ := X
  unfold o_isub at hop
  split at hop
  · intro hrot
    obtain ⟨hge, hj⟩ := hk _ _ _ _ hop hrot
    refine ⟨hge, fun H locs cells slots lsA hl hlg hP hS hc hs => ?_⟩
    exact lv_isub hx hb h (hj H locs cells slots lsA hl hlg hP hS hc hs)
  · cases hop
def o_imul  (p : Nat) : pO := fun _ k ls st L => match st with
  | .int y :: .int x :: r => k p ls (.int (x * y) :: r) L
  | _ => none
theorem s_imul {μ pc : Nat} (h : decode (pB μ) pc = .ok (.imul, 1)) : p_S μ pc (o_imul  (pc + 1)) := by
  intro p l e R s m args below meth c Q G D rot d n0 s0 C o X k ls st L hop hk
  obtain ⟨⟨hx, hb, hml, hown, hts⟩, ⟨hK, hn0, h40, hro, hnw⟩, ⟨hfr, hlo, hce, hsl⟩, hC, hnm, hRet⟩ := X
  unfold o_imul at hop
  split at hop
  · intro hrot
    obtain ⟨hge, hj⟩ := hk _ _ _ _ hop hrot
    refine ⟨hge, fun H locs cells slots lsA hl hlg hP hS hc hs => ?_⟩
    exact lv_imul hx hb h (hj H locs cells slots lsA hl hlg hP hS hc hs)
  · cases hop
def o_iand  (p : Nat) : pO := fun _ k ls st L => match st with
  | .int y :: .int x :: r => k p ls (.int (x &&& y) :: r) L
  | _ => none
theorem s_iand {μ pc : Nat} (h : decode (pB μ) pc = .ok (.iand, 1)) : p_S μ pc (o_iand  (pc + 1)) := by
  intro p l e R s m args below meth c Q G D rot d n0 s0 C o X k ls st L hop hk
  obtain ⟨⟨hx, hb, hml, hown, hts⟩, ⟨hK, hn0, h40, hro, hnw⟩, ⟨hfr, hlo, hce, hsl⟩, hC, hnm, hRet⟩ := X
  unfold o_iand at hop
  split at hop
  · intro hrot
    obtain ⟨hge, hj⟩ := hk _ _ _ _ hop hrot
    refine ⟨hge, fun H locs cells slots lsA hl hlg hP hS hc hs => ?_⟩
    exact lv_iand hx hb h (hj H locs cells slots lsA hl hlg hP hS hc hs)
  · cases hop
def o_ior  (p : Nat) : pO := fun _ k ls st L => match st with
  | .int y :: .int x :: r => k p ls (.int (x ||| y) :: r) L
  | _ => none
theorem s_ior {μ pc : Nat} (h : decode (pB μ) pc = .ok (.ior, 1)) : p_S μ pc (o_ior  (pc + 1)) := by
  intro p l e R s m args below meth c Q G D rot d n0 s0 C o X k ls st L hop hk
  obtain ⟨⟨hx, hb, hml, hown, hts⟩, ⟨hK, hn0, h40, hro, hnw⟩, ⟨hfr, hlo, hce, hsl⟩, hC, hnm, hRet⟩ := X
  unfold o_ior at hop
  split at hop
  · intro hrot
    obtain ⟨hge, hj⟩ := hk _ _ _ _ hop hrot
    refine ⟨hge, fun H locs cells slots lsA hl hlg hP hS hc hs => ?_⟩
    exact lv_ior hx hb h (hj H locs cells slots lsA hl hlg hP hS hc hs)
  · cases hop
def o_ixor  (p : Nat) : pO := fun _ k ls st L => match st with
  | .int y :: .int x :: r => k p ls (.int (x ^^^ y) :: r) L
  | _ => none
theorem s_ixor {μ pc : Nat} (h : decode (pB μ) pc = .ok (.ixor, 1)) : p_S μ pc (o_ixor  (pc + 1)) := by
  intro p l e R s m args below meth c Q G D rot d n0 s0 C o X k ls st L hop hk
  obtain ⟨⟨hx, hb, hml, hown, hts⟩, ⟨hK, hn0, h40, hro, hnw⟩, ⟨hfr, hlo, hce, hsl⟩, hC, hnm, hRet⟩ := X
  unfold o_ixor at hop
  split at hop
  · intro hrot
    obtain ⟨hge, hj⟩ := hk _ _ _ _ hop hrot
    refine ⟨hge, fun H locs cells slots lsA hl hlg hP hS hc hs => ?_⟩
    exact lv_ixor hx hb h (hj H locs cells slots lsA hl hlg hP hS hc hs)
  · cases hop
def o_ishl  (p : Nat) : pO := fun _ k ls st L => match st with
  | .int y :: .int x :: r => k p ls (.int (x <<< (y &&& 31)) :: r) L
  | _ => none
theorem s_ishl {μ pc : Nat} (h : decode (pB μ) pc = .ok (.ishl, 1)) : p_S μ pc (o_ishl  (pc + 1)) := by
  intro p l e R s m args below meth c Q G D rot d n0 s0 C o X k ls st L hop hk
  obtain ⟨⟨hx, hb, hml, hown, hts⟩, ⟨hK, hn0, h40, hro, hnw⟩, ⟨hfr, hlo, hce, hsl⟩, hC, hnm, hRet⟩ := X
  unfold o_ishl at hop
  split at hop
  · intro hrot
    obtain ⟨hge, hj⟩ := hk _ _ _ _ hop hrot
    refine ⟨hge, fun H locs cells slots lsA hl hlg hP hS hc hs => ?_⟩
    exact lv_ishl hx hb h (hj H locs cells slots lsA hl hlg hP hS hc hs)
  · cases hop
def o_ishr  (p : Nat) : pO := fun _ k ls st L => match st with
  | .int y :: .int x :: r => k p ls (.int (x >>> (y &&& 31)) :: r) L
  | _ => none
theorem s_ishr {μ pc : Nat} (h : decode (pB μ) pc = .ok (.ishr, 1)) : p_S μ pc (o_ishr  (pc + 1)) := by
  intro p l e R s m args below meth c Q G D rot d n0 s0 C o X k ls st L hop hk
  obtain ⟨⟨hx, hb, hml, hown, hts⟩, ⟨hK, hn0, h40, hro, hnw⟩, ⟨hfr, hlo, hce, hsl⟩, hC, hnm, hRet⟩ := X
  unfold o_ishr at hop
  split at hop
  · intro hrot
    obtain ⟨hge, hj⟩ := hk _ _ _ _ hop hrot
    refine ⟨hge, fun H locs cells slots lsA hl hlg hP hS hc hs => ?_⟩
    exact lv_ishr hx hb h (hj H locs cells slots lsA hl hlg hP hS hc hs)
  · cases hop
def o_iushr  (p : Nat) : pO := fun _ k ls st L => match st with
  | .int y :: .int x :: r => k p ls (.int ((x.toUInt32 >>> (y.toUInt32 &&& Int32.toUInt32 31)).toInt32) :: r) L
  | _ => none
theorem s_iushr {μ pc : Nat} (h : decode (pB μ) pc = .ok (.iushr, 1)) : p_S μ pc (o_iushr  (pc + 1)) := by
  intro p l e R s m args below meth c Q G D rot d n0 s0 C o X k ls st L hop hk
  obtain ⟨⟨hx, hb, hml, hown, hts⟩, ⟨hK, hn0, h40, hro, hnw⟩, ⟨hfr, hlo, hce, hsl⟩, hC, hnm, hRet⟩ := X
  unfold o_iushr at hop
  split at hop
  · intro hrot
    obtain ⟨hge, hj⟩ := hk _ _ _ _ hop hrot
    refine ⟨hge, fun H locs cells slots lsA hl hlg hP hS hc hs => ?_⟩
    exact lv_iushr hx hb h rfl (hj H locs cells slots lsA hl hlg hP hS hc hs)
  · cases hop
def o_land  (p : Nat) : pO := fun _ k ls st L => match st with
  | .long y :: .long x :: r => k p ls (.long (x &&& y) :: r) L
  | _ => none
theorem s_land {μ pc : Nat} (h : decode (pB μ) pc = .ok (.land, 1)) : p_S μ pc (o_land  (pc + 1)) := by
  intro p l e R s m args below meth c Q G D rot d n0 s0 C o X k ls st L hop hk
  obtain ⟨⟨hx, hb, hml, hown, hts⟩, ⟨hK, hn0, h40, hro, hnw⟩, ⟨hfr, hlo, hce, hsl⟩, hC, hnm, hRet⟩ := X
  unfold o_land at hop
  split at hop
  · intro hrot
    obtain ⟨hge, hj⟩ := hk _ _ _ _ hop hrot
    refine ⟨hge, fun H locs cells slots lsA hl hlg hP hS hc hs => ?_⟩
    exact lv_land hx hb h (hj H locs cells slots lsA hl hlg hP hS hc hs)
  · cases hop
def o_lor  (p : Nat) : pO := fun _ k ls st L => match st with
  | .long y :: .long x :: r => k p ls (.long (x ||| y) :: r) L
  | _ => none
theorem s_lor {μ pc : Nat} (h : decode (pB μ) pc = .ok (.lor, 1)) : p_S μ pc (o_lor  (pc + 1)) := by
  intro p l e R s m args below meth c Q G D rot d n0 s0 C o X k ls st L hop hk
  obtain ⟨⟨hx, hb, hml, hown, hts⟩, ⟨hK, hn0, h40, hro, hnw⟩, ⟨hfr, hlo, hce, hsl⟩, hC, hnm, hRet⟩ := X
  unfold o_lor at hop
  split at hop
  · intro hrot
    obtain ⟨hge, hj⟩ := hk _ _ _ _ hop hrot
    refine ⟨hge, fun H locs cells slots lsA hl hlg hP hS hc hs => ?_⟩
    exact lv_lor hx hb h (hj H locs cells slots lsA hl hlg hP hS hc hs)
  · cases hop
def o_ladd  (p : Nat) : pO := fun _ k ls st L => match st with
  | .long y :: .long x :: r => k p ls (.long (x + y) :: r) L
  | _ => none
theorem s_ladd {μ pc : Nat} (h : decode (pB μ) pc = .ok (.ladd, 1)) : p_S μ pc (o_ladd  (pc + 1)) := by
  intro p l e R s m args below meth c Q G D rot d n0 s0 C o X k ls st L hop hk
  obtain ⟨⟨hx, hb, hml, hown, hts⟩, ⟨hK, hn0, h40, hro, hnw⟩, ⟨hfr, hlo, hce, hsl⟩, hC, hnm, hRet⟩ := X
  unfold o_ladd at hop
  split at hop
  · intro hrot
    obtain ⟨hge, hj⟩ := hk _ _ _ _ hop hrot
    refine ⟨hge, fun H locs cells slots lsA hl hlg hP hS hc hs => ?_⟩
    exact lv_ladd hx hb h (hj H locs cells slots lsA hl hlg hP hS hc hs)
  · cases hop
def o_lmul  (p : Nat) : pO := fun _ k ls st L => match st with
  | .long y :: .long x :: r => k p ls (.long (x * y) :: r) L
  | _ => none
theorem s_lmul {μ pc : Nat} (h : decode (pB μ) pc = .ok (.lmul, 1)) : p_S μ pc (o_lmul  (pc + 1)) := by
  intro p l e R s m args below meth c Q G D rot d n0 s0 C o X k ls st L hop hk
  obtain ⟨⟨hx, hb, hml, hown, hts⟩, ⟨hK, hn0, h40, hro, hnw⟩, ⟨hfr, hlo, hce, hsl⟩, hC, hnm, hRet⟩ := X
  unfold o_lmul at hop
  split at hop
  · intro hrot
    obtain ⟨hge, hj⟩ := hk _ _ _ _ hop hrot
    refine ⟨hge, fun H locs cells slots lsA hl hlg hP hS hc hs => ?_⟩
    exact lv_lmul hx hb h (hj H locs cells slots lsA hl hlg hP hS hc hs)
  · cases hop
def o_lcmp  (p : Nat) : pO := fun _ k ls st L => match st with
  | .long y :: .long x :: r => k p ls (.int (lg_cmp x y) :: r) L
  | _ => none
theorem s_lcmp {μ pc : Nat} (h : decode (pB μ) pc = .ok (.lcmp, 1)) : p_S μ pc (o_lcmp  (pc + 1)) := by
  intro p l e R s m args below meth c Q G D rot d n0 s0 C o X k ls st L hop hk
  obtain ⟨⟨hx, hb, hml, hown, hts⟩, ⟨hK, hn0, h40, hro, hnw⟩, ⟨hfr, hlo, hce, hsl⟩, hC, hnm, hRet⟩ := X
  unfold o_lcmp at hop
  split at hop
  · intro hrot
    obtain ⟨hge, hj⟩ := hk _ _ _ _ hop hrot
    refine ⟨hge, fun H locs cells slots lsA hl hlg hP hS hc hs => ?_⟩
    exact W.lcmp hx hb h (hj H locs cells slots lsA hl hlg hP hS hc hs)
  · cases hop
def o_lushr  (p : Nat) : pO := fun _ k ls st L => match st with
  | .int y :: .long x :: r => k p ls (.long ((x.toUInt64 >>> (y.toInt64.toUInt64 &&& Int64.toUInt64 63)).toInt64) :: r) L
  | _ => none
theorem s_lushr {μ pc : Nat} (h : decode (pB μ) pc = .ok (.lushr, 1)) : p_S μ pc (o_lushr  (pc + 1)) := by
  intro p l e R s m args below meth c Q G D rot d n0 s0 C o X k ls st L hop hk
  obtain ⟨⟨hx, hb, hml, hown, hts⟩, ⟨hK, hn0, h40, hro, hnw⟩, ⟨hfr, hlo, hce, hsl⟩, hC, hnm, hRet⟩ := X
  unfold o_lushr at hop
  split at hop
  · intro hrot
    obtain ⟨hge, hj⟩ := hk _ _ _ _ hop hrot
    refine ⟨hge, fun H locs cells slots lsA hl hlg hP hS hc hs => ?_⟩
    exact lv_lushr hx hb h rfl (hj H locs cells slots lsA hl hlg hP hS hc hs)
  · cases hop
def o_lshl  (p : Nat) : pO := fun _ k ls st L => match st with
  | .int y :: .long x :: r => k p ls (.long (x <<< (y.toInt64 &&& 63)) :: r) L
  | _ => none
theorem s_lshl {μ pc : Nat} (h : decode (pB μ) pc = .ok (.lshl, 1)) : p_S μ pc (o_lshl  (pc + 1)) := by
  intro p l e R s m args below meth c Q G D rot d n0 s0 C o X k ls st L hop hk
  obtain ⟨⟨hx, hb, hml, hown, hts⟩, ⟨hK, hn0, h40, hro, hnw⟩, ⟨hfr, hlo, hce, hsl⟩, hC, hnm, hRet⟩ := X
  unfold o_lshl at hop
  split at hop
  · intro hrot
    obtain ⟨hge, hj⟩ := hk _ _ _ _ hop hrot
    refine ⟨hge, fun H locs cells slots lsA hl hlg hP hS hc hs => ?_⟩
    exact lv_lshl hx hb h rfl (hj H locs cells slots lsA hl hlg hP hS hc hs)
  · cases hop
def o_i2l  (p : Nat) : pO := fun _ k ls st L => match st with
  | .int x :: r => k p ls (.long x.toInt64 :: r) L
  | _ => none
theorem s_i2l {μ pc : Nat} (h : decode (pB μ) pc = .ok (.i2l, 1)) : p_S μ pc (o_i2l  (pc + 1)) := by
  intro p l e R s m args below meth c Q G D rot d n0 s0 C o X k ls st L hop hk
  obtain ⟨⟨hx, hb, hml, hown, hts⟩, ⟨hK, hn0, h40, hro, hnw⟩, ⟨hfr, hlo, hce, hsl⟩, hC, hnm, hRet⟩ := X
  unfold o_i2l at hop
  split at hop
  · intro hrot
    obtain ⟨hge, hj⟩ := hk _ _ _ _ hop hrot
    refine ⟨hge, fun H locs cells slots lsA hl hlg hP hS hc hs => ?_⟩
    exact lv_i2l hx hb h rfl (hj H locs cells slots lsA hl hlg hP hS hc hs)
  · cases hop
def o_l2i  (p : Nat) : pO := fun _ k ls st L => match st with
  | .long x :: r => k p ls (.int x.toInt32 :: r) L
  | _ => none
theorem s_l2i {μ pc : Nat} (h : decode (pB μ) pc = .ok (.l2i, 1)) : p_S μ pc (o_l2i  (pc + 1)) := by
  intro p l e R s m args below meth c Q G D rot d n0 s0 C o X k ls st L hop hk
  obtain ⟨⟨hx, hb, hml, hown, hts⟩, ⟨hK, hn0, h40, hro, hnw⟩, ⟨hfr, hlo, hce, hsl⟩, hC, hnm, hRet⟩ := X
  unfold o_l2i at hop
  split at hop
  · intro hrot
    obtain ⟨hge, hj⟩ := hk _ _ _ _ hop hrot
    refine ⟨hge, fun H locs cells slots lsA hl hlg hP hS hc hs => ?_⟩
    exact lv_l2i hx hb h rfl (hj H locs cells slots lsA hl hlg hP hS hc hs)
  · cases hop
def o_dupr  (p : Nat) : pO := fun _ k ls st L => match st with
  | .ref a :: r => k p ls (.ref a :: .ref a :: r) L
  | _ => none
theorem s_dupr {μ pc : Nat} (h : decode (pB μ) pc = .ok (.dup, 1)) : p_S μ pc (o_dupr  (pc + 1)) := by
  intro p l e R s m args below meth c Q G D rot d n0 s0 C o X k ls st L hop hk
  obtain ⟨⟨hx, hb, hml, hown, hts⟩, ⟨hK, hn0, h40, hro, hnw⟩, ⟨hfr, hlo, hce, hsl⟩, hC, hnm, hRet⟩ := X
  unfold o_dupr at hop
  split at hop
  · intro hrot
    obtain ⟨hge, hj⟩ := hk _ _ _ _ hop hrot
    refine ⟨hge, fun H locs cells slots lsA hl hlg hP hS hc hs => ?_⟩
    exact lv_dup hx hb h rfl (hj H locs cells slots lsA hl hlg hP hS hc hs)
  · cases hop
def o_dup2i  (p : Nat) : pO := fun _ k ls st L => match st with
  | .int y :: .ref a :: r => k p ls (.int y :: .ref a :: .int y :: .ref a :: r) L
  | _ => none
theorem s_dup2i {μ pc : Nat} (h : decode (pB μ) pc = .ok (.dup2, 1)) : p_S μ pc (o_dup2i  (pc + 1)) := by
  intro p l e R s m args below meth c Q G D rot d n0 s0 C o X k ls st L hop hk
  obtain ⟨⟨hx, hb, hml, hown, hts⟩, ⟨hK, hn0, h40, hro, hnw⟩, ⟨hfr, hlo, hce, hsl⟩, hC, hnm, hRet⟩ := X
  unfold o_dup2i at hop
  split at hop
  · intro hrot
    obtain ⟨hge, hj⟩ := hk _ _ _ _ hop hrot
    refine ⟨hge, fun H locs cells slots lsA hl hlg hP hS hc hs => ?_⟩
    exact lv_dup2_11 hx hb h rfl rfl (hj H locs cells slots lsA hl hlg hP hS hc hs)
  · cases hop
def o_popi  (p : Nat) : pO := fun _ k ls st L => match st with
  | .int y :: r => k p ls (r) L
  | _ => none
theorem s_popi {μ pc : Nat} (h : decode (pB μ) pc = .ok (.pop, 1)) : p_S μ pc (o_popi  (pc + 1)) := by
  intro p l e R s m args below meth c Q G D rot d n0 s0 C o X k ls st L hop hk
  obtain ⟨⟨hx, hb, hml, hown, hts⟩, ⟨hK, hn0, h40, hro, hnw⟩, ⟨hfr, hlo, hce, hsl⟩, hC, hnm, hRet⟩ := X
  unfold o_popi at hop
  split at hop
  · intro hrot
    obtain ⟨hge, hj⟩ := hk _ _ _ _ hop hrot
    refine ⟨hge, fun H locs cells slots lsA hl hlg hP hS hc hs => ?_⟩
    exact lv_pop hx hb h rfl (hj H locs cells slots lsA hl hlg hP hS hc hs)
  · cases hop
def o_idiv (p : Nat) : pO := fun _ k ls st L => match st with
  | .int y :: .int x :: r => if y = 0 then none else k p ls (.int (x / y) :: r) L
  | _ => none
theorem s_idiv {μ pc : Nat} (h : decode (pB μ) pc = .ok (.idiv, 1)) : p_S μ pc (o_idiv (pc + 1)) := by
  intro p l e R s m args below meth c Q G D rot d n0 s0 C o X k ls st L hop hk
  obtain ⟨⟨hx, hb, hml, hown, hts⟩, ⟨hK, hn0, h40, hro, hnw⟩, ⟨hfr, hlo, hce, hsl⟩, hC, hnm, hRet⟩ := X
  unfold o_idiv at hop
  split at hop
  · split at hop
    · cases hop
    · rename_i hne
      intro hrot
      obtain ⟨hge, hj⟩ := hk _ _ _ _ hop hrot
      refine ⟨hge, fun H locs cells slots lsA hl hlg hP hS hc hs => ?_⟩
      exact lv_idiv hx hb h hne (hj H locs cells slots lsA hl hlg hP hS hc hs)
  · cases hop
def o_irem (p : Nat) : pO := fun _ k ls st L => match st with
  | .int y :: .int x :: r => if y = 0 then none else k p ls (.int (x - x / y * y) :: r) L
  | _ => none
theorem s_irem {μ pc : Nat} (h : decode (pB μ) pc = .ok (.irem, 1)) : p_S μ pc (o_irem (pc + 1)) := by
  intro p l e R s m args below meth c Q G D rot d n0 s0 C o X k ls st L hop hk
  obtain ⟨⟨hx, hb, hml, hown, hts⟩, ⟨hK, hn0, h40, hro, hnw⟩, ⟨hfr, hlo, hce, hsl⟩, hC, hnm, hRet⟩ := X
  unfold o_irem at hop
  split at hop
  · split at hop
    · cases hop
    · rename_i hne
      intro hrot
      obtain ⟨hge, hj⟩ := hk _ _ _ _ hop hrot
      refine ⟨hge, fun H locs cells slots lsA hl hlg hP hS hc hs => ?_⟩
      exact lv_irem hx hb h hne (hj H locs cells slots lsA hl hlg hP hS hc hs)
  · cases hop
def o_ifeq (t p : Nat) : pO := fun _ k ls st L => match st with
  | .int x :: r => if x = 0 then k t ls r L else k p ls r L
  | _ => none
theorem s_ifeq {μ pc t : Nat} {off : Int} (h : decode (pB μ) pc = .ok (.ifCond .eq off, 3)) (ht : (pc : Int) + off = (t : Int)) : p_S μ pc (o_ifeq t (pc + 3)) := by
  intro p l e R s m args below meth c Q G D rot d n0 s0 C o X k ls st L hop hk
  obtain ⟨⟨hx, hb, hml, hown, hts⟩, ⟨hK, hn0, h40, hro, hnw⟩, ⟨hfr, hlo, hce, hsl⟩, hC, hnm, hRet⟩ := X
  unfold o_ifeq at hop
  split at hop
  · split at hop
    · rename_i hq
      intro hrot
      obtain ⟨hge, hj⟩ := hk _ _ _ _ hop hrot
      refine ⟨hge, fun H locs cells slots lsA hl hlg hP hS hc hs => ?_⟩
      exact lv_if_eq hx hb h ht (fun _ => hj H locs cells slots lsA hl hlg hP hS hc hs) (fun z => absurd hq (by first | exact z | exact fun z2 => z2 z))
    · rename_i hq
      intro hrot
      obtain ⟨hge, hj⟩ := hk _ _ _ _ hop hrot
      refine ⟨hge, fun H locs cells slots lsA hl hlg hP hS hc hs => ?_⟩
      exact lv_if_eq hx hb h ht (fun z => absurd z hq) (fun _ => hj H locs cells slots lsA hl hlg hP hS hc hs)
  · cases hop
def o_iceq (t p : Nat) : pO := fun _ k ls st L => match st with
  | .int y :: .int x :: r => if x = y then k t ls r L else k p ls r L
  | _ => none
theorem s_iceq {μ pc t : Nat} {off : Int} (h : decode (pB μ) pc = .ok (.if_icmp .eq off, 3)) (ht : (pc : Int) + off = (t : Int)) : p_S μ pc (o_iceq t (pc + 3)) := by
  intro p l e R s m args below meth c Q G D rot d n0 s0 C o X k ls st L hop hk
  obtain ⟨⟨hx, hb, hml, hown, hts⟩, ⟨hK, hn0, h40, hro, hnw⟩, ⟨hfr, hlo, hce, hsl⟩, hC, hnm, hRet⟩ := X
  unfold o_iceq at hop
  split at hop
  · split at hop
    · rename_i hq
      intro hrot
      obtain ⟨hge, hj⟩ := hk _ _ _ _ hop hrot
      refine ⟨hge, fun H locs cells slots lsA hl hlg hP hS hc hs => ?_⟩
      exact lv_icmp_eq hx hb h ht (fun _ => hj H locs cells slots lsA hl hlg hP hS hc hs) (fun z => absurd hq (by first | exact z | exact fun z2 => z2 z))
    · rename_i hq
      intro hrot
      obtain ⟨hge, hj⟩ := hk _ _ _ _ hop hrot
      refine ⟨hge, fun H locs cells slots lsA hl hlg hP hS hc hs => ?_⟩
      exact lv_icmp_eq hx hb h ht (fun z => absurd z hq) (fun _ => hj H locs cells slots lsA hl hlg hP hS hc hs)
  · cases hop
def o_ifne (t p : Nat) : pO := fun _ k ls st L => match st with
  | .int x :: r => if ¬ x = 0 then k t ls r L else k p ls r L
  | _ => none
theorem s_ifne {μ pc t : Nat} {off : Int} (h : decode (pB μ) pc = .ok (.ifCond .ne off, 3)) (ht : (pc : Int) + off = (t : Int)) : p_S μ pc (o_ifne t (pc + 3)) := by
  intro p l e R s m args below meth c Q G D rot d n0 s0 C o X k ls st L hop hk
  obtain ⟨⟨hx, hb, hml, hown, hts⟩, ⟨hK, hn0, h40, hro, hnw⟩, ⟨hfr, hlo, hce, hsl⟩, hC, hnm, hRet⟩ := X
  unfold o_ifne at hop
  split at hop
  · split at hop
    · rename_i hq
      intro hrot
      obtain ⟨hge, hj⟩ := hk _ _ _ _ hop hrot
      refine ⟨hge, fun H locs cells slots lsA hl hlg hP hS hc hs => ?_⟩
      exact lv_if_ne hx hb h ht (fun _ => hj H locs cells slots lsA hl hlg hP hS hc hs) (fun z => absurd hq (by first | exact z | exact fun z2 => z2 z))
    · rename_i hq
      intro hrot
      obtain ⟨hge, hj⟩ := hk _ _ _ _ hop hrot
      refine ⟨hge, fun H locs cells slots lsA hl hlg hP hS hc hs => ?_⟩
      exact lv_if_ne hx hb h ht (fun z => absurd z hq) (fun _ => hj H locs cells slots lsA hl hlg hP hS hc hs)
  · cases hop
def o_icne (t p : Nat) : pO := fun _ k ls st L => match st with
  | .int y :: .int x :: r => if ¬ x = y then k t ls r L else k p ls r L
  | _ => none
theorem s_icne {μ pc t : Nat} {off : Int} (h : decode (pB μ) pc = .ok (.if_icmp .ne off, 3)) (ht : (pc : Int) + off = (t : Int)) : p_S μ pc (o_icne t (pc + 3)) := by
  intro p l e R s m args below meth c Q G D rot d n0 s0 C o X k ls st L hop hk
  obtain ⟨⟨hx, hb, hml, hown, hts⟩, ⟨hK, hn0, h40, hro, hnw⟩, ⟨hfr, hlo, hce, hsl⟩, hC, hnm, hRet⟩ := X
  unfold o_icne at hop
  split at hop
  · split at hop
    · rename_i hq
      intro hrot
      obtain ⟨hge, hj⟩ := hk _ _ _ _ hop hrot
      refine ⟨hge, fun H locs cells slots lsA hl hlg hP hS hc hs => ?_⟩
      exact lv_icmp_ne hx hb h ht (fun _ => hj H locs cells slots lsA hl hlg hP hS hc hs) (fun z => absurd hq (by first | exact z | exact fun z2 => z2 z))
    · rename_i hq
      intro hrot
      obtain ⟨hge, hj⟩ := hk _ _ _ _ hop hrot
      refine ⟨hge, fun H locs cells slots lsA hl hlg hP hS hc hs => ?_⟩
      exact lv_icmp_ne hx hb h ht (fun z => absurd z hq) (fun _ => hj H locs cells slots lsA hl hlg hP hS hc hs)
  · cases hop
def o_iflt (t p : Nat) : pO := fun _ k ls st L => match st with
  | .int x :: r => if x < 0 then k t ls r L else k p ls r L
  | _ => none
theorem s_iflt {μ pc t : Nat} {off : Int} (h : decode (pB μ) pc = .ok (.ifCond .lt off, 3)) (ht : (pc : Int) + off = (t : Int)) : p_S μ pc (o_iflt t (pc + 3)) := by
  intro p l e R s m args below meth c Q G D rot d n0 s0 C o X k ls st L hop hk
  obtain ⟨⟨hx, hb, hml, hown, hts⟩, ⟨hK, hn0, h40, hro, hnw⟩, ⟨hfr, hlo, hce, hsl⟩, hC, hnm, hRet⟩ := X
  unfold o_iflt at hop
  split at hop
  · split at hop
    · rename_i hq
      intro hrot
      obtain ⟨hge, hj⟩ := hk _ _ _ _ hop hrot
      refine ⟨hge, fun H locs cells slots lsA hl hlg hP hS hc hs => ?_⟩
      exact lv_if_lt hx hb h ht (fun _ => hj H locs cells slots lsA hl hlg hP hS hc hs) (fun z => absurd hq (by first | exact z | exact fun z2 => z2 z))
    · rename_i hq
      intro hrot
      obtain ⟨hge, hj⟩ := hk _ _ _ _ hop hrot
      refine ⟨hge, fun H locs cells slots lsA hl hlg hP hS hc hs => ?_⟩
      exact lv_if_lt hx hb h ht (fun z => absurd z hq) (fun _ => hj H locs cells slots lsA hl hlg hP hS hc hs)
  · cases hop
def o_iclt (t p : Nat) : pO := fun _ k ls st L => match st with
  | .int y :: .int x :: r => if x < y then k t ls r L else k p ls r L
  | _ => none
theorem s_iclt {μ pc t : Nat} {off : Int} (h : decode (pB μ) pc = .ok (.if_icmp .lt off, 3)) (ht : (pc : Int) + off = (t : Int)) : p_S μ pc (o_iclt t (pc + 3)) := by
  intro p l e R s m args below meth c Q G D rot d n0 s0 C o X k ls st L hop hk
  obtain ⟨⟨hx, hb, hml, hown, hts⟩, ⟨hK, hn0, h40, hro, hnw⟩, ⟨hfr, hlo, hce, hsl⟩, hC, hnm, hRet⟩ := X
  unfold o_iclt at hop
  split at hop
  · split at hop
    · rename_i hq
      intro hrot
      obtain ⟨hge, hj⟩ := hk _ _ _ _ hop hrot
      refine ⟨hge, fun H locs cells slots lsA hl hlg hP hS hc hs => ?_⟩
      exact lv_icmp_lt hx hb h ht (fun _ => hj H locs cells slots lsA hl hlg hP hS hc hs) (fun z => absurd hq (by first | exact z | exact fun z2 => z2 z))
    · rename_i hq
      intro hrot
      obtain ⟨hge, hj⟩ := hk _ _ _ _ hop hrot
      refine ⟨hge, fun H locs cells slots lsA hl hlg hP hS hc hs => ?_⟩
      exact lv_icmp_lt hx hb h ht (fun z => absurd z hq) (fun _ => hj H locs cells slots lsA hl hlg hP hS hc hs)
  · cases hop
def o_ifge (t p : Nat) : pO := fun _ k ls st L => match st with
  | .int x :: r => if 0 ≤ x then k t ls r L else k p ls r L
  | _ => none
theorem s_ifge {μ pc t : Nat} {off : Int} (h : decode (pB μ) pc = .ok (.ifCond .ge off, 3)) (ht : (pc : Int) + off = (t : Int)) : p_S μ pc (o_ifge t (pc + 3)) := by
  intro p l e R s m args below meth c Q G D rot d n0 s0 C o X k ls st L hop hk
  obtain ⟨⟨hx, hb, hml, hown, hts⟩, ⟨hK, hn0, h40, hro, hnw⟩, ⟨hfr, hlo, hce, hsl⟩, hC, hnm, hRet⟩ := X
  unfold o_ifge at hop
  split at hop
  · split at hop
    · rename_i hq
      intro hrot
      obtain ⟨hge, hj⟩ := hk _ _ _ _ hop hrot
      refine ⟨hge, fun H locs cells slots lsA hl hlg hP hS hc hs => ?_⟩
      exact lv_if_ge hx hb h ht (fun _ => hj H locs cells slots lsA hl hlg hP hS hc hs) (fun z => absurd hq (by first | exact z | exact fun z2 => z2 z))
    · rename_i hq
      intro hrot
      obtain ⟨hge, hj⟩ := hk _ _ _ _ hop hrot
      refine ⟨hge, fun H locs cells slots lsA hl hlg hP hS hc hs => ?_⟩
      exact lv_if_ge hx hb h ht (fun z => absurd z hq) (fun _ => hj H locs cells slots lsA hl hlg hP hS hc hs)
  · cases hop
def o_icge (t p : Nat) : pO := fun _ k ls st L => match st with
  | .int y :: .int x :: r => if y ≤ x then k t ls r L else k p ls r L
  | _ => none
theorem s_icge {μ pc t : Nat} {off : Int} (h : decode (pB μ) pc = .ok (.if_icmp .ge off, 3)) (ht : (pc : Int) + off = (t : Int)) : p_S μ pc (o_icge t (pc + 3)) := by
  intro p l e R s m args below meth c Q G D rot d n0 s0 C o X k ls st L hop hk
  obtain ⟨⟨hx, hb, hml, hown, hts⟩, ⟨hK, hn0, h40, hro, hnw⟩, ⟨hfr, hlo, hce, hsl⟩, hC, hnm, hRet⟩ := X
  unfold o_icge at hop
  split at hop
  · split at hop
    · rename_i hq
      intro hrot
      obtain ⟨hge, hj⟩ := hk _ _ _ _ hop hrot
      refine ⟨hge, fun H locs cells slots lsA hl hlg hP hS hc hs => ?_⟩
      exact lv_icmp_ge hx hb h ht (fun _ => hj H locs cells slots lsA hl hlg hP hS hc hs) (fun z => absurd hq (by first | exact z | exact fun z2 => z2 z))
    · rename_i hq
      intro hrot
      obtain ⟨hge, hj⟩ := hk _ _ _ _ hop hrot
      refine ⟨hge, fun H locs cells slots lsA hl hlg hP hS hc hs => ?_⟩
      exact lv_icmp_ge hx hb h ht (fun z => absurd z hq) (fun _ => hj H locs cells slots lsA hl hlg hP hS hc hs)
  · cases hop
def o_ifgt (t p : Nat) : pO := fun _ k ls st L => match st with
  | .int x :: r => if 0 < x then k t ls r L else k p ls r L
  | _ => none
theorem s_ifgt {μ pc t : Nat} {off : Int} (h : decode (pB μ) pc = .ok (.ifCond .gt off, 3)) (ht : (pc : Int) + off = (t : Int)) : p_S μ pc (o_ifgt t (pc + 3)) := by
  intro p l e R s m args below meth c Q G D rot d n0 s0 C o X k ls st L hop hk
  obtain ⟨⟨hx, hb, hml, hown, hts⟩, ⟨hK, hn0, h40, hro, hnw⟩, ⟨hfr, hlo, hce, hsl⟩, hC, hnm, hRet⟩ := X
  unfold o_ifgt at hop
  split at hop
  · split at hop
    · rename_i hq
      intro hrot
      obtain ⟨hge, hj⟩ := hk _ _ _ _ hop hrot
      refine ⟨hge, fun H locs cells slots lsA hl hlg hP hS hc hs => ?_⟩
      exact lv_if_gt hx hb h ht (fun _ => hj H locs cells slots lsA hl hlg hP hS hc hs) (fun z => absurd hq (by first | exact z | exact fun z2 => z2 z))
    · rename_i hq
      intro hrot
      obtain ⟨hge, hj⟩ := hk _ _ _ _ hop hrot
      refine ⟨hge, fun H locs cells slots lsA hl hlg hP hS hc hs => ?_⟩
      exact lv_if_gt hx hb h ht (fun z => absurd z hq) (fun _ => hj H locs cells slots lsA hl hlg hP hS hc hs)
  · cases hop
def o_icgt (t p : Nat) : pO := fun _ k ls st L => match st with
  | .int y :: .int x :: r => if y < x then k t ls r L else k p ls r L
  | _ => none
theorem s_icgt {μ pc t : Nat} {off : Int} (h : decode (pB μ) pc = .ok (.if_icmp .gt off, 3)) (ht : (pc : Int) + off = (t : Int)) : p_S μ pc (o_icgt t (pc + 3)) := by
  intro p l e R s m args below meth c Q G D rot d n0 s0 C o X k ls st L hop hk
  obtain ⟨⟨hx, hb, hml, hown, hts⟩, ⟨hK, hn0, h40, hro, hnw⟩, ⟨hfr, hlo, hce, hsl⟩, hC, hnm, hRet⟩ := X
  unfold o_icgt at hop
  split at hop
  · split at hop
    · rename_i hq
      intro hrot
      obtain ⟨hge, hj⟩ := hk _ _ _ _ hop hrot
      refine ⟨hge, fun H locs cells slots lsA hl hlg hP hS hc hs => ?_⟩
      exact lv_icmp_gt hx hb h ht (fun _ => hj H locs cells slots lsA hl hlg hP hS hc hs) (fun z => absurd hq (by first | exact z | exact fun z2 => z2 z))
    · rename_i hq
      intro hrot
      obtain ⟨hge, hj⟩ := hk _ _ _ _ hop hrot
      refine ⟨hge, fun H locs cells slots lsA hl hlg hP hS hc hs => ?_⟩
      exact lv_icmp_gt hx hb h ht (fun z => absurd z hq) (fun _ => hj H locs cells slots lsA hl hlg hP hS hc hs)
  · cases hop
def o_ifle (t p : Nat) : pO := fun _ k ls st L => match st with
  | .int x :: r => if x ≤ 0 then k t ls r L else k p ls r L
  | _ => none
theorem s_ifle {μ pc t : Nat} {off : Int} (h : decode (pB μ) pc = .ok (.ifCond .le off, 3)) (ht : (pc : Int) + off = (t : Int)) : p_S μ pc (o_ifle t (pc + 3)) := by
  intro p l e R s m args below meth c Q G D rot d n0 s0 C o X k ls st L hop hk
  obtain ⟨⟨hx, hb, hml, hown, hts⟩, ⟨hK, hn0, h40, hro, hnw⟩, ⟨hfr, hlo, hce, hsl⟩, hC, hnm, hRet⟩ := X
  unfold o_ifle at hop
  split at hop
  · split at hop
    · rename_i hq
      intro hrot
      obtain ⟨hge, hj⟩ := hk _ _ _ _ hop hrot
      refine ⟨hge, fun H locs cells slots lsA hl hlg hP hS hc hs => ?_⟩
      exact lv_if_le hx hb h ht (fun _ => hj H locs cells slots lsA hl hlg hP hS hc hs) (fun z => absurd hq (by first | exact z | exact fun z2 => z2 z))
    · rename_i hq
      intro hrot
      obtain ⟨hge, hj⟩ := hk _ _ _ _ hop hrot
      refine ⟨hge, fun H locs cells slots lsA hl hlg hP hS hc hs => ?_⟩
      exact lv_if_le hx hb h ht (fun z => absurd z hq) (fun _ => hj H locs cells slots lsA hl hlg hP hS hc hs)
  · cases hop
def o_icle (t p : Nat) : pO := fun _ k ls st L => match st with
  | .int y :: .int x :: r => if x ≤ y then k t ls r L else k p ls r L
  | _ => none
theorem s_icle {μ pc t : Nat} {off : Int} (h : decode (pB μ) pc = .ok (.if_icmp .le off, 3)) (ht : (pc : Int) + off = (t : Int)) : p_S μ pc (o_icle t (pc + 3)) := by
  intro p l e R s m args below meth c Q G D rot d n0 s0 C o X k ls st L hop hk
  obtain ⟨⟨hx, hb, hml, hown, hts⟩, ⟨hK, hn0, h40, hro, hnw⟩, ⟨hfr, hlo, hce, hsl⟩, hC, hnm, hRet⟩ := X
  unfold o_icle at hop
  split at hop
  · split at hop
    · rename_i hq
      intro hrot
      obtain ⟨hge, hj⟩ := hk _ _ _ _ hop hrot
      refine ⟨hge, fun H locs cells slots lsA hl hlg hP hS hc hs => ?_⟩
      exact lv_icmp_le hx hb h ht (fun _ => hj H locs cells slots lsA hl hlg hP hS hc hs) (fun z => absurd hq (by first | exact z | exact fun z2 => z2 z))
    · rename_i hq
      intro hrot
      obtain ⟨hge, hj⟩ := hk _ _ _ _ hop hrot
      refine ⟨hge, fun H locs cells slots lsA hl hlg hP hS hc hs => ?_⟩
      exact lv_icmp_le hx hb h ht (fun z => absurd z hq) (fun _ => hj H locs cells slots lsA hl hlg hP hS hc hs)
  · cases hop
def o_goto (t : Nat) : pO := fun _ k ls st L => k t ls st L
theorem s_goto {μ pc t : Nat} {off : Int} (h : decode (pB μ) pc = .ok (.goto off, 3)) (ht : (pc : Int) + off = (t : Int)) : p_S μ pc (o_goto t) := by
  intro p l e R s m args below meth c Q G D rot d n0 s0 C o X k ls st L hop hk
  obtain ⟨⟨hx, hb, hml, hown, hts⟩, ⟨hK, hn0, h40, hro, hnw⟩, ⟨hfr, hlo, hce, hsl⟩, hC, hnm, hRet⟩ := X
  intro hrot
  obtain ⟨hge, hj⟩ := hk _ _ _ _ hop hrot
  refine ⟨hge, fun H locs cells slots lsA hl hlg hP hS hc hs => ?_⟩
  exact lv_goto hx hb h ht (hj H locs cells slots lsA hl hlg hP hS hc hs)
def p_sw (k : Nat → pR) (d : Nat) (x : Int32) : List (Int32 × Nat) → pR
  | [] => k d
  | (c, t) :: rest => if x = c then k t else p_sw k d x rest
def o_switch (cs : List (Int32 × Nat)) (dt : Nat) : pO := fun _ k ls st L => match st with
  | .int x :: r => p_sw (fun t => k t ls r L) dt x cs
  | _ => none
theorem p_sw_or (k : Nat → pR) (dt : Nat) (x : Int32) (o : pOut) : ∀ cs : List (Int32 × Nat), p_sw k dt x cs = some o → (∃ t, (x, t) ∈ cs ∧ k t = some o) ∨ ((∀ q ∈ cs, q.1 ≠ x) ∧ k dt = some o)
  | [], h => Or.inr ⟨(fun q hq => by cases hq), h⟩
  | (c, t) :: rest, h => by
    unfold p_sw at h
    split at h
    · rename_i hc
      subst hc
      exact Or.inl ⟨t, List.mem_cons_self, h⟩
    · rename_i hc
      rcases p_sw_or k dt x o rest h with ⟨t2, h1, h2⟩ | ⟨h1, h2⟩
      · exact Or.inl ⟨t2, List.mem_cons_of_mem _ h1, h2⟩
      · exact Or.inr ⟨fun q hq => by
          rcases List.mem_cons.mp hq with e | e
          · subst e
            exact fun z => hc z.symm
          · exact h1 q e, h2⟩
theorem s_table {μ pc dt : Nat} {dflt lo hi : Int} {offs : Array Int} {len : Nat} {cs : List (Int32 × Nat)} (h : decode (pB μ) pc = .ok (.tableswitch dflt lo hi offs, len)) (hd : (pc : Int) + dflt = (dt : Int))
    (hcs : ∀ q ∈ cs, ¬ q.1.toInt < lo ∧ ¬ hi < q.1.toInt ∧ (offs[(q.1.toInt - lo).toNat]?.map (fun off => (pc : Int) + off)) = some (q.2 : Int)) (hall : ∀ j : Nat, j < (hi - lo + 1).toNat → ∃ q ∈ cs, q.1.toInt = lo + j) : p_S μ pc (o_switch cs dt) := by
  intro p l e R s m args below meth c Q G D rot d n0 s0 C o X k ls st L hop hk
  obtain ⟨⟨hx, hb, hml, hown, hts⟩, ⟨hK, hn0, h40, hro, hnw⟩, ⟨hfr, hlo, hce, hsl⟩, hC, hnm, hRet⟩ := X
  unfold o_switch at hop
  split at hop
  · rename_i x r
    intro hrot
    rcases p_sw_or _ _ _ _ _ hop with ⟨t, h1, h2⟩ | ⟨h1, h2⟩
    · obtain ⟨hge, hj⟩ := hk _ _ _ _ h2 hrot
      refine ⟨hge, fun H locs cells slots lsA hl hlg hP hS hc hs => ?_⟩
      obtain ⟨g1, g2, g3⟩ := hcs _ h1
      obtain ⟨off, g4, g5⟩ := Option.map_eq_some_iff.mp g3
      exact lv_tableIn hx hb h g1 g2 g4 g5 (hj H locs cells slots lsA hl hlg hP hS hc hs)
    · obtain ⟨hge, hj⟩ := hk _ _ _ _ h2 hrot
      refine ⟨hge, fun H locs cells slots lsA hl hlg hP hS hc hs => ?_⟩
      refine lv_tableOut hx hb h ?_ hd (hj H locs cells slots lsA hl hlg hP hS hc hs)
      by_cases g1 : x.toInt < lo
      · exact Or.inl g1
      · refine Or.inr ?_
        by_cases g2 : hi < x.toInt
        · exact g2
        · obtain ⟨q, hq, hqe⟩ := hall (x.toInt - lo).toNat (by omega)
          exact absurd (Int32.toInt_inj.mp (by omega)) (h1 q hq)
  · cases hop
theorem s_lookup {μ pc dt : Nat} {dflt : Int} {ps : Array (Int × Int)} {len : Nat} {cs : List (Int32 × Nat)} (h : decode (pB μ) pc = .ok (.lookupswitch dflt ps, len)) (hp : (ps.toList.zip (ps.toList.drop 1)).all (fun (a, next) => a.1 < next.1) = true) (hd : (pc : Int) + dflt = (dt : Int))
    (hcs : ∀ q ∈ cs, (pc : Int) + Op.lookupswitch.offset ps.toList dflt q.1.toInt = (q.2 : Int)) (hall : ∀ x : Int32, (∀ q ∈ cs, q.1 ≠ x) → Op.lookupswitch.offset ps.toList dflt x.toInt = dflt) : p_S μ pc (o_switch cs dt) := by
  intro p l e R s m args below meth c Q G D rot d n0 s0 C o X k ls st L hop hk
  obtain ⟨⟨hx, hb, hml, hown, hts⟩, ⟨hK, hn0, h40, hro, hnw⟩, ⟨hfr, hlo, hce, hsl⟩, hC, hnm, hRet⟩ := X
  unfold o_switch at hop
  split at hop
  · rename_i x r
    intro hrot
    rcases p_sw_or _ _ _ _ _ hop with ⟨t, h1, h2⟩ | ⟨h1, h2⟩
    · obtain ⟨hge, hj⟩ := hk _ _ _ _ h2 hrot
      refine ⟨hge, fun H locs cells slots lsA hl hlg hP hS hc hs => ?_⟩
      exact lv_lookup hx hb h hp rfl (hcs _ h1) (hj H locs cells slots lsA hl hlg hP hS hc hs)
    · obtain ⟨hge, hj⟩ := hk _ _ _ _ h2 hrot
      refine ⟨hge, fun H locs cells slots lsA hl hlg hP hS hc hs => ?_⟩
      exact lv_lookup hx hb h hp (hall x h1) hd (hj H locs cells slots lsA hl hlg hP hS hc hs)
  · cases hop
def o_iload (i p : Nat) : pO := fun _ k ls st L => match ls[i]? with
  | some (some (.int x)) => k p ls (.int x :: st) L
  | _ => none
theorem s_iload_n {μ pc i : Nat} {n : Fin 4} (h : decode (pB μ) pc = .ok (.iload_n n, 1)) (hn : (n : Nat) = i) : p_S μ pc (o_iload i (pc + 1)) := by
  intro p l e R s m args below meth c Q G D rot d n0 s0 C o X k ls st L hop hk
  obtain ⟨⟨hx, hb, hml, hown, hts⟩, ⟨hK, hn0, h40, hro, hnw⟩, ⟨hfr, hlo, hce, hsl⟩, hC, hnm, hRet⟩ := X
  unfold o_iload at hop
  split at hop
  · rename_i x he
    intro hrot
    obtain ⟨hge, hj⟩ := hk _ _ _ _ hop hrot
    refine ⟨hge, fun H locs cells slots lsA hl hlg hP hS hc hs => ?_⟩
    exact lv_iload_n hx hb h hn (p_l_get hl he) (hj H locs cells slots lsA hl hlg hP hS hc hs)
  · cases hop
theorem s_iload {μ pc i : Nat} (h : decode (pB μ) pc = .ok (.iload i, 2)) : p_S μ pc (o_iload i (pc + 2)) := by
  intro p l e R s m args below meth c Q G D rot d n0 s0 C o X k ls st L hop hk
  obtain ⟨⟨hx, hb, hml, hown, hts⟩, ⟨hK, hn0, h40, hro, hnw⟩, ⟨hfr, hlo, hce, hsl⟩, hC, hnm, hRet⟩ := X
  unfold o_iload at hop
  split at hop
  · rename_i x he
    intro hrot
    obtain ⟨hge, hj⟩ := hk _ _ _ _ hop hrot
    refine ⟨hge, fun H locs cells slots lsA hl hlg hP hS hc hs => ?_⟩
    exact lv_iload hx hb h (p_l_get hl he) (hj H locs cells slots lsA hl hlg hP hS hc hs)
  · cases hop
def o_aload (i p : Nat) : pO := fun _ k ls st L => match ls[i]? with
  | some (some (.ref x)) => k p ls (.ref x :: st) L
  | _ => none
theorem s_aload_n {μ pc i : Nat} {n : Fin 4} (h : decode (pB μ) pc = .ok (.aload_n n, 1)) (hn : (n : Nat) = i) : p_S μ pc (o_aload i (pc + 1)) := by
  intro p l e R s m args below meth c Q G D rot d n0 s0 C o X k ls st L hop hk
  obtain ⟨⟨hx, hb, hml, hown, hts⟩, ⟨hK, hn0, h40, hro, hnw⟩, ⟨hfr, hlo, hce, hsl⟩, hC, hnm, hRet⟩ := X
  unfold o_aload at hop
  split at hop
  · rename_i x he
    intro hrot
    obtain ⟨hge, hj⟩ := hk _ _ _ _ hop hrot
    refine ⟨hge, fun H locs cells slots lsA hl hlg hP hS hc hs => ?_⟩
    exact lv_aload_n hx hb h hn (p_l_get hl he) (hj H locs cells slots lsA hl hlg hP hS hc hs)
  · cases hop
theorem s_aload {μ pc i : Nat} (h : decode (pB μ) pc = .ok (.aload i, 2)) : p_S μ pc (o_aload i (pc + 2)) := by
  intro p l e R s m args below meth c Q G D rot d n0 s0 C o X k ls st L hop hk
  obtain ⟨⟨hx, hb, hml, hown, hts⟩, ⟨hK, hn0, h40, hro, hnw⟩, ⟨hfr, hlo, hce, hsl⟩, hC, hnm, hRet⟩ := X
  unfold o_aload at hop
  split at hop
  · rename_i x he
    intro hrot
    obtain ⟨hge, hj⟩ := hk _ _ _ _ hop hrot
    refine ⟨hge, fun H locs cells slots lsA hl hlg hP hS hc hs => ?_⟩
    exact lv_aload hx hb h (p_l_get hl he) (hj H locs cells slots lsA hl hlg hP hS hc hs)
  · cases hop
def o_lload (i p : Nat) : pO := fun _ k ls st L => match ls[i]? with
  | some (some (.long x)) => k p ls (.long x :: st) L
  | _ => none
theorem s_lload_n {μ pc i : Nat} {n : Fin 4} (h : decode (pB μ) pc = .ok (.lload_n n, 1)) (hn : (n : Nat) = i) : p_S μ pc (o_lload i (pc + 1)) := by
  intro p l e R s m args below meth c Q G D rot d n0 s0 C o X k ls st L hop hk
  obtain ⟨⟨hx, hb, hml, hown, hts⟩, ⟨hK, hn0, h40, hro, hnw⟩, ⟨hfr, hlo, hce, hsl⟩, hC, hnm, hRet⟩ := X
  unfold o_lload at hop
  split at hop
  · rename_i x he
    intro hrot
    obtain ⟨hge, hj⟩ := hk _ _ _ _ hop hrot
    refine ⟨hge, fun H locs cells slots lsA hl hlg hP hS hc hs => ?_⟩
    exact lv_lload_n hx hb h hn (p_l_get hl he) (hj H locs cells slots lsA hl hlg hP hS hc hs)
  · cases hop
theorem s_lload {μ pc i : Nat} (h : decode (pB μ) pc = .ok (.lload i, 2)) : p_S μ pc (o_lload i (pc + 2)) := by
  intro p l e R s m args below meth c Q G D rot d n0 s0 C o X k ls st L hop hk
  obtain ⟨⟨hx, hb, hml, hown, hts⟩, ⟨hK, hn0, h40, hro, hnw⟩, ⟨hfr, hlo, hce, hsl⟩, hC, hnm, hRet⟩ := X
  unfold o_lload at hop
  split at hop
  · rename_i x he
    intro hrot
    obtain ⟨hge, hj⟩ := hk _ _ _ _ hop hrot
    refine ⟨hge, fun H locs cells slots lsA hl hlg hP hS hc hs => ?_⟩
    exact lv_lload hx hb h (p_l_get hl he) (hj H locs cells slots lsA hl hlg hP hS hc hs)
  · cases hop
def o_istore (i p : Nat) : pO := fun _ k ls st L => match st with
  | .int x :: r => k p (ls.set i (some (.int x))) r L
  | _ => none
theorem s_istore_n {μ pc i : Nat} {n : Fin 4} (h : decode (pB μ) pc = .ok (.istore_n n, 1)) (hn : (n : Nat) = i) (h9 : p_st1 μ i = true) : p_S μ pc (o_istore i (pc + 1)) := by
  intro p l e R s m args below meth c Q G D rot d n0 s0 C o X k ls st L hop hk
  obtain ⟨⟨hx, hb, hml, hown, hts⟩, ⟨hK, hn0, h40, hro, hnw⟩, ⟨hfr, hlo, hce, hsl⟩, hC, hnm, hRet⟩ := X
  unfold o_istore at hop
  split at hop
  · rename_i x r
    intro hrot
    obtain ⟨hge, hj⟩ := hk _ _ _ _ hop hrot
    refine ⟨hge, fun H locs cells slots lsA hl hlg hP hS hc hs => ?_⟩
    refine lv_istore_n hx hb h hn hl ?_ rfl (fun ls' hl' => ?_)
    · simp only [p_st1, Bool.and_eq_true, decide_eq_true_eq] at h9
      exact h9.1
    · obtain ⟨g1, g2⟩ := p_store1 (v := .int x) h9 hlg rfl hl'
      exact hj H locs cells slots ls' g1 g2 hP hS hc hs
  · cases hop
theorem s_istore {μ pc i : Nat} (h : decode (pB μ) pc = .ok (.istore i, 2)) (h9 : p_st1 μ i = true) : p_S μ pc (o_istore i (pc + 2)) := by
  intro p l e R s m args below meth c Q G D rot d n0 s0 C o X k ls st L hop hk
  obtain ⟨⟨hx, hb, hml, hown, hts⟩, ⟨hK, hn0, h40, hro, hnw⟩, ⟨hfr, hlo, hce, hsl⟩, hC, hnm, hRet⟩ := X
  unfold o_istore at hop
  split at hop
  · rename_i x r
    intro hrot
    obtain ⟨hge, hj⟩ := hk _ _ _ _ hop hrot
    refine ⟨hge, fun H locs cells slots lsA hl hlg hP hS hc hs => ?_⟩
    refine lv_istore hx hb h hl ?_ rfl (fun ls' hl' => ?_)
    · simp only [p_st1, Bool.and_eq_true, decide_eq_true_eq] at h9
      exact h9.1
    · obtain ⟨g1, g2⟩ := p_store1 (v := .int x) h9 hlg rfl hl'
      exact hj H locs cells slots ls' g1 g2 hP hS hc hs
  · cases hop
def o_astore (i p : Nat) : pO := fun _ k ls st L => match st with
  | .ref x :: r => k p (ls.set i (some (.ref x))) r L
  | _ => none
theorem s_astore_n {μ pc i : Nat} {n : Fin 4} (h : decode (pB μ) pc = .ok (.astore_n n, 1)) (hn : (n : Nat) = i) (h9 : p_st1 μ i = true) : p_S μ pc (o_astore i (pc + 1)) := by
  intro p l e R s m args below meth c Q G D rot d n0 s0 C o X k ls st L hop hk
  obtain ⟨⟨hx, hb, hml, hown, hts⟩, ⟨hK, hn0, h40, hro, hnw⟩, ⟨hfr, hlo, hce, hsl⟩, hC, hnm, hRet⟩ := X
  unfold o_astore at hop
  split at hop
  · rename_i x r
    intro hrot
    obtain ⟨hge, hj⟩ := hk _ _ _ _ hop hrot
    refine ⟨hge, fun H locs cells slots lsA hl hlg hP hS hc hs => ?_⟩
    refine lv_astore_n hx hb h hn hl ?_ rfl (fun ls' hl' => ?_)
    · simp only [p_st1, Bool.and_eq_true, decide_eq_true_eq] at h9
      exact h9.1
    · obtain ⟨g1, g2⟩ := p_store1 (v := .ref x) h9 hlg rfl hl'
      exact hj H locs cells slots ls' g1 g2 hP hS hc hs
  · cases hop
theorem s_astore {μ pc i : Nat} (h : decode (pB μ) pc = .ok (.astore i, 2)) (h9 : p_st1 μ i = true) : p_S μ pc (o_astore i (pc + 2)) := by
  intro p l e R s m args below meth c Q G D rot d n0 s0 C o X k ls st L hop hk
  obtain ⟨⟨hx, hb, hml, hown, hts⟩, ⟨hK, hn0, h40, hro, hnw⟩, ⟨hfr, hlo, hce, hsl⟩, hC, hnm, hRet⟩ := X
  unfold o_astore at hop
  split at hop
  · rename_i x r
    intro hrot
    obtain ⟨hge, hj⟩ := hk _ _ _ _ hop hrot
    refine ⟨hge, fun H locs cells slots lsA hl hlg hP hS hc hs => ?_⟩
    refine lv_astore hx hb h hl ?_ rfl (fun ls' hl' => ?_)
    · simp only [p_st1, Bool.and_eq_true, decide_eq_true_eq] at h9
      exact h9.1
    · obtain ⟨g1, g2⟩ := p_store1 (v := .ref x) h9 hlg rfl hl'
      exact hj H locs cells slots ls' g1 g2 hP hS hc hs
  · cases hop
def o_lstore (i p : Nat) : pO := fun _ k ls st L => match st with
  | .long x :: r => k p ((ls.set i (some (.long x))).set (i + 1) none) r L
  | _ => none
theorem s_lstore_n {μ pc i : Nat} {n : Fin 4} (h : decode (pB μ) pc = .ok (.lstore_n n, 1)) (hn : (n : Nat) = i) (h9 : p_st2 μ i = true) : p_S μ pc (o_lstore i (pc + 1)) := by
  intro p l e R s m args below meth c Q G D rot d n0 s0 C o X k ls st L hop hk
  obtain ⟨⟨hx, hb, hml, hown, hts⟩, ⟨hK, hn0, h40, hro, hnw⟩, ⟨hfr, hlo, hce, hsl⟩, hC, hnm, hRet⟩ := X
  unfold o_lstore at hop
  split at hop
  · rename_i x r
    intro hrot
    obtain ⟨hge, hj⟩ := hk _ _ _ _ hop hrot
    refine ⟨hge, fun H locs cells slots lsA hl hlg hP hS hc hs => ?_⟩
    refine lv_lstore_n hx hb h hn hl ?_ rfl (fun ls' hl' => ?_)
    · simp only [p_st2, Bool.and_eq_true, decide_eq_true_eq] at h9
      exact h9.1
    · obtain ⟨g1, g2⟩ := p_store2 (v := .long x) h9 hlg hl'
      exact hj H locs cells slots ls' g1 g2 hP hS hc hs
  · cases hop
theorem s_lstore {μ pc i : Nat} (h : decode (pB μ) pc = .ok (.lstore i, 2)) (h9 : p_st2 μ i = true) : p_S μ pc (o_lstore i (pc + 2)) := by
  intro p l e R s m args below meth c Q G D rot d n0 s0 C o X k ls st L hop hk
  obtain ⟨⟨hx, hb, hml, hown, hts⟩, ⟨hK, hn0, h40, hro, hnw⟩, ⟨hfr, hlo, hce, hsl⟩, hC, hnm, hRet⟩ := X
  unfold o_lstore at hop
  split at hop
  · rename_i x r
    intro hrot
    obtain ⟨hge, hj⟩ := hk _ _ _ _ hop hrot
    refine ⟨hge, fun H locs cells slots lsA hl hlg hP hS hc hs => ?_⟩
    refine lv_lstore hx hb h hl ?_ rfl (fun ls' hl' => ?_)
    · simp only [p_st2, Bool.and_eq_true, decide_eq_true_eq] at h9
      exact h9.1
    · obtain ⟨g1, g2⟩ := p_store2 (v := .long x) h9 hlg hl'
      exact hj H locs cells slots ls' g1 g2 hP hS hc hs
  · cases hop
def o_iinc (i : Nat) (v : Int32) (p : Nat) : pO := fun _ k ls st L => match ls[i]? with
  | some (some (.int x)) => k p (ls.set i (some (.int (x + v)))) st L
  | _ => none
theorem s_iinc {μ pc i : Nat} {n : Int} {v : Int32} (h : decode (pB μ) pc = .ok (.iinc i n, 3)) (hv : Int32.ofInt n = v) (h9 : p_st1 μ i = true) : p_S μ pc (o_iinc i v (pc + 3)) := by
  intro p l e R s m args below meth c Q G D rot d n0 s0 C o X k ls st L hop hk
  obtain ⟨⟨hx, hb, hml, hown, hts⟩, ⟨hK, hn0, h40, hro, hnw⟩, ⟨hfr, hlo, hce, hsl⟩, hC, hnm, hRet⟩ := X
  unfold o_iinc at hop
  split at hop
  · rename_i x he
    intro hrot
    obtain ⟨hge, hj⟩ := hk _ _ _ _ hop hrot
    refine ⟨hge, fun H locs cells slots lsA hl hlg hP hS hc hs => ?_⟩
    have hm : (i, Value.int x) ∈ p_l G 0 ls := (p_l_mem ls 0 _).mpr ⟨i, .int x, he, by rw [Nat.zero_add]; rfl⟩
    obtain ⟨kk, hkk⟩ := List.getElem?_of_mem hm
    refine lv_iinc hx hb h hl hkk (by rw [hv]) ?_ rfl (fun ls' hl' => ?_)
    · simp only [p_st1, Bool.and_eq_true, decide_eq_true_eq] at h9
      exact h9.1
    · obtain ⟨g1, g2⟩ := p_store1 (v := .int (x + v)) h9 hlg rfl hl'
      exact hj H locs cells slots ls' g1 g2 hP hS hc hs
  · cases hop
def o_iret : pO := fun _ _ _ st L => match st with
  | [.int x] => some (some (.int x), L)
  | _ => none
def o_zret : pO := fun _ _ _ st L => match st with
  | [.int x] => if x = 0 ∨ x = 1 then some (some (.int x), L) else none
  | _ => none
def o_aret : pO := fun _ _ _ st L => match st with
  | [.ref x] => some (some (.ref x), L)
  | _ => none
def o_vret : pO := fun _ _ _ st L => match st with
  | [] => some (none, L)
  | _ => none
def o_lret : pO := fun _ _ _ st L => match st with
  | [.long x] => some (some (.long x), L)
  | _ => none
theorem s_lret {μ pc : Nat} (h : decode (pB μ) pc = .ok (.lreturn, 1)) (hr : pRt μ = some .long) : p_S μ pc o_lret := by
  intro p l e R s m args below meth c Q G D rot d n0 s0 C o X k ls st L hop hk
  obtain ⟨⟨hx, hb, hml, hown, hts⟩, ⟨hK, hn0, h40, hro, hnw⟩, ⟨hfr, hlo, hce, hsl⟩, hC, hnm, hRet⟩ := X
  unfold o_lret at hop
  split at hop
  · rename_i x
    cases hop
    intro hrot
    refine ⟨⟨Nat.le_refl _, Nat.le_refl _, hrot⟩, fun H locs cells slots lsA hl hlg hP hS hc hs => ?_⟩
    exact hRet pc lsA H locs cells slots (Or.inr (Or.inr (Or.inr (Or.inr ⟨h, hr, x, rfl⟩)))) hrot hP hS hc hs
  · cases hop
theorem s_iret {μ pc : Nat} (h : decode (pB μ) pc = .ok (.ireturn, 1)) (hr : pRt μ = some .int) : p_S μ pc o_iret := by
  intro p l e R s m args below meth c Q G D rot d n0 s0 C o X k ls st L hop hk
  obtain ⟨⟨hx, hb, hml, hown, hts⟩, ⟨hK, hn0, h40, hro, hnw⟩, ⟨hfr, hlo, hce, hsl⟩, hC, hnm, hRet⟩ := X
  unfold o_iret at hop
  split at hop
  · rename_i x
    cases hop
    intro hrot
    refine ⟨⟨Nat.le_refl _, Nat.le_refl _, hrot⟩, fun H locs cells slots lsA hl hlg hP hS hc hs => ?_⟩
    exact hRet pc lsA H locs cells slots (Or.inl ⟨h, hr, x, rfl⟩) hrot hP hS hc hs
  · cases hop
theorem s_zret {μ pc : Nat} (h : decode (pB μ) pc = .ok (.ireturn, 1)) (hr : pRt μ = some .boolean) : p_S μ pc o_zret := by
  intro p l e R s m args below meth c Q G D rot d n0 s0 C o X k ls st L hop hk
  obtain ⟨⟨hx, hb, hml, hown, hts⟩, ⟨hK, hn0, h40, hro, hnw⟩, ⟨hfr, hlo, hce, hsl⟩, hC, hnm, hRet⟩ := X
  unfold o_zret at hop
  split at hop
  · rename_i x
    split at hop
    · rename_i hx01
      cases hop
      intro hrot
      refine ⟨⟨Nat.le_refl _, Nat.le_refl _, hrot⟩, fun H locs cells slots lsA hl hlg hP hS hc hs => ?_⟩
      exact hRet pc lsA H locs cells slots (Or.inr (Or.inl ⟨h, hr, x, rfl, hx01⟩)) hrot hP hS hc hs
    · cases hop
  · cases hop
theorem s_aret {μ pc : Nat} {n : String} (h : decode (pB μ) pc = .ok (.areturn, 1)) (hr : pRt μ = some (.object n)) : p_S μ pc o_aret := by
  intro p l e R s m args below meth c Q G D rot d n0 s0 C o X k ls st L hop hk
  obtain ⟨⟨hx, hb, hml, hown, hts⟩, ⟨hK, hn0, h40, hro, hnw⟩, ⟨hfr, hlo, hce, hsl⟩, hC, hnm, hRet⟩ := X
  unfold o_aret at hop
  split at hop
  · rename_i x
    cases hop
    intro hrot
    refine ⟨⟨Nat.le_refl _, Nat.le_refl _, hrot⟩, fun H locs cells slots lsA hl hlg hP hS hc hs => ?_⟩
    exact hRet pc lsA H locs cells slots (Or.inr (Or.inr (Or.inl ⟨h, ⟨n, hr⟩, x, rfl⟩))) hrot hP hS hc hs
  · cases hop
theorem s_vret {μ pc : Nat} (h : decode (pB μ) pc = .ok (.return_, 1)) (hr : pRt μ = none) : p_S μ pc o_vret := by
  intro p l e R s m args below meth c Q G D rot d n0 s0 C o X k ls st L hop hk
  obtain ⟨⟨hx, hb, hml, hown, hts⟩, ⟨hK, hn0, h40, hro, hnw⟩, ⟨hfr, hlo, hce, hsl⟩, hC, hnm, hRet⟩ := X
  unfold o_vret at hop
  split at hop
  · cases hop
    intro hrot
    refine ⟨⟨Nat.le_refl _, Nat.le_refl _, hrot⟩, fun H locs cells slots lsA hl hlg hP hS hc hs => ?_⟩
    exact hRet pc lsA H locs cells slots (Or.inr (Or.inr (Or.inr (Or.inl ⟨h, hr, rfl⟩)))) hrot hP hS hc hs
  · cases hop
