/-! ===== rows of numbers as a ring; division, divisors, lowest terms ===== -/
def xc (v : xF) : xP := va_up (fun _ => 0) 0 v
def xad (f g : xP) : xP := fun i => f i + g i
def xsb (f g : xP) : xP := fun i => f i - g i
def xng (f : xP) : xP := fun i => - f i
theorem xc_0 : xc 0 = fun _ => 0 := by funext i; unfold xc va_up; split <;> rfl
theorem xc_at (v : xF) (i : Nat) : xc v i = if i = 0 then v else 0 := by unfold xc va_up; rfl
theorem xmul_comm (f g : xP) : xmul f g = xmul g f := by
  funext k
  unfold xmul
  rw [xS_rev]
  refine xS_congr (fun i hi => ?_)
  rw [show k + 1 - 1 - i = k - i by omega, show k - (k - i) = i by omega]; grind
theorem xmul_assoc (f g h : xP) : xmul (xmul f g) h = xmul f (xmul g h) := by
  funext n
  have e1 : xmul (xmul f g) h n = xS (n + 1) (fun i => xS (i + 1) (fun j => f j * g (i - j) * h (n - i))) := by
    refine xS_congr (fun i _ => ?_)
    show xS (i + 1) (fun j => f j * g (i - j)) * h (n - i) = _
    rw [show xS (i + 1) (fun j => f j * g (i - j)) * h (n - i) = h (n - i) * xS (i + 1) (fun j => f j * g (i - j)) by grind, ← xS_mul]
    exact xS_congr (fun j _ => by grind)
  rw [e1, xS_tri]
  show _ = xS (n + 1) (fun i => f i * xmul g h (n - i))
  refine xS_congr (fun j hj => ?_)
  show _ = f j * xS (n - j + 1) (fun t => g t * h (n - j - t))
  rw [← xS_mul, show n + 1 - j = n - j + 1 by omega]
  refine xS_congr (fun t _ => ?_)
  rw [show j + t - j = t by omega, show n - (j + t) = n - j - t by omega]; grind
theorem xmul_add (f g h : xP) : xmul f (xad g h) = xad (xmul f g) (xmul f h) := by
  funext k
  show xS (k + 1) (fun i => f i * (g (k - i) + h (k - i))) = xS (k + 1) _ + xS (k + 1) _
  rw [← xS_add]
  exact xS_congr (fun i _ => by grind)
theorem xmul_c (v : xF) (f : xP) : xmul (xc v) f = fun i => v * f i := by
  funext k
  show xS (k + 1) (fun i => xc v i * f (k - i)) = _
  rw [xS_one (k := 0) (by omega) (fun i h1 h2 => by rw [xc_at, if_neg h2]; grind), xc_at, if_pos rfl]
  rfl
theorem xmul_1 (f : xP) : xmul f (xc 1) = f := by rw [xmul_comm, xmul_c]; funext i; grind
theorem xmul_0 (f : xP) : xmul (xc 0) f = xc 0 := by rw [xmul_c, xc_0]; funext i; grind
def xint (i : Int) : xF := match i with
  | .ofNat n => xO n
  | .negSucc n => - xO (n + 1)
theorem xint_neg (i : Int) : xint (-i) = - xint i := by
  cases i with
  | ofNat n =>
    cases n with
    | zero => show xO 0 = - xO 0; rw [show xO 0 = 0 by decide +kernel]; grind
    | succ n => rfl
  | negSucc n => show xO (n + 1) = - - xO (n + 1); grind
def xring : Lean.Grind.CommRing xP where
  add := xad
  mul := xmul
  natCast := ⟨fun n => xc (xO n)⟩
  ofNat n := ⟨xc (xO n)⟩
  nsmul := ⟨fun n f => xmul (xc (xO n)) f⟩
  npow := ⟨fun f n => n.rec (xc (xO 1)) (fun _ g => xmul g f)⟩
  add_zero f := by
    show xad f (xc (xO 0)) = f
    rw [show xO 0 = 0 by decide +kernel, xc_0]; funext i; show f i + 0 = f i; grind
  add_comm f g := by funext i; show f i + g i = g i + f i; grind
  add_assoc f g h := by funext i; show f i + g i + h i = f i + (g i + h i); grind
  mul_assoc := xmul_assoc
  mul_one f := by show xmul f (xc (xO 1)) = f; rw [xO_1, xmul_1]
  one_mul f := by show xmul (xc (xO 1)) f = f; rw [xO_1, xmul_comm, xmul_1]
  left_distrib := xmul_add
  right_distrib f g h := by
    show xmul (xad f g) h = xad (xmul f h) (xmul g h)
    rw [xmul_comm, xmul_add, xmul_comm h f, xmul_comm h g]
  zero_mul f := by show xmul (xc (xO 0)) f = xc (xO 0); rw [show xO 0 = 0 by decide +kernel, xmul_0]
  mul_zero f := by show xmul f (xc (xO 0)) = xc (xO 0); rw [show xO 0 = 0 by decide +kernel, xmul_comm, xmul_0]
  mul_comm := xmul_comm
  pow_zero f := rfl
  pow_succ f n := rfl
  ofNat_succ n := by
    show xc (xO (n + 1)) = xad (xc (xO n)) (xc (xO 1))
    rw [xO_s, xO_1]; funext i; show xc _ i = xc _ i + xc _ i
    rw [xc_at, xc_at, xc_at]; split <;> grind
  ofNat_eq_natCast n := rfl
  nsmul_eq_natCast_mul n f := rfl
  neg := xng
  sub := xsb
  intCast := ⟨fun i => xc (xint i)⟩
  zsmul := ⟨fun i f => xmul (xc (xint i)) f⟩
  neg_add_cancel f := by
    show xad (xng f) f = xc (xO 0)
    rw [show xO 0 = 0 by decide +kernel, xc_0]; funext i; show - f i + f i = 0; grind
  sub_eq_add_neg f g := by funext i; show f i - g i = f i + - g i; grind
  neg_zsmul i f := by
    show xmul (xc (xint (-i))) f = xng (xmul (xc (xint i)) f)
    rw [xint_neg, xmul_c, xmul_c]; funext j; show - xint i * f j = - (xint i * f j); grind
  zsmul_natCast_eq_nsmul n f := rfl
  intCast_ofNat n := rfl
  intCast_neg i := by
    show xc (xint (-i)) = xng (xc (xint i))
    rw [xint_neg]; funext j; show xc _ j = - xc _ j
    rw [xc_at, xc_at]; split <;> grind
