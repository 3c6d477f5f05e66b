/-! ===== numbers modulo 32003, and rows of them: pure rows ===== -/
abbrev xF : Type := Fin 32003
abbrev xP : Type := Nat → xF
/-- a number as Java's int -/
def xI (x : xF) : Int32 := nI x.val
/-- a number as Java's long -/
def xJ (x : xF) : Int64 := lN x.val
theorem xF_lt (x : xF) : x.val < 32003 := x.isLt
theorem xI_0 : xI 0 = 0 := by decide +kernel
theorem xJ_0 : xJ 0 = 0 := by decide +kernel
theorem xI_1 : xI 1 = 1 := by decide +kernel
theorem xJ_1 : xJ 1 = 1 := by decide +kernel
theorem xI_inj {x y : xF} (h : xI x = xI y) : x = y := by
  have := (nI_eq (by have := x.isLt; omega) (by have := y.isLt; omega)).mp h
  exact Fin.ext this
theorem xI_iff {x y : xF} : xI x = xI y ↔ x = y := ⟨xI_inj, fun h => by rw [h]⟩
theorem xI_z {x : xF} : xI x = 0 ↔ x = 0 := by rw [← xI_0]; exact xI_iff
theorem xJ_inj {x y : xF} (h : xJ x = xJ y) : x = y := by
  have := (lN_eq (by have := x.isLt; omega) (by have := y.isLt; omega)).mp h
  exact Fin.ext this
theorem xJ_iff {x y : xF} : xJ x = xJ y ↔ x = y := ⟨xJ_inj, fun h => by rw [h]⟩
theorem xJ_z {x : xF} : xJ x = 0 ↔ x = 0 := by rw [← xJ_0]; exact xJ_iff
theorem xI_l (x : xF) : (xI x).toInt64 = xJ x := nI_l (by have := x.isLt; omega)
theorem xJ_i (x : xF) : (xJ x).toInt32 = xI x := lN_i _
theorem xI_nn (x : xF) : ¬ xI x < 0 := nI_pos (by have := x.isLt; omega)
theorem xJ_nn (x : xF) : ¬ xJ x < 0 := by
  intro h
  have := (pk_lLT (a := x.val) (b := 0) (by have := x.isLt; omega) (by decide)).mp (by simpa [xJ, lN] using h)
  omega
/-- a Nat as a number -/
def xO (n : Nat) : xF := Fin.ofNat 32003 n
theorem xO_val (n : Nat) : (xO n).val = n % 32003 := rfl
theorem xO_self (x : xF) : xO x.val = x := Fin.ext (Nat.mod_eq_of_lt x.isLt)
theorem xO_add (a b : Nat) : xO (a + b) = xO a + xO b := Fin.ext (by simp [xO, Fin.add_def, Nat.add_mod])
theorem xO_mul (a b : Nat) : xO (a * b) = xO a * xO b := Fin.ext (by simp [xO, Fin.mul_def, Nat.mul_mod])
theorem xO_P : xO 32003 = 0 := by decide +kernel
/-- what Java's 'v % 32003', and 32003 more if that is below 0, answers -/
def xR (v : Int64) : xF := xO (v.toInt % 32003).toNat
theorem xR_lN {n : Nat} (h : n < 2 ^ 63) : xR (lN n) = xO n := by
  unfold xR
  rw [pk_lT h]
  apply Fin.ext
  rw [xO_val, xO_val]
  have : ((n : Int) % 32003).toNat = n % 32003 := by omega
  rw [this]; omega
/-- the sum of the first n -/
def xS (n : Nat) (f : Nat → xF) : xF := match n with
  | 0 => 0
  | n + 1 => xS n f + f n
theorem xS_0 (f : Nat → xF) : xS 0 f = 0 := rfl
theorem xS_s (n : Nat) (f : Nat → xF) : xS (n + 1) f = xS n f + f n := rfl
theorem xS_congr {n : Nat} {f g : Nat → xF} (h : ∀ i, i < n → f i = g i) : xS n f = xS n g := by
  induction n with
  | zero => rfl
  | succ n ih => rw [xS_s, xS_s, ih (fun i hi => h i (by omega)), h n (by omega)]
theorem xS_zero {n : Nat} {f : Nat → xF} (h : ∀ i, i < n → f i = 0) : xS n f = 0 := by
  induction n with
  | zero => rfl
  | succ n ih => rw [xS_s, ih (fun i hi => h i (by omega)), h n (by omega)]; grind
theorem xS_add (n : Nat) (f g : Nat → xF) : xS n (fun i => f i + g i) = xS n f + xS n g := by
  induction n with
  | zero => rw [xS_0, xS_0, xS_0]; grind
  | succ n ih => rw [xS_s, xS_s, xS_s, ih]; grind
theorem xS_mul (n : Nat) (a : xF) (f : Nat → xF) : xS n (fun i => a * f i) = a * xS n f := by
  induction n with
  | zero => rw [xS_0, xS_0]; grind
  | succ n ih => rw [xS_s, xS_s, ih]; grind
theorem xS_head (n : Nat) (f : Nat → xF) : xS (n + 1) f = f 0 + xS n (fun i => f (i + 1)) := by
  induction n with
  | zero => rw [xS_s, xS_0, xS_0]; grind
  | succ n ih => rw [xS_s, ih, xS_s]; grind
theorem xS_rev (n : Nat) (f : Nat → xF) : xS n f = xS n (fun i => f (n - 1 - i)) := by
  induction n generalizing f with
  | zero => rfl
  | succ n ih =>
    rw [xS_head, xS_s, ih]
    have h1 : f (n + 1 - 1 - n) = f 0 := by congr 1; omega
    rw [h1]
    have h2 : xS n (fun i => f (n - 1 - i + 1)) = xS n (fun i => f (n + 1 - 1 - i)) := xS_congr (fun i hi => by congr 1; omega)
    rw [h2]; grind
theorem xS_ext {n m : Nat} {f : Nat → xF} (hnm : n ≤ m) (h : ∀ i, n ≤ i → i < m → f i = 0) : xS m f = xS n f := by
  induction m with
  | zero => have : n = 0 := by omega
            subst this; rfl
  | succ m ih =>
    by_cases hh : n = m + 1
    · subst hh; rfl
    · rw [xS_s, ih (by omega) (fun i h1 h2 => h i h1 (by omega)), h m (by omega) (by omega)]; grind
theorem xS_split (n m : Nat) (f : Nat → xF) : xS (n + m) f = xS n f + xS m (fun i => f (n + i)) := by
  induction m with
  | zero => rw [xS_0]; simp; 
  | succ m ih => rw [Nat.add_succ, xS_s, ih, xS_s]; grind
theorem xS_swap (n m : Nat) (f : Nat → Nat → xF) : xS n (fun i => xS m (fun j => f i j)) = xS m (fun j => xS n (fun i => f i j)) := by
  induction n with
  | zero => rw [xS_0]; exact (xS_zero (fun i _ => rfl)).symm
  | succ n ih => rw [xS_s, ih, ← xS_add]; rfl
theorem xS_one {n k : Nat} {f : Nat → xF} (hk : k < n) (h : ∀ i, i < n → i ≠ k → f i = 0) : xS n f = f k := by
  induction n with
  | zero => omega
  | succ n ih =>
    rw [xS_s]
    by_cases hh : k = n
    · subst hh
      rw [xS_zero (fun i hi => h i (by omega) (by omega))]; grind
    · rw [ih (by omega) (fun i hi hne => h i (by omega) hne), h n (by omega) (fun q => hh q.symm)]; grind
/-- triangle -/
theorem xS_tri (n : Nat) (F : Nat → Nat → xF) : xS n (fun i => xS (i + 1) (fun j => F i j)) = xS n (fun j => xS (n - j) (fun t => F (j + t) j)) := by
  induction n with
  | zero => rfl
  | succ n ih =>
    rw [xS_s, ih]
    rw [xS_s n (fun j => xS (n + 1 - j) (fun t => F (j + t) j))]
    have h1 : xS n (fun j => xS (n + 1 - j) (fun t => F (j + t) j)) = xS n (fun j => xS (n - j) (fun t => F (j + t) j)) + xS n (fun j => F n j) := by
      rw [← xS_add]
      refine xS_congr (fun j hj => ?_)
      rw [show n + 1 - j = (n - j) + 1 by omega, xS_s]
      rw [show j + (n - j) = n by omega]
    rw [h1, xS_s n (fun j => F n j)]
    rw [show n + 1 - n = 1 by omega, xS_s, xS_0]
    simp only [Nat.add_zero]
    grind
theorem x_rem (v : Int64) : (v - v / 32003 * 32003).toInt = v.toInt.tmod 32003 := by
  have h1 : (v / 32003).toInt = v.toInt.tdiv 32003 := by
    rw [Int64.toInt_div_of_ne_right _ _ (by decide)]; rfl
  have h2 : (32003 : Int64).toInt = 32003 := by decide
  rw [Int64.toInt_sub, Int64.toInt_mul, h1, h2, Int.sub_bmod_bmod]
  have h3 : v.toInt - v.toInt.tdiv 32003 * 32003 = v.toInt.tmod 32003 := by
    rw [Int.tmod_def, Int.mul_comm]
  rw [h3]
  have h4 := Int.tmod_lt_of_pos v.toInt (b := 32003) (by decide)
  have h5 := Int.lt_tmod_of_pos v.toInt (b := 32003) (by decide)
  exact Int.bmod_eq_of_le (by omega) (by omega)
theorem x_rem32 (v : Int64) : ((v - v / 32003 * 32003).toInt32).toInt = v.toInt.tmod 32003 := by
  rw [Int64.toInt_toInt32, x_rem]
  have h4 := Int.tmod_lt_of_pos v.toInt (b := 32003) (by decide)
  have h5 := Int.lt_tmod_of_pos v.toInt (b := 32003) (by decide)
  exact Int.bmod_eq_of_le (by omega) (by omega)
theorem x_tm (z : Int) : z % 32003 = (if 0 ≤ z.tmod 32003 then z.tmod 32003 else z.tmod 32003 + 32003) := by
  have h := Int.tmod_eq_emod (a := z) (b := 32003)
  have h4 := Int.emod_lt_of_pos z (b := 32003) (by decide)
  have h5 := Int.emod_nonneg z (b := 32003) (by decide)
  split at h
  · have h : z.tmod 32003 = z % 32003 := by simpa using h
    rw [h, if_pos h5]
  · rename_i hh
    have h6 : z % 32003 ≠ 0 := fun q => hh (Or.inr (Int.dvd_of_emod_eq_zero q))
    rw [h, if_neg (by simp; omega)]
    simp
/-- the class's 'reduced': the int, as it is or 32003 more -/
theorem x_red_p {v : Int64} (h : 0 ≤ (v - v / 32003 * 32003).toInt32) : (v - v / 32003 * 32003).toInt32 = xI (xR v) := by
  apply Int32.toInt_inj.mp
  have h0 : (0 : Int) ≤ (v - v / 32003 * 32003).toInt32.toInt := Int32.le_iff_toInt_le.mp h
  rw [x_rem32] at h0 ⊢
  have h1 := x_tm v.toInt
  rw [if_pos h0] at h1
  have h2 := Int.emod_lt_of_pos v.toInt (b := 32003) (by decide)
  unfold xI xR
  rw [nI_toInt (by rw [xO_val]; omega), xO_val]
  omega
theorem x_red_n {v : Int64} (h : ¬ 0 ≤ (v - v / 32003 * 32003).toInt32) : (v - v / 32003 * 32003).toInt32 + 32003 = xI (xR v) := by
  apply Int32.toInt_inj.mp
  have h0 : ¬ (0 : Int) ≤ (v - v / 32003 * 32003).toInt32.toInt := fun q => h (Int32.le_iff_toInt_le.mpr q)
  rw [Int32.toInt_add]
  rw [x_rem32] at h0 ⊢
  have h1 := x_tm v.toInt
  rw [if_neg h0] at h1
  have h2 := Int.emod_lt_of_pos v.toInt (b := 32003) (by decide)
  have h3 := Int.emod_nonneg v.toInt (b := 32003) (by decide)
  have h5 : (32003 : Int32).toInt = 32003 := by decide
  unfold xI xR
  rw [nI_toInt (by rw [xO_val]; omega), xO_val, h5, ← h1]
  rw [Int.bmod_eq_of_le (by omega) (by omega)]
  omega
/-- the model's 'modulo' -/
theorem x_mod_p {v : Int64} (h : ¬ (v - v / 32003 * 32003) < 0) : (v - v / 32003 * 32003) = xJ (xR v) := by
  apply Int64.toInt_inj.mp
  have h0 : 0 ≤ (v - v / 32003 * 32003).toInt := Int.not_lt.mp fun q => h (Int64.lt_iff_toInt_lt.mpr q)
  rw [x_rem] at h0 ⊢
  have h1 := x_tm v.toInt
  rw [if_pos h0] at h1
  have h2 := Int.emod_lt_of_pos v.toInt (b := 32003) (by decide)
  unfold xJ xR
  rw [lN_toInt (by rw [xO_val]; omega), xO_val]
  omega
theorem x_mod_n {v : Int64} (h : (v - v / 32003 * 32003) < 0) : (v - v / 32003 * 32003) + 32003 = xJ (xR v) := by
  apply Int64.toInt_inj.mp
  have h0 : ¬ 0 ≤ (v - v / 32003 * 32003).toInt := Int.not_le.mpr (Int64.lt_iff_toInt_lt.mp h)
  rw [Int64.toInt_add]
  rw [x_rem] at h0 ⊢
  have h1 := x_tm v.toInt
  rw [if_neg h0] at h1
  have h2 := Int.emod_lt_of_pos v.toInt (b := 32003) (by decide)
  have h3 := Int.emod_nonneg v.toInt (b := 32003) (by decide)
  have h5 : (32003 : Int64).toInt = 32003 := by decide
  unfold xJ xR
  rw [lN_toInt (by rw [xO_val]; omega), xO_val, h5, ← h1]
  rw [Int.bmod_eq_of_le (by omega) (by omega)]
  omega
theorem xJ_mul (x y : xF) : xJ x * xJ y = lN (x.val * y.val) := lN_mul _ _
theorem x_val_mul (x y : xF) : xO (x.val * y.val) = x * y := by rw [xO_mul, xO_self, xO_self]
theorem x_val_mul_lt (x y : xF) : x.val * y.val < 1024192009 := by
  have h1 := x.isLt
  have h2 := y.isLt
  have := Nat.mul_le_mul (show x.val ≤ 32002 by omega) (show y.val ≤ 32002 by omega)
  omega
theorem xR_mul (x y : xF) : xR (xJ x * xJ y) = x * y := by
  rw [xJ_mul, xR_lN (by have := x_val_mul_lt x y; omega), x_val_mul]
/-- a power by its bits -/
def xpw : Nat → Nat → xF → xF → xF
  | 0, _, r, _ => r
  | f + 1, n, r, s => if n = 0 then r else xpw f (n / 2) (if n % 2 = 1 then r * s else r) (s * s)
def xinv (a : xF) : xF := xpw 15 32001 1 a
theorem xpw_0 (f : Nat) (r s : xF) : xpw f 0 r s = r := by cases f <;> simp [xpw]
theorem xpw_s {f n : Nat} (r s : xF) (h : n ≠ 0) : xpw (f + 1) n r s = xpw f (n / 2) (if n % 2 = 1 then r * s else r) (s * s) := by simp [xpw, h]
