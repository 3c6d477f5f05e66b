/-! ===== the reference: rows on longs, its cells ===== -/
def xrowJ (f : xP) : Nat → Int64 := fun k => xJ (f k)
theorem xrowJ_up (f : xP) (k : Nat) (v : xF) : vp_updL (xrowJ f) k (xJ v) = xrowJ (va_up f k v) := by
  funext j
  by_cases h : j = k
  · subst h; simp [vp_updL, xrowJ, va_up]
  · simp [vp_updL, xrowJ, va_up, h]
/-- a row of n longs that holds f -/
abbrev xJr (G : xG) (n : Nat) (f : xP) : va_E := .inl (G.2 1, n, .inr (.inl (xrowJ f)))
/-- a row of n ints that holds f -/
abbrev xIr (G : xG) (n : Nat) (f : xP) : va_E := .inl (G.2 0, n, .inl (xrow f))
theorem xl_rem {n : Nat} (h : n < 2 ^ 63) : lN n - lN n / 32003 * 32003 = xJ (xO n) := by
  have := pk_lRem (a := n) (b := 32003) h (by decide) (by decide)
  exact this
theorem xl_mul (a b : xF) : xJ a * xJ b - xJ a * xJ b / 32003 * 32003 = xJ (a * b) := by
  rw [xJ_mul, xl_rem (by have := x_val_mul_lt a b; omega), x_val_mul]
theorem xl_add (a b : xF) : (xJ a + xJ b) - (xJ a + xJ b) / 32003 * 32003 = xJ (a + b) := by
  have e : xJ a + xJ b = lN (a.val + b.val) := lN_add _ _
  have h1 := a.isLt
  have h2 := b.isLt
  rw [e, xl_rem (by omega), xO_add, xO_self, xO_self]
theorem xl_mad (a b c : xF) : (xJ a + xJ b * xJ c) - (xJ a + xJ b * xJ c) / 32003 * 32003 = xJ (a + b * c) := by
  have e : xJ a + xJ b * xJ c = lN (a.val + b.val * c.val) := by unfold xJ; rw [lN_mul, lN_add]
  have h1 := a.isLt
  have h2 := x_val_mul_lt b c
  rw [e, xl_rem (by omega), xO_add, xO_mul, xO_self, xO_self, xO_self]
theorem xl_hor (a v b : xF) : (xJ a * xJ v + xJ b) - (xJ a * xJ v + xJ b) / 32003 * 32003 = xJ (a * v + b) := by
  have e : xJ a * xJ v + xJ b = lN (a.val * v.val + b.val) := by unfold xJ; rw [lN_mul, lN_add]
  have h1 := b.isLt
  have h2 := x_val_mul_lt a v
  rw [e, xl_rem (by omega), xO_add, xO_mul, xO_self, xO_self, xO_self]
theorem xO_neg (b : xF) : xO (32003 - b.val) = -b := by
  have h : xO (32003 - b.val) + b = 0 := by
    have h1 := b.isLt
    have h2 : xO (32003 - b.val) + xO b.val = xO (32003 - b.val + b.val) := (xO_add _ _).symm
    rw [xO_self] at h2
    rw [h2, show 32003 - b.val + b.val = 32003 by omega, xO_P]
  grind
theorem xl_sub (a b : xF) : (xJ a + 32003 - xJ b) - (xJ a + 32003 - xJ b) / 32003 * 32003 = xJ (a - b) := by
  have h1 := a.isLt
  have h2 := b.isLt
  have e : xJ a + 32003 - xJ b = lN (a.val + (32003 - b.val)) := by
    have e1 : xJ a + 32003 = lN (a.val + 32003) := lN_add a.val 32003
    rw [e1]; unfold xJ; rw [lN_sub (by omega)]; congr 1; omega
  rw [e, xl_rem (by omega), xO_add, xO_self, xO_neg]
  congr 1; grind
theorem xR_subm (a v b : xF) : xR (xJ a - xJ v * xJ b) = a - v * b := by
  have h1 := a.isLt
  have h2 := x_val_mul_lt v b
  have e : (xJ a - xJ v * xJ b).toInt = (a.val : Int) - ((v.val * b.val : Nat) : Int) := by
    rw [xJ_mul]; unfold xJ
    rw [Int64.toInt_sub, pk_lT (by omega), pk_lT (by omega)]
    exact Int.bmod_eq_of_le (by omega) (by omega)
  unfold xR
  rw [e]
  obtain ⟨n, hn⟩ : ∃ n, n = v.val * b.val := ⟨_, rfl⟩
  rw [← hn] at h2 ⊢
  have e2 : xO (((a.val : Int) - (n : Int)) % 32003).toNat + xO n = a := by
    rw [← xO_add]
    apply Fin.ext
    rw [xO_val]
    omega
  have e3 : xO n = v * b := by rw [hn, x_val_mul]
  rw [e3] at e2
  grind
/-- the reference's move -/
def xmst (f : xP) (i : Nat) : xP := fun k => if i ≤ k ∧ k < 63 then f k + f (k + 1) else f k
def xmstk (f : xP) (i j : Nat) : xP := fun k => if i ≤ k ∧ k < j then f k + f (k + 1) else f k
theorem xmstk_0 (f : xP) (i : Nat) : xmstk f i i = f := by funext k; unfold xmstk; rw [if_neg (by omega)]
theorem xmstk_s {f : xP} {i j : Nat} (h : i ≤ j) : va_up (xmstk f i j) j (xmstk f i j j + xmstk f i j (j + 1)) = xmstk f i (j + 1) := by
  funext k
  by_cases hk : k = j
  · subst hk; rw [va_up_self]; unfold xmstk
    rw [if_neg (by omega), if_neg (by omega), if_pos (by omega)]
  · rw [va_up_ne _ _ hk]; unfold xmstk
    by_cases h2 : i ≤ k ∧ k < j
    · rw [if_pos h2, if_pos (by omega)]
    · rw [if_neg h2, if_neg (by omega)]
theorem xmstk_e (f : xP) (i : Nat) : xmstk f i 63 = xmst f i := rfl
theorem xmstk_sup {f : xP} {i j : Nat} (h : xsup f 64) (hj : j ≤ 63) : xsup (xmstk f i j) 64 := fun k hk => by
  unfold xmstk; rw [if_neg (by omega)]; exact h k hk
def xmM : Nat → xP → xP
  | 0, f => f
  | j + 1, f => xmM j (xmst f j)
theorem xmM_sup {f : xP} (h : xsup f 64) (j : Nat) : xsup (xmM j f) 64 := by
  induction j generalizing f with
  | zero => exact h
  | succ j ih => exact ih (xmstk_sup (i := j) h (Nat.le_refl 63))
/-- the reference's product, row by row -/
def xma (f g : xP) : Nat → xP → xP
  | 0, X => X
  | j + 1, X => xma f g j (xgat X (f j) g j)
theorem xma_s (f g : xP) (j : Nat) (X : xP) : xma f g (j + 1) X = xma f g j (xgat X (f j) g j) := rfl
theorem xma_eq (f g : xP) : ∀ (j : Nat) (X : xP) (t : Nat), xma f g j X t = X t + xS j (fun i => if i ≤ t then f i * g (t - i) else 0) := by
  intro j
  induction j with
  | zero => intro X t; show X t = X t + 0; grind
  | succ j ih =>
    intro X t
    rw [xma_s, ih, xS_s]
    unfold xgat
    by_cases h : j ≤ t
    · rw [if_pos h, if_pos h]; grind
    · rw [if_neg h, if_neg h]; grind
theorem xma_mul {f g : xP} {a : Nat} (hf : xsup f a) : xma f g a (fun _ => 0) = xmul f g := by
  funext t
  rw [xma_eq]
  unfold xmul
  have h1 : xS a (fun i => if i ≤ t then f i * g (t - i) else 0) = xS (max a (t + 1)) (fun i => if i ≤ t then f i * g (t - i) else 0) := (xS_ext (Nat.le_max_left _ _) (fun i h1 h2 => by
    rw [hf i h1]; split <;> grind)).symm
  have h2 : xS (t + 1) (fun i => f i * g (t - i)) = xS (max a (t + 1)) (fun i => if i ≤ t then f i * g (t - i) else 0) := by
    rw [xS_ext (n := t + 1) (m := max a (t + 1)) (Nat.le_max_right _ _) (fun i h1 h2 => by rw [if_neg (by omega)])]
    exact xS_congr (fun i hi => by rw [if_pos (by omega)])
  rw [h1, h2]; grind
theorem xgatm (f g : xP) (v : xF) (pw : Nat) : xgat f (xO (32003 - v.val)) g pw = fun i => if pw ≤ i then f i - v * g (i - pw) else f i := by
  funext i; unfold xgat; rw [xO_neg]; split <;> grind
theorem xgatm0 (f g : xP) (pw : Nat) : xgat f (xO (32003 - (0 : xF).val)) g pw = f := by
  rw [xgatm]; funext i; split <;> grind
