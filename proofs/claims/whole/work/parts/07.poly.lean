/-! ===== polynomials in rows: what a Polynomial's cells hold ===== -/
def xrow (f : xP) : Nat → Int32 := fun k => xI (f k)
/-- one more than the highest place below n that isn't 0; 0 if there is none -/
def xlen (f : xP) : Nat → Nat
  | 0 => 0
  | n + 1 => if f n = 0 then xlen f n else n + 1
def xhi (f : xP) (n : Nat) : Int32 := nI (xlen f n) - 1
def xsup (f : xP) (n : Nat) : Prop := ∀ k, n ≤ k → f k = 0
theorem xlen_le (f : xP) (n : Nat) : xlen f n ≤ n := by
  induction n with
  | zero => exact Nat.le_refl _
  | succ n ih => unfold xlen; split <;> omega
theorem xlen_above {f : xP} {n k : Nat} (h : xlen f n ≤ k) (hk : k < n) : f k = 0 := by
  induction n with
  | zero => omega
  | succ n ih =>
    unfold xlen at h
    split at h
    · rename_i h0
      by_cases hh : k = n
      · subst hh; exact h0
      · exact ih h (by omega)
    · omega
theorem xlen_top {f : xP} {n j : Nat} (h : xlen f n = j + 1) : f j ≠ 0 := by
  induction n with
  | zero => simp [xlen] at h
  | succ n ih =>
    unfold xlen at h
    split at h
    · exact ih h
    · have : n = j := by omega
      subst this; assumption
theorem xlen_eq {f : xP} {n j : Nat} (hj : j ≤ n) (h : ∀ k, j ≤ k → k < n → f k = 0) (ht : j = 0 ∨ ∃ i, j = i + 1 ∧ f i ≠ 0) : xlen f n = j := by
  rcases Nat.lt_trichotomy (xlen f n) j with q | q | q
  · rcases ht with rfl | ⟨i, rfl, hi⟩
    · omega
    · exact absurd (xlen_above (f := f) (n := n) (k := i) (by omega) (by omega)) hi
  · exact q
  · obtain ⟨i, hi⟩ : ∃ i, xlen f n = i + 1 := ⟨xlen f n - 1, by omega⟩
    have := xlen_le f n
    exact absurd (h i (by omega) (by omega)) (xlen_top hi)
theorem xlen_n {f : xP} {n m : Nat} (h : xsup f n) (hnm : n ≤ m) : xlen f m = xlen f n := by
  refine xlen_eq (Nat.le_trans (xlen_le f n) hnm) (fun k h1 h2 => ?_) ?_
  · by_cases hk : k < n
    · exact xlen_above h1 hk
    · exact h k (by omega)
  · cases hh : xlen f n with
    | zero => exact Or.inl rfl
    | succ i => exact Or.inr ⟨i, rfl, xlen_top hh⟩
theorem xlen_sup {f : xP} {n : Nat} (h : xsup f n) : xsup f (xlen f n) := fun k hk => by
  by_cases hh : k < n
  · exact xlen_above hk hh
  · exact h k (by omega)
theorem xlen_0 {f : xP} {n : Nat} (h : xsup f n) : xlen f n = 0 ↔ ∀ k, f k = 0 := by
  constructor
  · intro q k; exact xlen_sup h k (by omega)
  · intro q
    cases hh : xlen f n with
    | zero => rfl
    | succ i => exact absurd (q i) (xlen_top hh)
theorem xlen_congr {f g : xP} {n : Nat} (h : ∀ k, k < n → f k = g k) : xlen f n = xlen g n := by
  induction n with
  | zero => rfl
  | succ n ih => unfold xlen; rw [h n (by omega), ih (fun k hk => h k (by omega))]
theorem xsup_mono {f : xP} {n m : Nat} (h : xsup f n) (hnm : n ≤ m) : xsup f m := fun k hk => h k (by omega)
theorem xsup_up {f : xP} {n k : Nat} {v : xF} (h : xsup f n) (hk : k < n) : xsup (va_up f k v) n := fun j hj => by
  rw [va_up_ne _ _ (by omega)]; exact h j hj
theorem xrow_up (f : xP) (k : Nat) (v : xF) : upd (xrow f) k (xI v) = xrow (va_up f k v) := by
  funext j
  by_cases h : j = k
  · subst h; simp [upd, xrow, va_up]
  · simp [upd, xrow, va_up, h]
/-- a Polynomial: the object h, its row r of n places, which hold f; n is small -/
def xPoly (G : xG) (w : xM) (h r n : Nat) (f : xP) : Prop := w h = some (.inr (2, [.ref r, .int (xhi f n)])) ∧ w r = some (.inl (G.2 0, n, .inl (xrow f))) ∧ xsup f n ∧ n ≤ 64
def xset (G : xG) (w : xM) (h r n : Nat) (f : xP) : xM := xu (xu w r (.inl (G.2 0, n, .inl (xrow f)))) h (.inr (2, [.ref r, .int (xhi f n)]))
theorem x_eo {a : ClassId × vp_A} {b : Nat × List Value} : (Sum.inl a : va_E) ≠ Sum.inr b := fun h => by cases h
theorem xPoly.ne {G : xG} {w : xM} {h r n : Nat} {f : xP} (q : xPoly G w h r n f) : r ≠ h := x_ne q.2.1 q.1 x_eo
/-- an object and a row are never the same cell -/
theorem xPoly.ne2 {G : xG} {w : xM} {h r n h' r' n' : Nat} {f f' : xP} (q : xPoly G w h r n f) (q' : xPoly G w h' r' n' f') : r ≠ h' ∧ r' ≠ h := ⟨x_ne q.2.1 q'.1 x_eo, x_ne q'.2.1 q.1 x_eo⟩
theorem xset_s {G : xG} {w : xM} {h r n : Nat} {f : xP} (hne : r ≠ h) (hs : xsup f n) (hn : n ≤ 64) : xPoly G (xset G w h r n f) h r n f :=
  ⟨xu_s _ _ _, by unfold xset; rw [xu_n _ _ hne, xu_s], hs, hn⟩
theorem xset_n {G : xG} {w : xM} {h r n h' r' n' : Nat} {f f' : xP} (q : xPoly G w h' r' n' f') (h1 : h' ≠ h) (h2 : r' ≠ r) (h3 : h' ≠ r) (h4 : r' ≠ h) : xPoly G (xset G w h r n f) h' r' n' f' :=
  ⟨by unfold xset; rw [xu_n _ _ h1, xu_n _ _ h3]; exact q.1, by unfold xset; rw [xu_n _ _ h4, xu_n _ _ h2]; exact q.2.1, q.2.2⟩
theorem xset_u {G : xG} {w : xM} {h r n : Nat} {f g : xP} (hne : r ≠ h) : xset G (xset G w h r n f) h r n g = xset G w h r n g := by
  unfold xset
  rw [xu_c _ _ _ (Ne.symm hne), xu_u, xu_u]
theorem xset_id {G : xG} {w : xM} {h r n : Nat} {f : xP} (q : xPoly G w h r n f) : xset G w h r n f = w := by
  unfold xset
  rw [xu_id w q.2.1, xu_id w q.1]
theorem xset_c {G : xG} {w : xM} {h r n h' r' n' : Nat} {f f' : xP} (h1 : h' ≠ h) (h2 : r' ≠ r) (h3 : h' ≠ r) (h4 : r' ≠ h) : xset G (xset G w h r n f) h' r' n' f' = xset G (xset G w h' r' n' f') h r n f := by
  unfold xset
  rw [xu_c _ _ _ (Ne.symm h4), xu_c _ _ _ (Ne.symm h2), xu_c (xu (xu w r' _) r _) _ _ (Ne.symm h1), xu_c _ _ _ (Ne.symm h3)]
/-- any other cell -/
theorem xset_o {G : xG} {w : xM} {h r n a : Nat} {f : xP} (h1 : a ≠ h) (h2 : a ≠ r) : xset G w h r n f a = w a := by
  unfold xset; rw [xu_n _ _ h1, xu_n _ _ h2]
/-- the int that 'highest' is -/
theorem x_m1 (j : Nat) : nI (j + 1) - 1 = nI j := nI_pred j
theorem x_neg : nI 0 - 1 < 0 := by decide
theorem x_hi_lt {j : Nat} (h : j < 2 ^ 31) : (nI j - 1 < 0) ↔ j = 0 := by
  cases j with
  | zero => exact ⟨fun _ => rfl, fun _ => x_neg⟩
  | succ i => rw [x_m1]; exact ⟨fun q => absurd q (nI_pos (by omega)), fun q => by omega⟩
/-- k < highest, as Java asks it -/
theorem x_lt_hi {k j : Nat} (hk : k < 2 ^ 30) (hj : j < 2 ^ 30) : nI k < nI j - 1 ↔ k + 1 < j := by
  cases j with
  | zero =>
    constructor
    · intro q
      have h1 := Int32.lt_iff_toInt_lt.mp q
      rw [nI_toInt (by omega), show (nI 0 - 1).toInt = -1 by decide] at h1
      omega
    · intro q; omega
  | succ i => rw [x_m1, nI_ltI (by omega) (by omega)]; omega
/-- what 'coefficient' answers -/
def xcf (f : xP) (x : Int32) : xF := if x < 0 then 0 else f x.toNatClampNeg
theorem xcf_n (f : xP) {k : Nat} (h : k < 2 ^ 31) : xcf f (nI k) = f k := by
  unfold xcf; rw [if_neg (nI_pos h), nI_clamp h]
theorem xcf_m1 (f : xP) : xcf f (-1) = 0 := by unfold xcf; rw [if_pos (by decide)]
/-- 'put' at a place at or above the highest -/
theorem xlen_put {f : xP} {n k : Nat} {v : xF} (hk : k < n) (h : xlen f n ≤ k + 1) : ∀ i, k + 1 ≤ i → i < n → va_up f k v i = 0 := fun i h1 h2 => by
  rw [va_up_ne _ _ (by omega)]; exact xlen_above (by omega) h2
/-- 'put' below the highest -/
theorem xhi_put {f : xP} {n k : Nat} {v : xF} (h : k + 1 < xlen f n) : xhi (va_up f k v) n = xhi f n := by
  unfold xhi
  obtain ⟨i, hi⟩ : ∃ i, xlen f n = i + 1 := ⟨xlen f n - 1, by omega⟩
  rw [hi, xlen_eq (j := i + 1)]
  · have := xlen_le f n; omega
  · intro j h1 h2
    rw [va_up_ne _ _ (by omega)]; exact xlen_above (by omega) h2
  · exact Or.inr ⟨i, rfl, by rw [va_up_ne _ _ (by omega)]; exact xlen_top hi⟩
