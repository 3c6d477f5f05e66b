/-! ===== pure rows for the public methods ===== -/
def xz : xP := fun _ => 0
def x1 : xP := va_up (fun _ => 0) 0 1
theorem xc_sup {k n : Nat} {v : xF} (h : k < n) : xsup (va_up (fun _ => 0) k v) n := xsup_up (xsup_z n) h
theorem x1_ne : xlen x1 64 ≠ 0 := by
  intro h
  have := (xlen_0 (f := x1) (xc_sup (by decide))).mp h 0
  rw [x1, va_up_self] at this
  exact absurd this (by decide)
theorem xmv_len {f : xP} (h : xsup f 64) : xlen (xmv 64 f) 64 = xlen f 64 := xpas_len h _ (Nat.le_refl _)
/-- the plain certificate with 8, as the class finds it -/
def xFP (rt rb A Bq Q : xP) (o : Option xP) : Prop := ∃ (q : Nat → xP) (eo : Nat → Option Nat) (tb : Nat → Bool), (∀ i, i < 9 → q (7 + i) = xcol rb A Bq Q i) ∧ q 16 = xtgt rt Bq Q ∧ (∀ i, i < 64 → tb i = false) ∧
  ((o = none ∧ xfu (xel 9 (q, eo, tb)).2.2 ((xel 9 (q, eo, tb)).1 16) ≠ none) ∨ (o = some (xwsk ((xel 9 (q, eo, tb)).1 16) (xel 9 (q, eo, tb)).2.1 9) ∧ xfu (xel 9 (q, eo, tb)).2.2 ((xel 9 (q, eo, tb)).1 16) = none))
/-- which powers are free, as the class finds it -/
def xFr (rb A Bq Q : xP) (e : Nat → Option Nat) : Prop := ∃ (q : Nat → xP) (eo : Nat → Option Nat) (tb : Nat → Bool), (∀ i, i < 9 → q (7 + i) = xcol rb A Bq Q i) ∧ (∀ i, i < 64 → tb i = false) ∧ e = (xel 9 (q, eo, tb)).2.1
theorem xtbi_64 (tb : Nat → Bool) : ∀ i, i < 64 → xtbi tb 64 i = false := fun i hi => by unfold xtbi; rw [if_pos hi]
theorem x_max0 {L : Nat} (h : L < 2 ^ 30) : (if nI L - 1 < 0 then 0 else nI L - 1) = nI (L - 1) := by
  cases L with
  | zero => rw [if_pos x_neg]; decide
  | succ i => rw [x_m1, if_neg (nI_pos (by omega))]; rfl
theorem xhi_64 {f : xP} {n : Nat} (h : xsup f n) (hn : n ≤ 64) : xhi f n = xhi f 64 := by unfold xhi; rw [xlen_n h hn]
