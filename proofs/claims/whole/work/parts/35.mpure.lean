/-! ===== the reference's state: what its methods leave behind ===== -/
/-- its cells, with that code; its functions and its ratio as they were -/
def xMK (G : xG) (mo : Nat) (la ia : Nat → Nat) (rq : Nat) (co : Int32) (mn : Nat) (im : Nat → xP) (wr u : xM) : Prop := ∃ (lr : Nat → xP) (ro : Nat → Option Nat) (me : Int32), xML G u mo la ia rq co mn im lr ro me wr
/-- a function's row within the rows of all -/
def xpt (f : xP) (k : Nat) (a : xP) (j : Nat) : xP := fun i => if 21 * k ≤ i ∧ i < 21 * k + j then a (i - 21 * k) else f i
theorem xpt_0 (f : xP) (k : Nat) (a : xP) : xpt f k a 0 = f := by funext i; unfold xpt; rw [if_neg (by omega)]
theorem xpt_s (f : xP) (k : Nat) (a : xP) (j : Nat) : va_up (xpt f k a j) (21 * k + j) (a j) = xpt f k a (j + 1) := by
  funext i
  by_cases h : i = 21 * k + j
  · subst h; rw [va_up_self]; unfold xpt; rw [if_pos (by omega), show 21 * k + j - 21 * k = j by omega]
  · rw [va_up_ne _ _ h]; unfold xpt
    by_cases h2 : 21 * k ≤ i ∧ i < 21 * k + j
    · rw [if_pos h2, if_pos (by omega)]
    · rw [if_neg h2, if_neg (by omega)]
theorem xpt_sup {f : xP} {k : Nat} {a : xP} {j : Nat} (h : xsup f 1050) (hk : 21 * k + j ≤ 1050) : xsup (xpt f k a j) 1050 := fun i hi => by
  unfold xpt; rw [if_neg (by omega)]; exact h i hi
/-- function k's parts, as the reference holds them -/
abbrev xTm (im : Nat → xP) (k : Nat) : xP := xld (im 0) (21 * k) 21
abbrev xBm (im : Nat → xP) (k : Nat) : xP := xld (im 1) (21 * k) 21
theorem xld_pt {f a : xP} {k j : Nat} (hjk : j < k) : xld (xpt f k a 21) (21 * j) 21 = xld f (21 * j) 21 := by
  funext i; unfold xld xpt
  by_cases h : i < 21
  · rw [if_pos h, if_pos h, if_neg (by omega)]
  · rw [if_neg h, if_neg h]
theorem xld_ptk {f a : xP} {k : Nat} (ha : xsup a 21) : xld (xpt f k a 21) (21 * k) 21 = a := by
  funext i; unfold xld xpt
  by_cases h : i < 21
  · rw [if_pos h, if_pos (by omega), show 21 * k + i - 21 * k = i by omega]
  · rw [if_neg h, ha i (by omega)]
theorem xld_id {f : xP} {n : Nat} (h : xsup f n) : xld f 0 n = f := by
  funext i; unfold xld
  by_cases hi : i < n
  · rw [if_pos hi, Nat.zero_add]
  · rw [if_neg hi, h i (by omega)]
/-- a through b becomes a function, or is refused: answer, world -/
def xKe (G : xG) (mo : Nat) (la ia : Nat → Nat) (rq : Nat) (mn : Nat) (im : Nat → xP) (wr : xM) (a b : xP) (bad : Int32) (r : Int32) (u : xM) : Prop :=
  (r = 0 ∧ (¬ mn < 50 ∨ 21 < xlen a 64 ∨ 21 < xlen b 64) ∧ xMK G mo la ia rq bad mn im wr u) ∨
  (r = nI mn ∧ mn < 50 ∧ xlen a 64 ≤ 21 ∧ xlen b 64 ≤ 21 ∧ ∃ i2 : Nat → xP, i2 0 = xpt (im 0) mn a 21 ∧ i2 1 = xpt (im 1) mn b 21 ∧ i2 2 = im 2 ∧ i2 3 = im 3 ∧ xMK G mo la ia rq 0 (mn + 1) i2 wr u)
theorem xmM_sup2 {f : xP} {n : Nat} (h : xsup f n) (j : Nat) : xsup (xmM j f) n := by
  induction j generalizing f with
  | zero => exact h
  | succ j ih =>
    refine ih (fun k hk => ?_)
    unfold xmst
    rw [h k hk, h (k + 1) (by omega)]; split <;> grind
theorem xmM_len {f : xP} (h : xsup f 64) (j : Nat) : xlen (xmM j f) 64 = xlen f 64 := by
  induction j generalizing f with
  | zero => rfl
  | succ j ih =>
    have e : xlen (xmst f j) 64 = xlen f 64 := by
      refine xlen_eq (xlen_le _ _) (fun k h1 h2 => ?_) ?_
      · unfold xmst
        rw [xlen_above h1 h2]
        split
        · rw [xlen_above (f := f) (n := 64) (k := k + 1) (by omega) (by omega)]; grind
        · rfl
      · cases hh : xlen f 64 with
        | zero => exact Or.inl rfl
        | succ i =>
          refine Or.inr ⟨i, rfl, ?_⟩
          have ht := xlen_top hh
          unfold xmst
          split
          · rw [xlen_above (f := f) (n := 64) (k := i + 1) (by omega) (by omega)]; grind
          · exact ht
    show xlen (xmM j (xmst f j)) 64 = _
    exact (ih (f := xmst f j) (xmstk_sup (i := j) h (Nat.le_refl 63))).trans e
/-- the reference's step: top and bottom before lowest terms -/
def xstN (t b A Bq : xP) : xP := xsb (xmul (xmul (xmM 63 t) A) b) (xmul t (xmul (xmM 63 b) Bq))
def xstD (b Bq : xP) : xP := xmul (xmul (xmM 63 b) Bq) b
theorem xmix_at1 (f g : xP) (j : Nat) : xmix f g j j = g j := by unfold xmix; rw [if_neg (by omega)]
/-- two rows are exchanged as far as j -/
theorem xscl_s (f : xP) (c : xF) (j : Nat) : va_up (xmix (fun i => f i * c) f j) j (f j * c) = xmix (fun i => f i * c) f (j + 1) := xmix_s (fun i => f i * c) f j
theorem x_four {f : xP} (h : xsup f 4) (h0 : f 0 = 0) (h1 : f 1 = 0) (h2 : f 2 = 0) (h3 : f 3 = 0) : ∀ k, f k = 0 := fun k => by
  rcases (show k = 0 ∨ k = 1 ∨ k = 2 ∨ k = 3 ∨ 4 ≤ k by omega) with rfl | rfl | rfl | rfl | hk
  · exact h0
  · exact h1
  · exact h2
  · exact h3
  · exact h k hk
