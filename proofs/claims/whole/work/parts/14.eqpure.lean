/-! ===== pure rows for the Equations' loops ===== -/
def xsolk (ps : Nat → xP) (k e o : Nat) : Nat → xP := fun i => if 7 + k < i ∧ i < 7 + o then xpi (ps i) (ps (7 + k)) e (xinv (ps (7 + k) e)) else ps i
theorem xsolk_0 (ps : Nat → xP) (k e : Nat) : xsolk ps k e (k + 1) = ps := by
  funext i; unfold xsolk; rw [if_neg (by omega)]
theorem xsolk_s {ps : Nat → xP} {k e o : Nat} (h : k < o) : va_up (xsolk ps k e o) (7 + o) (xpi (ps (7 + o)) (ps (7 + k)) e (xinv (ps (7 + k) e))) = xsolk ps k e (o + 1) := by
  funext i
  by_cases hi : i = 7 + o
  · subst hi; rw [va_up_self]; unfold xsolk; rw [if_pos (by omega)]
  · rw [va_up_ne _ _ hi]; unfold xsolk
    by_cases h2 : 7 + k < i ∧ i < 7 + o
    · rw [if_pos h2, if_pos (by omega)]
    · rw [if_neg h2, if_neg (by omega)]
theorem xsolk_o {ps : Nat → xP} {k e o i : Nat} (h : i ≤ 7 + k ∨ 7 + o ≤ i) : xsolk ps k e o i = ps i := by unfold xsolk; rw [if_neg (by omega)]
theorem xsolk_end (ps : Nat → xP) {k e : Nat} (hk : k < 9) : va_up (xsolk ps k e 9) 16 (xpi (ps 16) (ps (7 + k)) e (xinv (ps (7 + k) e))) = xsol ps k e := by
  rw [show (16 : Nat) = 7 + 9 by rfl, xsolk_s hk]
  funext i; unfold xsolk xsol
  by_cases h2 : 7 + k < i ∧ i ≤ 16
  · rw [if_pos (by omega), if_pos h2]
  · rw [if_neg (by omega), if_neg h2]
def xtbi (tb : Nat → Bool) (i : Nat) : Nat → Bool := fun t => if t < i then false else tb t
theorem xtbi_0 (tb : Nat → Bool) : xtbi tb 0 = tb := by funext t; simp [xtbi]
theorem xtbi_e {tb : Nat → Bool} {i t : Nat} (h : t ≠ i) : xtbi tb (i + 1) t = xtbi tb i t := by
  unfold xtbi
  by_cases h2 : t < i
  · rw [if_pos h2, if_pos (show t < i + 1 by omega)]
  · rw [if_neg h2, if_neg (show ¬ t < i + 1 by omega)]
theorem xtbi_s (tb : Nat → Bool) (i : Nat) : upd (xtk (xtbi tb i)) i 0 = xtk (xtbi tb (i + 1)) := by
  funext t
  by_cases h : t = i
  · subst h
    have e : xtbi tb (t + 1) t = false := by unfold xtbi; rw [if_pos (by omega)]
    simp [upd, xtk, e]
  · simp [upd, xtk, xtbi_e h, h]
theorem xtk_z {tb : Nat → Bool} {t : Nat} : xtk tb t = 0 ↔ tb t = false := by
  unfold xtk; cases tb t <;> simp
theorem xelS_none {k : Nat} {z : xES} (h : xfu z.2.2 (z.1 (7 + k)) = none) : xelS k z = (z.1, va_up z.2.1 k none, z.2.2) := by unfold xelS; rw [h]
theorem xelS_some {k e : Nat} {z : xES} (h : xfu z.2.2 (z.1 (7 + k)) = some e) : xelS k z = (xsol z.1 k e, va_up z.2.1 k (some e), va_up z.2.2 e true) := by unfold xelS; rw [h]
/-- what writeSolution writes -/
def xom (f : xP) (o : Option Nat) : xF := match o with
  | some e => f e
  | none => 0
def xwsk (f : xP) (eo : Nat → Option Nat) (j : Nat) : xP := fun k => if k < j then xom f (eo k) else 0
theorem xwsk_0 (f : xP) (eo : Nat → Option Nat) : xwsk f eo 0 = fun _ => 0 := by funext k; simp [xwsk]
theorem xwsk_s (f : xP) (eo : Nat → Option Nat) (j : Nat) : va_up (xwsk f eo j) j (xom f (eo j)) = xwsk f eo (j + 1) := by
  funext k
  by_cases h : k = j
  · subst h; rw [va_up_self]; unfold xwsk; rw [if_pos (by omega)]
  · rw [va_up_ne _ _ h]; unfold xwsk
    by_cases h2 : k < j
    · rw [if_pos h2, if_pos (by omega)]
    · rw [if_neg h2, if_neg (by omega)]
theorem xwsk_sup (f : xP) (eo : Nat → Option Nat) {j n : Nat} (h : j ≤ n) : xsup (xwsk f eo j) n := fun k hk => by unfold xwsk; rw [if_neg (by omega)]
theorem xcf_eo (f : xP) (o : Option Nat) (h : ∀ e, o = some e → e < 2 ^ 31) : xcf f (xeo1 o) = xom f o := by
  cases o with
  | none => exact xcf_m1 f
  | some e => exact xcf_n f (h e rfl)
/-- how many of the first n are none -/
def xnn (eo : Nat → Option Nat) : Nat → Nat
  | 0 => 0
  | n + 1 => xnn eo n + (if eo n = none then 1 else 0)
theorem xnn_s (eo : Nat → Option Nat) (n : Nat) : xnn eo (n + 1) = xnn eo n + (if eo n = none then 1 else 0) := rfl
theorem xnn_no {eo : Nat → Option Nat} {n : Nat} (h : eo n ≠ none) : xnn eo (n + 1) = xnn eo n := by rw [xnn_s, if_neg h]; rfl
theorem xnn_yes {eo : Nat → Option Nat} {n : Nat} (h : eo n = none) : xnn eo (n + 1) = xnn eo n + 1 := by rw [xnn_s, if_pos h]
theorem xnn_le (eo : Nat → Option Nat) (n : Nat) : xnn eo n ≤ n := by
  induction n with
  | zero => exact Nat.le_refl _
  | succ n ih => unfold xnn; split <;> omega
theorem xeo1_ge {o : Option Nat} (h : ∀ e, o = some e → e < 2 ^ 31) : 0 ≤ xeo1 o ↔ o ≠ none := by
  cases o with
  | none => exact ⟨fun q => absurd q (by decide), fun q => absurd rfl q⟩
  | some e => exact ⟨fun _ => by simp, fun _ => nI_pos' (h e rfl)⟩
theorem xtgt_sup {rt B Q : xP} (h1 : xsup rt 21) (h2 : xsup B 4) (h3 : xsup Q 21) : xsup (xtgt rt B Q) 64 := xmul_sup (xmul_sup (xmul_sup h1 h2) h3) (xmv_sup (xsup_mono h3 (by decide)) h3)
theorem xgr0_sup {rb A Q : xP} (h1 : xsup rb 21) (h2 : xsup A 4) (h3 : xsup Q 21) : xsup (xgr0 rb A Q) 44 := xmul_sup (xmul_sup h1 h2) h3
theorem xcol_sup {rb A B Q : xP} {k : Nat} (h1 : xsup rb 21) (h2 : xsup A 4) (h2b : xsup B 4) (h3 : xsup Q 21) : xsup (xcol rb A B Q k) (44 + k) :=
  xgat_sup (xlit_sup (xgr0_sup h1 h2 h3) k) (xlit_sup (xgr0_sup h1 h2b (xmv_sup (xsup_mono h3 (by decide)) h3)) k) (Nat.le_refl _)
