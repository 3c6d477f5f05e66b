/-! ===== the class's cells =====
polynomials by numbers: 0 ratioTop, 1 ratioBottom, 2 top, 3 bottom, 4 left, 5 right, 6 quotient, 7 .. 15 columns, 16 target, 17 growing, 18 staying, 19 movedBase, 20 work, 21 + 2 k and 22 + 2 k function k's top and bottom;
other cells: ad 0 the object, 1 its functions, 2 the Equations, 3 their columns, 4 equationOf, 5 taken; fr k: function k's Fraction; wr: what else the world holds -/
abbrev xq (f : Nat → Option Nat) : (Nat → Int32) ⊕ (Nat → Int64) ⊕ (Nat → UInt32) ⊕ (Nat → UInt64) ⊕ (Nat → Option Nat) := .inr (.inr (.inr (.inr f)))
def xtk (tb : Nat → Bool) : Nat → Int32 := fun t => if tb t = true then 1 else 0
def xeo1 (o : Option Nat) : Int32 := match o with
  | some e => nI e
  | none => -1
def xeo (eo : Nat → Option Nat) : Nat → Int32 := fun k => xeo1 (eo k)
/-- the polynomials and their addresses -/
def xSt (G : xG) (w : xM) (pa ra cp : Nat → Nat) (N : Nat) (ps : Nat → xP) : Prop :=
  (∀ i, i < N → xPoly G w (pa i) (ra i) (cp i) (ps i)) ∧ (∀ i j, i < N → j < N → pa i = pa j → i = j) ∧ ∀ i j, i < N → j < N → ra i = ra j → i = j
/-- the other cells -/
def xAd (G : xG) (w : xM) (pa fr ad : Nat → Nat) (md : Nat) (eo : Nat → Option Nat) (tb : Nat → Bool) : Prop :=
  w (ad 0) = some (.inr (3, [.ref (pa 0), .ref (pa 1), .ref (ad 1), .int (nI md), .ref (pa 2), .ref (pa 3), .ref (pa 4), .ref (pa 5), .ref (pa 6), .ref (ad 2)])) ∧
  (∃ ff : Nat → Option Nat, w (ad 1) = some (.inl (G.2 4, 50, xq ff)) ∧ (∀ k, k < md → ff k = some (fr k)) ∧ ∀ k, md ≤ k → k < 50 → ff k = none) ∧
  (∀ k, k < md → w (fr k) = some (.inr (1, [.ref (pa (21 + 2 * k)), .ref (pa (22 + 2 * k))]))) ∧
  w (ad 2) = some (.inr (0, [.ref (ad 3), .ref (pa 16), .ref (pa 17), .ref (pa 18), .ref (pa 19), .ref (pa 20), .ref (ad 4), .ref (ad 5)])) ∧
  (∃ cf : Nat → Option Nat, w (ad 3) = some (.inl (G.2 3, 9, xq cf)) ∧ ∀ k, k < 9 → cf k = some (pa (7 + k))) ∧
  w (ad 4) = some (.inl (G.2 0, 9, .inl (xeo eo))) ∧ w (ad 5) = some (.inl (G.2 2, 64, .inl (xtk tb)))
/-- what lies beside -/
def xRs (w : xM) (pa ra ad : Nat → Nat) (N : Nat) (wr : xM) : Prop :=
  (∀ i, i < N → ra i ≠ ad 4 ∧ ra i ≠ ad 5) ∧ ad 4 ≠ ad 5 ∧ ∀ (a : Nat) (e : va_E), wr a = some e → w a = some e ∧ a ≠ ad 0 ∧ a ≠ ad 1 ∧ a ≠ ad 4 ∧ a ≠ ad 5 ∧ ∀ i, i < N → a ≠ pa i ∧ a ≠ ra i
def xCL (G : xG) (w : xM) (pa ra cp fr ad : Nat → Nat) (md : Nat) (ps : Nat → xP) (eo : Nat → Option Nat) (tb : Nat → Bool) (wr : xM) : Prop :=
  xSt G w pa ra cp (21 + 2 * md) ps ∧ xAd G w pa fr ad md eo tb ∧ xRs w pa ra ad (21 + 2 * md) wr ∧ (cp 0 = 4 ∧ cp 1 = 4 ∧ ∀ i, 2 ≤ i → i < 21 → cp i = 64) ∧ md ≤ 50
section XCL
variable {G : xG} {w : xM} {pa ra cp fr ad : Nat → Nat} {md : Nat} {ps : Nat → xP} {eo : Nat → Option Nat} {tb : Nat → Bool} {wr : xM}
theorem xCL.p (h : xCL G w pa ra cp fr ad md ps eo tb wr) (i : Nat) (hi : i < 21 + 2 * md) : xPoly G w (pa i) (ra i) (cp i) (ps i) := h.1.1 i hi
theorem xCL.pe (h : xCL G w pa ra cp fr ad md ps eo tb wr) (i : Nat) (hi : i < 21 + 2 * md) {f : xP} (e : ps i = f) : xPoly G w (pa i) (ra i) (cp i) f := e ▸ h.1.1 i hi
/-- a work row, with its 64 places -/
theorem xCL.pw (h : xCL G w pa ra cp fr ad md ps eo tb wr) (i : Nat) (h2 : 2 ≤ i) (hi : i < 21) {f : xP} (e : ps i = f) : xPoly G w (pa i) (ra i) 64 f := by
  have := h.pe i (by omega) e
  rw [h.2.2.2.1.2.2 i h2 hi] at this
  exact this
theorem xCL.pn (h : xCL G w pa ra cp fr ad md ps eo tb wr) {i j : Nat} (hi : i < 21 + 2 * md) (hj : j < 21 + 2 * md) (hne : i ≠ j) : pa i ≠ pa j := fun q => hne (h.1.2.1 i j hi hj q)
theorem xCL.rn (h : xCL G w pa ra cp fr ad md ps eo tb wr) {i j : Nat} (hi : i < 21 + 2 * md) (hj : j < 21 + 2 * md) (hne : i ≠ j) : ra i ≠ ra j := fun q => hne (h.1.2.2 i j hi hj q)
theorem xCL.cap (h : xCL G w pa ra cp fr ad md ps eo tb wr) {i : Nat} (h2 : 2 ≤ i) (hi : i < 21) : cp i = 64 := h.2.2.2.1.2.2 i h2 hi
theorem xCL.m50 (h : xCL G w pa ra cp fr ad md ps eo tb wr) : md ≤ 50 := h.2.2.2.2
theorem xCL.x (h : xCL G w pa ra cp fr ad md ps eo tb wr) : w (ad 0) = some (.inr (3, [.ref (pa 0), .ref (pa 1), .ref (ad 1), .int (nI md), .ref (pa 2), .ref (pa 3), .ref (pa 4), .ref (pa 5), .ref (pa 6), .ref (ad 2)])) := h.2.1.1
theorem xCL.ff (h : xCL G w pa ra cp fr ad md ps eo tb wr) : ∃ ff : Nat → Option Nat, w (ad 1) = some (.inl (G.2 4, 50, xq ff)) ∧ (∀ k, k < md → ff k = some (fr k)) ∧ ∀ k, md ≤ k → k < 50 → ff k = none := h.2.1.2.1
theorem xCL.fo (h : xCL G w pa ra cp fr ad md ps eo tb wr) (k : Nat) (hk : k < md) : w (fr k) = some (.inr (1, [.ref (pa (21 + 2 * k)), .ref (pa (22 + 2 * k))])) := h.2.1.2.2.1 k hk
theorem xCL.q (h : xCL G w pa ra cp fr ad md ps eo tb wr) : w (ad 2) = some (.inr (0, [.ref (ad 3), .ref (pa 16), .ref (pa 17), .ref (pa 18), .ref (pa 19), .ref (pa 20), .ref (ad 4), .ref (ad 5)])) := h.2.1.2.2.2.1
theorem xCL.cf (h : xCL G w pa ra cp fr ad md ps eo tb wr) : ∃ cf : Nat → Option Nat, w (ad 3) = some (.inl (G.2 3, 9, xq cf)) ∧ ∀ k, k < 9 → cf k = some (pa (7 + k)) := h.2.1.2.2.2.2.1
theorem xCL.qo (h : xCL G w pa ra cp fr ad md ps eo tb wr) : w (ad 4) = some (.inl (G.2 0, 9, .inl (xeo eo))) := h.2.1.2.2.2.2.2.1
theorem xCL.tk (h : xCL G w pa ra cp fr ad md ps eo tb wr) : w (ad 5) = some (.inl (G.2 2, 64, .inl (xtk tb))) := h.2.1.2.2.2.2.2.2
/-- a polynomial is set: nothing else changes -/
theorem xCL.set (h : xCL G w pa ra cp fr ad md ps eo tb wr) {i n : Nat} (hi : i < 21 + 2 * md) (hn : cp i = n) {f : xP} (hf : xsup f n) : xCL G (xset G w (pa i) (ra i) n f) pa ra cp fr ad md (va_up ps i f) eo tb wr := by
  subst hn
  have hp := h.p i hi
  obtain ⟨ff, f1, f2, f3⟩ := h.ff
  obtain ⟨cf, c1, c2⟩ := h.cf
  have o : ∀ a e, w a = some e → (∀ q, e ≠ .inr (2, q)) → (∀ q, e ≠ .inl (G.2 0, cp i, .inl q)) → xset G w (pa i) (ra i) (cp i) f a = some e := fun a e he h1 h2 => by
    rw [xset_o (x_ne he hp.1 (h1 _)) (x_ne he hp.2.1 (h2 _))]; exact he
  refine ⟨⟨fun j hj => ?_, h.1.2.1, h.1.2.2⟩, ⟨o _ _ h.x (fun q z => by simp at z) (fun q z => by simp at z), ⟨ff, o _ _ f1 (fun q z => by simp at z) (fun q z => by simp at z), f2, f3⟩, fun k hk => o _ _ (h.fo k hk) (fun q z => by simp at z) (fun q z => by simp at z), o _ _ h.q (fun q z => by simp at z) (fun q z => by simp at z), ⟨cf, o _ _ c1 (fun q z => by simp at z) (fun q z => by simp at z), c2⟩, ?_, ?_⟩, ⟨h.2.2.1.1, h.2.2.1.2.1, fun a e he => ?_⟩, h.2.2.2⟩
  · by_cases hij : j = i
    · subst hij; rw [va_up_self]; exact xset_s hp.ne hf hp.2.2.2
    · rw [va_up_ne _ _ hij]
      have hq := h.p j hj
      exact xset_n hq (h.pn hj hi hij) (h.rn hj hi hij) (Ne.symm (hp.ne2 hq).1) (hp.ne2 hq).2
  · rw [xset_o (x_ne h.qo hp.1 (fun z => by simp at z)) (Ne.symm (h.2.2.1.1 i hi).1)]; exact h.qo
  · rw [xset_o (x_ne h.tk hp.1 (fun z => by simp at z)) (Ne.symm (h.2.2.1.1 i hi).2)]; exact h.tk
  · obtain ⟨g1, g2, g3, g4, g5, g6⟩ := h.2.2.1.2.2 a e he
    exact ⟨by rw [xset_o (g6 i hi).1 (g6 i hi).2]; exact g1, g2, g3, g4, g5, g6⟩
/-- equationOf is set -/
theorem xCL.setE (h : xCL G w pa ra cp fr ad md ps eo tb wr) (eo' : Nat → Option Nat) : xCL G (xu w (ad 4) (.inl (G.2 0, 9, .inl (xeo eo')))) pa ra cp fr ad md ps eo' tb wr := by
  obtain ⟨ff, f1, f2, f3⟩ := h.ff
  obtain ⟨cf, c1, c2⟩ := h.cf
  have o : ∀ a e, w a = some e → (∀ q, e ≠ .inl (G.2 0, 9, .inl q)) → xu w (ad 4) (.inl (G.2 0, 9, .inl (xeo eo'))) a = some e := fun a e he h1 => by
    rw [xu_n _ _ (x_ne he h.qo (h1 _))]; exact he
  refine ⟨⟨fun j hj => ?_, h.1.2.1, h.1.2.2⟩, ⟨o _ _ h.x (fun q z => by simp at z), ⟨ff, o _ _ f1 (fun q z => by simp at z), f2, f3⟩, fun k hk => o _ _ (h.fo k hk) (fun q z => by simp at z), o _ _ h.q (fun q z => by simp at z), ⟨cf, o _ _ c1 (fun q z => by simp at z), c2⟩, xu_s _ _ _, ?_⟩, ⟨h.2.2.1.1, h.2.2.1.2.1, fun a e he => ?_⟩, h.2.2.2⟩
  · have hq := h.p j hj
    exact ⟨o _ _ hq.1 (fun q z => by simp at z), by rw [xu_n _ _ (h.2.2.1.1 j hj).1]; exact hq.2.1, hq.2.2⟩
  · rw [xu_n _ _ (Ne.symm h.2.2.1.2.1)]; exact h.tk
  · obtain ⟨g1, g2, g3, g4, g5, g6⟩ := h.2.2.1.2.2 a e he
    exact ⟨by rw [xu_n _ _ g4]; exact g1, g2, g3, g4, g5, g6⟩
/-- taken is set -/
theorem xCL.setT (h : xCL G w pa ra cp fr ad md ps eo tb wr) (tb' : Nat → Bool) : xCL G (xu w (ad 5) (.inl (G.2 2, 64, .inl (xtk tb')))) pa ra cp fr ad md ps eo tb' wr := by
  obtain ⟨ff, f1, f2, f3⟩ := h.ff
  obtain ⟨cf, c1, c2⟩ := h.cf
  have o : ∀ a e, w a = some e → (∀ q, e ≠ .inl (G.2 2, 64, .inl q)) → xu w (ad 5) (.inl (G.2 2, 64, .inl (xtk tb'))) a = some e := fun a e he h1 => by
    rw [xu_n _ _ (x_ne he h.tk (h1 _))]; exact he
  refine ⟨⟨fun j hj => ?_, h.1.2.1, h.1.2.2⟩, ⟨o _ _ h.x (fun q z => by simp at z), ⟨ff, o _ _ f1 (fun q z => by simp at z), f2, f3⟩, fun k hk => o _ _ (h.fo k hk) (fun q z => by simp at z), o _ _ h.q (fun q z => by simp at z), ⟨cf, o _ _ c1 (fun q z => by simp at z), c2⟩, ?_, xu_s _ _ _⟩, ⟨h.2.2.1.1, h.2.2.1.2.1, fun a e he => ?_⟩, h.2.2.2⟩
  · have hq := h.p j hj
    exact ⟨o _ _ hq.1 (fun q z => by simp at z), by rw [xu_n _ _ (h.2.2.1.1 j hj).2]; exact hq.2.1, hq.2.2⟩
  · rw [xu_n _ _ h.2.2.1.2.1]; exact h.qo
  · obtain ⟨g1, g2, g3, g4, g5, g6⟩ := h.2.2.1.2.2 a e he
    exact ⟨by rw [xu_n _ _ g5]; exact g1, g2, g3, g4, g5, g6⟩
end XCL
theorem xlen_sle {f : xP} {b n : Nat} (h : xsup f b) : xlen f n ≤ b := by
  cases hh : xlen f n with
  | zero => exact Nat.zero_le _
  | succ i =>
    by_cases hb : b ≤ i
    · exact absurd (h i hb) (xlen_top hh)
    · omega
theorem xtk_up (tb : Nat → Bool) (e : Nat) : upd (xtk tb) e 1 = xtk (va_up tb e true) := by
  funext t
  by_cases h : t = e
  · subst h; simp [upd, xtk, va_up]
  · simp [upd, xtk, va_up, h]
theorem xeo_up (eo : Nat → Option Nat) (k : Nat) (o : Option Nat) : upd (xeo eo) k (xeo1 o) = xeo (va_up eo k o) := by
  funext t
  by_cases h : t = k
  · subst h; simp [upd, xeo, va_up]
  · simp [upd, xeo, va_up, h]
/-- the first place that isn't taken, where f isn't 0 -/
def xfuA (tb : Nat → Bool) (f : xP) : Nat → Nat → Option Nat
  | 0, _ => none
  | d + 1, t => if tb t = false ∧ f t ≠ 0 then some t else xfuA tb f d (t + 1)
def xfu (tb : Nat → Bool) (f : xP) : Option Nat := xfuA tb f 64 0
theorem xfuA_s (tb : Nat → Bool) (f : xP) (d t : Nat) : xfuA tb f (d + 1) t = if tb t = false ∧ f t ≠ 0 then some t else xfuA tb f d (t + 1) := rfl
theorem xfuA_some {tb : Nat → Bool} {f : xP} {d t e : Nat} (h : xfuA tb f d t = some e) : t ≤ e ∧ e < t + d ∧ tb e = false ∧ f e ≠ 0 := by
  induction d generalizing t with
  | zero => cases h
  | succ d ih =>
    rw [xfuA_s] at h
    split at h
    · rename_i hh; cases h; exact ⟨Nat.le_refl _, by omega, hh.1, hh.2⟩
    · have := ih h; exact ⟨by omega, by omega, this.2.2⟩
theorem xfuA_none {tb : Nat → Bool} {f : xP} {d t : Nat} (h : xfuA tb f d t = none) : ∀ e, t ≤ e → e < t + d → tb e = true ∨ f e = 0 := by
  induction d generalizing t with
  | zero => intro e h1 h2; omega
  | succ d ih =>
    rw [xfuA_s] at h
    intro e h1 h2
    split at h
    · cases h
    · rename_i hh
      by_cases he : e = t
      · subst he
        cases ht : tb e with
        | true => exact Or.inl rfl
        | false => exact Or.inr (Classical.byContradiction fun q => hh ⟨ht, q⟩)
      · exact ih h e (by omega) (by omega)
theorem xfu_some {tb : Nat → Bool} {f : xP} {e : Nat} (h : xfu tb f = some e) : e < 64 ∧ tb e = false ∧ f e ≠ 0 := by
  have := xfuA_some h; exact ⟨by omega, this.2.2⟩
theorem xfu_none {tb : Nat → Bool} {f : xP} (h : xfu tb f = none) : ∀ e, e < 64 → tb e = true ∨ f e = 0 := fun e he => xfuA_none h e (Nat.zero_le _) (by omega)
/-- one column made by another -/
def xpi (f g : xP) (e : Nat) (iv : xF) : xP := va_up (xgat f (xO (32003 - (f e * iv).val)) g 0) e (f e * iv)
theorem xpi_sup {f g : xP} {e n : Nat} {iv : xF} (hf : xsup f n) (hg : xsup g n) (he : e < n) : xsup (xpi f g e iv) n := xsup_up (xgat_sup hf hg (by omega)) he
def xsol (ps : Nat → xP) (k e : Nat) : Nat → xP := fun i => if 7 + k < i ∧ i ≤ 16 then xpi (ps i) (ps (7 + k)) e (xinv (ps (7 + k) e)) else ps i
/-- the elimination's state: polynomials, equationOf, taken -/
abbrev xES : Type := (Nat → xP) × (Nat → Option Nat) × (Nat → Bool)
def xelS (k : Nat) (z : xES) : xES := match xfu z.2.2 (z.1 (7 + k)) with
  | none => (z.1, va_up z.2.1 k none, z.2.2)
  | some e => (xsol z.1 k e, va_up z.2.1 k (some e), va_up z.2.2 e true)
def xel : Nat → xES → xES
  | 0, z => z
  | k + 1, z => xelS k (xel k z)
/-- times n + v, k times -/
def xlit (v : xF) : Nat → xP → xP
  | 0, f => f
  | k + 1, f => xlin (xlit v k f) v
theorem xlit_sup {v : xF} {f : xP} {b : Nat} (h : xsup f b) (k : Nat) : xsup (xlit v k f) (b + k) := by
  induction k with
  | zero => exact h
  | succ k ih => exact xlin_sup ih
/-- the columns and the target out of r's top and bottom, A, B, Q and MOVED Q -/
def xgr0 (rb A Q : xP) : xP := xmul (xmul rb A) Q
def xcol (rb A B Q : xP) (k : Nat) : xP := xgat (xlit 1 k (xgr0 rb A Q)) (xO 32002) (xlit 0 k (xgr0 rb B (xmv 64 Q))) 0
def xtgt (rt B Q : xP) : xP := xmul (xmul (xmul rt B) Q) (xmv 64 Q)
theorem xmv_sup {f : xP} {n b : Nat} (h : xsup f n) (hb : xsup f b) : xsup (xmv n f) b := by
  have h1 := xlen_sle (n := n) hb
  have h2 := xpas_sup (xlen_sup h) (xlen f n) (xlen f n - 1) (Nat.le_refl _)
  exact xsup_mono h2 h1
