/-! ===== 32003 is a prime; products of what isn't 0; what the class's methods leave behind ===== -/
theorem xp_small : ∀ d, d < 179 → d ∣ 32003 → d = 1 := by decide +kernel
theorem xp_div {d : Nat} (h : d ∣ 32003) : d = 1 ∨ d = 32003 := by
  obtain ⟨e, he⟩ := h
  by_cases h1 : d < 179
  · exact Or.inl (xp_small d h1 ⟨e, he⟩)
  · have h2 : e < 179 := by
      apply Classical.byContradiction
      intro q
      have := Nat.mul_le_mul (show 179 ≤ d by omega) (show 179 ≤ e by omega)
      omega
    have := xp_small e h2 ⟨d, by rw [he, Nat.mul_comm]⟩
    subst this
    exact Or.inr (by omega)
theorem xp_cop {a : Nat} (h0 : 0 < a) (h : a < 32003) : Nat.Coprime a 32003 := by
  have h1 : Nat.gcd a 32003 ∣ 32003 := Nat.gcd_dvd_right _ _
  have h2 : Nat.gcd a 32003 ≤ a := Nat.le_of_dvd h0 (Nat.gcd_dvd_left _ _)
  rcases xp_div h1 with q | q
  · exact q
  · omega
theorem xF_nz {a b : xF} (ha : a ≠ 0) (hb : b ≠ 0) : a * b ≠ 0 := by
  intro h
  have h1 : (a * b).val = 0 := by rw [h]; rfl
  rw [Fin.mul_def] at h1
  have h2 : 32003 ∣ a.val * b.val := Nat.dvd_of_mod_eq_zero h1
  have h3 : 0 < b.val := Nat.pos_of_ne_zero fun q => hb (Fin.ext q)
  have h4 : 32003 ∣ a.val := Nat.Coprime.dvd_of_dvd_mul_right (Nat.Coprime.symm (xp_cop h3 b.isLt)) h2
  have h5 := Nat.le_of_dvd (Nat.pos_of_ne_zero fun q => ha (Fin.ext q)) h4
  have := a.isLt
  omega
theorem xmul_top {f g : xP} {a b : Nat} (hf : xsup f (a + 1)) (hg : xsup g (b + 1)) : xmul f g (a + b) = f a * g b := by
  unfold xmul
  rw [xS_one (k := a) (by omega) (fun i h1 h2 => ?_)]
  · rw [show a + b - a = b by omega]
  · by_cases h : i < a
    · rw [hg (a + b - i) (by omega)]; grind
    · rw [hf i (by omega)]; grind
theorem xlen_mul {f g : xP} {a b : Nat} (sf : xsup f 64) (sg : xsup g 64) (hf : xlen f 64 = a + 1) (hg : xlen g 64 = b + 1) (hab : a + b < 64) : xlen (xmul f g) 64 = a + b + 1 := by
  have h1 := xlen_sup sf
  have h2 := xlen_sup sg
  rw [hf] at h1
  rw [hg] at h2
  refine xlen_eq (by omega) (fun k h3 h4 => xmul_sup h1 h2 k (by omega)) (Or.inr ⟨a + b, rfl, ?_⟩)
  rw [xmul_top h1 h2]
  exact xF_nz (xlen_top hf) (xlen_top hg)
theorem xlen_mul_ne {f g : xP} {a b : Nat} (sf : xsup f a) (sg : xsup g b) (ha : a + b ≤ 65) (ha2 : a ≤ 64) (hb2 : b ≤ 64) (h1 : xlen f 64 ≠ 0) (h2 : xlen g 64 ≠ 0) : xlen (xmul f g) 64 ≠ 0 := by
  have l1 := xlen_sle (n := 64) sf
  have l2 := xlen_sle (n := 64) sg
  obtain ⟨i, hi⟩ : ∃ i, xlen f 64 = i + 1 := ⟨xlen f 64 - 1, by omega⟩
  obtain ⟨j, hj⟩ : ∃ j, xlen g 64 = j + 1 := ⟨xlen g 64 - 1, by omega⟩
  rw [xlen_mul (xsup_mono sf ha2) (xsup_mono sg hb2) hi hj (by omega)]; omega
/-- the class's cells, its lasting polynomials unchanged -/
def xKp (G : xG) (pa ra cp fr ad : Nat → Nat) (md : Nat) (ps : Nat → xP) (wr : xM) (u : xM) : Prop := ∃ (q : Nat → xP) (eo : Nat → Option Nat) (tb : Nat → Bool), xCL G u pa ra cp fr ad md q eo tb wr ∧ ∀ i, i < 2 ∨ 21 ≤ i → q i = ps i
/-- .. and one function more -/
def xNp (G : xG) (ad : Nat → Nat) (md : Nat) (ps : Nat → xP) (wr : xM) (T Bt : xP) (u : xM) : Prop := ∃ (pa ra cp fr : Nat → Nat) (q : Nat → xP) (eo : Nat → Option Nat) (tb : Nat → Bool), xCL G u pa ra cp fr ad (md + 1) q eo tb wr ∧ (∀ i, i < 2 ∨ (21 ≤ i ∧ i < 21 + 2 * md) → q i = ps i) ∧ q (21 + 2 * md) = T ∧ q (22 + 2 * md) = Bt
/-- t through b becomes a function: the answer and the world -/
def xMk (G : xG) (ad : Nat → Nat) (md : Nat) (ps : Nat → xP) (wr : xM) (t b : xP) (r : Int32) (u : xM) : Prop := r = nI md ∧ md < 50 ∧ xlen (xnT t b) 64 ≤ 21 ∧ xlen (xnB t b) 64 ≤ 21 ∧ xNp G ad md ps wr (xnT t b) (xnB t b) u
def xMkE (G : xG) (pa ra cp fr ad : Nat → Nat) (md : Nat) (ps : Nat → xP) (wr : xM) (t b : xP) (E : String) (u : xM) : Prop := E = eS ∧ (¬ md < 50 ∨ 21 < xlen (xnT t b) 64 ∨ 21 < xlen (xnB t b) 64) ∧ xKp G pa ra cp fr ad md ps wr u
/-- x is a function's handle -/
def xIs (md : Nat) (x : Int32) : Prop := ∃ k, k < md ∧ x = nI k
theorem xIs_neg {md : Nat} {x : Int32} (h : x < 0) (hm : md ≤ 50) : ¬ xIs md x := fun ⟨k, hk, e⟩ => by subst e; exact nI_pos (by omega) h
theorem xIs_big {md j : Nat} (hj : j < 2 ^ 31) (h : md ≤ j) (hm : md ≤ 50) : ¬ xIs md (nI j) := fun ⟨k, hk, e⟩ => by
  have := (nI_eq hj (by omega)).mp e; omega
theorem xKp.self {G : xG} {pa ra cp fr ad : Nat → Nat} {md : Nat} {ps : Nat → xP} {wr w : xM} {eo : Nat → Option Nat} {tb : Nat → Bool} (h : xCL G w pa ra cp fr ad md ps eo tb wr) : xKp G pa ra cp fr ad md ps wr w := ⟨ps, eo, tb, h, fun _ _ => rfl⟩
theorem xKp.trans {G : xG} {pa ra cp fr ad : Nat → Nat} {md : Nat} {ps q : Nat → xP} {wr u : xM} (h : xKp G pa ra cp fr ad md q wr u) (e : ∀ i, i < 2 ∨ 21 ≤ i → q i = ps i) : xKp G pa ra cp fr ad md ps wr u := by
  obtain ⟨q2, eo, tb, h1, h2⟩ := h
  exact ⟨q2, eo, tb, h1, fun i hi => (h2 i hi).trans (e i hi)⟩
theorem xMk.trans {G : xG} {ad : Nat → Nat} {md : Nat} {ps q : Nat → xP} {wr u : xM} {t b : xP} {r : Int32} (h : xMk G ad md q wr t b r u) (e : ∀ i, i < 2 ∨ 21 ≤ i → q i = ps i) : xMk G ad md ps wr t b r u := by
  obtain ⟨h1, h2, h3, h4, pa, ra, cp, fr, q2, eo, tb, g1, g2, g3, g4⟩ := h
  exact ⟨h1, h2, h3, h4, pa, ra, cp, fr, q2, eo, tb, g1, fun i hi => (g2 i hi).trans (e i (by omega)), g3, g4⟩
theorem xMkE.trans {G : xG} {pa ra cp fr ad : Nat → Nat} {md : Nat} {ps q : Nat → xP} {wr u : xM} {t b : xP} {E : String} (h : xMkE G pa ra cp fr ad md q wr t b E u) (e : ∀ i, i < 2 ∨ 21 ≤ i → q i = ps i) : xMkE G pa ra cp fr ad md ps wr t b E u := ⟨h.1, h.2.1, h.2.2.trans e⟩
theorem xz64 {G : xG} {w : xM} {pa ra cp fr ad : Nat → Nat} {md : Nat} {ps : Nat → xP} {eo : Nat → Option Nat} {tb : Nat → Bool} {wr : xM} (h : xCL G w pa ra cp fr ad md ps eo tb wr) {i : Nat} (hi : i < 21 + 2 * md) : xlen (ps i) 64 = xlen (ps i) (cp i) := xlen_n (h.p i hi).2.2.1 (h.p i hi).2.2.2
