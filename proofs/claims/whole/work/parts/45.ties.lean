/-! ===== what the class reckons and what the reference reckons are the same ===== -/
theorem xgat_1 (f g : xP) : xgat f (xO 1) g 0 = xad f g := by
  funext i; unfold xgat xad; rw [if_pos (Nat.zero_le _), xO_1, Nat.sub_zero]; grind
theorem xO_m1 : xO 32002 = -1 := by decide +kernel
theorem xgat_m (f g : xP) : xgat f (xO 32002) g 0 = xsb f g := by
  funext i; unfold xgat xsb; rw [if_pos (Nat.zero_le _), xO_m1, Nat.sub_zero]; grind
theorem xad_comm (f g : xP) : xad f g = xad g f := by funext i; unfold xad; grind
theorem xmo_at (v : xF) (k i : Nat) : xmo v k i = if i = k then v else 0 := by unfold xmo va_up; rfl
theorem xlit_mo : ∀ k : Nat, xlit 0 k x1 = xmo 1 k := by
  intro k
  induction k with
  | zero => rfl
  | succ k ih =>
    rw [xlit_s, ih]
    funext i
    show xsh (xmo 1 k) i + 0 * xmo 1 k i = xmo 1 (k + 1) i
    cases i with
    | zero => rw [xmo_at 1 (k + 1), if_neg (by omega)]; show (0 : xF) + _ = 0; grind
    | succ i =>
      show xmo 1 k i + _ = _
      rw [xmo_at 1 (k + 1), xmo_at 1 k i]
      by_cases h : i = k
      · rw [if_pos h, if_pos (by omega)]; grind
      · rw [if_neg h, if_neg (by omega)]; grind
theorem xmM_mo {k : Nat} (hk : k < 64) : xmM 63 (xmo 1 k) = xlit 1 k x1 := by
  rw [xmM_Ta (f := xmo 1 k) (xc_sup hk)]
  funext i
  show xS 64 (fun j => xmo 1 k j * xlit 1 j x1 i) = _
  rw [xS_one (k := k) hk (fun j _ h2 => by rw [xmo_at, if_neg h2]; grind), xmo_at, if_pos rfl]; grind
theorem xr_k1 {R : Type} [Lean.Grind.CommRing R] (l rb A Q : R) : l * (A * Q * rb) = l * (rb * A * Q) := by grind
theorem xr_k2 {R : Type} [Lean.Grind.CommRing R] (rt Bq Q M : R) : (Bq * M) * (rt * Q) = ((rt * Bq) * Q) * M := by grind
theorem xcol_M {rb A Bq Q : xP} (hQ : xsup Q 64) {k : Nat} (hk : k < 64) : xMcol rb A Bq Q k = xcol rb A Bq Q k := by
  unfold xMcol xcol xgr0
  rw [xgat_m, xmv_mM hQ, xlit_1 1 k, xlit_1 0 k, xlit_mo, ← xmM_mo hk]
  have e1 := @xr_k1 xP xring (xmM 63 (xmo 1 k)) rb A Q
  have e2 := @xr_k1 xP xring (xmo 1 k) rb Bq (xmM 63 Q)
  exact (congrArg (fun z => xsb z _) e1).trans (congrArg (fun z => xsb _ z) e2)
theorem xtgt_M {rt Bq Q : xP} (hQ : xsup Q 64) : xMtgt rt Bq Q = xtgt rt Bq Q := by
  unfold xMtgt xtgt
  rw [xmv_mM hQ]
  exact @xr_k2 xP xring rt Bq Q (xmM 63 Q)
theorem x1_0 : x1 0 = 1 := by rw [x1_c, xc_at, if_pos rfl]
theorem xlow_one {t : xP} (ht : xsup t 64) : xLow t x1 := by
  refine ⟨⟨64, ht⟩, ⟨0, x1_0, x1_sup⟩, xc 0, xc 1, xpl_c 0, xpl_c 1, ?_⟩
  rw [xmul_0, x1_c, xmul_1]
  funext i
  show xc 0 i + xc 1 i = xc 1 i
  rw [xc_at 0]
  split <;> grind
theorem xn_one {t : xP} (ht : xsup t 64) : xnT t x1 = t ∧ xnB t x1 = x1 := xnorm_uniq (xlow_one ht) ht (xsup_mono x1_sup (by decide)) x1_ne rfl
theorem xlow_ne {T Bt : xP} (h : xLow T Bt) (s : xsup Bt 64) : xlen Bt 64 ≠ 0 := fun z => by
  obtain ⟨-, ⟨i, hi, -⟩, -⟩ := h
  rw [(xlen_0 s).mp z i] at hi
  exact x_one_nz hi.symm
theorem xn_mv {T Bt : xP} (h : xLow T Bt) (sT : xsup T 64) (sB : xsup Bt 64) : xnT (xmv 64 T) (xmv 64 Bt) = xmM 63 T ∧ xnB (xmv 64 T) (xmv 64 Bt) = xmM 63 Bt := by
  rw [xmv_mM sT, xmv_mM sB]
  have hl := xmM_len sB 63
  have h1 := xmM_sup sT 63
  have h2 := xmM_sup sB 63
  refine xnorm_uniq ?_ h1 h2 (by rw [hl]; exact xlow_ne h sB) rfl
  rw [xmM_Ta sT, xmM_Ta sB]
  exact xlow_moved h sT sB
theorem xst_N {t b A Bq : xP} (st : xsup t 64) (sb : xsup b 64) : xgat (xmul (xmul (xmv 64 t) A) b) (xO 32002) (xmul (xmul (xmv 64 b) Bq) t) 0 = xstN t b A Bq := by
  rw [xgat_m, xmv_mM st, xmv_mM sb, xmul_comm _ t]; rfl
theorem xst_D {b Bq : xP} (sb : xsup b 64) : xmul (xmul (xmv 64 b) Bq) b = xstD b Bq := by rw [xmv_mM sb]; rfl
theorem xsb_sup {f g : xP} {n : Nat} (hf : xsup f n) (hg : xsup g n) : xsup (xsb f g) n := fun k hk => by show f k - g k = 0; rw [hf k hk, hg k hk]; grind
theorem xad_sup {f g : xP} {n : Nat} (hf : xsup f n) (hg : xsup g n) : xsup (xad f g) n := fun k hk => by show f k + g k = 0; rw [hf k hk, hg k hk]; grind
theorem xstN_s {t b A Bq : xP} (st : xsup t 21) (sb : xsup b 21) (sA : xsup A 4) (sB : xsup Bq 4) : xsup (xstN t b A Bq) 64 := by
  refine xsb_sup ?_ ?_
  · exact xsup_mono (xmul_sup (xmul_sup (xmM_sup2 st 63) sA) sb) (by decide)
  · exact xsup_mono (xmul_sup st (xmul_sup (xmM_sup2 sb 63) sB)) (by decide)
theorem xstD_s {b Bq : xP} (sb : xsup b 21) (sB : xsup Bq 4) : xsup (xstD b Bq) 64 := xsup_mono (xmul_sup (xmul_sup (xmM_sup2 sb 63) sB) sb) (by decide)
theorem xstD_ne {b Bq : xP} (sb : xsup b 21) (sB : xsup Bq 4) (h1 : xlen b 64 ≠ 0) (h2 : xlen Bq 64 ≠ 0) : xlen (xstD b Bq) 64 ≠ 0 := by
  have sm := xmM_sup2 sb 63
  have h3 : xlen (xmM 63 b) 64 ≠ 0 := by rw [xmM_len (xsup_mono sb (by decide))]; exact h1
  exact xlen_mul_ne (xmul_sup sm sB) sb (by decide) (by decide) (by decide) (xlen_mul_ne sm sB (by decide) (by decide) (by decide) h3 h2) h1
theorem xprv {T Bt N D : xP} (h : xLow T Bt) (sN : xsup N 64) (sD : xsup D 64) (hD : xlen D 64 ≠ 0) : xmul T D = xmul Bt N ↔ (xnT N D = T ∧ xnB N D = Bt) := by
  constructor
  · intro e
    exact xnorm_uniq h sN sD hD (by rw [e, xmul_comm])
  · rintro ⟨e1, e2⟩
    have := (xnorm_low sN sD hD).2
    rw [e1, e2] at this
    rw [this, xmul_comm]
/-! the certificates -/
section XCERT
variable {rt rb A Bq Q : xP}
theorem xSol_M (hQ : xsup Q 64) {n : Nat} (hn : n ≤ 9) (Y : xP) : xSol (fun k => xMcol rb A Bq Q k) (xMtgt rt Bq Q) n Y ↔ xSol (fun k => xcol rb A Bq Q k) (xtgt rt Bq Q) n Y :=
  ⟨fun h => xSol_cg (fun k hk i _ => congrFun (xcol_M hQ (by omega)) i) (fun i _ => congrFun (xtgt_M hQ) i) h, fun h => xSol_cg (fun k hk i _ => (congrFun (xcol_M hQ (by omega)) i).symm) (fun i _ => (congrFun (xtgt_M hQ) i).symm) h⟩
theorem xPln_M (hQ : xsup Q 64) {n : Nat} (hn : n ≤ 9) {Y : xP} (h : xPln (fun k => xMcol rb A Bq Q k) (xMtgt rt Bq Q) n Y) : xPln (fun k => xcol rb A Bq Q k) (xtgt rt Bq Q) n Y :=
  xPln_cg (fun k hk i _ => congrFun (xcol_M hQ (by omega)) i) (fun i _ => congrFun (xtgt_M hQ) i) h
theorem xDep_M (hQ : xsup Q 64) {n : Nat} (hn : n < 9) : xDep (fun k => xMcol rb A Bq Q k) n ↔ xDep (fun k => xcol rb A Bq Q k) n :=
  ⟨fun h => xDep_cg (fun j hj i _ => congrFun (xcol_M hQ (by omega)) i) h, fun h => xDep_cg (fun j hj i _ => (congrFun (xcol_M hQ (by omega)) i).symm) h⟩
theorem xlst {o : Option xP} (hQ : xsup Q 64) (h : xFP rt rb A Bq Q o) {r r' : Int32} (h1 : (o = none ∧ r = -1) ∨ ∃ Y, o = some Y ∧ r = nI (xlen Y 64 - 1))
    (h2 : (r' = -1 ∧ ∀ j, j < 9 → ∀ Y, ¬ xSol (fun k => xMcol rb A Bq Q k) (xMtgt rt Bq Q) (j + 1) Y) ∨ ∃ t9, t9 < 9 ∧ r' = nI t9 ∧ (∃ Y, xPln (fun k => xMcol rb A Bq Q k) (xMtgt rt Bq Q) (t9 + 1) Y) ∧ ∀ j, j < t9 → ∀ Y, ¬ xSol (fun k => xMcol rb A Bq Q k) (xMtgt rt Bq Q) (j + 1) Y) : r = r' := by
  have ok := xFP_ok h
  rcases h1 with ⟨ho, e⟩ | ⟨Y, ho, e⟩
  · rcases h2 with ⟨e2, -⟩ | ⟨t9, ht, -, ⟨Y, hY⟩, -⟩
    · rw [e, e2]
    · have hY := xPln_M hQ (by omega) hY
      exact absurd (xPln_ext hY (m := 9) (by omega)).1 (ok.1 ho Y)
  · have hP := ok.2 Y ho
    rcases h2 with ⟨-, e2⟩ | ⟨t9, ht, e2, ⟨Y', hY⟩, hm⟩
    · exact absurd ((xSol_M hQ (Nat.le_refl 9) Y).mpr hP.1) (e2 8 (by decide) Y)
    · have hY := xPln_M hQ (by omega) hY
      have eY := xPln_uniq (xPln_ext hY (m := 9) (by omega)) hP
      have s1 : xsup Y (t9 + 1) := eY ▸ hY.2.2
      have l1 := xlen_sle (n := 64) s1
      have s2 : xsup Y (xlen Y 64) := xlen_sup (xsup_mono hP.2.2 (by decide))
      have l2 : ¬ xlen Y 64 - 1 < t9 := fun hlt => hm (xlen Y 64 - 1) hlt Y ((xSol_M hQ (by omega) Y).mpr (xSol_cut hP.1 (xsup_mono s2 (by omega)) (by omega)))
      rw [e, e2, show xlen Y 64 - 1 = t9 by omega]
theorem xfnd_no {o : Option xP} (hQ : xsup Q 64) (h : xFP rt rb A Bq Q o) {dd : Nat} (hd : dd < 9) (h1 : o = none ∨ ∃ Y, o = some Y ∧ dd + 1 < xlen Y 64) (Y : xP) : ¬ xPln (fun k => xMcol rb A Bq Q k) (xMtgt rt Bq Q) (dd + 1) Y := fun hY => by
  have ok := xFP_ok h
  have hY := xPln_M hQ (by omega) hY
  rcases h1 with ho | ⟨Y', ho, hl⟩
  · exact ok.1 ho Y (xPln_ext hY (m := 9) (by omega)).1
  · have eY := xPln_uniq (xPln_ext hY (m := 9) (by omega)) (ok.2 Y' ho)
    have := xlen_sle (n := 64) hY.2.2
    rw [eY] at this
    omega
theorem xfnd_yes {Y : xP} (hQ : xsup Q 64) (h : xFP rt rb A Bq Q (some Y)) {dd : Nat} (hd : dd < 9) (hl : xlen Y 64 ≤ dd + 1) : xSol (fun k => xMcol rb A Bq Q k) (xMtgt rt Bq Q) (dd + 1) Y ∧ xsup Y 9 ∧ ∀ Y', xPln (fun k => xMcol rb A Bq Q k) (xMtgt rt Bq Q) (dd + 1) Y' → Y' = Y := by
  have hP := (xFP_ok h).2 Y rfl
  refine ⟨(xSol_M hQ (by omega) Y).mpr (xSol_cut hP.1 (xsup_mono (xlen_sup (xsup_mono hP.2.2 (by decide))) hl) (by omega)), hP.2.2, fun Y' hY => ?_⟩
  exact xPln_uniq (xPln_ext (xPln_M hQ (by omega) hY) (m := 9) (by omega)) hP
theorem xfre {e e' : Nat → Option Nat} (hQ : xsup Q 64) (h : xFr rb A Bq Q e) {n : Nat} (hn : n ≤ 9) (h' : ∀ k, k < n → (e' k = none ↔ xDep (fun k => xMcol rb A Bq Q k) k)) : xnn e n = xnn e' n := by
  have hk : ∀ k, k < n → (e k = none ↔ e' k = none) := fun k hk => ((xFr_ok h k (by omega)).trans (xDep_M hQ (by omega)).symm).trans (h' k hk).symm
  clear h h'
  induction n with
  | zero => rfl
  | succ n ih =>
    rw [xnn_s, xnn_s, ih (by omega) (fun k h => hk k (by omega))]
    by_cases hz : e n = none
    · rw [if_pos hz, if_pos ((hk n (by omega)).mp hz)]
    · rw [if_neg hz, if_neg (fun q => hz ((hk n (by omega)).mpr q))]
end XCERT
theorem xhor_l {f : xP} (h : xsup f 64) (v : xF) : xhor f v 64 0 = xhor f v (xlen f 64) 0 := xhor_end f v (xlen_sup h) (xlen_le f 64)
/-! the class's functions are the reference's -/
def xTie (md : Nat) (ps im : Nat → xP) : Prop := im 2 = ps 0 ∧ im 3 = ps 1 ∧ xsup (ps 0) 4 ∧ xsup (ps 1) 4 ∧ ∀ k, k < md → xTm im k = ps (21 + 2 * k) ∧ xBm im k = ps (22 + 2 * k) ∧ xLow (ps (21 + 2 * k)) (ps (22 + 2 * k))
section XTIE
variable {md : Nat} {ps im q i2 : Nat → xP}
theorem xTie.T (h : xTie md ps im) {k : Nat} (hk : k < md) : xTm im k = ps (21 + 2 * k) := (h.2.2.2.2 k hk).1
theorem xTie.B (h : xTie md ps im) {k : Nat} (hk : k < md) : xBm im k = ps (22 + 2 * k) := (h.2.2.2.2 k hk).2.1
theorem xTie.L (h : xTie md ps im) {k : Nat} (hk : k < md) : xLow (ps (21 + 2 * k)) (ps (22 + 2 * k)) := (h.2.2.2.2 k hk).2.2
theorem xTie.sT (h : xTie md ps im) {k : Nat} (hk : k < md) : xsup (ps (21 + 2 * k)) 21 := h.T hk ▸ xld_sup (im 0) (21 * k) (Nat.le_refl 21)
theorem xTie.sB (h : xTie md ps im) {k : Nat} (hk : k < md) : xsup (ps (22 + 2 * k)) 21 := h.B hk ▸ xld_sup (im 1) (21 * k) (Nat.le_refl 21)
theorem xTie.ne (h : xTie md ps im) {k : Nat} (hk : k < md) : xlen (ps (22 + 2 * k)) 64 ≠ 0 := xlow_ne (h.L hk) (xsup_mono (h.sB hk) (by decide))
theorem xTie.F (h : xTie md ps im) : ∀ k, k < md → xsup (ps (21 + 2 * k)) 21 ∧ xsup (ps (22 + 2 * k)) 21 ∧ xlen (ps (22 + 2 * k)) 64 ≠ 0 := fun _ hk => ⟨h.sT hk, h.sB hk, h.ne hk⟩
theorem xTie.Fm (h : xTie md ps im) : ∀ k, k < md → xlen (xBm im k) 64 ≠ 0 := fun _ hk => by rw [h.B hk]; exact h.ne hk
theorem xTie.kp (h : xTie md ps im) (e : ∀ i, i < 2 ∨ 21 ≤ i → q i = ps i) : xTie md q im := by
  obtain ⟨h1, h2, h3, h4, h5⟩ := h
  have e0 := e 0 (by omega)
  have e1 := e 1 (by omega)
  refine ⟨h1.trans e0.symm, h2.trans e1.symm, e0 ▸ h3, e1 ▸ h4, fun k hk => ?_⟩
  rw [e (21 + 2 * k) (by omega), e (22 + 2 * k) (by omega)]
  exact h5 k hk
theorem xTie.new (h : xTie md ps im) {T Bt : xP} (e : ∀ i, i < 2 ∨ (21 ≤ i ∧ i < 21 + 2 * md) → q i = ps i) (eT : q (21 + 2 * md) = T) (eB : q (22 + 2 * md) = Bt) (i0 : i2 0 = xpt (im 0) md T 21) (i1 : i2 1 = xpt (im 1) md Bt 21) (e2 : i2 2 = im 2) (e3 : i2 3 = im 3) (hL : xLow T Bt) (sT : xsup T 21) (sB : xsup Bt 21) : xTie (md + 1) q i2 := by
  obtain ⟨h1, h2, h3, h4, h5⟩ := h
  have q0 := e 0 (by omega)
  have q1 := e 1 (by omega)
  refine ⟨(e2.trans h1).trans q0.symm, (e3.trans h2).trans q1.symm, q0 ▸ h3, q1 ▸ h4, fun k hk => ?_⟩
  unfold xTm xBm
  rw [i0, i1]
  by_cases hkm : k = md
  · subst hkm
    rw [eT, eB]
    exact ⟨xld_ptk sT, xld_ptk sB, hL⟩
  · rw [e (21 + 2 * k) (by omega), e (22 + 2 * k) (by omega), xld_pt (by omega), xld_pt (by omega)]
    exact h5 k (by omega)
theorem xTie.rt (h : xTie md ps im) {p1 : Nat} (hp : p1 < 4) (z : Int32) (v : xF) : xTie md (va_up ps (if z = 0 then 1 else 0) (va_up (ps (if z = 0 then 1 else 0)) p1 v)) (va_up im (if z = 0 then 3 else 2) (va_up (im (if z = 0 then 3 else 2)) p1 v)) := by
  obtain ⟨h1, h2, h3, h4, h5⟩ := h
  have n : ∀ (J : Nat) (f : xP), 2 ≤ J → ∀ i, i < 2 → va_up im J f i = im i := fun J f hJ i hi => va_up_ne _ _ (by omega)
  have n2 : ∀ (J : Nat) (f : xP), J < 2 → ∀ i, 2 ≤ i → va_up ps J f i = ps i := fun J f hJ i hi => va_up_ne _ _ (by omega)
  by_cases hz : z = 0
  · rw [if_pos hz, if_pos hz]
    refine ⟨?_, ?_, ?_, ?_, fun k hk => ?_⟩
    · rw [va_up_ne _ _ (by decide), va_up_ne _ _ (by decide)]; exact h1
    · rw [va_up_self, va_up_self, h2]
    · rw [va_up_ne _ _ (by decide)]; exact h3
    · rw [va_up_self]; exact xsup_up h4 hp
    · unfold xTm xBm
      rw [n 3 _ (by decide) 0 (by decide), n 3 _ (by decide) 1 (by decide), n2 1 _ (by decide) _ (by omega), n2 1 _ (by decide) _ (by omega)]
      exact h5 k hk
  · rw [if_neg hz, if_neg hz]
    refine ⟨?_, ?_, ?_, ?_, fun k hk => ?_⟩
    · rw [va_up_self, va_up_self, h1]
    · rw [va_up_ne _ _ (by decide), va_up_ne _ _ (by decide)]; exact h2
    · rw [va_up_self]; exact xsup_up h3 hp
    · rw [va_up_ne _ _ (by decide)]; exact h4
    · unfold xTm xBm
      rw [n 2 _ (by decide) 0 (by decide), n 2 _ (by decide) 1 (by decide), n2 0 _ (by decide) _ (by omega), n2 0 _ (by decide) _ (by omega)]
      exact h5 k hk
theorem xTie.start {ps im : Nat → xP} (h1 : ps 0 = x1) (h2 : ps 1 = x1) (h3 : im 2 = x1) (h4 : im 3 = x1) : xTie 0 ps im :=
  ⟨h3.trans h1.symm, h4.trans h2.symm, h1 ▸ xsup_mono x1_sup (by decide), h2 ▸ xsup_mono x1_sup (by decide), fun _ hk => absurd hk (by omega)⟩
end XTIE
