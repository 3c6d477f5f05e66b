/-! ===== lowest terms as the program reckons them; a new function's cells ===== -/
def xqr (f g : xP) : xP × xP := xdv g (xlen g 64 - 1) (xinv (g (xlen g 64 - 1))) (xlen f 64 + 1 - xlen g 64) f (fun _ => 0)
def xrem (f g : xP) : xP := (xqr f g).1
def xquo (f g : xP) : xP := (xqr f g).2
theorem xqr_sup {f g : xP} (hf : xsup f 64) (hg : xsup g 64) (h0 : xlen g 64 ≠ 0) : xsup (xrem f g) 64 ∧ xsup (xquo f g) 64 := by
  have h1 := xlen_le f 64
  have h2 := xlen_le g 64
  exact xdv_sup (xlen_sup hg) _ _ _ hf (xsup_z 64) (by omega) (by omega)
def xgcd : Nat → xP → xP → xP
  | 0, f, _ => f
  | r + 1, f, g => if xlen g 64 = 0 then f else xgcd r g (xrem f g)
theorem xgcd_0 (f g : xP) : xgcd 0 f g = f := rfl
theorem xgcd_z {f g : xP} (r : Nat) (h : xlen g 64 = 0) : xgcd r f g = f := by cases r <;> simp [xgcd, h]
theorem xgcd_s {f g : xP} (r : Nat) (h : xlen g 64 ≠ 0) : xgcd (r + 1) f g = xgcd r g (xrem f g) := by simp [xgcd, h]
theorem xgcd_ne {f g : xP} (r : Nat) (h : xlen f 64 ≠ 0) : xlen (xgcd r f g) 64 ≠ 0 := by
  induction r generalizing f g with
  | zero => exact h
  | succ r ih =>
    by_cases hg : xlen g 64 = 0
    · rw [xgcd_z _ hg]; exact h
    · rw [xgcd_s _ hg]; exact ih hg
theorem xgcd_ne2 {f g : xP} (r : Nat) (h : xlen g 64 ≠ 0) : xlen (xgcd (r + 1) f g) 64 ≠ 0 := by
  rw [xgcd_s _ h]; exact xgcd_ne r h
theorem xgcd_sup {f g : xP} (r : Nat) (hf : xsup f 64) (hg : xsup g 64) : xsup (xgcd r f g) 64 := by
  induction r generalizing f g with
  | zero => exact hf
  | succ r ih =>
    by_cases h : xlen g 64 = 0
    · rw [xgcd_z _ h]; exact hf
    · rw [xgcd_s _ h]; exact ih hg (xqr_sup hf hg h).1
/-- the number by which both parts are scaled -/
def xnc (t b : xP) : xF := xinv (xcf (xquo b (xgcd 65 t b)) (xhi (xquo b (xgcd 65 t b)) 64))
def xnT (t b : xP) : xP := fun i => xquo t (xgcd 65 t b) i * xnc t b
def xnB (t b : xP) : xP := fun i => xquo b (xgcd 65 t b) i * xnc t b
theorem xsc_sup {f : xP} {v : xF} {n : Nat} (h : xsup f n) : xsup (fun i => f i * v) n := fun k hk => by show f k * v = 0; rw [h k hk]; grind
theorem x_nn {w : xM} {a b : Nat} {e : va_E} (h1 : w a = some e) (h2 : w b = none) : a ≠ b := fun z => by subst z; rw [h1] at h2; cases h2
theorem xnT_sup {t b : xP} (ht : xsup t 64) (hb : xsup b 64) (h0 : xlen b 64 ≠ 0) : xsup (xnT t b) 64 ∧ xsup (xnB t b) 64 := by
  have hd := xgcd_sup 65 ht hb
  have hd0 : xlen (xgcd 65 t b) 64 ≠ 0 := xgcd_ne2 64 h0
  exact ⟨xsc_sup (xqr_sup ht hd hd0).2, xsc_sup (xqr_sup hb hd hd0).2⟩
section XCN
variable {G : xG} {w : xM} {pa ra cp fr ad : Nat → Nat} {md : Nat} {ps : Nat → xP} {eo : Nat → Option Nat} {tb : Nat → Bool} {wr : xM}
theorem xset_x {h r n : Nat} {e : va_E} {f : xP} (hne : r ≠ h) : xset G (xu w h e) h r n f = xset G w h r n f := by
  unfold xset
  rw [xu_c _ _ _ (Ne.symm hne), xu_u]
/-- the world with a new function -/
def xnew (G : xG) (w : xM) (pa ad : Nat → Nat) (md : Nat) (ff : Nat → Option Nat) (q p1 r1 n1 p2 r2 n2 : Nat) (T Bt : xP) : xM :=
  xu (xu (xu (xset G (xset G w p1 r1 n1 T) p2 r2 n2 Bt) q (.inr (1, [.ref p1, .ref p2]))) (ad 1) (.inl (G.2 4, 50, xq (va_up ff md (some q))))) (ad 0) (.inr (3, [.ref (pa 0), .ref (pa 1), .ref (ad 1), .int (nI (md + 1)), .ref (pa 2), .ref (pa 3), .ref (pa 4), .ref (pa 5), .ref (pa 6), .ref (ad 2)]))
theorem xCL.new (h : xCL G w pa ra cp fr ad md ps eo tb wr) (hmd : md < 50) {ff : Nat → Option Nat} (hff : w (ad 1) = some (.inl (G.2 4, 50, xq ff))) {q p1 r1 n1 p2 r2 n2 : Nat} {T Bt : xP} (wq : w q = none) (w1 : w p1 = none) (w2 : w r1 = none) (w3 : w p2 = none) (w4 : w r2 = none)
    (d1 : p1 ≠ q) (d2 : r1 ≠ q) (d3 : p2 ≠ q) (d4 : r2 ≠ q) (d5 : r1 ≠ p1) (d6 : p2 ≠ p1) (d7 : r2 ≠ p1) (d8 : p2 ≠ r1) (d9 : r2 ≠ r1) (d10 : r2 ≠ p2) (s1 : xsup T n1) (s2 : xsup Bt n2) (m1 : n1 ≤ 64) (m2 : n2 ≤ 64) :
    xCL G (xnew G w pa ad md ff q p1 r1 n1 p2 r2 n2 T Bt) (va_up (va_up pa (21 + 2 * md) p1) (22 + 2 * md) p2) (va_up (va_up ra (21 + 2 * md) r1) (22 + 2 * md) r2) (va_up (va_up cp (21 + 2 * md) n1) (22 + 2 * md) n2) (va_up fr md q) ad (md + 1) (va_up (va_up ps (21 + 2 * md) T) (22 + 2 * md) Bt) eo tb wr := by
  obtain ⟨f0, f1, f2, f3⟩ := h.ff
  have hf0 : f0 = ff := by
    have := Option.some.inj (f1.symm.trans hff)
    injection this with this
    injection this with _ this
    injection this with _ this
    injection this with this
    injection this with this
    injection this with this
    injection this with this
  subst hf0
  obtain ⟨cf, c1, c2⟩ := h.cf
  have fre : ∀ a e, w a = some e → a ≠ q ∧ a ≠ p1 ∧ a ≠ r1 ∧ a ≠ p2 ∧ a ≠ r2 := fun a e he => ⟨x_nn he wq, x_nn he w1, x_nn he w2, x_nn he w3, x_nn he w4⟩
  have a0 := fre _ _ h.x
  have a1 := fre _ _ f1
  have a01 : ad 1 ≠ ad 0 := x_ne f1 h.x (fun z => by simp at z)
  have o : ∀ a e, w a = some e → a ≠ ad 0 → a ≠ ad 1 → xnew G w pa ad md f0 q p1 r1 n1 p2 r2 n2 T Bt a = some e := fun a e he g0 g1 => by
    obtain ⟨z1, z2, z3, z4, z5⟩ := fre a e he
    unfold xnew
    rw [xu_n _ _ g0, xu_n _ _ g1, xu_n _ _ z1, xset_o z4 z5, xset_o z2 z3]; exact he
  have op : ∀ i f, i < 21 + 2 * md → ps i = f → xPoly G (xnew G w pa ad md f0 q p1 r1 n1 p2 r2 n2 T Bt) (pa i) (ra i) (cp i) f := fun i f hi hf => by
    have hp := h.pe i hi hf
    exact ⟨o _ _ hp.1 (x_ne hp.1 h.x (fun z => by simp at z)) (x_ne hp.1 f1 (fun z => by simp at z)), o _ _ hp.2.1 (x_ne hp.2.1 h.x (fun z => by simp at z)) (x_ne hp.2.1 f1 (fun z => by simp at z)), hp.2.2⟩
  have n0 : ∀ a, a = p1 ∨ a = r1 ∨ a = p2 ∨ a = r2 ∨ a = q → a ≠ ad 0 ∧ a ≠ ad 1 := fun a ha => by
    rcases ha with rfl | rfl | rfl | rfl | rfl
    · exact ⟨Ne.symm a0.2.1, Ne.symm a1.2.1⟩
    · exact ⟨Ne.symm a0.2.2.1, Ne.symm a1.2.2.1⟩
    · exact ⟨Ne.symm a0.2.2.2.1, Ne.symm a1.2.2.2.1⟩
    · exact ⟨Ne.symm a0.2.2.2.2, Ne.symm a1.2.2.2.2⟩
    · exact ⟨Ne.symm a0.1, Ne.symm a1.1⟩
  have g1 : xPoly G (xnew G w pa ad md f0 q p1 r1 n1 p2 r2 n2 T Bt) p1 r1 n1 T := by
    have b := xset_n (G := G) (n := n2) (f := Bt) (xset_s (G := G) (w := w) d5 s1 m1) (Ne.symm d6) (Ne.symm d9) (Ne.symm d7) (Ne.symm d8)
    unfold xnew
    exact ⟨by rw [xu_n _ _ (n0 p1 (by simp)).1, xu_n _ _ (n0 p1 (by simp)).2, xu_n _ _ d1]; exact b.1, by rw [xu_n _ _ (n0 r1 (by simp)).1, xu_n _ _ (n0 r1 (by simp)).2, xu_n _ _ d2]; exact b.2.1, s1, m1⟩
  have g2 : xPoly G (xnew G w pa ad md f0 q p1 r1 n1 p2 r2 n2 T Bt) p2 r2 n2 Bt := by
    have b := xset_s (G := G) (w := xset G w p1 r1 n1 T) d10 s2 m2
    unfold xnew
    exact ⟨by rw [xu_n _ _ (n0 p2 (by simp)).1, xu_n _ _ (n0 p2 (by simp)).2, xu_n _ _ d3]; exact b.1, by rw [xu_n _ _ (n0 r2 (by simp)).1, xu_n _ _ (n0 r2 (by simp)).2, xu_n _ _ d4]; exact b.2.1, s2, m2⟩
  have pold : ∀ i, i < 21 + 2 * md → va_up (va_up pa (21 + 2 * md) p1) (22 + 2 * md) p2 i = pa i ∧ va_up (va_up ra (21 + 2 * md) r1) (22 + 2 * md) r2 i = ra i ∧ va_up (va_up cp (21 + 2 * md) n1) (22 + 2 * md) n2 i = cp i ∧ va_up (va_up ps (21 + 2 * md) T) (22 + 2 * md) Bt i = ps i := fun i hi =>
    ⟨by rw [va_up_ne _ _ (by omega), va_up_ne _ _ (by omega)], by rw [va_up_ne _ _ (by omega), va_up_ne _ _ (by omega)], by rw [va_up_ne _ _ (by omega), va_up_ne _ _ (by omega)], by rw [va_up_ne _ _ (by omega), va_up_ne _ _ (by omega)]⟩
  have pn1 : va_up (va_up pa (21 + 2 * md) p1) (22 + 2 * md) p2 (21 + 2 * md) = p1 ∧ va_up (va_up ra (21 + 2 * md) r1) (22 + 2 * md) r2 (21 + 2 * md) = r1 ∧ va_up (va_up cp (21 + 2 * md) n1) (22 + 2 * md) n2 (21 + 2 * md) = n1 ∧ va_up (va_up ps (21 + 2 * md) T) (22 + 2 * md) Bt (21 + 2 * md) = T :=
    ⟨by rw [va_up_ne _ _ (by omega), va_up_self], by rw [va_up_ne _ _ (by omega), va_up_self], by rw [va_up_ne _ _ (by omega), va_up_self], by rw [va_up_ne _ _ (by omega), va_up_self]⟩
  have pa0 : ∀ i, i < 21 + 2 * md → ∀ a, w a = none → pa i ≠ a ∧ ra i ≠ a := fun i hi a ha => ⟨x_nn (h.p i hi).1 ha, x_nn (h.p i hi).2.1 ha⟩
  refine ⟨⟨fun i hi => ?_, fun i j hi hj hij => ?_, fun i j hi hj hij => ?_⟩, ⟨?_, ⟨va_up f0 md (some q), ?_, fun k hk => ?_, fun k h1 h2 => ?_⟩, fun k hk => ?_, ?_, ⟨cf, ?_, fun k hk => ?_⟩, ?_, ?_⟩, ⟨fun i hi => ?_, h.2.2.1.2.1, fun a e he => ?_⟩, ?_, by omega⟩
  · rcases Nat.lt_or_ge i (21 + 2 * md) with hlt | hge
    · obtain ⟨e1, e2, e3, e4⟩ := pold i hlt
      rw [e1, e2, e3, e4]; exact op i _ hlt rfl
    · by_cases h1 : i = 21 + 2 * md
      · subst h1
        rw [pn1.1, pn1.2.1, pn1.2.2.1, pn1.2.2.2]; exact g1
      · have h2 : i = 22 + 2 * md := by omega
        subst h2
        rw [va_up_self, va_up_self, va_up_self, va_up_self]; exact g2
  · rcases Nat.lt_or_ge i (21 + 2 * md) with hlt | hge <;> rcases Nat.lt_or_ge j (21 + 2 * md) with hlj | hgj
    · rw [(pold i hlt).1, (pold j hlj).1] at hij; exact h.1.2.1 i j hlt hlj hij
    · rw [(pold i hlt).1] at hij
      by_cases h1 : j = 21 + 2 * md
      · subst h1; rw [pn1.1] at hij; exact absurd hij (pa0 i hlt _ w1).1
      · have h2 : j = 22 + 2 * md := by omega
        subst h2; rw [va_up_self] at hij; exact absurd hij (pa0 i hlt _ w3).1
    · rw [(pold j hlj).1] at hij
      by_cases h1 : i = 21 + 2 * md
      · subst h1; rw [pn1.1] at hij; exact absurd hij.symm (pa0 j hlj _ w1).1
      · have h2 : i = 22 + 2 * md := by omega
        subst h2; rw [va_up_self] at hij; exact absurd hij.symm (pa0 j hlj _ w3).1
    · by_cases h1 : i = 21 + 2 * md <;> by_cases h2 : j = 21 + 2 * md
      · omega
      · have h3 : j = 22 + 2 * md := by omega
        subst h1; subst h3; rw [pn1.1, va_up_self] at hij; exact absurd hij.symm d6
      · have h3 : i = 22 + 2 * md := by omega
        subst h2; subst h3; rw [pn1.1, va_up_self] at hij; exact absurd hij d6
      · omega
  · rcases Nat.lt_or_ge i (21 + 2 * md) with hlt | hge <;> rcases Nat.lt_or_ge j (21 + 2 * md) with hlj | hgj
    · rw [(pold i hlt).2.1, (pold j hlj).2.1] at hij; exact h.1.2.2 i j hlt hlj hij
    · rw [(pold i hlt).2.1] at hij
      by_cases h1 : j = 21 + 2 * md
      · subst h1; rw [pn1.2.1] at hij; exact absurd hij (pa0 i hlt _ w2).2
      · have h2 : j = 22 + 2 * md := by omega
        subst h2; rw [va_up_self] at hij; exact absurd hij (pa0 i hlt _ w4).2
    · rw [(pold j hlj).2.1] at hij
      by_cases h1 : i = 21 + 2 * md
      · subst h1; rw [pn1.2.1] at hij; exact absurd hij.symm (pa0 j hlj _ w2).2
      · have h2 : i = 22 + 2 * md := by omega
        subst h2; rw [va_up_self] at hij; exact absurd hij.symm (pa0 j hlj _ w4).2
    · by_cases h1 : i = 21 + 2 * md <;> by_cases h2 : j = 21 + 2 * md
      · omega
      · have h3 : j = 22 + 2 * md := by omega
        subst h1; subst h3; rw [pn1.2.1, va_up_self] at hij; exact absurd hij.symm d9
      · have h3 : i = 22 + 2 * md := by omega
        subst h2; subst h3; rw [pn1.2.1, va_up_self] at hij; exact absurd hij d9
      · omega
  · rw [(pold 0 (by omega)).1, (pold 1 (by omega)).1, (pold 2 (by omega)).1, (pold 3 (by omega)).1, (pold 4 (by omega)).1, (pold 5 (by omega)).1, (pold 6 (by omega)).1]
    unfold xnew; rw [xu_s]
  · unfold xnew; rw [xu_n _ _ a01, xu_s]
  · by_cases hkm : k = md
    · subst hkm; rw [va_up_self, va_up_self]
    · rw [va_up_ne _ _ hkm, va_up_ne _ _ hkm]; exact f2 k (by omega)
  · rw [va_up_ne _ _ (by omega)]; exact f3 k (by omega) h2
  · by_cases hkm : k = md
    · subst hkm
      rw [va_up_self, pn1.1, va_up_self]
      unfold xnew; rw [xu_n _ _ (n0 q (by simp)).1, xu_n _ _ (n0 q (by simp)).2, xu_s]
    · rw [va_up_ne _ _ hkm, (pold (21 + 2 * k) (by omega)).1, (pold (22 + 2 * k) (by omega)).1]
      have hfo := h.fo k (by omega)
      exact o _ _ hfo (x_ne hfo h.x (fun z => by simp at z)) (x_ne hfo f1 (fun z => by simp at z))
  · rw [(pold 16 (by omega)).1, (pold 17 (by omega)).1, (pold 18 (by omega)).1, (pold 19 (by omega)).1, (pold 20 (by omega)).1]
    exact o _ _ h.q (x_ne h.q h.x (fun z => by simp at z)) (x_ne h.q f1 (fun z => by simp at z))
  · exact o _ _ c1 (x_ne c1 h.x (fun z => by simp at z)) (x_ne c1 f1 (fun z => by simp at z))
  · rw [(pold (7 + k) (by omega)).1]; exact c2 k hk
  · exact o _ _ h.qo (x_ne h.qo h.x (fun z => by simp at z)) (x_ne h.qo f1 (fun z => by simp at z))
  · exact o _ _ h.tk (x_ne h.tk h.x (fun z => by simp at z)) (x_ne h.tk f1 (fun z => by simp at z))
  · rcases Nat.lt_or_ge i (21 + 2 * md) with hlt | hge
    · rw [(pold i hlt).2.1]; exact h.2.2.1.1 i hlt
    · by_cases h1 : i = 21 + 2 * md
      · subst h1; rw [pn1.2.1]
        exact ⟨Ne.symm (x_nn h.qo w2), Ne.symm (x_nn h.tk w2)⟩
      · have h2 : i = 22 + 2 * md := by omega
        subst h2; rw [va_up_self]
        exact ⟨Ne.symm (x_nn h.qo w4), Ne.symm (x_nn h.tk w4)⟩
  · obtain ⟨z1, z2, z3, z4, z5, z6⟩ := h.2.2.1.2.2 a e he
    obtain ⟨y1, y2, y3, y4, y5⟩ := fre a e z1
    refine ⟨o a e z1 z2 z3, z2, z3, z4, z5, fun i hi => ?_⟩
    rcases Nat.lt_or_ge i (21 + 2 * md) with hlt | hge
    · rw [(pold i hlt).1, (pold i hlt).2.1]; exact z6 i hlt
    · by_cases h1 : i = 21 + 2 * md
      · subst h1; rw [pn1.1, pn1.2.1]; exact ⟨y2, y3⟩
      · have h2 : i = 22 + 2 * md := by omega
        subst h2; rw [va_up_self, va_up_self]; exact ⟨y4, y5⟩
  · exact ⟨by rw [(pold 0 (by omega)).2.2.1]; exact h.2.2.2.1.1, by rw [(pold 1 (by omega)).2.2.1]; exact h.2.2.2.1.2.1, fun i h1 h2 => by rw [(pold i (by omega)).2.2.1]; exact h.2.2.2.1.2.2 i h1 h2⟩
end XCN
theorem xel_ok (n : Nat) (z : xES) : (∀ i, i < 7 ∨ 17 ≤ i → (xel n z).1 i = z.1 i) ∧ ∀ k e, k < n → (xel n z).2.1 k = some e → e < 64 := by
  induction n with
  | zero => exact ⟨fun _ _ => rfl, fun k e hk => absurd hk (by omega)⟩
  | succ n ih =>
    show (∀ i, i < 7 ∨ 17 ≤ i → (xelS n (xel n z)).1 i = z.1 i) ∧ ∀ k e, k < n + 1 → (xelS n (xel n z)).2.1 k = some e → e < 64
    cases h : xfu (xel n z).2.2 ((xel n z).1 (7 + n)) with
    | none =>
      rw [xelS_none h]
      refine ⟨ih.1, fun k e hk he => ?_⟩
      dsimp only at he
      by_cases hkn : k = n
      · subst hkn; rw [va_up_self] at he; cases he
      · rw [va_up_ne _ _ hkn] at he; exact ih.2 k e (by omega) he
    | some e0 =>
      rw [xelS_some h]
      refine ⟨fun i hi => ?_, fun k e hk he => ?_⟩
      · show xsol (xel n z).1 n e0 i = z.1 i
        unfold xsol; rw [if_neg (by omega)]; exact ih.1 i hi
      · dsimp only at he
        by_cases hkn : k = n
        · subst hkn; rw [va_up_self] at he; cases he; exact (xfu_some h).1
        · rw [va_up_ne _ _ hkn] at he; exact ih.2 k e (by omega) he
