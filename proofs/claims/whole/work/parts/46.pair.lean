/-! ===== the class and the reference side by side in one world ===== -/
/-- the class's cells -/
def xCD (pa ra fr ad : Nat → Nat) (md a : Nat) : Prop := (∃ i, i < 21 + 2 * md ∧ (a = pa i ∨ a = ra i)) ∨ (∃ k, k < md ∧ a = fr k) ∨ ∃ j, j < 6 ∧ a = ad j
/-- the reference's cells -/
def xMD (mo : Nat) (la ia : Nat → Nat) (rq a : Nat) : Prop := a = mo ∨ (∃ i, i < 4 ∧ a = ia i) ∨ (∃ i, i < 12 ∧ a = la i) ∨ a = rq
theorem xoff_ex (D : Nat → Prop) (w : xM) : ∃ wr : xM, (∀ (a : Nat) (e : va_E), wr a = some e → w a = some e ∧ ¬ D a) ∧ ∀ (a : Nat) (e : va_E), w a = some e → ¬ D a → wr a = some e := by
  refine ⟨fun a => @ite _ (D a) (Classical.propDecidable _) none (w a), fun a e h => ?_, fun a e h hd => ?_⟩
  · dsimp only at h
    by_cases hd : D a
    · rw [if_pos hd] at h; cases h
    · rw [if_neg hd] at h; exact ⟨h, hd⟩
  · dsimp only; rw [if_neg hd]; exact h
/-- a cell of another kind than a Fraction, an Equations or a row of objects -/
def xkd (e : va_E) : Prop := (∀ fs, e ≠ .inr (0, fs)) ∧ (∀ fs, e ≠ .inr (1, fs)) ∧ ∀ c n f, e ≠ .inl (c, n, xq f)
/-- the row that the law hands over for an answer -/
abbrev xOc (G : xG) (fo : Nat → Int64) : va_E := .inl (G.2 1, 1, .inr (.inl fo))
theorem xkd_J {c : ClassId} {n : Nat} {f : Nat → Int64} : xkd (.inl (c, n, .inr (.inl f))) := ⟨fun fs z => (by cases z), fun fs z => (by cases z), fun c n f z => by simp at z⟩
theorem xkd_I {c : ClassId} {n : Nat} {f : Nat → Int32} : xkd (.inl (c, n, .inl f)) := ⟨fun fs z => (by cases z), fun fs z => (by cases z), fun c n f z => by simp at z⟩
theorem xkd_4 {fs : List Value} : xkd (.inr (4, fs)) := ⟨fun fs z => (by simp at z), fun fs z => (by simp at z), fun c n f z => by cases z⟩
section XPR
variable {G : xG} {w u : xM} {mo : Nat} {la ia : Nat → Nat} {rq : Nat} {co : Int32} {mn : Nat} {im lr : Nat → xP} {ro : Nat → Option Nat} {me : Int32} {wr wr2 : xM} {pa ra cp fr ad : Nat → Nat} {md : Nat} {ps : Nat → xP} {eo : Nat → Option Nat} {tb : Nat → Bool} {h O : Nat}
theorem xML.ex (q : xML G w mo la ia rq co mn im lr ro me wr) {a : Nat} (ha : xMD mo la ia rq a) : ∃ e, w a = some e ∧ xkd e := by
  rcases ha with rfl | ⟨i, hi, rfl⟩ | ⟨i, hi, rfl⟩ | rfl
  · exact ⟨_, q.1, xkd_4⟩
  · exact ⟨_, (q.2.1 i hi).1, xkd_I⟩
  · exact ⟨_, (q.2.2.1 i hi).1, xkd_J⟩
  · exact ⟨_, q.2.2.2.1, xkd_I⟩
theorem xML.keep (q : xML G w mo la ia rq co mn im lr ro me wr) (hk : ∀ a, xMD mo la ia rq a → u a = w a) (hw : ∀ (a : Nat) (e : va_E), wr2 a = some e → u a = some e ∧ ¬ xMD mo la ia rq a) : xML G u mo la ia rq co mn im lr ro me wr2 :=
  ⟨(hk _ (Or.inl rfl)).trans q.1, fun i hi => ⟨(hk _ (Or.inr (Or.inl ⟨i, hi, rfl⟩))).trans (q.2.1 i hi).1, (q.2.1 i hi).2⟩, fun i hi => ⟨(hk _ (Or.inr (Or.inr (Or.inl ⟨i, hi, rfl⟩)))).trans (q.2.2.1 i hi).1, (q.2.2.1 i hi).2⟩, (hk _ (Or.inr (Or.inr (Or.inr rfl)))).trans q.2.2.2.1, q.2.2.2.2.1, q.2.2.2.2.2.1, q.2.2.2.2.2.2.1,
    fun a e he => ⟨(hw a e he).1, fun z => (hw a e he).2 (Or.inl z), fun i hi z => (hw a e he).2 (Or.inr (Or.inl ⟨i, hi, z⟩)), fun i hi z => (hw a e he).2 (Or.inr (Or.inr (Or.inl ⟨i, hi, z⟩))), fun z => (hw a e he).2 (Or.inr (Or.inr (Or.inr z)))⟩⟩
theorem xML.rest (q : xML G w mo la ia rq co mn im lr ro me wr) {a : Nat} {e : va_E} (he : wr a = some e) : w a = some e := (q.2.2.2.2.2.2.2 a e he).1
theorem xCL.rest (q : xCL G w pa ra cp fr ad md ps eo tb wr) {a : Nat} {e : va_E} (he : wr a = some e) : w a = some e := (q.2.2.1.2.2 a e he).1
theorem xCL.ex (q : xCL G w pa ra cp fr ad md ps eo tb wr) {a : Nat} (ha : xCD pa ra fr ad md a) : ∃ e, w a = some e := by
  rcases ha with ⟨i, hi, rfl | rfl⟩ | ⟨k, hk, rfl⟩ | ⟨j, hj, rfl⟩
  · exact ⟨_, (q.p i hi).1⟩
  · exact ⟨_, (q.p i hi).2.1⟩
  · exact ⟨_, q.fo k hk⟩
  · rcases (show j = 0 ∨ j = 1 ∨ j = 2 ∨ j = 3 ∨ j = 4 ∨ j = 5 by omega) with rfl | rfl | rfl | rfl | rfl | rfl
    · exact ⟨_, q.x⟩
    · obtain ⟨ff, hff, -⟩ := q.ff; exact ⟨_, hff⟩
    · exact ⟨_, q.q⟩
    · obtain ⟨cf, hcf, -⟩ := q.cf; exact ⟨_, hcf⟩
    · exact ⟨_, q.qo⟩
    · exact ⟨_, q.tk⟩
theorem xCL.keep (q : xCL G w pa ra cp fr ad md ps eo tb wr) (hk : ∀ a, xCD pa ra fr ad md a → u a = w a) (hw : ∀ (a : Nat) (e : va_E), wr2 a = some e → u a = some e ∧ ¬ xCD pa ra fr ad md a) : xCL G u pa ra cp fr ad md ps eo tb wr2 := by
  have ka : ∀ j, j < 6 → u (ad j) = w (ad j) := fun j hj => hk _ (Or.inr (Or.inr ⟨j, hj, rfl⟩))
  refine ⟨⟨fun i hi => ?_, q.1.2⟩, ⟨?_, ?_, fun k h9 => ?_, ?_, ?_, ?_, ?_⟩, ⟨q.2.2.1.1, q.2.2.1.2.1, fun a e he => ?_⟩, q.2.2.2⟩
  · have z := q.p i hi
    exact ⟨(hk _ (Or.inl ⟨i, hi, Or.inl rfl⟩)).trans z.1, (hk _ (Or.inl ⟨i, hi, Or.inr rfl⟩)).trans z.2.1, z.2.2⟩
  · exact (ka 0 (by decide)).trans q.x
  · obtain ⟨ff, hff, h2⟩ := q.ff; exact ⟨ff, (ka 1 (by decide)).trans hff, h2⟩
  · exact (hk _ (Or.inr (Or.inl ⟨k, h9, rfl⟩))).trans (q.fo k h9)
  · exact (ka 2 (by decide)).trans q.q
  · obtain ⟨cf, hcf, h2⟩ := q.cf; exact ⟨cf, (ka 3 (by decide)).trans hcf, h2⟩
  · exact (ka 4 (by decide)).trans q.qo
  · exact (ka 5 (by decide)).trans q.tk
  · have z := hw a e he
    exact ⟨z.1, fun y => z.2 (Or.inr (Or.inr ⟨0, by decide, y⟩)), fun y => z.2 (Or.inr (Or.inr ⟨1, by decide, y⟩)), fun y => z.2 (Or.inr (Or.inr ⟨4, by decide, y⟩)), fun y => z.2 (Or.inr (Or.inr ⟨5, by decide, y⟩)), fun i hi => ⟨fun y => z.2 (Or.inl ⟨i, hi, Or.inl y⟩), fun y => z.2 (Or.inl ⟨i, hi, Or.inr y⟩)⟩⟩
theorem xCL.off (q : xCL G w pa ra cp fr ad md ps eo tb wr) {a : Nat} {e : va_E} (he : wr a = some e) (hk : xkd e) : ¬ xCD pa ra fr ad md a := fun ha => by
  obtain ⟨z0, z1, z2, z3, z4, z5⟩ := q.2.2.1.2.2 a e he
  rcases ha with ⟨i, hi, y⟩ | ⟨k, hk9, rfl⟩ | ⟨j, hj, rfl⟩
  · rcases y with y | y
    · exact (z5 i hi).1 y
    · exact (z5 i hi).2 y
  · have := q.fo k hk9; rw [z0] at this; cases this; exact hk.2.1 _ rfl
  · rcases (show j = 0 ∨ j = 1 ∨ j = 2 ∨ j = 3 ∨ j = 4 ∨ j = 5 by omega) with rfl | rfl | rfl | rfl | rfl | rfl
    · exact z1 rfl
    · exact z2 rfl
    · have := q.q; rw [z0] at this; cases this; exact hk.1 _ rfl
    · obtain ⟨cf, hcf, -⟩ := q.cf; rw [z0] at hcf; cases hcf; exact hk.2.2 _ _ _ rfl
    · exact z3 rfl
    · exact z4 rfl
/-- both, and the row for answers -/
def xPair (G : xG) (w : xM) (h mo O : Nat) (pa ra cp fr ad : Nat → Nat) (md : Nat) (ps : Nat → xP) (la ia : Nat → Nat) (rq mn : Nat) (im : Nat → xP) : Prop :=
  (∃ eo tb wr, xCL G w pa ra cp fr ad md ps eo tb wr) ∧ (∃ co lr ro me wr, xML G w mo la ia rq co mn im lr ro me wr) ∧ ad 0 = h ∧ (∀ a, xMD mo la ia rq a → ¬ xCD pa ra fr ad md a) ∧ ¬ xCD pa ra fr ad md O ∧ ¬ xMD mo la ia rq O ∧ ∃ fo, w O = some (xOc G fo)
/-- what holds at the head of the law's loop -/
def xInv (G : xG) (w : xM) (h mo O : Nat) : Prop := ∃ (pa ra cp fr ad : Nat → Nat) (md : Nat) (ps : Nat → xP) (la ia : Nat → Nat) (rq : Nat) (im : Nat → xP), xPair G w h mo O pa ra cp fr ad md ps la ia rq md im ∧ xTie md ps im
/-- what holds behind both calls: k the class's way to end, b the reference's answer -/
def xDone (G : xG) (w : xM) (h mo O : Nat) (k : Int32) (b : Int64) : Prop := ∃ (pa ra cp fr ad : Nat → Nat) (md : Nat) (ps : Nat → xP) (la ia : Nat → Nat) (rq : Nat) (im : Nat → xP) (co : Int32) (fo : Nat → Int64),
  xPair G w h mo O pa ra cp fr ad md ps la ia rq md im ∧ xTie md ps im ∧ (∃ lr ro me wr, xML G w mo la ia rq co md im lr ro me wr) ∧ co = k ∧ w O = some (xOc G fo) ∧ (k = 0 → fo 0 = b)
theorem xDone.inv {k : Int32} {b : Int64} (q : xDone G w h mo O k b) : xInv G w h mo O := by
  obtain ⟨pa, ra, cp, fr, ad, md, ps, la, ia, rq, im, co, fo, q1, q2, -⟩ := q
  exact ⟨pa, ra, cp, fr, ad, md, ps, la, ia, rq, im, q1, q2⟩
theorem xPair.c (q : xPair G w h mo O pa ra cp fr ad md ps la ia rq mn im) : ∃ (eo : Nat → Option Nat) (tb : Nat → Bool) (wr : xM) (fo : Nat → Int64), xCL G w pa ra cp fr ad md ps eo tb wr ∧ wr O = some (xOc G fo) ∧ ∀ (a : Nat) (e : va_E), w a = some e → ¬ xCD pa ra fr ad md a → wr a = some e := by
  obtain ⟨⟨eo, tb, w0, hC⟩, -, -, -, hO, -, fo, hfo⟩ := q
  obtain ⟨wr, h1, h2⟩ := xoff_ex (xCD pa ra fr ad md) w
  exact ⟨eo, tb, wr, fo, hC.keep (fun _ _ => rfl) h1, h2 _ _ hfo hO, h2⟩
theorem xPair.x (q : xPair G w h mo O pa ra cp fr ad md ps la ia rq mn im) (hwr : ∀ (a : Nat) (e : va_E), w a = some e → ¬ xCD pa ra fr ad md a → wr a = some e) (hs : ∀ (a : Nat) (e : va_E), wr a = some e → a ≠ O → u a = some e) :
    ∃ (co : Int32) (lr : Nat → xP) (ro : Nat → Option Nat) (me : Int32) (wr2 : xM), xML G u mo la ia rq co mn im lr ro me wr2 ∧ ∀ (a : Nat) (e : va_E), u a = some e → ¬ xMD mo la ia rq a → wr2 a = some e := by
  obtain ⟨-, ⟨co, lr, ro, me, w0, hM⟩, -, hsep, -, hO, -⟩ := q
  obtain ⟨wr2, h1, h2⟩ := xoff_ex (xMD mo la ia rq) u
  refine ⟨co, lr, ro, me, wr2, hM.keep (fun a ha => ?_) h1, h2⟩
  obtain ⟨e, he, -⟩ := hM.ex ha
  rw [he]
  exact hs a e (hwr a e he (hsep a ha)) (fun z => hO (z ▸ ha))
theorem xPair.fin (q : xPair G w h mo O pa ra cp fr ad md ps la ia rq md im) (hwr : ∀ (a : Nat) (e : va_E), w a = some e → ¬ xCD pa ra fr ad md a → wr a = some e) {u0 u' : xM} {pa' ra' cp' fr' : Nat → Nat} {md' : Nat} {ps' im' : Nat → xP} {fo0 fo : Nat → Int64} (hO : wr O = some (xOc G fo0))
    (hc : xCL G u0 pa' ra' cp' fr' ad md' ps' eo tb wr) (hu : u = u0 ∨ u = xu u0 O (xOc G fo)) (hw2 : ∀ (a : Nat) (e : va_E), u a = some e → ¬ xMD mo la ia rq a → wr2 a = some e) (hm : xMK G mo la ia rq co md' im' wr2 u') (hT : xTie md' ps' im') {k : Int32} {b : Int64} (hk : co = k) (hv : k = 0 → u = xu u0 O (xOc G fo) ∧ fo 0 = b) : xDone G u' h mo O k b := by
  obtain ⟨-, ⟨c0, l0, r0, m0, w0, hM⟩, hh, hsep, -, hOM, -⟩ := q
  obtain ⟨lr, ro, me, hm⟩ := hm
  have hOC : ¬ xCD pa' ra' fr' ad md' O := hc.off hO xkd_J
  have hs : ∀ a, xMD mo la ia rq a → ¬ xCD pa' ra' fr' ad md' a := fun a ha => by
    obtain ⟨e, he, hke⟩ := hM.ex ha
    exact hc.off (hwr a e he (hsep a ha)) hke
  have e0 : ∀ a, xCD pa' ra' fr' ad md' a → u' a = u0 a := fun a ha => by
    obtain ⟨e, he⟩ := hc.ex ha
    have hue : u a = some e := by
      rcases hu with rfl | rfl
      · exact he
      · exact (xu_n _ _ (fun (z : a = O) => hOC (z ▸ ha))).trans he
    rw [he]
    exact hm.rest (hw2 a e hue (fun z => hs a z ha))
  have hOu : ∃ f9, u O = some (xOc G f9) ∧ (k = 0 → f9 0 = b) := by
    rcases hu with rfl | rfl
    · by_cases hk0 : k = 0
      · obtain ⟨z1, z2⟩ := hv hk0
        exact ⟨fo, by rw [z1]; exact xu_s _ _ _, fun _ => z2⟩
      · exact ⟨fo0, hc.rest hO, fun z => absurd z hk0⟩
    · exact ⟨fo, xu_s _ _ _, fun z => (hv z).2⟩
  obtain ⟨f9, hf9, hfv⟩ := hOu
  have hO' : u' O = some (xOc G f9) := hm.rest (hw2 O _ hf9 hOM)
  exact ⟨pa', ra', cp', fr', ad, md', ps', la, ia, rq, im', co, f9, ⟨⟨eo, tb, fun _ => none, hc.keep e0 (fun a e z => by cases z)⟩, ⟨co, lr, ro, me, wr2, hm⟩, hh, hs, hOC, hOM, f9, hO'⟩, hT, ⟨lr, ro, me, wr2, hm⟩, hk, hO', hfv⟩
end XPR
