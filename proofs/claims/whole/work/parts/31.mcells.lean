/-! ===== the reference's cells =====
rows of longs by numbers: 0 a, 1 b, 2 c, 3 d, 4 e, 5 x, 6 y, 7 quotient, 8 q1, 9 q2, 10 q3, 11 the table; rows of ints: 0 tops, 1 bottoms, 2 ratioTop, 3 ratioBottom; rq: row -/
def xlc (i : Nat) : Nat := if i = 11 then 640 else 64
def xic (i : Nat) : Nat := if i < 2 then 1050 else 4
abbrev xMf (la ia : Nat → Nat) (rq : Nat) (co : Int32) (mn : Nat) (me : Int32) : List Value := [.int co, .int (nI mn), .ref (ia 0), .ref (ia 1), .ref (ia 2), .ref (ia 3), .ref (la 0), .ref (la 1), .ref (la 2), .ref (la 3), .ref (la 4), .ref (la 5), .ref (la 6), .ref (la 7), .ref (la 11), .ref rq, .ref (la 8), .ref (la 9), .ref (la 10), .int me]
def xML (G : xG) (w : xM) (mo : Nat) (la ia : Nat → Nat) (rq : Nat) (co : Int32) (mn : Nat) (im lr : Nat → xP) (ro : Nat → Option Nat) (me : Int32) (wr : xM) : Prop :=
  w mo = some (.inr (4, xMf la ia rq co mn me)) ∧ (∀ i, i < 4 → w (ia i) = some (xIr G (xic i) (im i)) ∧ xsup (im i) (xic i)) ∧ (∀ i, i < 12 → w (la i) = some (xJr G (xlc i) (lr i)) ∧ xsup (lr i) (xlc i)) ∧
  w rq = some (.inl (G.2 0, 9, .inl (xeo ro))) ∧ (∀ i j, i < 4 → j < 4 → ia i = ia j → i = j) ∧ (∀ i j, i < 12 → j < 12 → la i = la j → i = j) ∧ mn ≤ 50 ∧
  ∀ (a : Nat) (e : va_E), wr a = some e → w a = some e ∧ a ≠ mo ∧ (∀ i, i < 4 → a ≠ ia i) ∧ (∀ i, i < 12 → a ≠ la i) ∧ a ≠ rq
section XML
variable {G : xG} {w : xM} {mo : Nat} {la ia : Nat → Nat} {rq : Nat} {co : Int32} {mn : Nat} {im lr : Nat → xP} {ro : Nat → Option Nat} {me : Int32} {wr : xM}
theorem xML.o (h : xML G w mo la ia rq co mn im lr ro me wr) : w mo = some (.inr (4, xMf la ia rq co mn me)) := h.1
theorem xML.i (h : xML G w mo la ia rq co mn im lr ro me wr) (i : Nat) (hi : i < 4) {f : xP} (e : im i = f) : w (ia i) = some (xIr G (xic i) f) := e ▸ (h.2.1 i hi).1
theorem xML.r (h : xML G w mo la ia rq co mn im lr ro me wr) (i : Nat) (hi : i < 11) {f : xP} (e : lr i = f) : w (la i) = some (xJr G 64 f) := by
  have := (h.2.2.1 i (by omega)).1
  rw [e] at this
  unfold xlc at this
  rw [if_neg (by omega)] at this
  exact this
theorem xML.rs (h : xML G w mo la ia rq co mn im lr ro me wr) (i : Nat) (hi : i < 11) {f : xP} (e : lr i = f) : xsup f 64 := by
  have := (h.2.2.1 i (by omega)).2
  rw [e] at this
  unfold xlc at this
  rw [if_neg (by omega)] at this
  exact this
theorem xML.t (h : xML G w mo la ia rq co mn im lr ro me wr) {f : xP} (e : lr 11 = f) : w (la 11) = some (xJr G 640 f) := e ▸ (h.2.2.1 11 (by omega)).1
theorem xML.rr (h : xML G w mo la ia rq co mn im lr ro me wr) : w rq = some (.inl (G.2 0, 9, .inl (xeo ro))) := h.2.2.2.1
theorem xML.ln (h : xML G w mo la ia rq co mn im lr ro me wr) {i j : Nat} (hi : i < 12) (hj : j < 12) (hne : i ≠ j) : la i ≠ la j := fun q => hne (h.2.2.2.2.2.1 i j hi hj q)
theorem xML.m50 (h : xML G w mo la ia rq co mn im lr ro me wr) : mn ≤ 50 := h.2.2.2.2.2.2.1
/-- a row of longs is written -/
theorem xML.set (h : xML G w mo la ia rq co mn im lr ro me wr) {i n : Nat} (hi : i < 12) (hn : xlc i = n) {f : xP} (hf : xsup f n) : xML G (xu w (la i) (xJr G n f)) mo la ia rq co mn im (va_up lr i f) ro me wr := by
  subst hn
  have hp := (h.2.2.1 i hi).1
  have o : ∀ a e, w a = some e → (∀ q, e ≠ xJr G (xlc i) q) → xu w (la i) (xJr G (xlc i) f) a = some e := fun a e he h1 => by
    rw [xu_n _ _ (x_ne he hp (h1 _))]; exact he
  refine ⟨o _ _ h.1 (fun q z => by simp [xJr] at z), fun j hj => ⟨o _ _ (h.2.1 j hj).1 (fun q z => by simp [xJr, xIr] at z), (h.2.1 j hj).2⟩, fun j hj => ?_, o _ _ h.rr (fun q z => by simp [xJr] at z), h.2.2.2.2.1, h.2.2.2.2.2.1, h.m50, fun a e he => ?_⟩
  · by_cases hij : j = i
    · subst hij; rw [va_up_self]; exact ⟨xu_s _ _ _, hf⟩
    · rw [va_up_ne _ _ hij]; exact ⟨(xu_n _ _ (h.ln hj hi hij)).trans (h.2.2.1 j hj).1, (h.2.2.1 j hj).2⟩
  · have z := h.2.2.2.2.2.2.2 a e he
    exact ⟨(xu_n _ _ (z.2.2.2.1 i hi)).trans z.1, z.2⟩
/-- a row of ints is written -/
theorem xML.setI (h : xML G w mo la ia rq co mn im lr ro me wr) {i n : Nat} (hi : i < 4) (hn : xic i = n) {f : xP} (hf : xsup f n) : xML G (xu w (ia i) (xIr G n f)) mo la ia rq co mn (va_up im i f) lr ro me wr := by
  subst hn
  have hp := (h.2.1 i hi).1
  have o : ∀ a e, w a = some e → (∀ q, e ≠ xIr G (xic i) q) → xu w (ia i) (xIr G (xic i) f) a = some e := fun a e he h1 => by
    rw [xu_n _ _ (x_ne he hp (h1 _))]; exact he
  have h9 : xic i ≠ 9 := by unfold xic; split <;> omega
  refine ⟨o _ _ h.1 (fun q z => by simp [xIr] at z), fun j hj => ?_, fun j hj => ⟨o _ _ (h.2.2.1 j hj).1 (fun q z => by simp [xJr, xIr] at z), (h.2.2.1 j hj).2⟩, o _ _ h.rr (fun q z => by simp [xIr] at z; exact h9 z.1.symm), h.2.2.2.2.1, h.2.2.2.2.2.1, h.m50, fun a e he => ?_⟩
  · by_cases hij : j = i
    · subst hij; rw [va_up_self]; exact ⟨xu_s _ _ _, hf⟩
    · rw [va_up_ne _ _ hij]; exact ⟨(xu_n _ _ (fun q => hij (h.2.2.2.2.1 j i hj hi q))).trans (h.2.1 j hj).1, (h.2.1 j hj).2⟩
  · have z := h.2.2.2.2.2.2.2 a e he
    exact ⟨(xu_n _ _ (z.2.2.1 i hi)).trans z.1, z.2⟩
/-- row is written -/
theorem xML.setR (h : xML G w mo la ia rq co mn im lr ro me wr) (ro' : Nat → Option Nat) : xML G (xu w rq (.inl (G.2 0, 9, .inl (xeo ro')))) mo la ia rq co mn im lr ro' me wr := by
  have hp := h.rr
  have o : ∀ a e, w a = some e → (∀ q, e ≠ .inl (G.2 0, 9, .inl q)) → xu w rq (.inl (G.2 0, 9, .inl (xeo ro'))) a = some e := fun a e he h1 => by
    rw [xu_n _ _ (x_ne he hp (h1 _))]; exact he
  refine ⟨o _ _ h.1 (fun q z => by simp at z), fun j hj => ⟨o _ _ (h.2.1 j hj).1 (fun q z => ?_), (h.2.1 j hj).2⟩, fun j hj => ⟨o _ _ (h.2.2.1 j hj).1 (fun q z => by simp [xJr] at z), (h.2.2.1 j hj).2⟩, xu_s _ _ _, h.2.2.2.2.1, h.2.2.2.2.2.1, h.m50, fun a e he => ?_⟩
  · simp [xIr] at z
    have := z.1
    unfold xic at this
    split at this <;> omega
  · have z := h.2.2.2.2.2.2.2 a e he
    exact ⟨(xu_n _ _ z.2.2.2.2).trans z.1, z.2⟩
/-- the object is written -/
theorem xML.setO (h : xML G w mo la ia rq co mn im lr ro me wr) (co' : Int32) (mn' : Nat) (me' : Int32) (hm : mn' ≤ 50) : xML G (xu w mo (.inr (4, xMf la ia rq co' mn' me'))) mo la ia rq co' mn' im lr ro me' wr := by
  have hp := h.o
  have o : ∀ a e, w a = some e → (∀ q, e ≠ .inr (4, q)) → xu w mo (.inr (4, xMf la ia rq co' mn' me')) a = some e := fun a e he h1 => by
    rw [xu_n _ _ (x_ne he hp (h1 _))]; exact he
  refine ⟨xu_s _ _ _, fun j hj => ⟨o _ _ (h.2.1 j hj).1 (fun q z => by simp [xIr] at z), (h.2.1 j hj).2⟩, fun j hj => ⟨o _ _ (h.2.2.1 j hj).1 (fun q z => by simp [xJr] at z), (h.2.2.1 j hj).2⟩, o _ _ h.rr (fun q z => by simp at z), h.2.2.2.2.1, h.2.2.2.2.2.1, hm, fun a e he => ?_⟩
  have z := h.2.2.2.2.2.2.2 a e he
  exact ⟨(xu_n _ _ z.2.1).trans z.1, z.2⟩
end XML
/-! numbers as the reference compares them -/
theorem xJ_pos {x : xF} : 0 < xJ x ↔ x ≠ 0 := by
  have h := pk_lLT (a := 0) (b := x.val) (by decide) (by have := x.isLt; omega)
  constructor
  · intro q z; subst z; exact absurd q (by decide)
  · intro q
    have h0 : 0 < x.val := Nat.pos_of_ne_zero fun z => q (Fin.ext z)
    exact h.mpr h0
theorem x_in {x : Int32} {k : Nat} (hk : k < 2 ^ 30) : (0 ≤ x.toInt64 ∧ x.toInt64 ≤ lN k) ↔ xIs (k + 1) x := by
  rw [Int64.le_iff_toInt_le, Int64.le_iff_toInt_le, Int32.toInt_toInt64, pk_lT (by omega), show (0 : Int64).toInt = 0 by decide]
  constructor
  · rintro ⟨h1, h2⟩
    obtain ⟨j, hj, rfl⟩ := nI_of (x := x) (fun q => by
      have := Int32.lt_iff_toInt_lt.mp q
      rw [show (0 : Int32).toInt = 0 by decide] at this
      omega)
    rw [nI_toInt hj] at h2
    exact ⟨j, by omega, rfl⟩
  · rintro ⟨j, hj, rfl⟩
    rw [nI_toInt (by omega)]; omega
theorem x_in1 {x : Int32} {k : Nat} (hk : k < 2 ^ 30) : (0 ≤ x.toInt64 ∧ x.toInt64 ≤ (nI k - 1).toInt64) ↔ xIs k x := by
  cases k with
  | zero =>
    constructor
    · rintro ⟨h1, h2⟩
      have := Int64.le_trans h1 h2
      exact absurd this (by decide)
    · rintro ⟨j, hj, _⟩; omega
  | succ k => rw [x_m1, nI_l (by omega)]; exact x_in (by omega)
/-- what load leaves -/
def xld (f : xP) (a n : Nat) : xP := fun k => if k < n then f (a + k) else 0
def xldk (f : xP) (a n j : Nat) (g : xP) : xP := fun k => if k < j then xld f a n k else g k
theorem xldk_0 (f : xP) (a n : Nat) (g : xP) : xldk f a n 0 g = g := by funext k; unfold xldk; rw [if_neg (by omega)]
theorem xldk_s (f : xP) (a n j : Nat) (g : xP) : va_up (xldk f a n j g) j (xld f a n j) = xldk f a n (j + 1) g := by
  funext k
  by_cases hk : k = j
  · subst hk; rw [va_up_self]; unfold xldk; rw [if_pos (by omega)]
  · rw [va_up_ne _ _ hk]; unfold xldk
    by_cases h2 : k < j
    · rw [if_pos h2, if_pos (by omega)]
    · rw [if_neg h2, if_neg (by omega)]
theorem xld_sup (f : xP) (a : Nat) {n m : Nat} (h : n ≤ m) : xsup (xld f a n) m := fun k hk => by unfold xld; rw [if_neg (by omega)]
theorem xldk_64 {f g : xP} {a n : Nat} (hn : n ≤ 64) (hg : xsup g 64) : xldk f a n 64 g = xld f a n := by
  funext k; unfold xldk
  by_cases h : k < 64
  · rw [if_pos h]
  · rw [if_neg h, hg k (by omega)]; unfold xld; rw [if_neg (by omega)]
/-- the first j of f, then g -/
def xmix (f g : xP) (j : Nat) : xP := fun k => if k < j then f k else g k
theorem xmix_0 (f g : xP) : xmix f g 0 = g := by funext k; unfold xmix; rw [if_neg (by omega)]
theorem xmix_s (f g : xP) (j : Nat) : va_up (xmix f g j) j (f j) = xmix f g (j + 1) := by
  funext k
  by_cases hk : k = j
  · subst hk; rw [va_up_self]; unfold xmix; rw [if_pos (by omega)]
  · rw [va_up_ne _ _ hk]; unfold xmix
    by_cases h2 : k < j
    · rw [if_pos h2, if_pos (by omega)]
    · rw [if_neg h2, if_neg (by omega)]
theorem xmix_e {f g : xP} {n : Nat} (hf : xsup f n) (hg : xsup g n) : xmix f g n = f := by
  funext k; unfold xmix
  by_cases h : k < n
  · rw [if_pos h]
  · rw [if_neg h, hg k (by omega), hf k (by omega)]
theorem xmix_sup {f g : xP} {n : Nat} (hf : xsup f n) (hg : xsup g n) (j : Nat) : xsup (xmix f g j) n := fun k hk => by
  unfold xmix; rw [hf k hk, hg k hk]; split <;> rfl
theorem xmix_at (f g : xP) (j : Nat) : xmix f g j j = g j := by unfold xmix; rw [if_neg (by omega)]
