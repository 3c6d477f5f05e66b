/-! ===== what the reference's constructor builds; its answers about certificates ===== -/
def xBr (h : Nat) (w wr : xM) (ad : Nat → Nat) (el : Nat → va_E) (N : Nat) : Prop :=
  (∀ i, i < N → w (ad i) = some (el i) ∧ ad i ≠ h) ∧ (∀ i j, i < N → j < N → ad i = ad j → i = j) ∧ ∀ (a : Nat) (e : va_E), wr a = some e → w a = some e ∧ a ≠ h ∧ ∀ i, i < N → a ≠ ad i
section XBR
variable {G : xG} {h B : Nat} {w wr : xM} {ad : Nat → Nat} {el : Nat → va_E} {N : Nat} {H : Heap}
theorem xBr.start (hr : ∀ (a : Nat) (e : va_E), wr a = some e → w a = some e ∧ a ≠ h) : xBr h w wr ad el 0 := ⟨fun i hi => absurd hi (by omega), fun i j hi => absurd hi (by omega), fun a e he => ⟨(hr a e he).1, (hr a e he).2, fun i hi => absurd hi (by omega)⟩⟩
theorem xBr.put (b : xBr h w wr ad el N) (e : va_E) (hw : xW G B (xu w h e) H) : ∃ w9 : xM, xBr h w9 wr ad el N ∧ w9 h = some e ∧ xW G B w9 H := by
  refine ⟨_, ⟨fun i hi => ⟨(xu_n _ _ (b.1 i hi).2).trans (b.1 i hi).1, (b.1 i hi).2⟩, b.2.1, fun a f hf => ?_⟩, xu_s _ _ _, hw⟩
  have z := b.2.2 a f hf
  exact ⟨(xu_n _ _ z.2.1).trans z.1, z.2⟩
theorem xBr.add (b : xBr h w wr ad el N) {a : Nat} (ha : w a = none) {eh : va_E} (hh : w h = some eh) (e : va_E) : xBr h (xu w a e) wr (va_up ad N a) (va_up el N e) (N + 1) ∧ xu w a e h = some eh := by
  have hah : h ≠ a := x_nn hh ha
  refine ⟨⟨fun i hi => ?_, fun i j hi hj hij => ?_, fun q f hf => ?_⟩, (xu_n _ _ hah).trans hh⟩
  · by_cases hN : i = N
    · subst hN; rw [va_up_self, va_up_self]; exact ⟨xu_s _ _ _, Ne.symm hah⟩
    · rw [va_up_ne _ _ hN, va_up_ne _ _ hN]
      have z := b.1 i (by omega)
      exact ⟨(xu_n _ _ (x_nn z.1 ha)).trans z.1, z.2⟩
  · by_cases h1 : i = N <;> by_cases h2 : j = N
    · omega
    · rw [h1, va_up_self, va_up_ne _ _ h2] at hij; exact absurd hij.symm (x_nn (b.1 j (by omega)).1 ha)
    · rw [h2, va_up_self, va_up_ne _ _ h1] at hij; exact absurd hij (x_nn (b.1 i (by omega)).1 ha)
    · rw [va_up_ne _ _ h1, va_up_ne _ _ h2] at hij; exact b.2.1 i j (by omega) (by omega) hij
  · have z := b.2.2 q f hf
    refine ⟨(xu_n _ _ (x_nn z.1 ha)).trans z.1, z.2.1, fun i hi => ?_⟩
    by_cases hN : i = N
    · subst hN; rw [va_up_self]; exact x_nn z.1 ha
    · rw [va_up_ne _ _ hN]; exact z.2.2 i (by omega)
theorem xBr.set (b : xBr h w wr ad el N) {i : Nat} (hi : i < N) {eh : va_E} (hh : w h = some eh) (e : va_E) : xBr h (xu w (ad i) e) wr ad (va_up el i e) N ∧ xu w (ad i) e h = some eh := by
  refine ⟨⟨fun j hj => ?_, b.2.1, fun q f hf => ?_⟩, (xu_n _ _ (Ne.symm (b.1 i hi).2)).trans hh⟩
  · by_cases hij : j = i
    · subst hij; rw [va_up_self]; exact ⟨xu_s _ _ _, (b.1 j hj).2⟩
    · rw [va_up_ne _ _ hij]
      exact ⟨(xu_n _ _ (fun q => hij (b.2.1 j i hj hi q))).trans (b.1 j hj).1, (b.1 j hj).2⟩
  · have z := b.2.2 q f hf
    exact ⟨(xu_n _ _ (z.2.2 i hi)).trans z.1, z.2⟩
end XBR
theorem xz_eo : (fun _ => (0 : Int32)) = xeo (fun _ => some 0) := by funext k; exact nI_0.symm
theorem xz_eoE {G : xG} : (.inl (G.2 0, 9, .inl (fun _ => 0)) : va_E) = .inl (G.2 0, 9, .inl (xeo (fun _ => some 0))) := congrArg (fun f => (.inl (G.2 0, 9, .inl f) : va_E)) xz_eo
theorem xML.make {G : xG} {h : Nat} {w wr : xM} {ad : Nat → Nat} {el : Nat → va_E} {im : Nat → xP} (b : xBr h w wr ad el 17) (hh : w h = some (.inr (4, [.int 0, .int 0, .ref (ad 0), .ref (ad 1), .ref (ad 2), .ref (ad 3), .ref (ad 4), .ref (ad 5), .ref (ad 6), .ref (ad 7), .ref (ad 8), .ref (ad 9), .ref (ad 10), .ref (ad 11), .ref (ad 12), .ref (ad 13), .ref (ad 14), .ref (ad 15), .ref (ad 16), .int 0])))
    (h1 : ∀ i, i < 4 → el i = xIr G (xic i) (im i) ∧ xsup (im i) (xic i)) (h2 : ∀ i, (4 ≤ i ∧ i < 12) ∨ (14 ≤ i ∧ i < 17) → el i = xJr G 64 (fun _ => 0)) (h3 : el 12 = xJr G 640 (fun _ => 0)) (h4 : el 13 = .inl (G.2 0, 9, .inl (fun _ => 0))) :
    ∃ (la ia : Nat → Nat) (rq : Nat), xML G w h la ia rq 0 0 im (fun _ _ => 0) (fun _ => some 0) 0 wr := by
  refine ⟨fun i => if i < 8 then ad (4 + i) else if i = 11 then ad 12 else ad (6 + i), ad, ad 13, hh, fun i hi => ⟨?_, (h1 i hi).2⟩, fun i hi => ⟨?_, fun _ _ => rfl⟩, ?_, fun i j hi hj => b.2.1 i j (by omega) (by omega), fun i j hi hj hij => ?_, by omega, fun a e hae => ?_⟩
  · rw [(b.1 i (by omega)).1, (h1 i hi).1]
  · dsimp only
    by_cases h8 : i < 8
    · rw [if_pos h8, (b.1 (4 + i) (by omega)).1, h2 (4 + i) (by omega)]; unfold xlc; rw [if_neg (by omega)]
    · rw [if_neg h8]
      by_cases h11 : i = 11
      · rw [if_pos h11, (b.1 12 (by omega)).1, h3]; unfold xlc; rw [if_pos h11]
      · rw [if_neg h11, (b.1 (6 + i) (by omega)).1, h2 (6 + i) (by omega)]; unfold xlc; rw [if_neg h11]
  · rw [(b.1 13 (by omega)).1, h4]; exact congrArg some xz_eoE
  · dsimp only at hij
    by_cases a8 : i < 8 <;> by_cases b8 : j < 8
    · rw [if_pos a8, if_pos b8] at hij; have := b.2.1 _ _ (by omega) (by omega) hij; omega
    · rw [if_pos a8, if_neg b8] at hij
      by_cases b11 : j = 11
      · rw [if_pos b11] at hij; have := b.2.1 _ _ (by omega) (by omega) hij; omega
      · rw [if_neg b11] at hij; have := b.2.1 _ _ (by omega) (by omega) hij; omega
    · rw [if_neg a8, if_pos b8] at hij
      by_cases a11 : i = 11
      · rw [if_pos a11] at hij; have := b.2.1 _ _ (by omega) (by omega) hij; omega
      · rw [if_neg a11] at hij; have := b.2.1 _ _ (by omega) (by omega) hij; omega
    · rw [if_neg a8, if_neg b8] at hij
      by_cases a11 : i = 11 <;> by_cases b11 : j = 11
      · omega
      · rw [if_pos a11, if_neg b11] at hij; have := b.2.1 _ _ (by omega) (by omega) hij; omega
      · rw [if_neg a11, if_pos b11] at hij; have := b.2.1 _ _ (by omega) (by omega) hij; omega
      · rw [if_neg a11, if_neg b11] at hij; have := b.2.1 _ _ (by omega) (by omega) hij; omega
  · have z := b.2.2 a e hae
    refine ⟨z.1, z.2.1, fun i hi => z.2.2 i (by omega), fun i hi => ?_, z.2.2 13 (by omega)⟩
    dsimp only
    by_cases h8 : i < 8
    · rw [if_pos h8]; exact z.2.2 _ (by omega)
    · rw [if_neg h8]
      by_cases h11 : i = 11
      · rw [if_pos h11]; exact z.2.2 _ (by omega)
      · rw [if_neg h11]; exact z.2.2 _ (by omega)
/-! columns that are the same -/
theorem xSol_cg {cs cs' : Nat → xP} {tg tg' : xP} {n : Nat} {Y : xP} (h1 : ∀ k, k < n → ∀ i, i < 64 → cs k i = cs' k i) (h2 : ∀ i, i < 64 → tg i = tg' i) (h : xSol cs tg n Y) : xSol cs' tg' n Y := fun i hi => by
  rw [← h2 i hi, ← h i hi]; exact xS_congr (fun k hk => by rw [h1 k hk i hi])
theorem xDep_cg {cs cs' : Nat → xP} {k : Nat} (h1 : ∀ j, j ≤ k → ∀ i, i < 64 → cs j i = cs' j i) (h : xDep cs k) : xDep cs' k := by
  obtain ⟨al, hal⟩ := h
  exact ⟨al, fun i hi => by rw [← h1 k (Nat.le_refl _) i hi, hal i hi]; exact xS_congr (fun j hj => by rw [h1 j (by omega) i hi])⟩
theorem xPln_cg {cs cs' : Nat → xP} {tg tg' : xP} {n : Nat} {Y : xP} (h1 : ∀ k, k < n → ∀ i, i < 64 → cs k i = cs' k i) (h2 : ∀ i, i < 64 → tg i = tg' i) (h : xPln cs tg n Y) : xPln cs' tg' n Y :=
  ⟨xSol_cg h1 h2 h.1, fun k hk hd => h.2.1 k hk (xDep_cg (fun j hj i hi => (h1 j (by omega) i hi).symm) hd), h.2.2⟩
/-- the solution that the reference reads -/
def xYm (M : xMt) (ro : Nat → Option Nat) (n : Nat) : xP := fun k => if k < n then (match ro k with | some e => M e 9 | none => 0) else 0
theorem xYm_0 (M : xMt) (ro : Nat → Option Nat) : xYm M ro 0 = fun _ => 0 := by funext k; unfold xYm; rw [if_neg (by omega)]
theorem xYm_s (M : xMt) (ro : Nat → Option Nat) (n : Nat) : va_up (xYm M ro n) n (match ro n with | some e => M e 9 | none => 0) = xYm M ro (n + 1) := by
  funext k
  by_cases h : k = n
  · subst h; rw [va_up_self]; unfold xYm; rw [if_pos (by omega)]
  · rw [va_up_ne _ _ h]; unfold xYm
    by_cases h2 : k < n
    · rw [if_pos h2, if_pos (by omega)]
    · rw [if_neg h2, if_neg (by omega)]
theorem xYm_sup (M : xMt) (ro : Nat → Option Nat) (n : Nat) : xsup (xYm M ro n) n := fun k hk => by unfold xYm; rw [if_neg (by omega)]
