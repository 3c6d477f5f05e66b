/-! ===== linear equations: columns cs 0, cs 1, .. and a target, of 64 places each ===== -/
/-- column k is made up of the ones before it -/
def xDep (cs : Nat → xP) (k : Nat) : Prop := ∃ al : Nat → xF, ∀ i, i < 64 → cs k i = xS k (fun j => al j * cs j i)
/-- a solution out of the first n columns -/
def xSol (cs : Nat → xP) (tg : xP) (n : Nat) (Y : xP) : Prop := ∀ i, i < 64 → xS n (fun k => Y k * cs k i) = tg i
def xPln (cs : Nat → xP) (tg : xP) (n : Nat) (Y : xP) : Prop := xSol cs tg n Y ∧ (∀ k, k < n → xDep cs k → Y k = 0) ∧ xsup Y n
theorem xS_sub (n : Nat) (f g : Nat → xF) : xS n (fun i => f i - g i) = xS n f - xS n g := by
  induction n with
  | zero => rw [xS_0, xS_0, xS_0]; grind
  | succ n ih => rw [xS_s, xS_s, xS_s, ih]; grind
theorem xPln_uniq {cs : Nat → xP} {tg Y Y' : xP} {n : Nat} (h : xPln cs tg n Y) (h' : xPln cs tg n Y') : Y = Y' := by
  apply Classical.byContradiction
  intro hne
  have hz : ∃ k, xsb Y Y' k ≠ 0 := by
    apply Classical.byContradiction
    intro q
    apply hne
    funext k
    have : xsb Y Y' k = 0 := Classical.byContradiction fun z => q ⟨k, z⟩
    have h3 : xsb Y Y' k = Y k - Y' k := rfl
    grind
  have hs : xsup (xsb Y Y') n := fun k hk => by show Y k - Y' k = 0; rw [h.2.2 k hk, h'.2.2 k hk]; grind
  cases hl : xlen (xsb Y Y') n with
  | zero => obtain ⟨k, hk⟩ := hz; exact hk ((xlen_0 hs).mp hl k)
  | succ k =>
    have ht := xlen_top hl
    have hle := xlen_le (xsb Y Y') n
    have habove := xlen_sup hs
    rw [hl] at habove
    have hd : xDep cs k := by
      refine ⟨fun j => - xinv (xsb Y Y' k) * xsb Y Y' j, fun i hi => ?_⟩
      have e1 : xS n (fun j => xsb Y Y' j * cs j i) = 0 := by
        have : xS n (fun j => xsb Y Y' j * cs j i) = xS n (fun k => Y k * cs k i) - xS n (fun k => Y' k * cs k i) := by
          rw [← xS_sub]; exact xS_congr (fun j _ => by show (Y j - Y' j) * cs j i = _; grind)
        rw [this, h.1 i hi, h'.1 i hi]; grind
      rw [xS_ext (n := k + 1) (by omega) (fun j h1 h2 => by rw [habove j (by omega)]; grind), xS_s] at e1
      have e2 : xS k (fun j => - xinv (xsb Y Y' k) * xsb Y Y' j * cs j i) = - xinv (xsb Y Y' k) * xS k (fun j => xsb Y Y' j * cs j i) := by
        rw [← xS_mul]; exact xS_congr (fun j _ => by grind)
      rw [e2]
      have e3 := xinv_mul ht
      grind
    have h1 := h.2.1 k (by omega) hd
    have h2 := h'.2.1 k (by omega) hd
    have h3 : xsb Y Y' k = Y k - Y' k := rfl
    rw [h1, h2] at h3
    exact ht (by rw [h3]; grind)
theorem xSol_ext {cs : Nat → xP} {tg Y : xP} {n m : Nat} (h : xSol cs tg n Y) (hs : xsup Y n) (hnm : n ≤ m) : xSol cs tg m Y := fun i hi => by
  rw [xS_ext hnm (fun k h1 _ => by rw [hs k h1]; grind)]; exact h i hi
theorem xSol_cut {cs : Nat → xP} {tg Y : xP} {n m : Nat} (h : xSol cs tg m Y) (hs : xsup Y n) (hnm : n ≤ m) : xSol cs tg n Y := fun i hi => by
  rw [← xS_ext hnm (fun k h1 _ => by rw [hs k h1]; grind)]; exact h i hi
theorem xPln_ext {cs : Nat → xP} {tg Y : xP} {n m : Nat} (h : xPln cs tg n Y) (hnm : n ≤ m) : xPln cs tg m Y :=
  ⟨xSol_ext h.1 h.2.2 hnm, fun k hk hd => by
    by_cases hkn : k < n
    · exact h.2.1 k hkn hd
    · exact h.2.2 k (by omega), xsup_mono h.2.2 hnm⟩
/-! the class's elimination -/
def xIa (q : Nat → xP) (K : Nat) (z : xES) : Prop :=
  (∀ v, 7 + K ≤ v → v ≤ 16 → ∀ i, i < 64 → q v i = xS K (fun j => xom (z.1 v) (z.2.1 j) * q (7 + j) i) + (if z.2.2 i = true then 0 else z.1 v i)) ∧
  (∀ j e, j < K → z.2.1 j = some e → e < 64 ∧ z.2.2 e = true) ∧
  (∀ ga : Nat → xF, (∀ i, i < 64 → z.2.2 i = true → xS K (fun j => ga j * q (7 + j) i) = 0) → ∀ i, i < 64 → xS K (fun j => ga j * q (7 + j) i) = 0) ∧
  ∀ j, j < K → (z.2.1 j = none ↔ xDep (fun k => q (7 + k)) j)
theorem xIa_0 {q : Nat → xP} {eo : Nat → Option Nat} {tb : Nat → Bool} (h : ∀ i, i < 64 → tb i = false) : xIa q 0 (xel 0 (q, eo, tb)) := by
  refine ⟨fun v h1 h2 i hi => ?_, fun j e hj => absurd hj (by omega), fun ga _ i _ => rfl, fun j hj => absurd hj (by omega)⟩
  show q v i = 0 + (if tb i = true then 0 else q v i)
  rw [h i hi, if_neg (by decide)]; grind
theorem xom_some (f : xP) (e : Nat) : xom f (some e) = f e := rfl
theorem xom_none (f : xP) : xom f none = 0 := rfl
theorem xIa_s {q : Nat → xP} {K : Nat} {z : xES} (hK : K < 9) (h : xIa q K z) : xIa q (K + 1) (xelS K z) := by
  obtain ⟨h1, h2, h3, h4⟩ := h
  cases hf : xfu z.2.2 (z.1 (7 + K)) with
  | none =>
    rw [xelS_none hf]
    have hz := xfu_none hf
    have hdep : ∀ i, i < 64 → q (7 + K) i = xS K (fun j => xom (z.1 (7 + K)) (z.2.1 j) * q (7 + j) i) := fun i hi => by
      rw [h1 (7 + K) (by omega) (by omega) i hi]
      have : (if z.2.2 i = true then (0 : xF) else z.1 (7 + K) i) = 0 := by
        rcases hz i hi with q | q
        · rw [if_pos q]
        · rw [q]; split <;> rfl
      rw [this]; grind
    have hup : ∀ j, j < K → va_up z.2.1 K none j = z.2.1 j := fun j hj => va_up_ne _ _ (by omega)
    refine ⟨fun v hv1 hv2 i hi => ?_, fun j e hj he => ?_, fun ga hg i hi => ?_, fun j hj => ?_⟩
    · show q v i = xS (K + 1) (fun j => xom (z.1 v) (va_up z.2.1 K none j) * q (7 + j) i) + (if z.2.2 i = true then 0 else z.1 v i)
      rw [xS_s, va_up_self, xom_none, h1 v (by omega) hv2 i hi]
      rw [xS_congr (n := K) (f := fun j => xom (z.1 v) (va_up z.2.1 K none j) * q (7 + j) i) (g := fun j => xom (z.1 v) (z.2.1 j) * q (7 + j) i) (fun j hj => by rw [hup j hj])]
      grind
    · dsimp only at he ⊢
      by_cases hj2 : j = K
      · subst hj2; rw [va_up_self] at he; cases he
      · rw [hup j (by omega)] at he; exact h2 j e (by omega) he
    · dsimp only at hg
      have e : ∀ i, i < 64 → xS (K + 1) (fun j => ga j * q (7 + j) i) = xS K (fun j => (ga j + ga K * xom (z.1 (7 + K)) (z.2.1 j)) * q (7 + j) i) := fun i hi => by
        rw [xS_s, hdep i hi, ← xS_mul, ← xS_add]
        exact xS_congr (fun j _ => by grind)
      rw [e i hi]
      exact h3 _ (fun i hi ht => by rw [← e i hi]; exact hg i hi ht) i hi
    · dsimp only
      by_cases hj2 : j = K
      · subst hj2; rw [va_up_self]; exact ⟨fun _ => ⟨_, hdep⟩, fun _ => rfl⟩
      · rw [hup j (by omega)]; exact h4 j (by omega)
  | some e =>
    rw [xelS_some hf]
    obtain ⟨he, hte, hue⟩ := xfu_some hf
    have hinv := xinv_mul hue
    have hup : ∀ j, j < K → va_up z.2.1 K (some e) j = z.2.1 j := fun j hj => va_up_ne _ _ (by omega)
    have hne : ∀ j e', j < K → z.2.1 j = some e' → e' ≠ e := fun j e' hj hj2 q => by
      have := (h2 j e' hj hj2).2; rw [q, hte] at this; cases this
    have hu := h1 (7 + K) (by omega) (by omega)
    have hsol : ∀ v, 7 + K < v → v ≤ 16 → xsol z.1 K e v = xpi (z.1 v) (z.1 (7 + K)) e (xinv (z.1 (7 + K) e)) := fun v g1 g2 => by unfold xsol; rw [if_pos ⟨g1, g2⟩]
    have hpi : ∀ f i, i ≠ e → xpi f (z.1 (7 + K)) e (xinv (z.1 (7 + K) e)) i = f i - f e * xinv (z.1 (7 + K) e) * z.1 (7 + K) i := fun f i hi => by
      unfold xpi; rw [va_up_ne _ _ hi, xgatm]; show (if 0 ≤ i then _ else _) = _; rw [if_pos (Nat.zero_le _), Nat.sub_zero]
    have hpe : ∀ f, xpi f (z.1 (7 + K)) e (xinv (z.1 (7 + K) e)) e = f e * xinv (z.1 (7 + K) e) := fun f => by unfold xpi; rw [va_up_self]
    refine ⟨fun v hv1 hv2 i hi => ?_, fun j e' hj hj2 => ?_, fun ga hg i hi => ?_, fun j hj => ?_⟩
    · show q v i = xS (K + 1) (fun j => xom (xsol z.1 K e v) (va_up z.2.1 K (some e) j) * q (7 + j) i) + (if va_up z.2.2 e true i = true then 0 else xsol z.1 K e v i)
      rw [hsol v (by omega) hv2, xS_s, va_up_self, xom_some, hpe]
      have e1 : xS K (fun j => xom (xpi (z.1 v) (z.1 (7 + K)) e (xinv (z.1 (7 + K) e))) (va_up z.2.1 K (some e) j) * q (7 + j) i) = xS K (fun j => xom (z.1 v) (z.2.1 j) * q (7 + j) i) - z.1 v e * xinv (z.1 (7 + K) e) * xS K (fun j => xom (z.1 (7 + K)) (z.2.1 j) * q (7 + j) i) := by
        rw [← xS_mul, ← xS_sub]
        refine xS_congr (fun j hj => ?_)
        rw [hup j hj]
        cases hj2 : z.2.1 j with
        | none => rw [xom_none, xom_none, xom_none]; grind
        | some e' => rw [xom_some, xom_some, xom_some, hpi _ _ (hne j e' hj hj2)]; grind
      rw [e1]
      have e2 := h1 v (by omega) hv2 i hi
      have e3 := hu i hi
      by_cases hie : i = e
      · subst hie
        rw [va_up_self, if_pos rfl]
        rw [hte, if_neg (by decide)] at e2 e3
        grind
      · rw [va_up_ne _ _ hie, hpi _ _ hie]
        by_cases hti : z.2.2 i = true
        · rw [if_pos hti] at e2 e3 ⊢; grind
        · rw [if_neg hti] at e2 e3 ⊢; grind
    · dsimp only at hj2 ⊢
      by_cases hjK : j = K
      · subst hjK; rw [va_up_self] at hj2; cases hj2; exact ⟨he, va_up_self _ _ _⟩
      · rw [hup j (by omega)] at hj2
        have := h2 j e' (by omega) hj2
        exact ⟨this.1, by rw [va_up_ne _ _ (hne j e' (by omega) hj2)]; exact this.2⟩
    · dsimp only at hg
      have ex : ∀ i, i < 64 → xS (K + 1) (fun j => ga j * q (7 + j) i) = xS K (fun j => (ga j + ga K * xom (z.1 (7 + K)) (z.2.1 j)) * q (7 + j) i) + ga K * (if z.2.2 i = true then 0 else z.1 (7 + K) i) := fun i hi => by
        rw [xS_s, hu i hi]
        have : xS K (fun j => (ga j + ga K * xom (z.1 (7 + K)) (z.2.1 j)) * q (7 + j) i) = xS K (fun j => ga j * q (7 + j) i) + ga K * xS K (fun j => xom (z.1 (7 + K)) (z.2.1 j) * q (7 + j) i) := by
          rw [← xS_mul, ← xS_add]; exact xS_congr (fun j _ => by grind)
        rw [this]; grind
      have hz0 := h3 (fun j => ga j + ga K * xom (z.1 (7 + K)) (z.2.1 j)) (fun i hi ht => by
        have g1 := ex i hi
        rw [if_pos ht, hg i hi (by
          by_cases hie : i = e
          · subst hie; exact va_up_self _ _ _
          · rw [va_up_ne _ _ hie]; exact ht)] at g1
        grind)
      have gK : ga K = 0 := by
        have g1 := ex e he
        rw [hg e he (va_up_self _ _ _), hz0 e he, hte, if_neg (by decide)] at g1
        apply Classical.byContradiction
        intro hgk
        exact xF_nz hgk hue (by grind)
      rw [ex i hi, hz0 i hi, gK]; grind
    · dsimp only
      by_cases hjK : j = K
      · subst hjK
        rw [va_up_self]
        refine ⟨fun q => (by cases q), fun hd => ?_⟩
        exfalso
        obtain ⟨al, hal⟩ := hd
        have g : ∀ i, i < 64 → xS j (fun t => (al t - xom (z.1 (7 + j)) (z.2.1 t)) * q (7 + t) i) = (if z.2.2 i = true then 0 else z.1 (7 + j) i) := fun i hi => by
          have : xS j (fun t => (al t - xom (z.1 (7 + j)) (z.2.1 t)) * q (7 + t) i) = xS j (fun t => al t * q (7 + t) i) - xS j (fun t => xom (z.1 (7 + j)) (z.2.1 t) * q (7 + t) i) := by
            rw [← xS_sub]; exact xS_congr (fun t _ => by grind)
          rw [this, ← hal i hi]
          have := hu i hi
          dsimp only
          grind
        have g2 := h3 _ (fun i hi ht => by rw [g i hi, if_pos ht]) e he
        rw [g e he, hte, if_neg (by decide)] at g2
        exact hue g2
      · rw [hup j (by omega)]; exact h4 j (by omega)
theorem xIa_all {q : Nat → xP} {eo : Nat → Option Nat} {tb : Nat → Bool} (h : ∀ i, i < 64 → tb i = false) : ∀ K, K ≤ 9 → xIa q K (xel K (q, eo, tb)) := by
  intro K
  induction K with
  | zero => intro _; exact xIa_0 h
  | succ K ih => intro hK; exact xIa_s (by omega) (ih (by omega))
/-- what the class finds -/
theorem xFP_ok {rt rb A Bq Q : xP} {o : Option xP} (h : xFP rt rb A Bq Q o) : (o = none → ∀ Y, ¬ xSol (fun k => xcol rb A Bq Q k) (xtgt rt Bq Q) 9 Y) ∧ ∀ Y, o = some Y → xPln (fun k => xcol rb A Bq Q k) (xtgt rt Bq Q) 9 Y := by
  obtain ⟨q, eo, tb, hc, h16, htb, hh⟩ := h
  obtain ⟨h1, h2, h3, h4⟩ := xIa_all (q := q) (eo := eo) htb 9 (Nat.le_refl _)
  generalize xel 9 (q, eo, tb) = z at *
  have hcs : ∀ (Y : xP) (i : Nat), xS 9 (fun k => Y k * xcol rb A Bq Q k i) = xS 9 (fun k => Y k * q (7 + k) i) := fun Y i => xS_congr (fun k hk => by rw [hc k hk])
  have ht := h1 16 (by decide) (by decide)
  constructor
  · intro ho Y hY
    rcases hh with ⟨-, hn⟩ | ⟨ho2, -⟩
    · cases hf : xfu z.2.2 (z.1 16) with
      | none => exact hn hf
      | some e =>
        obtain ⟨he, hte, hue⟩ := xfu_some hf
        have g : ∀ i, i < 64 → xS 9 (fun t => (Y t - xom (z.1 16) (z.2.1 t)) * q (7 + t) i) = (if z.2.2 i = true then 0 else z.1 16 i) := fun i hi => by
          have e1 : xS 9 (fun t => (Y t - xom (z.1 16) (z.2.1 t)) * q (7 + t) i) = xS 9 (fun t => Y t * q (7 + t) i) - xS 9 (fun t => xom (z.1 16) (z.2.1 t) * q (7 + t) i) := by
            rw [← xS_sub]; exact xS_congr (fun t _ => by grind)
          have e2 := hY i hi
          rw [hcs, ← h16] at e2
          have e3 := ht i hi
          rw [e1, e2]; grind
        have g2 := h3 _ (fun i hi ht => by rw [g i hi, if_pos ht]) e he
        rw [g e he, hte, if_neg (by decide)] at g2
        exact hue g2
    · rw [ho] at ho2; cases ho2
  · intro Y hY
    rcases hh with ⟨ho, -⟩ | ⟨ho, hn⟩
    · rw [ho] at hY; cases hY
    · rw [ho] at hY
      have hY := Option.some.inj hY
      subst hY
      refine ⟨fun i hi => ?_, fun k hk hd => ?_, fun k hk => ?_⟩
      · rw [hcs, ← h16, ht i hi]
        have e0 : (if z.2.2 i = true then (0 : xF) else z.1 16 i) = 0 := by
          rcases xfu_none hn i hi with q | q
          · rw [if_pos q]
          · rw [q]; split <;> rfl
        rw [e0, xS_congr (n := 9) (f := fun k => xwsk (z.1 16) z.2.1 9 k * q (7 + k) i) (g := fun j => xom (z.1 16) (z.2.1 j) * q (7 + j) i) (fun k hk => by unfold xwsk; rw [if_pos hk])]
        grind
      · have hd2 : xDep (fun k => q (7 + k)) k := by
          obtain ⟨al, hal⟩ := hd
          refine ⟨al, fun i hi => ?_⟩
          dsimp only at hal ⊢
          rw [hc k hk, hal i hi]
          exact xS_congr (fun j hj => by rw [hc j (by omega)])
        have := (h4 k hk).mpr hd2
        unfold xwsk; rw [if_pos hk, this]; rfl
      · unfold xwsk; rw [if_neg (by omega)]
theorem xFr_ok {rb A Bq Q : xP} {e : Nat → Option Nat} (h : xFr rb A Bq Q e) : ∀ k, k < 9 → (e k = none ↔ xDep (fun k => xcol rb A Bq Q k) k) := by
  obtain ⟨q, eo, tb, hc, htb, rfl⟩ := h
  obtain ⟨-, -, -, h4⟩ := xIa_all (q := q) (eo := eo) htb 9 (Nat.le_refl _)
  intro k hk
  rw [h4 k hk]
  constructor
  · rintro ⟨al, hal⟩
    refine ⟨al, fun i hi => ?_⟩
    dsimp only at hal ⊢
    rw [← hc k hk, hal i hi]
    exact xS_congr (fun j hj => by rw [hc j (by omega)])
  · rintro ⟨al, hal⟩
    refine ⟨al, fun i hi => ?_⟩
    dsimp only at hal ⊢
    rw [hc k hk, hal i hi]
    exact xS_congr (fun j hj => by rw [hc j (by omega)])
