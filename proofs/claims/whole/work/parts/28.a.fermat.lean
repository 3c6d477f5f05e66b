/-! ===== Fermat: a number that isn't 0 times its inverse is 1 ===== -/
def xpow (a : xF) : Nat → xF
  | 0 => 1
  | n + 1 => xpow a n * a
theorem xpow_s (a : xF) (n : Nat) : xpow a (n + 1) = xpow a n * a := rfl
theorem xpow_add (a : xF) (m n : Nat) : xpow a (m + n) = xpow a m * xpow a n := by
  induction n with
  | zero => show xpow a m = xpow a m * 1; grind
  | succ n ih => rw [← Nat.add_assoc, xpow_s, xpow_s, ih]; grind
theorem xpow_sq (a : xF) (n : Nat) : xpow (a * a) n = xpow a (2 * n) := by
  induction n with
  | zero => rfl
  | succ n ih => rw [xpow_s, ih, show 2 * (n + 1) = 2 * n + 1 + 1 by omega, xpow_s, xpow_s]; grind
theorem xpw_eq : ∀ (f n : Nat) (r s : xF), n < 2 ^ f → xpw f n r s = r * xpow s n := by
  intro f
  induction f with
  | zero =>
    intro n r s h
    have : n = 0 := by simpa using h
    subst this
    rw [xpw_0]; show r = r * 1; grind
  | succ f ih =>
    intro n r s h
    by_cases hz : n = 0
    · subst hz; rw [xpw_0]; show r = r * 1; grind
    · rw [xpw_s _ _ hz, ih _ _ _ (by omega), xpow_sq]
      by_cases h2 : n % 2 = 1
      · rw [if_pos h2]
        have e : xpow s n = xpow s (2 * (n / 2)) * s := by rw [← xpow_s]; congr 1; omega
        rw [e]; grind
      · rw [if_neg h2]; congr 2; omega
/-- binomials -/
def xbn : Nat → Nat → xF
  | 0, 0 => 1
  | 0, _ + 1 => 0
  | _ + 1, 0 => 1
  | j + 1, k + 1 => xbn j k + xbn j (k + 1)
theorem xbn_s (j k : Nat) : xbn (j + 1) (k + 1) = xbn j k + xbn j (k + 1) := rfl
theorem xbn_0 (j : Nat) : xbn j 0 = 1 := by cases j <;> rfl
theorem xbn_gt : ∀ (j k : Nat), j < k → xbn j k = 0 := by
  intro j
  induction j with
  | zero => intro k h; obtain ⟨i, rfl⟩ : ∃ i, k = i + 1 := ⟨k - 1, by omega⟩; rfl
  | succ j ih =>
    intro k h
    obtain ⟨i, rfl⟩ : ∃ i, k = i + 1 := ⟨k - 1, by omega⟩
    rw [xbn_s, ih i (by omega), ih (i + 1) (by omega)]; grind
theorem xbn_nn (j : Nat) : xbn j j = 1 := by
  induction j with
  | zero => rfl
  | succ j ih => rw [xbn_s, ih, xbn_gt j (j + 1) (by omega)]; grind
theorem xO_1 : xO 1 = 1 := by decide +kernel
theorem xO_s (n : Nat) : xO (n + 1) = xO n + 1 := by rw [xO_add, xO_1]
theorem xbn_ab : ∀ (j k : Nat), xO (k + 1) * xbn (j + 1) (k + 1) = xO (j + 1) * xbn j k := by
  intro j
  induction j with
  | zero =>
    intro k
    rw [xbn_s]
    cases k with
    | zero => show xO 1 * (1 + 0) = xO 1 * 1; grind
    | succ k => show xO (k + 1 + 1) * (0 + 0) = xO 1 * 0; grind
  | succ j ih =>
    intro k
    rw [xbn_s]
    have h1 := ih k
    cases k with
    | zero =>
      rw [xbn_0] at h1 ⊢
      rw [xO_s (j + 1)]
      have h2 : xO (0 + 1) = 1 := xO_1
      rw [h2] at h1 ⊢
      grind
    | succ k =>
      have h2 := ih k
      rw [xO_s (k + 1)] at h1 ⊢
      rw [xO_s (j + 1), xbn_s j k]
      rw [xbn_s j k] at h2
      grind
theorem xbn_th (a : xF) : ∀ j : Nat, xpow (a + 1) j = xS (j + 1) (fun k => xbn j k * xpow a k) := by
  intro j
  induction j with
  | zero => rw [xS_s, xS_0]; show (1 : xF) = 0 + 1 * 1; grind
  | succ j ih =>
    rw [xpow_s, ih, xS_head (j + 1)]
    have e1 : xS (j + 1) (fun i => xbn (j + 1) (i + 1) * xpow a (i + 1)) = a * xS (j + 1) (fun k => xbn j k * xpow a k) + xS (j + 1) (fun i => xbn j (i + 1) * xpow a (i + 1)) := by
      rw [← xS_mul, ← xS_add]
      refine xS_congr (fun i _ => ?_)
      rw [xbn_s, xpow_s]; grind
    have e2 : xS (j + 2) (fun k => xbn j k * xpow a k) = xS (j + 1) (fun k => xbn j k * xpow a k) := by
      rw [xS_s, xbn_gt j (j + 1) (by omega)]; grind
    rw [xS_head (j + 1)] at e2
    rw [e1, xbn_0]
    rw [xbn_0] at e2
    have e3 : xpow a 0 = 1 := rfl
    rw [e3] at e2 ⊢
    grind
theorem xO_nz {k : Nat} (h0 : 0 < k) (h : k < 32003) : xO k ≠ 0 := by
  intro q
  have := congrArg Fin.val q
  rw [xO_val, Nat.mod_eq_of_lt h] at this
  have h2 : (0 : xF).val = 0 := rfl
  omega
theorem xbn_p {n : Nat} (hn : n = 32003) {k : Nat} (h0 : 0 < k) (h : k < n) : xbn n k = 0 := by
  obtain ⟨i, rfl⟩ : ∃ i, k = i + 1 := ⟨k - 1, by omega⟩
  obtain ⟨j, rfl⟩ : ∃ j, n = j + 1 := ⟨n - 1, by omega⟩
  have h1 := xbn_ab j i
  have h2 : xO (j + 1) = 0 := by rw [hn, xO_P]
  rw [h2] at h1
  apply Classical.byContradiction
  intro q
  exact xF_nz (xO_nz h0 (by omega)) q (h1.trans (by grind))
theorem xpow_p1 {n : Nat} (hn : n = 32003) (a : xF) : xpow (a + 1) n = xpow a n + 1 := by
  rw [xbn_th, xS_s, xbn_nn]
  obtain ⟨j, hj⟩ : ∃ j, n = j + 1 := ⟨n - 1, by omega⟩
  have e : xS n (fun k => xbn n k * xpow a k) = 1 := by
    rw [xS_one (k := 0) (by omega) (fun i h1 h2 => by rw [xbn_p hn (by omega) h1]; grind), xbn_0]
    show (1 : xF) * 1 = 1; grind
  rw [e]; grind
theorem xpow_p {n : Nat} (hn : n = 32003) (m : Nat) : xpow (xO m) n = xO m := by
  induction m with
  | zero =>
    obtain ⟨j, hj⟩ : ∃ j, n = j + 1 := ⟨n - 1, by omega⟩
    have h0 : xO 0 = 0 := by decide +kernel
    rw [h0, hj, xpow_s]; grind
  | succ m ih => rw [xO_s, xpow_p1 hn, ih]
theorem xinv_mul {a : xF} (h : a ≠ 0) : a * xinv a = 1 := by
  obtain ⟨n, hn⟩ : ∃ n, n = 32003 := ⟨_, rfl⟩
  obtain ⟨j, hj⟩ : ∃ j, j = 32001 := ⟨_, rfl⟩
  have h1 : xinv a = xpow a j := by
    show xpw 15 32001 1 a = _
    rw [← hj, xpw_eq 15 j 1 a (by omega)]; grind
  have h2 := xpow_p hn a.val
  rw [xO_self, show n = j + 1 + 1 by omega, xpow_s, xpow_s, ← h1] at h2
  apply Classical.byContradiction
  intro q
  refine xF_nz (a := a) (b := a * xinv a - 1) h (fun z => q (by grind)) (by grind)
