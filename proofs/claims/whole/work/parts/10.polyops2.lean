/-! ===== more pure rows for Polynomial ===== -/
theorem x_toI {a : Nat} (h : a < 2 ^ 30) : (nI a - 1).toInt = (a : Int) - 1 := by
  rw [Int32.toInt_sub, nI_toInt (by omega), show (1 : Int32).toInt = 1 by decide]
  exact Int.bmod_eq_of_le (by omega) (by omega)
theorem x_gt_hh {a b k : Nat} (ha : a < 2 ^ 29) (hb : b < 2 ^ 29) (hk : k < 2 ^ 29) : nI a - 1 + (nI b - 1) < nI k ↔ a + b ≤ k + 1 := by
  rw [Int32.lt_iff_toInt_lt, Int32.toInt_add, x_toI (by omega), x_toI (by omega), nI_toInt (by omega), Int.bmod_eq_of_le (by omega) (by omega)]
  omega
theorem x_minhi {a k : Nat} (ha : a < 2 ^ 30) (hk : k < 2 ^ 30) : (if nI a - 1 < nI k then nI a - 1 else nI k) = nI (min (k + 1) a) - 1 := by
  by_cases h : a ≤ k
  · rw [if_pos ((x_gt_hi hk ha).mpr h), Nat.min_eq_right (by omega)]
  · rw [if_neg (fun q => h ((x_gt_hi hk ha).mp q)), Nat.min_eq_left (by omega), x_m1]
theorem x_maxhi {b k : Nat} (hb : b < 2 ^ 30) (hk : k < 2 ^ 29) : (if nI k - (nI b - 1) < 0 then 0 else nI k - (nI b - 1)) = nI (k + 1 - b) := by
  have e : (nI k - (nI b - 1)).toInt = (k : Int) + 1 - b := by
    rw [Int32.toInt_sub, x_toI hb, nI_toInt (by omega), Int.bmod_eq_of_le (by omega) (by omega)]; omega
  by_cases h : nI k - (nI b - 1) < 0
  · rw [if_pos h]
    have h1 := Int32.lt_iff_toInt_lt.mp h
    rw [e, show (0 : Int32).toInt = 0 by decide] at h1
    rw [show k + 1 - b = 0 by omega, nI_0]
  · rw [if_neg h]
    have h1 : ¬ (nI k - (nI b - 1)).toInt < (0 : Int32).toInt := fun q => h (Int32.lt_iff_toInt_lt.mpr q)
    rw [e, show (0 : Int32).toInt = 0 by decide] at h1
    apply Int32.toInt_inj.mp
    rw [e, nI_toInt (by omega)]; omega
theorem xS_from {f g : xP} {b k : Nat} (hg : xsup g b) : xS (k + 1 - b) (fun i => f i * g (k - i)) = 0 := xS_zero (fun i hi => by
  rw [hg (k - i) (by omega)]; grind)
theorem xS_to {f g : xP} {a k i : Nat} (hf : xsup f a) (h : min (k + 1) a ≤ i) (hi : i ≤ k + 1) : xS i (fun i => f i * g (k - i)) = xmul f g k := by
  unfold xmul
  refine (xS_ext hi (fun t h1 h2 => ?_)).symm
  rw [hf t (by omega)]; grind
theorem x_sumL (T : Nat) (a b : xF) : lN T + xJ a * xJ b = lN (T + a.val * b.val) := by unfold xJ; rw [lN_mul, lN_add]
theorem xhi_eq {f g : xP} {n n2 : Nat} (hn : n ≤ 64) (hn2 : n2 ≤ 64) : xhi f n = xhi g n2 ↔ xlen f n = xlen g n2 := by
  unfold xhi
  refine ⟨fun q => ?_, fun q => by rw [q]⟩
  have h1 := congrArg Int32.toInt q
  rw [x_toI (x_lenB f hn), x_toI (x_lenB g hn2)] at h1
  omega
theorem xhor_end (f : xP) (v : xF) {n m : Nat} (h : xsup f n) (hnm : n ≤ m) : xhor f v m 0 = xhor f v n 0 := by
  induction m with
  | zero => rw [show n = 0 by omega]
  | succ m ih =>
    by_cases hh : n = m + 1
    · rw [hh]
    · rw [← ih (by omega)]
      show xhor f v m (0 * v + f m) = xhor f v m 0
      rw [h m (by omega)]
      congr 1; grind
theorem xdv_sup {g : xP} {b nd n nq : Nat} {iv : xF} (hg : xsup g nd) : ∀ (j : Nat) (f z : xP), xsup f n → xsup z nq → j + nd ≤ n + 1 → j ≤ nq → xsup (xdv g b iv j f z).1 n ∧ xsup (xdv g b iv j f z).2 nq := by
  intro j
  induction j with
  | zero => intro f z h1 h2 _ _; exact ⟨h1, h2⟩
  | succ k ih =>
    intro f z h1 h2 h3 h4
    rw [xdv_s]
    exact ih _ _ (xgat_sup h1 hg (by omega)) (xsup_up h2 (by omega)) (by omega) (by omega)
theorem x_hh_lt {a b : Nat} (ha : a < 2 ^ 30) (hb : b < 2 ^ 30) : nI a - 1 - (nI b - 1) < 0 ↔ a < b := by
  rw [Int32.lt_iff_toInt_lt, Int32.toInt_sub, x_toI ha, x_toI hb, Int.bmod_eq_of_le (by omega) (by omega), show (0 : Int32).toInt = 0 by decide]
  omega
theorem x_hh_sub {a b : Nat} (ha : a < 2 ^ 29) (h : b ≤ a) : nI a - 1 - (nI b - 1) = nI (a - b + 1) - 1 := by
  apply Int32.toInt_inj.mp
  rw [Int32.toInt_sub, x_toI (a := a) (by omega), x_toI (a := b) (by omega), x_toI (by omega), Int.bmod_eq_of_le (by omega) (by omega)]
  omega
theorem x_sub1 {k j : Nat} (hk : k < 2 ^ 29) (hj : j < 2 ^ 29) (h : 1 ≤ j) : nI k + (nI j - 1) = nI (k + (j - 1)) := by
  obtain ⟨i, rfl⟩ : ∃ i, j = i + 1 := ⟨j - 1, by omega⟩
  rw [x_m1, nI_add]; rfl
theorem x_P_sub (x : xF) : (32003 : Int32) - xI x = nI (32003 - x.val) := by
  have := x.isLt
  exact pk_sub (a := 32003) (b := x.val) (by omega)
theorem xcf_hi {f : xP} {n i : Nat} (hn : n ≤ 64) (h : xlen f n = i + 1) : xcf f (xhi f n) = f i := by
  have := xlen_le f n
  unfold xhi; rw [h, x_m1, xcf_n _ (by omega)]
