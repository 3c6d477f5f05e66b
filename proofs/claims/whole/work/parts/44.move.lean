/-! ===== n + 1 in place of n: the class's way and the reference's are the same, and it is a homomorphism ===== -/
def xTa (N : Nat) (f : xP) : xP := fun k => xS N (fun j => f j * xlit 1 j x1 k)
theorem x1_sup : xsup x1 1 := xc_sup (by decide)
theorem x1_c : x1 = xc 1 := rfl
theorem xlit_s (v : xF) (k : Nat) (f : xP) : xlit v (k + 1) f = xlin (xlit v k f) v := rfl
theorem xTa_n {f : xP} {n N : Nat} (h : xsup f n) (hn : n ≤ N) : xTa N f = xTa n f := by
  funext k
  exact xS_ext hn (fun j h1 _ => by rw [h j h1]; grind)
theorem xTa_ad (N : Nat) (f g : xP) : xTa N (xad f g) = xad (xTa N f) (xTa N g) := by
  funext k
  show xS N (fun j => (f j + g j) * xlit 1 j x1 k) = xS N _ + xS N _
  rw [← xS_add]; exact xS_congr (fun j _ => by grind)
theorem xTa_sb (N : Nat) (f g : xP) : xTa N (xsb f g) = xsb (xTa N f) (xTa N g) := by
  funext k
  show xS N (fun j => (f j - g j) * xlit 1 j x1 k) = xS N _ - xS N _
  rw [← xS_sub]; exact xS_congr (fun j _ => by grind)
theorem xTa_c {N : Nat} (hN : 1 ≤ N) (v : xF) : xTa N (xc v) = xc v := by
  rw [xTa_n (n := 1) (fun k hk => by rw [xc_at, if_neg (by omega)]) hN]
  funext k
  show xS 1 (fun j => xc v j * xlit 1 j x1 k) = _
  rw [xS_s, xS_0]
  show 0 + xc v 0 * x1 k = xc v k
  rw [x1_c, xc_at, xc_at, xc_at]
  split <;> grind
theorem xTa_sm (N : Nat) (v : xF) (f : xP) : xTa N (xmul (xc v) f) = xmul (xc v) (xTa N f) := by
  rw [xmul_c, xmul_c]
  funext k
  show xS N (fun j => v * f j * xlit 1 j x1 k) = v * xS N _
  rw [← xS_mul]; exact xS_congr (fun j _ => by grind)
theorem xTa_sh (N : Nat) (g : xP) : xTa (N + 1) (xsh g) = xlin (xTa N g) 1 := by
  funext k
  show xS (N + 1) (fun j => xsh g j * xlit 1 j x1 k) = xsh (xTa N g) k + 1 * xTa N g k
  rw [xS_head]
  have e : xS N (fun j => xsh g (j + 1) * xlit 1 (j + 1) x1 k) = xS N (fun j => g j * xsh (xlit 1 j x1) k) + xS N (fun j => g j * xlit 1 j x1 k) := by
    rw [← xS_add]
    refine xS_congr (fun j _ => ?_)
    rw [xlit_s]
    show g j * (xsh (xlit 1 j x1) k + 1 * xlit 1 j x1 k) = _
    grind
  have e2 : xS N (fun j => g j * xsh (xlit 1 j x1) k) = xsh (xTa N g) k := by
    cases k with
    | zero => exact xS_zero (fun j _ => by show g j * 0 = 0; grind)
    | succ k => rfl
  rw [e, e2]
  show 0 * _ + (xsh (xTa N g) k + xTa N g k) = _
  grind
theorem xTa_sup {f : xP} {n : Nat} (N : Nat) (h : xsup f n) : xsup (xTa N f) n := fun k hk => xS_zero (fun j _ => by
  by_cases hj : n ≤ j
  · rw [h j hj]; grind
  · rw [xlit_sup x1_sup j k (by omega)]; grind)
theorem xsh_sup {f : xP} {n : Nat} (h : xsup f n) : xsup (xsh f) (n + 1) := fun k hk => by
  obtain ⟨i, rfl⟩ : ∃ i, k = i + 1 := ⟨k - 1, by omega⟩
  exact h i (by omega)
/-- f is its first number, and n times the rest -/
theorem xdec (f : xP) : f = xad (xc (f 0)) (xsh (fun t => f (t + 1))) := by
  funext k
  show f k = xc (f 0) k + xsh _ k
  cases k with
  | zero => rw [xc_at, if_pos rfl]; show f 0 = f 0 + 0; grind
  | succ k => rw [xc_at, if_neg (by omega)]; show f (k + 1) = 0 + f (k + 1); grind
/-- the reference's way -/
theorem xmM_T {f : xP} (hf : xsup f 64) : ∀ (j : Nat) (g : xP), j ≤ 63 → (∀ i, i < j → g i = f i) → (∀ k, g (j + k) = xTa 64 (fun t => f (j + t)) k) → xmM j g = xTa 64 f := by
  intro j
  induction j with
  | zero =>
    intro g _ _ h
    funext k
    have := h k
    rw [Nat.zero_add] at this
    have e : (fun t => f (0 + t)) = f := by funext t; rw [Nat.zero_add]
    rw [e] at this
    exact this
  | succ j ih =>
    intro g hj h1 h2
    show xmM j (xmst g j) = _
    refine ih _ (by omega) (fun i hi => ?_) (fun k => ?_)
    · unfold xmst; rw [if_neg (by omega)]; exact h1 i (by omega)
    · have sF : xsup (fun t => f (j + 1 + t)) (63 - j) := fun t ht => hf _ (by omega)
      have e1 : (fun t => f (j + t)) = xad (xc (f j)) (xsh (fun t => f (j + 1 + t))) := by
        have := xdec (fun t => f (j + t))
        rw [this]
        congr 2
        funext t; show f (j + (t + 1)) = f (j + 1 + t); congr 1; omega
      have e2 : xTa 64 (fun t => f (j + t)) = xad (xc (f j)) (xlin (xTa 64 (fun t => f (j + 1 + t))) 1) := by
        rw [e1, xTa_ad, xTa_c (by decide), xTa_sh 63, xTa_n (N := 64) (n := 63) (xsup_mono sF (by omega)) (by decide)]
      rw [e2]
      show xmst g j (j + k) = xc (f j) k + (xsh _ k + 1 * _)
      have hT := h2 k
      have sT := xTa_sup 64 sF
      unfold xmst
      cases k with
      | zero =>
        rw [if_pos (by omega), xc_at, if_pos rfl]
        show g j + g (j + 0 + 1) = f j + (0 + 1 * _)
        rw [← hT, h1 j (by omega)]
        rw [show j + 0 + 1 = j + 1 + 0 by omega]; grind
      | succ k =>
        rw [show xc (f j) (k + 1) = 0 by rw [xc_at, if_neg (by omega)]]
        show _ = 0 + (xTa 64 (fun t => f (j + 1 + t)) k + 1 * _)
        have hk := h2 k
        by_cases hlt : j ≤ j + (k + 1) ∧ j + (k + 1) < 63
        · rw [if_pos hlt, ← hT, ← hk, show j + (k + 1) = j + 1 + k by omega, show j + 1 + k + 1 = j + 1 + (k + 1) by omega]; grind
        · rw [if_neg hlt, sT (k + 1) (by omega), ← hk, show j + (k + 1) = j + 1 + k by omega]; grind
theorem xmM_Ta {f : xP} (hf : xsup f 64) : xmM 63 f = xTa 64 f := by
  refine xmM_T hf 63 f (by decide) (fun _ _ => rfl) (fun k => ?_)
  have e : (fun t => f (63 + t)) = xc (f 63) := by
    funext t; rw [xc_at]
    by_cases ht : t = 0
    · subst ht; rw [if_pos rfl]
    · rw [if_neg ht]; exact hf _ (by omega)
  rw [e, xTa_c (by decide)]
  have := congrFun e k
  exact this
/-- the class's way -/
theorem xpas_T {f : xP} {L : Nat} (hL : L ≤ 64) (hf : xsup f L) : ∀ d, d ≤ L - 1 → (∀ i, i < d → xpas L d f i = xTa 64 f i) ∧ ∀ k, xTa 64 f (d + k) = xTa 64 (fun t => xpas L d f (d + t)) k := by
  intro d
  induction d with
  | zero =>
    intro _
    refine ⟨fun i hi => absurd hi (by omega), fun k => ?_⟩
    show xTa 64 f (0 + k) = xTa 64 (fun t => f (0 + t)) k
    have e : (fun t => f (0 + t)) = f := by funext t; rw [Nat.zero_add]
    rw [e, Nat.zero_add]
  | succ d ih =>
    intro hd
    obtain ⟨h1, h2⟩ := ih (by omega)
    have sg := xpas_sup hf L d (Nat.le_refl _)
    have eP : xpas L (d + 1) f = xsuf (xpas L d f) L d := rfl
    rw [eP]
    generalize xpas L d f = g at h1 h2 sg ⊢
    show (∀ i, i < d + 1 → xsuf g L d i = xTa 64 f i) ∧ ∀ k, xTa 64 f (d + 1 + k) = xTa 64 (fun t => xsuf g L d (d + 1 + t)) k
    have hs : ∀ k, xsuf g L d (d + k) = xS (L - (d + k)) (fun t => g (d + k + t)) := fun k => by unfold xsuf; rw [if_pos (by omega)]
    have hstep : ∀ k, xsuf g L d (d + k) = g (d + k) + xsuf g L d (d + (k + 1)) := fun k => by
      rw [hs, hs]
      by_cases hk : d + k < L
      · rw [show L - (d + k) = L - (d + (k + 1)) + 1 by omega, xS_head]
        congr 1
        exact xS_congr (fun t _ => by congr 1; omega)
      · rw [show L - (d + k) = 0 by omega, show L - (d + (k + 1)) = 0 by omega, sg (d + k) (by omega), xS_0, xS_0]; grind
    have sr : xsup (fun t => xsuf g L d (d + 1 + t)) 63 := fun t ht => by
      show xsuf g L d (d + 1 + t) = 0
      rw [show d + 1 + t = d + (1 + t) by omega, hs, show L - (d + (1 + t)) = 0 by omega, xS_0]
    have eq : (fun t => g (d + t)) = xad (xc (xsuf g L d d)) (xsb (xsh (fun t => xsuf g L d (d + 1 + t))) (fun t => xsuf g L d (d + 1 + t))) := by
      funext k
      show g (d + k) = xc _ k + (xsh _ k - xsuf g L d (d + 1 + k))
      have := hstep k
      cases k with
      | zero =>
        rw [xc_at, if_pos rfl]
        show g (d + 0) = xsuf g L d d + (0 - xsuf g L d (d + 1 + 0))
        rw [Nat.add_zero] at this ⊢
        rw [show d + (0 + 1) = d + 1 + 0 by omega] at this
        grind
      | succ k =>
        rw [xc_at, if_neg (by omega)]
        show g (d + (k + 1)) = 0 + (xsuf g L d (d + 1 + k) - xsuf g L d (d + 1 + (k + 1)))
        rw [show d + 1 + k = d + (k + 1) by omega, show d + 1 + (k + 1) = d + (k + 1 + 1) by omega]
        grind
    have eT : xTa 64 (fun t => g (d + t)) = xad (xc (xsuf g L d d)) (xsb (xlin (xTa 64 (fun t => xsuf g L d (d + 1 + t))) 1) (xTa 64 (fun t => xsuf g L d (d + 1 + t)))) := by
      rw [eq, xTa_ad, xTa_c (by decide), xTa_sb, xTa_sh 63, xTa_n (N := 64) (n := 63) sr (by decide)]
    refine ⟨fun i hi => ?_, fun k => ?_⟩
    · by_cases hid : i = d
      · subst hid
        have := h2 0
        rw [eT] at this
        rw [Nat.add_zero] at this
        rw [this]
        show _ = xc _ 0 + ((0 + 1 * _) - _)
        rw [xc_at, if_pos rfl]; grind
      · have : xsuf g L d i = g i := by unfold xsuf; rw [if_neg (by omega)]
        rw [this]; exact h1 i (by omega)
    · have := h2 (k + 1)
      rw [eT] at this
      rw [show d + 1 + k = d + (k + 1) by omega, this]
      show xc _ (k + 1) + ((xTa 64 (fun t => xsuf g L d (d + 1 + t)) k + 1 * xTa 64 (fun t => xsuf g L d (d + 1 + t)) (k + 1)) - xTa 64 (fun t => xsuf g L d (d + 1 + t)) (k + 1)) = _
      rw [xc_at, if_neg (by omega)]; grind
theorem xmv_Ta {f : xP} (hf : xsup f 64) : xmv 64 f = xTa 64 f := by
  have hl := xlen_le f 64
  have hs := xlen_sup hf
  obtain ⟨h1, h2⟩ := xpas_T hl hs (xlen f 64 - 1) (Nat.le_refl _)
  have sg := xpas_sup hs (xlen f 64) (xlen f 64 - 1) (Nat.le_refl _)
  unfold xmv
  generalize xpas (xlen f 64) (xlen f 64 - 1) f = g at h1 h2 sg
  funext i
  by_cases hi : i < xlen f 64 - 1
  · exact h1 i hi
  · have := h2 (i - (xlen f 64 - 1))
    have e : (fun t => g (xlen f 64 - 1 + t)) = xc (g (xlen f 64 - 1)) := by
      funext t; rw [xc_at]
      by_cases ht : t = 0
      · subst ht; rw [if_pos rfl, Nat.add_zero]
      · rw [if_neg ht]; exact sg _ (by omega)
    rw [e, xTa_c (by decide), show xlen f 64 - 1 + (i - (xlen f 64 - 1)) = i by omega] at this
    rw [this, xc_at]
    by_cases h0 : i - (xlen f 64 - 1) = 0
    · rw [if_pos h0, show i = xlen f 64 - 1 by omega]
    · rw [if_neg h0]; exact sg i (by omega)
theorem xmv_mM {f : xP} (hf : xsup f 64) : xmv 64 f = xmM 63 f := (xmv_Ta hf).trans (xmM_Ta hf).symm
/-- n + v -/
def xnv (v : xF) : xP := xad (xmo 1 1) (xc v)
theorem xsh_mul (f : xP) : xsh f = xmul (xmo 1 1) f := by
  rw [xmul_mo]; funext i
  cases i with
  | zero => rw [if_neg (by omega)]; rfl
  | succ i => rw [if_pos (by omega)]; show f i = 1 * f (i + 1 - 1); rw [show i + 1 - 1 = i by omega]; grind
theorem xr_lin {R : Type} [Lean.Grind.CommRing R] (m c f : R) : m * f + c * f = (m + c) * f := by grind
theorem xlin_mul (f : xP) (v : xF) : xlin f v = xmul (xnv v) f := by
  have h := @xr_lin xP xring (xmo 1 1) (xc v) f
  refine Eq.trans ?_ h
  show xlin f v = xad (xmul (xmo 1 1) f) (xmul (xc v) f)
  rw [← xsh_mul, xmul_c]; rfl
theorem xlit_mul (v : xF) (k : Nat) (f g : xP) : xlit v k (xmul f g) = xmul (xlit v k f) g := by
  induction k with
  | zero => rfl
  | succ k ih => rw [xlit_s, xlit_s, ih, xlin_mul, xlin_mul, xmul_assoc]
theorem xlit_1 (v : xF) (k : Nat) (f : xP) : xlit v k f = xmul (xlit v k x1) f := by
  rw [← xlit_mul]; congr 1; rw [x1_c, xmul_comm, xmul_1]
theorem xr_hom {R : Type} [Lean.Grind.CommRing R] (c s Tg nv : R) : c * Tg + nv * (s * Tg) = (c + nv * s) * Tg := by grind
theorem xr_dec {R : Type} [Lean.Grind.CommRing R] (c m f g : R) : (c + m * f) * g = c * g + m * (f * g) := by grind
/-- .. of a product -/
theorem xTa_mul : ∀ (a : Nat) (f g : xP) (b N : Nat), xsup f a → xsup g b → a + b ≤ N → xTa N (xmul f g) = xmul (xTa N f) (xTa N g) := by
  intro a
  induction a with
  | zero =>
    intro f g b N hf _ _
    have e : f = xc 0 := by rw [xc_0]; funext k; exact hf k (by omega)
    rw [e, xmul_0]
    by_cases hN : 1 ≤ N
    · rw [xTa_c hN, xmul_0]
    · rw [show N = 0 by omega]
      have : ∀ h : xP, xTa 0 h = xc 0 := fun h => by rw [xc_0]; rfl
      rw [this, this, xmul_0]
  | succ a ih =>
    intro f g b N hf hg hN
    obtain ⟨M, rfl⟩ : ∃ M, N = M + 1 := ⟨N - 1, by omega⟩
    have sf' : xsup (fun t => f (t + 1)) a := fun t ht => hf _ (by omega)
    have ihf := ih (fun t => f (t + 1)) g b M sf' hg (by omega)
    have e := xdec f
    have e1 : xmul f g = xad (xmul (xc (f 0)) g) (xsh (xmul (fun t => f (t + 1)) g)) := by
      refine (congrArg (fun z => xmul z g) e).trans ?_
      rw [xsh_mul, xsh_mul]
      exact @xr_dec xP xring (xc (f 0)) (xmo 1 1) (fun t => f (t + 1)) g
    have e2 : xTa (M + 1) f = xad (xc (f 0)) (xlin (xTa M (fun t => f (t + 1))) 1) := by
      refine (congrArg (fun z => xTa (M + 1) z) e).trans ?_
      show xTa (M + 1) (xad _ _) = _
      rw [xTa_ad, xTa_c (by omega), xTa_sh]
    have e3 : xTa M g = xTa (M + 1) g := by rw [xTa_n hg (by omega), ← xTa_n (N := M + 1) hg (by omega)]
    rw [e1, xTa_ad, xTa_sm, xTa_sh, ihf, e3, e2, xlin_mul, xlin_mul]
    exact @xr_hom xP xring (xc (f 0)) (xTa M (fun t => f (t + 1))) (xTa (M + 1) g) (xnv 1)
/-- the moved parts are in lowest terms -/
theorem xlow_moved {T Bt : xP} (h : xLow T Bt) (sT : xsup T 64) (sB : xsup Bt 64) : xLow (xTa 64 T) (xTa 64 Bt) := by
  obtain ⟨-, ⟨i, hi, hi2⟩, u, v, ⟨nu, hu⟩, ⟨nv, hv⟩, e⟩ := h
  refine ⟨⟨64, xTa_sup 64 sT⟩, ⟨i, ?_, xTa_sup 64 hi2⟩, ?_⟩
  · have hi64 : i < 64 := Nat.lt_of_not_le fun q => by rw [sB i q] at hi; exact x_one_nz hi.symm
    show xS 64 (fun j => Bt j * xlit 1 j x1 i) = 1
    rw [xS_one (k := i) hi64 (fun j h1 h2 => ?_), hi]
    · have : ∀ j, xlit 1 j x1 j = 1 := fun j => by
        induction j with
        | zero => rfl
        | succ j ih =>
          rw [xlit_s]
          show xlit 1 j x1 j + 1 * xlit 1 j x1 (j + 1) = 1
          rw [ih, xlit_sup x1_sup j (j + 1) (by omega)]; grind
      rw [this i]; grind
    · by_cases hji : j < i
      · rw [xlit_sup x1_sup j i (by omega)]; grind
      · rw [hi2 j (by omega)]; grind
  · obtain ⟨N, hN⟩ : ∃ N, N = nu + nv + 64 + 1 := ⟨_, rfl⟩
    refine ⟨xTa N u, xTa N v, ⟨nu, xTa_sup N hu⟩, ⟨nv, xTa_sup N hv⟩, ?_⟩
    have eT : xTa 64 T = xTa N T := (xTa_n sT (by omega)).symm
    have eB : xTa 64 Bt = xTa N Bt := (xTa_n sB (by omega)).symm
    rw [eT, eB, ← xTa_mul nu u T 64 N hu sT (by omega), ← xTa_mul nv v Bt 64 N hv sB (by omega), ← xTa_ad, e, xTa_c (by omega)]
