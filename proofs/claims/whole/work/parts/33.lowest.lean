/-! ===== division, divisors, lowest terms ===== -/
theorem xr_dv {R : Type} [Lean.Grind.CommRing R] (f z m g f' z' : R) (h1 : f' = f - m * g) (h2 : z' = z + m) : f' + z' * g = f + z * g := by grind
def xmo (v : xF) (k : Nat) : xP := va_up (fun _ => 0) k v
theorem xmul_mo (v : xF) (k : Nat) (g : xP) : xmul (xmo v k) g = fun i => if k ≤ i then v * g (i - k) else 0 := by
  funext i
  show xS (i + 1) (fun j => xmo v k j * g (i - j)) = _
  by_cases h : k ≤ i
  · rw [if_pos h, xS_one (k := k) (by omega) (fun j h1 h2 => by unfold xmo; rw [va_up_ne _ _ h2]; grind)]
    unfold xmo; rw [va_up_self]
  · rw [if_neg h]
    exact xS_zero (fun j hj => by unfold xmo; rw [va_up_ne _ _ (by omega)]; grind)
theorem xgat_sub (f g : xP) (v : xF) (k : Nat) : xgat f (xO (32003 - v.val)) g k = xsb f (xmul (xmo v k) g) := by
  rw [xgatm, xmul_mo]; funext i
  show _ = f i - _
  split <;> grind
theorem xdv_eq (g : xP) (b : Nat) (iv : xF) : ∀ (j : Nat) (f z : xP), (∀ k, k < j → z k = 0) → xad (xdv g b iv j f z).1 (xmul (xdv g b iv j f z).2 g) = xad f (xmul z g) := by
  intro j
  induction j with
  | zero => intro f z _; rfl
  | succ k ih =>
    intro f z hz
    rw [xdv_s, ih _ _ (fun i hi => by rw [va_up_ne _ _ (by omega)]; exact hz i (by omega))]
    refine @xr_dv xP xring f z (xmo (f (k + b) * iv) k) g _ _ (xgat_sub f g _ k) ?_
    funext i
    show va_up z k _ i = z i + xmo _ k i
    unfold xmo
    by_cases h : i = k
    · subst h; rw [va_up_self, va_up_self, hz i (by omega)]; grind
    · rw [va_up_ne _ _ h, va_up_ne _ _ h]; grind
theorem xdv_deg {g : xP} {b : Nat} {iv : xF} (hg : xsup g (b + 1)) (hi : iv * g b = 1) : ∀ (j : Nat) (f z : xP), xsup f (j + b) → xsup (xdv g b iv j f z).1 b := by
  intro j
  induction j with
  | zero => intro f z h; rw [Nat.zero_add] at h; exact h
  | succ k ih =>
    intro f z h
    rw [xdv_s]
    refine ih _ _ (fun i h1 => ?_)
    rw [xgatm]
    show (if k ≤ i then _ else _) = _
    rw [if_pos (by omega)]
    by_cases h2 : i = k + b
    · subst h2; rw [show k + b - k = b by omega]; grind
    · rw [h i (by omega), hg (i - k) (by omega)]; grind
theorem xrem_sup {f g : xP} (hf : xsup f 64) (hg : xsup g 64) (h0 : xlen g 64 ≠ 0) : xsup (xrem f g) (xlen g 64 - 1) := by
  have h1 := xlen_sup hf
  have h2 := xlen_sup hg
  obtain ⟨b, hb⟩ : ∃ b, xlen g 64 = b + 1 := ⟨xlen g 64 - 1, by omega⟩
  unfold xrem xqr
  rw [hb] at h2 ⊢
  rw [show b + 1 - 1 = b by omega]
  refine xdv_deg h2 (by rw [show xinv (g b) * g b = g b * xinv (g b) by grind]; exact xinv_mul (xlen_top hb)) _ _ _ (xsup_mono h1 (by omega))
theorem xrem_lt {f g : xP} (hf : xsup f 64) (hg : xsup g 64) (h0 : xlen g 64 ≠ 0) : xlen (xrem f g) 64 < xlen g 64 := by
  have := xlen_sle (n := 64) (xrem_sup hf hg h0)
  omega
theorem xqr_eq (f g : xP) : f = xad (xrem f g) (xmul (xquo f g) g) := by
  have h := xdv_eq g (xlen g 64 - 1) (xinv (g (xlen g 64 - 1))) (xlen f 64 + 1 - xlen g 64) f (fun _ => 0) (fun _ _ => rfl)
  have e : xad f (xmul (fun _ => 0) g) = f := by
    rw [← xc_0, xmul_0, xc_0]; funext i; show f i + 0 = f i; grind
  rw [e] at h
  exact h.symm
/-- a polynomial -/
def xpl (f : xP) : Prop := ∃ n, xsup f n
theorem xpl_mul {f g : xP} (hf : xpl f) (hg : xpl g) : xpl (xmul f g) := by
  obtain ⟨a, ha⟩ := hf
  obtain ⟨b, hb⟩ := hg
  exact ⟨_, xmul_sup ha hb⟩
theorem xpl_ad {f g : xP} (hf : xpl f) (hg : xpl g) : xpl (xad f g) := by
  obtain ⟨a, ha⟩ := hf
  obtain ⟨b, hb⟩ := hg
  exact ⟨max a b, fun k hk => by show f k + g k = 0; rw [ha k (by omega), hb k (by omega)]; grind⟩
theorem xpl_sb {f g : xP} (hf : xpl f) (hg : xpl g) : xpl (xsb f g) := by
  obtain ⟨a, ha⟩ := hf
  obtain ⟨b, hb⟩ := hg
  exact ⟨max a b, fun k hk => by show f k - g k = 0; rw [ha k (by omega), hb k (by omega)]; grind⟩
theorem xpl_c (v : xF) : xpl (xc v) := ⟨1, fun k hk => by rw [xc_at, if_neg (by omega)]⟩
/-- its highest place -/
theorem xpl_top {f : xP} (hf : xpl f) {j : Nat} (hj : f j ≠ 0) : ∃ i, f i ≠ 0 ∧ xsup f (i + 1) := by
  obtain ⟨n, hn⟩ := hf
  cases h : xlen f n with
  | zero => exact absurd ((xlen_0 hn).mp h j) hj
  | succ i =>
    have := xlen_sup hn
    rw [h] at this
    exact ⟨i, xlen_top h, this⟩
/-- there are no divisors of 0 -/
theorem xdom {f g : xP} (h : ∀ i, xmul f g i = 0) {j : Nat} (hj : g j ≠ 0) : ∀ i, f i = 0 := by
  intro i
  apply Classical.byContradiction
  intro hi
  obtain ⟨a, ha, ha2⟩ := pk_least (fun k => f k ≠ 0) ⟨i, hi⟩
  obtain ⟨b, hb, hb2⟩ := pk_least (fun k => g k ≠ 0) ⟨j, hj⟩
  have e : xmul f g (a + b) = f a * g b := by
    show xS (a + b + 1) (fun i => f i * g (a + b - i)) = _
    rw [xS_one (k := a) (by omega) (fun t h1 h2 => ?_)]
    · rw [show a + b - a = b by omega]
    · by_cases h3 : t < a
      · rw [Classical.not_not.mp (ha2 t h3)]; grind
      · rw [Classical.not_not.mp (hb2 (a + b - t) (by omega))]; grind
  exact xF_nz ha hb (e.symm.trans (h _))
theorem xr_cc {R : Type} [Lean.Grind.CommRing R] (f h g : R) (e : f * g = h * g) : (f - h) * g = 0 := by grind
theorem xcancel {f h g : xP} (e : xmul f g = xmul h g) {j : Nat} (hj : g j ≠ 0) : f = h := by
  have h1 : xmul (xsb f h) g = xc (xO 0) := @xr_cc xP xring f h g e
  have h2 := xdom (f := xsb f h) (g := g) (fun i => by rw [h1, xc_at]; split <;> first | rfl | decide) hj
  funext i
  have := h2 i
  have h3 : xsb f h i = f i - h i := rfl
  grind
/-- g divides f -/
def xdd (g f : xP) : Prop := ∃ s, xpl s ∧ f = xmul s g
theorem xr_g1 {R : Type} [Lean.Grind.CommRing R] (f r q g d s1 s2 : R) (h : f = r + q * g) (h1 : g = s1 * d) (h2 : r = s2 * d) : f = (s2 + q * s1) * d := by grind
theorem xr_g2 {R : Type} [Lean.Grind.CommRing R] (f r q g d u v : R) (h : f = r + q * g) (h1 : d = u * g + v * r) : d = v * f + (u - v * q) * g := by grind
theorem xr_g3 {R : Type} [Lean.Grind.CommRing R] (f g : R) : f = 1 * f + 0 * g := by grind
theorem xgcd_ok : ∀ (r : Nat) (f g : xP), xsup f 64 → xsup g 64 → xlen g 64 < r → xdd (xgcd r f g) f ∧ xdd (xgcd r f g) g ∧ ∃ u v, xpl u ∧ xpl v ∧ xgcd r f g = xad (xmul u f) (xmul v g) := by
  intro r
  induction r with
  | zero => intro f g _ _ h; omega
  | succ r ih =>
    intro f g hf hg hr
    by_cases h : xlen g 64 = 0
    · rw [xgcd_z _ h]
      have hz : g = xc 0 := by rw [xc_0]; funext i; exact (xlen_0 hg).mp h i
      refine ⟨⟨xc 1, xpl_c 1, by rw [xmul_comm, xmul_1]⟩, ⟨xc 0, xpl_c 0, by rw [xmul_0]; exact hz⟩, xc 1, xc 0, xpl_c 1, xpl_c 0, ?_⟩
      have := @xr_g3 xP xring f g
      have e0 : xO 0 = 0 := by decide +kernel
      rw [← xO_1, ← e0]
      exact this
    · rw [xgcd_s _ h]
      obtain ⟨⟨s1, p1, e1⟩, ⟨s2, p2, e2⟩, u, v, pu, pv, e3⟩ := ih g (xrem f g) hg (xqr_sup hf hg h).1 (by have := xrem_lt hf hg h; omega)
      have e := xqr_eq f g
      have pq : xpl (xquo f g) := ⟨64, (xqr_sup hf hg h).2⟩
      exact ⟨⟨_, xpl_ad p2 (xpl_mul pq p1), @xr_g1 xP xring _ _ _ _ _ _ _ e e1 e2⟩, ⟨s1, p1, e1⟩, v, _, pv, xpl_sb pu (xpl_mul pv pq), @xr_g2 xP xring _ _ _ _ _ _ _ e e3⟩
theorem xr_q {R : Type} [Lean.Grind.CommRing R] (t d s r q : R) (h : t = s * d) (h1 : t = r + q * d) : (s - q) * d = r := by grind
theorem xquo_ex {t d : xP} (ht : xsup t 64) (hd : xsup d 64) (h0 : xlen d 64 ≠ 0) (h : xdd d t) : t = xmul (xquo t d) d := by
  obtain ⟨s, ps, e⟩ := h
  have h1 := @xr_q xP xring t d s _ _ e (xqr_eq t d)
  have h1 : xmul (xsb s (xquo t d)) d = xrem t d := h1
  have hz : ∀ i, xsb s (xquo t d) i = 0 := by
    intro i
    apply Classical.byContradiction
    intro hi
    obtain ⟨a, ha, ha2⟩ := xpl_top (xpl_sb ps ⟨64, (xqr_sup ht hd h0).2⟩) hi
    obtain ⟨b, hb⟩ : ∃ b, xlen d 64 = b + 1 := ⟨xlen d 64 - 1, by omega⟩
    have hd2 := xlen_sup hd
    rw [hb] at hd2
    have h2 := xmul_top ha2 hd2
    rw [h1, xrem_sup ht hd h0 (a + b) (by omega)] at h2
    exact xF_nz ha (xlen_top hb) h2.symm
  have : s = xquo t d := by
    funext i
    have := hz i
    have h3 : xsb s (xquo t d) i = s i - xquo t d i := rfl
    grind
  rw [← this]; exact e
/-- in lowest terms, with 1 at the bottom's highest power -/
def xLow (T Bt : xP) : Prop := xpl T ∧ (∃ i, Bt i = 1 ∧ xsup Bt (i + 1)) ∧ ∃ u v, xpl u ∧ xpl v ∧ xad (xmul u T) (xmul v Bt) = xc 1
theorem xr_b {R : Type} [Lean.Grind.CommRing R] (d u v t b q1 q2 : R) (h : d = u * t + v * b) (h1 : t = q1 * d) (h2 : b = q2 * d) : (u * q1 + v * q2) * d = 1 * d := by grind
theorem xr_c {R : Type} [Lean.Grind.CommRing R] (u v q1 q2 c ci : R) (h : u * q1 + v * q2 = 1) (hc : c * ci = 1) : (u * ci) * (c * q1) + (v * ci) * (c * q2) = 1 := by grind
theorem xr_d {R : Type} [Lean.Grind.CommRing R] (t b q1 q2 d c : R) (h1 : t = q1 * d) (h2 : b = q2 * d) : (c * q1) * b = t * (c * q2) := by grind
theorem x_one_nz : (1 : xF) ≠ 0 := by decide
theorem xquo_ne {t b : xP} (ht : xsup t 64) (hb : xsup b 64) (h0 : xlen b 64 ≠ 0) : xlen (xquo b (xgcd 65 t b)) 64 ≠ 0 := by
  have hd := xgcd_sup 65 ht hb
  have hd0 : xlen (xgcd 65 t b) 64 ≠ 0 := xgcd_ne2 64 h0
  obtain ⟨-, g2, -⟩ := xgcd_ok 65 t b ht hb (by have := xlen_le b 64; omega)
  have e := xquo_ex hb hd hd0 g2
  intro q
  have hz := (xlen_0 (xqr_sup hb hd hd0).2).mp q
  refine h0 ((xlen_0 hb).mpr (fun k => ?_))
  rw [e]
  exact xS_zero (fun i _ => by rw [hz i]; grind)
theorem xnorm_low {t b : xP} (ht : xsup t 64) (hb : xsup b 64) (h0 : xlen b 64 ≠ 0) : xLow (xnT t b) (xnB t b) ∧ xmul (xnT t b) b = xmul t (xnB t b) := by
  have hd := xgcd_sup 65 ht hb
  have hd0 : xlen (xgcd 65 t b) 64 ≠ 0 := xgcd_ne2 64 h0
  obtain ⟨g1, g2, u, v, pu, pv, e⟩ := xgcd_ok 65 t b ht hb (by have := xlen_le b 64; omega)
  have e1 := xquo_ex ht hd hd0 g1
  have e2 := xquo_ex hb hd hd0 g2
  have hq := xquo_ne ht hb h0
  have s1 := (xqr_sup ht hd hd0).2
  have s2 := (xqr_sup hb hd hd0).2
  obtain ⟨L, hL⟩ : ∃ L, xlen (xquo b (xgcd 65 t b)) 64 = L + 1 := ⟨xlen (xquo b (xgcd 65 t b)) 64 - 1, by omega⟩
  have hl := xlen_le (xquo b (xgcd 65 t b)) 64
  have htop := xlen_top hL
  have hc : xnc t b = xinv (xquo b (xgcd 65 t b) L) := by
    unfold xnc xhi; rw [hL, x_m1, xcf_n _ (by omega)]
  have hcc : xquo b (xgcd 65 t b) L * xnc t b = 1 := by rw [hc]; exact xinv_mul htop
  have hT : xnT t b = xmul (xc (xnc t b)) (xquo t (xgcd 65 t b)) := by
    rw [xmul_c]; funext i; show _ * _ = _; grind
  have hB : xnB t b = xmul (xc (xnc t b)) (xquo b (xgcd 65 t b)) := by
    rw [xmul_c]; funext i; show _ * _ = _; grind
  obtain ⟨j, hj⟩ : ∃ j, xgcd 65 t b j ≠ 0 := by
    obtain ⟨b', hb'⟩ : ∃ b', xlen (xgcd 65 t b) 64 = b' + 1 := ⟨xlen (xgcd 65 t b) 64 - 1, by omega⟩
    exact ⟨b', xlen_top hb'⟩
  have hbz : xad (xmul u (xquo t (xgcd 65 t b))) (xmul v (xquo b (xgcd 65 t b))) = xc (xO 1) := xcancel (@xr_b xP xring _ _ _ _ _ _ _ e e1 e2) hj
  have hci : xmul (xc (xnc t b)) (xc (xquo b (xgcd 65 t b) L)) = xc (xO 1) := by
    rw [xmul_c, xO_1]; funext i; rw [xc_at, xc_at]; split <;> grind
  refine ⟨⟨?_, ⟨L, ?_, ?_⟩, _, _, xpl_mul pu (xpl_c (xquo b (xgcd 65 t b) L)), xpl_mul pv (xpl_c (xquo b (xgcd 65 t b) L)), ?_⟩, ?_⟩
  · rw [hT]; exact xpl_mul (xpl_c _) ⟨64, s1⟩
  · show xquo b (xgcd 65 t b) L * xnc t b = 1; exact hcc
  · have := xlen_sup s2
    rw [hL] at this
    exact xsc_sup this
  · rw [hT, hB]
    have := @xr_c xP xring _ _ _ _ _ _ hbz hci
    exact this.trans (by show xc (xO 1) = xc 1; rw [xO_1])
  · rw [hT, hB]; exact @xr_d xP xring _ _ _ _ _ _ e1 e2
theorem xr_u {R : Type} [Lean.Grind.CommRing R] (T B T' B' u v : R) (h : u * T' + v * B' = 1) (e : T * B' = T' * B) : B = (u * T + v * B) * B' := by grind
theorem xlow_half {T Bt T' Bt' : xP} (h1 : xLow T Bt) (h2 : xLow T' Bt') (e : xmul T Bt' = xmul T' Bt) : ∃ k, xpl k ∧ Bt = xmul k Bt' := by
  obtain ⟨u, v, pu, pv, hb⟩ := h2.2.2
  obtain ⟨i, hi, hi2⟩ := h1.2.1
  exact ⟨_, xpl_ad (xpl_mul pu h1.1) (xpl_mul pv ⟨_, hi2⟩), @xr_u xP xring T Bt T' Bt' u v (hb.trans (by show xc 1 = xc (xO 1); rw [xO_1])) e⟩
theorem xmono_top {Bt Bt' k : xP} {i i' : Nat} (hi : Bt i = 1) (hi2 : xsup Bt (i + 1)) (hi' : Bt' i' = 1) (hi2' : xsup Bt' (i' + 1)) (pk : xpl k) (e : Bt = xmul k Bt') : ∃ m, k m = 1 ∧ xsup k (m + 1) ∧ i = m + i' := by
  have hk : ∃ j, k j ≠ 0 := by
    apply Classical.byContradiction
    intro q
    have hz : ∀ j, k j = 0 := fun j => Classical.byContradiction fun z => q ⟨j, z⟩
    rw [e] at hi
    have : xmul k Bt' i = 0 := xS_zero (fun t _ => by rw [hz t]; grind)
    exact x_one_nz (hi.symm.trans this)
  obtain ⟨j, hj⟩ := hk
  obtain ⟨m, hm, hm2⟩ := xpl_top pk hj
  have ht := xmul_top hm2 hi2'
  rw [← e, hi'] at ht
  have h1 : m + i' ≤ i := by
    apply Classical.byContradiction
    intro q
    rw [hi2 (m + i') (by omega)] at ht
    exact hm (by grind)
  have h2 : i ≤ m + i' := by
    apply Classical.byContradiction
    intro q
    have := xmul_sup hm2 hi2' i (by omega)
    rw [← e, hi] at this
    exact x_one_nz this
  have h3 : i = m + i' := by omega
  refine ⟨m, ?_, hm2, h3⟩
  rw [← h3, hi] at ht; grind
theorem xlow_uniq {T Bt T' Bt' : xP} (h1 : xLow T Bt) (h2 : xLow T' Bt') (e : xmul T Bt' = xmul T' Bt) : T = T' ∧ Bt = Bt' := by
  obtain ⟨k, pk, e1⟩ := xlow_half h1 h2 e
  obtain ⟨k', pk', e2⟩ := xlow_half h2 h1 e.symm
  obtain ⟨i, hi, hi2⟩ := h1.2.1
  obtain ⟨i', hi', hi2'⟩ := h2.2.1
  obtain ⟨m, hm, hm2, e3⟩ := xmono_top hi hi2 hi' hi2' pk e1
  obtain ⟨m', -, -, e4⟩ := xmono_top hi' hi2' hi hi2 pk' e2
  have hm0 : m = 0 := by omega
  subst hm0
  have hk : k = xc 1 := by
    funext t; rw [xc_at]
    by_cases ht : t = 0
    · subst ht; rw [if_pos rfl]; exact hm
    · rw [if_neg ht]; exact hm2 t (by omega)
  have hB : Bt = Bt' := by rw [e1, hk, xmul_comm, xmul_1]
  subst hB
  exact ⟨xcancel e (j := i) (by rw [hi]; exact x_one_nz), rfl⟩
theorem xr_n {R : Type} [Lean.Grind.CommRing R] (T B T' B' t b : R) (h : T * b = t * B) (h' : T' * b = t * B') : (T * B') * b = (T' * B) * b := by grind
/-- lowest terms are unique -/
theorem xnorm_uniq {T Bt t b : xP} (h : xLow T Bt) (ht : xsup t 64) (hb : xsup b 64) (h0 : xlen b 64 ≠ 0) (e : xmul T b = xmul t Bt) : xnT t b = T ∧ xnB t b = Bt := by
  obtain ⟨h1, h2⟩ := xnorm_low ht hb h0
  obtain ⟨j, hj⟩ : ∃ j, b j ≠ 0 := by
    obtain ⟨b', hb'⟩ : ∃ b', xlen b 64 = b' + 1 := ⟨xlen b 64 - 1, by omega⟩
    exact ⟨b', xlen_top hb'⟩
  have := xcancel (@xr_n xP xring _ _ _ _ _ _ h2 e) hj
  exact xlow_uniq h1 h this
