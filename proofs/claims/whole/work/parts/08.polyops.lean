/-! ===== what Polynomial's methods do to the numbers: pure rows ===== -/
theorem x_dec (a : Int32) : a + Int32.ofInt (-1) = a - 1 := by rw [Int32.sub_eq_add_neg]; rfl
theorem x_inc (k : Nat) : nI k + Int32.ofInt 1 = nI (k + 1) := nI_1 k
/-- k > highest, as Java asks it -/
theorem x_gt_hi {k j : Nat} (hk : k < 2 ^ 30) (hj : j < 2 ^ 30) : nI j - 1 < nI k ↔ j ≤ k := by
  cases j with
  | zero =>
    refine ⟨fun _ => Nat.zero_le _, fun _ => ?_⟩
    apply Int32.lt_iff_toInt_lt.mpr
    rw [nI_toInt (n := k) (by omega), show (nI 0 - 1).toInt = -1 by decide]
    omega
  | succ i => rw [x_m1, nI_ltI (by omega) (by omega)]; omega
/-- highest ≤ k, as Java asks it -/
theorem x_ge_hi {k j : Nat} (hk : k < 2 ^ 30) (hj : j < 2 ^ 30) : nI j - 1 ≤ nI k ↔ j ≤ k + 1 := by
  cases j with
  | zero =>
    refine ⟨fun _ => Nat.zero_le _, fun _ => ?_⟩
    apply Int32.le_iff_toInt_le.mpr
    rw [nI_toInt (n := k) (by omega), show (nI 0 - 1).toInt = -1 by decide]
    omega
  | succ i => rw [x_m1, nI_leI (by omega) (by omega)]; omega
theorem x_lenB (f : xP) {n : Nat} (h : n ≤ 64) : xlen f n < 2 ^ 30 := by have := xlen_le f n; omega
/-- f below j -/
def xcut (f : xP) (j : Nat) : xP := fun i => if i < j then f i else 0
theorem xcut_0 (f : xP) : xcut f 0 = fun _ => 0 := by funext i; simp [xcut]
theorem xcut_sup {f : xP} {n : Nat} (h : xsup f n) : xcut f n = f := by
  funext i; unfold xcut; split
  · rfl
  · rename_i hh; exact (h i (by omega)).symm
theorem xcut_dn (f : xP) (j : Nat) : va_up (xcut f (j + 1)) j 0 = xcut f j := by
  funext i
  by_cases h : i = j
  · subst h; simp [va_up, xcut]
  · simp only [va_up, xcut, h, if_false]
    by_cases h2 : i < j
    · rw [if_pos (by omega), if_pos h2]
    · rw [if_neg (by omega), if_neg h2]
theorem xcut_up (f : xP) (j : Nat) : va_up (xcut f j) j (f j) = xcut f (j + 1) := by
  funext i
  by_cases h : i = j
  · subst h; simp [va_up, xcut]
  · simp only [va_up, xcut, h, if_false]
    by_cases h2 : i < j
    · rw [if_pos h2, if_pos (by omega)]
    · rw [if_neg h2, if_neg (by omega)]
theorem xsup_cut (f : xP) {j n : Nat} (h : j ≤ n) : xsup (xcut f j) n := fun k hk => by unfold xcut; rw [if_neg (by omega)]
theorem xsup_cut2 {f : xP} {j n : Nat} (h : xsup f n) : xsup (xcut f j) n := fun k hk => by
  unfold xcut; split
  · exact h k hk
  · rfl
theorem xsup_z (n : Nat) : xsup (fun _ => 0) n := fun _ _ => rfl
theorem xhi_z (n : Nat) : xhi (fun _ => 0) n = -1 := by
  unfold xhi; rw [(xlen_0 (xsup_z n)).mpr (fun _ => rfl)]; decide
/-- the product -/
def xmul (f g : xP) : xP := fun k => xS (k + 1) (fun i => f i * g (k - i))
theorem xmul_sup {f g : xP} {a b : Nat} (hf : xsup f a) (hg : xsup g b) : xsup (xmul f g) (a + b - 1) := fun k hk => by
  refine xS_zero (fun i hi => ?_)
  by_cases h : i < a
  · rw [hg (k - i) (by omega)]; grind
  · rw [hf i (by omega)]; grind
/-- this + factor * n^power * other -/
def xgat (f : xP) (q : xF) (g : xP) (pw : Nat) : xP := fun i => if pw ≤ i then f i + q * g (i - pw) else f i
/-- .. as far as k -/
def xgatk (f : xP) (q : xF) (g : xP) (pw k : Nat) : xP := fun i => if pw ≤ i ∧ i < pw + k then f i + q * g (i - pw) else f i
theorem xgatk_0 (f : xP) (q : xF) (g : xP) (pw : Nat) : xgatk f q g pw 0 = f := by
  funext i; unfold xgatk; rw [if_neg (by omega)]
theorem xgatk_s (f : xP) (q : xF) (g : xP) (pw k : Nat) : va_up (xgatk f q g pw k) (k + pw) (xgatk f q g pw k (k + pw) + q * g k) = xgatk f q g pw (k + 1) := by
  funext i
  by_cases h : i = k + pw
  · subst h
    rw [va_up_self]; unfold xgatk
    rw [if_neg (by omega), if_pos (by omega), show k + pw - pw = k by omega]
  · rw [va_up_ne _ _ h]; unfold xgatk
    by_cases h2 : pw ≤ i ∧ i < pw + k
    · rw [if_pos h2, if_pos (by omega)]
    · rw [if_neg h2, if_neg (by omega)]
theorem xgatk_end (f : xP) (q : xF) {g : xP} {pw k : Nat} (h : xsup g k) : xgatk f q g pw k = xgat f q g pw := by
  funext i; unfold xgatk xgat
  by_cases h1 : pw ≤ i
  · rw [if_pos h1]
    by_cases h2 : i < pw + k
    · rw [if_pos ⟨h1, h2⟩]
    · rw [if_neg (by omega), h (i - pw) (by omega)]; grind
  · rw [if_neg h1, if_neg (by omega)]
theorem xgatk_sup {f : xP} {q : xF} {g : xP} {pw k n : Nat} (hf : xsup f n) (hk : pw + k ≤ n) : xsup (xgatk f q g pw k) n := fun i hi => by
  unfold xgatk; rw [if_neg (by omega)]; exact hf i hi
theorem xgat_sup {f : xP} {q : xF} {g : xP} {pw k n : Nat} (hf : xsup f n) (hg : xsup g k) (hk : k + pw ≤ n) : xsup (xgat f q g pw) n := by
  rw [← xgatk_end f q hg]; exact xgatk_sup hf (by omega)
/-- the sum that gather puts -/
theorem xR_gat (a g : xF) {q : Nat} (hq : q ≤ 32003) : xR (xJ a + lN q * xJ g) = a + xO q * g := by
  unfold xJ
  rw [lN_mul, lN_add]
  have h1 := a.isLt
  have h2 := g.isLt
  have h3 := Nat.mul_le_mul hq (show g.val ≤ 32002 by omega)
  rw [xR_lN (by omega), xO_add, xO_mul, xO_self, xO_self]
theorem xR_add (a b : xF) : xR (xJ a + xJ b) = a + b := by
  unfold xJ
  rw [lN_add]
  have h1 := a.isLt
  have h2 := b.isLt
  rw [xR_lN (by omega), xO_add, xO_self, xO_self]
theorem xR_ma (a v b : xF) : xR (xJ a * xJ v + xJ b) = a * v + b := by
  unfold xJ
  rw [lN_mul, lN_add]
  have h1 := x_val_mul_lt a v
  have h2 := b.isLt
  rw [xR_lN (by omega), xO_add, xO_mul, xO_self, xO_self, xO_self]
theorem xR_am (a v b : xF) : xR (xJ a + xJ v * xJ b) = a + v * b := by
  unfold xJ
  rw [lN_mul, lN_add]
  have h1 := x_val_mul_lt v b
  have h2 := a.isLt
  rw [xR_lN (by omega), xO_add, xO_mul, xO_self, xO_self, xO_self]
/-- times a number, from j on -/
def xsca (f : xP) (v : xF) (j : Nat) : xP := fun i => if i < j then f i else f i * v
theorem xsca_top {f : xP} {j : Nat} (v : xF) (h : xsup f j) : xsca f v j = f := by
  funext i; unfold xsca; split
  · rfl
  · rw [h i (by omega)]; grind
theorem xsca_dn (f : xP) (v : xF) (j : Nat) : va_up (xsca f v (j + 1)) j (f j * v) = xsca f v j := by
  funext i
  by_cases h : i = j
  · subst h; rw [va_up_self]; unfold xsca; rw [if_neg (by omega)]
  · rw [va_up_ne _ _ h]; unfold xsca
    by_cases h2 : i < j
    · rw [if_pos (by omega), if_pos h2]
    · rw [if_neg (by omega), if_neg h2]
theorem xsca_at (f : xP) (v : xF) (j : Nat) : xsca f v (j + 1) j = f j := by unfold xsca; rw [if_pos (by omega)]
theorem xsca_0 (f : xP) (v : xF) : xsca f v 0 = fun i => f i * v := by funext i; simp [xsca]
theorem xsca_sup {f : xP} {v : xF} {j n : Nat} (h : xsup f n) : xsup (xsca f v j) n := fun i hi => by
  unfold xsca; rw [h i hi]; split
  · rfl
  · grind
/-- times n + s, from j on -/
def xsh (f : xP) : xP := fun i => match i with
  | 0 => 0
  | i + 1 => f i
def xlin (f : xP) (v : xF) : xP := fun i => xsh f i + v * f i
def xlink (f : xP) (v : xF) (j : Nat) : xP := fun i => if i < j then f i else xlin f v i
theorem xlin_sup {f : xP} {v : xF} {n : Nat} (h : xsup f n) : xsup (xlin f v) (n + 1) := fun i hi => by
  unfold xlin
  obtain ⟨k, rfl⟩ : ∃ k, i = k + 1 := ⟨i - 1, by omega⟩
  show f k + v * f (k + 1) = 0
  rw [h k (by omega), h (k + 1) (by omega)]; grind
theorem xlink_top {f : xP} {v : xF} {j : Nat} (h : xsup f j) : xlink f v (j + 1) = f := by
  funext i; unfold xlink; split
  · rfl
  · rw [xlin_sup h i (by omega), h i (by omega)]
theorem xlink_dn (f : xP) (v : xF) (j : Nat) : va_up (xlink f v (j + 1)) j (xlin f v j) = xlink f v j := by
  funext i
  by_cases h : i = j
  · subst h; rw [va_up_self]; unfold xlink; rw [if_neg (by omega)]
  · rw [va_up_ne _ _ h]; unfold xlink
    by_cases h2 : i < j
    · rw [if_pos (by omega), if_pos h2]
    · rw [if_neg (by omega), if_neg h2]
theorem xlink_at (f : xP) (v : xF) (j : Nat) : xlink f v (j + 1) j = f j := by unfold xlink; rw [if_pos (by omega)]
theorem xlink_0 (f : xP) (v : xF) : xlink f v 0 = xlin f v := by funext i; simp [xlink]
theorem xlink_sup {f : xP} {v : xF} {j n : Nat} (h : xsup f n) : xsup (xlink f v j) (n + 1) := fun i hi => by
  unfold xlink; split
  · exact h i (by omega)
  · exact xlin_sup h i hi
theorem xcf_sh (f : xP) (v : xF) {j : Nat} (hj : j < 2 ^ 30) : xcf (xlink f v (j + 1)) (nI j - 1) = xsh f j := by
  cases j with
  | zero => unfold xcf; rw [if_pos x_neg]; rfl
  | succ i => rw [x_m1, xcf_n _ (by omega)]; unfold xlink; rw [if_pos (by omega)]; rfl
/-- sums from the top, from j on -/
def xsuf (f : xP) (L j : Nat) : xP := fun i => if j ≤ i then xS (L - i) (fun t => f (i + t)) else f i
theorem xsuf_top {f : xP} {L : Nat} (h : xsup f L) (hL : 1 ≤ L) : xsuf f L (L - 1) = f := by
  funext i; unfold xsuf; split
  · by_cases hi : i = L - 1
    · subst hi
      rw [show L - (L - 1) = 1 by omega, xS_s, xS_0]; simp only [Nat.add_zero]; grind
    · rw [show L - i = 0 by omega, xS_0, h i (by omega)]
  · rfl
theorem xsuf_dn {f : xP} {L j : Nat} (hj : j + 1 < L) : va_up (xsuf f L (j + 1)) j (f j + xsuf f L (j + 1) (j + 1)) = xsuf f L j := by
  funext i
  by_cases h : i = j
  · subst h; rw [va_up_self]; unfold xsuf
    rw [if_pos (Nat.le_refl _), if_pos (Nat.le_refl _)]
    obtain ⟨d, hd⟩ : ∃ d, L - i = d + 1 := ⟨L - i - 1, by omega⟩
    rw [hd, xS_head, show L - (i + 1) = d by omega]
    simp only [Nat.add_zero]
    congr 1
    exact xS_congr (fun t _ => by congr 1; omega)
  · rw [va_up_ne _ _ h]; unfold xsuf
    by_cases h2 : j ≤ i
    · rw [if_pos (by omega), if_pos h2]
    · rw [if_neg (by omega), if_neg h2]
theorem xsuf_at {f : xP} {L j : Nat} : xsuf f L (j + 1) j = f j := by unfold xsuf; rw [if_neg (by omega)]
theorem xsuf_sup {f : xP} {L j n : Nat} (h : xsup f n) (hL : L ≤ n) : xsup (xsuf f L j) n := fun i hi => by
  unfold xsuf; split
  · rw [show L - i = 0 by omega]; rfl
  · exact h i hi
theorem xsuf_len {f : xP} {n j : Nat} (h : xsup f n) (hj : j + 1 ≤ xlen f n) : xlen (xsuf f (xlen f n) j) n = xlen f n := by
  obtain ⟨i, hi⟩ : ∃ i, xlen f n = i + 1 := ⟨xlen f n - 1, by omega⟩
  refine xlen_eq (xlen_le f n) (fun k h1 h2 => ?_) (Or.inr ⟨i, hi, ?_⟩)
  · unfold xsuf
    rw [if_pos (by omega), show xlen f n - k = 0 by omega]; rfl
  · unfold xsuf
    rw [if_pos (by omega), hi, show i + 1 - i = 1 by omega, xS_s, xS_0]
    simp only [Nat.add_zero]
    have := xlen_top hi
    intro q; apply this; grind
/-- the first d passes of moveByOne -/
def xpas (L : Nat) : Nat → xP → xP
  | 0, f => f
  | d + 1, f => xsuf (xpas L d f) L d
theorem xpas_sup {f : xP} {n : Nat} (h : xsup f n) (L d : Nat) (hL : L ≤ n) : xsup (xpas L d f) n := by
  induction d with
  | zero => exact h
  | succ d ih => exact xsuf_sup ih hL
theorem xpas_len {f : xP} {n : Nat} (h : xsup f n) (d : Nat) (hd : d ≤ xlen f n - 1) : xlen (xpas (xlen f n) d f) n = xlen f n := by
  induction d with
  | zero => rfl
  | succ d ih =>
    have e := ih (by omega)
    show xlen (xsuf (xpas (xlen f n) d f) (xlen f n) d) n = xlen f n
    have := xsuf_len (xpas_sup h (xlen f n) d (xlen_le f n)) (j := d) (by rw [e]; omega)
    rw [e] at this
    exact this
/-- moveByOne -/
def xmv (n : Nat) (f : xP) : xP := xpas (xlen f n) (xlen f n - 1) f
/-- Horner's scheme -/
def xhor (f : xP) (v : xF) : Nat → xF → xF
  | 0, a => a
  | j + 1, a => xhor f v j (a * v + f j)
/-- division: the rest and the quotient -/
def xdv (g : xP) (b : Nat) (iv : xF) : Nat → xP → xP → xP × xP
  | 0, f, z => (f, z)
  | k + 1, f, z => xdv g b iv k (xgat f (xO (32003 - (f (k + b) * iv).val)) g k) (va_up z k (f (k + b) * iv))
theorem xdv_0 (g : xP) (b : Nat) (iv : xF) (f z : xP) : xdv g b iv 0 f z = (f, z) := rfl
theorem xdv_s (g : xP) (b : Nat) (iv : xF) (k : Nat) (f z : xP) : xdv g b iv (k + 1) f z = xdv g b iv k (xgat f (xO (32003 - (f (k + b) * iv).val)) g k) (va_up z k (f (k + b) * iv)) := rfl
