/-! ===== the reference's elimination: a table of 64 rows and 10 columns ===== -/
abbrev xMt : Type := Nat → Nat → xF
def xfl (M : xMt) : xP := fun q => if q < 640 then M (q / 10) (q % 10) else 0
theorem xfl_sup (M : xMt) : xsup (xfl M) 640 := fun q hq => by unfold xfl; rw [if_neg (by omega)]
theorem xfl_at (M : xMt) {n c : Nat} (hn : n < 64) (hc : c < 10) : xfl M (10 * n + c) = M n c := by
  unfold xfl; rw [if_pos (by omega), show (10 * n + c) / 10 = n by omega, show (10 * n + c) % 10 = c by omega]
theorem xfl_congr {M M' : xMt} (h : ∀ n c, n < 64 → c < 10 → M n c = M' n c) : xfl M = xfl M' := by
  funext q; unfold xfl
  by_cases hq : q < 640
  · rw [if_pos hq, if_pos hq]; exact h _ _ (by omega) (by omega)
  · rw [if_neg hq, if_neg hq]
theorem xfl_of {T : xP} (h : xsup T 640) : T = xfl (fun n c => T (10 * n + c)) := by
  funext q; unfold xfl
  by_cases hq : q < 640
  · rw [if_pos hq]; congr 1; omega
  · rw [if_neg hq, h q (by omega)]
def xmu (M : xMt) (n c : Nat) (v : xF) : xMt := fun n' c' => if n' = n ∧ c' = c then v else M n' c'
theorem xmu_fl (M : xMt) {n c : Nat} (v : xF) (hn : n < 64) (hc : c < 10) : va_up (xfl M) (10 * n + c) v = xfl (xmu M n c v) := by
  funext q
  by_cases hq : q = 10 * n + c
  · subst hq; rw [va_up_self, xfl_at _ hn hc]; unfold xmu; rw [if_pos ⟨rfl, rfl⟩]
  · rw [va_up_ne _ _ hq]; unfold xfl xmu
    by_cases h2 : q < 640
    · rw [if_pos h2, if_pos h2, if_neg (by omega)]
    · rw [if_neg h2, if_neg h2]
/-- rows a and r exchanged in the first i columns -/
def xsw (M : xMt) (a r i : Nat) : xMt := fun n c => if c < i then M (if n = r then a else if n = a then r else n) c else M n c
theorem xsw_0 (M : xMt) (a r : Nat) : xsw M a r 0 = M := by funext n c; unfold xsw; rw [if_neg (by omega)]
theorem xsw_s (M : xMt) (a r i : Nat) : xmu (xmu (xsw M a r i) a i (M r i)) r i (M a i) = xsw M a r (i + 1) := by
  funext n c
  unfold xmu xsw
  by_cases hc : c = i
  · subst hc
    rw [if_pos (show c < c + 1 by omega)]
    by_cases hr : n = r
    · rw [if_pos ⟨hr, rfl⟩, if_pos hr]
    · rw [if_neg (fun q => hr q.1), if_neg hr]
      by_cases ha : n = a
      · rw [if_pos ⟨ha, rfl⟩, if_pos ha]
      · rw [if_neg (fun q => ha q.1), if_neg ha, if_neg (by omega)]
  · rw [if_neg (fun q => hc q.2), if_neg (fun q => hc q.2)]
    by_cases h : c < i
    · rw [if_pos h, if_pos (show c < i + 1 by omega)]
    · rw [if_neg h, if_neg (show ¬ c < i + 1 by omega)]
/-- row r times v in the first i columns -/
def xscM (M : xMt) (r : Nat) (v : xF) (i : Nat) : xMt := fun n c => if n = r ∧ c < i then M r c * v else M n c
theorem xscM_0 (M : xMt) (r : Nat) (v : xF) : xscM M r v 0 = M := by funext n c; unfold xscM; rw [if_neg (by omega)]
theorem xscM_s (M : xMt) (r : Nat) (v : xF) (i : Nat) : xmu (xscM M r v i) r i (M r i * v) = xscM M r v (i + 1) := by
  funext n c
  unfold xmu xscM
  by_cases h : n = r ∧ c = i
  · rw [if_pos h, if_pos ⟨h.1, by omega⟩, h.2]
  · rw [if_neg h]
    by_cases h2 : n = r ∧ c < i
    · rw [if_pos h2, if_pos ⟨h2.1, by omega⟩]
    · rw [if_neg h2, if_neg (by omega)]
/-- column K cleared in the rows below m, but for row r; row m in the first i columns -/
def xcm (M : xMt) (r K m i : Nat) : xMt := fun n c => if n ≠ r ∧ (n < m ∨ (n = m ∧ c < i)) then M n c - M n K * M r c else M n c
theorem xcm_0 (M : xMt) (r K : Nat) : xcm M r K 0 0 = M := by funext n c; unfold xcm; rw [if_neg (by omega)]
theorem xcm_s {M : xMt} {r K m i : Nat} (hm : m ≠ r) : xmu (xcm M r K m i) m i (M m i - M m K * M r i) = xcm M r K m (i + 1) := by
  funext n c
  unfold xmu xcm
  by_cases h : n = m ∧ c = i
  · obtain ⟨rfl, rfl⟩ := h
    rw [if_pos ⟨rfl, rfl⟩, if_pos ⟨hm, Or.inr ⟨rfl, by omega⟩⟩]
  · rw [if_neg h]
    by_cases h2 : n ≠ r ∧ (n < m ∨ (n = m ∧ c < i))
    · rw [if_pos h2, if_pos ⟨h2.1, by omega⟩]
    · rw [if_neg h2, if_neg (by omega)]
theorem xcm_e (M : xMt) (r K m : Nat) : xfl (xcm M r K m 10) = xfl (xcm M r K (m + 1) 0) := xfl_congr (fun n c _ hc => by
  unfold xcm
  by_cases h2 : n ≠ r ∧ (n < m ∨ (n = m ∧ c < 10))
  · rw [if_pos h2, if_pos ⟨h2.1, by omega⟩]
  · rw [if_neg h2, if_neg (by omega)])
theorem xcm_r (M : xMt) (r K : Nat) : xcm M r K r 0 = xcm M r K (r + 1) 0 := by
  funext n c; unfold xcm
  by_cases h2 : n ≠ r ∧ (n < r ∨ (n = r ∧ c < 0))
  · rw [if_pos h2, if_pos ⟨h2.1, by omega⟩]
  · rw [if_neg h2, if_neg (by omega)]
theorem xcm_z {M : xMt} {r K m : Nat} (h : M m K = 0) : xcm M r K m 0 = xcm M r K (m + 1) 0 := by
  funext n c; unfold xcm
  by_cases h2 : n ≠ r ∧ (n < m ∨ (n = m ∧ c < 0))
  · rw [if_pos h2, if_pos ⟨h2.1, by omega⟩]
  · rw [if_neg h2]
    by_cases h3 : n ≠ r ∧ (n < m + 1 ∨ (n = m + 1 ∧ c < 0))
    · rw [if_pos h3, show n = m by omega, h]; grind
    · rw [if_neg h3]
theorem xcm_r1 (M : xMt) (r K m i c : Nat) : xcm M r K m i r c = M r c := by unfold xcm; rw [if_neg (fun q => q.1 rfl)]
theorem xcm_at {M : xMt} {r K m i c : Nat} (hc : i ≤ c) : xcm M r K m i m c = M m c := by unfold xcm; rw [if_neg (by omega)]
/-- how many of the first k columns have a row -/
def xrk (ro : Nat → Option Nat) : Nat → Nat
  | 0 => 0
  | k + 1 => xrk ro k + (if ro k = none then 0 else 1)
theorem xrk_s (ro : Nat → Option Nat) (k : Nat) : xrk ro (k + 1) = xrk ro k + (if ro k = none then 0 else 1) := rfl
theorem xrk_le (ro : Nat → Option Nat) (k : Nat) : xrk ro k ≤ k := by
  induction k with
  | zero => exact Nat.le_refl _
  | succ k ih => rw [xrk_s]; split <;> omega
theorem xrk_mono (ro : Nat → Option Nat) {j k : Nat} (h : j ≤ k) : xrk ro j ≤ xrk ro k := by
  induction k with
  | zero => rw [show j = 0 by omega]; exact Nat.le_refl _
  | succ k ih =>
    by_cases hjk : j = k + 1
    · rw [hjk]; exact Nat.le_refl _
    · rw [xrk_s]; have := ih (by omega); omega
theorem xrk_up (ro : Nat → Option Nat) {K k : Nat} (v : Option Nat) (h : k ≤ K) : xrk (va_up ro K v) k = xrk ro k := by
  induction k with
  | zero => rfl
  | succ k ih => rw [xrk_s, xrk_s, ih (by omega), va_up_ne _ _ (by omega)]
theorem xnn_up (ro : Nat → Option Nat) {K k : Nat} (v : Option Nat) (h : k ≤ K) : xnn (va_up ro K v) k = xnn ro k := by
  induction k with
  | zero => rfl
  | succ k ih => rw [xnn_s, xnn_s, ih (by omega), va_up_ne _ _ (by omega)]
/-- the same null vectors -/
def xNl (M : xMt) (Y : Nat → xF) : Prop := ∀ n, n < 64 → xS 10 (fun c => Y c * M n c) = 0
/-- K columns are done -/
def xRd (M0 M : xMt) (K : Nat) (ro : Nat → Option Nat) : Prop :=
  (∀ Y, xNl M Y ↔ xNl M0 Y) ∧ (∀ k e, k < K → ro k = some e → e = xrk ro k ∧ ∀ n, n < 64 → M n k = if n = e then 1 else 0) ∧ ∀ k, k < K → ro k = none → ∀ n, n < 64 → xrk ro k ≤ n → M n k = 0
theorem xRd_0 (M : xMt) (ro : Nat → Option Nat) : xRd M M 0 ro := ⟨fun _ => Iff.rfl, fun k e hk => absurd hk (by omega), fun k hk => absurd hk (by omega)⟩
theorem xRd_free {M0 M : xMt} {K : Nat} {ro : Nat → Option Nat} (h : xRd M0 M K ro) (hz : ∀ n, xrk ro K ≤ n → n < 64 → M n K = 0) : xRd M0 M (K + 1) (va_up ro K none) := by
  refine ⟨h.1, fun k e hk he => ?_, fun k hk he n hn hrn => ?_⟩
  · by_cases hkK : k = K
    · subst hkK; rw [va_up_self] at he; cases he
    · rw [va_up_ne _ _ hkK] at he; rw [xrk_up _ _ (by omega)]; exact h.2.1 k e (by omega) he
  · rw [xrk_up _ _ (by omega)] at hrn
    by_cases hkK : k = K
    · subst hkK; exact hz n hrn hn
    · rw [va_up_ne _ _ hkK] at he; exact h.2.2 k (by omega) he n hn hrn
/-- the three steps at a pivot -/
def xpv (M : xMt) (a r K : Nat) : xMt := xcm (xscM (xsw M a r 10) r (xinv (M a K)) 10) r K 64 0
theorem xpv_sw (M : xMt) {a r n c : Nat} (hc : c < 10) : xsw M a r 10 n c = M (if n = r then a else if n = a then r else n) c := by unfold xsw; rw [if_pos hc]
theorem xpv_r {M : xMt} {a r K c : Nat} (hc : c < 10) : xpv M a r K r c = M a c * xinv (M a K) := by
  unfold xpv; rw [xcm_r1]; unfold xscM; rw [if_pos ⟨rfl, hc⟩, xpv_sw M hc, if_pos rfl]
theorem xpv_n {M : xMt} {a r K n c : Nat} (hc : c < 10) (hK : K < 10) (hn : n < 64) (hr : n ≠ r) : xpv M a r K n c = M (if n = a then r else n) c - M (if n = a then r else n) K * (M a c * xinv (M a K)) := by
  unfold xpv xcm
  rw [if_pos ⟨hr, Or.inl hn⟩]
  unfold xscM
  rw [if_neg (fun q => hr q.1), if_neg (fun q => hr q.1), if_pos ⟨rfl, hc⟩, xpv_sw M hc, xpv_sw M hK, xpv_sw M hc, if_neg hr, if_pos rfl]
theorem xNl_row {M : xMt} (Y : Nat → xF) (n : Nat) (f : xMt) (v : xF) (h : ∀ c, c < 10 → f n c = M n c * v) : xS 10 (fun c => Y c * f n c) = v * xS 10 (fun c => Y c * M n c) := by
  rw [← xS_mul]; exact xS_congr (fun c hc => by rw [h c hc]; grind)
theorem xpv_null {M : xMt} {a r K : Nat} (ha : a < 64) (hr : r < 64) (hK : K < 10) (hne : M a K ≠ 0) (Y : Nat → xF) : xNl (xpv M a r K) Y ↔ xNl M Y := by
  have er : xS 10 (fun c => Y c * xpv M a r K r c) = xinv (M a K) * xS 10 (fun c => Y c * M a c) := by
    rw [← xS_mul]; exact xS_congr (fun c hc => by rw [xpv_r hc]; grind)
  have en : ∀ n, n < 64 → n ≠ r → xS 10 (fun c => Y c * xpv M a r K n c) = xS 10 (fun c => Y c * M (if n = a then r else n) c) - M (if n = a then r else n) K * (xinv (M a K) * xS 10 (fun c => Y c * M a c)) := fun n hn hnr => by
    rw [← xS_mul, ← xS_mul, ← xS_sub]; exact xS_congr (fun c hc => by rw [xpv_n hc hK hn hnr]; grind)
  have hinv := xinv_mul hne
  constructor
  · intro h
    have ha0 : xS 10 (fun c => Y c * M a c) = 0 := by
      have := h r hr
      rw [er] at this
      have h2 : M a K * (xinv (M a K) * xS 10 (fun c => Y c * M a c)) = 0 := by rw [this]; grind
      grind
    have hn0 : ∀ n, n < 64 → n ≠ r → xS 10 (fun c => Y c * M (if n = a then r else n) c) = 0 := fun n hn hnr => by
      have := h n hn
      rw [en n hn hnr, ha0] at this
      grind
    intro n hn
    by_cases h1 : n = a
    · rw [h1]; exact ha0
    · by_cases h2 : n = r
      · have := hn0 a ha (fun q => h1 (h2.trans q.symm))
        rw [if_pos rfl] at this
        rw [h2]; exact this
      · have := hn0 n hn h2
        rw [if_neg h1] at this
        exact this
  · intro h n hn
    by_cases h2 : n = r
    · rw [h2, er, h a ha]; grind
    · rw [en n hn h2, h a ha]
      by_cases h1 : n = a
      · rw [if_pos h1, h r hr]; grind
      · rw [if_neg h1, h n hn]; grind
theorem xRd_piv {M0 M : xMt} {K a : Nat} {ro : Nat → Option Nat} (hK : K < 9) (h : xRd M0 M K ro) (ha : xrk ro K ≤ a) (ha2 : a < 64) (hne : M a K ≠ 0) : xRd M0 (xpv M a (xrk ro K) K) (K + 1) (va_up ro K (some (xrk ro K))) := by
  have hr : xrk ro K < 64 := by omega
  have hinv := xinv_mul hne
  refine ⟨fun Y => (xpv_null ha2 hr (by omega) hne Y).trans (h.1 Y), fun k e hk he => ?_, fun k hk he n hn hrn => ?_⟩
  · rw [xrk_up _ _ (by omega)]
    by_cases hkK : k = K
    · subst hkK
      rw [va_up_self] at he
      have he := (Option.some.inj he).symm
      refine ⟨he, fun n hn => ?_⟩
      rw [he]
      by_cases hnr : n = xrk ro k
      · rw [if_pos hnr, hnr, xpv_r (by omega)]; exact hinv
      · rw [if_neg hnr, xpv_n (by omega) (by omega) hn hnr]; grind
    · rw [va_up_ne _ _ hkK] at he
      obtain ⟨h1, h2⟩ := h.2.1 k e (by omega) he
      refine ⟨h1, fun n hn => ?_⟩
      have her : e < xrk ro K := by
        have := xrk_mono ro (show k + 1 ≤ K by omega)
        rw [xrk_s, he, if_neg (by simp)] at this
        omega
      have hak : M a k = 0 := by rw [h2 a ha2, if_neg (by omega)]
      have hrk : M (xrk ro K) k = 0 := by rw [h2 _ hr, if_neg (by omega)]
      by_cases hnr : n = xrk ro K
      · rw [hnr, xpv_r (by omega), hak, if_neg (by omega)]; grind
      · rw [xpv_n (by omega) (by omega) hn hnr, hak]
        by_cases hna : n = a
        · rw [if_pos hna, hrk, if_neg (by omega)]; grind
        · rw [if_neg hna, h2 n hn]; grind
  · rw [xrk_up _ _ (by omega)] at hrn
    by_cases hkK : k = K
    · subst hkK; rw [va_up_self] at he; cases he
    · rw [va_up_ne _ _ hkK] at he
      have h2 := h.2.2 k (by omega) he
      have hkr := xrk_mono ro (show k ≤ K by omega)
      have hak : M a k = 0 := h2 a ha2 (by omega)
      have hrk : M (xrk ro K) k = 0 := h2 _ hr (by omega)
      by_cases hnr : n = xrk ro K
      · rw [hnr, xpv_r (by omega), hak]; grind
      · rw [xpv_n (by omega) (by omega) hn hnr, hak]
        by_cases hna : n = a
        · rw [if_pos hna, hrk]; grind
        · rw [if_neg hna, h2 n hn hrn]; grind
/-- the columns and the target of a table -/
def xMc (M : xMt) : Nat → xP := fun k i => M i k
theorem xMc_null {M : xMt} {n : Nat} (hn : n ≤ 9) (Y : xP) (v : xF) : xNl M (fun c => if c < n then Y c else if c = 9 then v else 0) ↔ ∀ i, i < 64 → xS n (fun k => Y k * xMc M k i) + v * M i 9 = 0 := by
  have e : ∀ i, xS 10 (fun c => (if c < n then Y c else if c = 9 then v else 0) * M i c) = xS n (fun k => Y k * xMc M k i) + v * M i 9 := fun i => by
    rw [xS_s, if_neg (by omega), if_pos rfl]
    rw [xS_ext (n := n) hn (fun c h1 h2 => by rw [if_neg (by omega), if_neg (by omega)]; grind)]
    congr 1
    exact xS_congr (fun c hc => by rw [if_pos hc]; rfl)
  constructor
  · intro h i hi; rw [← e i]; exact h i hi
  · intro h i hi; rw [e i]; exact h i hi
theorem xRd_sol {M0 M : xMt} {K : Nat} {ro : Nat → Option Nat} (h : xRd M0 M K ro) {n : Nat} (hn : n ≤ 9) (Y : xP) : xSol (xMc M) (fun i => M i 9) n Y ↔ xSol (xMc M0) (fun i => M0 i 9) n Y := by
  have e : ∀ X : xMt, xSol (xMc X) (fun i => X i 9) n Y ↔ xNl X (fun c => if c < n then Y c else if c = 9 then -1 else 0) := fun X => by
    rw [xMc_null hn]
    constructor
    · intro q i hi; have := q i hi; dsimp only at this; grind
    · intro q i hi; have := q i hi; dsimp only; grind
  rw [e M, e M0]; exact h.1 _
/-- a row's entries at the done columns, at or below their rank -/
theorem xRd_zero {M0 M : xMt} {K : Nat} {ro : Nat → Option Nat} (h : xRd M0 M K ro) {n k : Nat} (hn : n < 64) (hk : k < K) (hr : xrk ro (k + 1) ≤ n) : M n k = 0 := by
  cases hro : ro k with
  | none => rw [xrk_s, hro, if_pos rfl] at hr; exact h.2.2 k hk hro n hn (by omega)
  | some e =>
    obtain ⟨h1, h2⟩ := h.2.1 k e hk hro
    rw [xrk_s, hro, if_neg (by simp)] at hr
    rw [h2 n hn, if_neg (by omega)]
/-- each row below the rank belongs to one column -/
theorem xrk_at {ro : Nat → Option Nat} : ∀ {K n : Nat}, n < xrk ro K → ∃ k, k < K ∧ ro k ≠ none ∧ xrk ro k = n := by
  intro K
  induction K with
  | zero => intro n hn; exact absurd hn (by show ¬ n < 0; omega)
  | succ K ih =>
    intro n hn
    by_cases h : n < xrk ro K
    · obtain ⟨k, h1, h2⟩ := ih h; exact ⟨k, by omega, h2⟩
    · rw [xrk_s] at hn
      by_cases hro : ro K = none
      · rw [if_pos hro] at hn; omega
      · rw [if_neg hro] at hn; exact ⟨K, by omega, hro, by omega⟩
theorem xRd_comb {M0 M : xMt} {K : Nat} {ro : Nat → Option Nat} (h : xRd M0 M K ro) (hK : K ≤ 9) (X : Nat → xF) {Y : xP} (hY : ∀ k, k < K → Y k = match ro k with | some e => X e | none => 0) {n : Nat} (hn : n < 64) : xS K (fun k => Y k * M n k) = if n < xrk ro K then X n else 0 := by
  by_cases hr : n < xrk ro K
  · rw [if_pos hr]
    obtain ⟨k, h1, h2, h3⟩ := xrk_at hr
    rw [xS_one (k := k) h1 (fun j hj hjk => ?_)]
    · cases hro : ro k with
      | none => exact absurd hro h2
      | some e =>
        obtain ⟨g1, g2⟩ := h.2.1 k e h1 hro
        rw [hY k h1, hro, g2 n hn, if_pos (by omega)]
        show X e * 1 = X n
        rw [show e = n by omega]; grind
    · cases hro : ro j with
      | none => rw [hY j hj, hro]; show (0 : xF) * _ = 0; grind
      | some e =>
        obtain ⟨g1, g2⟩ := h.2.1 j e hj hro
        rw [g2 n hn, if_neg (fun q => ?_)]
        · grind
        · have hk1 := xrk_s ro k
          rw [if_neg h2] at hk1
          have hj1 := xrk_s ro j
          rw [hro, if_neg (by simp)] at hj1
          rcases Nat.lt_or_gt_of_ne hjk with q1 | q1
          · have := xrk_mono ro (show j + 1 ≤ k by omega); omega
          · have := xrk_mono ro (show k + 1 ≤ j by omega); omega
  · rw [if_neg hr]
    refine xS_zero (fun k hk => ?_)
    have := xrk_mono ro (show k + 1 ≤ K by omega)
    rw [xRd_zero h hn hk (by omega)]; grind
theorem xRd_dep {M0 M : xMt} {K : Nat} {ro : Nat → Option Nat} (h : xRd M0 M K ro) (hK : K ≤ 9) {k : Nat} (hk : k < K) : ro k = none ↔ xDep (xMc M0) k := by
  have hrd : xRd M0 M k ro := ⟨h.1, fun j e hj he => h.2.1 j e (by omega) he, fun j hj he => h.2.2 j (by omega) he⟩
  have hnull : ∀ (al : Nat → xF), xNl M (fun c => if c < k then al c else if c = k then -1 else 0) ↔ ∀ i, i < 64 → xMc M k i = xS k (fun j => al j * xMc M j i) := fun al => by
    have e : ∀ i, xS 10 (fun c => (if c < k then al c else if c = k then -1 else 0) * M i c) = xS k (fun j => al j * xMc M j i) - M i k := fun i => by
      rw [xS_ext (n := k + 1) (by omega) (fun c h1 h2 => by rw [if_neg (by omega), if_neg (by omega)]; grind), xS_s, if_neg (by omega), if_pos rfl]
      rw [xS_congr (n := k) (g := fun j => al j * xMc M j i) (fun c hc => by rw [if_pos hc]; rfl)]
      grind
    constructor
    · intro q i hi; have := q i hi; rw [e i] at this; show M i k = _; grind
    · intro q i hi; rw [e i]; have := q i hi; have h2 : xMc M k i = M i k := rfl; grind
  have hnull0 : ∀ (al : Nat → xF), xNl M0 (fun c => if c < k then al c else if c = k then -1 else 0) ↔ ∀ i, i < 64 → xMc M0 k i = xS k (fun j => al j * xMc M0 j i) := fun al => by
    have e : ∀ i, xS 10 (fun c => (if c < k then al c else if c = k then -1 else 0) * M0 i c) = xS k (fun j => al j * xMc M0 j i) - M0 i k := fun i => by
      rw [xS_ext (n := k + 1) (by omega) (fun c h1 h2 => by rw [if_neg (by omega), if_neg (by omega)]; grind), xS_s, if_neg (by omega), if_pos rfl]
      rw [xS_congr (n := k) (g := fun j => al j * xMc M0 j i) (fun c hc => by rw [if_pos hc]; rfl)]
      grind
    constructor
    · intro q i hi; have := q i hi; rw [e i] at this; show M0 i k = _; grind
    · intro q i hi; rw [e i]; have := q i hi; have h2 : xMc M0 k i = M0 i k := rfl; grind
  constructor
  · intro hro
    refine ⟨fun j => match ro j with | some e => M e k | none => 0, (hnull0 _).mp ((h.1 _).mp ((hnull _).mpr (fun i hi => ?_)))⟩
    have := xRd_comb hrd (by omega) (fun e => M e k) (Y := fun j => match ro j with | some e => M e k | none => 0) (fun _ _ => rfl) hi
    have e2 : xS k (fun j => (match ro j with | some e => M e k | none => 0) * xMc M j i) = xS k (fun j => (fun j => match ro j with | some e => M e k | none => 0) j * M i j) := rfl
    rw [e2, this]
    show M i k = _
    by_cases hr : i < xrk ro k
    · rw [if_pos hr]
    · rw [if_neg hr]; exact h.2.2 k hk hro i hi (by omega)
  · intro hd
    cases hro : ro k with
    | none => rfl
    | some e =>
      exfalso
      obtain ⟨al, hal⟩ := hd
      have := (hnull al).mp ((h.1 _).mpr ((hnull0 al).mpr hal))
      obtain ⟨g1, g2⟩ := h.2.1 k e hk hro
      have he : e < 64 := by have := xrk_le ro k; omega
      have h1 := this e he
      have h2 : xMc M k e = 1 := by show M e k = 1; rw [g2 e he, if_pos rfl]
      rw [h2, xS_zero (fun j hj => ?_)] at h1
      · exact x_one_nz h1
      · have := xrk_mono ro (show j + 1 ≤ k by omega)
        show al j * M e j = 0
        rw [xRd_zero hrd he hj (by omega)]; grind
/-- whether there is a solution, and the plain one -/
theorem xRd_no {M0 M : xMt} {K : Nat} {ro : Nat → Option Nat} (h : xRd M0 M K ro) (hK : K ≤ 9) {n : Nat} (hn : n < 64) (hr : xrk ro K ≤ n) (hne : M n 9 ≠ 0) (Y : xP) : ¬ xSol (xMc M0) (fun i => M0 i 9) K Y := by
  intro hs
  have := (xRd_sol h hK Y).mpr hs n hn
  dsimp only at this
  rw [xS_zero (fun k hk => ?_)] at this
  · exact hne this.symm
  · have := xrk_mono ro (show k + 1 ≤ K by omega)
    show Y k * M n k = 0
    rw [xRd_zero h hn hk (by omega)]; grind
theorem xRd_yes {M0 M : xMt} {K : Nat} {ro : Nat → Option Nat} (h : xRd M0 M K ro) (hK : K ≤ 9) (hz : ∀ n, n < 64 → xrk ro K ≤ n → M n 9 = 0) {Y : xP} (hY : ∀ k, k < K → Y k = match ro k with | some e => M e 9 | none => 0) (hs : xsup Y K) : xPln (xMc M0) (fun i => M0 i 9) K Y := by
  refine ⟨(xRd_sol h hK Y).mp (fun i hi => ?_), fun k hk hd => ?_, hs⟩
  · have e2 : xS K (fun k => Y k * xMc M k i) = xS K (fun k => Y k * M i k) := rfl
    rw [e2, xRd_comb h hK (fun e => M e 9) hY hi]
    dsimp only
    by_cases hr : i < xrk ro K
    · rw [if_pos hr]
    · rw [if_neg hr, hz i hi (by omega)]
  · rw [hY k hk, (xRd_dep h hK hk).mpr hd]
